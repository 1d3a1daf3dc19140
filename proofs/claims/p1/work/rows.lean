section
/-! ===== rows of references to rows (new T[n][m]): the word is kept ===== -/
def va_AOA (ty : FieldType) (U : State) : Prop := (Cond.arrayOver (.array ty)).before #[] U = true
theorem va_AOA.of {ty : FieldType} {A : Array Value} {U : State} (h : (Cond.arrayOver (.array ty)).before A U = true) : va_AOA ty U := h
theorem va_AOA.use {ty : FieldType} {A : Array Value} {U : State} (h : va_AOA ty U) : (Cond.arrayOver (.array ty)).before A U = true := h
theorem vb_idx_bare (vm : Vm) (comp : ClassId) : (vm.bare.classes.findIdx? fun (x : Class) => match x.kind with | .array component _ => component == comp | _ => false) = (vm.classes.findIdx? fun (x : Class) => match x.kind with | .array component _ => component == comp | _ => false) := va_idx_bare vm comp
theorem va_AOA.moved {ty : FieldType} {u U : State} (hvm : u.vm.Alike U.vm) (h : va_AOA ty u) : va_AOA ty U := by
  obtain ⟨comp, c, k, h1, h2, h3, h4, h5⟩ := Jvm.Stand.arrayOver_specB h
  obtain ⟨k', hk', he⟩ := hvm.2.2 _ _ h3
  have hi : (U.vm.classes.findIdx? fun (x : Class) => match x.kind with | .array component _ => component == comp | _ => false) = some c := by
    rw [← vb_idx_bare]
    first | rw [hvm.bare_eq] | rw [← hvm.bare_eq]
    rw [vb_idx_bare]
    exact h2
  have hkind : k'.kind = .array comp (.array ty) := by rw [he]; exact h4
  have f1 : U.vm.findClass (FieldType.array ty).toString = some comp := by rw [hvm.findClass]; exact h1
  have f2 : U.vm.findClass ("[" ++ (FieldType.array ty).toString) = some c := by rw [hvm.findClass]; exact h5
  unfold va_AOA Cond.before Cond.holds
  simp only [Cond.value]
  rw [f1, Option.bind_some]
  refine (congrArg (fun o : Option Nat => (o.bind (fun c => (U.vm.classes[c]?).map fun (k : Class) => match k.kind with | .array _ ty' => decide (ty' = FieldType.array ty) && decide (U.vm.findClass ("[" ++ (FieldType.array ty).toString) = some c) | _ => false) == some true)) hi).trans ?_
  simp [hk', hkind, f2]
/-! ===== BEGIN new T[n][m]: the outer array a place, the inner ones among the pooled ===== -/
/-- f, but v at every address of l -/
def vr_up {α : Type} (f : Nat → α) (l : List Nat) (v : α) : Nat → α := fun a => if a ∈ l then v else f a
theorem vr_up_in {α : Type} {f : Nat → α} {l : List Nat} {v : α} {a : Nat} (h : a ∈ l) : vr_up f l v a = v := if_pos h
theorem vr_up_ne {α : Type} {f : Nat → α} {l : List Nat} {v : α} {a : Nat} (h : a ∉ l) : vr_up f l v a = f a := if_neg h
theorem vr_rows {L l : List Nat} {f : Nat → va_E} {e : va_E} (h : ∀ a, a ∈ l → a ∉ L) : va_pl L f ++ l.map (fun a => (a, e)) = va_pl (L ++ l) (vr_up f l e) := by
  unfold va_pl
  rw [List.map_append]
  congr 1
  · apply List.map_congr_left
    intro a ha
    rw [vr_up_ne (fun q => h a q ha)]
  · apply List.map_congr_left
    intro a ha
    rw [vr_up_in ha]
theorem vr_lay {X rows : va_W} {x : Nat × va_E} {pl : va_W} {D : va_G} {cl : List vw_C} {H : Heap} (hP : va_P D cl (((X ++ pl) ++ [x]) ++ rows) H) : va_P D cl ((X ++ [x]) ++ (pl ++ rows)) H := by
  rw [List.append_assoc (X ++ pl)] at hP
  have h := va_P.swap hP
  rw [← List.append_assoc X] at h
  have h2 := va_P.swap h
  rw [List.append_assoc (X ++ [x])] at h2
  exact h2
theorem vr_layD {X rows : va_W} {x : Nat × va_E} {pl : va_W} {A : Nat → Prop} (hD : va_D A (((X ++ pl) ++ [x]) ++ rows)) : va_D A ((X ++ [x]) ++ (pl ++ rows)) := by
  rw [List.append_assoc (X ++ pl)] at hD
  have h := va_D.swap hD
  rw [← List.append_assoc X] at h
  have h2 := va_D.swap h
  rw [List.append_assoc (X ++ [x])] at h2
  exact h2
theorem vr_outer (c : ClassId) (N h0 : Nat) : ∀ i : Nat, Jvm.Free.Multi.outerC c N h0 i = arrV c N (fun j => va_rf (if j < i then some (h0 + 1 + j) else none))
  | 0 => by
    show ({ cls := c, slots := Array.replicate N .null, vm := .none } : Cell) = _
    rw [arrV_new]
    refine congrArg (arrV c N) (funext fun j => ?_)
    simp [va_rf]
  | i + 1 => by
    show (Jvm.Free.Multi.outerC c N h0 i).setSlot i (.ref (h0 + 1 + i)) = _
    rw [vr_outer c N h0 i, arrV_store]
    refine congrArg (arrV c N) (funext fun j => ?_)
    by_cases e : j = i
    · subst e
      simp [updV, va_rf]
    · by_cases h : j < i
      · simp [updV, e, h, Nat.lt_succ_of_lt h]
      · simp [updV, e, h, show ¬ j < i + 1 by omega]
section VGM
variable {p : Program} {l : Launch} {e : Env} {R : Room} {s : State} {m : MethodId} {args : Array Value} {below : List Frame} {meth : Method} {c : Code} {H : Heap} {locs : List Loc} {cells slots : Nat} {Q : State → Prop}
variable {cc : ByteArray} {pc : Nat} {ls : Array Slot} {rest : List Value} {D : va_G} {cl : List vw_C} {A : Nat → Prop} {a : Nat} {tys : List (ClassId × FieldType)} {ws : va_W} {H0 : Heap}
theorem va_mna {X : va_W} {L : List Nat} {f : Nat → va_E} {cc : ByteArray} (hexec : p.tables.exec = Jvm.exec) (hb : c.code = cc) {own : String} {index : Nat} {ty : FieldType} {cy : ClassId} (hown : s.vm.findClass own = some m.cls) (hclink : (Cond.classLink own index ("[" ++ (FieldType.array ty).toString)).before args s = true) (hover : va_AOA ty s) (harr : (Cond.arrayClass ty).before args s = true) (hcy : s.vm.findClass (FieldType.array ty).toString = some cy)
    (hK : va_K D cl tys s) (hP : va_P D cl (X ++ va_pl L f) H) (hD : va_D A (X ++ va_pl L f)) (hS : va_S A H0 H locs) (hA : ∀ q, H0.size ≤ q → A q) {n k : Int32} {N' K' : Nat} {z : vp_A} (hn : ¬ n < 0) (hk : ¬ k < 0) (hN : n.toNatClampNeg = N') (hM : k.toNatClampNeg = K')
    (hb1 : N' * 4 ≤ 536870912) (hb2 : K' * componentBytes ty ≤ 536870912) (hb3 : K' ≤ 536870912) (hdf : fits ty (defaultValue ty) = true) (hdd : (defaultValue ty).isDefault = true) (hcells : cells + (1 + N') ≤ R.cells) (hslots : slots + (N' + N' * K') ≤ R.slots) (hz : ∀ c : ClassId, Jvm.Free.Multi.innerC c K' (defaultValue ty) = vp_cell c z) (hdg : decode cc pc = .ok (.multianewarray index 2, 4))
    (kk : ∀ (q : Nat) (r : Nat → Nat) (cA : ClassId) (H1 : Heap), (∀ i j : Nat, i < N' → j < N' → r i = r j → i = j) → (∀ i : Nat, i < N' → r i ∉ L) → va_K D cl (tys ++ [(cA, .array ty)]) s →
      va_P D cl ((X ++ [(q, .inl (cA, N', .inr (.inr (.inr (.inr (fun i => if i < N' then some (r i) else none))))))]) ++ va_pl (L ++ (List.range N').map r) (vr_up f ((List.range N').map r) (.inl (cy, z)))) H1 → va_D A ((X ++ [(q, .inl (cA, N', .inr (.inr (.inr (.inr (fun i => if i < N' then some (r i) else none))))))]) ++ va_pl (L ++ (List.range N').map r) (vr_up f ((List.range N').map r) (.inl (cy, z)))) → va_S A H0 H1 locs →
      W p l e R s m args below meth c H1 locs (cells + 1 + N') (slots + N' + N' * K') Q (F0 m (pc + 4) ls (.ref q :: rest))) : W p l e R s m args below meth c H locs cells slots Q (F0 m pc ls (.int k :: .int n :: rest)) := by
  subst hN
  subst hM
  intro T hT Xs
  obtain ⟨vm₁, cA, comp, -, fA, fC, hO, -, X', step⟩ := Xs.multianewarray2F hexec hown hclink (va_AOA.use hover) harr (g := F0 m pc ls (.int k :: .int n :: rest)) rfl (by rw [hb]; exact hdg) rfl hn hk hb1 hb2 hb3 hdf hdd hcells hslots
  have ec : some cy = some comp := hcy.symm.trans fC
  cases ec
  generalize hF : Jvm.Free.Multi.fill (T.setVm vm₁) cA cy n.toNatClampNeg k.toNatClampNeg (defaultValue ty) n.toNatClampNeg = F at X' step
  have hTh : (T.setVm vm₁).heap = H := hT
  obtain ⟨f1, f2, -, -⟩ := Jvm.Free.Multi.fill_facts (T.setVm vm₁) cA cy n.toNatClampNeg k.toNatClampNeg (defaultValue ty) n.toNatClampNeg
  rw [hF, hTh] at f1 f2
  have hold : ∀ x : Nat, x < H.size → F.heap[x]? = H[x]? := fun x hx => by
    have := Jvm.Free.Multi.fill_old (T.setVm vm₁) cA cy n.toNatClampNeg k.toNatClampNeg (defaultValue ty) (a := x) (by rw [hTh]; exact hx) n.toNatClampNeg
    rw [hF, hTh] at this
    exact this
  have hrow : ∀ j : Nat, j < n.toNatClampNeg → F.heap[H.size + 1 + j]? = some (vp_cell cy z) := fun j hj => by
    have := Jvm.Free.Multi.fill_inner (T.setVm vm₁) cA cy n.toNatClampNeg k.toNatClampNeg (defaultValue ty) n.toNatClampNeg j hj
    rw [hF, hTh, hz] at this
    exact this
  have hout : Jvm.Free.Multi.outerC cA n.toNatClampNeg H.size n.toNatClampNeg = vp_cell cA (n.toNatClampNeg, .inr (.inr (.inr (.inr (fun i => if i < n.toNatClampNeg then some (H.size + 1 + i) else none))))) := by
    rw [vp_cell_q]
    exact vr_outer cA n.toNatClampNeg H.size n.toNatClampNeg
  rw [hout] at f2
  have hlt : ∀ a, a ∈ L → a < H.size := fun a ha => by
    obtain ⟨k9, hk9⟩ := va_pl_get (X := X) (f := f) ha
    exact (hP k9 _ hk9).lt
  have hnl : ∀ i : Nat, i < n.toNatClampNeg → H.size + 1 + i ∉ L := fun i _ h => by
    have := hlt _ h
    omega
  have hnm : ∀ a, a ∈ (List.range n.toNatClampNeg).map (fun i => H.size + 1 + i) → a ∉ L := fun a ha h => by
    obtain ⟨i, -, rfl⟩ := List.mem_map.mp ha
    have := hlt _ h
    omega
  have hP0 : va_P D cl (X ++ va_pl L f) F.heap := hP.kept (fun k9 x hx => hold x.1 ((hP k9 x hx).lt))
  have hP1 : va_P D cl ((X ++ va_pl L f) ++ [(H.size, .inl (cA, n.toNatClampNeg, .inr (.inr (.inr (.inr (fun i => if i < n.toNatClampNeg then some (H.size + 1 + i) else none))))))]) F.heap := hP0.app (fun k9 x hx => by
    have h0 : k9 < 1 := (List.getElem?_eq_some_iff.mp hx).1
    rw [show k9 = 0 by omega] at hx
    cases hx
    exact f2)
  have hP2 : va_P D cl (((X ++ va_pl L f) ++ [(H.size, .inl (cA, n.toNatClampNeg, .inr (.inr (.inr (.inr (fun i => if i < n.toNatClampNeg then some (H.size + 1 + i) else none))))))]) ++ ((List.range n.toNatClampNeg).map (fun i => H.size + 1 + i)).map (fun a => (a, .inl (cy, z)))) F.heap := hP1.app (fun k9 x hx => by
    obtain ⟨a, ha, rfl⟩ := List.mem_map.mp (List.mem_of_getElem? hx)
    obtain ⟨i, hi, rfl⟩ := List.mem_map.mp ha
    exact hrow i (List.mem_range.mp hi))
  have hD2 : va_D A (((X ++ va_pl L f) ++ [(H.size, .inl (cA, n.toNatClampNeg, .inr (.inr (.inr (.inr (fun i => if i < n.toNatClampNeg then some (H.size + 1 + i) else none))))))]) ++ ((List.range n.toNatClampNeg).map (fun i => H.size + 1 + i)).map (fun a => (a, .inl (cy, z)))) := by
    have hD1 := hD.push (e := .inl (cA, n.toNatClampNeg, .inr (.inr (.inr (.inr (fun i => if i < n.toNatClampNeg then some (H.size + 1 + i) else none)))))) hP rfl (hA _ hS.1)
    generalize hW1 : (X ++ va_pl L f) ++ [(H.size, .inl (cA, n.toNatClampNeg, .inr (.inr (.inr (.inr (fun i => if i < n.toNatClampNeg then some (H.size + 1 + i) else none))))))] = W1 at hD1 hP1 ⊢
    have hle : ∀ (k9 : Nat) (x : Nat × va_E), W1[k9]? = some x → x.1 ≤ H.size := fun k9 x hx => by
      rw [← hW1] at hx
      by_cases hl : k9 < (X ++ va_pl L f).length
      · rw [List.getElem?_append_left hl] at hx
        exact Nat.le_of_lt ((hP k9 x hx).lt)
      · rw [List.getElem?_append_right (by omega)] at hx
        have h0 : k9 - (X ++ va_pl L f).length < 1 := (List.getElem?_eq_some_iff.mp hx).1
        rw [show k9 - (X ++ va_pl L f).length = 0 by omega] at hx
        cases hx
        exact Nat.le_refl _
    have hr : ∀ (k9 : Nat) (x : Nat × va_E), (((List.range n.toNatClampNeg).map (fun i => H.size + 1 + i)).map (fun a => ((a, .inl (cy, z)) : Nat × va_E)))[k9]? = some x → x.1 = H.size + 1 + k9 := fun k9 x hx => by
      rw [List.getElem?_map, List.getElem?_map] at hx
      by_cases h9 : k9 < n.toNatClampNeg
      · rw [List.getElem?_range h9] at hx
        cases hx
        rfl
      · have hn0 : (List.range n.toNatClampNeg)[k9]? = none := List.getElem?_eq_none (by rw [List.length_range]; omega)
        rw [hn0] at hx
        cases hx
    refine ⟨fun i j x y hi hj hxy => ?_, fun k9 x hx => ?_⟩
    · by_cases h1 : i < W1.length <;> by_cases h2 : j < W1.length
      · rw [List.getElem?_append_left h1] at hi
        rw [List.getElem?_append_left h2] at hj
        exact hD1.1 i j x y hi hj hxy
      · rw [List.getElem?_append_left h1] at hi
        rw [List.getElem?_append_right (by omega)] at hj
        have := hle _ _ hi
        have := hr _ _ hj
        omega
      · rw [List.getElem?_append_right (by omega)] at hi
        rw [List.getElem?_append_left h2] at hj
        have := hle _ _ hj
        have := hr _ _ hi
        omega
      · rw [List.getElem?_append_right (by omega)] at hi hj
        have := hr _ _ hi
        have := hr _ _ hj
        omega
    · by_cases h1 : k9 < W1.length
      · rw [List.getElem?_append_left h1] at hx
        exact hD1.2 k9 x hx
      · rw [List.getElem?_append_right (by omega)] at hx
        have := hr _ _ hx
        exact hA _ (by have := hS.1; omega)
  have hAr : ArrOfT s cA (.array ty) := fun N9 z9 => by
    obtain ⟨-, k9, hk9, cm9, hkk9⟩ := (hO 0 0 0).1
    exact ⟨(fun q hq => by cases hq), k9, hk9, cm9, hkk9⟩
  have hK2 : va_K D cl (tys ++ [(cA, .array ty)]) s := ⟨hK.1, fun k9 x hx => by
    by_cases hl : k9 < tys.length
    · rw [List.getElem?_append_left hl] at hx
      exact hK.2 k9 x hx
    · rw [List.getElem?_append_right (by omega)] at hx
      have h0 : k9 - tys.length < 1 := (List.getElem?_eq_some_iff.mp hx).1
      rw [show k9 - tys.length = 0 by omega] at hx
      cases hx
      exact ⟨hAr, fA⟩⟩
  obtain ⟨t, a1, b1⟩ := kk H.size (fun i => H.size + 1 + i) cA F.heap (fun i j _ _ h => by have h9 : H.size + 1 + i = H.size + 1 + j := h; omega) hnl hK2 (by rw [← vr_rows hnm]; exact vr_lay hP2) (by rw [← vr_rows hnm]; exact vr_layD hD2) ⟨by rw [f1]; have := hS.1; omega, fun x h1 h2 => (hold x (Nat.lt_of_lt_of_le h1 hS.1)).trans (hS.2.1 x h1 h2), hS.2.2⟩ F rfl X'
  refine ⟨t, step t ?_, b1⟩
  have e : T.heap.size = H.size := by rw [hT]
  rw [e]
  exact a1
end VGM
/-! ===== END ===== -/
end
section
-- ===== PART A: goes FIRST, ahead of the names: the tables' words, and 'selects' of the private methods out of them =====
/-- a private method of a class that the tables say can be made, by its rows of tables_1 -/
def lw_okq (q : MethodName × Nat) : Prop := (q.1.cls ≠ "java/lang/invoke/MethodHandle" ∧ q.1.cls ≠ "java/lang/invoke/VarHandle") ∧ Cond.instantiable q.1.cls q.2 ∈ tables_1 ∧ Cond.privateMethod q.1 ∈ tables_1 ∧ Cond.instanceMethod q.1 ∈ tables_1
theorem lw_p0 : lw_okq (⟨"GooseIce", "deny", "(I)Z"⟩, 20) := ⟨⟨by decide +kernel, by decide +kernel⟩, List.mem_of_getElem? (i := 23) (by decide +kernel), List.mem_of_getElem? (i := 609) (by decide +kernel), List.mem_of_getElem? (i := 610) (by decide +kernel)⟩
theorem lw_p1 : lw_okq (⟨"GooseIce", "agree", "()Z"⟩, 20) := ⟨⟨by decide +kernel, by decide +kernel⟩, List.mem_of_getElem? (i := 23) (by decide +kernel), List.mem_of_getElem? (i := 616) (by decide +kernel), List.mem_of_getElem? (i := 617) (by decide +kernel)⟩
theorem lw_p2 : lw_okq (⟨"GooseIce", "placeTrouble", "(II)I"⟩, 20) := ⟨⟨by decide +kernel, by decide +kernel⟩, List.mem_of_getElem? (i := 23) (by decide +kernel), List.mem_of_getElem? (i := 624) (by decide +kernel), List.mem_of_getElem? (i := 625) (by decide +kernel)⟩
theorem lw_p3 : lw_okq (⟨"GooseIce", "refuse", "(I)I"⟩, 20) := ⟨⟨by decide +kernel, by decide +kernel⟩, List.mem_of_getElem? (i := 23) (by decide +kernel), List.mem_of_getElem? (i := 635) (by decide +kernel), List.mem_of_getElem? (i := 636) (by decide +kernel)⟩
theorem lw_p4 : lw_okq (⟨"GooseIce$Reader", "hasRoom", "()Z"⟩, 12) := ⟨⟨by decide +kernel, by decide +kernel⟩, List.mem_of_getElem? (i := 33) (by decide +kernel), List.mem_of_getElem? (i := 650) (by decide +kernel), List.mem_of_getElem? (i := 651) (by decide +kernel)⟩
theorem lw_p5 : lw_okq (⟨"GooseIce$Reader", "take", "(I)V"⟩, 12) := ⟨⟨by decide +kernel, by decide +kernel⟩, List.mem_of_getElem? (i := 33) (by decide +kernel), List.mem_of_getElem? (i := 654) (by decide +kernel), List.mem_of_getElem? (i := 655) (by decide +kernel)⟩
theorem lw_p6 : lw_okq (⟨"GooseIce$Reader", "open", "(I)V"⟩, 12) := ⟨⟨by decide +kernel, by decide +kernel⟩, List.mem_of_getElem? (i := 33) (by decide +kernel), List.mem_of_getElem? (i := 662) (by decide +kernel), List.mem_of_getElem? (i := 663) (by decide +kernel)⟩
theorem lw_p7 : lw_okq (⟨"GooseIce$Reader", "scan", "()V"⟩, 12) := ⟨⟨by decide +kernel, by decide +kernel⟩, List.mem_of_getElem? (i := 33) (by decide +kernel), List.mem_of_getElem? (i := 666) (by decide +kernel), List.mem_of_getElem? (i := 667) (by decide +kernel)⟩
theorem lw_p8 : lw_okq (⟨"GooseIce$Reader", "signAt", "(I)I"⟩, 12) := ⟨⟨by decide +kernel, by decide +kernel⟩, List.mem_of_getElem? (i := 33) (by decide +kernel), List.mem_of_getElem? (i := 670) (by decide +kernel), List.mem_of_getElem? (i := 671) (by decide +kernel)⟩
theorem lw_p9 : lw_okq (⟨"GooseIce$Reader", "scanWord", "()V"⟩, 12) := ⟨⟨by decide +kernel, by decide +kernel⟩, List.mem_of_getElem? (i := 33) (by decide +kernel), List.mem_of_getElem? (i := 674) (by decide +kernel), List.mem_of_getElem? (i := 675) (by decide +kernel)⟩
theorem lw_p10 : lw_okq (⟨"GooseIce$Reader", "scanNumber", "()V"⟩, 12) := ⟨⟨by decide +kernel, by decide +kernel⟩, List.mem_of_getElem? (i := 33) (by decide +kernel), List.mem_of_getElem? (i := 678) (by decide +kernel), List.mem_of_getElem? (i := 679) (by decide +kernel)⟩
theorem lw_p11 : lw_okq (⟨"GooseIce$LakeText", "parse", "(LGooseIce$Lake;)V"⟩, 2) := ⟨⟨by decide +kernel, by decide +kernel⟩, List.mem_of_getElem? (i := 139) (by decide +kernel), List.mem_of_getElem? (i := 682) (by decide +kernel), List.mem_of_getElem? (i := 683) (by decide +kernel)⟩
theorem lw_p12 : lw_okq (⟨"GooseIce$Lake", "clear", "()V"⟩, 14) := ⟨⟨by decide +kernel, by decide +kernel⟩, List.mem_of_getElem? (i := 168) (by decide +kernel), List.mem_of_getElem? (i := 686) (by decide +kernel), List.mem_of_getElem? (i := 687) (by decide +kernel)⟩
theorem lw_p13 : lw_okq (⟨"GooseIce$Ice", "clear", "()V"⟩, 6) := ⟨⟨by decide +kernel, by decide +kernel⟩, List.mem_of_getElem? (i := 174) (by decide +kernel), List.mem_of_getElem? (i := 691) (by decide +kernel), List.mem_of_getElem? (i := 692) (by decide +kernel)⟩
theorem lw_p14 : lw_okq (⟨"GooseIce$Crew", "clear", "()V"⟩, 10) := ⟨⟨by decide +kernel, by decide +kernel⟩, List.mem_of_getElem? (i := 210) (by decide +kernel), List.mem_of_getElem? (i := 696) (by decide +kernel), List.mem_of_getElem? (i := 697) (by decide +kernel)⟩
theorem lw_p15 : lw_okq (⟨"GooseIce$LakeText", "readPart", "(LGooseIce$Lake;)V"⟩, 2) := ⟨⟨by decide +kernel, by decide +kernel⟩, List.mem_of_getElem? (i := 139) (by decide +kernel), List.mem_of_getElem? (i := 701) (by decide +kernel), List.mem_of_getElem? (i := 702) (by decide +kernel)⟩
def lw_privs_1 : List (MethodName × Nat) := [(⟨"GooseIce", "deny", "(I)Z"⟩, 20), (⟨"GooseIce", "agree", "()Z"⟩, 20), (⟨"GooseIce", "placeTrouble", "(II)I"⟩, 20), (⟨"GooseIce", "refuse", "(I)I"⟩, 20), (⟨"GooseIce$Reader", "hasRoom", "()Z"⟩, 12), (⟨"GooseIce$Reader", "take", "(I)V"⟩, 12), (⟨"GooseIce$Reader", "open", "(I)V"⟩, 12), (⟨"GooseIce$Reader", "scan", "()V"⟩, 12), (⟨"GooseIce$Reader", "signAt", "(I)I"⟩, 12), (⟨"GooseIce$Reader", "scanWord", "()V"⟩, 12), (⟨"GooseIce$Reader", "scanNumber", "()V"⟩, 12), (⟨"GooseIce$LakeText", "parse", "(LGooseIce$Lake;)V"⟩, 2), (⟨"GooseIce$Lake", "clear", "()V"⟩, 14), (⟨"GooseIce$Ice", "clear", "()V"⟩, 6), (⟨"GooseIce$Crew", "clear", "()V"⟩, 10), (⟨"GooseIce$LakeText", "readPart", "(LGooseIce$Lake;)V"⟩, 2)]
theorem lw_r1 : ∀ q ∈ lw_privs_1, lw_okq q := List.forall_mem_cons.mpr ⟨lw_p0, List.forall_mem_cons.mpr ⟨lw_p1, List.forall_mem_cons.mpr ⟨lw_p2, List.forall_mem_cons.mpr ⟨lw_p3, List.forall_mem_cons.mpr ⟨lw_p4, List.forall_mem_cons.mpr ⟨lw_p5, List.forall_mem_cons.mpr ⟨lw_p6, List.forall_mem_cons.mpr ⟨lw_p7, List.forall_mem_cons.mpr ⟨lw_p8, List.forall_mem_cons.mpr ⟨lw_p9, List.forall_mem_cons.mpr ⟨lw_p10, List.forall_mem_cons.mpr ⟨lw_p11, List.forall_mem_cons.mpr ⟨lw_p12, List.forall_mem_cons.mpr ⟨lw_p13, List.forall_mem_cons.mpr ⟨lw_p14, List.forall_mem_cons.mpr ⟨lw_p15, fun _ h => absurd h List.not_mem_nil⟩⟩⟩⟩⟩⟩⟩⟩⟩⟩⟩⟩⟩⟩⟩⟩
theorem lw_p16 : lw_okq (⟨"GooseIce$LakeText", "readCell", "(LGooseIce$Lake;Z)V"⟩, 2) := ⟨⟨by decide +kernel, by decide +kernel⟩, List.mem_of_getElem? (i := 139) (by decide +kernel), List.mem_of_getElem? (i := 705) (by decide +kernel), List.mem_of_getElem? (i := 706) (by decide +kernel)⟩
theorem lw_p17 : lw_okq (⟨"GooseIce$Reader", "fail", "(I)V"⟩, 12) := ⟨⟨by decide +kernel, by decide +kernel⟩, List.mem_of_getElem? (i := 33) (by decide +kernel), List.mem_of_getElem? (i := 709) (by decide +kernel), List.mem_of_getElem? (i := 710) (by decide +kernel)⟩
theorem lw_p18 : lw_okq (⟨"GooseIce$LakeText", "readNewName", "(LGooseIce$Lake;)J"⟩, 2) := ⟨⟨by decide +kernel, by decide +kernel⟩, List.mem_of_getElem? (i := 139) (by decide +kernel), List.mem_of_getElem? (i := 714) (by decide +kernel), List.mem_of_getElem? (i := 715) (by decide +kernel)⟩
theorem lw_p19 : lw_okq (⟨"GooseIce$Reader", "nameHere", "()J"⟩, 12) := ⟨⟨by decide +kernel, by decide +kernel⟩, List.mem_of_getElem? (i := 33) (by decide +kernel), List.mem_of_getElem? (i := 718) (by decide +kernel), List.mem_of_getElem? (i := 719) (by decide +kernel)⟩
theorem lw_p20 : lw_okq (⟨"GooseIce$Reader", "misfit", "()V"⟩, 12) := ⟨⟨by decide +kernel, by decide +kernel⟩, List.mem_of_getElem? (i := 33) (by decide +kernel), List.mem_of_getElem? (i := 722) (by decide +kernel), List.mem_of_getElem? (i := 723) (by decide +kernel)⟩
theorem lw_p21 : lw_okq (⟨"GooseIce$Lake", "named", "(J)I"⟩, 14) := ⟨⟨by decide +kernel, by decide +kernel⟩, List.mem_of_getElem? (i := 168) (by decide +kernel), List.mem_of_getElem? (i := 727) (by decide +kernel), List.mem_of_getElem? (i := 728) (by decide +kernel)⟩
theorem lw_p22 : lw_okq (⟨"GooseIce$Crew", "named", "(J)I"⟩, 10) := ⟨⟨by decide +kernel, by decide +kernel⟩, List.mem_of_getElem? (i := 210) (by decide +kernel), List.mem_of_getElem? (i := 731) (by decide +kernel), List.mem_of_getElem? (i := 732) (by decide +kernel)⟩
theorem lw_p23 : lw_okq (⟨"GooseIce$Reader", "passWord", "(I)V"⟩, 12) := ⟨⟨by decide +kernel, by decide +kernel⟩, List.mem_of_getElem? (i := 33) (by decide +kernel), List.mem_of_getElem? (i := 735) (by decide +kernel), List.mem_of_getElem? (i := 736) (by decide +kernel)⟩
theorem lw_p24 : lw_okq (⟨"GooseIce$Reader", "passNumber", "(II)I"⟩, 12) := ⟨⟨by decide +kernel, by decide +kernel⟩, List.mem_of_getElem? (i := 33) (by decide +kernel), List.mem_of_getElem? (i := 739) (by decide +kernel), List.mem_of_getElem? (i := 740) (by decide +kernel)⟩
theorem lw_p25 : lw_okq (⟨"GooseIce$Reader", "passSign", "(I)Z"⟩, 12) := ⟨⟨by decide +kernel, by decide +kernel⟩, List.mem_of_getElem? (i := 33) (by decide +kernel), List.mem_of_getElem? (i := 743) (by decide +kernel), List.mem_of_getElem? (i := 744) (by decide +kernel)⟩
theorem lw_p26 : lw_okq (⟨"GooseIce$Lake", "addCell", "(JZI)V"⟩, 14) := ⟨⟨by decide +kernel, by decide +kernel⟩, List.mem_of_getElem? (i := 168) (by decide +kernel), List.mem_of_getElem? (i := 747) (by decide +kernel), List.mem_of_getElem? (i := 748) (by decide +kernel)⟩
theorem lw_p27 : lw_okq (⟨"GooseIce$LakeText", "readPair", "(LGooseIce$Lake;Z)V"⟩, 2) := ⟨⟨by decide +kernel, by decide +kernel⟩, List.mem_of_getElem? (i := 139) (by decide +kernel), List.mem_of_getElem? (i := 751) (by decide +kernel), List.mem_of_getElem? (i := 752) (by decide +kernel)⟩
theorem lw_p28 : lw_okq (⟨"GooseIce$Reader", "cellHere", "(LGooseIce$Lake;)I"⟩, 12) := ⟨⟨by decide +kernel, by decide +kernel⟩, List.mem_of_getElem? (i := 33) (by decide +kernel), List.mem_of_getElem? (i := 755) (by decide +kernel), List.mem_of_getElem? (i := 756) (by decide +kernel)⟩
theorem lw_p29 : lw_okq (⟨"GooseIce$Lake", "isShore", "(I)Z"⟩, 14) := ⟨⟨by decide +kernel, by decide +kernel⟩, List.mem_of_getElem? (i := 168) (by decide +kernel), List.mem_of_getElem? (i := 761) (by decide +kernel), List.mem_of_getElem? (i := 762) (by decide +kernel)⟩
theorem lw_p30 : lw_okq (⟨"GooseIce$Lake", "isCell", "(I)Z"⟩, 14) := ⟨⟨by decide +kernel, by decide +kernel⟩, List.mem_of_getElem? (i := 168) (by decide +kernel), List.mem_of_getElem? (i := 765) (by decide +kernel), List.mem_of_getElem? (i := 766) (by decide +kernel)⟩
theorem lw_p31 : lw_okq (⟨"GooseIce$Lake", "isPair", "(II)Z"⟩, 14) := ⟨⟨by decide +kernel, by decide +kernel⟩, List.mem_of_getElem? (i := 168) (by decide +kernel), List.mem_of_getElem? (i := 769) (by decide +kernel), List.mem_of_getElem? (i := 770) (by decide +kernel)⟩
def lw_privs_2 : List (MethodName × Nat) := [(⟨"GooseIce$LakeText", "readCell", "(LGooseIce$Lake;Z)V"⟩, 2), (⟨"GooseIce$Reader", "fail", "(I)V"⟩, 12), (⟨"GooseIce$LakeText", "readNewName", "(LGooseIce$Lake;)J"⟩, 2), (⟨"GooseIce$Reader", "nameHere", "()J"⟩, 12), (⟨"GooseIce$Reader", "misfit", "()V"⟩, 12), (⟨"GooseIce$Lake", "named", "(J)I"⟩, 14), (⟨"GooseIce$Crew", "named", "(J)I"⟩, 10), (⟨"GooseIce$Reader", "passWord", "(I)V"⟩, 12), (⟨"GooseIce$Reader", "passNumber", "(II)I"⟩, 12), (⟨"GooseIce$Reader", "passSign", "(I)Z"⟩, 12), (⟨"GooseIce$Lake", "addCell", "(JZI)V"⟩, 14), (⟨"GooseIce$LakeText", "readPair", "(LGooseIce$Lake;Z)V"⟩, 2), (⟨"GooseIce$Reader", "cellHere", "(LGooseIce$Lake;)I"⟩, 12), (⟨"GooseIce$Lake", "isShore", "(I)Z"⟩, 14), (⟨"GooseIce$Lake", "isCell", "(I)Z"⟩, 14), (⟨"GooseIce$Lake", "isPair", "(II)Z"⟩, 14)]
theorem lw_r2 : ∀ q ∈ lw_privs_2, lw_okq q := List.forall_mem_cons.mpr ⟨lw_p16, List.forall_mem_cons.mpr ⟨lw_p17, List.forall_mem_cons.mpr ⟨lw_p18, List.forall_mem_cons.mpr ⟨lw_p19, List.forall_mem_cons.mpr ⟨lw_p20, List.forall_mem_cons.mpr ⟨lw_p21, List.forall_mem_cons.mpr ⟨lw_p22, List.forall_mem_cons.mpr ⟨lw_p23, List.forall_mem_cons.mpr ⟨lw_p24, List.forall_mem_cons.mpr ⟨lw_p25, List.forall_mem_cons.mpr ⟨lw_p26, List.forall_mem_cons.mpr ⟨lw_p27, List.forall_mem_cons.mpr ⟨lw_p28, List.forall_mem_cons.mpr ⟨lw_p29, List.forall_mem_cons.mpr ⟨lw_p30, List.forall_mem_cons.mpr ⟨lw_p31, fun _ h => absurd h List.not_mem_nil⟩⟩⟩⟩⟩⟩⟩⟩⟩⟩⟩⟩⟩⟩⟩⟩
theorem lw_p32 : lw_okq (⟨"GooseIce$LakeText", "readWalker", "(LGooseIce$Lake;)V"⟩, 2) := ⟨⟨by decide +kernel, by decide +kernel⟩, List.mem_of_getElem? (i := 139) (by decide +kernel), List.mem_of_getElem? (i := 773) (by decide +kernel), List.mem_of_getElem? (i := 774) (by decide +kernel)⟩
theorem lw_p33 : lw_okq (⟨"GooseIce$Lake", "addWalker", "(JII)V"⟩, 14) := ⟨⟨by decide +kernel, by decide +kernel⟩, List.mem_of_getElem? (i := 168) (by decide +kernel), List.mem_of_getElem? (i := 777) (by decide +kernel), List.mem_of_getElem? (i := 778) (by decide +kernel)⟩
theorem lw_p34 : lw_okq (⟨"GooseIce$LakeText", "readSetting", "(II)I"⟩, 2) := ⟨⟨by decide +kernel, by decide +kernel⟩, List.mem_of_getElem? (i := 139) (by decide +kernel), List.mem_of_getElem? (i := 781) (by decide +kernel), List.mem_of_getElem? (i := 782) (by decide +kernel)⟩
theorem lw_p35 : lw_okq (⟨"GooseIce$Lake", "copyFrom", "(LGooseIce$Lake;)V"⟩, 14) := ⟨⟨by decide +kernel, by decide +kernel⟩, List.mem_of_getElem? (i := 168) (by decide +kernel), List.mem_of_getElem? (i := 786) (by decide +kernel), List.mem_of_getElem? (i := 787) (by decide +kernel)⟩
theorem lw_p36 : lw_okq (⟨"GooseIce$Ice", "copyFrom", "(LGooseIce$Ice;)V"⟩, 6) := ⟨⟨by decide +kernel, by decide +kernel⟩, List.mem_of_getElem? (i := 174) (by decide +kernel), List.mem_of_getElem? (i := 791) (by decide +kernel), List.mem_of_getElem? (i := 792) (by decide +kernel)⟩
theorem lw_p37 : lw_okq (⟨"GooseIce$Crew", "copyFrom", "(LGooseIce$Crew;)V"⟩, 10) := ⟨⟨by decide +kernel, by decide +kernel⟩, List.mem_of_getElem? (i := 210) (by decide +kernel), List.mem_of_getElem? (i := 796) (by decide +kernel), List.mem_of_getElem? (i := 797) (by decide +kernel)⟩
theorem lw_p38 : lw_okq (⟨"GooseIce$Tales", "clear", "()V"⟩, 8) := ⟨⟨by decide +kernel, by decide +kernel⟩, List.mem_of_getElem? (i := 267) (by decide +kernel), List.mem_of_getElem? (i := 801) (by decide +kernel), List.mem_of_getElem? (i := 802) (by decide +kernel)⟩
theorem lw_p39 : lw_okq (⟨"GooseIce", "answer", "(I)I"⟩, 20) := ⟨⟨by decide +kernel, by decide +kernel⟩, List.mem_of_getElem? (i := 23) (by decide +kernel), List.mem_of_getElem? (i := 805) (by decide +kernel), List.mem_of_getElem? (i := 806) (by decide +kernel)⟩
theorem lw_p40 : lw_okq (⟨"GooseIce$TalesText", "parse", "(LGooseIce$Lake;LGooseIce$Tales;)V"⟩, 3) := ⟨⟨by decide +kernel, by decide +kernel⟩, List.mem_of_getElem? (i := 152) (by decide +kernel), List.mem_of_getElem? (i := 813) (by decide +kernel), List.mem_of_getElem? (i := 814) (by decide +kernel)⟩
theorem lw_p41 : lw_okq (⟨"GooseIce$TalesText", "readEnd", "(LGooseIce$Tales;)V"⟩, 3) := ⟨⟨by decide +kernel, by decide +kernel⟩, List.mem_of_getElem? (i := 152) (by decide +kernel), List.mem_of_getElem? (i := 818) (by decide +kernel), List.mem_of_getElem? (i := 819) (by decide +kernel)⟩
theorem lw_p42 : lw_okq (⟨"GooseIce$TalesText", "readStep", "(LGooseIce$Lake;LGooseIce$Tales;)V"⟩, 3) := ⟨⟨by decide +kernel, by decide +kernel⟩, List.mem_of_getElem? (i := 152) (by decide +kernel), List.mem_of_getElem? (i := 824) (by decide +kernel), List.mem_of_getElem? (i := 825) (by decide +kernel)⟩
theorem lw_p43 : lw_okq (⟨"GooseIce$TalesText", "readTest", "(LGooseIce$Lake;LGooseIce$Tales;I)V"⟩, 3) := ⟨⟨by decide +kernel, by decide +kernel⟩, List.mem_of_getElem? (i := 152) (by decide +kernel), List.mem_of_getElem? (i := 833) (by decide +kernel), List.mem_of_getElem? (i := 834) (by decide +kernel)⟩
theorem lw_p44 : lw_okq (⟨"GooseIce$Reader", "walkerHere", "(LGooseIce$Lake;)I"⟩, 12) := ⟨⟨by decide +kernel, by decide +kernel⟩, List.mem_of_getElem? (i := 33) (by decide +kernel), List.mem_of_getElem? (i := 838) (by decide +kernel), List.mem_of_getElem? (i := 839) (by decide +kernel)⟩
theorem lw_p45 : lw_okq (⟨"GooseIce$TalesText", "readCompares", "()I"⟩, 3) := ⟨⟨by decide +kernel, by decide +kernel⟩, List.mem_of_getElem? (i := 152) (by decide +kernel), List.mem_of_getElem? (i := 843) (by decide +kernel), List.mem_of_getElem? (i := 844) (by decide +kernel)⟩
theorem lw_p46 : lw_okq (⟨"GooseIce$TalesText", "readRest", "(LGooseIce$Lake;LGooseIce$Tales;II)V"⟩, 3) := ⟨⟨by decide +kernel, by decide +kernel⟩, List.mem_of_getElem? (i := 152) (by decide +kernel), List.mem_of_getElem? (i := 849) (by decide +kernel), List.mem_of_getElem? (i := 850) (by decide +kernel)⟩
theorem lw_p47 : lw_okq (⟨"GooseIce$Tales", "copyFrom", "(LGooseIce$Tales;)V"⟩, 8) := ⟨⟨by decide +kernel, by decide +kernel⟩, List.mem_of_getElem? (i := 267) (by decide +kernel), List.mem_of_getElem? (i := 853) (by decide +kernel), List.mem_of_getElem? (i := 854) (by decide +kernel)⟩
def lw_privs_3 : List (MethodName × Nat) := [(⟨"GooseIce$LakeText", "readWalker", "(LGooseIce$Lake;)V"⟩, 2), (⟨"GooseIce$Lake", "addWalker", "(JII)V"⟩, 14), (⟨"GooseIce$LakeText", "readSetting", "(II)I"⟩, 2), (⟨"GooseIce$Lake", "copyFrom", "(LGooseIce$Lake;)V"⟩, 14), (⟨"GooseIce$Ice", "copyFrom", "(LGooseIce$Ice;)V"⟩, 6), (⟨"GooseIce$Crew", "copyFrom", "(LGooseIce$Crew;)V"⟩, 10), (⟨"GooseIce$Tales", "clear", "()V"⟩, 8), (⟨"GooseIce", "answer", "(I)I"⟩, 20), (⟨"GooseIce$TalesText", "parse", "(LGooseIce$Lake;LGooseIce$Tales;)V"⟩, 3), (⟨"GooseIce$TalesText", "readEnd", "(LGooseIce$Tales;)V"⟩, 3), (⟨"GooseIce$TalesText", "readStep", "(LGooseIce$Lake;LGooseIce$Tales;)V"⟩, 3), (⟨"GooseIce$TalesText", "readTest", "(LGooseIce$Lake;LGooseIce$Tales;I)V"⟩, 3), (⟨"GooseIce$Reader", "walkerHere", "(LGooseIce$Lake;)I"⟩, 12), (⟨"GooseIce$TalesText", "readCompares", "()I"⟩, 3), (⟨"GooseIce$TalesText", "readRest", "(LGooseIce$Lake;LGooseIce$Tales;II)V"⟩, 3), (⟨"GooseIce$Tales", "copyFrom", "(LGooseIce$Tales;)V"⟩, 8)]
theorem lw_r3 : ∀ q ∈ lw_privs_3, lw_okq q := List.forall_mem_cons.mpr ⟨lw_p32, List.forall_mem_cons.mpr ⟨lw_p33, List.forall_mem_cons.mpr ⟨lw_p34, List.forall_mem_cons.mpr ⟨lw_p35, List.forall_mem_cons.mpr ⟨lw_p36, List.forall_mem_cons.mpr ⟨lw_p37, List.forall_mem_cons.mpr ⟨lw_p38, List.forall_mem_cons.mpr ⟨lw_p39, List.forall_mem_cons.mpr ⟨lw_p40, List.forall_mem_cons.mpr ⟨lw_p41, List.forall_mem_cons.mpr ⟨lw_p42, List.forall_mem_cons.mpr ⟨lw_p43, List.forall_mem_cons.mpr ⟨lw_p44, List.forall_mem_cons.mpr ⟨lw_p45, List.forall_mem_cons.mpr ⟨lw_p46, List.forall_mem_cons.mpr ⟨lw_p47, fun _ h => absurd h List.not_mem_nil⟩⟩⟩⟩⟩⟩⟩⟩⟩⟩⟩⟩⟩⟩⟩⟩
theorem lw_p48 : lw_okq (⟨"GooseIce$Lake", "isIce", "(I)Z"⟩, 14) := ⟨⟨by decide +kernel, by decide +kernel⟩, List.mem_of_getElem? (i := 168) (by decide +kernel), List.mem_of_getElem? (i := 870) (by decide +kernel), List.mem_of_getElem? (i := 871) (by decide +kernel)⟩
theorem lw_p49 : lw_okq (⟨"GooseIce$Lake", "strength", "(I)I"⟩, 14) := ⟨⟨by decide +kernel, by decide +kernel⟩, List.mem_of_getElem? (i := 168) (by decide +kernel), List.mem_of_getElem? (i := 874) (by decide +kernel), List.mem_of_getElem? (i := 875) (by decide +kernel)⟩
theorem lw_p50 : lw_okq (⟨"GooseIce$Lake", "load", "(II)I"⟩, 14) := ⟨⟨by decide +kernel, by decide +kernel⟩, List.mem_of_getElem? (i := 168) (by decide +kernel), List.mem_of_getElem? (i := 881) (by decide +kernel), List.mem_of_getElem? (i := 882) (by decide +kernel)⟩
theorem lw_p51 : lw_okq (⟨"GooseIce$Crew", "has", "(I)Z"⟩, 10) := ⟨⟨by decide +kernel, by decide +kernel⟩, List.mem_of_getElem? (i := 210) (by decide +kernel), List.mem_of_getElem? (i := 889) (by decide +kernel), List.mem_of_getElem? (i := 890) (by decide +kernel)⟩
theorem lw_p52 : lw_okq (⟨"GooseIce$Crew", "remaining", "(I)I"⟩, 10) := ⟨⟨by decide +kernel, by decide +kernel⟩, List.mem_of_getElem? (i := 210) (by decide +kernel), List.mem_of_getElem? (i := 893) (by decide +kernel), List.mem_of_getElem? (i := 894) (by decide +kernel)⟩
theorem lw_p53 : lw_okq (⟨"GooseIce$Crew", "ahead", "(II)I"⟩, 10) := ⟨⟨by decide +kernel, by decide +kernel⟩, List.mem_of_getElem? (i := 210) (by decide +kernel), List.mem_of_getElem? (i := 901) (by decide +kernel), List.mem_of_getElem? (i := 902) (by decide +kernel)⟩
theorem lw_p54 : lw_okq (⟨"GooseIce", "takePath", "(II)I"⟩, 20) := ⟨⟨by decide +kernel, by decide +kernel⟩, List.mem_of_getElem? (i := 23) (by decide +kernel), List.mem_of_getElem? (i := 923) (by decide +kernel), List.mem_of_getElem? (i := 924) (by decide +kernel)⟩
theorem lw_p55 : lw_okq (⟨"GooseIce$Crew", "isBusy", "(I)Z"⟩, 10) := ⟨⟨by decide +kernel, by decide +kernel⟩, List.mem_of_getElem? (i := 210) (by decide +kernel), List.mem_of_getElem? (i := 927) (by decide +kernel), List.mem_of_getElem? (i := 928) (by decide +kernel)⟩
theorem lw_p56 : lw_okq (⟨"GooseIce$Lake", "leads", "(I[II)Z"⟩, 14) := ⟨⟨by decide +kernel, by decide +kernel⟩, List.mem_of_getElem? (i := 168) (by decide +kernel), List.mem_of_getElem? (i := 931) (by decide +kernel), List.mem_of_getElem? (i := 932) (by decide +kernel)⟩
theorem lw_p57 : lw_okq (⟨"GooseIce$Crew", "aim", "(I[II)V"⟩, 10) := ⟨⟨by decide +kernel, by decide +kernel⟩, List.mem_of_getElem? (i := 210) (by decide +kernel), List.mem_of_getElem? (i := 935) (by decide +kernel), List.mem_of_getElem? (i := 936) (by decide +kernel)⟩
theorem lw_p58 : lw_okq (⟨"GooseIce", "findWay", "(II)Z"⟩, 20) := ⟨⟨by decide +kernel, by decide +kernel⟩, List.mem_of_getElem? (i := 23) (by decide +kernel), List.mem_of_getElem? (i := 946) (by decide +kernel), List.mem_of_getElem? (i := 947) (by decide +kernel)⟩
theorem lw_p59 : lw_okq (⟨"GooseIce$Lake", "carrying", "(I)I"⟩, 14) := ⟨⟨by decide +kernel, by decide +kernel⟩, List.mem_of_getElem? (i := 168) (by decide +kernel), List.mem_of_getElem? (i := 950) (by decide +kernel), List.mem_of_getElem? (i := 951) (by decide +kernel)⟩
theorem lw_p60 : lw_okq (⟨"GooseIce$Lake", "whole", "()I"⟩, 14) := ⟨⟨by decide +kernel, by decide +kernel⟩, List.mem_of_getElem? (i := 168) (by decide +kernel), List.mem_of_getElem? (i := 954) (by decide +kernel), List.mem_of_getElem? (i := 955) (by decide +kernel)⟩
theorem lw_p61 : lw_okq (⟨"GooseIce$Lake", "spare", "(II)I"⟩, 14) := ⟨⟨by decide +kernel, by decide +kernel⟩, List.mem_of_getElem? (i := 168) (by decide +kernel), List.mem_of_getElem? (i := 958) (by decide +kernel), List.mem_of_getElem? (i := 959) (by decide +kernel)⟩
theorem lw_p62 : lw_okq (⟨"GooseIce$Paths", "find", "(LGooseIce$Lake;III)Z"⟩, 6) := ⟨⟨by decide +kernel, by decide +kernel⟩, List.mem_of_getElem? (i := 388) (by decide +kernel), List.mem_of_getElem? (i := 963) (by decide +kernel), List.mem_of_getElem? (i := 964) (by decide +kernel)⟩
theorem lw_p63 : lw_okq (⟨"GooseIce$Paths", "layersFrom", "(LGooseIce$Lake;III)I"⟩, 6) := ⟨⟨by decide +kernel, by decide +kernel⟩, List.mem_of_getElem? (i := 388) (by decide +kernel), List.mem_of_getElem? (i := 967) (by decide +kernel), List.mem_of_getElem? (i := 968) (by decide +kernel)⟩
def lw_privs_4 : List (MethodName × Nat) := [(⟨"GooseIce$Lake", "isIce", "(I)Z"⟩, 14), (⟨"GooseIce$Lake", "strength", "(I)I"⟩, 14), (⟨"GooseIce$Lake", "load", "(II)I"⟩, 14), (⟨"GooseIce$Crew", "has", "(I)Z"⟩, 10), (⟨"GooseIce$Crew", "remaining", "(I)I"⟩, 10), (⟨"GooseIce$Crew", "ahead", "(II)I"⟩, 10), (⟨"GooseIce", "takePath", "(II)I"⟩, 20), (⟨"GooseIce$Crew", "isBusy", "(I)Z"⟩, 10), (⟨"GooseIce$Lake", "leads", "(I[II)Z"⟩, 14), (⟨"GooseIce$Crew", "aim", "(I[II)V"⟩, 10), (⟨"GooseIce", "findWay", "(II)Z"⟩, 20), (⟨"GooseIce$Lake", "carrying", "(I)I"⟩, 14), (⟨"GooseIce$Lake", "whole", "()I"⟩, 14), (⟨"GooseIce$Lake", "spare", "(II)I"⟩, 14), (⟨"GooseIce$Paths", "find", "(LGooseIce$Lake;III)Z"⟩, 6), (⟨"GooseIce$Paths", "layersFrom", "(LGooseIce$Lake;III)I"⟩, 6)]
theorem lw_r4 : ∀ q ∈ lw_privs_4, lw_okq q := List.forall_mem_cons.mpr ⟨lw_p48, List.forall_mem_cons.mpr ⟨lw_p49, List.forall_mem_cons.mpr ⟨lw_p50, List.forall_mem_cons.mpr ⟨lw_p51, List.forall_mem_cons.mpr ⟨lw_p52, List.forall_mem_cons.mpr ⟨lw_p53, List.forall_mem_cons.mpr ⟨lw_p54, List.forall_mem_cons.mpr ⟨lw_p55, List.forall_mem_cons.mpr ⟨lw_p56, List.forall_mem_cons.mpr ⟨lw_p57, List.forall_mem_cons.mpr ⟨lw_p58, List.forall_mem_cons.mpr ⟨lw_p59, List.forall_mem_cons.mpr ⟨lw_p60, List.forall_mem_cons.mpr ⟨lw_p61, List.forall_mem_cons.mpr ⟨lw_p62, List.forall_mem_cons.mpr ⟨lw_p63, fun _ h => absurd h List.not_mem_nil⟩⟩⟩⟩⟩⟩⟩⟩⟩⟩⟩⟩⟩⟩⟩⟩
theorem lw_p64 : lw_okq (⟨"GooseIce$Lake", "around", "(I)I"⟩, 14) := ⟨⟨by decide +kernel, by decide +kernel⟩, List.mem_of_getElem? (i := 168) (by decide +kernel), List.mem_of_getElem? (i := 971) (by decide +kernel), List.mem_of_getElem? (i := 972) (by decide +kernel)⟩
theorem lw_p65 : lw_okq (⟨"GooseIce$Lake", "walkOn", "(I)I"⟩, 14) := ⟨⟨by decide +kernel, by decide +kernel⟩, List.mem_of_getElem? (i := 168) (by decide +kernel), List.mem_of_getElem? (i := 993) (by decide +kernel), List.mem_of_getElem? (i := 994) (by decide +kernel)⟩
theorem lw_p66 : lw_okq (⟨"GooseIce$Lake", "walkOnce", "()I"⟩, 14) := ⟨⟨by decide +kernel, by decide +kernel⟩, List.mem_of_getElem? (i := 168) (by decide +kernel), List.mem_of_getElem? (i := 997) (by decide +kernel), List.mem_of_getElem? (i := 998) (by decide +kernel)⟩
theorem lw_p67 : lw_okq (⟨"GooseIce$Ice", "heal", "(II)V"⟩, 6) := ⟨⟨by decide +kernel, by decide +kernel⟩, List.mem_of_getElem? (i := 174) (by decide +kernel), List.mem_of_getElem? (i := 1001) (by decide +kernel), List.mem_of_getElem? (i := 1002) (by decide +kernel)⟩
theorem lw_p68 : lw_okq (⟨"GooseIce$Lake", "moveOne", "(II)V"⟩, 14) := ⟨⟨by decide +kernel, by decide +kernel⟩, List.mem_of_getElem? (i := 168) (by decide +kernel), List.mem_of_getElem? (i := 1006) (by decide +kernel), List.mem_of_getElem? (i := 1007) (by decide +kernel)⟩
theorem lw_p69 : lw_okq (⟨"GooseIce$Crew", "advance", "(II)V"⟩, 10) := ⟨⟨by decide +kernel, by decide +kernel⟩, List.mem_of_getElem? (i := 210) (by decide +kernel), List.mem_of_getElem? (i := 1011) (by decide +kernel), List.mem_of_getElem? (i := 1012) (by decide +kernel)⟩
theorem lw_p70 : lw_okq (⟨"GooseIce$Crew", "soak", "(I)V"⟩, 10) := ⟨⟨by decide +kernel, by decide +kernel⟩, List.mem_of_getElem? (i := 210) (by decide +kernel), List.mem_of_getElem? (i := 1015) (by decide +kernel), List.mem_of_getElem? (i := 1016) (by decide +kernel)⟩
theorem lw_p71 : lw_okq (⟨"GooseIce$Ice", "enter", "(II)V"⟩, 6) := ⟨⟨by decide +kernel, by decide +kernel⟩, List.mem_of_getElem? (i := 174) (by decide +kernel), List.mem_of_getElem? (i := 1019) (by decide +kernel), List.mem_of_getElem? (i := 1020) (by decide +kernel)⟩
theorem lw_p72 : lw_okq (⟨"GooseIce$Lake", "weighAll", "()V"⟩, 14) := ⟨⟨by decide +kernel, by decide +kernel⟩, List.mem_of_getElem? (i := 168) (by decide +kernel), List.mem_of_getElem? (i := 1023) (by decide +kernel), List.mem_of_getElem? (i := 1024) (by decide +kernel)⟩
theorem lw_p73 : lw_okq (⟨"GooseIce$Lake", "overloaded", "()I"⟩, 14) := ⟨⟨by decide +kernel, by decide +kernel⟩, List.mem_of_getElem? (i := 168) (by decide +kernel), List.mem_of_getElem? (i := 1027) (by decide +kernel), List.mem_of_getElem? (i := 1028) (by decide +kernel)⟩
theorem lw_p74 : lw_okq (⟨"GooseIce$Lake", "crack", "(I)V"⟩, 14) := ⟨⟨by decide +kernel, by decide +kernel⟩, List.mem_of_getElem? (i := 168) (by decide +kernel), List.mem_of_getElem? (i := 1032) (by decide +kernel), List.mem_of_getElem? (i := 1033) (by decide +kernel)⟩
theorem lw_p75 : lw_okq (⟨"GooseIce$Ice", "shatter", "(I)V"⟩, 6) := ⟨⟨by decide +kernel, by decide +kernel⟩, List.mem_of_getElem? (i := 174) (by decide +kernel), List.mem_of_getElem? (i := 1036) (by decide +kernel), List.mem_of_getElem? (i := 1037) (by decide +kernel)⟩
theorem lw_p76 : lw_okq (⟨"GooseIce$Lake", "noteLoads", "()V"⟩, 14) := ⟨⟨by decide +kernel, by decide +kernel⟩, List.mem_of_getElem? (i := 168) (by decide +kernel), List.mem_of_getElem? (i := 1040) (by decide +kernel), List.mem_of_getElem? (i := 1041) (by decide +kernel)⟩
theorem lw_p77 : lw_okq (⟨"GooseIce$Lake", "freeze", "(I)I"⟩, 14) := ⟨⟨by decide +kernel, by decide +kernel⟩, List.mem_of_getElem? (i := 168) (by decide +kernel), List.mem_of_getElem? (i := 1048) (by decide +kernel), List.mem_of_getElem? (i := 1049) (by decide +kernel)⟩
theorem lw_p78 : lw_okq (⟨"GooseIce$Lake", "soften", "(I)V"⟩, 14) := ⟨⟨by decide +kernel, by decide +kernel⟩, List.mem_of_getElem? (i := 168) (by decide +kernel), List.mem_of_getElem? (i := 1059) (by decide +kernel), List.mem_of_getElem? (i := 1060) (by decide +kernel)⟩
theorem lw_p79 : lw_okq (⟨"GooseIce$Lake", "countSpent", "()I"⟩, 14) := ⟨⟨by decide +kernel, by decide +kernel⟩, List.mem_of_getElem? (i := 168) (by decide +kernel), List.mem_of_getElem? (i := 1063) (by decide +kernel), List.mem_of_getElem? (i := 1064) (by decide +kernel)⟩
def lw_privs_5 : List (MethodName × Nat) := [(⟨"GooseIce$Lake", "around", "(I)I"⟩, 14), (⟨"GooseIce$Lake", "walkOn", "(I)I"⟩, 14), (⟨"GooseIce$Lake", "walkOnce", "()I"⟩, 14), (⟨"GooseIce$Ice", "heal", "(II)V"⟩, 6), (⟨"GooseIce$Lake", "moveOne", "(II)V"⟩, 14), (⟨"GooseIce$Crew", "advance", "(II)V"⟩, 10), (⟨"GooseIce$Crew", "soak", "(I)V"⟩, 10), (⟨"GooseIce$Ice", "enter", "(II)V"⟩, 6), (⟨"GooseIce$Lake", "weighAll", "()V"⟩, 14), (⟨"GooseIce$Lake", "overloaded", "()I"⟩, 14), (⟨"GooseIce$Lake", "crack", "(I)V"⟩, 14), (⟨"GooseIce$Ice", "shatter", "(I)V"⟩, 6), (⟨"GooseIce$Lake", "noteLoads", "()V"⟩, 14), (⟨"GooseIce$Lake", "freeze", "(I)I"⟩, 14), (⟨"GooseIce$Lake", "soften", "(I)V"⟩, 14), (⟨"GooseIce$Lake", "countSpent", "()I"⟩, 14)]
theorem lw_r5 : ∀ q ∈ lw_privs_5, lw_okq q := List.forall_mem_cons.mpr ⟨lw_p64, List.forall_mem_cons.mpr ⟨lw_p65, List.forall_mem_cons.mpr ⟨lw_p66, List.forall_mem_cons.mpr ⟨lw_p67, List.forall_mem_cons.mpr ⟨lw_p68, List.forall_mem_cons.mpr ⟨lw_p69, List.forall_mem_cons.mpr ⟨lw_p70, List.forall_mem_cons.mpr ⟨lw_p71, List.forall_mem_cons.mpr ⟨lw_p72, List.forall_mem_cons.mpr ⟨lw_p73, List.forall_mem_cons.mpr ⟨lw_p74, List.forall_mem_cons.mpr ⟨lw_p75, List.forall_mem_cons.mpr ⟨lw_p76, List.forall_mem_cons.mpr ⟨lw_p77, List.forall_mem_cons.mpr ⟨lw_p78, List.forall_mem_cons.mpr ⟨lw_p79, fun _ h => absurd h List.not_mem_nil⟩⟩⟩⟩⟩⟩⟩⟩⟩⟩⟩⟩⟩⟩⟩⟩
theorem lw_p80 : lw_okq (⟨"GooseIce$Lake", "bringAshore", "(I)V"⟩, 14) := ⟨⟨by decide +kernel, by decide +kernel⟩, List.mem_of_getElem? (i := 168) (by decide +kernel), List.mem_of_getElem? (i := 1071) (by decide +kernel), List.mem_of_getElem? (i := 1072) (by decide +kernel)⟩
theorem lw_p81 : lw_okq (⟨"GooseIce$Paths", "has", "(I)Z"⟩, 6) := ⟨⟨by decide +kernel, by decide +kernel⟩, List.mem_of_getElem? (i := 388) (by decide +kernel), List.mem_of_getElem? (i := 1106) (by decide +kernel), List.mem_of_getElem? (i := 1107) (by decide +kernel)⟩
theorem lw_p82 : lw_okq (⟨"GooseIce", "isElsewhere", "(II)Z"⟩, 20) := ⟨⟨by decide +kernel, by decide +kernel⟩, List.mem_of_getElem? (i := 23) (by decide +kernel), List.mem_of_getElem? (i := 1114) (by decide +kernel), List.mem_of_getElem? (i := 1115) (by decide +kernel)⟩
theorem lw_p83 : lw_okq (⟨"GooseIce$Paths", "findSurest", "(LGooseIce$Lake;II)Z"⟩, 6) := ⟨⟨by decide +kernel, by decide +kernel⟩, List.mem_of_getElem? (i := 388) (by decide +kernel), List.mem_of_getElem? (i := 1118) (by decide +kernel), List.mem_of_getElem? (i := 1119) (by decide +kernel)⟩
theorem lw_p84 : lw_okq (⟨"GooseIce$Paths", "sparing", "(LGooseIce$Lake;I)I"⟩, 6) := ⟨⟨by decide +kernel, by decide +kernel⟩, List.mem_of_getElem? (i := 388) (by decide +kernel), List.mem_of_getElem? (i := 1123) (by decide +kernel), List.mem_of_getElem? (i := 1124) (by decide +kernel)⟩
theorem lw_p85 : lw_okq (⟨"GooseIce$Lake", "flood", "(II)I"⟩, 14) := ⟨⟨by decide +kernel, by decide +kernel⟩, List.mem_of_getElem? (i := 168) (by decide +kernel), List.mem_of_getElem? (i := 1127) (by decide +kernel), List.mem_of_getElem? (i := 1128) (by decide +kernel)⟩
theorem lw_p86 : lw_okq (⟨"GooseIce$Paths", "fewestWithout", "(LGooseIce$Lake;II)I"⟩, 6) := ⟨⟨by decide +kernel, by decide +kernel⟩, List.mem_of_getElem? (i := 388) (by decide +kernel), List.mem_of_getElem? (i := 1150) (by decide +kernel), List.mem_of_getElem? (i := 1151) (by decide +kernel)⟩
theorem lw_p87 : lw_okq (⟨"GooseIce$Lake", "leastOnRoute", "(I)I"⟩, 14) := ⟨⟨by decide +kernel, by decide +kernel⟩, List.mem_of_getElem? (i := 168) (by decide +kernel), List.mem_of_getElem? (i := 1164) (by decide +kernel), List.mem_of_getElem? (i := 1165) (by decide +kernel)⟩
theorem lw_p88 : lw_okq (⟨"GooseIce$Lake", "frailest", "()I"⟩, 14) := ⟨⟨by decide +kernel, by decide +kernel⟩, List.mem_of_getElem? (i := 168) (by decide +kernel), List.mem_of_getElem? (i := 1174) (by decide +kernel), List.mem_of_getElem? (i := 1175) (by decide +kernel)⟩
theorem lw_p89 : lw_okq (⟨"GooseIce$Lake", "notCarried", "(I)I"⟩, 14) := ⟨⟨by decide +kernel, by decide +kernel⟩, List.mem_of_getElem? (i := 168) (by decide +kernel), List.mem_of_getElem? (i := 1182) (by decide +kernel), List.mem_of_getElem? (i := 1183) (by decide +kernel)⟩
theorem lw_p90 : lw_okq (⟨"GooseIce$Lake", "stepsTillStrong", "(II)I"⟩, 14) := ⟨⟨by decide +kernel, by decide +kernel⟩, List.mem_of_getElem? (i := 168) (by decide +kernel), List.mem_of_getElem? (i := 1191) (by decide +kernel), List.mem_of_getElem? (i := 1192) (by decide +kernel)⟩
theorem lw_p91 : lw_okq (⟨"GooseIce$Crew", "hasSet", "(I)Z"⟩, 10) := ⟨⟨by decide +kernel, by decide +kernel⟩, List.mem_of_getElem? (i := 210) (by decide +kernel), List.mem_of_getElem? (i := 1199) (by decide +kernel), List.mem_of_getElem? (i := 1200) (by decide +kernel)⟩
theorem lw_p92 : lw_okq (⟨"GooseIce$Lake", "sharedShore", "(I)I"⟩, 14) := ⟨⟨by decide +kernel, by decide +kernel⟩, List.mem_of_getElem? (i := 168) (by decide +kernel), List.mem_of_getElem? (i := 1203) (by decide +kernel), List.mem_of_getElem? (i := 1204) (by decide +kernel)⟩
theorem lw_p93 : lw_okq (⟨"GooseIce$Queue", "soonest", "(LGooseIce$Lake;I[II)I"⟩, 11) := ⟨⟨by decide +kernel, by decide +kernel⟩, List.mem_of_getElem? (i := 419) (by decide +kernel), List.mem_of_getElem? (i := 1207) (by decide +kernel), List.mem_of_getElem? (i := 1208) (by decide +kernel)⟩
theorem lw_p94 : lw_okq (⟨"GooseIce$Queue", "gather", "(I)V"⟩, 11) := ⟨⟨by decide +kernel, by decide +kernel⟩, List.mem_of_getElem? (i := 419) (by decide +kernel), List.mem_of_getElem? (i := 1216) (by decide +kernel), List.mem_of_getElem? (i := 1217) (by decide +kernel)⟩
theorem lw_p95 : lw_okq (⟨"GooseIce$Queue", "arrange", "(I)Z"⟩, 11) := ⟨⟨by decide +kernel, by decide +kernel⟩, List.mem_of_getElem? (i := 419) (by decide +kernel), List.mem_of_getElem? (i := 1220) (by decide +kernel), List.mem_of_getElem? (i := 1221) (by decide +kernel)⟩
def lw_privs_6 : List (MethodName × Nat) := [(⟨"GooseIce$Lake", "bringAshore", "(I)V"⟩, 14), (⟨"GooseIce$Paths", "has", "(I)Z"⟩, 6), (⟨"GooseIce", "isElsewhere", "(II)Z"⟩, 20), (⟨"GooseIce$Paths", "findSurest", "(LGooseIce$Lake;II)Z"⟩, 6), (⟨"GooseIce$Paths", "sparing", "(LGooseIce$Lake;I)I"⟩, 6), (⟨"GooseIce$Lake", "flood", "(II)I"⟩, 14), (⟨"GooseIce$Paths", "fewestWithout", "(LGooseIce$Lake;II)I"⟩, 6), (⟨"GooseIce$Lake", "leastOnRoute", "(I)I"⟩, 14), (⟨"GooseIce$Lake", "frailest", "()I"⟩, 14), (⟨"GooseIce$Lake", "notCarried", "(I)I"⟩, 14), (⟨"GooseIce$Lake", "stepsTillStrong", "(II)I"⟩, 14), (⟨"GooseIce$Crew", "hasSet", "(I)Z"⟩, 10), (⟨"GooseIce$Lake", "sharedShore", "(I)I"⟩, 14), (⟨"GooseIce$Queue", "soonest", "(LGooseIce$Lake;I[II)I"⟩, 11), (⟨"GooseIce$Queue", "gather", "(I)V"⟩, 11), (⟨"GooseIce$Queue", "arrange", "(I)Z"⟩, 11)]
theorem lw_r6 : ∀ q ∈ lw_privs_6, lw_okq q := List.forall_mem_cons.mpr ⟨lw_p80, List.forall_mem_cons.mpr ⟨lw_p81, List.forall_mem_cons.mpr ⟨lw_p82, List.forall_mem_cons.mpr ⟨lw_p83, List.forall_mem_cons.mpr ⟨lw_p84, List.forall_mem_cons.mpr ⟨lw_p85, List.forall_mem_cons.mpr ⟨lw_p86, List.forall_mem_cons.mpr ⟨lw_p87, List.forall_mem_cons.mpr ⟨lw_p88, List.forall_mem_cons.mpr ⟨lw_p89, List.forall_mem_cons.mpr ⟨lw_p90, List.forall_mem_cons.mpr ⟨lw_p91, List.forall_mem_cons.mpr ⟨lw_p92, List.forall_mem_cons.mpr ⟨lw_p93, List.forall_mem_cons.mpr ⟨lw_p94, List.forall_mem_cons.mpr ⟨lw_p95, fun _ h => absurd h List.not_mem_nil⟩⟩⟩⟩⟩⟩⟩⟩⟩⟩⟩⟩⟩⟩⟩⟩
theorem lw_p96 : lw_okq (⟨"GooseIce$Queue", "startFirst", "(LGooseIce$Lake;)V"⟩, 11) := ⟨⟨by decide +kernel, by decide +kernel⟩, List.mem_of_getElem? (i := 419) (by decide +kernel), List.mem_of_getElem? (i := 1224) (by decide +kernel), List.mem_of_getElem? (i := 1225) (by decide +kernel)⟩
theorem lw_p97 : lw_okq (⟨"GooseIce$Queue", "tryGaps", "(II)V"⟩, 11) := ⟨⟨by decide +kernel, by decide +kernel⟩, List.mem_of_getElem? (i := 419) (by decide +kernel), List.mem_of_getElem? (i := 1231) (by decide +kernel), List.mem_of_getElem? (i := 1232) (by decide +kernel)⟩
theorem lw_p98 : lw_okq (⟨"GooseIce$Queue", "finish", "(LGooseIce$Lake;I)V"⟩, 11) := ⟨⟨by decide +kernel, by decide +kernel⟩, List.mem_of_getElem? (i := 419) (by decide +kernel), List.mem_of_getElem? (i := 1235) (by decide +kernel), List.mem_of_getElem? (i := 1236) (by decide +kernel)⟩
theorem lw_p99 : lw_okq (⟨"GooseIce$Crew", "evenPart", "(I)I"⟩, 10) := ⟨⟨by decide +kernel, by decide +kernel⟩, List.mem_of_getElem? (i := 210) (by decide +kernel), List.mem_of_getElem? (i := 1252) (by decide +kernel), List.mem_of_getElem? (i := 1253) (by decide +kernel)⟩
theorem lw_p100 : lw_okq (⟨"GooseIce$Crew", "weightOf", "(I)I"⟩, 10) := ⟨⟨by decide +kernel, by decide +kernel⟩, List.mem_of_getElem? (i := 210) (by decide +kernel), List.mem_of_getElem? (i := 1256) (by decide +kernel), List.mem_of_getElem? (i := 1257) (by decide +kernel)⟩
theorem lw_p101 : lw_okq (⟨"GooseIce$Crew", "fewestGroups", "(II[I)I"⟩, 10) := ⟨⟨by decide +kernel, by decide +kernel⟩, List.mem_of_getElem? (i := 210) (by decide +kernel), List.mem_of_getElem? (i := 1273) (by decide +kernel), List.mem_of_getElem? (i := 1274) (by decide +kernel)⟩
theorem lw_p102 : lw_okq (⟨"GooseIce$Crew", "bestLast", "(II[I)I"⟩, 10) := ⟨⟨by decide +kernel, by decide +kernel⟩, List.mem_of_getElem? (i := 210) (by decide +kernel), List.mem_of_getElem? (i := 1277) (by decide +kernel), List.mem_of_getElem? (i := 1278) (by decide +kernel)⟩
theorem lw_p103 : lw_okq (⟨"GooseIce$Paths", "whoMayHaveCracked", "(LGooseIce$Lake;I)I"⟩, 6) := ⟨⟨by decide +kernel, by decide +kernel⟩, List.mem_of_getElem? (i := 388) (by decide +kernel), List.mem_of_getElem? (i := 1307) (by decide +kernel), List.mem_of_getElem? (i := 1308) (by decide +kernel)⟩
theorem lw_p104 : lw_okq (⟨"GooseIce$Paths", "crosses", "(LGooseIce$Lake;II)Z"⟩, 6) := ⟨⟨by decide +kernel, by decide +kernel⟩, List.mem_of_getElem? (i := 388) (by decide +kernel), List.mem_of_getElem? (i := 1316) (by decide +kernel), List.mem_of_getElem? (i := 1317) (by decide +kernel)⟩
theorem lw_p105 : lw_okq (⟨"GooseIce$Paths", "crossesFrom", "(LGooseIce$Lake;III)Z"⟩, 6) := ⟨⟨by decide +kernel, by decide +kernel⟩, List.mem_of_getElem? (i := 388) (by decide +kernel), List.mem_of_getElem? (i := 1321) (by decide +kernel), List.mem_of_getElem? (i := 1322) (by decide +kernel)⟩
theorem lw_p106 : lw_okq (⟨"GooseIce$Paths", "lastOf", "(LGooseIce$Lake;II)I"⟩, 6) := ⟨⟨by decide +kernel, by decide +kernel⟩, List.mem_of_getElem? (i := 388) (by decide +kernel), List.mem_of_getElem? (i := 1325) (by decide +kernel), List.mem_of_getElem? (i := 1326) (by decide +kernel)⟩
theorem lw_p107 : lw_okq (⟨"GooseIce$Days", "spread", "(IIII)V"⟩, 3) := ⟨⟨by decide +kernel, by decide +kernel⟩, List.mem_of_getElem? (i := 464) (by decide +kernel), List.mem_of_getElem? (i := 1336) (by decide +kernel), List.mem_of_getElem? (i := 1337) (by decide +kernel)⟩
theorem lw_p108 : lw_okq (⟨"GooseIce$Days", "valueAt", "(I)I"⟩, 3) := ⟨⟨by decide +kernel, by decide +kernel⟩, List.mem_of_getElem? (i := 464) (by decide +kernel), List.mem_of_getElem? (i := 1341) (by decide +kernel), List.mem_of_getElem? (i := 1342) (by decide +kernel)⟩
theorem lw_p109 : lw_okq (⟨"GooseIce$Days", "atLeast", "(I)J"⟩, 3) := ⟨⟨by decide +kernel, by decide +kernel⟩, List.mem_of_getElem? (i := 464) (by decide +kernel), List.mem_of_getElem? (i := 1346) (by decide +kernel), List.mem_of_getElem? (i := 1347) (by decide +kernel)⟩
theorem lw_p110 : lw_okq (⟨"GooseIce", "tell", "(JJ)V"⟩, 20) := ⟨⟨by decide +kernel, by decide +kernel⟩, List.mem_of_getElem? (i := 23) (by decide +kernel), List.mem_of_getElem? (i := 1353) (by decide +kernel), List.mem_of_getElem? (i := 1354) (by decide +kernel)⟩
theorem lw_p111 : lw_okq (⟨"GooseIce$Days", "sum", "()J"⟩, 3) := ⟨⟨by decide +kernel, by decide +kernel⟩, List.mem_of_getElem? (i := 464) (by decide +kernel), List.mem_of_getElem? (i := 1366) (by decide +kernel), List.mem_of_getElem? (i := 1367) (by decide +kernel)⟩
def lw_privs_7 : List (MethodName × Nat) := [(⟨"GooseIce$Queue", "startFirst", "(LGooseIce$Lake;)V"⟩, 11), (⟨"GooseIce$Queue", "tryGaps", "(II)V"⟩, 11), (⟨"GooseIce$Queue", "finish", "(LGooseIce$Lake;I)V"⟩, 11), (⟨"GooseIce$Crew", "evenPart", "(I)I"⟩, 10), (⟨"GooseIce$Crew", "weightOf", "(I)I"⟩, 10), (⟨"GooseIce$Crew", "fewestGroups", "(II[I)I"⟩, 10), (⟨"GooseIce$Crew", "bestLast", "(II[I)I"⟩, 10), (⟨"GooseIce$Paths", "whoMayHaveCracked", "(LGooseIce$Lake;I)I"⟩, 6), (⟨"GooseIce$Paths", "crosses", "(LGooseIce$Lake;II)Z"⟩, 6), (⟨"GooseIce$Paths", "crossesFrom", "(LGooseIce$Lake;III)Z"⟩, 6), (⟨"GooseIce$Paths", "lastOf", "(LGooseIce$Lake;II)I"⟩, 6), (⟨"GooseIce$Days", "spread", "(IIII)V"⟩, 3), (⟨"GooseIce$Days", "valueAt", "(I)I"⟩, 3), (⟨"GooseIce$Days", "atLeast", "(I)J"⟩, 3), (⟨"GooseIce", "tell", "(JJ)V"⟩, 20), (⟨"GooseIce$Days", "sum", "()J"⟩, 3)]
theorem lw_r7 : ∀ q ∈ lw_privs_7, lw_okq q := List.forall_mem_cons.mpr ⟨lw_p96, List.forall_mem_cons.mpr ⟨lw_p97, List.forall_mem_cons.mpr ⟨lw_p98, List.forall_mem_cons.mpr ⟨lw_p99, List.forall_mem_cons.mpr ⟨lw_p100, List.forall_mem_cons.mpr ⟨lw_p101, List.forall_mem_cons.mpr ⟨lw_p102, List.forall_mem_cons.mpr ⟨lw_p103, List.forall_mem_cons.mpr ⟨lw_p104, List.forall_mem_cons.mpr ⟨lw_p105, List.forall_mem_cons.mpr ⟨lw_p106, List.forall_mem_cons.mpr ⟨lw_p107, List.forall_mem_cons.mpr ⟨lw_p108, List.forall_mem_cons.mpr ⟨lw_p109, List.forall_mem_cons.mpr ⟨lw_p110, List.forall_mem_cons.mpr ⟨lw_p111, fun _ h => absurd h List.not_mem_nil⟩⟩⟩⟩⟩⟩⟩⟩⟩⟩⟩⟩⟩⟩⟩⟩
theorem lw_p112 : lw_okq (⟨"GooseIce$Life", "run", "(LGooseIce$Lake;LGooseIce$Tales;I)I"⟩, 11) := ⟨⟨by decide +kernel, by decide +kernel⟩, List.mem_of_getElem? (i := 480) (by decide +kernel), List.mem_of_getElem? (i := 1374) (by decide +kernel), List.mem_of_getElem? (i := 1375) (by decide +kernel)⟩
theorem lw_p113 : lw_okq (⟨"GooseIce$Life", "act", "(LGooseIce$Lake;LGooseIce$Tales;I)I"⟩, 11) := ⟨⟨by decide +kernel, by decide +kernel⟩, List.mem_of_getElem? (i := 480) (by decide +kernel), List.mem_of_getElem? (i := 1378) (by decide +kernel), List.mem_of_getElem? (i := 1379) (by decide +kernel)⟩
theorem lw_p114 : lw_okq (⟨"GooseIce$Life", "trySend", "(LGooseIce$Lake;II)V"⟩, 11) := ⟨⟨by decide +kernel, by decide +kernel⟩, List.mem_of_getElem? (i := 480) (by decide +kernel), List.mem_of_getElem? (i := 1382) (by decide +kernel), List.mem_of_getElem? (i := 1383) (by decide +kernel)⟩
theorem lw_p115 : lw_okq (⟨"GooseIce$Life", "draw", "(I)I"⟩, 11) := ⟨⟨by decide +kernel, by decide +kernel⟩, List.mem_of_getElem? (i := 480) (by decide +kernel), List.mem_of_getElem? (i := 1396) (by decide +kernel), List.mem_of_getElem? (i := 1397) (by decide +kernel)⟩
theorem lw_p116 : lw_okq (⟨"GooseIce$Life", "beginLoop", "(LGooseIce$Tales;I)V"⟩, 11) := ⟨⟨by decide +kernel, by decide +kernel⟩, List.mem_of_getElem? (i := 480) (by decide +kernel), List.mem_of_getElem? (i := 1406) (by decide +kernel), List.mem_of_getElem? (i := 1407) (by decide +kernel)⟩
theorem lw_p117 : lw_okq (⟨"GooseIce$Life", "backToLoop", "(LGooseIce$Tales;I)I"⟩, 11) := ⟨⟨by decide +kernel, by decide +kernel⟩, List.mem_of_getElem? (i := 480) (by decide +kernel), List.mem_of_getElem? (i := 1410) (by decide +kernel), List.mem_of_getElem? (i := 1411) (by decide +kernel)⟩
theorem lw_p118 : lw_okq (⟨"GooseIceModel", "plain", "(I)V"⟩, 43) := ⟨⟨by decide +kernel, by decide +kernel⟩, List.mem_of_getElem? (i := 1430) (by decide +kernel), List.mem_of_getElem? (i := 1436) (by decide +kernel), List.mem_of_getElem? (i := 1437) (by decide +kernel)⟩
theorem lw_p119 : lw_okq (⟨"GooseIceModel", "is", "(I)Z"⟩, 43) := ⟨⟨by decide +kernel, by decide +kernel⟩, List.mem_of_getElem? (i := 1430) (by decide +kernel), List.mem_of_getElem? (i := 1589) (by decide +kernel), List.mem_of_getElem? (i := 1590) (by decide +kernel)⟩
theorem lw_p120 : lw_okq (⟨"GooseIceModel", "wrongPlace", "(II)I"⟩, 43) := ⟨⟨by decide +kernel, by decide +kernel⟩, List.mem_of_getElem? (i := 1430) (by decide +kernel), List.mem_of_getElem? (i := 1597) (by decide +kernel), List.mem_of_getElem? (i := 1598) (by decide +kernel)⟩
theorem lw_p121 : lw_okq (⟨"GooseIceModel", "four", "(I)V"⟩, 43) := ⟨⟨by decide +kernel, by decide +kernel⟩, List.mem_of_getElem? (i := 1430) (by decide +kernel), List.mem_of_getElem? (i := 1617) (by decide +kernel), List.mem_of_getElem? (i := 1618) (by decide +kernel)⟩
theorem lw_p122 : lw_okq (⟨"GooseIceModel", "begins", "(II)Z"⟩, 43) := ⟨⟨by decide +kernel, by decide +kernel⟩, List.mem_of_getElem? (i := 1430) (by decide +kernel), List.mem_of_getElem? (i := 1629) (by decide +kernel), List.mem_of_getElem? (i := 1630) (by decide +kernel)⟩
theorem lw_p123 : lw_okq (⟨"GooseIceModel", "ahead", "()V"⟩, 43) := ⟨⟨by decide +kernel, by decide +kernel⟩, List.mem_of_getElem? (i := 1430) (by decide +kernel), List.mem_of_getElem? (i := 1633) (by decide +kernel), List.mem_of_getElem? (i := 1634) (by decide +kernel)⟩
theorem lw_p124 : lw_okq (⟨"GooseIceModel", "byteAt", "(I)I"⟩, 43) := ⟨⟨by decide +kernel, by decide +kernel⟩, List.mem_of_getElem? (i := 1430) (by decide +kernel), List.mem_of_getElem? (i := 1637) (by decide +kernel), List.mem_of_getElem? (i := 1638) (by decide +kernel)⟩
theorem lw_p125 : lw_okq (⟨"GooseIceModel", "refuse", "(I)I"⟩, 43) := ⟨⟨by decide +kernel, by decide +kernel⟩, List.mem_of_getElem? (i := 1430) (by decide +kernel), List.mem_of_getElem? (i := 1649) (by decide +kernel), List.mem_of_getElem? (i := 1650) (by decide +kernel)⟩
theorem lw_p126 : lw_okq (⟨"GooseIceModel", "lakePart", "()Z"⟩, 43) := ⟨⟨by decide +kernel, by decide +kernel⟩, List.mem_of_getElem? (i := 1430) (by decide +kernel), List.mem_of_getElem? (i := 1653) (by decide +kernel), List.mem_of_getElem? (i := 1654) (by decide +kernel)⟩
theorem lw_p127 : lw_okq (⟨"GooseIceModel", "inWords", "(Ljava/lang/String;)I"⟩, 43) := ⟨⟨by decide +kernel, by decide +kernel⟩, List.mem_of_getElem? (i := 1430) (by decide +kernel), List.mem_of_getElem? (i := 1658) (by decide +kernel), List.mem_of_getElem? (i := 1659) (by decide +kernel)⟩
def lw_privs_8 : List (MethodName × Nat) := [(⟨"GooseIce$Life", "run", "(LGooseIce$Lake;LGooseIce$Tales;I)I"⟩, 11), (⟨"GooseIce$Life", "act", "(LGooseIce$Lake;LGooseIce$Tales;I)I"⟩, 11), (⟨"GooseIce$Life", "trySend", "(LGooseIce$Lake;II)V"⟩, 11), (⟨"GooseIce$Life", "draw", "(I)I"⟩, 11), (⟨"GooseIce$Life", "beginLoop", "(LGooseIce$Tales;I)V"⟩, 11), (⟨"GooseIce$Life", "backToLoop", "(LGooseIce$Tales;I)I"⟩, 11), (⟨"GooseIceModel", "plain", "(I)V"⟩, 43), (⟨"GooseIceModel", "is", "(I)Z"⟩, 43), (⟨"GooseIceModel", "wrongPlace", "(II)I"⟩, 43), (⟨"GooseIceModel", "four", "(I)V"⟩, 43), (⟨"GooseIceModel", "begins", "(II)Z"⟩, 43), (⟨"GooseIceModel", "ahead", "()V"⟩, 43), (⟨"GooseIceModel", "byteAt", "(I)I"⟩, 43), (⟨"GooseIceModel", "refuse", "(I)I"⟩, 43), (⟨"GooseIceModel", "lakePart", "()Z"⟩, 43), (⟨"GooseIceModel", "inWords", "(Ljava/lang/String;)I"⟩, 43)]
theorem lw_r8 : ∀ q ∈ lw_privs_8, lw_okq q := List.forall_mem_cons.mpr ⟨lw_p112, List.forall_mem_cons.mpr ⟨lw_p113, List.forall_mem_cons.mpr ⟨lw_p114, List.forall_mem_cons.mpr ⟨lw_p115, List.forall_mem_cons.mpr ⟨lw_p116, List.forall_mem_cons.mpr ⟨lw_p117, List.forall_mem_cons.mpr ⟨lw_p118, List.forall_mem_cons.mpr ⟨lw_p119, List.forall_mem_cons.mpr ⟨lw_p120, List.forall_mem_cons.mpr ⟨lw_p121, List.forall_mem_cons.mpr ⟨lw_p122, List.forall_mem_cons.mpr ⟨lw_p123, List.forall_mem_cons.mpr ⟨lw_p124, List.forall_mem_cons.mpr ⟨lw_p125, List.forall_mem_cons.mpr ⟨lw_p126, List.forall_mem_cons.mpr ⟨lw_p127, fun _ h => absurd h List.not_mem_nil⟩⟩⟩⟩⟩⟩⟩⟩⟩⟩⟩⟩⟩⟩⟩⟩
theorem lw_p128 : lw_okq (⟨"GooseIceModel", "aCell", "(Z)Z"⟩, 43) := ⟨⟨by decide +kernel, by decide +kernel⟩, List.mem_of_getElem? (i := 1430) (by decide +kernel), List.mem_of_getElem? (i := 1664) (by decide +kernel), List.mem_of_getElem? (i := 1665) (by decide +kernel)⟩
theorem lw_p129 : lw_okq (⟨"GooseIceModel", "newOne", "(III)Z"⟩, 43) := ⟨⟨by decide +kernel, by decide +kernel⟩, List.mem_of_getElem? (i := 1430) (by decide +kernel), List.mem_of_getElem? (i := 1668) (by decide +kernel), List.mem_of_getElem? (i := 1669) (by decide +kernel)⟩
theorem lw_p130 : lw_okq (⟨"GooseIceModel", "fails", "(I)Z"⟩, 43) := ⟨⟨by decide +kernel, by decide +kernel⟩, List.mem_of_getElem? (i := 1430) (by decide +kernel), List.mem_of_getElem? (i := 1672) (by decide +kernel), List.mem_of_getElem? (i := 1673) (by decide +kernel)⟩
theorem lw_p131 : lw_okq (⟨"GooseIceModel", "isName", "(Ljava/lang/String;)Z"⟩, 43) := ⟨⟨by decide +kernel, by decide +kernel⟩, List.mem_of_getElem? (i := 1430) (by decide +kernel), List.mem_of_getElem? (i := 1676) (by decide +kernel), List.mem_of_getElem? (i := 1677) (by decide +kernel)⟩
theorem lw_p132 : lw_okq (⟨"GooseIceModel", "findHere", "(II)I"⟩, 43) := ⟨⟨by decide +kernel, by decide +kernel⟩, List.mem_of_getElem? (i := 1430) (by decide +kernel), List.mem_of_getElem? (i := 1680) (by decide +kernel), List.mem_of_getElem? (i := 1681) (by decide +kernel)⟩
theorem lw_p133 : lw_okq (⟨"GooseIceModel", "nameHere", "()J"⟩, 43) := ⟨⟨by decide +kernel, by decide +kernel⟩, List.mem_of_getElem? (i := 1430) (by decide +kernel), List.mem_of_getElem? (i := 1684) (by decide +kernel), List.mem_of_getElem? (i := 1685) (by decide +kernel)⟩
theorem lw_p134 : lw_okq (⟨"GooseIceModel", "wantWord", "(Ljava/lang/String;I)Z"⟩, 43) := ⟨⟨by decide +kernel, by decide +kernel⟩, List.mem_of_getElem? (i := 1430) (by decide +kernel), List.mem_of_getElem? (i := 1688) (by decide +kernel), List.mem_of_getElem? (i := 1689) (by decide +kernel)⟩
theorem lw_p135 : lw_okq (⟨"GooseIceModel", "number", "(III)Z"⟩, 43) := ⟨⟨by decide +kernel, by decide +kernel⟩, List.mem_of_getElem? (i := 1430) (by decide +kernel), List.mem_of_getElem? (i := 1692) (by decide +kernel), List.mem_of_getElem? (i := 1693) (by decide +kernel)⟩
theorem lw_p136 : lw_okq (⟨"GooseIceModel", "aCouple", "(I)Z"⟩, 43) := ⟨⟨by decide +kernel, by decide +kernel⟩, List.mem_of_getElem? (i := 1430) (by decide +kernel), List.mem_of_getElem? (i := 1696) (by decide +kernel), List.mem_of_getElem? (i := 1697) (by decide +kernel)⟩
theorem lw_p137 : lw_okq (⟨"GooseIceModel", "cellHere", "()I"⟩, 43) := ⟨⟨by decide +kernel, by decide +kernel⟩, List.mem_of_getElem? (i := 1430) (by decide +kernel), List.mem_of_getElem? (i := 1700) (by decide +kernel), List.mem_of_getElem? (i := 1701) (by decide +kernel)⟩
theorem lw_p138 : lw_okq (⟨"GooseIceModel", "isNewShore", "(I)Z"⟩, 43) := ⟨⟨by decide +kernel, by decide +kernel⟩, List.mem_of_getElem? (i := 1430) (by decide +kernel), List.mem_of_getElem? (i := 1704) (by decide +kernel), List.mem_of_getElem? (i := 1705) (by decide +kernel)⟩
theorem lw_p139 : lw_okq (⟨"GooseIceModel", "oldOne", "(III)Z"⟩, 43) := ⟨⟨by decide +kernel, by decide +kernel⟩, List.mem_of_getElem? (i := 1430) (by decide +kernel), List.mem_of_getElem? (i := 1708) (by decide +kernel), List.mem_of_getElem? (i := 1709) (by decide +kernel)⟩
theorem lw_p140 : lw_okq (⟨"GooseIceModel", "aWalker", "()Z"⟩, 43) := ⟨⟨by decide +kernel, by decide +kernel⟩, List.mem_of_getElem? (i := 1430) (by decide +kernel), List.mem_of_getElem? (i := 1712) (by decide +kernel), List.mem_of_getElem? (i := 1713) (by decide +kernel)⟩
theorem lw_p141 : lw_okq (⟨"GooseIceModel", "once", "(I)Z"⟩, 43) := ⟨⟨by decide +kernel, by decide +kernel⟩, List.mem_of_getElem? (i := 1430) (by decide +kernel), List.mem_of_getElem? (i := 1716) (by decide +kernel), List.mem_of_getElem? (i := 1717) (by decide +kernel)⟩
theorem lw_p142 : lw_okq (⟨"GooseIceModel", "wantSign", "(I)Z"⟩, 43) := ⟨⟨by decide +kernel, by decide +kernel⟩, List.mem_of_getElem? (i := 1430) (by decide +kernel), List.mem_of_getElem? (i := 1720) (by decide +kernel), List.mem_of_getElem? (i := 1721) (by decide +kernel)⟩
theorem lw_p143 : lw_okq (⟨"GooseIceModel", "isSign", "(I)Z"⟩, 43) := ⟨⟨by decide +kernel, by decide +kernel⟩, List.mem_of_getElem? (i := 1430) (by decide +kernel), List.mem_of_getElem? (i := 1724) (by decide +kernel), List.mem_of_getElem? (i := 1725) (by decide +kernel)⟩
def lw_privs_9 : List (MethodName × Nat) := [(⟨"GooseIceModel", "aCell", "(Z)Z"⟩, 43), (⟨"GooseIceModel", "newOne", "(III)Z"⟩, 43), (⟨"GooseIceModel", "fails", "(I)Z"⟩, 43), (⟨"GooseIceModel", "isName", "(Ljava/lang/String;)Z"⟩, 43), (⟨"GooseIceModel", "findHere", "(II)I"⟩, 43), (⟨"GooseIceModel", "nameHere", "()J"⟩, 43), (⟨"GooseIceModel", "wantWord", "(Ljava/lang/String;I)Z"⟩, 43), (⟨"GooseIceModel", "number", "(III)Z"⟩, 43), (⟨"GooseIceModel", "aCouple", "(I)Z"⟩, 43), (⟨"GooseIceModel", "cellHere", "()I"⟩, 43), (⟨"GooseIceModel", "isNewShore", "(I)Z"⟩, 43), (⟨"GooseIceModel", "oldOne", "(III)Z"⟩, 43), (⟨"GooseIceModel", "aWalker", "()Z"⟩, 43), (⟨"GooseIceModel", "once", "(I)Z"⟩, 43), (⟨"GooseIceModel", "wantSign", "(I)Z"⟩, 43), (⟨"GooseIceModel", "isSign", "(I)Z"⟩, 43)]
theorem lw_r9 : ∀ q ∈ lw_privs_9, lw_okq q := List.forall_mem_cons.mpr ⟨lw_p128, List.forall_mem_cons.mpr ⟨lw_p129, List.forall_mem_cons.mpr ⟨lw_p130, List.forall_mem_cons.mpr ⟨lw_p131, List.forall_mem_cons.mpr ⟨lw_p132, List.forall_mem_cons.mpr ⟨lw_p133, List.forall_mem_cons.mpr ⟨lw_p134, List.forall_mem_cons.mpr ⟨lw_p135, List.forall_mem_cons.mpr ⟨lw_p136, List.forall_mem_cons.mpr ⟨lw_p137, List.forall_mem_cons.mpr ⟨lw_p138, List.forall_mem_cons.mpr ⟨lw_p139, List.forall_mem_cons.mpr ⟨lw_p140, List.forall_mem_cons.mpr ⟨lw_p141, List.forall_mem_cons.mpr ⟨lw_p142, List.forall_mem_cons.mpr ⟨lw_p143, fun _ h => absurd h List.not_mem_nil⟩⟩⟩⟩⟩⟩⟩⟩⟩⟩⟩⟩⟩⟩⟩⟩
theorem lw_p144 : lw_okq (⟨"GooseIceModel", "taken", "(I)I"⟩, 43) := ⟨⟨by decide +kernel, by decide +kernel⟩, List.mem_of_getElem? (i := 1430) (by decide +kernel), List.mem_of_getElem? (i := 1728) (by decide +kernel), List.mem_of_getElem? (i := 1729) (by decide +kernel)⟩
theorem lw_p145 : lw_okq (⟨"GooseIceModel", "gives", "(I)I"⟩, 43) := ⟨⟨by decide +kernel, by decide +kernel⟩, List.mem_of_getElem? (i := 1430) (by decide +kernel), List.mem_of_getElem? (i := 1732) (by decide +kernel), List.mem_of_getElem? (i := 1733) (by decide +kernel)⟩
theorem lw_p146 : lw_okq (⟨"GooseIceModel", "taleStep", "()Z"⟩, 43) := ⟨⟨by decide +kernel, by decide +kernel⟩, List.mem_of_getElem? (i := 1430) (by decide +kernel), List.mem_of_getElem? (i := 1740) (by decide +kernel), List.mem_of_getElem? (i := 1741) (by decide +kernel)⟩
theorem lw_p147 : lw_okq (⟨"GooseIceModel", "taleOrder", "(II)Z"⟩, 43) := ⟨⟨by decide +kernel, by decide +kernel⟩, List.mem_of_getElem? (i := 1430) (by decide +kernel), List.mem_of_getElem? (i := 1744) (by decide +kernel), List.mem_of_getElem? (i := 1745) (by decide +kernel)⟩
theorem lw_p148 : lw_okq (⟨"GooseIceModel", "walkerTo", "(I)Z"⟩, 43) := ⟨⟨by decide +kernel, by decide +kernel⟩, List.mem_of_getElem? (i := 1430) (by decide +kernel), List.mem_of_getElem? (i := 1748) (by decide +kernel), List.mem_of_getElem? (i := 1749) (by decide +kernel)⟩
theorem lw_p149 : lw_okq (⟨"GooseIceModel", "cellTo", "(I)Z"⟩, 43) := ⟨⟨by decide +kernel, by decide +kernel⟩, List.mem_of_getElem? (i := 1430) (by decide +kernel), List.mem_of_getElem? (i := 1752) (by decide +kernel), List.mem_of_getElem? (i := 1753) (by decide +kernel)⟩
theorem lw_p150 : lw_okq (⟨"GooseIceModel", "test", "(I)Z"⟩, 43) := ⟨⟨by decide +kernel, by decide +kernel⟩, List.mem_of_getElem? (i := 1430) (by decide +kernel), List.mem_of_getElem? (i := 1756) (by decide +kernel), List.mem_of_getElem? (i := 1757) (by decide +kernel)⟩
theorem lw_p151 : lw_okq (⟨"GooseIceModel", "setOf", "(I)I"⟩, 43) := ⟨⟨by decide +kernel, by decide +kernel⟩, List.mem_of_getElem? (i := 1430) (by decide +kernel), List.mem_of_getElem? (i := 1764) (by decide +kernel), List.mem_of_getElem? (i := 1765) (by decide +kernel)⟩
theorem lw_p152 : lw_okq (⟨"GooseIceModel", "isShore", "(I)Z"⟩, 43) := ⟨⟨by decide +kernel, by decide +kernel⟩, List.mem_of_getElem? (i := 1430) (by decide +kernel), List.mem_of_getElem? (i := 1768) (by decide +kernel), List.mem_of_getElem? (i := 1769) (by decide +kernel)⟩
theorem lw_p153 : lw_okq (⟨"GooseIceModel", "isBroken", "(I)Z"⟩, 43) := ⟨⟨by decide +kernel, by decide +kernel⟩, List.mem_of_getElem? (i := 1430) (by decide +kernel), List.mem_of_getElem? (i := 1775) (by decide +kernel), List.mem_of_getElem? (i := 1776) (by decide +kernel)⟩
theorem lw_p154 : lw_okq (⟨"GooseIceModel", "isWet", "(I)Z"⟩, 43) := ⟨⟨by decide +kernel, by decide +kernel⟩, List.mem_of_getElem? (i := 1430) (by decide +kernel), List.mem_of_getElem? (i := 1779) (by decide +kernel), List.mem_of_getElem? (i := 1780) (by decide +kernel)⟩
theorem lw_p155 : lw_okq (⟨"GooseIceModel", "leftOf", "(I)I"⟩, 43) := ⟨⟨by decide +kernel, by decide +kernel⟩, List.mem_of_getElem? (i := 1430) (by decide +kernel), List.mem_of_getElem? (i := 1786) (by decide +kernel), List.mem_of_getElem? (i := 1787) (by decide +kernel)⟩
theorem lw_p156 : lw_okq (⟨"GooseIceModel", "isIce", "(I)Z"⟩, 43) := ⟨⟨by decide +kernel, by decide +kernel⟩, List.mem_of_getElem? (i := 1430) (by decide +kernel), List.mem_of_getElem? (i := 1794) (by decide +kernel), List.mem_of_getElem? (i := 1795) (by decide +kernel)⟩
theorem lw_p157 : lw_okq (⟨"GooseIceModel", "isCell", "(J)Z"⟩, 43) := ⟨⟨by decide +kernel, by decide +kernel⟩, List.mem_of_getElem? (i := 1430) (by decide +kernel), List.mem_of_getElem? (i := 1798) (by decide +kernel), List.mem_of_getElem? (i := 1799) (by decide +kernel)⟩
theorem lw_p158 : lw_okq (⟨"GooseIceModel", "strengthOf", "(I)I"⟩, 43) := ⟨⟨by decide +kernel, by decide +kernel⟩, List.mem_of_getElem? (i := 1430) (by decide +kernel), List.mem_of_getElem? (i := 1802) (by decide +kernel), List.mem_of_getElem? (i := 1803) (by decide +kernel)⟩
theorem lw_p159 : lw_okq (⟨"GooseIceModel", "cameLately", "(I)I"⟩, 43) := ⟨⟨by decide +kernel, by decide +kernel⟩, List.mem_of_getElem? (i := 1430) (by decide +kernel), List.mem_of_getElem? (i := 1806) (by decide +kernel), List.mem_of_getElem? (i := 1807) (by decide +kernel)⟩
def lw_privs_10 : List (MethodName × Nat) := [(⟨"GooseIceModel", "taken", "(I)I"⟩, 43), (⟨"GooseIceModel", "gives", "(I)I"⟩, 43), (⟨"GooseIceModel", "taleStep", "()Z"⟩, 43), (⟨"GooseIceModel", "taleOrder", "(II)Z"⟩, 43), (⟨"GooseIceModel", "walkerTo", "(I)Z"⟩, 43), (⟨"GooseIceModel", "cellTo", "(I)Z"⟩, 43), (⟨"GooseIceModel", "test", "(I)Z"⟩, 43), (⟨"GooseIceModel", "setOf", "(I)I"⟩, 43), (⟨"GooseIceModel", "isShore", "(I)Z"⟩, 43), (⟨"GooseIceModel", "isBroken", "(I)Z"⟩, 43), (⟨"GooseIceModel", "isWet", "(I)Z"⟩, 43), (⟨"GooseIceModel", "leftOf", "(I)I"⟩, 43), (⟨"GooseIceModel", "isIce", "(I)Z"⟩, 43), (⟨"GooseIceModel", "isCell", "(J)Z"⟩, 43), (⟨"GooseIceModel", "strengthOf", "(I)I"⟩, 43), (⟨"GooseIceModel", "cameLately", "(I)I"⟩, 43)]
theorem lw_r10 : ∀ q ∈ lw_privs_10, lw_okq q := List.forall_mem_cons.mpr ⟨lw_p144, List.forall_mem_cons.mpr ⟨lw_p145, List.forall_mem_cons.mpr ⟨lw_p146, List.forall_mem_cons.mpr ⟨lw_p147, List.forall_mem_cons.mpr ⟨lw_p148, List.forall_mem_cons.mpr ⟨lw_p149, List.forall_mem_cons.mpr ⟨lw_p150, List.forall_mem_cons.mpr ⟨lw_p151, List.forall_mem_cons.mpr ⟨lw_p152, List.forall_mem_cons.mpr ⟨lw_p153, List.forall_mem_cons.mpr ⟨lw_p154, List.forall_mem_cons.mpr ⟨lw_p155, List.forall_mem_cons.mpr ⟨lw_p156, List.forall_mem_cons.mpr ⟨lw_p157, List.forall_mem_cons.mpr ⟨lw_p158, List.forall_mem_cons.mpr ⟨lw_p159, fun _ h => absurd h List.not_mem_nil⟩⟩⟩⟩⟩⟩⟩⟩⟩⟩⟩⟩⟩⟩⟩⟩
theorem lw_p160 : lw_okq (⟨"GooseIceModel", "cameAgo", "(II)I"⟩, 43) := ⟨⟨by decide +kernel, by decide +kernel⟩, List.mem_of_getElem? (i := 1430) (by decide +kernel), List.mem_of_getElem? (i := 1810) (by decide +kernel), List.mem_of_getElem? (i := 1811) (by decide +kernel)⟩
theorem lw_p161 : lw_okq (⟨"GooseIceModel", "loadBut", "(II)I"⟩, 43) := ⟨⟨by decide +kernel, by decide +kernel⟩, List.mem_of_getElem? (i := 1430) (by decide +kernel), List.mem_of_getElem? (i := 1815) (by decide +kernel), List.mem_of_getElem? (i := 1816) (by decide +kernel)⟩
theorem lw_p162 : lw_okq (⟨"GooseIceModel", "whereOf", "(I)I"⟩, 43) := ⟨⟨by decide +kernel, by decide +kernel⟩, List.mem_of_getElem? (i := 1430) (by decide +kernel), List.mem_of_getElem? (i := 1819) (by decide +kernel), List.mem_of_getElem? (i := 1820) (by decide +kernel)⟩
theorem lw_p163 : lw_okq (⟨"GooseIceModel", "isIn", "(II)Z"⟩, 43) := ⟨⟨by decide +kernel, by decide +kernel⟩, List.mem_of_getElem? (i := 1430) (by decide +kernel), List.mem_of_getElem? (i := 1823) (by decide +kernel), List.mem_of_getElem? (i := 1824) (by decide +kernel)⟩
theorem lw_p164 : lw_okq (⟨"GooseIceModel", "weightOf", "(I)I"⟩, 43) := ⟨⟨by decide +kernel, by decide +kernel⟩, List.mem_of_getElem? (i := 1430) (by decide +kernel), List.mem_of_getElem? (i := 1827) (by decide +kernel), List.mem_of_getElem? (i := 1828) (by decide +kernel)⟩
theorem lw_p165 : lw_okq (⟨"GooseIceModel", "isWalker", "(I)Z"⟩, 43) := ⟨⟨by decide +kernel, by decide +kernel⟩, List.mem_of_getElem? (i := 1430) (by decide +kernel), List.mem_of_getElem? (i := 1835) (by decide +kernel), List.mem_of_getElem? (i := 1836) (by decide +kernel)⟩
theorem lw_p166 : lw_okq (⟨"GooseIceModel", "routeOf", "(II)I"⟩, 43) := ⟨⟨by decide +kernel, by decide +kernel⟩, List.mem_of_getElem? (i := 1430) (by decide +kernel), List.mem_of_getElem? (i := 1843) (by decide +kernel), List.mem_of_getElem? (i := 1844) (by decide +kernel)⟩
theorem lw_p167 : lw_okq (⟨"GooseIceModel", "areTwo", "(II)Z"⟩, 43) := ⟨⟨by decide +kernel, by decide +kernel⟩, List.mem_of_getElem? (i := 1430) (by decide +kernel), List.mem_of_getElem? (i := 1851) (by decide +kernel), List.mem_of_getElem? (i := 1852) (by decide +kernel)⟩
theorem lw_p168 : lw_okq (⟨"GooseIceModel", "isWay", "(II)Z"⟩, 43) := ⟨⟨by decide +kernel, by decide +kernel⟩, List.mem_of_getElem? (i := 1430) (by decide +kernel), List.mem_of_getElem? (i := 1855) (by decide +kernel), List.mem_of_getElem? (i := 1856) (by decide +kernel)⟩
theorem lw_p169 : lw_okq (⟨"GooseIceModel", "wrongTray", "(III)I"⟩, 43) := ⟨⟨by decide +kernel, by decide +kernel⟩, List.mem_of_getElem? (i := 1430) (by decide +kernel), List.mem_of_getElem? (i := 1871) (by decide +kernel), List.mem_of_getElem? (i := 1872) (by decide +kernel)⟩
theorem lw_p170 : lw_okq (⟨"GooseIceModel", "isRoute", "(III)Z"⟩, 43) := ⟨⟨by decide +kernel, by decide +kernel⟩, List.mem_of_getElem? (i := 1430) (by decide +kernel), List.mem_of_getElem? (i := 1878) (by decide +kernel), List.mem_of_getElem? (i := 1879) (by decide +kernel)⟩
theorem lw_p171 : lw_okq (⟨"GooseIceModel", "sets", "(III)V"⟩, 43) := ⟨⟨by decide +kernel, by decide +kernel⟩, List.mem_of_getElem? (i := 1430) (by decide +kernel), List.mem_of_getElem? (i := 1882) (by decide +kernel), List.mem_of_getElem? (i := 1883) (by decide +kernel)⟩
theorem lw_p172 : lw_okq (⟨"GooseIceModel", "areBoth", "(II)Z"⟩, 43) := ⟨⟨by decide +kernel, by decide +kernel⟩, List.mem_of_getElem? (i := 1430) (by decide +kernel), List.mem_of_getElem? (i := 1890) (by decide +kernel), List.mem_of_getElem? (i := 1891) (by decide +kernel)⟩
theorem lw_p173 : lw_okq (⟨"GooseIceModel", "sends", "(II)I"⟩, 43) := ⟨⟨by decide +kernel, by decide +kernel⟩, List.mem_of_getElem? (i := 1430) (by decide +kernel), List.mem_of_getElem? (i := 1894) (by decide +kernel), List.mem_of_getElem? (i := 1895) (by decide +kernel)⟩
theorem lw_p174 : lw_okq (⟨"GooseIceModel", "bearers", "(I)I"⟩, 43) := ⟨⟨by decide +kernel, by decide +kernel⟩, List.mem_of_getElem? (i := 1430) (by decide +kernel), List.mem_of_getElem? (i := 1898) (by decide +kernel), List.mem_of_getElem? (i := 1899) (by decide +kernel)⟩
theorem lw_p175 : lw_okq (⟨"GooseIceModel", "doesBear", "(II)Z"⟩, 43) := ⟨⟨by decide +kernel, by decide +kernel⟩, List.mem_of_getElem? (i := 1430) (by decide +kernel), List.mem_of_getElem? (i := 1902) (by decide +kernel), List.mem_of_getElem? (i := 1903) (by decide +kernel)⟩
def lw_privs_11 : List (MethodName × Nat) := [(⟨"GooseIceModel", "cameAgo", "(II)I"⟩, 43), (⟨"GooseIceModel", "loadBut", "(II)I"⟩, 43), (⟨"GooseIceModel", "whereOf", "(I)I"⟩, 43), (⟨"GooseIceModel", "isIn", "(II)Z"⟩, 43), (⟨"GooseIceModel", "weightOf", "(I)I"⟩, 43), (⟨"GooseIceModel", "isWalker", "(I)Z"⟩, 43), (⟨"GooseIceModel", "routeOf", "(II)I"⟩, 43), (⟨"GooseIceModel", "areTwo", "(II)Z"⟩, 43), (⟨"GooseIceModel", "isWay", "(II)Z"⟩, 43), (⟨"GooseIceModel", "wrongTray", "(III)I"⟩, 43), (⟨"GooseIceModel", "isRoute", "(III)Z"⟩, 43), (⟨"GooseIceModel", "sets", "(III)V"⟩, 43), (⟨"GooseIceModel", "areBoth", "(II)Z"⟩, 43), (⟨"GooseIceModel", "sends", "(II)I"⟩, 43), (⟨"GooseIceModel", "bearers", "(I)I"⟩, 43), (⟨"GooseIceModel", "doesBear", "(II)Z"⟩, 43)]
theorem lw_r11 : ∀ q ∈ lw_privs_11, lw_okq q := List.forall_mem_cons.mpr ⟨lw_p160, List.forall_mem_cons.mpr ⟨lw_p161, List.forall_mem_cons.mpr ⟨lw_p162, List.forall_mem_cons.mpr ⟨lw_p163, List.forall_mem_cons.mpr ⟨lw_p164, List.forall_mem_cons.mpr ⟨lw_p165, List.forall_mem_cons.mpr ⟨lw_p166, List.forall_mem_cons.mpr ⟨lw_p167, List.forall_mem_cons.mpr ⟨lw_p168, List.forall_mem_cons.mpr ⟨lw_p169, List.forall_mem_cons.mpr ⟨lw_p170, List.forall_mem_cons.mpr ⟨lw_p171, List.forall_mem_cons.mpr ⟨lw_p172, List.forall_mem_cons.mpr ⟨lw_p173, List.forall_mem_cons.mpr ⟨lw_p174, List.forall_mem_cons.mpr ⟨lw_p175, fun _ h => absurd h List.not_mem_nil⟩⟩⟩⟩⟩⟩⟩⟩⟩⟩⟩⟩⟩⟩⟩⟩
theorem lw_p176 : lw_okq (⟨"GooseIceModel", "marginOf", "(II)I"⟩, 43) := ⟨⟨by decide +kernel, by decide +kernel⟩, List.mem_of_getElem? (i := 1430) (by decide +kernel), List.mem_of_getElem? (i := 1906) (by decide +kernel), List.mem_of_getElem? (i := 1907) (by decide +kernel)⟩
theorem lw_p177 : lw_okq (⟨"GooseIceModel", "laysFar", "(III)I"⟩, 43) := ⟨⟨by decide +kernel, by decide +kernel⟩, List.mem_of_getElem? (i := 1430) (by decide +kernel), List.mem_of_getElem? (i := 1910) (by decide +kernel), List.mem_of_getElem? (i := 1911) (by decide +kernel)⟩
theorem lw_p178 : lw_okq (⟨"GooseIceModel", "nextOn", "(I)I"⟩, 43) := ⟨⟨by decide +kernel, by decide +kernel⟩, List.mem_of_getElem? (i := 1430) (by decide +kernel), List.mem_of_getElem? (i := 1915) (by decide +kernel), List.mem_of_getElem? (i := 1916) (by decide +kernel)⟩
theorem lw_p179 : lw_okq (⟨"GooseIceModel", "goes", "()I"⟩, 43) := ⟨⟨by decide +kernel, by decide +kernel⟩, List.mem_of_getElem? (i := 1430) (by decide +kernel), List.mem_of_getElem? (i := 1928) (by decide +kernel), List.mem_of_getElem? (i := 1929) (by decide +kernel)⟩
theorem lw_p180 : lw_okq (⟨"GooseIceModel", "walks", "(I)V"⟩, 43) := ⟨⟨by decide +kernel, by decide +kernel⟩, List.mem_of_getElem? (i := 1430) (by decide +kernel), List.mem_of_getElem? (i := 1932) (by decide +kernel), List.mem_of_getElem? (i := 1933) (by decide +kernel)⟩
theorem lw_p181 : lw_okq (⟨"GooseIceModel", "breaks", "(I)V"⟩, 43) := ⟨⟨by decide +kernel, by decide +kernel⟩, List.mem_of_getElem? (i := 1430) (by decide +kernel), List.mem_of_getElem? (i := 1936) (by decide +kernel), List.mem_of_getElem? (i := 1937) (by decide +kernel)⟩
theorem lw_p182 : lw_okq (⟨"GooseIceModel", "soaks", "(I)V"⟩, 43) := ⟨⟨by decide +kernel, by decide +kernel⟩, List.mem_of_getElem? (i := 1430) (by decide +kernel), List.mem_of_getElem? (i := 1940) (by decide +kernel), List.mem_of_getElem? (i := 1941) (by decide +kernel)⟩
theorem lw_p183 : lw_okq (⟨"GooseIceModel", "freezes", "(I)I"⟩, 43) := ⟨⟨by decide +kernel, by decide +kernel⟩, List.mem_of_getElem? (i := 1430) (by decide +kernel), List.mem_of_getElem? (i := 1948) (by decide +kernel), List.mem_of_getElem? (i := 1949) (by decide +kernel)⟩
theorem lw_p184 : lw_okq (⟨"GooseIceModel", "thaws", "(I)I"⟩, 43) := ⟨⟨by decide +kernel, by decide +kernel⟩, List.mem_of_getElem? (i := 1430) (by decide +kernel), List.mem_of_getElem? (i := 1956) (by decide +kernel), List.mem_of_getElem? (i := 1957) (by decide +kernel)⟩
theorem lw_p185 : lw_okq (⟨"GooseIceModel", "onWay", "(II)I"⟩, 43) := ⟨⟨by decide +kernel, by decide +kernel⟩, List.mem_of_getElem? (i := 1430) (by decide +kernel), List.mem_of_getElem? (i := 1996) (by decide +kernel), List.mem_of_getElem? (i := 1997) (by decide +kernel)⟩
theorem lw_p186 : lw_okq (⟨"GooseIceModel", "orNone", "(I)I"⟩, 43) := ⟨⟨by decide +kernel, by decide +kernel⟩, List.mem_of_getElem? (i := 1430) (by decide +kernel), List.mem_of_getElem? (i := 2000) (by decide +kernel), List.mem_of_getElem? (i := 2001) (by decide +kernel)⟩
theorem lw_p187 : lw_okq (⟨"GooseIceModel", "isAway", "(II)Z"⟩, 43) := ⟨⟨by decide +kernel, by decide +kernel⟩, List.mem_of_getElem? (i := 1430) (by decide +kernel), List.mem_of_getElem? (i := 2008) (by decide +kernel), List.mem_of_getElem? (i := 2009) (by decide +kernel)⟩
theorem lw_p188 : lw_okq (⟨"GooseIceModel", "laysSurest", "(II)Z"⟩, 43) := ⟨⟨by decide +kernel, by decide +kernel⟩, List.mem_of_getElem? (i := 1430) (by decide +kernel), List.mem_of_getElem? (i := 2012) (by decide +kernel), List.mem_of_getElem? (i := 2013) (by decide +kernel)⟩
theorem lw_p189 : lw_okq (⟨"GooseIceModel", "above", "(II)I"⟩, 43) := ⟨⟨by decide +kernel, by decide +kernel⟩, List.mem_of_getElem? (i := 1430) (by decide +kernel), List.mem_of_getElem? (i := 2017) (by decide +kernel), List.mem_of_getElem? (i := 2018) (by decide +kernel)⟩
theorem lw_p190 : lw_okq (⟨"GooseIceModel", "cutOf", "(II)I"⟩, 43) := ⟨⟨by decide +kernel, by decide +kernel⟩, List.mem_of_getElem? (i := 1430) (by decide +kernel), List.mem_of_getElem? (i := 2037) (by decide +kernel), List.mem_of_getElem? (i := 2038) (by decide +kernel)⟩
theorem lw_p191 : lw_okq (⟨"GooseIceModel", "keeps", "(I)V"⟩, 43) := ⟨⟨by decide +kernel, by decide +kernel⟩, List.mem_of_getElem? (i := 1430) (by decide +kernel), List.mem_of_getElem? (i := 2062) (by decide +kernel), List.mem_of_getElem? (i := 2063) (by decide +kernel)⟩
def lw_privs_12 : List (MethodName × Nat) := [(⟨"GooseIceModel", "marginOf", "(II)I"⟩, 43), (⟨"GooseIceModel", "laysFar", "(III)I"⟩, 43), (⟨"GooseIceModel", "nextOn", "(I)I"⟩, 43), (⟨"GooseIceModel", "goes", "()I"⟩, 43), (⟨"GooseIceModel", "walks", "(I)V"⟩, 43), (⟨"GooseIceModel", "breaks", "(I)V"⟩, 43), (⟨"GooseIceModel", "soaks", "(I)V"⟩, 43), (⟨"GooseIceModel", "freezes", "(I)I"⟩, 43), (⟨"GooseIceModel", "thaws", "(I)I"⟩, 43), (⟨"GooseIceModel", "onWay", "(II)I"⟩, 43), (⟨"GooseIceModel", "orNone", "(I)I"⟩, 43), (⟨"GooseIceModel", "isAway", "(II)Z"⟩, 43), (⟨"GooseIceModel", "laysSurest", "(II)Z"⟩, 43), (⟨"GooseIceModel", "above", "(II)I"⟩, 43), (⟨"GooseIceModel", "cutOf", "(II)I"⟩, 43), (⟨"GooseIceModel", "keeps", "(I)V"⟩, 43)]
theorem lw_r12 : ∀ q ∈ lw_privs_12, lw_okq q := List.forall_mem_cons.mpr ⟨lw_p176, List.forall_mem_cons.mpr ⟨lw_p177, List.forall_mem_cons.mpr ⟨lw_p178, List.forall_mem_cons.mpr ⟨lw_p179, List.forall_mem_cons.mpr ⟨lw_p180, List.forall_mem_cons.mpr ⟨lw_p181, List.forall_mem_cons.mpr ⟨lw_p182, List.forall_mem_cons.mpr ⟨lw_p183, List.forall_mem_cons.mpr ⟨lw_p184, List.forall_mem_cons.mpr ⟨lw_p185, List.forall_mem_cons.mpr ⟨lw_p186, List.forall_mem_cons.mpr ⟨lw_p187, List.forall_mem_cons.mpr ⟨lw_p188, List.forall_mem_cons.mpr ⟨lw_p189, List.forall_mem_cons.mpr ⟨lw_p190, List.forall_mem_cons.mpr ⟨lw_p191, fun _ h => absurd h List.not_mem_nil⟩⟩⟩⟩⟩⟩⟩⟩⟩⟩⟩⟩⟩⟩⟩⟩
theorem lw_p192 : lw_okq (⟨"GooseIceModel", "stills", "()V"⟩, 43) := ⟨⟨by decide +kernel, by decide +kernel⟩, List.mem_of_getElem? (i := 1430) (by decide +kernel), List.mem_of_getElem? (i := 2066) (by decide +kernel), List.mem_of_getElem? (i := 2067) (by decide +kernel)⟩
theorem lw_p193 : lw_okq (⟨"GooseIceModel", "restores", "(I)V"⟩, 43) := ⟨⟨by decide +kernel, by decide +kernel⟩, List.mem_of_getElem? (i := 1430) (by decide +kernel), List.mem_of_getElem? (i := 2070) (by decide +kernel), List.mem_of_getElem? (i := 2071) (by decide +kernel)⟩
theorem lw_p194 : lw_okq (⟨"GooseIceModel", "wrongQueue", "(III)I"⟩, 43) := ⟨⟨by decide +kernel, by decide +kernel⟩, List.mem_of_getElem? (i := 1430) (by decide +kernel), List.mem_of_getElem? (i := 2078) (by decide +kernel), List.mem_of_getElem? (i := 2079) (by decide +kernel)⟩
theorem lw_p195 : lw_okq (⟨"GooseIceModel", "queued", "(III)I"⟩, 43) := ⟨⟨by decide +kernel, by decide +kernel⟩, List.mem_of_getElem? (i := 1430) (by decide +kernel), List.mem_of_getElem? (i := 2082) (by decide +kernel), List.mem_of_getElem? (i := 2083) (by decide +kernel)⟩
theorem lw_p196 : lw_okq (⟨"GooseIceModel", "gapsOn", "(I)Z"⟩, 43) := ⟨⟨by decide +kernel, by decide +kernel⟩, List.mem_of_getElem? (i := 1430) (by decide +kernel), List.mem_of_getElem? (i := 2086) (by decide +kernel), List.mem_of_getElem? (i := 2087) (by decide +kernel)⟩
theorem lw_p197 : lw_okq (⟨"GooseIceModel", "turnsOn", "(I)Z"⟩, 43) := ⟨⟨by decide +kernel, by decide +kernel⟩, List.mem_of_getElem? (i := 1430) (by decide +kernel), List.mem_of_getElem? (i := 2090) (by decide +kernel), List.mem_of_getElem? (i := 2091) (by decide +kernel)⟩
theorem lw_p198 : lw_okq (⟨"GooseIceModel", "swaps", "(II)V"⟩, 43) := ⟨⟨by decide +kernel, by decide +kernel⟩, List.mem_of_getElem? (i := 1430) (by decide +kernel), List.mem_of_getElem? (i := 2094) (by decide +kernel), List.mem_of_getElem? (i := 2095) (by decide +kernel)⟩
theorem lw_p199 : lw_okq (⟨"GooseIceModel", "isGroup", "(I)Z"⟩, 43) := ⟨⟨by decide +kernel, by decide +kernel⟩, List.mem_of_getElem? (i := 1430) (by decide +kernel), List.mem_of_getElem? (i := 2110) (by decide +kernel), List.mem_of_getElem? (i := 2111) (by decide +kernel)⟩
theorem lw_p200 : lw_okq (⟨"GooseIceModel", "halfOf", "(I)I"⟩, 43) := ⟨⟨by decide +kernel, by decide +kernel⟩, List.mem_of_getElem? (i := 1430) (by decide +kernel), List.mem_of_getElem? (i := 2114) (by decide +kernel), List.mem_of_getElem? (i := 2115) (by decide +kernel)⟩
theorem lw_p201 : lw_okq (⟨"GooseIceModel", "apart", "(II)I"⟩, 43) := ⟨⟨by decide +kernel, by decide +kernel⟩, List.mem_of_getElem? (i := 1430) (by decide +kernel), List.mem_of_getElem? (i := 2118) (by decide +kernel), List.mem_of_getElem? (i := 2119) (by decide +kernel)⟩
theorem lw_p202 : lw_okq (⟨"GooseIceModel", "weightOfAll", "(I)I"⟩, 43) := ⟨⟨by decide +kernel, by decide +kernel⟩, List.mem_of_getElem? (i := 1430) (by decide +kernel), List.mem_of_getElem? (i := 2122) (by decide +kernel), List.mem_of_getElem? (i := 2123) (by decide +kernel)⟩
theorem lw_p203 : lw_okq (⟨"GooseIceModel", "trialsOf", "(II)I"⟩, 43) := ⟨⟨by decide +kernel, by decide +kernel⟩, List.mem_of_getElem? (i := 1430) (by decide +kernel), List.mem_of_getElem? (i := 2144) (by decide +kernel), List.mem_of_getElem? (i := 2145) (by decide +kernel)⟩
theorem lw_p204 : lw_okq (⟨"GooseIceModel", "triedAt", "(III)I"⟩, 43) := ⟨⟨by decide +kernel, by decide +kernel⟩, List.mem_of_getElem? (i := 1430) (by decide +kernel), List.mem_of_getElem? (i := 2148) (by decide +kernel), List.mem_of_getElem? (i := 2149) (by decide +kernel)⟩
theorem lw_p205 : lw_okq (⟨"GooseIceModel", "isSuspect", "(II)Z"⟩, 43) := ⟨⟨by decide +kernel, by decide +kernel⟩, List.mem_of_getElem? (i := 1430) (by decide +kernel), List.mem_of_getElem? (i := 2160) (by decide +kernel), List.mem_of_getElem? (i := 2161) (by decide +kernel)⟩
theorem lw_p206 : lw_okq (⟨"GooseIceModel", "areDays", "(IIII)Z"⟩, 43) := ⟨⟨by decide +kernel, by decide +kernel⟩, List.mem_of_getElem? (i := 1430) (by decide +kernel), List.mem_of_getElem? (i := 2168) (by decide +kernel), List.mem_of_getElem? (i := 2169) (by decide +kernel)⟩
theorem lw_p207 : lw_okq (⟨"GooseIceModel", "laysDays", "(IIII)J"⟩, 43) := ⟨⟨by decide +kernel, by decide +kernel⟩, List.mem_of_getElem? (i := 1430) (by decide +kernel), List.mem_of_getElem? (i := 2174) (by decide +kernel), List.mem_of_getElem? (i := 2175) (by decide +kernel)⟩
def lw_privs_13 : List (MethodName × Nat) := [(⟨"GooseIceModel", "stills", "()V"⟩, 43), (⟨"GooseIceModel", "restores", "(I)V"⟩, 43), (⟨"GooseIceModel", "wrongQueue", "(III)I"⟩, 43), (⟨"GooseIceModel", "queued", "(III)I"⟩, 43), (⟨"GooseIceModel", "gapsOn", "(I)Z"⟩, 43), (⟨"GooseIceModel", "turnsOn", "(I)Z"⟩, 43), (⟨"GooseIceModel", "swaps", "(II)V"⟩, 43), (⟨"GooseIceModel", "isGroup", "(I)Z"⟩, 43), (⟨"GooseIceModel", "halfOf", "(I)I"⟩, 43), (⟨"GooseIceModel", "apart", "(II)I"⟩, 43), (⟨"GooseIceModel", "weightOfAll", "(I)I"⟩, 43), (⟨"GooseIceModel", "trialsOf", "(II)I"⟩, 43), (⟨"GooseIceModel", "triedAt", "(III)I"⟩, 43), (⟨"GooseIceModel", "isSuspect", "(II)Z"⟩, 43), (⟨"GooseIceModel", "areDays", "(IIII)Z"⟩, 43), (⟨"GooseIceModel", "laysDays", "(IIII)J"⟩, 43)]
theorem lw_r13 : ∀ q ∈ lw_privs_13, lw_okq q := List.forall_mem_cons.mpr ⟨lw_p192, List.forall_mem_cons.mpr ⟨lw_p193, List.forall_mem_cons.mpr ⟨lw_p194, List.forall_mem_cons.mpr ⟨lw_p195, List.forall_mem_cons.mpr ⟨lw_p196, List.forall_mem_cons.mpr ⟨lw_p197, List.forall_mem_cons.mpr ⟨lw_p198, List.forall_mem_cons.mpr ⟨lw_p199, List.forall_mem_cons.mpr ⟨lw_p200, List.forall_mem_cons.mpr ⟨lw_p201, List.forall_mem_cons.mpr ⟨lw_p202, List.forall_mem_cons.mpr ⟨lw_p203, List.forall_mem_cons.mpr ⟨lw_p204, List.forall_mem_cons.mpr ⟨lw_p205, List.forall_mem_cons.mpr ⟨lw_p206, List.forall_mem_cons.mpr ⟨lw_p207, fun _ h => absurd h List.not_mem_nil⟩⟩⟩⟩⟩⟩⟩⟩⟩⟩⟩⟩⟩⟩⟩⟩
theorem lw_p208 : lw_okq (⟨"GooseIceModel", "bearsNow", "(I)I"⟩, 43) := ⟨⟨by decide +kernel, by decide +kernel⟩, List.mem_of_getElem? (i := 1430) (by decide +kernel), List.mem_of_getElem? (i := 2178) (by decide +kernel), List.mem_of_getElem? (i := 2179) (by decide +kernel)⟩
theorem lw_p209 : lw_okq (⟨"GooseIceModel", "waysTo", "(II)J"⟩, 43) := ⟨⟨by decide +kernel, by decide +kernel⟩, List.mem_of_getElem? (i := 1430) (by decide +kernel), List.mem_of_getElem? (i := 2182) (by decide +kernel), List.mem_of_getElem? (i := 2183) (by decide +kernel)⟩
theorem lw_p210 : lw_okq (⟨"GooseIceModel", "tellsBy", "(JJ)Z"⟩, 43) := ⟨⟨by decide +kernel, by decide +kernel⟩, List.mem_of_getElem? (i := 1430) (by decide +kernel), List.mem_of_getElem? (i := 2186) (by decide +kernel), List.mem_of_getElem? (i := 2187) (by decide +kernel)⟩
theorem lw_p211 : lw_okq (⟨"GooseIceModel", "lives", "(I)V"⟩, 43) := ⟨⟨by decide +kernel, by decide +kernel⟩, List.mem_of_getElem? (i := 1430) (by decide +kernel), List.mem_of_getElem? (i := 2203) (by decide +kernel), List.mem_of_getElem? (i := 2204) (by decide +kernel)⟩
theorem lw_p212 : lw_okq (⟨"GooseIceModel", "does", "(I)Z"⟩, 43) := ⟨⟨by decide +kernel, by decide +kernel⟩, List.mem_of_getElem? (i := 1430) (by decide +kernel), List.mem_of_getElem? (i := 2207) (by decide +kernel), List.mem_of_getElem? (i := 2208) (by decide +kernel)⟩
theorem lw_p213 : lw_okq (⟨"GooseIceModel", "sendsBy", "(II)Z"⟩, 43) := ⟨⟨by decide +kernel, by decide +kernel⟩, List.mem_of_getElem? (i := 1430) (by decide +kernel), List.mem_of_getElem? (i := 2211) (by decide +kernel), List.mem_of_getElem? (i := 2212) (by decide +kernel)⟩
theorem lw_p214 : lw_okq (⟨"GooseIceModel", "stepsOn", "(I)Z"⟩, 43) := ⟨⟨by decide +kernel, by decide +kernel⟩, List.mem_of_getElem? (i := 1430) (by decide +kernel), List.mem_of_getElem? (i := 2215) (by decide +kernel), List.mem_of_getElem? (i := 2216) (by decide +kernel)⟩
theorem lw_p215 : lw_okq (⟨"GooseIceModel", "sendsAny", "()Z"⟩, 43) := ⟨⟨by decide +kernel, by decide +kernel⟩, List.mem_of_getElem? (i := 1430) (by decide +kernel), List.mem_of_getElem? (i := 2219) (by decide +kernel), List.mem_of_getElem? (i := 2220) (by decide +kernel)⟩
theorem lw_p216 : lw_okq (⟨"GooseIceModel", "draw", "(I)I"⟩, 43) := ⟨⟨by decide +kernel, by decide +kernel⟩, List.mem_of_getElem? (i := 1430) (by decide +kernel), List.mem_of_getElem? (i := 2223) (by decide +kernel), List.mem_of_getElem? (i := 2224) (by decide +kernel)⟩
theorem lw_p217 : lw_okq (⟨"GooseIceModel", "isSo", "(I)Z"⟩, 43) := ⟨⟨by decide +kernel, by decide +kernel⟩, List.mem_of_getElem? (i := 1430) (by decide +kernel), List.mem_of_getElem? (i := 2228) (by decide +kernel), List.mem_of_getElem? (i := 2229) (by decide +kernel)⟩
theorem lw_p218 : lw_okq (⟨"GooseIceModel", "behindEnds", "(I)I"⟩, 43) := ⟨⟨by decide +kernel, by decide +kernel⟩, List.mem_of_getElem? (i := 1430) (by decide +kernel), List.mem_of_getElem? (i := 2232) (by decide +kernel), List.mem_of_getElem? (i := 2233) (by decide +kernel)⟩
theorem lw_p219 : lw_okq (⟨"GooseIceModel", "copies", "(II)V"⟩, 43) := ⟨⟨by decide +kernel, by decide +kernel⟩, List.mem_of_getElem? (i := 1430) (by decide +kernel), List.mem_of_getElem? (i := 2248) (by decide +kernel), List.mem_of_getElem? (i := 2249) (by decide +kernel)⟩
def lw_privs_14 : List (MethodName × Nat) := [(⟨"GooseIceModel", "bearsNow", "(I)I"⟩, 43), (⟨"GooseIceModel", "waysTo", "(II)J"⟩, 43), (⟨"GooseIceModel", "tellsBy", "(JJ)Z"⟩, 43), (⟨"GooseIceModel", "lives", "(I)V"⟩, 43), (⟨"GooseIceModel", "does", "(I)Z"⟩, 43), (⟨"GooseIceModel", "sendsBy", "(II)Z"⟩, 43), (⟨"GooseIceModel", "stepsOn", "(I)Z"⟩, 43), (⟨"GooseIceModel", "sendsAny", "()Z"⟩, 43), (⟨"GooseIceModel", "draw", "(I)I"⟩, 43), (⟨"GooseIceModel", "isSo", "(I)Z"⟩, 43), (⟨"GooseIceModel", "behindEnds", "(I)I"⟩, 43), (⟨"GooseIceModel", "copies", "(II)V"⟩, 43)]
theorem lw_r14 : ∀ q ∈ lw_privs_14, lw_okq q := List.forall_mem_cons.mpr ⟨lw_p208, List.forall_mem_cons.mpr ⟨lw_p209, List.forall_mem_cons.mpr ⟨lw_p210, List.forall_mem_cons.mpr ⟨lw_p211, List.forall_mem_cons.mpr ⟨lw_p212, List.forall_mem_cons.mpr ⟨lw_p213, List.forall_mem_cons.mpr ⟨lw_p214, List.forall_mem_cons.mpr ⟨lw_p215, List.forall_mem_cons.mpr ⟨lw_p216, List.forall_mem_cons.mpr ⟨lw_p217, List.forall_mem_cons.mpr ⟨lw_p218, List.forall_mem_cons.mpr ⟨lw_p219, fun _ h => absurd h List.not_mem_nil⟩⟩⟩⟩⟩⟩⟩⟩⟩⟩⟩⟩
def lw_privs : List (MethodName × Nat) := lw_privs_1 ++ (lw_privs_2 ++ (lw_privs_3 ++ (lw_privs_4 ++ (lw_privs_5 ++ (lw_privs_6 ++ (lw_privs_7 ++ (lw_privs_8 ++ (lw_privs_9 ++ (lw_privs_10 ++ (lw_privs_11 ++ (lw_privs_12 ++ (lw_privs_13 ++ (lw_privs_14)))))))))))))
def lw_tbl : List Cond := k2_sels lw_privs ++ tables_1
theorem lw_privs_ok : ∀ q ∈ lw_privs, lw_okq q := by
  show ∀ q ∈ lw_privs_1 ++ (lw_privs_2 ++ (lw_privs_3 ++ (lw_privs_4 ++ (lw_privs_5 ++ (lw_privs_6 ++ (lw_privs_7 ++ (lw_privs_8 ++ (lw_privs_9 ++ (lw_privs_10 ++ (lw_privs_11 ++ (lw_privs_12 ++ (lw_privs_13 ++ (lw_privs_14))))))))))))), lw_okq q
  exact List.forall_mem_append.mpr ⟨lw_r1, List.forall_mem_append.mpr ⟨lw_r2, List.forall_mem_append.mpr ⟨lw_r3, List.forall_mem_append.mpr ⟨lw_r4, List.forall_mem_append.mpr ⟨lw_r5, List.forall_mem_append.mpr ⟨lw_r6, List.forall_mem_append.mpr ⟨lw_r7, List.forall_mem_append.mpr ⟨lw_r8, List.forall_mem_append.mpr ⟨lw_r9, List.forall_mem_append.mpr ⟨lw_r10, List.forall_mem_append.mpr ⟨lw_r11, List.forall_mem_append.mpr ⟨lw_r12, List.forall_mem_append.mpr ⟨lw_r13, lw_r14⟩⟩⟩⟩⟩⟩⟩⟩⟩⟩⟩⟩⟩
end
section
/-! ===== rk: a symbolic executor over bytecode with an exact heap: values, what they stand for ===== -/
/-- a literal, a cell by its number, a symbol by its number, or an int symbol made wide (a long) -/
abbrev rk_V : Type := Value ⊕ (Nat ⊕ (Nat ⊕ Nat))
/-- what is known of a symbol: 0 int, 1 long; its bounds; 2 a reference -/
abbrev rk_T : Type := Nat × Int × Int
/-- a cell: an object (number of its class, fields), or an array (tag, length, what it holds but for the listed places) -/
abbrev rk_C : Type := (Nat × List rk_V) ⊕ (Nat × Nat × rk_V × List (Nat × rk_V))
def rk_A2 {α β : Type} (R : α → β → Prop) : List α → List β → Prop
  | [], [] => True
  | a :: l, b :: l' => R a b ∧ rk_A2 R l l'
  | _, _ => False
theorem rk_A2.get {α β : Type} {R : α → β → Prop} : ∀ {l : List α} {l' : List β}, rk_A2 R l l' → ∀ {i : Nat} {a : α}, l[i]? = some a → ∃ b, l'[i]? = some b ∧ R a b := by
  intro l
  induction l with
  | nil => intro l' _ i a h; simp at h
  | cons x l ih =>
    intro l' h i a hi
    cases l' with
    | nil => exact h.elim
    | cons y l' =>
      cases i with
      | zero => simp at hi; subst hi; exact ⟨y, by simp, h.1⟩
      | succ i => simp at hi ⊢; exact ih h.2 hi
theorem rk_A2.getR {α β : Type} {R : α → β → Prop} : ∀ {l : List α} {l' : List β}, rk_A2 R l l' → ∀ {i : Nat} {b : β}, l'[i]? = some b → ∃ a, l[i]? = some a ∧ R a b := by
  intro l
  induction l with
  | nil => intro l' h i b hi; cases l' with
    | nil => simp at hi
    | cons y l' => exact h.elim
  | cons x l ih =>
    intro l' h i b hi
    cases l' with
    | nil => exact h.elim
    | cons y l' =>
      cases i with
      | zero => simp at hi; subst hi; exact ⟨x, by simp, h.1⟩
      | succ i => simp at hi ⊢; exact ih h.2 hi
theorem rk_A2.len {α β : Type} {R : α → β → Prop} : ∀ {l : List α} {l' : List β}, rk_A2 R l l' → l.length = l'.length := by
  intro l
  induction l with
  | nil => intro l' h; cases l' with
    | nil => rfl
    | cons y l' => exact h.elim
  | cons x l ih => intro l' h; cases l' with
    | nil => exact h.elim
    | cons y l' => simp [ih h.2]
theorem rk_A2.mono {α β : Type} {R R' : α → β → Prop} (hR : ∀ a b, R a b → R' a b) : ∀ {l : List α} {l' : List β}, rk_A2 R l l' → rk_A2 R' l l' := by
  intro l
  induction l with
  | nil => intro l' h; cases l' with
    | nil => trivial
    | cons y l' => exact h.elim
  | cons x l ih => intro l' h; cases l' with
    | nil => exact h.elim
    | cons y l' => exact ⟨hR _ _ h.1, ih h.2⟩
theorem rk_A2.set {α β : Type} {R : α → β → Prop} {a : α} {b : β} (hr : R a b) : ∀ {l : List α} {l' : List β}, rk_A2 R l l' → ∀ (i : Nat), rk_A2 R (l.set i a) (l'.set i b) := by
  intro l
  induction l with
  | nil => intro l' h i; cases l' with
    | nil => simp [rk_A2]
    | cons y l' => exact h.elim
  | cons x l ih => intro l' h i; cases l' with
    | nil => exact h.elim
    | cons y l' => cases i with
      | zero => exact ⟨hr, h.2⟩
      | succ i => exact ⟨h.1, ih h.2 i⟩
/-- only the left one is set, at a place that fits -/
theorem rk_A2.setL {α β : Type} {R : α → β → Prop} {a : α} {b : β} (hr : R a b) : ∀ {l : List α} {l' : List β}, rk_A2 R l l' → ∀ {i : Nat}, l'[i]? = some b → rk_A2 R (l.set i a) l' := by
  intro l
  induction l with
  | nil => intro l' h i hi; cases l' with
    | nil => simp at hi
    | cons y l' => exact h.elim
  | cons x l ih => intro l' h i hi; cases l' with
    | nil => exact h.elim
    | cons y l' => cases i with
      | zero => simp at hi; subst hi; exact ⟨hr, h.2⟩
      | succ i => simp at hi; exact ⟨h.1, ih h.2 hi⟩
theorem rk_A2.app {α β : Type} {R : α → β → Prop} {k : List α} {k' : List β} (hk : rk_A2 R k k') : ∀ {l : List α} {l' : List β}, rk_A2 R l l' → rk_A2 R (l ++ k) (l' ++ k') := by
  intro l
  induction l with
  | nil => intro l' h; cases l' with
    | nil => exact hk
    | cons y l' => exact h.elim
  | cons x l ih => intro l' h; cases l' with
    | nil => exact h.elim
    | cons y l' => exact ⟨h.1, ih h.2⟩
theorem rk_A2.push {α β : Type} {R : α → β → Prop} {a : α} {b : β} {l : List α} {l' : List β} (h : rk_A2 R l l') (hr : R a b) : rk_A2 R (l ++ [a]) (l' ++ [b]) := rk_A2.app (k := [a]) (k' := [b]) ⟨hr, trivial⟩ h
theorem rk_A2.filter {α β : Type} {R : α → β → Prop} {P : α → Bool} {P' : β → Bool} (hP : ∀ a b, R a b → P a = P' b) : ∀ {l : List α} {l' : List β}, rk_A2 R l l' → rk_A2 R (l.filter P) (l'.filter P') := by
  intro l
  induction l with
  | nil => intro l' h; cases l' with
    | nil => trivial
    | cons y l' => exact h.elim
  | cons x l ih => intro l' h; cases l' with
    | nil => exact h.elim
    | cons y l' =>
      have e := hP _ _ h.1
      by_cases q : P x = true
      · rw [List.filter_cons_of_pos q, List.filter_cons_of_pos (e ▸ q)]
        exact ⟨h.1, ih h.2⟩
      · rw [List.filter_cons_of_neg q, List.filter_cons_of_neg (e ▸ q)]
        exact ih h.2
theorem rk_A2.nil {α β : Type} {R : α → β → Prop} {l' : List β} (h : rk_A2 R ([] : List α) l') : l' = [] := by
  cases l' with
  | nil => rfl
  | cons y l' => exact h.elim
theorem rk_A2.cons {α β : Type} {R : α → β → Prop} {a : α} {l : List α} {l' : List β} (h : rk_A2 R (a :: l) l') : ∃ b k, l' = b :: k ∧ R a b ∧ rk_A2 R l k := by
  cases l' with
  | nil => exact h.elim
  | cons y l' => exact ⟨y, l', rfl, h.1, h.2⟩
/-- what a value of the executor stands for -/
def rk_g (vals : List Value) (ads : List Nat) (a : rk_V) (v : Value) : Prop := match a with
  | .inl w => v = w
  | .inr (.inl j) => ∃ x, ads[j]? = some x ∧ v = .ref x
  | .inr (.inr (.inl k)) => vals[k]? = some v
  | .inr (.inr (.inr k)) => ∃ x : Int32, vals[k]? = some (.int x) ∧ v = .long x.toInt64
theorem rk_g.grow {vals vals' : List Value} {ads ads' : List Nat} {a : rk_V} {v : Value} (h : rk_g vals ads a v) (hv : ∃ l, vals' = vals ++ l) (ha : ∃ l, ads' = ads ++ l) : rk_g vals' ads' a v := by
  obtain ⟨l1, rfl⟩ := hv
  obtain ⟨l2, rfl⟩ := ha
  rcases a with w | j | k | k
  · exact h
  · obtain ⟨x, hx, rfl⟩ := h
    exact ⟨x, by rw [List.getElem?_append_left (List.getElem?_eq_some_iff.mp hx).1]; exact hx, rfl⟩
  · show (vals ++ l1)[k]? = some v
    have h' : vals[k]? = some v := h
    rw [List.getElem?_append_left (List.getElem?_eq_some_iff.mp h').1]
    exact h'
  · obtain ⟨x, hx, rfl⟩ := h
    exact ⟨x, by rw [List.getElem?_append_left (List.getElem?_eq_some_iff.mp hx).1]; exact hx, rfl⟩
def rk_tok (t : rk_T) (v : Value) : Prop := (t.1 = 0 ∧ ∃ x : Int32, v = .int x ∧ t.2.1 ≤ x.toInt ∧ x.toInt ≤ t.2.2) ∨ (t.1 = 1 ∧ ∃ x : Int64, v = .long x ∧ t.2.1 ≤ x.toInt ∧ x.toInt ≤ t.2.2) ∨ (t.1 = 2 ∧ ∃ x : Nat, v = .ref x)
def rk_E (env : List rk_T) (vals : List Value) : Prop := rk_A2 rk_tok env vals
def rk_cat (env : List rk_T) (a : rk_V) : Nat := match a with
  | .inl v => v.category
  | .inr (.inl _) => 1
  | .inr (.inr (.inl k)) => match env[k]? with
    | some t => if t.1 = 1 then 2 else 1
    | none => 1
  | .inr (.inr (.inr _)) => 2
theorem rk_cat_ok {env : List rk_T} {vals : List Value} {ads : List Nat} {a : rk_V} {v : Value} (hE : rk_E env vals) (h : rk_g vals ads a v) : rk_cat env a = v.category := by
  rcases a with w | j | k | k
  · have h : v = w := h
    subst h; rfl
  · obtain ⟨x, -, rfl⟩ := h
    rfl
  rotate_left
  · obtain ⟨x, -, rfl⟩ := h
    rfl
  · obtain ⟨t, ht, hr⟩ := hE.getR (show vals[k]? = some v from h)
    show (match env[k]? with
      | some t => if t.1 = 1 then 2 else 1
      | none => 1) = v.category
    rw [ht]
    rcases hr with ⟨h0, x, rfl, -⟩ | ⟨h1, x, rfl, -⟩ | ⟨h1, x, rfl⟩
    · simp [h0, Value.category]
    · simp [h1, Value.category]
    · simp [h1, Value.category]
/-- the bounds of an int -/
def rk_iv (env : List rk_T) (a : rk_V) : Option (Int × Int) := match a with
  | .inl (.int x) => some (x.toInt, x.toInt)
  | .inr (.inr (.inl k)) => match env[k]? with
    | some t => if t.1 = 0 then some t.2 else none
    | none => none
  | _ => none
theorem rk_iv_ok {env : List rk_T} {vals : List Value} {ads : List Nat} {a : rk_V} {v : Value} {I : Int × Int} (hE : rk_E env vals) (h : rk_g vals ads a v) (hi : rk_iv env a = some I) : ∃ x : Int32, v = .int x ∧ I.1 ≤ x.toInt ∧ x.toInt ≤ I.2 := by
  rcases a with w | j | k | k
  · have h : v = w := h
    subst h
    cases v <;> simp [rk_iv] at hi
    subst hi
    exact ⟨_, rfl, Int.le_refl _, Int.le_refl _⟩
  · simp [rk_iv] at hi
  rotate_left
  · simp [rk_iv] at hi
  · obtain ⟨t, ht, hr⟩ := hE.getR (show vals[k]? = some v from h)
    simp only [rk_iv, ht] at hi
    rcases hr with ⟨h0, x, rfl, h1, h2⟩ | ⟨h1, x, rfl, -⟩ | ⟨h1, x, rfl⟩
    · simp [h0] at hi
      subst hi
      exact ⟨x, rfl, h1, h2⟩
    · simp [h1] at hi
    · simp [h1] at hi
/-- is it a long? -/
def rk_isL (env : List rk_T) (a : rk_V) : Bool := match a with
  | .inl (.long _) => true
  | .inr (.inr (.inl k)) => match env[k]? with
    | some t => t.1 == 1
    | none => false
  | .inr (.inr (.inr _)) => true
  | _ => false
theorem rk_isL_ok {env : List rk_T} {vals : List Value} {ads : List Nat} {a : rk_V} {v : Value} (hE : rk_E env vals) (h : rk_g vals ads a v) (hi : rk_isL env a = true) : ∃ x : Int64, v = .long x := by
  rcases a with w | j | k | k
  · have h : v = w := h
    subst h
    cases v <;> simp [rk_isL] at hi
    exact ⟨_, rfl⟩
  · simp [rk_isL] at hi
  rotate_left
  · obtain ⟨x, -, rfl⟩ := h
    exact ⟨_, rfl⟩
  · obtain ⟨t, ht, hr⟩ := hE.getR (show vals[k]? = some v from h)
    simp only [rk_isL, ht] at hi
    rcases hr with ⟨h0, x, rfl, h1, h2⟩ | ⟨h1, x, rfl, -⟩ | ⟨h1, x, rfl⟩
    · simp [h0] at hi
    · exact ⟨x, rfl⟩
    · simp [h1] at hi
/-- an int of which the bounds are known: a literal, or a new symbol -/
def rk_fi (env : List rk_T) (I : Int × Int) : rk_V × List rk_T := if I.1 = I.2 then (.inl (.int (Int32.ofInt I.1)), env) else (.inr (.inr (.inl env.length)), env ++ [(0, I)])
theorem rk_fi_ok {env : List rk_T} {vals : List Value} (ads : List Nat) {I : Int × Int} {x : Int32} (hE : rk_E env vals) (h1 : I.1 ≤ x.toInt) (h2 : x.toInt ≤ I.2) : ∃ l, rk_E (rk_fi env I).2 (vals ++ l) ∧ rk_g (vals ++ l) ads (rk_fi env I).1 (.int x) := by
  unfold rk_fi
  split
  · next e =>
    refine ⟨[], by simpa using hE, ?_⟩
    show Value.int x = Value.int (Int32.ofInt I.1)
    have : I.1 = x.toInt := by omega
    rw [this, Int32.ofInt_toInt]
  · refine ⟨[.int x], rk_A2.push hE (Or.inl ⟨rfl, x, rfl, h1, h2⟩), ?_⟩
    show (vals ++ [Value.int x])[env.length]? = some (.int x)
    rw [hE.len]
    simp
def rk_fl (env : List rk_T) : rk_V × List rk_T := (.inr (.inr (.inl env.length)), env ++ [(1, -9223372036854775808, 9223372036854775807)])
theorem rk_fl_ok {env : List rk_T} {vals : List Value} (ads : List Nat) {x : Int64} (hE : rk_E env vals) : ∃ l, rk_E (rk_fl env).2 (vals ++ l) ∧ rk_g (vals ++ l) ads (rk_fl env).1 (.long x) := by
  refine ⟨[.long x], rk_A2.push hE (Or.inr (Or.inl ⟨rfl, x, rfl, ?_, ?_⟩)), ?_⟩
  · exact Int64.le_toInt x
  · exact Int64.toInt_le x
  · show (vals ++ [Value.long x])[env.length]? = some (.long x)
    rw [hE.len]
    simp
/-- the bounds of a value are narrowed; none: that can't be -/
def rk_cut (env : List rk_T) (a : rk_V) (lo hi : Int) : Option (List rk_T) := match rk_iv env a with
  | some I => if max lo I.1 ≤ min hi I.2 then (match a with
    | .inr (.inr (.inl k)) => some (env.set k (0, max lo I.1, min hi I.2))
    | _ => some env) else none
  | none => some env
theorem rk_cut_ok {env : List rk_T} {vals : List Value} {ads : List Nat} {a : rk_V} {x : Int32} {lo hi : Int} (hE : rk_E env vals) (h : rk_g vals ads a (.int x)) (h1 : lo ≤ x.toInt) (h2 : x.toInt ≤ hi) : ∃ env', rk_cut env a lo hi = some env' ∧ rk_E env' vals := by
  unfold rk_cut
  cases hi' : rk_iv env a with
  | none => exact ⟨env, rfl, hE⟩
  | some I =>
    obtain ⟨y, e, h3, h4⟩ := rk_iv_ok hE h hi'
    cases e
    have hle : max lo I.1 ≤ min hi I.2 := by omega
    simp only [hle, if_true]
    rcases a with w | j | k | k
    · exact ⟨env, rfl, hE⟩
    · exact ⟨env, rfl, hE⟩
    rotate_left
    · exact ⟨env, rfl, hE⟩
    · exact ⟨_, rfl, rk_A2.setL (R := rk_tok) (Or.inl ⟨rfl, x, rfl, by show max lo I.1 ≤ _; omega, by show _ ≤ min hi I.2; omega⟩) hE h⟩
end
section
/-! ===== rk: one step ===== -/
/-- a method: its instructions, its locals, what its constants link (index, kind, two numbers), its literals -/
abbrev rk_M : Type := List (Nat × Instr × Nat) × Nat × List (Nat × Nat × Nat × Nat) × List (Nat × Value)
/-- locals, stack, symbols, cells; cells and slots made so far -/
abbrev rk_D : Type := FieldType × Nat × rk_V × List (Nat × rk_V)
abbrev rk_H : Type := (Nat × List rk_V) ⊕ rk_D
abbrev rk_S : Type := List (Nat × rk_V) × List rk_V × List rk_T × List rk_H × Nat × Nat
/-- an end: what it returns, symbols, cells, made so far -/
abbrev rk_X : Type := Option rk_V × List rk_T × List rk_H × Nat × Nat
abbrev rk_R : Type := Option (List (Nat × rk_S))
def rk_look (d : rk_V) : List (Nat × rk_V) → Nat → rk_V
  | [], _ => d
  | q :: r, j => if q.1 = j then q.2 else rk_look d r j
def rk_ld : List (Nat × rk_V) → Nat → Option rk_V
  | [], _ => none
  | q :: r, j => if q.1 = j then some q.2 else rk_ld r j
def rk_st1 (env : List rk_T) (lo : List (Nat × rk_V)) (i : Nat) (a : rk_V) : List (Nat × rk_V) := (i, a) :: lo.filter (fun q => !(q.1 == i) && !(q.1 + 1 == i && rk_cat env q.2 == 2))
def rk_st2 (env : List rk_T) (lo : List (Nat × rk_V)) (i : Nat) (a : rk_V) : List (Nat × rk_V) := (i, a) :: lo.filter (fun q => !(q.1 == i) && (!(q.1 == i + 1) && !(q.1 + 1 == i && rk_cat env q.2 == 2)))
def rk_full : Int × Int := (-2147483648, 2147483647)
def rk_iadd (I J : Int × Int) : Int × Int := if -2147483648 ≤ I.1 + J.1 ∧ I.2 + J.2 ≤ 2147483647 then (I.1 + J.1, I.2 + J.2) else rk_full
def rk_isub (I J : Int × Int) : Int × Int := if -2147483648 ≤ I.1 - J.2 ∧ I.2 - J.1 ≤ 2147483647 then (I.1 - J.2, I.2 - J.1) else rk_full
def rk_iand (I J : Int × Int) : Int × Int := if 0 ≤ J.1 then (0, J.2) else if 0 ≤ I.1 then (0, I.2) else rk_full
/-- two ints, an int -/
def rk_bin (f : Int32 → Int32 → Int32) (g : Int × Int → Int × Int → Int × Int) (env : List rk_T) (a b : rk_V) : Option (rk_V × List rk_T) := match a, b with
  | .inl (.int x), .inl (.int y) => some (.inl (.int (f x y)), env)
  | a, b => match rk_iv env a, rk_iv env b with
    | some I, some J => some (rk_fi env (g I J))
    | _, _ => none
def rk_un (f : Int32 → Int32) (I : Int × Int) (env : List rk_T) (a : rk_V) : Option (rk_V × List rk_T) := match a with
  | .inl (.int x) => some (.inl (.int (f x)), env)
  | a => match rk_iv env a with
    | some _ => some (rk_fi env I)
    | none => none
def rk_lbin (f : Int64 → Int64 → Int64) (env : List rk_T) (a b : rk_V) : Option (rk_V × List rk_T) := match a, b with
  | .inl (.long x), .inl (.long y) => some (.inl (.long (f x y)), env)
  | a, b => if rk_isL env a && rk_isL env b then some (rk_fl env) else none
def rk_lsh (f : Int64 → Int32 → Int64) (env : List rk_T) (a b : rk_V) : Option (rk_V × List rk_T) := match a, b with
  | .inl (.long x), .inl (.int y) => some (.inl (.long (f x y)), env)
  | a, b => if rk_isL env a && (rk_iv env b).isSome then some (rk_fl env) else none
def rk_op2 (r : Option (rk_V × List rk_T)) (pc : Nat) (lo : List (Nat × rk_V)) (sk : List rk_V) (hp : List rk_H) (nc ns : Nat) : rk_R := match r with
  | some q => some [(pc, (lo, q.1 :: sk, q.2, hp, nc, ns))]
  | none => none
/-- where a comparison holds, and where it doesn't: the bounds of both, narrowed -/
def rk_cond (c : ClassFile.Cond) (env : List rk_T) (a b : rk_V) (I J : Int × Int) : Option (List rk_T) := match c with
  | .lt => (rk_cut env a (-2147483648) (J.2 - 1)).bind (fun e => rk_cut e b (I.1 + 1) 2147483647)
  | .ge => (rk_cut env a J.1 2147483647).bind (fun e => rk_cut e b (-2147483648) I.2)
  | .gt => (rk_cut env a (J.1 + 1) 2147483647).bind (fun e => rk_cut e b (-2147483648) (I.2 - 1))
  | .le => (rk_cut env a (-2147483648) J.2).bind (fun e => rk_cut e b I.1 2147483647)
  | .eq => (rk_cut env a J.1 J.2).bind (fun e => rk_cut e b I.1 I.2)
  | .ne => if I.1 = I.2 ∧ J.1 = J.2 ∧ I.1 = J.1 then none else if J.1 = J.2 ∧ J.1 = I.1 then rk_cut env a (I.1 + 1) 2147483647 else if J.1 = J.2 ∧ J.1 = I.2 then rk_cut env a (-2147483648) (I.2 - 1) else if I.1 = I.2 ∧ I.1 = J.1 then rk_cut env b (J.1 + 1) 2147483647 else if I.1 = I.2 ∧ I.1 = J.2 then rk_cut env b (-2147483648) (J.2 - 1) else some env
def rk_not : ClassFile.Cond → ClassFile.Cond
  | .eq => .ne | .ne => .eq | .lt => .ge | .ge => .lt | .gt => .le | .le => .gt
def rk_opt (r : Option (List rk_T)) (pc : Nat) (lo : List (Nat × rk_V)) (sk : List rk_V) (hp : List rk_H) (nc ns : Nat) : List (Nat × rk_S) := match r with
  | some e => [(pc, (lo, sk, e, hp, nc, ns))]
  | none => []
def rk_if (c : ClassFile.Cond) (off : Int) (pc : Nat) (a b : rk_V) (lo : List (Nat × rk_V)) (sk : List rk_V) (env : List rk_T) (hp : List rk_H) (nc ns : Nat) : rk_R := match rk_iv env a, rk_iv env b with
  | some I, some J => if 0 ≤ (pc : Int) + off then some (rk_opt (rk_cond c env a b I J) ((pc : Int) + off).toNat lo sk hp nc ns ++ rk_opt (rk_cond (rk_not c) env a b I J) (pc + 3) lo sk hp nc ns) else none
  | _, _ => none
/-- an int that is loaded: a symbol of one value is its literal -/
def rk_norm (env : List rk_T) (a : rk_V) : rk_V := match rk_iv env a with
  | some I => if I.1 = I.2 then .inl (.int (Int32.ofInt I.1)) else a
  | none => a
def rk_ldi (lo : List (Nat × rk_V)) (i : Nat) (pc : Nat) (sk : List rk_V) (env : List rk_T) (hp : List rk_H) (nc ns : Nat) : rk_R := match rk_ld lo i with
  | some a => if (rk_iv env a).isSome then some [(pc, (lo, rk_norm env a :: sk, env, hp, nc, ns))] else none
  | none => none
def rk_ldl (lo : List (Nat × rk_V)) (i : Nat) (pc : Nat) (sk : List rk_V) (env : List rk_T) (hp : List rk_H) (nc ns : Nat) : rk_R := match rk_ld lo i with
  | some a => if rk_isL env a then some [(pc, (lo, a :: sk, env, hp, nc, ns))] else none
  | none => none
def rk_lda (lo : List (Nat × rk_V)) (i : Nat) (pc : Nat) (sk : List rk_V) (env : List rk_T) (hp : List rk_H) (nc ns : Nat) : rk_R := match rk_ld lo i with
  | some (.inr (.inl j)) => some [(pc, (lo, .inr (.inl j) :: sk, env, hp, nc, ns))]
  | _ => none
def rk_sti (nL i pc : Nat) (lo : List (Nat × rk_V)) (sk : List rk_V) (env : List rk_T) (hp : List rk_H) (nc ns : Nat) : rk_R := match sk with
  | a :: sk => if (rk_iv env a).isSome ∧ i < nL then some [(pc, (rk_st1 env lo i a, sk, env, hp, nc, ns))] else none
  | _ => none
def rk_stl (nL i pc : Nat) (lo : List (Nat × rk_V)) (sk : List rk_V) (env : List rk_T) (hp : List rk_H) (nc ns : Nat) : rk_R := match sk with
  | a :: sk => if rk_isL env a = true ∧ i + 1 < nL then some [(pc, (rk_st2 env lo i a, sk, env, hp, nc, ns))] else none
  | _ => none
def rk_sta (nL i pc : Nat) (lo : List (Nat × rk_V)) (sk : List rk_V) (env : List rk_T) (hp : List rk_H) (nc ns : Nat) : rk_R := match sk with
  | .inr (.inl j) :: sk => if i < nL then some [(pc, (rk_st1 env lo i (.inr (.inl j)), sk, env, hp, nc, ns))] else none
  | _ => none
/-- the steps that look at no cell -/
def rk_pure (nL : Nat) (pc : Nat) (ins : Instr) (st : rk_S) : rk_R :=
  let lo := st.1; let sk := st.2.1; let env := st.2.2.1; let hp := st.2.2.2.1; let nc := st.2.2.2.2.1; let ns := st.2.2.2.2.2
  match ins with
  | .iconst n => some [(pc + 1, (lo, .inl (.int (Int32.ofInt n)) :: sk, env, hp, nc, ns))]
  | .bipush n => some [(pc + 2, (lo, .inl (.int (Int8.ofInt n).toInt32) :: sk, env, hp, nc, ns))]
  | .sipush n => some [(pc + 3, (lo, .inl (.int (Int16.ofInt n).toInt32) :: sk, env, hp, nc, ns))]
  | .lconst n => some [(pc + 1, (lo, .inl (.long (Int64.ofNat (n : Nat))) :: sk, env, hp, nc, ns))]
  | .aconst_null => some [(pc + 1, (lo, .inl .null :: sk, env, hp, nc, ns))]
  | .iload_n k => rk_ldi lo k (pc + 1) sk env hp nc ns
  | .iload i => rk_ldi lo i (pc + 2) sk env hp nc ns
  | .lload_n k => rk_ldl lo k (pc + 1) sk env hp nc ns
  | .lload i => rk_ldl lo i (pc + 2) sk env hp nc ns
  | .aload_n k => rk_lda lo k (pc + 1) sk env hp nc ns
  | .aload i => rk_lda lo i (pc + 2) sk env hp nc ns
  | .istore_n k => rk_sti nL k (pc + 1) lo sk env hp nc ns
  | .istore i => rk_sti nL i (pc + 2) lo sk env hp nc ns
  | .lstore_n k => rk_stl nL k (pc + 1) lo sk env hp nc ns
  | .lstore i => rk_stl nL i (pc + 2) lo sk env hp nc ns
  | .astore_n k => rk_sta nL k (pc + 1) lo sk env hp nc ns
  | .astore i => rk_sta nL i (pc + 2) lo sk env hp nc ns
  | .iinc i n => match rk_ld lo i with
    | some a => if i < nL then (match rk_bin (fun x y => x + y) rk_iadd env a (.inl (.int (Int32.ofInt n))) with
      | some q => some [(pc + 3, (rk_st1 q.2 lo i q.1, sk, q.2, hp, nc, ns))]
      | none => none) else none
    | none => none
  | .dup => match sk with
    | a :: r => if rk_cat env a = 1 then some [(pc + 1, (lo, a :: a :: r, env, hp, nc, ns))] else none
    | _ => none
  | .dup2 => match sk with
    | a :: b :: r => if rk_cat env a = 1 ∧ rk_cat env b = 1 then some [(pc + 1, (lo, a :: b :: a :: b :: r, env, hp, nc, ns))] else if rk_cat env a = 2 then some [(pc + 1, (lo, a :: a :: b :: r, env, hp, nc, ns))] else none
    | _ => none
  | .pop => match sk with
    | a :: r => if rk_cat env a = 1 then some [(pc + 1, (lo, r, env, hp, nc, ns))] else none
    | _ => none
  | .pop2 => match sk with
    | a :: r => if rk_cat env a = 2 then some [(pc + 1, (lo, r, env, hp, nc, ns))] else none
    | _ => none
  | .iadd => match sk with
    | b :: a :: r => rk_op2 (rk_bin (fun x y => x + y) rk_iadd env a b) (pc + 1) lo r hp nc ns
    | _ => none
  | .isub => match sk with
    | b :: a :: r => rk_op2 (rk_bin (fun x y => x - y) rk_isub env a b) (pc + 1) lo r hp nc ns
    | _ => none
  | .imul => match sk with
    | b :: a :: r => rk_op2 (rk_bin (fun x y => x * y) (fun _ _ => rk_full) env a b) (pc + 1) lo r hp nc ns
    | _ => none
  | .iand => match sk with
    | b :: a :: r => rk_op2 (rk_bin (fun x y => x &&& y) rk_iand env a b) (pc + 1) lo r hp nc ns
    | _ => none
  | .ior => match sk with
    | b :: a :: r => rk_op2 (rk_bin (fun x y => x ||| y) (fun _ _ => rk_full) env a b) (pc + 1) lo r hp nc ns
    | _ => none
  | .ixor => match sk with
    | b :: a :: r => rk_op2 (rk_bin (fun x y => x ^^^ y) (fun _ _ => rk_full) env a b) (pc + 1) lo r hp nc ns
    | _ => none
  | .ifCond c off => match sk with
    | a :: r => rk_if c off pc a (.inl (.int 0)) lo r env hp nc ns
    | _ => none
  | .if_icmp c off => match sk with
    | b :: a :: r => rk_if c off pc a b lo r env hp nc ns
    | _ => none
  | .goto off => if 0 ≤ (pc : Int) + off then some [(((pc : Int) + off).toNat, st)] else none
  | _ => none
/-- a switch: the places one behind the other, from a value on -/
def rk_sw (a : rk_V) (pc : Nat) (lo : List (Nat × rk_V)) (sk : List rk_V) (env : List rk_T) (hp : List rk_H) (nc ns : Nat) : Int → List Int → Option (List (Nat × rk_S))
  | _, [] => some []
  | v, o :: r => if 0 ≤ (pc : Int) + o then (rk_sw a pc lo sk env hp nc ns (v + 1) r).map (fun l => rk_opt (rk_cut env a v v) ((pc : Int) + o).toNat lo sk hp nc ns ++ l) else none
/-- a divisor that is not 0 -/
def rk_nz (env : List rk_T) (b : rk_V) : Bool := match rk_iv env b with
  | some J => decide (0 < J.1) || decide (J.2 < 0)
  | none => false
def rk_lnz : rk_V → Bool
  | .inl (.long y) => decide (¬ y = 0)
  | _ => false
def rk_irem (I J : Int × Int) : Int × Int := if 0 ≤ I.1 ∧ 0 < J.1 then (0, J.2 - 1) else rk_full
/-- the steps that look at no cell, more -/
def rk_pure2 (pc : Nat) (ins : Instr) (st : rk_S) : rk_R :=
  let lo := st.1; let sk := st.2.1; let env := st.2.2.1; let hp := st.2.2.2.1; let nc := st.2.2.2.2.1; let ns := st.2.2.2.2.2
  match ins with
  | .ishl => match sk with
    | b :: a :: r => rk_op2 (rk_bin (fun x y => x <<< (y &&& 31)) (fun _ _ => rk_full) env a b) (pc + 1) lo r hp nc ns
    | _ => none
  | .ishr => match sk with
    | b :: a :: r => rk_op2 (rk_bin (fun x y => x >>> (y &&& 31)) (fun _ _ => rk_full) env a b) (pc + 1) lo r hp nc ns
    | _ => none
  | .iushr => match sk with
    | b :: a :: r => rk_op2 (rk_bin (fun x y => (x.toUInt32 >>> (y.toUInt32 &&& Int32.toUInt32 31)).toInt32) (fun _ _ => rk_full) env a b) (pc + 1) lo r hp nc ns
    | _ => none
  | .idiv => match sk with
    | b :: a :: r => if rk_nz env b then rk_op2 (rk_bin (fun x y => x / y) (fun _ _ => rk_full) env a b) (pc + 1) lo r hp nc ns else none
    | _ => none
  | .irem => match sk with
    | b :: a :: r => if rk_nz env b then rk_op2 (rk_bin (fun x y => x - x / y * y) rk_irem env a b) (pc + 1) lo r hp nc ns else none
    | _ => none
  | .ineg => match sk with
    | a :: r => rk_op2 (rk_un (fun x => -x) rk_full env a) (pc + 1) lo r hp nc ns
    | _ => none
  | .i2b => match sk with
    | a :: r => rk_op2 (rk_un (fun x => x.toInt8.toInt32) (-128, 127) env a) (pc + 1) lo r hp nc ns
    | _ => none
  | .i2s => match sk with
    | a :: r => rk_op2 (rk_un (fun x => x.toInt16.toInt32) (-32768, 32767) env a) (pc + 1) lo r hp nc ns
    | _ => none
  | .i2l => match sk with
    | .inl (.int x) :: r => some [(pc + 1, (lo, .inl (.long x.toInt64) :: r, env, hp, nc, ns))]
    | .inr (.inr (.inl k)) :: r => if (rk_iv env (.inr (.inr (.inl k)))).isSome then some [(pc + 1, (lo, .inr (.inr (.inr k)) :: r, env, hp, nc, ns))] else none
    | _ => none
  | .l2i => match sk with
    | .inl (.long x) :: r => some [(pc + 1, (lo, .inl (.int x.toInt32) :: r, env, hp, nc, ns))]
    | .inr (.inr (.inr k)) :: r => some [(pc + 1, (lo, .inr (.inr (.inl k)) :: r, env, hp, nc, ns))]
    | a :: r => if rk_isL env a then rk_op2 (some (rk_fi env rk_full)) (pc + 1) lo r hp nc ns else none
    | _ => none
  | .ladd => match sk with
    | b :: a :: r => rk_op2 (rk_lbin (fun x y => x + y) env a b) (pc + 1) lo r hp nc ns
    | _ => none
  | .lsub => match sk with
    | b :: a :: r => rk_op2 (rk_lbin (fun x y => x - y) env a b) (pc + 1) lo r hp nc ns
    | _ => none
  | .lmul => match sk with
    | b :: a :: r => rk_op2 (rk_lbin (fun x y => x * y) env a b) (pc + 1) lo r hp nc ns
    | _ => none
  | .land => match sk with
    | b :: a :: r => rk_op2 (rk_lbin (fun x y => x &&& y) env a b) (pc + 1) lo r hp nc ns
    | _ => none
  | .lor => match sk with
    | b :: a :: r => rk_op2 (rk_lbin (fun x y => x ||| y) env a b) (pc + 1) lo r hp nc ns
    | _ => none
  | .lxor => match sk with
    | b :: a :: r => rk_op2 (rk_lbin (fun x y => x ^^^ y) env a b) (pc + 1) lo r hp nc ns
    | _ => none
  | .ldiv => match sk with
    | b :: a :: r => if rk_lnz b then rk_op2 (rk_lbin (fun x y => x / y) env a b) (pc + 1) lo r hp nc ns else none
    | _ => none
  | .lrem => match sk with
    | b :: a :: r => if rk_lnz b then rk_op2 (rk_lbin (fun x y => x - x / y * y) env a b) (pc + 1) lo r hp nc ns else none
    | _ => none
  | .lshl => match sk with
    | b :: a :: r => rk_op2 (rk_lsh (fun x y => x <<< (y.toInt64 &&& 63)) env a b) (pc + 1) lo r hp nc ns
    | _ => none
  | .lshr => match sk with
    | b :: a :: r => rk_op2 (rk_lsh (fun x y => x >>> (y.toInt64 &&& 63)) env a b) (pc + 1) lo r hp nc ns
    | _ => none
  | .lushr => match sk with
    | b :: a :: r => rk_op2 (rk_lsh (fun x y => (x.toUInt64 >>> (y.toInt64.toUInt64 &&& Int64.toUInt64 63)).toInt64) env a b) (pc + 1) lo r hp nc ns
    | _ => none
  | .lcmp => match sk with
    | .inl (.long y) :: .inl (.long x) :: r => some [(pc + 1, (lo, .inl (.int (lg_cmp x y)) :: r, env, hp, nc, ns))]
    | .inl (.long y) :: .inr (.inr (.inr k)) :: r => some (rk_opt (rk_cut env (.inr (.inr (.inl k))) (y.toInt + 1) 2147483647) (pc + 1) lo (.inl (.int 1) :: r) hp nc ns ++ (rk_opt (rk_cut env (.inr (.inr (.inl k))) y.toInt y.toInt) (pc + 1) lo (.inl (.int 0) :: r) hp nc ns ++ rk_opt (rk_cut env (.inr (.inr (.inl k))) (-2147483648) (y.toInt - 1)) (pc + 1) lo (.inl (.int (-1)) :: r) hp nc ns))
    | .inr (.inr (.inr k)) :: .inl (.long x) :: r => some (rk_opt (rk_cut env (.inr (.inr (.inl k))) (-2147483648) (x.toInt - 1)) (pc + 1) lo (.inl (.int 1) :: r) hp nc ns ++ (rk_opt (rk_cut env (.inr (.inr (.inl k))) x.toInt x.toInt) (pc + 1) lo (.inl (.int 0) :: r) hp nc ns ++ rk_opt (rk_cut env (.inr (.inr (.inl k))) (x.toInt + 1) 2147483647) (pc + 1) lo (.inl (.int (-1)) :: r) hp nc ns))
    | b :: a :: r => if rk_isL env a && rk_isL env b then rk_op2 (some (rk_fi env (-1, 1))) (pc + 1) lo r hp nc ns else none
    | _ => none
  | .tableswitch dflt low high offs => match sk with
    | a :: r => match rk_iv env a with
      | some _ => if offs.toList.length = (high - low + 1).toNat ∧ 0 ≤ (pc : Int) + dflt then (rk_sw a pc lo r env hp nc ns low offs.toList).map (fun l => l ++ (rk_opt (rk_cut env a (-2147483648) (low - 1)) ((pc : Int) + dflt).toNat lo r hp nc ns ++ rk_opt (rk_cut env a (high + 1) 2147483647) ((pc : Int) + dflt).toNat lo r hp nc ns)) else none
      | none => none
    | _ => none
  | _ => none
end
section
/-! ===== rk: what a state stands for; the steps that look at no cell are sound ===== -/
def rk_arr (vals : List Value) (ads : List Nat) (cA : ClassId) (q : rk_D) (e : va_E) : Prop := match q.1 with
  | .int => ∃ f : Nat → Int32, e = .inl (cA, q.2.1, .inl f) ∧ ∀ j, rk_g vals ads (rk_look q.2.2.1 q.2.2.2 j) (.int (f j))
  | .byte => ∃ f : Nat → Int32, e = .inl (cA, q.2.1, .inl f) ∧ ∀ j, rk_g vals ads (rk_look q.2.2.1 q.2.2.2 j) (.int (f j))
  | .long => ∃ f : Nat → Int64, e = .inl (cA, q.2.1, .inr (.inl f)) ∧ ∀ j, rk_g vals ads (rk_look q.2.2.1 q.2.2.2 j) (.long (f j))
  | .object _ => ∃ f : Nat → Option Nat, e = .inl (cA, q.2.1, .inr (.inr (.inr (.inr f)))) ∧ ∀ j, rk_g vals ads (rk_look q.2.2.1 q.2.2.2 j) (va_rf (f j))
  | .array _ => ∃ f : Nat → Option Nat, e = .inl (cA, q.2.1, .inr (.inr (.inr (.inr f)))) ∧ ∀ j, rk_g vals ads (rk_look q.2.2.1 q.2.2.2 j) (va_rf (f j))
  | _ => False
def rk_c (U : State) (vals : List Value) (ads : List Nat) (c : rk_H) (e : va_E) : Prop := match c with
  | .inl o => ∃ vs, e = .inr (o.1, vs) ∧ rk_A2 (rk_g vals ads) o.2 vs
  | .inr q => ∃ cA, ArrOfT U cA q.1 ∧ va_RA U cA q.1 ∧ rk_arr vals ads cA q e
theorem rk_arr.grow {vals vals' : List Value} {ads ads' : List Nat} {cA : ClassId} {q : rk_D} {e : va_E} (h : rk_arr vals ads cA q e) (hv : ∃ l, vals' = vals ++ l) (ha : ∃ l, ads' = ads ++ l) : rk_arr vals' ads' cA q e := by
  unfold rk_arr at h ⊢
  split at h
  all_goals first
    | exact h.elim
    | (obtain ⟨f, e1, h1⟩ := h
       exact ⟨f, e1, fun j => (h1 j).grow hv ha⟩)
theorem rk_c.grow {U : State} {vals vals' : List Value} {ads ads' : List Nat} {c : rk_H} {e : va_E} (h : rk_c U vals ads c e) (hv : ∃ l, vals' = vals ++ l) (ha : ∃ l, ads' = ads ++ l) : rk_c U vals' ads' c e := by
  rcases c with o | q
  · obtain ⟨vs, e1, h1⟩ := h
    exact ⟨vs, e1, h1.mono (fun _ _ h => h.grow hv ha)⟩
  · obtain ⟨cA, h1, h2, h3⟩ := h
    exact ⟨cA, h1, h2, h3.grow hv ha⟩
def rk_G (s : State) (D : va_G) (cl : List vw_C) (Ad : Nat → Prop) (vals0 : List Value) (ads0 : List Nat) (vals : List Value) (ws : va_W) (H : Heap) (locs : List Loc) (env : List rk_T) (hp : List rk_H) : Prop :=
  rk_E env vals ∧ rk_A2 (fun c q => rk_c s vals (ws.map Prod.fst) c q.2) hp ws ∧ va_P D cl ws H ∧ va_D Ad ws ∧ va_S Ad s.heap H locs ∧ (∃ l, vals = vals0 ++ l) ∧ (∃ l, ws.map Prod.fst = ads0 ++ l)
theorem rk_G.env {s : State} {D : va_G} {cl : List vw_C} {Ad : Nat → Prop} {vals0 : List Value} {ads0 : List Nat} {vals : List Value} {ws : va_W} {H : Heap} {locs : List Loc} {env env' : List rk_T} {hp : List rk_H} (h : rk_G s D cl Ad vals0 ads0 vals ws H locs env hp) {k : List Value} (hE : rk_E env' (vals ++ k)) : rk_G s D cl Ad vals0 ads0 (vals ++ k) ws H locs env' hp := by
  obtain ⟨-, h2, h3, h4, h5, ⟨k0, h6⟩, h7⟩ := h
  exact ⟨hE, h2.mono (fun _ _ h => h.grow ⟨k, rfl⟩ ⟨[], by simp⟩), h3, h4, h5, ⟨k0 ++ k, by rw [h6, List.append_assoc]⟩, h7⟩
theorem rk_G.env0 {s : State} {D : va_G} {cl : List vw_C} {Ad : Nat → Prop} {vals0 : List Value} {ads0 : List Nat} {vals : List Value} {ws : va_W} {H : Heap} {locs : List Loc} {env env' : List rk_T} {hp : List rk_H} (h : rk_G s D cl Ad vals0 ads0 vals ws H locs env hp) (hE : rk_E env' vals) : rk_G s D cl Ad vals0 ads0 vals ws H locs env' hp := ⟨hE, h.2⟩
abbrev rk_K : Type := Nat → Array Slot → List Value → Heap → List Loc → Nat → Nat → Prop
/-- the locals -/
abbrev rk_Lo (vals : List Value) (ads : List Nat) (lo : List (Nat × rk_V)) (lc : List (Nat × Value)) : Prop := rk_A2 (fun (q : Nat × rk_V) (r : Nat × Value) => q.1 = r.1 ∧ rk_g vals ads q.2 r.2) lo lc
theorem rk_Lo.grow {vals : List Value} {ads : List Nat} {lo : List (Nat × rk_V)} {lc : List (Nat × Value)} (h : rk_Lo vals ads lo lc) (k : List Value) : rk_Lo (vals ++ k) ads lo lc := rk_A2.mono (fun _ _ q => ⟨q.1, q.2.grow ⟨k, rfl⟩ ⟨[], by simp⟩⟩) h
theorem rk_skG {vals : List Value} {ads : List Nat} {sk : List rk_V} {stk : List Value} (h : rk_A2 (rk_g vals ads) sk stk) (k : List Value) : rk_A2 (rk_g (vals ++ k) ads) sk stk := rk_A2.mono (fun _ _ q => q.grow ⟨k, rfl⟩ ⟨[], by simp⟩) h
def rk_W (K : rk_K) (s : State) (D : va_G) (cl : List vw_C) (Ad : Nat → Prop) (nL : Nat) (vals0 : List Value) (ads0 : List Nat) (pc : Nat) (st : rk_S) : Prop :=
  ∀ (vals : List Value) (ws : va_W) (H : Heap) (locs : List Loc) (ls : Array Slot) (stk : List Value) (lc : List (Nat × Value)), rk_G s D cl Ad vals0 ads0 vals ws H locs st.2.2.1 st.2.2.2.1 → lv_has ls nL lc → rk_Lo vals (ws.map Prod.fst) st.1 lc → rk_A2 (rk_g vals (ws.map Prod.fst)) st.2.1 stk → K pc ls stk H locs st.2.2.2.2.1 st.2.2.2.2.2
abbrev rk_KW (p : Program) (l : Launch) (e : Env) (R : Room) (s : State) (m : MethodId) (args : Array Value) (below : List Frame) (meth : Method) (c : Code) (Q : State → Prop) : rk_K := fun pc ls stk H locs n k => W p l e R s m args below meth c H locs n k Q (F0 m pc ls stk)
theorem rk_ld_ok {vals : List Value} {ads : List Nat} {i : Nat} {a : rk_V} : ∀ {lo : List (Nat × rk_V)} {lc : List (Nat × Value)}, rk_Lo vals ads lo lc → rk_ld lo i = some a → ∃ v, (i, v) ∈ lc ∧ rk_g vals ads a v := by
  intro lo
  induction lo with
  | nil => intro lc _ h; simp [rk_ld] at h
  | cons q lo ih =>
    intro lc hL h
    obtain ⟨r, k, rfl, h1, h2⟩ := hL.cons
    unfold rk_ld at h
    split at h
    · next e =>
      cases h
      exact ⟨r.2, by rw [← e, h1.1]; exact List.mem_cons_self, h1.2⟩
    · obtain ⟨v, hv, hg⟩ := ih h2 h
      exact ⟨v, List.mem_cons_of_mem _ hv, hg⟩
theorem rk_st1_ok {vals : List Value} {ads : List Nat} {env : List rk_T} {lo : List (Nat × rk_V)} {lc : List (Nat × Value)} {i : Nat} {a : rk_V} {v : Value} (hE : rk_E env vals) (hL : rk_Lo vals ads lo lc) (hg : rk_g vals ads a v) : rk_Lo vals ads (rk_st1 env lo i a) ((i, v) :: lc.filter (fun q => !(q.1 == i) && !(q.1 + 1 == i && q.2.category == 2))) :=
  ⟨⟨rfl, hg⟩, rk_A2.filter (fun q r h => by rw [h.1, rk_cat_ok hE h.2]) hL⟩
theorem rk_st2_ok {vals : List Value} {ads : List Nat} {env : List rk_T} {lo : List (Nat × rk_V)} {lc : List (Nat × Value)} {i : Nat} {a : rk_V} {v : Value} (hE : rk_E env vals) (hL : rk_Lo vals ads lo lc) (hg : rk_g vals ads a v) : rk_Lo vals ads (rk_st2 env lo i a) ((i, v) :: lc.filter (fun q => !(q.1 == i) && (!(q.1 == i + 1) && !(q.1 + 1 == i && q.2.category == 2)))) :=
  ⟨⟨rfl, hg⟩, rk_A2.filter (fun q r h => by rw [h.1, rk_cat_ok hE h.2]) hL⟩
theorem rk_norm_ok {env : List rk_T} {vals : List Value} {ads : List Nat} {a : rk_V} {v : Value} (hE : rk_E env vals) (h : rk_g vals ads a v) : rk_g vals ads (rk_norm env a) v := by
  unfold rk_norm
  cases hi : rk_iv env a with
  | none => exact h
  | some I =>
    obtain ⟨x, rfl, h1, h2⟩ := rk_iv_ok hE h hi
    dsimp only
    split
    · next e =>
      show Value.int x = Value.int (Int32.ofInt I.1)
      have : I.1 = x.toInt := by omega
      rw [this, Int32.ofInt_toInt]
    · exact h
/-- bounds that an operation keeps -/
def rk_sound2 (f : Int32 → Int32 → Int32) (g : Int × Int → Int × Int → Int × Int) : Prop := ∀ (x y : Int32) (I J : Int × Int), I.1 ≤ x.toInt → x.toInt ≤ I.2 → J.1 ≤ y.toInt → y.toInt ≤ J.2 → (g I J).1 ≤ (f x y).toInt ∧ (f x y).toInt ≤ (g I J).2
theorem rk_full_ok (x : Int32) : rk_full.1 ≤ x.toInt ∧ x.toInt ≤ rk_full.2 := ⟨Int32.le_toInt x, Int32.toInt_le x⟩
theorem rk_s_full (f : Int32 → Int32 → Int32) : rk_sound2 f (fun _ _ => rk_full) := fun x y _ _ _ _ _ _ => rk_full_ok (f x y)
theorem rk_s_add : rk_sound2 (fun x y => x + y) rk_iadd := by
  intro x y I J h1 h2 h3 h4
  unfold rk_iadd
  split
  · next h =>
    have e : (x + y).toInt = x.toInt + y.toInt := by
      rw [Int32.toInt_add]
      apply Int.bmod_eq_of_le <;> omega
    rw [e]
    constructor <;> dsimp only <;> omega
  · exact rk_full_ok _
theorem rk_s_sub : rk_sound2 (fun x y => x - y) rk_isub := by
  intro x y I J h1 h2 h3 h4
  unfold rk_isub
  split
  · next h =>
    have e : (x - y).toInt = x.toInt - y.toInt := by
      rw [Int32.toInt_sub]
      apply Int.bmod_eq_of_le <;> omega
    rw [e]
    constructor <;> dsimp only <;> omega
  · exact rk_full_ok _
theorem rk_nn {x : Int32} (h : 0 ≤ x.toInt) : x.toInt = (x.toBitVec.toNat : Int) ∧ x.toBitVec.toNat < 2147483648 := by
  have e : x.toInt = x.toBitVec.toInt := rfl
  rw [e] at h ⊢
  rw [BitVec.toInt_eq_toNat_cond] at h ⊢
  have := x.toBitVec.isLt
  split at h <;> constructor <;> first | (split <;> omega) | omega
theorem rk_of_small {x : Int32} (h : x.toBitVec.toNat < 2147483648) : x.toInt = (x.toBitVec.toNat : Int) := by
  have e : x.toInt = x.toBitVec.toInt := rfl
  rw [e, BitVec.toInt_eq_toNat_cond]
  split <;> omega
theorem rk_s_and : rk_sound2 (fun x y => x &&& y) rk_iand := by
  intro x y I J h1 h2 h3 h4
  have e : (x &&& y).toBitVec.toNat = x.toBitVec.toNat &&& y.toBitVec.toNat := by
    rw [Int32.toBitVec_and, BitVec.toNat_and]
  have l1 : x.toBitVec.toNat &&& y.toBitVec.toNat ≤ x.toBitVec.toNat := Nat.and_le_left
  have l2 : x.toBitVec.toNat &&& y.toBitVec.toNat ≤ y.toBitVec.toNat := Nat.and_le_right
  unfold rk_iand
  split
  · next h =>
    obtain ⟨a1, a2⟩ := rk_nn (x := y) (by omega)
    have := rk_of_small (x := x &&& y) (by omega)
    dsimp only
    omega
  · split
    · next h =>
      obtain ⟨a1, a2⟩ := rk_nn (x := x) (by omega)
      have := rk_of_small (x := x &&& y) (by omega)
      dsimp only
      omega
    · exact rk_full_ok _
theorem rk_bin_ok {f : Int32 → Int32 → Int32} {g : Int × Int → Int × Int → Int × Int} (hs : rk_sound2 f g) {env : List rk_T} {vals : List Value} {ads : List Nat} {a b : rk_V} {va vb : Value} {q : rk_V × List rk_T} (hE : rk_E env vals) (ha : rk_g vals ads a va) (hb : rk_g vals ads b vb) (h : rk_bin f g env a b = some q) :
    ∃ (x y : Int32) (k : List Value), va = .int x ∧ vb = .int y ∧ rk_E q.2 (vals ++ k) ∧ rk_g (vals ++ k) ads q.1 (.int (f x y)) := by
  have key : ∀ I J, rk_iv env a = some I → rk_iv env b = some J → rk_fi env (g I J) = q → ∃ (x y : Int32) (k : List Value), va = .int x ∧ vb = .int y ∧ rk_E q.2 (vals ++ k) ∧ rk_g (vals ++ k) ads q.1 (.int (f x y)) := by
    intro I J hi hj hq
    obtain ⟨x, rfl, h1, h2⟩ := rk_iv_ok hE ha hi
    obtain ⟨y, rfl, h3, h4⟩ := rk_iv_ok hE hb hj
    obtain ⟨h5, h6⟩ := hs x y I J h1 h2 h3 h4
    obtain ⟨k, hk, hg⟩ := rk_fi_ok ads (I := g I J) hE h5 h6
    rw [hq] at hk hg
    exact ⟨x, y, k, rfl, rfl, hk, hg⟩
  unfold rk_bin at h
  split at h
  · cases h
    have ha : va = _ := ha
    have hb : vb = _ := hb
    subst ha; subst hb
    exact ⟨_, _, [], rfl, rfl, by simpa using hE, rfl⟩
  · split at h
    · next I J hi hj => exact key I J hi hj (Option.some.inj h)
    · cases h
theorem rk_un_ok {f : Int32 → Int32} {I0 : Int × Int} (hs : ∀ x, I0.1 ≤ (f x).toInt ∧ (f x).toInt ≤ I0.2) {env : List rk_T} {vals : List Value} {ads : List Nat} {a : rk_V} {va : Value} {q : rk_V × List rk_T} (hE : rk_E env vals) (ha : rk_g vals ads a va) (h : rk_un f I0 env a = some q) :
    ∃ (x : Int32) (k : List Value), va = .int x ∧ rk_E q.2 (vals ++ k) ∧ rk_g (vals ++ k) ads q.1 (.int (f x)) := by
  unfold rk_un at h
  split at h
  · cases h
    have ha : va = _ := ha
    subst ha
    exact ⟨_, [], rfl, by simpa using hE, rfl⟩
  · split at h
    · next I hi =>
      cases h
      obtain ⟨x, rfl, h1, h2⟩ := rk_iv_ok hE ha hi
      obtain ⟨k, hk, hg⟩ := rk_fi_ok ads (I := I0) hE (hs x).1 (hs x).2
      exact ⟨x, k, rfl, hk, hg⟩
    · cases h
theorem rk_lbin_ok {f : Int64 → Int64 → Int64} {env : List rk_T} {vals : List Value} {ads : List Nat} {a b : rk_V} {va vb : Value} {q : rk_V × List rk_T} (hE : rk_E env vals) (ha : rk_g vals ads a va) (hb : rk_g vals ads b vb) (h : rk_lbin f env a b = some q) :
    ∃ (x y : Int64) (k : List Value), va = .long x ∧ vb = .long y ∧ rk_E q.2 (vals ++ k) ∧ rk_g (vals ++ k) ads q.1 (.long (f x y)) := by
  unfold rk_lbin at h
  split at h
  · cases h
    have ha : va = _ := ha
    have hb : vb = _ := hb
    subst ha; subst hb
    exact ⟨_, _, [], rfl, rfl, by simpa using hE, rfl⟩
  · split at h
    · next hl =>
      cases h
      rw [Bool.and_eq_true] at hl
      obtain ⟨x, rfl⟩ := rk_isL_ok hE ha hl.1
      obtain ⟨y, rfl⟩ := rk_isL_ok hE hb hl.2
      obtain ⟨k, hk, hg⟩ := rk_fl_ok ads (x := f x y) hE
      exact ⟨x, y, k, rfl, rfl, hk, hg⟩
    · cases h
theorem rk_lsh_ok {f : Int64 → Int32 → Int64} {env : List rk_T} {vals : List Value} {ads : List Nat} {a b : rk_V} {va vb : Value} {q : rk_V × List rk_T} (hE : rk_E env vals) (ha : rk_g vals ads a va) (hb : rk_g vals ads b vb) (h : rk_lsh f env a b = some q) :
    ∃ (x : Int64) (y : Int32) (k : List Value), va = .long x ∧ vb = .int y ∧ rk_E q.2 (vals ++ k) ∧ rk_g (vals ++ k) ads q.1 (.long (f x y)) := by
  unfold rk_lsh at h
  split at h
  · cases h
    have ha : va = _ := ha
    have hb : vb = _ := hb
    subst ha; subst hb
    exact ⟨_, _, [], rfl, rfl, by simpa using hE, rfl⟩
  · split at h
    · next hl =>
      cases h
      rw [Bool.and_eq_true, Option.isSome_iff_exists] at hl
      obtain ⟨hl, J, hj⟩ := hl
      obtain ⟨x, rfl⟩ := rk_isL_ok hE ha hl
      obtain ⟨y, rfl, -, -⟩ := rk_iv_ok hE hb hj
      obtain ⟨k, hk, hg⟩ := rk_fl_ok ads (x := f x y) hE
      exact ⟨x, y, k, rfl, rfl, hk, hg⟩
    · cases h
end
section
/-! ===== rk: the steps that look at no cell are sound ===== -/
def rk_holds (c : ClassFile.Cond) (x y : Int32) : Prop := match c with
  | .eq => x.toInt = y.toInt
  | .ne => ¬ x.toInt = y.toInt
  | .lt => x.toInt < y.toInt
  | .ge => y.toInt ≤ x.toInt
  | .gt => y.toInt < x.toInt
  | .le => x.toInt ≤ y.toInt
theorem rk_cut2 {env : List rk_T} {vals : List Value} {ads : List Nat} {a b : rk_V} {x y : Int32} {l1 h1 l2 h2 : Int} (hE : rk_E env vals) (ga : rk_g vals ads a (.int x)) (gb : rk_g vals ads b (.int y)) (p1 : l1 ≤ x.toInt) (p2 : x.toInt ≤ h1) (p3 : l2 ≤ y.toInt) (p4 : y.toInt ≤ h2) : ∃ env', (rk_cut env a l1 h1).bind (fun e => rk_cut e b l2 h2) = some env' ∧ rk_E env' vals := by
  obtain ⟨e1, q1, r1⟩ := rk_cut_ok hE ga p1 p2
  obtain ⟨e2, q2, r2⟩ := rk_cut_ok r1 gb p3 p4
  exact ⟨e2, by rw [q1]; exact q2, r2⟩
theorem rk_cond_ok (c : ClassFile.Cond) {env : List rk_T} {vals : List Value} {ads : List Nat} {a b : rk_V} {x y : Int32} {I J : Int × Int} (hE : rk_E env vals) (ga : rk_g vals ads a (.int x)) (gb : rk_g vals ads b (.int y)) (hi : rk_iv env a = some I) (hj : rk_iv env b = some J) (h : rk_holds c x y) : ∃ env', rk_cond c env a b I J = some env' ∧ rk_E env' vals := by
  obtain ⟨x', e1, p1, p2⟩ := rk_iv_ok hE ga hi
  cases e1
  obtain ⟨y', e2, p3, p4⟩ := rk_iv_ok hE gb hj
  cases e2
  obtain ⟨f1, f2⟩ := rk_full_ok x
  obtain ⟨f3, f4⟩ := rk_full_ok y
  dsimp only [rk_full] at f1 f2 f3 f4
  cases c <;> dsimp only [rk_holds] at h <;> dsimp only [rk_cond]
  · exact rk_cut2 hE ga gb (by omega) (by omega) (by omega) (by omega)
  · split
    · omega
    · split
      · exact rk_cut_ok hE ga (by omega) (by omega)
      · split
        · exact rk_cut_ok hE ga (by omega) (by omega)
        · split
          · exact rk_cut_ok hE gb (by omega) (by omega)
          · split
            · exact rk_cut_ok hE gb (by omega) (by omega)
            · exact ⟨env, rfl, hE⟩
  all_goals exact rk_cut2 hE ga gb (by omega) (by omega) (by omega) (by omega)
theorem rk_not_ok {c : ClassFile.Cond} {x y : Int32} (h : ¬ rk_holds c x y) : rk_holds (rk_not c) x y := by
  cases c <;> dsimp only [rk_holds, rk_not] at h ⊢ <;> omega
theorem rk_opt_mem {r : Option (List rk_T)} {e : List rk_T} (h : r = some e) (pc : Nat) (lo : List (Nat × rk_V)) (sk : List rk_V) (hp : List rk_H) (nc ns : Nat) : (pc, (lo, sk, e, hp, nc, ns)) ∈ rk_opt r pc lo sk hp nc ns := by
  rw [h]; exact List.mem_singleton.mpr rfl
section RKP
variable {p : Program} {l : Launch} {e : Env} {R : Room} {s : State} {m : MethodId} {args : Array Value} {below : List Frame} {meth : Method} {c : Code} {Q : State → Prop} {cc : ByteArray} {D : va_G} {cl : List vw_C} {Ad : Nat → Prop} {nL : Nat} {vals0 : List Value} {ads0 : List Nat}
/-- a comparison, by its row -/
theorem rk_if_ok {K : rk_K} {cd : ClassFile.Cond} {off : Int} {pc : Nat} {a b : rk_V} {lo : List (Nat × rk_V)} {sk : List rk_V} {env : List rk_T} {hp : List rk_H} {nc ns : Nat} {res : List (Nat × rk_S)} (h : rk_if cd off pc a b lo sk env hp nc ns = some res) (kk : ∀ q ∈ res, rk_W K s D cl Ad nL vals0 ads0 q.1 q.2)
    {vals : List Value} {ws : va_W} {H : Heap} {locs : List Loc} {ls : Array Slot} {stk : List Value} {lc : List (Nat × Value)} {va vb : Value} (hG : rk_G s D cl Ad vals0 ads0 vals ws H locs env hp) (hl : lv_has ls nL lc) (hL : rk_Lo vals (ws.map Prod.fst) lo lc) (ga : rk_g vals (ws.map Prod.fst) a va) (gb : rk_g vals (ws.map Prod.fst) b vb) (hS : rk_A2 (rk_g vals (ws.map Prod.fst)) sk stk) :
    ∃ (x y : Int32) (tgt : Nat), va = .int x ∧ vb = .int y ∧ (pc : Int) + off = (tgt : Int) ∧ (rk_holds cd x y → K tgt ls stk H locs nc ns) ∧ (¬ rk_holds cd x y → K (pc + 3) ls stk H locs nc ns) := by
  unfold rk_if at h
  split at h
  · next I J hi hj =>
    split at h
    · next hpc =>
      cases h
      obtain ⟨x, rfl, -, -⟩ := rk_iv_ok hG.1 ga hi
      obtain ⟨y, rfl, -, -⟩ := rk_iv_ok hG.1 gb hj
      refine ⟨x, y, ((pc : Int) + off).toNat, rfl, rfl, by omega, fun hh => ?_, fun hh => ?_⟩
      · obtain ⟨e', q1, q2⟩ := rk_cond_ok cd hG.1 ga gb hi hj hh
        exact kk _ (List.mem_append_left _ (rk_opt_mem q1 _ lo sk hp nc ns)) vals ws H locs ls stk lc (hG.env0 q2) hl hL hS
      · obtain ⟨e', q1, q2⟩ := rk_cond_ok (rk_not cd) hG.1 ga gb hi hj (rk_not_ok hh)
        exact kk _ (List.mem_append_right _ (rk_opt_mem q1 _ lo sk hp nc ns)) vals ws H locs ls stk lc (hG.env0 q2) hl hL hS
    · cases h
  · cases h
def rk_len (ins : Instr) (len : Nat) : Bool := match ins with
  | .bipush _ | .iload _ | .lload _ | .aload _ | .istore _ | .lstore _ | .astore _ | .ldc _ | .newarray _ => len == 2
  | .sipush _ | .iinc _ _ | .ifCond _ _ | .if_icmp _ _ | .goto _ | .getfield _ | .putfield _ | .getstatic _ | .new _ | .invokevirtual _ | .invokestatic _ | .invokespecial _ | .ldc_w _ | .ldc2_w _ | .anewarray _ => len == 3
  | .multianewarray _ _ => len == 4
  | .tableswitch _ _ _ _ | .lookupswitch _ _ => true
  | _ => len == 1

set_option maxHeartbeats 4000000 in
theorem rk_pure_ok (hx : p.tables.exec = Jvm.exec) (hb : c.code = cc) {pc : Nat} {ins : Instr} {len : Nat} {st : rk_S} {res : List (Nat × rk_S)} (hdg : decode cc pc = .ok (ins, len)) (hlen : rk_len ins len = true) (h : rk_pure nL pc ins st = some res) (kk : ∀ q ∈ res, rk_W (rk_KW p l e R s m args below meth c Q) s D cl Ad nL vals0 ads0 q.1 q.2) : rk_W (rk_KW p l e R s m args below meth c Q) s D cl Ad nL vals0 ads0 pc st := by
  obtain ⟨lo, sk, env, hp, nc, ns⟩ := st
  intro vals ws H locs ls stk lc hG hl hL hS
  dsimp only at hG hL hS ⊢
  cases ins

  case iconst n =>
    simp [rk_len] at hlen; subst hlen
    simp only [rk_pure, Option.some.injEq] at h; subst h
    refine lv_iconst (v := Int32.ofInt n) hx hb hdg rfl ?_
    exact kk _ (List.mem_singleton.mpr rfl) vals ws H locs ls _ lc hG hl hL ⟨rfl, hS⟩
  case bipush n =>
    simp [rk_len] at hlen; subst hlen
    simp only [rk_pure, Option.some.injEq] at h; subst h
    refine lv_bipush (v := (Int8.ofInt n).toInt32) hx hb hdg rfl ?_
    exact kk _ (List.mem_singleton.mpr rfl) vals ws H locs ls _ lc hG hl hL ⟨rfl, hS⟩
  case sipush n =>
    simp [rk_len] at hlen; subst hlen
    simp only [rk_pure, Option.some.injEq] at h; subst h
    refine lv_sipush (v := (Int16.ofInt n).toInt32) hx hb hdg rfl ?_
    exact kk _ (List.mem_singleton.mpr rfl) vals ws H locs ls _ lc hG hl hL ⟨rfl, hS⟩
  case lconst n =>
    simp [rk_len] at hlen; subst hlen
    simp only [rk_pure, Option.some.injEq] at h; subst h
    refine lv_lconst (v := Int64.ofNat (n : Nat)) hx hb hdg rfl ?_
    exact kk _ (List.mem_singleton.mpr rfl) vals ws H locs ls _ lc hG hl hL ⟨rfl, hS⟩
  case aconst_null =>
    simp [rk_len] at hlen; subst hlen
    simp only [rk_pure, Option.some.injEq] at h; subst h
    refine lv_null hx hb hdg ?_
    exact kk _ (List.mem_singleton.mpr rfl) vals ws H locs ls _ lc hG hl hL ⟨rfl, hS⟩
  case iload_n k =>
    simp [rk_len] at hlen; subst hlen
    simp only [rk_pure, rk_ldi] at h
    split at h
    · next a ha =>
      split at h
      · next hi =>
        cases h
        obtain ⟨v, hv, hg⟩ := rk_ld_ok hL ha
        obtain ⟨I, hI⟩ := Option.isSome_iff_exists.mp hi
        obtain ⟨x, rfl, -, -⟩ := rk_iv_ok hG.1 hg hI
        refine lv_iload_n hx hb hdg rfl (hl.2.2 _ hv) ?_
        exact kk _ (List.mem_singleton.mpr rfl) vals ws H locs ls _ lc hG hl hL ⟨rk_norm_ok hG.1 hg, hS⟩
      · cases h
    · cases h
  case iload k =>
    simp [rk_len] at hlen; subst hlen
    simp only [rk_pure, rk_ldi] at h
    split at h
    · next a ha =>
      split at h
      · next hi =>
        cases h
        obtain ⟨v, hv, hg⟩ := rk_ld_ok hL ha
        obtain ⟨I, hI⟩ := Option.isSome_iff_exists.mp hi
        obtain ⟨x, rfl, -, -⟩ := rk_iv_ok hG.1 hg hI
        refine lv_iload hx hb hdg (hl.2.2 _ hv) ?_
        exact kk _ (List.mem_singleton.mpr rfl) vals ws H locs ls _ lc hG hl hL ⟨rk_norm_ok hG.1 hg, hS⟩
      · cases h
    · cases h
  case lload_n k =>
    simp [rk_len] at hlen; subst hlen
    simp only [rk_pure, rk_ldl] at h
    split at h
    · next a ha =>
      split at h
      · next hi =>
        cases h
        obtain ⟨v, hv, hg⟩ := rk_ld_ok hL ha
        obtain ⟨x, rfl⟩ := rk_isL_ok hG.1 hg hi
        refine lv_lload_n hx hb hdg rfl (hl.2.2 _ hv) ?_
        exact kk _ (List.mem_singleton.mpr rfl) vals ws H locs ls _ lc hG hl hL ⟨hg, hS⟩
      · cases h
    · cases h
  case lload k =>
    simp [rk_len] at hlen; subst hlen
    simp only [rk_pure, rk_ldl] at h
    split at h
    · next a ha =>
      split at h
      · next hi =>
        cases h
        obtain ⟨v, hv, hg⟩ := rk_ld_ok hL ha
        obtain ⟨x, rfl⟩ := rk_isL_ok hG.1 hg hi
        refine lv_lload hx hb hdg (hl.2.2 _ hv) ?_
        exact kk _ (List.mem_singleton.mpr rfl) vals ws H locs ls _ lc hG hl hL ⟨hg, hS⟩
      · cases h
    · cases h
  case aload_n k =>
    simp [rk_len] at hlen; subst hlen
    simp only [rk_pure, rk_lda] at h
    split at h
    · next j ha =>
      cases h
      obtain ⟨v, hv, hg⟩ := rk_ld_ok hL ha
      obtain ⟨x, hj, rfl⟩ := id hg
      refine lv_aload_n hx hb hdg rfl (hl.2.2 _ hv) ?_
      exact kk _ (List.mem_singleton.mpr rfl) vals ws H locs ls _ lc hG hl hL ⟨hg, hS⟩
    · cases h
  case aload k =>
    simp [rk_len] at hlen; subst hlen
    simp only [rk_pure, rk_lda] at h
    split at h
    · next j ha =>
      cases h
      obtain ⟨v, hv, hg⟩ := rk_ld_ok hL ha
      obtain ⟨x, hj, rfl⟩ := id hg
      refine lv_aload hx hb hdg (hl.2.2 _ hv) ?_
      exact kk _ (List.mem_singleton.mpr rfl) vals ws H locs ls _ lc hG hl hL ⟨hg, hS⟩
    · cases h
  case istore_n k =>
    simp [rk_len] at hlen; subst hlen
    simp only [rk_pure, rk_sti] at h
    split at h
    · next a r =>
      split at h
      · next hi =>
        cases h
        obtain ⟨v, k1, rfl, hg, hSn⟩ := hS.cons; clear hS; have hS := hSn; clear hSn
        obtain ⟨I, hI⟩ := Option.isSome_iff_exists.mp hi.1
        obtain ⟨x, rfl, -, -⟩ := rk_iv_ok hG.1 hg hI
        refine lv_istore_n hx hb hdg rfl hl hi.2 rfl (fun ls' hl' => ?_)
        exact kk _ (List.mem_singleton.mpr rfl) vals ws H locs ls' _ _ hG hl' (rk_st1_ok hG.1 hL hg) hS
      · cases h
    · cases h
  case istore k =>
    simp [rk_len] at hlen; subst hlen
    simp only [rk_pure, rk_sti] at h
    split at h
    · next a r =>
      split at h
      · next hi =>
        cases h
        obtain ⟨v, k1, rfl, hg, hSn⟩ := hS.cons; clear hS; have hS := hSn; clear hSn
        obtain ⟨I, hI⟩ := Option.isSome_iff_exists.mp hi.1
        obtain ⟨x, rfl, -, -⟩ := rk_iv_ok hG.1 hg hI
        refine lv_istore hx hb hdg hl hi.2 rfl (fun ls' hl' => ?_)
        exact kk _ (List.mem_singleton.mpr rfl) vals ws H locs ls' _ _ hG hl' (rk_st1_ok hG.1 hL hg) hS
      · cases h
    · cases h
  case lstore_n k =>
    simp [rk_len] at hlen; subst hlen
    simp only [rk_pure, rk_stl] at h
    split at h
    · next a r =>
      split at h
      · next hi =>
        cases h
        obtain ⟨v, k1, rfl, hg, hSn⟩ := hS.cons; clear hS; have hS := hSn; clear hSn
        obtain ⟨x, rfl⟩ := rk_isL_ok hG.1 hg hi.1
        refine lv_lstore_n hx hb hdg rfl hl hi.2 rfl (fun ls' hl' => ?_)
        exact kk _ (List.mem_singleton.mpr rfl) vals ws H locs ls' _ _ hG hl' (rk_st2_ok hG.1 hL hg) hS
      · cases h
    · cases h
  case lstore k =>
    simp [rk_len] at hlen; subst hlen
    simp only [rk_pure, rk_stl] at h
    split at h
    · next a r =>
      split at h
      · next hi =>
        cases h
        obtain ⟨v, k1, rfl, hg, hSn⟩ := hS.cons; clear hS; have hS := hSn; clear hSn
        obtain ⟨x, rfl⟩ := rk_isL_ok hG.1 hg hi.1
        refine lv_lstore hx hb hdg hl hi.2 rfl (fun ls' hl' => ?_)
        exact kk _ (List.mem_singleton.mpr rfl) vals ws H locs ls' _ _ hG hl' (rk_st2_ok hG.1 hL hg) hS
      · cases h
    · cases h
  case astore_n k =>
    simp [rk_len] at hlen; subst hlen
    simp only [rk_pure, rk_sta] at h
    split at h
    · next j r =>
      split at h
      · next hi =>
        cases h
        obtain ⟨v, k1, rfl, hg, hSn⟩ := hS.cons; clear hS; have hS := hSn; clear hSn
        obtain ⟨x, hj, rfl⟩ := id hg
        refine lv_astore_n hx hb hdg rfl hl hi rfl (fun ls' hl' => ?_)
        exact kk _ (List.mem_singleton.mpr rfl) vals ws H locs ls' _ _ hG hl' (rk_st1_ok hG.1 hL hg) hS
      · cases h
    · cases h
  case astore k =>
    simp [rk_len] at hlen; subst hlen
    simp only [rk_pure, rk_sta] at h
    split at h
    · next j r =>
      split at h
      · next hi =>
        cases h
        obtain ⟨v, k1, rfl, hg, hSn⟩ := hS.cons; clear hS; have hS := hSn; clear hSn
        obtain ⟨x, hj, rfl⟩ := id hg
        refine lv_astore hx hb hdg hl hi rfl (fun ls' hl' => ?_)
        exact kk _ (List.mem_singleton.mpr rfl) vals ws H locs ls' _ _ hG hl' (rk_st1_ok hG.1 hL hg) hS
      · cases h
    · cases h
  case iinc i n =>
    simp [rk_len] at hlen; subst hlen
    simp only [rk_pure] at h
    split at h
    · next a ha =>
      split at h
      · next hi =>
        split at h
        · next q hq =>
          cases h
          obtain ⟨v, hv, hg⟩ := rk_ld_ok hL ha
          obtain ⟨x, y, k2, rfl, ey, hE2, hg2⟩ := rk_bin_ok rk_s_add hG.1 hg (show rk_g vals (ws.map Prod.fst) (.inl (.int (Int32.ofInt n))) (.int (Int32.ofInt n)) from rfl) hq
          cases ey
          obtain ⟨kq, hkq⟩ := List.getElem?_of_mem hv
          refine lv_iinc hx hb hdg hl hkq rfl hi rfl (fun ls' hl' => ?_)
          exact kk _ (List.mem_singleton.mpr rfl) (vals ++ k2) ws H locs ls' _ _ (hG.env hE2) hl' (rk_st1_ok hE2 (hL.grow k2) hg2) (rk_skG hS k2)
        · cases h
      · cases h
    · cases h
  case dup =>
    simp [rk_len] at hlen; subst hlen
    simp only [rk_pure] at h
    split at h
    · next a r =>
      split at h
      · next hc =>
        cases h
        obtain ⟨v, k1, rfl, hg, hS1⟩ := hS.cons
        refine lv_dup hx hb hdg (by rw [← rk_cat_ok hG.1 hg]; exact hc) ?_
        exact kk _ (List.mem_singleton.mpr rfl) vals ws H locs ls _ lc hG hl hL ⟨hg, hg, hS1⟩
      · cases h
    · cases h
  case dup2 =>
    simp [rk_len] at hlen; subst hlen
    simp only [rk_pure] at h
    split at h
    · next a b r =>
      obtain ⟨v, k1, rfl, hg, hS1⟩ := hS.cons
      obtain ⟨v2, k2, rfl, hg2, hS2⟩ := hS1.cons
      split at h
      · next hc =>
        cases h
        refine lv_dup2_11 hx hb hdg (by rw [← rk_cat_ok hG.1 hg]; exact hc.1) (by rw [← rk_cat_ok hG.1 hg2]; exact hc.2) ?_
        exact kk _ (List.mem_singleton.mpr rfl) vals ws H locs ls _ lc hG hl hL ⟨hg, hg2, hg, hg2, hS2⟩
      · split at h
        · next hc =>
          cases h
          refine lv_dup2_2 hx hb hdg (by rw [← rk_cat_ok hG.1 hg]; exact hc) ?_
          exact kk _ (List.mem_singleton.mpr rfl) vals ws H locs ls _ lc hG hl hL ⟨hg, hg, hg2, hS2⟩
        · cases h
    · cases h
  case pop =>
    simp [rk_len] at hlen; subst hlen
    simp only [rk_pure] at h
    split at h
    · next a r =>
      split at h
      · next hc =>
        cases h
        obtain ⟨v, k1, rfl, hg, hS1⟩ := hS.cons
        refine lv_pop hx hb hdg (by rw [← rk_cat_ok hG.1 hg]; exact hc) ?_
        exact kk _ (List.mem_singleton.mpr rfl) vals ws H locs ls _ lc hG hl hL hS1
      · cases h
    · cases h
  case pop2 =>
    simp [rk_len] at hlen; subst hlen
    simp only [rk_pure] at h
    split at h
    · next a r =>
      split at h
      · next hc =>
        cases h
        obtain ⟨v, k1, rfl, hg, hS1⟩ := hS.cons
        refine lv_pop2_2 hx hb hdg (by rw [← rk_cat_ok hG.1 hg]; exact hc) ?_
        exact kk _ (List.mem_singleton.mpr rfl) vals ws H locs ls _ lc hG hl hL hS1
      · cases h
    · cases h
  case iadd =>
    simp [rk_len] at hlen; subst hlen
    simp only [rk_pure] at h
    split at h
    · next b a r =>
      unfold rk_op2 at h
      split at h
      · next q hq =>
        cases h
        obtain ⟨vb, k1, rfl, gb, hSn⟩ := hS.cons; clear hS; have hS := hSn; clear hSn
        obtain ⟨va, k2, rfl, ga, hSn⟩ := hS.cons; clear hS; have hS := hSn; clear hSn
        obtain ⟨x, y, k3, rfl, rfl, hE2, hg2⟩ := rk_bin_ok rk_s_add hG.1 ga gb hq
        refine lv_iadd hx hb hdg ?_
        exact kk _ (List.mem_singleton.mpr rfl) (vals ++ k3) ws H locs ls _ lc (hG.env hE2) hl (hL.grow k3) ⟨hg2, rk_skG hS k3⟩
      · cases h
    · cases h
  case isub =>
    simp [rk_len] at hlen; subst hlen
    simp only [rk_pure] at h
    split at h
    · next b a r =>
      unfold rk_op2 at h
      split at h
      · next q hq =>
        cases h
        obtain ⟨vb, k1, rfl, gb, hSn⟩ := hS.cons; clear hS; have hS := hSn; clear hSn
        obtain ⟨va, k2, rfl, ga, hSn⟩ := hS.cons; clear hS; have hS := hSn; clear hSn
        obtain ⟨x, y, k3, rfl, rfl, hE2, hg2⟩ := rk_bin_ok rk_s_sub hG.1 ga gb hq
        refine lv_isub hx hb hdg ?_
        exact kk _ (List.mem_singleton.mpr rfl) (vals ++ k3) ws H locs ls _ lc (hG.env hE2) hl (hL.grow k3) ⟨hg2, rk_skG hS k3⟩
      · cases h
    · cases h
  case imul =>
    simp [rk_len] at hlen; subst hlen
    simp only [rk_pure] at h
    split at h
    · next b a r =>
      unfold rk_op2 at h
      split at h
      · next q hq =>
        cases h
        obtain ⟨vb, k1, rfl, gb, hSn⟩ := hS.cons; clear hS; have hS := hSn; clear hSn
        obtain ⟨va, k2, rfl, ga, hSn⟩ := hS.cons; clear hS; have hS := hSn; clear hSn
        obtain ⟨x, y, k3, rfl, rfl, hE2, hg2⟩ := rk_bin_ok (rk_s_full _) hG.1 ga gb hq
        refine lv_imul hx hb hdg ?_
        exact kk _ (List.mem_singleton.mpr rfl) (vals ++ k3) ws H locs ls _ lc (hG.env hE2) hl (hL.grow k3) ⟨hg2, rk_skG hS k3⟩
      · cases h
    · cases h
  case iand =>
    simp [rk_len] at hlen; subst hlen
    simp only [rk_pure] at h
    split at h
    · next b a r =>
      unfold rk_op2 at h
      split at h
      · next q hq =>
        cases h
        obtain ⟨vb, k1, rfl, gb, hSn⟩ := hS.cons; clear hS; have hS := hSn; clear hSn
        obtain ⟨va, k2, rfl, ga, hSn⟩ := hS.cons; clear hS; have hS := hSn; clear hSn
        obtain ⟨x, y, k3, rfl, rfl, hE2, hg2⟩ := rk_bin_ok rk_s_and hG.1 ga gb hq
        refine lv_iand hx hb hdg ?_
        exact kk _ (List.mem_singleton.mpr rfl) (vals ++ k3) ws H locs ls _ lc (hG.env hE2) hl (hL.grow k3) ⟨hg2, rk_skG hS k3⟩
      · cases h
    · cases h
  case ior =>
    simp [rk_len] at hlen; subst hlen
    simp only [rk_pure] at h
    split at h
    · next b a r =>
      unfold rk_op2 at h
      split at h
      · next q hq =>
        cases h
        obtain ⟨vb, k1, rfl, gb, hSn⟩ := hS.cons; clear hS; have hS := hSn; clear hSn
        obtain ⟨va, k2, rfl, ga, hSn⟩ := hS.cons; clear hS; have hS := hSn; clear hSn
        obtain ⟨x, y, k3, rfl, rfl, hE2, hg2⟩ := rk_bin_ok (rk_s_full _) hG.1 ga gb hq
        refine lv_ior hx hb hdg ?_
        exact kk _ (List.mem_singleton.mpr rfl) (vals ++ k3) ws H locs ls _ lc (hG.env hE2) hl (hL.grow k3) ⟨hg2, rk_skG hS k3⟩
      · cases h
    · cases h
  case ixor =>
    simp [rk_len] at hlen; subst hlen
    simp only [rk_pure] at h
    split at h
    · next b a r =>
      unfold rk_op2 at h
      split at h
      · next q hq =>
        cases h
        obtain ⟨vb, k1, rfl, gb, hSn⟩ := hS.cons; clear hS; have hS := hSn; clear hSn
        obtain ⟨va, k2, rfl, ga, hSn⟩ := hS.cons; clear hS; have hS := hSn; clear hSn
        obtain ⟨x, y, k3, rfl, rfl, hE2, hg2⟩ := rk_bin_ok (rk_s_full _) hG.1 ga gb hq
        refine lv_ixor hx hb hdg ?_
        exact kk _ (List.mem_singleton.mpr rfl) (vals ++ k3) ws H locs ls _ lc (hG.env hE2) hl (hL.grow k3) ⟨hg2, rk_skG hS k3⟩
      · cases h
    · cases h
  case ifCond cd off =>
    simp [rk_len] at hlen; subst hlen
    simp only [rk_pure] at h
    split at h
    · next a r =>
      obtain ⟨va, k1, rfl, ga, hSn⟩ := hS.cons; clear hS; have hS := hSn; clear hSn
      obtain ⟨x, y, tgt, rfl, ey, ht, k1, k2⟩ := rk_if_ok h kk hG hl hL ga (show rk_g vals (ws.map Prod.fst) (.inl (.int 0)) (.int 0) from rfl) hS
      cases ey
      cases cd
      case eq => exact lv_if_eq hx hb hdg ht (fun q => k1 (Int32.toInt_inj.mpr q)) (fun q => k2 (fun z => q (Int32.toInt_inj.mp z)))
      case ne => exact lv_if_ne hx hb hdg ht (fun q => k1 (fun z => q (Int32.toInt_inj.mp z))) (fun q => k2 (fun z => z (Int32.toInt_inj.mpr q)))
      case lt => exact lv_if_lt hx hb hdg ht (fun q => k1 (Int32.lt_iff_toInt_lt.mp q)) (fun q => k2 (fun z => q (Int32.lt_iff_toInt_lt.mpr z)))
      case ge => exact lv_if_ge hx hb hdg ht (fun q => k1 (Int32.le_iff_toInt_le.mp q)) (fun q => k2 (fun z => q (Int32.le_iff_toInt_le.mpr z)))
      case gt => exact lv_if_gt hx hb hdg ht (fun q => k1 (Int32.lt_iff_toInt_lt.mp q)) (fun q => k2 (fun z => q (Int32.lt_iff_toInt_lt.mpr z)))
      case le => exact lv_if_le hx hb hdg ht (fun q => k1 (Int32.le_iff_toInt_le.mp q)) (fun q => k2 (fun z => q (Int32.le_iff_toInt_le.mpr z)))
    · cases h
  case if_icmp cd off =>
    simp [rk_len] at hlen; subst hlen
    simp only [rk_pure] at h
    split at h
    · next b a r =>
      obtain ⟨vb, k0, rfl, gb, hSn⟩ := hS.cons; clear hS; have hS := hSn; clear hSn
      obtain ⟨va, k1, rfl, ga, hSn⟩ := hS.cons; clear hS; have hS := hSn; clear hSn
      obtain ⟨x, y, tgt, rfl, rfl, ht, k1, k2⟩ := rk_if_ok h kk hG hl hL ga gb hS
      cases cd
      case eq => exact lv_icmp_eq hx hb hdg ht (fun q => k1 (Int32.toInt_inj.mpr q)) (fun q => k2 (fun z => q (Int32.toInt_inj.mp z)))
      case ne => exact lv_icmp_ne hx hb hdg ht (fun q => k1 (fun z => q (Int32.toInt_inj.mp z))) (fun q => k2 (fun z => z (Int32.toInt_inj.mpr q)))
      case lt => exact lv_icmp_lt hx hb hdg ht (fun q => k1 (Int32.lt_iff_toInt_lt.mp q)) (fun q => k2 (fun z => q (Int32.lt_iff_toInt_lt.mpr z)))
      case ge => exact lv_icmp_ge hx hb hdg ht (fun q => k1 (Int32.le_iff_toInt_le.mp q)) (fun q => k2 (fun z => q (Int32.le_iff_toInt_le.mpr z)))
      case gt => exact lv_icmp_gt hx hb hdg ht (fun q => k1 (Int32.lt_iff_toInt_lt.mp q)) (fun q => k2 (fun z => q (Int32.lt_iff_toInt_lt.mpr z)))
      case le => exact lv_icmp_le hx hb hdg ht (fun q => k1 (Int32.le_iff_toInt_le.mp q)) (fun q => k2 (fun z => q (Int32.le_iff_toInt_le.mpr z)))
    · cases h
  case goto off =>
    simp [rk_len] at hlen; subst hlen
    simp only [rk_pure] at h
    split at h
    · next hpc =>
      cases h
      exact lv_goto (tgt := ((pc : Int) + off).toNat) hx hb hdg (by omega) (kk _ (List.mem_singleton.mpr rfl) vals ws H locs ls _ lc hG hl hL hS)
    · cases h
  all_goals (simp [rk_pure] at h)
theorem rk_nz_ok {env : List rk_T} {vals : List Value} {ads : List Nat} {b : rk_V} {y : Int32} (hE : rk_E env vals) (gb : rk_g vals ads b (.int y)) (h : rk_nz env b = true) : ¬ y = 0 := by
  unfold rk_nz at h
  split at h
  · next J hj =>
    obtain ⟨y', e, h1, h2⟩ := rk_iv_ok hE gb hj
    cases e
    intro hy
    subst hy
    have h0 : (0 : Int32).toInt = 0 := rfl
    rw [h0] at h1 h2
    simp at h
    omega
  · cases h
theorem rk_lnz_ok {vals : List Value} {ads : List Nat} {b : rk_V} {y : Int64} (gb : rk_g vals ads b (.long y)) (h : rk_lnz b = true) : ¬ y = 0 := by
  unfold rk_lnz at h
  split at h
  · next z =>
    have gb : Value.long y = Value.long z := gb
    cases gb
    exact of_decide_eq_true h
  · cases h
theorem rk_s_i2b (x : Int32) : (-128 : Int) ≤ (x.toInt8.toInt32).toInt ∧ (x.toInt8.toInt32).toInt ≤ 127 := by
  rw [Int8.toInt_toInt32]
  exact ⟨Int8.le_toInt _, Int8.toInt_le _⟩
theorem rk_s_i2s (x : Int32) : (-32768 : Int) ≤ (x.toInt16.toInt32).toInt ∧ (x.toInt16.toInt32).toInt ≤ 32767 := by
  rw [Int16.toInt_toInt32]
  exact ⟨Int16.le_toInt _, Int16.toInt_le _⟩
theorem rk_lg (x y : Int64) : (-1 : Int) ≤ (lg_cmp x y).toInt ∧ (lg_cmp x y).toInt ≤ 1 := by
  unfold lg_cmp
  split
  · decide
  · split <;> decide
theorem rk_ll (x : Int32) : x.toInt64.toInt32 = x := by
  apply Int32.toInt_inj.mp
  rw [Int64.toInt_toInt32, Int32.toInt_toInt64]
  obtain ⟨f1, f2⟩ := rk_full_ok x
  dsimp only [rk_full] at f1 f2
  exact Int.bmod_eq_of_le (by omega) (by omega)
theorem rk_lgc (x y : Int64) : (lg_cmp x y = 1 ∧ y.toInt < x.toInt) ∨ (lg_cmp x y = 0 ∧ x.toInt = y.toInt) ∨ (lg_cmp x y = -1 ∧ x.toInt < y.toInt) := by
  unfold lg_cmp
  split
  · next h => exact Or.inl ⟨rfl, Int64.lt_iff_toInt_lt.mp h⟩
  · next h =>
    split
    · next e => exact Or.inr (Or.inl ⟨rfl, by rw [e]⟩)
    · next e =>
      refine Or.inr (Or.inr ⟨rfl, ?_⟩)
      have h1 : ¬ y.toInt < x.toInt := fun z => h (Int64.lt_iff_toInt_lt.mpr z)
      have h2 : ¬ x.toInt = y.toInt := fun z => e (Int64.toInt_inj.mp z)
      omega
theorem rk_s_rem : rk_sound2 (fun x y => x - x / y * y) rk_irem := by
  intro x y I J h1 h2 h3 h4
  unfold rk_irem
  split
  · next h =>
    obtain ⟨a, ha, rfl⟩ := nI_of (x := x) (by rw [Int32.lt_iff_toInt_lt, Int32.toInt_zero]; omega)
    obtain ⟨d, hd, rfl⟩ := nI_of (x := y) (by rw [Int32.lt_iff_toInt_lt, Int32.toInt_zero]; omega)
    rw [nI_toInt hd] at h3 h4
    have h0 : 0 < d := by omega
    dsimp only
    rw [pk_rem ha h0 hd]
    have := Nat.mod_lt a h0
    rw [nI_toInt (by omega)]
    omega
  · exact rk_full_ok _
theorem rk_sw_ok {a : rk_V} {pc : Nat} {lo : List (Nat × rk_V)} {sk : List rk_V} {env : List rk_T} {hp : List rk_H} {nc ns : Nat} {vals : List Value} {ads : List Nat} {x : Int32} (hE : rk_E env vals) (ga : rk_g vals ads a (.int x)) : ∀ {offs : List Int} {v : Int} {k : Nat} {res : List (Nat × rk_S)}, rk_sw a pc lo sk env hp nc ns v offs = some res → k < offs.length → x.toInt = v + k → ∃ (o : Int) (env2 : List rk_T), offs[k]? = some o ∧ rk_E env2 vals ∧ 0 ≤ (pc : Int) + o ∧ (((pc : Int) + o).toNat, (lo, sk, env2, hp, nc, ns)) ∈ res := by
  intro offs
  induction offs with
  | nil => intro v k res _ hk; simp at hk
  | cons o offs ih =>
    intro v k res h hk hxv
    unfold rk_sw at h
    split at h
    · next hpc =>
      obtain ⟨r2, hr2, e1⟩ := Option.map_eq_some_iff.mp h
      subst e1
      cases k with
      | zero =>
        obtain ⟨e2, q1, q2⟩ := rk_cut_ok (lo := v) (hi := v) hE ga (by omega) (by omega)
        exact ⟨o, e2, rfl, q2, hpc, List.mem_append_left _ (rk_opt_mem q1 _ lo sk hp nc ns)⟩
      | succ k =>
        obtain ⟨o2, e2, q1, q2, q3, q4⟩ := ih hr2 (by simpa using hk) (by omega)
        exact ⟨o2, e2, by simpa using q1, q2, q3, List.mem_append_right _ q4⟩
    · cases h
set_option maxHeartbeats 4000000 in
theorem rk_pure2_ok (hx : p.tables.exec = Jvm.exec) (hb : c.code = cc) {pc : Nat} {ins : Instr} {len : Nat} {st : rk_S} {res : List (Nat × rk_S)} (hdg : decode cc pc = .ok (ins, len)) (hlen : rk_len ins len = true) (h : rk_pure2 pc ins st = some res) (kk : ∀ q ∈ res, rk_W (rk_KW p l e R s m args below meth c Q) s D cl Ad nL vals0 ads0 q.1 q.2) : rk_W (rk_KW p l e R s m args below meth c Q) s D cl Ad nL vals0 ads0 pc st := by
  obtain ⟨lo, sk, env, hp, nc, ns⟩ := st
  intro vals ws H locs ls stk lc hG hl hL hS
  dsimp only at hG hL hS ⊢
  cases ins

  case ishl =>
    simp [rk_len] at hlen; subst hlen
    simp only [rk_pure2] at h
    split at h
    · next b a r =>
      unfold rk_op2 at h
      split at h
      · next q hq =>
        cases h
        obtain ⟨vb, k1, rfl, gb, hSn⟩ := hS.cons; clear hS; have hS := hSn; clear hSn
        obtain ⟨va, k2, rfl, ga, hSn⟩ := hS.cons; clear hS; have hS := hSn; clear hSn
        obtain ⟨x, y, k3, rfl, rfl, hE2, hg2⟩ := rk_bin_ok (rk_s_full _) hG.1 ga gb hq
        refine lv_ishl hx hb hdg ?_
        exact kk _ (List.mem_singleton.mpr rfl) (vals ++ k3) ws H locs ls _ lc (hG.env hE2) hl (hL.grow k3) ⟨hg2, rk_skG hS k3⟩
      · cases h
    · cases h
  case ishr =>
    simp [rk_len] at hlen; subst hlen
    simp only [rk_pure2] at h
    split at h
    · next b a r =>
      unfold rk_op2 at h
      split at h
      · next q hq =>
        cases h
        obtain ⟨vb, k1, rfl, gb, hSn⟩ := hS.cons; clear hS; have hS := hSn; clear hSn
        obtain ⟨va, k2, rfl, ga, hSn⟩ := hS.cons; clear hS; have hS := hSn; clear hSn
        obtain ⟨x, y, k3, rfl, rfl, hE2, hg2⟩ := rk_bin_ok (rk_s_full _) hG.1 ga gb hq
        refine lv_ishr hx hb hdg ?_
        exact kk _ (List.mem_singleton.mpr rfl) (vals ++ k3) ws H locs ls _ lc (hG.env hE2) hl (hL.grow k3) ⟨hg2, rk_skG hS k3⟩
      · cases h
    · cases h
  case iushr =>
    simp [rk_len] at hlen; subst hlen
    simp only [rk_pure2] at h
    split at h
    · next b a r =>
      unfold rk_op2 at h
      split at h
      · next q hq =>
        cases h
        obtain ⟨vb, k1, rfl, gb, hSn⟩ := hS.cons; clear hS; have hS := hSn; clear hSn
        obtain ⟨va, k2, rfl, ga, hSn⟩ := hS.cons; clear hS; have hS := hSn; clear hSn
        obtain ⟨x, y, k3, rfl, rfl, hE2, hg2⟩ := rk_bin_ok (rk_s_full _) hG.1 ga gb hq
        refine lv_iushr hx hb hdg rfl ?_
        exact kk _ (List.mem_singleton.mpr rfl) (vals ++ k3) ws H locs ls _ lc (hG.env hE2) hl (hL.grow k3) ⟨hg2, rk_skG hS k3⟩
      · cases h
    · cases h
  case idiv =>
    simp [rk_len] at hlen; subst hlen
    simp only [rk_pure2] at h
    split at h
    · next b a r =>
      split at h
      · next hz =>
        unfold rk_op2 at h
        split at h
        · next q hq =>
          cases h
          obtain ⟨vb, k1, rfl, gb, hSn⟩ := hS.cons; clear hS; have hS := hSn; clear hSn
          obtain ⟨va, k2, rfl, ga, hSn⟩ := hS.cons; clear hS; have hS := hSn; clear hSn
          obtain ⟨x, y, k3, rfl, rfl, hE2, hg2⟩ := rk_bin_ok (rk_s_full _) hG.1 ga gb hq
          have hne : ¬ y = 0 := rk_nz_ok hG.1 gb hz
          refine lv_idiv hx hb hdg hne ?_
          exact kk _ (List.mem_singleton.mpr rfl) (vals ++ k3) ws H locs ls _ lc (hG.env hE2) hl (hL.grow k3) ⟨hg2, rk_skG hS k3⟩
        · cases h
      · cases h
    · cases h
  case irem =>
    simp [rk_len] at hlen; subst hlen
    simp only [rk_pure2] at h
    split at h
    · next b a r =>
      split at h
      · next hz =>
        unfold rk_op2 at h
        split at h
        · next q hq =>
          cases h
          obtain ⟨vb, k1, rfl, gb, hSn⟩ := hS.cons; clear hS; have hS := hSn; clear hSn
          obtain ⟨va, k2, rfl, ga, hSn⟩ := hS.cons; clear hS; have hS := hSn; clear hSn
          obtain ⟨x, y, k3, rfl, rfl, hE2, hg2⟩ := rk_bin_ok rk_s_rem hG.1 ga gb hq
          have hne : ¬ y = 0 := rk_nz_ok hG.1 gb hz
          refine lv_irem hx hb hdg hne ?_
          exact kk _ (List.mem_singleton.mpr rfl) (vals ++ k3) ws H locs ls _ lc (hG.env hE2) hl (hL.grow k3) ⟨hg2, rk_skG hS k3⟩
        · cases h
      · cases h
    · cases h
  case ineg =>
    simp [rk_len] at hlen; subst hlen
    simp only [rk_pure2] at h
    split at h
    · next a r =>
      unfold rk_op2 at h
      split at h
      · next q hq =>
        cases h
        obtain ⟨va, k2, rfl, ga, hSn⟩ := hS.cons; clear hS; have hS := hSn; clear hSn
        obtain ⟨x, k3, rfl, hE2, hg2⟩ := rk_un_ok (fun x => rk_full_ok _) hG.1 ga hq
        refine lv_ineg hx hb hdg ?_
        exact kk _ (List.mem_singleton.mpr rfl) (vals ++ k3) ws H locs ls _ lc (hG.env hE2) hl (hL.grow k3) ⟨hg2, rk_skG hS k3⟩
      · cases h
    · cases h
  case i2b =>
    simp [rk_len] at hlen; subst hlen
    simp only [rk_pure2] at h
    split at h
    · next a r =>
      unfold rk_op2 at h
      split at h
      · next q hq =>
        cases h
        obtain ⟨va, k2, rfl, ga, hSn⟩ := hS.cons; clear hS; have hS := hSn; clear hSn
        obtain ⟨x, k3, rfl, hE2, hg2⟩ := rk_un_ok rk_s_i2b hG.1 ga hq
        refine lv_i2b hx hb hdg rfl ?_
        exact kk _ (List.mem_singleton.mpr rfl) (vals ++ k3) ws H locs ls _ lc (hG.env hE2) hl (hL.grow k3) ⟨hg2, rk_skG hS k3⟩
      · cases h
    · cases h
  case i2s =>
    simp [rk_len] at hlen; subst hlen
    simp only [rk_pure2] at h
    split at h
    · next a r =>
      unfold rk_op2 at h
      split at h
      · next q hq =>
        cases h
        obtain ⟨va, k2, rfl, ga, hSn⟩ := hS.cons; clear hS; have hS := hSn; clear hSn
        obtain ⟨x, k3, rfl, hE2, hg2⟩ := rk_un_ok rk_s_i2s hG.1 ga hq
        refine lv_i2s hx hb hdg rfl ?_
        exact kk _ (List.mem_singleton.mpr rfl) (vals ++ k3) ws H locs ls _ lc (hG.env hE2) hl (hL.grow k3) ⟨hg2, rk_skG hS k3⟩
      · cases h
    · cases h
  case i2l =>
    simp [rk_len] at hlen; subst hlen
    simp only [rk_pure2] at h
    split at h
    · next x r =>
      cases h
      obtain ⟨va, k2, rfl, ga, hSn⟩ := hS.cons; clear hS; have hS := hSn; clear hSn
      cases ga
      refine lv_i2l hx hb hdg rfl ?_
      exact kk _ (List.mem_singleton.mpr rfl) vals ws H locs ls _ lc hG hl hL ⟨rfl, hS⟩
    · next k r =>
      split at h
      · next hi =>
        cases h
        obtain ⟨va, k2, rfl, ga, hSn⟩ := hS.cons; clear hS; have hS := hSn; clear hSn
        obtain ⟨I, hI⟩ := Option.isSome_iff_exists.mp hi
        obtain ⟨x, rfl, -, -⟩ := rk_iv_ok hG.1 ga hI
        refine lv_i2l hx hb hdg rfl ?_
        exact kk _ (List.mem_singleton.mpr rfl) vals ws H locs ls _ lc hG hl hL ⟨⟨x, ga, rfl⟩, hS⟩
      · cases h
    · cases h
  case l2i =>
    simp [rk_len] at hlen; subst hlen
    simp only [rk_pure2] at h
    split at h
    · next x r =>
      cases h
      obtain ⟨va, k2, rfl, ga, hSn⟩ := hS.cons; clear hS; have hS := hSn; clear hSn
      cases ga
      refine lv_l2i hx hb hdg rfl ?_
      exact kk _ (List.mem_singleton.mpr rfl) vals ws H locs ls _ lc hG hl hL ⟨rfl, hS⟩
    · next k r =>
      cases h
      obtain ⟨va, k2, rfl, ⟨x, hx1, rfl⟩, hSn⟩ := hS.cons; clear hS; have hS := hSn; clear hSn
      refine lv_l2i (v := x) hx hb hdg (rk_ll x) ?_
      exact kk _ (List.mem_singleton.mpr rfl) vals ws H locs ls _ lc hG hl hL ⟨hx1, hS⟩
    · next a r _ _ =>
      split at h
      · next hi =>
        obtain ⟨va, k2, rfl, ga, hSn⟩ := hS.cons; clear hS; have hS := hSn; clear hSn
        obtain ⟨x, rfl⟩ := rk_isL_ok hG.1 ga hi
        obtain ⟨k3, hE2, hg2⟩ := rk_fi_ok (ws.map Prod.fst) (x := x.toInt32) (I := rk_full) hG.1 (rk_full_ok _).1 (rk_full_ok _).2
        cases h
        refine lv_l2i hx hb hdg rfl ?_
        exact kk _ (List.mem_singleton.mpr rfl) (vals ++ k3) ws H locs ls _ lc (hG.env hE2) hl (hL.grow k3) ⟨hg2, rk_skG hS k3⟩
      · cases h
    · cases h
  case ladd =>
    simp [rk_len] at hlen; subst hlen
    simp only [rk_pure2] at h
    split at h
    · next b a r =>
      unfold rk_op2 at h
      split at h
      · next q hq =>
        cases h
        obtain ⟨vb, k1, rfl, gb, hSn⟩ := hS.cons; clear hS; have hS := hSn; clear hSn
        obtain ⟨va, k2, rfl, ga, hSn⟩ := hS.cons; clear hS; have hS := hSn; clear hSn
        obtain ⟨x, y, k3, rfl, rfl, hE2, hg2⟩ := rk_lbin_ok hG.1 ga gb hq
        refine lv_ladd hx hb hdg ?_
        exact kk _ (List.mem_singleton.mpr rfl) (vals ++ k3) ws H locs ls _ lc (hG.env hE2) hl (hL.grow k3) ⟨hg2, rk_skG hS k3⟩
      · cases h
    · cases h
  case lsub =>
    simp [rk_len] at hlen; subst hlen
    simp only [rk_pure2] at h
    split at h
    · next b a r =>
      unfold rk_op2 at h
      split at h
      · next q hq =>
        cases h
        obtain ⟨vb, k1, rfl, gb, hSn⟩ := hS.cons; clear hS; have hS := hSn; clear hSn
        obtain ⟨va, k2, rfl, ga, hSn⟩ := hS.cons; clear hS; have hS := hSn; clear hSn
        obtain ⟨x, y, k3, rfl, rfl, hE2, hg2⟩ := rk_lbin_ok hG.1 ga gb hq
        refine lv_lsub hx hb hdg ?_
        exact kk _ (List.mem_singleton.mpr rfl) (vals ++ k3) ws H locs ls _ lc (hG.env hE2) hl (hL.grow k3) ⟨hg2, rk_skG hS k3⟩
      · cases h
    · cases h
  case lmul =>
    simp [rk_len] at hlen; subst hlen
    simp only [rk_pure2] at h
    split at h
    · next b a r =>
      unfold rk_op2 at h
      split at h
      · next q hq =>
        cases h
        obtain ⟨vb, k1, rfl, gb, hSn⟩ := hS.cons; clear hS; have hS := hSn; clear hSn
        obtain ⟨va, k2, rfl, ga, hSn⟩ := hS.cons; clear hS; have hS := hSn; clear hSn
        obtain ⟨x, y, k3, rfl, rfl, hE2, hg2⟩ := rk_lbin_ok hG.1 ga gb hq
        refine lv_lmul hx hb hdg ?_
        exact kk _ (List.mem_singleton.mpr rfl) (vals ++ k3) ws H locs ls _ lc (hG.env hE2) hl (hL.grow k3) ⟨hg2, rk_skG hS k3⟩
      · cases h
    · cases h
  case land =>
    simp [rk_len] at hlen; subst hlen
    simp only [rk_pure2] at h
    split at h
    · next b a r =>
      unfold rk_op2 at h
      split at h
      · next q hq =>
        cases h
        obtain ⟨vb, k1, rfl, gb, hSn⟩ := hS.cons; clear hS; have hS := hSn; clear hSn
        obtain ⟨va, k2, rfl, ga, hSn⟩ := hS.cons; clear hS; have hS := hSn; clear hSn
        obtain ⟨x, y, k3, rfl, rfl, hE2, hg2⟩ := rk_lbin_ok hG.1 ga gb hq
        refine lv_land hx hb hdg ?_
        exact kk _ (List.mem_singleton.mpr rfl) (vals ++ k3) ws H locs ls _ lc (hG.env hE2) hl (hL.grow k3) ⟨hg2, rk_skG hS k3⟩
      · cases h
    · cases h
  case lor =>
    simp [rk_len] at hlen; subst hlen
    simp only [rk_pure2] at h
    split at h
    · next b a r =>
      unfold rk_op2 at h
      split at h
      · next q hq =>
        cases h
        obtain ⟨vb, k1, rfl, gb, hSn⟩ := hS.cons; clear hS; have hS := hSn; clear hSn
        obtain ⟨va, k2, rfl, ga, hSn⟩ := hS.cons; clear hS; have hS := hSn; clear hSn
        obtain ⟨x, y, k3, rfl, rfl, hE2, hg2⟩ := rk_lbin_ok hG.1 ga gb hq
        refine lv_lor hx hb hdg ?_
        exact kk _ (List.mem_singleton.mpr rfl) (vals ++ k3) ws H locs ls _ lc (hG.env hE2) hl (hL.grow k3) ⟨hg2, rk_skG hS k3⟩
      · cases h
    · cases h
  case lxor =>
    simp [rk_len] at hlen; subst hlen
    simp only [rk_pure2] at h
    split at h
    · next b a r =>
      unfold rk_op2 at h
      split at h
      · next q hq =>
        cases h
        obtain ⟨vb, k1, rfl, gb, hSn⟩ := hS.cons; clear hS; have hS := hSn; clear hSn
        obtain ⟨va, k2, rfl, ga, hSn⟩ := hS.cons; clear hS; have hS := hSn; clear hSn
        obtain ⟨x, y, k3, rfl, rfl, hE2, hg2⟩ := rk_lbin_ok hG.1 ga gb hq
        refine lv_lxor hx hb hdg ?_
        exact kk _ (List.mem_singleton.mpr rfl) (vals ++ k3) ws H locs ls _ lc (hG.env hE2) hl (hL.grow k3) ⟨hg2, rk_skG hS k3⟩
      · cases h
    · cases h
  case ldiv =>
    simp [rk_len] at hlen; subst hlen
    simp only [rk_pure2] at h
    split at h
    · next b a r =>
      split at h
      · next hz =>
        unfold rk_op2 at h
        split at h
        · next q hq =>
          cases h
          obtain ⟨vb, k1, rfl, gb, hSn⟩ := hS.cons; clear hS; have hS := hSn; clear hSn
          obtain ⟨va, k2, rfl, ga, hSn⟩ := hS.cons; clear hS; have hS := hSn; clear hSn
          obtain ⟨x, y, k3, rfl, rfl, hE2, hg2⟩ := rk_lbin_ok hG.1 ga gb hq
          have hne : ¬ y = 0 := rk_lnz_ok gb hz
          refine lv_ldiv hx hb hdg hne ?_
          exact kk _ (List.mem_singleton.mpr rfl) (vals ++ k3) ws H locs ls _ lc (hG.env hE2) hl (hL.grow k3) ⟨hg2, rk_skG hS k3⟩
        · cases h
      · cases h
    · cases h
  case lrem =>
    simp [rk_len] at hlen; subst hlen
    simp only [rk_pure2] at h
    split at h
    · next b a r =>
      split at h
      · next hz =>
        unfold rk_op2 at h
        split at h
        · next q hq =>
          cases h
          obtain ⟨vb, k1, rfl, gb, hSn⟩ := hS.cons; clear hS; have hS := hSn; clear hSn
          obtain ⟨va, k2, rfl, ga, hSn⟩ := hS.cons; clear hS; have hS := hSn; clear hSn
          obtain ⟨x, y, k3, rfl, rfl, hE2, hg2⟩ := rk_lbin_ok hG.1 ga gb hq
          have hne : ¬ y = 0 := rk_lnz_ok gb hz
          refine lv_lrem hx hb hdg hne ?_
          exact kk _ (List.mem_singleton.mpr rfl) (vals ++ k3) ws H locs ls _ lc (hG.env hE2) hl (hL.grow k3) ⟨hg2, rk_skG hS k3⟩
        · cases h
      · cases h
    · cases h
  case lshl =>
    simp [rk_len] at hlen; subst hlen
    simp only [rk_pure2] at h
    split at h
    · next b a r =>
      unfold rk_op2 at h
      split at h
      · next q hq =>
        cases h
        obtain ⟨vb, k1, rfl, gb, hSn⟩ := hS.cons; clear hS; have hS := hSn; clear hSn
        obtain ⟨va, k2, rfl, ga, hSn⟩ := hS.cons; clear hS; have hS := hSn; clear hSn
        obtain ⟨x, y, k3, rfl, rfl, hE2, hg2⟩ := rk_lsh_ok hG.1 ga gb hq
        refine lv_lshl hx hb hdg rfl ?_
        exact kk _ (List.mem_singleton.mpr rfl) (vals ++ k3) ws H locs ls _ lc (hG.env hE2) hl (hL.grow k3) ⟨hg2, rk_skG hS k3⟩
      · cases h
    · cases h
  case lshr =>
    simp [rk_len] at hlen; subst hlen
    simp only [rk_pure2] at h
    split at h
    · next b a r =>
      unfold rk_op2 at h
      split at h
      · next q hq =>
        cases h
        obtain ⟨vb, k1, rfl, gb, hSn⟩ := hS.cons; clear hS; have hS := hSn; clear hSn
        obtain ⟨va, k2, rfl, ga, hSn⟩ := hS.cons; clear hS; have hS := hSn; clear hSn
        obtain ⟨x, y, k3, rfl, rfl, hE2, hg2⟩ := rk_lsh_ok hG.1 ga gb hq
        refine lv_lshr hx hb hdg rfl ?_
        exact kk _ (List.mem_singleton.mpr rfl) (vals ++ k3) ws H locs ls _ lc (hG.env hE2) hl (hL.grow k3) ⟨hg2, rk_skG hS k3⟩
      · cases h
    · cases h
  case lushr =>
    simp [rk_len] at hlen; subst hlen
    simp only [rk_pure2] at h
    split at h
    · next b a r =>
      unfold rk_op2 at h
      split at h
      · next q hq =>
        cases h
        obtain ⟨vb, k1, rfl, gb, hSn⟩ := hS.cons; clear hS; have hS := hSn; clear hSn
        obtain ⟨va, k2, rfl, ga, hSn⟩ := hS.cons; clear hS; have hS := hSn; clear hSn
        obtain ⟨x, y, k3, rfl, rfl, hE2, hg2⟩ := rk_lsh_ok hG.1 ga gb hq
        refine lv_lushr hx hb hdg rfl ?_
        exact kk _ (List.mem_singleton.mpr rfl) (vals ++ k3) ws H locs ls _ lc (hG.env hE2) hl (hL.grow k3) ⟨hg2, rk_skG hS k3⟩
      · cases h
    · cases h
  case lcmp =>
    simp [rk_len] at hlen; subst hlen
    simp only [rk_pure2] at h
    split at h
    · next y x r =>
      cases h
      obtain ⟨vb, k1, rfl, gb, hSn⟩ := hS.cons; clear hS; have hS := hSn; clear hSn
      obtain ⟨va, k2, rfl, ga, hSn⟩ := hS.cons; clear hS; have hS := hSn; clear hSn
      cases ga; cases gb
      refine W.lcmp hx hb hdg ?_
      exact kk _ (List.mem_singleton.mpr rfl) vals ws H locs ls _ lc hG hl hL ⟨rfl, hS⟩
    · next y k r =>
      cases h
      obtain ⟨vb, k1, rfl, gb, hSn⟩ := hS.cons; clear hS; have hS := hSn; clear hSn
      cases gb
      obtain ⟨va, k2, rfl, ⟨x, hx1, rfl⟩, hSn⟩ := hS.cons; clear hS; have hS := hSn; clear hSn
      obtain ⟨f1, f2⟩ := rk_full_ok x
      dsimp only [rk_full] at f1 f2
      refine W.lcmp hx hb hdg ?_
      rcases rk_lgc x.toInt64 y with ⟨e1, e2⟩ | ⟨e1, e2⟩ | ⟨e1, e2⟩ <;> rw [Int32.toInt_toInt64] at e2 <;> rw [e1]
      · obtain ⟨e2, q1, q2⟩ := rk_cut_ok (lo := y.toInt + 1) (hi := 2147483647) hG.1 (show rk_g vals (ws.map Prod.fst) (.inr (.inr (.inl k))) (.int x) from hx1) (by omega) (by omega)
        exact kk _ (List.mem_append_left _ (rk_opt_mem q1 _ lo _ hp nc ns)) vals ws H locs ls _ lc (hG.env0 q2) hl hL ⟨rfl, hS⟩
      · obtain ⟨e2, q1, q2⟩ := rk_cut_ok (lo := y.toInt) (hi := y.toInt) hG.1 (show rk_g vals (ws.map Prod.fst) (.inr (.inr (.inl k))) (.int x) from hx1) (by omega) (by omega)
        exact kk _ (List.mem_append_right _ (List.mem_append_left _ (rk_opt_mem q1 _ lo _ hp nc ns))) vals ws H locs ls _ lc (hG.env0 q2) hl hL ⟨rfl, hS⟩
      · obtain ⟨e2, q1, q2⟩ := rk_cut_ok (lo := -2147483648) (hi := y.toInt - 1) hG.1 (show rk_g vals (ws.map Prod.fst) (.inr (.inr (.inl k))) (.int x) from hx1) (by omega) (by omega)
        exact kk _ (List.mem_append_right _ (List.mem_append_right _ (rk_opt_mem q1 _ lo _ hp nc ns))) vals ws H locs ls _ lc (hG.env0 q2) hl hL ⟨rfl, hS⟩
    · next k x r =>
      cases h
      obtain ⟨vb, k1, rfl, ⟨y, hy1, rfl⟩, hSn⟩ := hS.cons; clear hS; have hS := hSn; clear hSn
      obtain ⟨va, k2, rfl, ga, hSn⟩ := hS.cons; clear hS; have hS := hSn; clear hSn
      cases ga
      obtain ⟨f1, f2⟩ := rk_full_ok y
      dsimp only [rk_full] at f1 f2
      refine W.lcmp hx hb hdg ?_
      rcases rk_lgc x y.toInt64 with ⟨e1, e2⟩ | ⟨e1, e2⟩ | ⟨e1, e2⟩ <;> rw [Int32.toInt_toInt64] at e2 <;> rw [e1]
      · obtain ⟨e2, q1, q2⟩ := rk_cut_ok (lo := -2147483648) (hi := x.toInt - 1) hG.1 (show rk_g vals (ws.map Prod.fst) (.inr (.inr (.inl k))) (.int y) from hy1) (by omega) (by omega)
        exact kk _ (List.mem_append_left _ (rk_opt_mem q1 _ lo _ hp nc ns)) vals ws H locs ls _ lc (hG.env0 q2) hl hL ⟨rfl, hS⟩
      · obtain ⟨e2, q1, q2⟩ := rk_cut_ok (lo := x.toInt) (hi := x.toInt) hG.1 (show rk_g vals (ws.map Prod.fst) (.inr (.inr (.inl k))) (.int y) from hy1) (by omega) (by omega)
        exact kk _ (List.mem_append_right _ (List.mem_append_left _ (rk_opt_mem q1 _ lo _ hp nc ns))) vals ws H locs ls _ lc (hG.env0 q2) hl hL ⟨rfl, hS⟩
      · obtain ⟨e2, q1, q2⟩ := rk_cut_ok (lo := x.toInt + 1) (hi := 2147483647) hG.1 (show rk_g vals (ws.map Prod.fst) (.inr (.inr (.inl k))) (.int y) from hy1) (by omega) (by omega)
        exact kk _ (List.mem_append_right _ (List.mem_append_right _ (rk_opt_mem q1 _ lo _ hp nc ns))) vals ws H locs ls _ lc (hG.env0 q2) hl hL ⟨rfl, hS⟩
    · next b a r _ _ _ =>
      split at h
      · next hi =>
        rw [Bool.and_eq_true] at hi
        obtain ⟨vb, k1, rfl, gb, hSn⟩ := hS.cons; clear hS; have hS := hSn; clear hSn
        obtain ⟨va, k2, rfl, ga, hSn⟩ := hS.cons; clear hS; have hS := hSn; clear hSn
        obtain ⟨x, rfl⟩ := rk_isL_ok hG.1 ga hi.1
        obtain ⟨y, rfl⟩ := rk_isL_ok hG.1 gb hi.2
        obtain ⟨k3, hE2, hg2⟩ := rk_fi_ok (ws.map Prod.fst) (x := lg_cmp x y) (I := (-1, 1)) hG.1 (rk_lg x y).1 (rk_lg x y).2
        cases h
        refine W.lcmp hx hb hdg ?_
        exact kk _ (List.mem_singleton.mpr rfl) (vals ++ k3) ws H locs ls _ lc (hG.env hE2) hl (hL.grow k3) ⟨hg2, rk_skG hS k3⟩
      · cases h
    · cases h
  case tableswitch dflt low high offs =>
    simp only [rk_pure2] at h
    split at h
    · next a r =>
      split at h
      · next I hi =>
        split at h
        · next hc =>
          obtain ⟨va, k1, rfl, ga, hSn⟩ := hS.cons; clear hS; have hS := hSn; clear hSn
          obtain ⟨x, rfl, p1, p2⟩ := rk_iv_ok hG.1 ga hi
          obtain ⟨sw, hsw, e1⟩ := Option.map_eq_some_iff.mp h
          subst e1
          by_cases hlow : x.toInt < low ∨ high < x.toInt
          · refine lv_tableOut (tgt := ((pc : Int) + dflt).toNat) hx hb hdg hlow (by omega) ?_
            have b0 : (-2147483648 : Int) ≤ x.toInt := Int32.le_toInt x
            have b1 : x.toInt ≤ (2147483647 : Int) := Int32.toInt_le x
            rcases hlow with hl1 | hl1
            · obtain ⟨e2, q1, q2⟩ := rk_cut_ok (lo := -2147483648) (hi := low - 1) hG.1 ga b0 (by omega)
              exact kk _ (List.mem_append_right _ (List.mem_append_left _ (rk_opt_mem q1 _ lo r hp nc ns))) vals ws H locs ls _ lc (hG.env0 q2) hl hL hS
            · obtain ⟨e2, q1, q2⟩ := rk_cut_ok (lo := high + 1) (hi := 2147483647) hG.1 ga (by omega) b1
              exact kk _ (List.mem_append_right _ (List.mem_append_right _ (rk_opt_mem q1 _ lo r hp nc ns))) vals ws H locs ls _ lc (hG.env0 q2) hl hL hS
          · obtain ⟨o, env2, q1, q2, q3, q4⟩ := rk_sw_ok (v := low) (k := (x.toInt - low).toNat) hG.1 ga hsw (by omega) (by omega)
            rw [Array.getElem?_toList] at q1
            exact lv_tableIn (tgt := ((pc : Int) + o).toNat) hx hb hdg (by omega) (by omega) q1 (by omega) (kk _ (List.mem_append_left _ q4) vals ws H locs ls _ lc (hG.env0 q2) hl hL hS)
        · cases h
      · cases h
    · cases h
  all_goals (simp [rk_pure2] at h)
end RKP
end
section
/-! ===== rk: the steps that look at cells ===== -/
def rk_fit (env : List rk_T) (ty : FieldType) (v : rk_V) : Bool := match ty with
  | .int => (rk_iv env v).isSome
  | .long => rk_isL env v
  | .boolean => match rk_iv env v with
    | some I => decide (0 ≤ I.1) && decide (I.2 ≤ 1)
    | none => false
  | .object _ => match v with
    | .inr (.inl _) => true
    | .inl .null => true
    | _ => false
  | .array _ => match v with
    | .inr (.inl _) => true
    | .inl .null => true
    | _ => false
  | _ => false
def rk_lk : List (Nat × Nat × Nat × Nat) → Nat → Option (Nat × Nat × Nat)
  | [], _ => none
  | r :: k, i => if r.1 = i then some r.2 else rk_lk k i
theorem rk_lk_mem {i : Nat} {q : Nat × Nat × Nat} : ∀ {k : List (Nat × Nat × Nat × Nat)}, rk_lk k i = some q → (i, q) ∈ k := by
  intro k
  induction k with
  | nil => intro h; simp [rk_lk] at h
  | cons r k ih =>
    intro h
    unfold rk_lk at h
    split at h
    · next e => cases h; subst e; exact List.mem_cons_self
    · exact List.mem_cons_of_mem _ (ih h)
def rk_cst : List (Nat × Value) → Nat → Option Value
  | [], _ => none
  | r :: k, i => if r.1 = i then some r.2 else rk_cst k i
theorem rk_cst_mem {i : Nat} {q : Value} : ∀ {k : List (Nat × Value)}, rk_cst k i = some q → (i, q) ∈ k := by
  intro k
  induction k with
  | nil => intro h; simp [rk_cst] at h
  | cons r k ih =>
    intro h
    unfold rk_cst at h
    split at h
    · next e => cases h; subst e; exact List.mem_cons_self
    · exact List.mem_cons_of_mem _ (ih h)
/-- an index that is one number, within -/
def rk_ix (env : List rk_T) (a : rk_V) (n : Nat) : Option Nat := match rk_iv env a with
  | some I => if I.1 = I.2 ∧ 0 ≤ I.1 ∧ I.1 < n then some I.1.toNat else none
  | none => none
theorem rk_ix_ok {env : List rk_T} {vals : List Value} {ads : List Nat} {a : rk_V} {v : Value} {n k : Nat} (hE : rk_E env vals) (h : rk_g vals ads a v) (hi : rk_ix env a n = some k) : ∃ x : Int32, v = .int x ∧ vp_in x n ∧ x.toNatClampNeg = k := by
  unfold rk_ix at hi
  split at hi
  · next I hI =>
    obtain ⟨x, rfl, h1, h2⟩ := rk_iv_ok hE h hI
    split at hi
    · next hc =>
      cases hi
      have e : x.toInt = I.1 := by omega
      have hc2 : x.toNatClampNeg = I.1.toNat := by rw [← e]; rfl
      exact ⟨x, rfl, vp_in_iff.mpr ⟨by omega, by omega⟩, hc2⟩
    · cases hi
  · cases hi
/-- a place is set: nothing is noted where it holds that already -/
def rk_put (d : rk_V) (ov : List (Nat × rk_V)) (i : Nat) (v : rk_V) : List (Nat × rk_V) := if rk_look d ov i = v then ov else (i, v) :: ov
/-- a new row of rows: its places are the cells from b on -/
def rk_rows (b : Nat) : Nat → List (Nat × rk_V)
  | 0 => []
  | n + 1 => (n, .inr (.inl (b + n))) :: rk_rows b n
theorem rk_rows_look (d : rk_V) (b j : Nat) : ∀ n : Nat, rk_look d (rk_rows b n) j = if j < n then .inr (.inl (b + j)) else d := by
  intro n
  induction n with
  | zero => rfl
  | succ n ih =>
    show (if n = j then (.inr (.inl (b + n)) : rk_V) else rk_look d (rk_rows b n) j) = _
    by_cases e : n = j
    · rw [if_pos e, if_pos (by omega), e]
    · rw [if_neg e, ih]
      by_cases q : j < n
      · rw [if_pos q, if_pos (by omega)]
      · rw [if_neg q, if_neg (by omega)]
/-- the fields' types and whether they are final, class by class; the classes' names -/
abbrev rk_F : Type := List (List (FieldType × Bool))
def rk_heap (fty : rk_F) (cln : List String) (lk : List (Nat × Nat × Nat × Nat)) (cs : List (Nat × Value)) (pc : Nat) (ins : Instr) (st : rk_S) : rk_R :=
  let lo := st.1; let sk := st.2.1; let env := st.2.2.1; let hp := st.2.2.2.1; let nc := st.2.2.2.2.1; let ns := st.2.2.2.2.2
  match ins with
  | .getfield idx => match sk with
    | .inr (.inl j) :: r => match rk_lk lk idx, hp[j]? with
      | some (kd, ci, k), some (.inl o) => if kd ≤ 2 ∧ ci = o.1 then (match o.2[k]? with
        | some a => some [(pc + 3, (lo, rk_norm env a :: r, env, hp, nc, ns))]
        | none => none) else none
      | _, _ => none
    | _ => none
  | .putfield idx => match sk with
    | v :: .inr (.inl j) :: r => match rk_lk lk idx, hp[j]? with
      | some (kd, ci, k), some (.inl o) => if kd ≤ 2 ∧ ci = o.1 ∧ k < o.2.length then (match (fty[ci]?).bind (fun t => t[k]?) with
        | some t => if rk_fit env t.1 v = true ∧ (t.2 = true ↔ kd = 2) then some [(pc + 3, (lo, r, env, hp.set j (.inl (o.1, o.2.set k v)), nc, ns))] else none
        | none => none) else none
      | _, _ => none
    | _ => none
  | .iaload => match sk with
    | ix :: .inr (.inl j) :: r => match hp[j]? with
      | some (.inr (.int, n, d, ov)) => (match rk_ix env ix n with
        | some i => some [(pc + 1, (lo, rk_norm env (rk_look d ov i) :: r, env, hp, nc, ns))]
        | none => none)
      | _ => none
    | _ => none
  | .baload => match sk with
    | ix :: .inr (.inl j) :: r => match hp[j]? with
      | some (.inr (.byte, n, d, ov)) => (match rk_ix env ix n with
        | some i => some [(pc + 1, (lo, rk_norm env (rk_look d ov i) :: r, env, hp, nc, ns))]
        | none => none)
      | _ => none
    | _ => none
  | .laload => match sk with
    | ix :: .inr (.inl j) :: r => match hp[j]? with
      | some (.inr (.long, n, d, ov)) => (match rk_ix env ix n with
        | some i => some [(pc + 1, (lo, rk_look d ov i :: r, env, hp, nc, ns))]
        | none => none)
      | _ => none
    | _ => none
  | .aaload => match sk with
    | ix :: .inr (.inl j) :: r => match hp[j]? with
      | some (.inr (.object _, n, d, ov)) => (match rk_ix env ix n with
        | some i => some [(pc + 1, (lo, rk_look d ov i :: r, env, hp, nc, ns))]
        | none => none)
      | some (.inr (.array _, n, d, ov)) => (match rk_ix env ix n with
        | some i => some [(pc + 1, (lo, rk_look d ov i :: r, env, hp, nc, ns))]
        | none => none)
      | _ => none
    | _ => none
  | .iastore => match sk with
    | v :: ix :: .inr (.inl j) :: r => match hp[j]? with
      | some (.inr (.int, n, d, ov)) => (match rk_ix env ix n with
        | some i => if (rk_iv env v).isSome then some [(pc + 1, (lo, r, env, hp.set j (.inr (.int, n, d, rk_put d ov i v)), nc, ns))] else none
        | none => none)
      | _ => none
    | _ => none
  | .bastore => match sk with
    | v :: ix :: .inr (.inl j) :: r => match hp[j]? with
      | some (.inr (.byte, n, d, ov)) => (match rk_ix env ix n, rk_iv env v with
        | some i, some I => if -128 ≤ I.1 ∧ I.2 ≤ 127 then some [(pc + 1, (lo, r, env, hp.set j (.inr (.byte, n, d, rk_put d ov i v)), nc, ns))] else none
        | _, _ => none)
      | _ => none
    | _ => none
  | .lastore => match sk with
    | v :: ix :: .inr (.inl j) :: r => match hp[j]? with
      | some (.inr (.long, n, d, ov)) => (match rk_ix env ix n with
        | some i => if rk_isL env v then some [(pc + 1, (lo, r, env, hp.set j (.inr (.long, n, d, rk_put d ov i v)), nc, ns))] else none
        | none => none)
      | _ => none
    | _ => none
  | .aastore => match sk with
    | .inr (.inl y) :: ix :: .inr (.inl j) :: r => match hp[j]?, hp[y]? with
      | some (.inr (.object C, n, d, ov)), some (.inl o) => (match rk_ix env ix n with
        | some i => if cln[o.1]? = some C then some [(pc + 1, (lo, r, env, hp.set j (.inr (.object C, n, d, (i, .inr (.inl y)) :: ov)), nc, ns))] else none
        | none => none)
      | _, _ => none
    | _ => none
  | .arraylength => match sk with
    | .inr (.inl j) :: r => match hp[j]? with
      | some (.inr q) => some [(pc + 1, (lo, .inl (.int (Int32.ofNat q.2.1)) :: r, env, hp, nc, ns))]
      | _ => none
    | _ => none
  | .newarray at_ => match sk with
    | .inl (.int x) :: r => if 0 ≤ x.toInt ∧ x.toInt ≤ 100000 then (match at_ with
      | .int => some [(pc + 2, (lo, .inr (.inl hp.length) :: r, env, hp ++ [.inr (.int, x.toNatClampNeg, .inl (.int 0), [])], nc + 1, ns + x.toNatClampNeg))]
      | .byte => some [(pc + 2, (lo, .inr (.inl hp.length) :: r, env, hp ++ [.inr (.byte, x.toNatClampNeg, .inl (.int 0), [])], nc + 1, ns + x.toNatClampNeg))]
      | .long => some [(pc + 2, (lo, .inr (.inl hp.length) :: r, env, hp ++ [.inr (.long, x.toNatClampNeg, .inl (.long 0), [])], nc + 1, ns + x.toNatClampNeg))]
      | _ => none) else none
    | _ => none
  | .anewarray idx => match sk with
    | .inl (.int x) :: r => if 0 ≤ x.toInt ∧ x.toInt ≤ 100000 then (match rk_lk (lk.filter (fun r => r.2.1 == 4)) idx with
      | some (4, ci, _) => (match cln[ci]? with
        | some C => some [(pc + 3, (lo, .inr (.inl hp.length) :: r, env, hp ++ [.inr (.object C, x.toNatClampNeg, .inl .null, [])], nc + 1, ns + x.toNatClampNeg))]
        | none => none)
      | _ => none) else none
    | _ => none
  | .multianewarray idx dims => match sk with
    | .inl (.int y) :: .inl (.int x) :: r => if (dims : Nat) = 2 ∧ (0 ≤ x.toInt ∧ x.toInt ≤ 1000) ∧ 0 ≤ y.toInt ∧ y.toInt ≤ 1000 then (match rk_lk lk idx with
      | some (13, _, _) => some [(pc + 4, (lo, .inr (.inl hp.length) :: r, env, hp ++ ([.inr (.array .long, x.toNatClampNeg, .inl .null, rk_rows (hp.length + 1) x.toNatClampNeg)] ++ List.replicate x.toNatClampNeg (.inr (.long, y.toNatClampNeg, .inl (.long 0), []))), nc + 1 + x.toNatClampNeg, ns + x.toNatClampNeg + x.toNatClampNeg * y.toNatClampNeg))]
      | _ => none) else none
    | _ => none
  | .new idx => match rk_lk lk idx with
    | some (3, ci, _) => (match fty[ci]? with
      | some tf => some [(pc + 3, (lo, .inr (.inl hp.length) :: sk, env, hp ++ [.inl (ci, tf.map (fun t => .inl (defaultValue t.1)))], nc + 1, ns + tf.length))]
      | none => none)
    | _ => none
  | .ldc idx => match rk_cst cs idx with
    | some (.int x) => some [(pc + 2, (lo, .inl (.int x) :: sk, env, hp, nc, ns))]
    | _ => none
  | .ldc_w idx => match rk_cst cs idx with
    | some (.int x) => some [(pc + 3, (lo, .inl (.int x) :: sk, env, hp, nc, ns))]
    | _ => none
  | .ldc2_w idx => match rk_cst cs idx with
    | some (.long x) => some [(pc + 3, (lo, .inl (.long x) :: sk, env, hp, nc, ns))]
    | _ => none
  | _ => none
end
section
/-! ===== rk: the steps that look at cells are sound ===== -/
theorem rk_fit_ok {env : List rk_T} {vals : List Value} {ads : List Nat} {ty : FieldType} {a : rk_V} {v : Value} (hE : rk_E env vals) (h : rk_g vals ads a v) (hf : rk_fit env ty a = true) : narrow ty v = v ∧ fits ty v = true := by
  unfold rk_fit at hf
  split at hf
  · obtain ⟨I, hI⟩ := Option.isSome_iff_exists.mp hf
    obtain ⟨x, rfl, -, -⟩ := rk_iv_ok hE h hI
    exact ⟨rfl, rfl⟩
  · obtain ⟨x, rfl⟩ := rk_isL_ok hE h hf
    exact ⟨rfl, rfl⟩
  · split at hf
    · next I hI =>
      obtain ⟨x, rfl, h1, h2⟩ := rk_iv_ok hE h hI
      simp only [Bool.and_eq_true, decide_eq_true_eq] at hf
      have hx : x.toInt = 0 ∨ x.toInt = 1 := by omega
      rcases hx with h0 | h0
      · have : x = 0 := Int32.toInt_inj.mp h0
        subst this
        exact ⟨rfl, rfl⟩
      · have : x = 1 := Int32.toInt_inj.mp h0
        subst this
        exact ⟨rfl, rfl⟩
    · cases hf
  · split at hf
    · obtain ⟨x, -, rfl⟩ := h
      exact ⟨rfl, rfl⟩
    · have h : v = .null := h
      subst h
      exact ⟨rfl, rfl⟩
    · cases hf
  · split at hf
    · obtain ⟨x, -, rfl⟩ := h
      exact ⟨rfl, rfl⟩
    · have h : v = .null := h
      subst h
      exact ⟨rfl, rfl⟩
    · cases hf
  · cases hf
theorem rk_map_set {ws : va_W} {j a : Nat} {e e' : va_E} (h : ws[j]? = some (a, e)) : (ws.set j (a, e')).map Prod.fst = ws.map Prod.fst := by
  apply List.ext_getElem?
  intro i
  rw [List.getElem?_map, List.getElem?_map, List.getElem?_set]
  split
  · next q =>
    subst q
    rw [h]
    simp [(List.getElem?_eq_some_iff.mp h).1]
  · rfl
section RKH
variable {s : State} {D : va_G} {cl : List vw_C} {Ad : Nat → Prop} {vals0 : List Value} {ads0 : List Nat} {vals : List Value} {ws : va_W} {H : Heap} {locs : List Loc} {env : List rk_T} {hp : List rk_H}
theorem rk_G.cell (hG : rk_G s D cl Ad vals0 ads0 vals ws H locs env hp) {j a : Nat} {c : rk_H} (hj : hp[j]? = some c) (ha : (ws.map Prod.fst)[j]? = some a) : ∃ e, ws[j]? = some (a, e) ∧ rk_c s vals (ws.map Prod.fst) c e := by
  obtain ⟨q, h1, h2⟩ := hG.2.1.get hj
  rw [List.getElem?_map, h1] at ha
  cases ha
  exact ⟨q.2, h1, h2⟩
theorem rk_G.setc (hG : rk_G s D cl Ad vals0 ads0 vals ws H locs env hp) {j a : Nat} {e e' : va_E} {c' : rk_H} {H1 : Heap} {locs1 : List Loc} (hj : ws[j]? = some (a, e)) (hP : va_P D cl (ws.set j (a, e')) H1) (hD : va_D Ad (ws.set j (a, e'))) (hS : va_S Ad s.heap H1 locs1) (hc : rk_c s vals (ws.map Prod.fst) c' e') : rk_G s D cl Ad vals0 ads0 vals (ws.set j (a, e')) H1 locs1 env (hp.set j c') := by
  obtain ⟨h1, h2, -, -, -, h6, h7⟩ := hG
  rw [← rk_map_set hj (e' := e')] at h2 h7 hc
  exact ⟨h1, rk_A2.set (R := fun (c : rk_H) (q : Nat × va_E) => rk_c s vals ((ws.set j (a, e')).map Prod.fst) c q.2) hc h2 j, hP, hD, hS, h6, h7⟩
theorem rk_G.newc (hG : rk_G s D cl Ad vals0 ads0 vals ws H locs env hp) {q : Nat} {e' : va_E} {c' : rk_H} {H1 : Heap} (hP : va_P D cl (ws ++ [(q, e')]) H1) (hD : va_D Ad (ws ++ [(q, e')])) (hS : va_S Ad s.heap H1 locs) (hc : rk_c s vals (ws.map Prod.fst) c' e') : rk_G s D cl Ad vals0 ads0 vals (ws ++ [(q, e')]) H1 locs env (hp ++ [c']) := by
  obtain ⟨h1, h2, -, -, -, h6, k0, h7⟩ := hG
  have hm : (ws ++ [(q, e')]).map Prod.fst = ws.map Prod.fst ++ [q] := by simp
  refine ⟨h1, ?_, hP, hD, hS, h6, k0 ++ [q], by rw [hm, h7, List.append_assoc]⟩
  rw [hm]
  exact rk_A2.push (h2.mono (fun _ _ h => h.grow ⟨[], by simp⟩ ⟨[q], rfl⟩)) (hc.grow ⟨[], by simp⟩ ⟨[q], rfl⟩)
end RKH
theorem rk_mapnew {ws : va_W} {q : Nat} {e' : va_E} : (ws ++ [(q, e')]).map Prod.fst = ws.map Prod.fst ++ [q] := by simp
theorem rk_K1 {D : va_G} {cl : List vw_C} {s : State} {cA : ClassId} {ty : FieldType} (hK : va_K D cl [] s) (h1 : ArrOfT s cA ty) (h2 : va_RA s cA ty) : va_K D cl [(cA, ty)] s := ⟨hK.1, fun k q h => by
  cases k with
  | zero => cases h; exact ⟨h1, h2⟩
  | succ k => simp at h⟩
theorem rk_look_upd {vals : List Value} {ads : List Nat} {d v : rk_V} {ov : List (Nat × rk_V)} {i : Nat} {f : Nat → Int32} {x : Int32} (h : ∀ j, rk_g vals ads (rk_look d ov j) (.int (f j))) (hv : rk_g vals ads v (.int x)) : ∀ j, rk_g vals ads (rk_look d (rk_put d ov i v) j) (.int (upd f i x j)) := by
  intro j
  unfold rk_put
  split
  · next q =>
    by_cases e : i = j
    · subst e
      rw [q, pk_us]
      exact hv
    · rw [pk_un (Ne.symm e)]
      exact h j
  · unfold rk_look
    dsimp only
    by_cases e : i = j
    · subst e
      rw [if_pos rfl, pk_us]
      exact hv
    · rw [if_neg e, pk_un (Ne.symm e)]
      exact h j
theorem rk_look_updL {vals : List Value} {ads : List Nat} {d v : rk_V} {ov : List (Nat × rk_V)} {i : Nat} {f : Nat → Int64} {x : Int64} (h : ∀ j, rk_g vals ads (rk_look d ov j) (.long (f j))) (hv : rk_g vals ads v (.long x)) : ∀ j, rk_g vals ads (rk_look d (rk_put d ov i v) j) (.long (vp_updL f i x j)) := by
  intro j
  unfold rk_put
  split
  · next q =>
    by_cases e : i = j
    · subst e
      rw [q, pk_uLs]
      exact hv
    · rw [pk_uLn (Ne.symm e)]
      exact h j
  · unfold rk_look
    dsimp only
    by_cases e : i = j
    · subst e
      rw [if_pos rfl, pk_uLs]
      exact hv
    · rw [if_neg e, pk_uLn (Ne.symm e)]
      exact h j
/-- what a link must be for the tables -/
def rk_lok (tbl xw : List Jvm.Cond) (cl : List vw_C) (own : String) (r : Nat × Nat × Nat × Nat) : Prop := match r.2.1 with
  | 0 => ∃ q, cl[r.2.2.1]? = some q ∧ r.2.2.2 < q.2.2 ∧ Jvm.Cond.fieldLink own r.1 (q.2.1 r.2.2.2).1 (q.2.1 r.2.2.2).2.1 (q.2.1 r.2.2.2).2.2.1 ∈ tbl
  | 1 => ∃ q host, cl[r.2.2.1]? = some q ∧ r.2.2.2 < q.2.2 ∧ Jvm.Cond.fieldLinkNest own r.1 (q.2.1 r.2.2.2).1 (q.2.1 r.2.2.2).2.1 (q.2.1 r.2.2.2).2.2.1 host ∈ xw
  | 2 => ∃ q, cl[r.2.2.1]? = some q ∧ r.2.2.2 < q.2.2 ∧ Jvm.Cond.fieldLink own r.1 (q.2.1 r.2.2.2).1 (q.2.1 r.2.2.2).2.1 (q.2.1 r.2.2.2).2.2.1 ∈ tbl ∧ (q.2.1 r.2.2.2).1 = own
  | 3 => ∃ q, cl[r.2.2.1]? = some q ∧ Jvm.Cond.classLink own r.1 q.1 ∈ tbl ∧ Jvm.Cond.instantiable q.1 q.2.2 ∈ tbl ∧ Jvm.Cond.initialized q.1 ∈ tbl
  | 4 => ∃ q, cl[r.2.2.1]? = some q ∧ Jvm.Cond.classLink own r.1 q.1 ∈ tbl ∧ Jvm.Cond.arrayOver (.object q.1) ∈ xw
  | 13 => Jvm.Cond.classLink own r.1 "[[J" ∈ tbl ∧ Jvm.Cond.arrayOver (.array .long) ∈ xw
  | 14 => Jvm.Cond.methodLink own r.1 Lib.Math.max.name ∈ tbl ∧ Jvm.Cond.static Lib.Math.max.name ∈ tbl ∧ Jvm.Cond.initialized "java/lang/Math" ∈ tbl ∧ Jvm.Cond.code Lib.Math.max.name Lib.Math.max.code 2 (some .int) ∈ tbl
  | 15 => Jvm.Cond.methodLink own r.1 Lib.Math.min.name ∈ tbl ∧ Jvm.Cond.static Lib.Math.min.name ∈ tbl ∧ Jvm.Cond.initialized "java/lang/Math" ∈ tbl ∧ Jvm.Cond.code Lib.Math.min.name Lib.Math.min.code 2 (some .int) ∈ tbl
  | 16 => Jvm.Cond.methodLink own r.1 Lib.MathLoose.max_long.x ∈ tbl ∧ Jvm.Cond.static Lib.MathLoose.max_long.x ∈ tbl ∧ Jvm.Cond.initialized "java/lang/Math" ∈ tbl ∧ Jvm.Cond.code Lib.MathLoose.max_long.x Lib.MathLoose.max_long.code 4 (some .long) ∈ tbl
  | 17 => Jvm.Cond.methodLink own r.1 Lib.Math.abs.name ∈ tbl ∧ Jvm.Cond.static Lib.Math.abs.name ∈ tbl ∧ Jvm.Cond.initialized "java/lang/Math" ∈ tbl ∧ Jvm.Cond.code Lib.Math.abs.name Lib.Math.abs.code 1 (some .int) ∈ tbl
  | _ => True
/-- what a class must be for the tables -/
def rk_clok (tbl : List Jvm.Cond) (cl : List vw_C) (fty : rk_F) (cln : List String) : Prop := ∀ (ci : Nat) (q : vw_C), cl[ci]? = some q → (∀ w ∈ u_ws q.1 q.2.1 q.2.2, w ∈ tbl) ∧ (∀ a, a < q.2.2 → ∀ b, b < q.2.2 → a ≠ b → (q.2.1 a).2.1 ≠ (q.2.1 b).2.1) ∧ cln[ci]? = some q.1 ∧ ∃ tf, fty[ci]? = some tf ∧ tf.length = q.2.2 ∧ ∀ (k : Nat) (t : FieldType × Bool), tf[k]? = some t → parseFieldDescriptor (q.2.1 k).2.2.1 = some t.1 ∧ (q.2.1 k).2.2.2 = t.2
theorem rk_ty {T : u_T} {tf : List (FieldType × Bool)} {N : Nat} (hN : tf.length = N) (h : ∀ (k : Nat) (t : FieldType × Bool), tf[k]? = some t → parseFieldDescriptor (T k).2.2.1 = some t.1 ∧ (T k).2.2.2 = t.2) : ∀ k, k < N → parseFieldDescriptor (T k).2.2.1 = some ((fun k => ((tf[k]?).map Prod.fst).getD .int) k) := by
  intro k hk
  have hk' : k < tf.length := by omega
  have e : tf[k]? = some tf[k] := List.getElem?_eq_getElem hk'
  rw [(h k _ e).1]
  dsimp only
  rw [e]
  rfl
theorem rk_defs {vals : List Value} {ads : List Nat} : ∀ (tf : List (FieldType × Bool)), rk_A2 (rk_g vals ads) (tf.map (fun t => (.inl (defaultValue t.1) : rk_V))) (tf.map (fun t => defaultValue t.1))
  | [] => trivial
  | _ :: tf => ⟨rfl, rk_defs tf⟩
section RKQ
variable {p : Program} {l : Launch} {e : Env} {R : Room} {s : State} {m : MethodId} {args : Array Value} {below : List Frame} {meth : Method} {c : Code} {Q : State → Prop} {cc : ByteArray} {D : va_G} {cl : List vw_C} {Ad : Nat → Prop} {nL : Nat} {vals0 : List Value} {ads0 : List Nat}
variable {tbl xw : List Jvm.Cond} {fty : rk_F} {cln : List String} {own : String} {lk : List (Nat × Nat × Nat × Nat)} {cs : List (Nat × Value)}
/-- what a frame knows of the tables -/
def rk_Fr (s : State) (m : MethodId) (args : Array Value) (meth : Method) (D : va_G) (cl : List vw_C) (Ad : Nat → Prop) (tbl xw : List Jvm.Cond) (fty : rk_F) (cln : List String) (own : String) (lk : List (Nat × Nat × Nat × Nat)) (cs : List (Nat × Value)) : Prop :=
  (∀ w ∈ tbl, w.before args s = true) ∧ (∀ w ∈ xw, va_Nw w s) ∧ s.vm.findClass own = some m.cls ∧ va_K D cl [] s ∧ (∀ q, s.heap.size ≤ q → Ad q) ∧ rk_clok tbl cl fty cln ∧ (∀ r ∈ lk, rk_lok tbl xw cl own r) ∧ ((∃ r ∈ lk, r.2.1 = 2) → meth.name = "<init>") ∧ (Jvm.Cond.arrayClass .int ∈ tbl ∧ Jvm.Cond.arrayClass .byte ∈ tbl ∧ Jvm.Cond.arrayClass .long ∈ tbl) ∧
  (∀ r ∈ cs, (∀ x, r.2 = .int x → Jvm.Cond.constant own r.1 x ∈ tbl) ∧ (∀ x, r.2 = .long x → Jvm.Cond.constantLong own r.1 x ∈ tbl))
theorem va_alda {a : Nat} {tys : List (ClassId × FieldType)} {ws : va_W} {H : Heap} {locs : List Loc} {cells slots pc : Nat} {ls : Array Slot} {rest : List Value} (hexec : p.tables.exec = Jvm.exec) (hb : c.code = cc) (hK : va_K D cl tys s) (hP : va_P D cl ws H) (q0 t0 : Nat) {cA : ClassId} {t : FieldType} {n : Nat} {f : Nat → Option Nat} (ha : ws[q0]? = some (a, .inl (cA, n, .inr (.inr (.inr (.inr f)))))) (ht : tys[t0]? = some (cA, .array t)) {i : Int32} (hin : vp_in i n) (hdg : decode cc pc = .ok (.aaload, 1))
    (kk : W p l e R s m args below meth c H locs cells slots Q (F0 m (pc + 1) ls (va_rf (f i.toNatClampNeg) :: rest))) : W p l e R s m args below meth c H locs cells slots Q (F0 m pc ls (.int i :: .ref a :: rest)) := by
  have hlt : i.toNatClampNeg < n := Nat.not_le.mp fun q => hin (Or.inr q)
  exact W.aald (v := va_rf (f i.toNatClampNeg)) (ty := .array t) hexec hb (hP q0 _ ha) ((hK.2 t0 _ ht).1 n (fun j => va_rf (f j))) rfl (fun q => by cases q) (by show ¬ (i < 0 ∨ (arrV _ _ _).slots.size ≤ _); rw [arrV_size]; exact hin) (by show (arrV _ _ _).slots[_]? = _; rw [arrV_read _ _ hlt]) rfl rfl hdg kk
theorem rk_A2.rep {α β γ : Type} {R : α → β → Prop} {c : α} {g : γ → β} (h : ∀ a, R c (g a)) : ∀ (l : List γ), rk_A2 R (List.replicate l.length c) (l.map g)
  | [] => trivial
  | a :: l => ⟨h a, rk_A2.rep h l⟩
set_option maxHeartbeats 4000000 in
theorem rk_heap_ok (hx : p.tables.exec = Jvm.exec) (hb : c.code = cc) (hF : rk_Fr s m args meth D cl Ad tbl xw fty cln own lk cs) {pc : Nat} {ins : Instr} {len : Nat} {st : rk_S} {res : List (Nat × rk_S)} (hdg : decode cc pc = .ok (ins, len)) (hlen : rk_len ins len = true) (h : rk_heap fty cln lk cs pc ins st = some res) (hroom : ∀ q ∈ res, q.2.2.2.2.2.1 ≤ R.cells ∧ q.2.2.2.2.2.2 ≤ R.slots) (kk : ∀ q ∈ res, rk_W (rk_KW p l e R s m args below meth c Q) s D cl Ad nL vals0 ads0 q.1 q.2) : rk_W (rk_KW p l e R s m args below meth c Q) s D cl Ad nL vals0 ads0 pc st := by
  obtain ⟨hts, hxw, hown, hK, hA, hcl, hlk, hini, hac, hcs⟩ := hF
  obtain ⟨lo, sk, env, hp, nc, ns⟩ := st
  intro vals ws H locs ls stk lc hG hl hL hS
  dsimp only at hG hL hS ⊢
  cases ins
  case getfield idx =>
    simp [rk_len] at hlen; subst hlen
    simp only [rk_heap] at h
    split at h
    · next j r =>
      split at h
      · next kd ci k o hlk1 hj =>
        split at h
        · next hc =>
          split at h
          · next a ha =>
            cases h
            obtain ⟨hkd, rfl⟩ := hc
            obtain ⟨va, k1, rfl, ⟨x, hjx, rfl⟩, hSn⟩ := hS.cons; clear hS; have hS := hSn; clear hSn
            obtain ⟨e1, hw, vs, rfl, hvs⟩ := hG.cell hj hjx
            obtain ⟨v, hv, hg⟩ := hvs.get ha
            have hr := hlk _ (rk_lk_mem hlk1)
            have fin : rk_KW p l e R s m args below meth c Q (pc + 3) ls (v :: k1) H locs nc ns := kk _ (List.mem_singleton.mpr rfl) vals ws H locs ls _ lc hG hl hL ⟨rk_norm_ok hG.1 hg, hS⟩
            rcases (show kd = 0 ∨ kd = 1 ∨ kd = 2 by omega) with rfl | rfl | rfl
            · obtain ⟨q, hq, hkN, hm⟩ := hr
              exact va_get (C := q.1) (T := q.2.1) (N := q.2.2) hx hb hts (hcl _ _ hq).1 hown hK hG.2.2.1 j hw hq k hkN (hts _ hm) (fun _ h9 => h9) hv hdg fin
            · obtain ⟨q, host, hq, hkN, hm⟩ := hr
              exact va_getN (C := q.1) (T := q.2.1) (N := q.2.2) hx hb hts (hcl _ _ hq).1 hown hK hG.2.2.1 j hw hq k hkN (va_Nw.use rfl (hxw _ hm)) (fun _ h9 => h9) hv hdg fin
            · obtain ⟨q, hq, hkN, hm, -⟩ := hr
              exact va_get (C := q.1) (T := q.2.1) (N := q.2.2) hx hb hts (hcl _ _ hq).1 hown hK hG.2.2.1 j hw hq k hkN (hts _ hm) (fun _ h9 => h9) hv hdg fin
          · cases h
        · cases h
      · cases h
    · cases h
  case putfield idx =>
    simp [rk_len] at hlen; subst hlen
    simp only [rk_heap] at h
    split at h
    · next v0 j r =>
      split at h
      · next kd ci k o hlk1 hj =>
        split at h
        · next hc =>
          split at h
          · next t ht =>
            split at h
            · next hfit =>
              cases h
              obtain ⟨hkd, rfl, hko⟩ := hc
              obtain ⟨v, k0, rfl, hgv, hSn⟩ := hS.cons; clear hS; have hS := hSn; clear hSn
              obtain ⟨va, k1, rfl, ⟨x, hjx, rfl⟩, hSn⟩ := hS.cons; clear hS; have hS := hSn; clear hSn
              obtain ⟨e1, hw, vs, rfl, hvs⟩ := hG.cell hj hjx
              obtain ⟨hn, hf⟩ := rk_fit_ok hG.1 hgv hfit.1
              have hr := hlk _ (rk_lk_mem hlk1)
              have hkl : k < vs.length := by rw [← hvs.len]; exact hko
              have fin : ∀ (H1 : Heap) (locs1 : List Loc), va_P D cl (ws.set j (x, .inr (o.1, vs.set k v))) H1 → va_D Ad (ws.set j (x, .inr (o.1, vs.set k v))) → va_S Ad s.heap H1 locs1 → rk_KW p l e R s m args below meth c Q (pc + 3) ls k1 H1 locs1 nc ns := fun H1 locs1 hP1 hD1 hS1 => by
                have hG1 := hG.setc (c' := .inl (o.1, o.2.set k v0)) hw hP1 hD1 hS1 ⟨vs.set k v, rfl, hvs.set hgv k⟩
                refine kk _ (List.mem_singleton.mpr rfl) vals _ H1 locs1 ls _ lc hG1 hl ?_ ?_
                · rw [rk_map_set hw]; exact hL
                · rw [rk_map_set hw]; exact hS
              obtain ⟨tf, htf, htk⟩ := Option.bind_eq_some_iff.mp ht
              rcases (show kd = 0 ∨ kd = 1 ∨ kd = 2 by omega) with rfl | rfl | rfl
              · obtain ⟨q, hq, hkN, hm⟩ := hr
                obtain ⟨c1, c2, -, tf', htf', hlenT, hT⟩ := hcl _ _ hq
                cases htf.symm.trans htf'
                obtain ⟨t1, t2⟩ := hT k t htk
                have hfin : (q.2.1 k).2.2.2 = false := by
                  rw [t2]
                  cases hb2 : t.2 with
                  | false => rfl
                  | true => exact absurd (hfit.2.mp hb2) (by decide)
                exact va_put (C := q.1) (T := q.2.1) (N := q.2.2) hx hb hts c1 _ (rk_ty hlenT hT) c2 hown hK hG.2.2.1 hG.2.2.2.1 hG.2.2.2.2.1 j hw hq k hkN (hts _ hm) (fun _ h9 => h9) hfin t1 hn hf hkl hdg fin
              · obtain ⟨q, host, hq, hkN, hm⟩ := hr
                obtain ⟨c1, c2, -, tf', htf', hlenT, hT⟩ := hcl _ _ hq
                cases htf.symm.trans htf'
                obtain ⟨t1, t2⟩ := hT k t htk
                have hfin : (q.2.1 k).2.2.2 = false := by
                  rw [t2]
                  cases hb2 : t.2 with
                  | false => rfl
                  | true => exact absurd (hfit.2.mp hb2) (by decide)
                exact va_putN (C := q.1) (T := q.2.1) (N := q.2.2) hx hb hts c1 _ (rk_ty hlenT hT) c2 hown hK hG.2.2.1 hG.2.2.2.1 hG.2.2.2.2.1 j hw hq k hkN (va_Nw.use rfl (hxw _ hm)) (fun _ h9 => h9) hfin t1 hn hf hkl hdg fin
              · obtain ⟨q, hq, hkN, hm, hdecl⟩ := hr
                obtain ⟨c1, c2, -, tf', htf', hlenT, hT⟩ := hcl _ _ hq
                cases htf.symm.trans htf'
                obtain ⟨t1, t2⟩ := hT k t htk
                have hfin : (q.2.1 k).2.2.2 = true := by rw [t2]; exact hfit.2.mpr rfl
                exact va_putF (C := q.1) (T := q.2.1) (N := q.2.2) hx hb hts c1 _ (rk_ty hlenT hT) c2 hown hK hG.2.2.1 hG.2.2.2.1 hG.2.2.2.2.1 j hw hq k hkN (hts _ hm) (fun _ h9 => h9) hfin (hini ⟨_, rk_lk_mem hlk1, rfl⟩) hdecl t1 hn hf hkl hdg fin
            · cases h
          · cases h
        · cases h
      · cases h
    · cases h
  case iaload =>
    simp [rk_len] at hlen; subst hlen
    simp only [rk_heap] at h
    split at h
    · next ix j r =>
      split at h
      · next n d ov hj =>
        split at h
        · next i hi =>
          cases h
          obtain ⟨vi, k0, rfl, hgi, hSn⟩ := hS.cons; clear hS; have hS := hSn; clear hSn
          obtain ⟨va, k1, rfl, ⟨x, hjx, rfl⟩, hSn⟩ := hS.cons; clear hS; have hS := hSn; clear hSn
          obtain ⟨e1, hw, cA, hA1, hA2, f, rfl, hf⟩ := hG.cell hj hjx
          obtain ⟨xi, rfl, hin, rfl⟩ := rk_ix_ok hG.1 hgi hi
          refine va_iald hx hb (rk_K1 hK hA1 hA2) hG.2.2.1 j 0 hw rfl hin hdg ?_
          exact kk _ (List.mem_singleton.mpr rfl) vals ws H locs ls _ lc hG hl hL ⟨rk_norm_ok hG.1 (hf _), hS⟩
        · cases h
      · cases h
    · cases h
  case baload =>
    simp [rk_len] at hlen; subst hlen
    simp only [rk_heap] at h
    split at h
    · next ix j r =>
      split at h
      · next n d ov hj =>
        split at h
        · next i hi =>
          cases h
          obtain ⟨vi, k0, rfl, hgi, hSn⟩ := hS.cons; clear hS; have hS := hSn; clear hSn
          obtain ⟨va, k1, rfl, ⟨x, hjx, rfl⟩, hSn⟩ := hS.cons; clear hS; have hS := hSn; clear hSn
          obtain ⟨e1, hw, cA, hA1, hA2, f, rfl, hf⟩ := hG.cell hj hjx
          obtain ⟨xi, rfl, hin, rfl⟩ := rk_ix_ok hG.1 hgi hi
          refine va_bald hx hb (rk_K1 hK hA1 hA2) hG.2.2.1 j 0 hw rfl hin hdg ?_
          exact kk _ (List.mem_singleton.mpr rfl) vals ws H locs ls _ lc hG hl hL ⟨rk_norm_ok hG.1 (hf _), hS⟩
        · cases h
      · cases h
    · cases h
  case laload =>
    simp [rk_len] at hlen; subst hlen
    simp only [rk_heap] at h
    split at h
    · next ix j r =>
      split at h
      · next n d ov hj =>
        split at h
        · next i hi =>
          cases h
          obtain ⟨vi, k0, rfl, hgi, hSn⟩ := hS.cons; clear hS; have hS := hSn; clear hSn
          obtain ⟨va, k1, rfl, ⟨x, hjx, rfl⟩, hSn⟩ := hS.cons; clear hS; have hS := hSn; clear hSn
          obtain ⟨e1, hw, cA, hA1, hA2, f, rfl, hf⟩ := hG.cell hj hjx
          obtain ⟨xi, rfl, hin, rfl⟩ := rk_ix_ok hG.1 hgi hi
          refine va_lald hx hb (rk_K1 hK hA1 hA2) hG.2.2.1 j 0 hw rfl hin hdg ?_
          exact kk _ (List.mem_singleton.mpr rfl) vals ws H locs ls _ lc hG hl hL ⟨hf _, hS⟩
        · cases h
      · cases h
    · cases h
  case aaload =>
    simp [rk_len] at hlen; subst hlen
    simp only [rk_heap] at h
    split at h
    · next ix j r =>
      split at h
      · next C n d ov hj =>
        split at h
        · next i hi =>
          cases h
          obtain ⟨vi, k0, rfl, hgi, hSn⟩ := hS.cons; clear hS; have hS := hSn; clear hSn
          obtain ⟨va, k1, rfl, ⟨x, hjx, rfl⟩, hSn⟩ := hS.cons; clear hS; have hS := hSn; clear hSn
          obtain ⟨e1, hw, cA, hA1, hA2, f, rfl, hf⟩ := hG.cell hj hjx
          obtain ⟨xi, rfl, hin, rfl⟩ := rk_ix_ok hG.1 hgi hi
          refine va_aldq hx hb (rk_K1 hK hA1 hA2) hG.2.2.1 j 0 hw rfl hin hdg ?_
          exact kk _ (List.mem_singleton.mpr rfl) vals ws H locs ls _ lc hG hl hL ⟨hf _, hS⟩
        · cases h
      · next t n d ov hj =>
        split at h
        · next i hi =>
          cases h
          obtain ⟨vi, k0, rfl, hgi, hSn⟩ := hS.cons; clear hS; have hS := hSn; clear hSn
          obtain ⟨va, k1, rfl, ⟨x, hjx, rfl⟩, hSn⟩ := hS.cons; clear hS; have hS := hSn; clear hSn
          obtain ⟨e1, hw, cA, hA1, hA2, f, rfl, hf⟩ := hG.cell hj hjx
          obtain ⟨xi, rfl, hin, rfl⟩ := rk_ix_ok hG.1 hgi hi
          refine va_alda hx hb (rk_K1 hK hA1 hA2) hG.2.2.1 j 0 hw rfl hin hdg ?_
          exact kk _ (List.mem_singleton.mpr rfl) vals ws H locs ls _ lc hG hl hL ⟨hf _, hS⟩
        · cases h
      · cases h
    · cases h
  case iastore =>
    simp [rk_len] at hlen; subst hlen
    simp only [rk_heap] at h
    split at h
    · next v0 ix j r =>
      split at h
      · next n d ov hj =>
        split at h
        · next i hi =>
          split at h
          · next hv =>
            cases h
            obtain ⟨v, kz, rfl, hgv, hSn⟩ := hS.cons; clear hS; have hS := hSn; clear hSn
            obtain ⟨vi, k0, rfl, hgi, hSn⟩ := hS.cons; clear hS; have hS := hSn; clear hSn
            obtain ⟨va, k1, rfl, ⟨x, hjx, rfl⟩, hSn⟩ := hS.cons; clear hS; have hS := hSn; clear hSn
            obtain ⟨e1, hw, cA, hA1, hA2, f, rfl, hf⟩ := hG.cell hj hjx
            obtain ⟨xi, rfl, hin, rfl⟩ := rk_ix_ok hG.1 hgi hi
            obtain ⟨I, hI⟩ := Option.isSome_iff_exists.mp hv
            obtain ⟨y, rfl, -, -⟩ := rk_iv_ok hG.1 hgv hI
            refine va_iast hx hb (rk_K1 hK hA1 hA2) hG.2.2.1 hG.2.2.2.1 hG.2.2.2.2.1 j 0 hw rfl hin hdg (fun H1 locs1 hP1 hD1 hS1 => ?_)
            have hG1 := hG.setc (c' := .inr (.int, n, d, rk_put d ov xi.toNatClampNeg v0)) hw hP1 hD1 hS1 ⟨cA, hA1, hA2, _, rfl, rk_look_upd hf hgv⟩
            refine kk _ (List.mem_singleton.mpr rfl) vals _ H1 locs1 ls _ lc hG1 hl ?_ ?_
            · rw [rk_map_set hw]; exact hL
            · rw [rk_map_set hw]; exact hS
          · cases h
        · cases h
      · cases h
    · cases h
  case lastore =>
    simp [rk_len] at hlen; subst hlen
    simp only [rk_heap] at h
    split at h
    · next v0 ix j r =>
      split at h
      · next n d ov hj =>
        split at h
        · next i hi =>
          split at h
          · next hv =>
            cases h
            obtain ⟨v, kz, rfl, hgv, hSn⟩ := hS.cons; clear hS; have hS := hSn; clear hSn
            obtain ⟨vi, k0, rfl, hgi, hSn⟩ := hS.cons; clear hS; have hS := hSn; clear hSn
            obtain ⟨va, k1, rfl, ⟨x, hjx, rfl⟩, hSn⟩ := hS.cons; clear hS; have hS := hSn; clear hSn
            obtain ⟨e1, hw, cA, hA1, hA2, f, rfl, hf⟩ := hG.cell hj hjx
            obtain ⟨xi, rfl, hin, rfl⟩ := rk_ix_ok hG.1 hgi hi
            obtain ⟨y, rfl⟩ := rk_isL_ok hG.1 hgv hv
            refine va_last hx hb (rk_K1 hK hA1 hA2) hG.2.2.1 hG.2.2.2.1 hG.2.2.2.2.1 j 0 hw rfl hin hdg (fun H1 locs1 hP1 hD1 hS1 => ?_)
            have hG1 := hG.setc (c' := .inr (.long, n, d, rk_put d ov xi.toNatClampNeg v0)) hw hP1 hD1 hS1 ⟨cA, hA1, hA2, _, rfl, rk_look_updL hf hgv⟩
            refine kk _ (List.mem_singleton.mpr rfl) vals _ H1 locs1 ls _ lc hG1 hl ?_ ?_
            · rw [rk_map_set hw]; exact hL
            · rw [rk_map_set hw]; exact hS
          · cases h
        · cases h
      · cases h
    · cases h
  case bastore =>
    simp [rk_len] at hlen; subst hlen
    simp only [rk_heap] at h
    split at h
    · next v0 ix j r =>
      split at h
      · next n d ov hj =>
        split at h
        · next i I hi hI =>
          split at h
          · next hv =>
            cases h
            obtain ⟨v, kz, rfl, hgv, hSn⟩ := hS.cons; clear hS; have hS := hSn; clear hSn
            obtain ⟨vi, k0, rfl, hgi, hSn⟩ := hS.cons; clear hS; have hS := hSn; clear hSn
            obtain ⟨va, k1, rfl, ⟨x, hjx, rfl⟩, hSn⟩ := hS.cons; clear hS; have hS := hSn; clear hSn
            obtain ⟨e1, hw, cA, hA1, hA2, f, rfl, hf⟩ := hG.cell hj hjx
            obtain ⟨xi, rfl, hin, rfl⟩ := rk_ix_ok hG.1 hgi hi
            obtain ⟨y, rfl, q1, q2⟩ := rk_iv_ok hG.1 hgv hI
            have hy : vp_nar .byte y = y := by
              rw [vp_nar_byte]
              apply Int32.toInt_inj.mp
              rw [Int8.toInt_toInt32, Int32.toInt_toInt8]
              exact Int.bmod_eq_of_le (by omega) (by omega)
            refine va_bast hx hb (rk_K1 hK hA1 hA2) hG.2.2.1 hG.2.2.2.1 hG.2.2.2.2.1 j 0 hw rfl hin hdg (fun H1 locs1 hP1 hD1 hS1 => ?_)
            rw [hy] at hP1 hD1
            have hG1 := hG.setc (c' := .inr (.byte, n, d, rk_put d ov xi.toNatClampNeg v0)) hw hP1 hD1 hS1 ⟨cA, hA1, hA2, _, rfl, rk_look_upd hf hgv⟩
            refine kk _ (List.mem_singleton.mpr rfl) vals _ H1 locs1 ls _ lc hG1 hl ?_ ?_
            · rw [rk_map_set hw]; exact hL
            · rw [rk_map_set hw]; exact hS
          · cases h
        · cases h
      · cases h
    · cases h
  case aastore =>
    simp [rk_len] at hlen; subst hlen
    simp only [rk_heap] at h
    split at h
    · next y ix j r =>
      split at h
      · next C n d ov o hj hy =>
        split at h
        · next i hi =>
          split at h
          · next hc =>
            cases h
            obtain ⟨v, kz, rfl, hgv, hSn⟩ := hS.cons; clear hS; have hS := hSn; clear hSn
            obtain ⟨xv, hyx, rfl⟩ := id hgv
            obtain ⟨vi, k0, rfl, hgi, hSn⟩ := hS.cons; clear hS; have hS := hSn; clear hSn
            obtain ⟨va, k1, rfl, ⟨x, hjx, rfl⟩, hSn⟩ := hS.cons; clear hS; have hS := hSn; clear hSn
            obtain ⟨e1, hw, cA, hA1, hA2, f, rfl, hf⟩ := hG.cell hj hjx
            obtain ⟨e2, hw2, vs, rfl, hvs⟩ := hG.cell hy hyx
            obtain ⟨xi, rfl, hin, rfl⟩ := rk_ix_ok hG.1 hgi hi
            obtain ⟨r2, hr2, -⟩ := hG.2.2.1 y _ hw2
            have hrc : r2.1 = C := Option.some.inj ((hcl _ _ hr2).2.2.1.symm.trans hc)
            subst hrc
            refine va_astq hx hb (rk_K1 hK hA1 hA2) hG.2.2.1 hG.2.2.2.1 hG.2.2.2.2.1 j 0 y o.1 hw rfl hw2 hr2 hin hdg (fun H1 locs1 hP1 hD1 hS1 => ?_)
            have hup : ∀ jj, rk_g vals (ws.map Prod.fst) (rk_look d ((xi.toNatClampNeg, .inr (.inl y)) :: ov) jj) (va_rf (va_up f xi.toNatClampNeg (some xv) jj)) := by
              intro jj
              unfold rk_look va_up
              dsimp only
              by_cases e : xi.toNatClampNeg = jj
              · rw [if_pos e, if_pos e.symm]
                exact hgv
              · rw [if_neg e, if_neg (Ne.symm e)]
                exact hf jj
            have hG1 := hG.setc (c' := .inr (.object r2.1, n, d, (xi.toNatClampNeg, .inr (.inl y)) :: ov)) hw hP1 hD1 hS1 ⟨cA, hA1, hA2, _, rfl, hup⟩
            refine kk _ (List.mem_singleton.mpr rfl) vals _ H1 locs1 ls _ lc hG1 hl ?_ ?_
            · rw [rk_map_set hw]; exact hL
            · rw [rk_map_set hw]; exact hS
          · cases h
        · cases h
      · cases h
    · cases h
  case arraylength =>
    simp [rk_len] at hlen; subst hlen
    simp only [rk_heap] at h
    split at h
    · next j r =>
      split at h
      · next q hj =>
        cases h
        obtain ⟨va, k1, rfl, ⟨x, hjx, rfl⟩, hSn⟩ := hS.cons; clear hS; have hS := hSn; clear hSn
        obtain ⟨e1, hw, cA, hA1, hA2, harr⟩ := hG.cell hj hjx
        have he : ∃ z : vp_A, e1 = .inl (cA, z) ∧ z.1 = q.2.1 := by
          unfold rk_arr at harr
          split at harr
          all_goals first
            | exact harr.elim
            | (obtain ⟨f, rfl, -⟩ := harr
               exact ⟨_, rfl, rfl⟩)
        obtain ⟨z, rfl, hz⟩ := he
        refine va_alen hx hb (rk_K1 hK hA1 hA2) hG.2.2.1 j 0 hw rfl (v := Int32.ofNat q.2.1) (by rw [hz]) hdg ?_
        exact kk _ (List.mem_singleton.mpr rfl) vals ws H locs ls _ lc hG hl hL ⟨rfl, hS⟩
      · cases h
    · cases h
  case newarray at_ =>
    simp [rk_len] at hlen; subst hlen
    simp only [rk_heap] at h
    split at h
    · next x r =>
      split at h
      · next hc =>
        obtain ⟨va, k1, rfl, hgx, hSn⟩ := hS.cons; clear hS; have hS := hSn; clear hSn
        cases hgx
        have hn : ¬ x < 0 := by rw [Int32.lt_iff_toInt_lt, Int32.toInt_zero]; omega
        have hsm : x.toNatClampNeg ≤ 100000 := by have : x.toNatClampNeg = x.toInt.toNat := rfl; omega
        split at h
        · cases h
          obtain ⟨hc1, hc2⟩ := hroom _ (List.mem_singleton.mpr rfl)
          refine va_newa (atype := .int) (ty := .int) (a0 := (x.toNatClampNeg, .inl (fun _ => 0))) hx hb (hts _ hac.1) rfl hK hG.2.2.1 hG.2.2.2.1 hG.2.2.2.2.1 hA (fun _ => rfl) hn rfl (by simp only [componentBytes]; omega) hc1 hc2 hdg (fun q cA H1 hK1 hP1 hD1 hS1 => ?_)
          have hk := hK1.2 0 (cA, .int) rfl
          have hG1 := hG.newc (c' := .inr (.int, x.toNatClampNeg, .inl (.int 0), [])) hP1 hD1 hS1 ⟨cA, hk.1, hk.2, _, rfl, fun _ => rfl⟩
          refine kk _ (List.mem_singleton.mpr rfl) vals _ H1 locs ls _ lc hG1 hl ?_ ?_
          · rw [rk_mapnew]; exact rk_A2.mono (fun _ _ h => ⟨h.1, h.2.grow ⟨[], by simp⟩ ⟨[q], rfl⟩⟩) hL
          · rw [rk_mapnew]; exact ⟨⟨q, by rw [hG.2.1.len]; simp, rfl⟩, rk_A2.mono (fun _ _ h => h.grow ⟨[], by simp⟩ ⟨[q], rfl⟩) hS⟩
        · cases h
          obtain ⟨hc1, hc2⟩ := hroom _ (List.mem_singleton.mpr rfl)
          refine va_newa (atype := .byte) (ty := .byte) (a0 := (x.toNatClampNeg, .inl (fun _ => 0))) hx hb (hts _ hac.2.1) rfl hK hG.2.2.1 hG.2.2.2.1 hG.2.2.2.2.1 hA (fun _ => rfl) hn rfl (by simp only [componentBytes]; omega) hc1 hc2 hdg (fun q cA H1 hK1 hP1 hD1 hS1 => ?_)
          have hk := hK1.2 0 (cA, .byte) rfl
          have hG1 := hG.newc (c' := .inr (.byte, x.toNatClampNeg, .inl (.int 0), [])) hP1 hD1 hS1 ⟨cA, hk.1, hk.2, _, rfl, fun _ => rfl⟩
          refine kk _ (List.mem_singleton.mpr rfl) vals _ H1 locs ls _ lc hG1 hl ?_ ?_
          · rw [rk_mapnew]; exact rk_A2.mono (fun _ _ h => ⟨h.1, h.2.grow ⟨[], by simp⟩ ⟨[q], rfl⟩⟩) hL
          · rw [rk_mapnew]; exact ⟨⟨q, by rw [hG.2.1.len]; simp, rfl⟩, rk_A2.mono (fun _ _ h => h.grow ⟨[], by simp⟩ ⟨[q], rfl⟩) hS⟩
        · cases h
          obtain ⟨hc1, hc2⟩ := hroom _ (List.mem_singleton.mpr rfl)
          refine va_newa (atype := .long) (ty := .long) (a0 := (x.toNatClampNeg, .inr (.inl (fun _ => 0)))) hx hb (hts _ hac.2.2) rfl hK hG.2.2.1 hG.2.2.2.1 hG.2.2.2.2.1 hA (fun _ => rfl) hn rfl (by simp only [componentBytes]; omega) hc1 hc2 hdg (fun q cA H1 hK1 hP1 hD1 hS1 => ?_)
          have hk := hK1.2 0 (cA, .long) rfl
          have hG1 := hG.newc (c' := .inr (.long, x.toNatClampNeg, .inl (.long 0), [])) hP1 hD1 hS1 ⟨cA, hk.1, hk.2, _, rfl, fun _ => rfl⟩
          refine kk _ (List.mem_singleton.mpr rfl) vals _ H1 locs ls _ lc hG1 hl ?_ ?_
          · rw [rk_mapnew]; exact rk_A2.mono (fun _ _ h => ⟨h.1, h.2.grow ⟨[], by simp⟩ ⟨[q], rfl⟩⟩) hL
          · rw [rk_mapnew]; exact ⟨⟨q, by rw [hG.2.1.len]; simp, rfl⟩, rk_A2.mono (fun _ _ h => h.grow ⟨[], by simp⟩ ⟨[q], rfl⟩) hS⟩
        · cases h
      · cases h
    · cases h
  case anewarray idx =>
    simp [rk_len] at hlen; subst hlen
    simp only [rk_heap] at h
    split at h
    · next x r =>
      split at h
      · next hc =>
        obtain ⟨va, k1, rfl, hgx, hSn⟩ := hS.cons; clear hS; have hS := hSn; clear hSn
        cases hgx
        have hn : ¬ x < 0 := by rw [Int32.lt_iff_toInt_lt, Int32.toInt_zero]; omega
        have hsm : x.toNatClampNeg ≤ 100000 := by have : x.toNatClampNeg = x.toInt.toNat := rfl; omega
        split at h
        · next ci z hlk1 =>
          split at h
          · next C hC =>
            cases h
            obtain ⟨q0, hq0, hm1, hm2⟩ := hlk _ (List.mem_filter.mp (rk_lk_mem hlk1)).1
            have hqc : q0.1 = C := Option.some.inj ((hcl _ _ hq0).2.2.1.symm.trans hC)
            subst hqc
            obtain ⟨hc1, hc2⟩ := hroom _ (List.mem_singleton.mpr rfl)
            refine va_newq hx hb hown (hts _ hm1) (hxw _ hm2) hK hG.2.2.1 hG.2.2.2.1 hG.2.2.2.2.1 hA hn rfl (by omega) hc1 hc2 hdg (fun q cA H1 hK1 hP1 hD1 hS1 => ?_)
            have hk := hK1.2 0 (cA, .object q0.1) rfl
            have hG1 := hG.newc (c' := .inr (.object q0.1, x.toNatClampNeg, .inl .null, [])) hP1 hD1 hS1 ⟨cA, hk.1, hk.2, _, rfl, fun _ => rfl⟩
            refine kk _ (List.mem_singleton.mpr rfl) vals _ H1 locs ls _ lc hG1 hl ?_ ?_
            · rw [rk_mapnew]; exact rk_A2.mono (fun _ _ h => ⟨h.1, h.2.grow ⟨[], by simp⟩ ⟨[q], rfl⟩⟩) hL
            · rw [rk_mapnew]; exact ⟨⟨q, by rw [hG.2.1.len]; simp, rfl⟩, rk_A2.mono (fun _ _ h => h.grow ⟨[], by simp⟩ ⟨[q], rfl⟩) hS⟩
          · cases h
        · cases h
      · cases h
    · cases h
  case multianewarray idx dims =>
    simp [rk_len] at hlen; subst hlen
    simp only [rk_heap] at h
    split at h
    · next y x r =>
      split at h
      · next hc =>
        obtain ⟨vy, k0, rfl, hgy, hSn⟩ := hS.cons; clear hS; have hS := hSn; clear hSn
        cases hgy
        obtain ⟨va, k1, rfl, hgx, hSn⟩ := hS.cons; clear hS; have hS := hSn; clear hSn
        cases hgx
        have hn : ¬ x < 0 := by rw [Int32.lt_iff_toInt_lt, Int32.toInt_zero]; omega
        have hk : ¬ y < 0 := by rw [Int32.lt_iff_toInt_lt, Int32.toInt_zero]; omega
        have hsm : x.toNatClampNeg ≤ 1000 := by have : x.toNatClampNeg = x.toInt.toNat := rfl; omega
        have hsk : y.toNatClampNeg ≤ 1000 := by have : y.toNatClampNeg = y.toInt.toNat := rfl; omega
        split at h
        · next z1 z2 hlk1 =>
          cases h
          obtain ⟨hm1, hm2⟩ := hlk _ (rk_lk_mem hlk1)
          have hc12 := hroom _ (List.mem_singleton.mpr rfl)
          dsimp only at hc12
          obtain ⟨hd2, -⟩ := hc
          subst hd2
          obtain ⟨cy, ky, comp, hfind, hkc, hkind⟩ := Cond.arrayClass_spec (hts _ hac.2.2)
          have hAy : ArrOfT s cy .long := fun n z => ⟨fun k h => (by cases h), ky, hkc, comp, hkind⟩
          have e0 : va_pl ([] : List Nat) (fun _ => (.inl (cy, 0, .inl (fun _ => 0)) : va_E)) = [] := rfl
          refine va_mna (X := ws) (L := []) (f := fun _ => .inl (cy, 0, .inl (fun _ => 0))) (ty := .long) (cy := cy) (tys := []) (z := (y.toNatClampNeg, .inr (.inl (fun _ => 0)))) hx hb hown (hts _ hm1) (hxw _ hm2) (hts _ hac.2.2) hfind hK (by rw [e0, List.append_nil]; exact hG.2.2.1) (by rw [e0, List.append_nil]; exact hG.2.2.2.1) hG.2.2.2.2.1 hA hn hk rfl rfl (by omega) (by simp only [componentBytes]; omega) (by omega) rfl rfl (by omega) (by omega) (fun cz => arrV_new cz _ _) hdg (fun q r0 cA H1 hinj hrL hK1 hP1 hD1 hS1 => ?_)
          have hk1 := hK1.2 0 (cA, .array .long) rfl
          rw [← vr_rows (L := []) (fun a _ h => by cases h), e0, List.nil_append] at hP1 hD1
          obtain ⟨lr, hlr⟩ : ∃ lr, lr = List.map r0 (List.range x.toNatClampNeg) := ⟨_, rfl⟩
          rw [← hlr] at hP1 hD1
          have hll : lr.length = x.toNatClampNeg := by rw [hlr]; simp
          have hads : ((ws ++ [(q, (.inl (cA, x.toNatClampNeg, .inr (.inr (.inr (.inr (fun i => if i < x.toNatClampNeg then some (r0 i) else none))))) : va_E))]) ++ lr.map (fun a => (a, (.inl (cy, (y.toNatClampNeg, .inr (.inl (fun _ => 0)))) : va_E)))).map Prod.fst = ws.map Prod.fst ++ (q :: lr) := by
            rw [List.map_append, List.map_append, List.map_map]
            simp [Function.comp_def]
          have hwl : hp.length = (ws.map Prod.fst).length := by rw [hG.2.1.len]; simp
          have hG1 : rk_G s D cl Ad vals0 ads0 vals ((ws ++ [(q, (.inl (cA, x.toNatClampNeg, .inr (.inr (.inr (.inr (fun i => if i < x.toNatClampNeg then some (r0 i) else none))))) : va_E))]) ++ lr.map (fun a => (a, (.inl (cy, (y.toNatClampNeg, .inr (.inl (fun _ => 0)))) : va_E)))) H1 locs env (hp ++ ([.inr (.array .long, x.toNatClampNeg, .inl .null, rk_rows (hp.length + 1) x.toNatClampNeg)] ++ List.replicate x.toNatClampNeg (.inr (.long, y.toNatClampNeg, .inl (.long 0), [])))) := by
            refine ⟨hG.1, ?_, hP1, hD1, hS1, hG.2.2.2.2.2.1, ?_⟩
            · rw [hads, List.append_assoc ws]
              have g1 : rk_A2 (fun (c : rk_H) (q' : Nat × va_E) => rk_c s vals (ws.map Prod.fst ++ (q :: lr)) c q'.2) (List.replicate x.toNatClampNeg (.inr (.long, y.toNatClampNeg, .inl (.long 0), []))) (lr.map (fun a => (a, (.inl (cy, (y.toNatClampNeg, .inr (.inl (fun _ => 0)))) : va_E)))) := by
                rw [← hll]
                exact rk_A2.rep (fun a => ⟨cy, hAy, hfind, _, rfl, fun _ => rfl⟩) lr
              have g2 : rk_c s vals (ws.map Prod.fst ++ (q :: lr)) (.inr (.array .long, x.toNatClampNeg, .inl .null, rk_rows (hp.length + 1) x.toNatClampNeg)) (.inl (cA, x.toNatClampNeg, .inr (.inr (.inr (.inr (fun i => if i < x.toNatClampNeg then some (r0 i) else none)))))) := by
                refine ⟨cA, hk1.1, hk1.2, _, rfl, fun j => ?_⟩
                show rk_g vals (ws.map Prod.fst ++ (q :: lr)) (rk_look (.inl .null) (rk_rows (hp.length + 1) x.toNatClampNeg) j) (va_rf (if j < x.toNatClampNeg then some (r0 j) else none))
                rw [rk_rows_look]
                by_cases hj : j < x.toNatClampNeg
                · rw [if_pos hj, if_pos hj]
                  refine ⟨r0 j, ?_, rfl⟩
                  rw [List.getElem?_append_right (by omega), show hp.length + 1 + j - (ws.map Prod.fst).length = j + 1 by omega, List.getElem?_cons_succ, hlr, List.getElem?_map, List.getElem?_range hj]
                  rfl
                · rw [if_neg hj, if_neg hj]
                  rfl
              have g3 : rk_A2 (fun (c : rk_H) (q' : Nat × va_E) => rk_c s vals (ws.map Prod.fst ++ (q :: lr)) c q'.2) hp ws := hG.2.1.mono (fun _ _ h => h.grow ⟨[], by simp⟩ ⟨q :: lr, rfl⟩)
              have g4 : rk_A2 (fun (c : rk_H) (q' : Nat × va_E) => rk_c s vals (ws.map Prod.fst ++ (q :: lr)) c q'.2) [.inr (.array .long, x.toNatClampNeg, .inl .null, rk_rows (hp.length + 1) x.toNatClampNeg)] [(q, (.inl (cA, x.toNatClampNeg, .inr (.inr (.inr (.inr (fun i => if i < x.toNatClampNeg then some (r0 i) else none))))) : va_E))] := ⟨g2, trivial⟩
              exact rk_A2.app (rk_A2.app g1 g4) g3
            · obtain ⟨k7, h7⟩ := hG.2.2.2.2.2.2
              exact ⟨k7 ++ (q :: lr), by rw [hads, h7, List.append_assoc]⟩
          refine kk _ (List.mem_singleton.mpr rfl) vals _ H1 locs ls _ lc hG1 hl ?_ ?_
          · rw [hads]; exact rk_A2.mono (fun _ _ h => ⟨h.1, h.2.grow ⟨[], by simp⟩ ⟨q :: lr, rfl⟩⟩) hL
          · rw [hads]; exact ⟨⟨q, by rw [hwl]; simp, rfl⟩, rk_A2.mono (fun _ _ h => h.grow ⟨[], by simp⟩ ⟨q :: lr, rfl⟩) hS⟩
        · cases h
      · cases h
    · cases h
  case new idx =>
    simp [rk_len] at hlen; subst hlen
    simp only [rk_heap] at h
    split at h
    · next ci z hlk1 =>
      split at h
      · next tf htf =>
        cases h
        obtain ⟨q0, hq0, hm1, hm2, hm3⟩ := hlk _ (rk_lk_mem hlk1)
        obtain ⟨c1, c2, -, tf', htf', hlenT, hT⟩ := hcl _ _ hq0
        cases htf.symm.trans htf'
        obtain ⟨hc1, hc2⟩ := hroom _ (List.mem_singleton.mpr rfl)
        dsimp only at hc1 hc2
        rw [hlenT] at hc2
        refine va_new (ci := ci) (C := q0.1) (T := q0.2.1) (N := q0.2.2) (fs := tf.map (fun t => defaultValue t.1)) hx hb hts c1 _ (rk_ty hlenT hT) hown (hts _ hm1) (hts _ hm2) (hts _ hm3) hK hG.2.2.1 hG.2.2.2.1 hG.2.2.2.2.1 hA hq0 ?_ hc1 hc2 hdg (fun q H1 hP1 hD1 hS1 => ?_)
        · intro j hj
          have hj' : j < tf.length := by omega
          have e : tf[j]? = some tf[j] := List.getElem?_eq_getElem hj'
          simp [vp_V, e]
        · have hG1 := hG.newc (c' := .inl (ci, tf.map (fun t => .inl (defaultValue t.1)))) hP1 hD1 hS1 ⟨_, rfl, rk_defs tf⟩
          rw [← hlenT]
          refine kk _ (List.mem_singleton.mpr rfl) vals _ H1 locs ls _ lc hG1 hl ?_ ?_
          · rw [rk_mapnew]; exact rk_A2.mono (fun _ _ h => ⟨h.1, h.2.grow ⟨[], by simp⟩ ⟨[q], rfl⟩⟩) hL
          · rw [rk_mapnew]; exact ⟨⟨q, by rw [hG.2.1.len]; simp, rfl⟩, rk_A2.mono (fun _ _ h => h.grow ⟨[], by simp⟩ ⟨[q], rfl⟩) hS⟩
      · cases h
    · cases h
  case ldc idx =>
    simp [rk_len] at hlen; subst hlen
    simp only [rk_heap] at h
    split at h
    · next x hx1 =>
      cases h
      exact lv_ldc hx hb hown (hts _ ((hcs _ (rk_cst_mem hx1)).1 x rfl)) hdg (kk _ (List.mem_singleton.mpr rfl) vals ws H locs ls _ lc hG hl hL ⟨rfl, hS⟩)
    · cases h
  case ldc_w idx =>
    simp [rk_len] at hlen; subst hlen
    simp only [rk_heap] at h
    split at h
    · next x hx1 =>
      cases h
      exact lv_ldcw hx hb hown (hts _ ((hcs _ (rk_cst_mem hx1)).1 x rfl)) hdg (kk _ (List.mem_singleton.mpr rfl) vals ws H locs ls _ lc hG hl hL ⟨rfl, hS⟩)
    · cases h
  case ldc2_w idx =>
    simp [rk_len] at hlen; subst hlen
    simp only [rk_heap] at h
    split at h
    · next x hx1 =>
      cases h
      exact lv_ldc2 hx hb hown (hts _ ((hcs _ (rk_cst_mem hx1)).2 x rfl)) hdg (kk _ (List.mem_singleton.mpr rfl) vals ws H locs ls _ lc hG hl hL ⟨rfl, hS⟩)
    · cases h
  all_goals (simp [rk_heap] at h)
end RKQ
end
section
/-! ===== rk: calls, and a run to the end ===== -/
/-- most cells, most slots, the ends -/
abbrev rk_O : Type := Nat × Nat × List rk_X
/-- a method: its instructions, its locals, its links, its literals, what it returns, the number of its class (instance methods) -/
abbrev rk_M2 : Type := List (Nat × Instr × Nat) × Nat × List (Nat × Nat × Nat × Nat) × List (Nat × Value) × Option FieldType × Nat
def rk_pop : Nat → List rk_V → List rk_V → Option (List rk_V × List rk_V)
  | 0, acc, sk => some (acc, sk)
  | n + 1, acc, a :: sk => rk_pop n (a :: acc) sk
  | _ + 1, _, [] => none
def rk_fetch : List (Nat × Instr × Nat) → Nat → Option (Instr × Nat)
  | [], _ => none
  | q :: r, pc => if q.1 = pc then some q.2 else rk_fetch r pc
def rk_sum (env : List rk_T) : List rk_V → Nat
  | [] => 0
  | a :: r => rk_cat env a + rk_sum env r
def rk_after (o : Option rk_O) (pc : Nat) (lo : List (Nat × rk_V)) (r : List rk_V) (nc ns : Nat) : rk_R := match o with
  | some o => if o.2.2.isEmpty then none else some (o.2.2.map (fun x => (pc + 3, (lo, x.1.toList ++ r, x.2.1, x.2.2.1, nc + o.1, ns + o.2.1))))
  | none => none
/-- a row is copied: n places of the one, from sp on, come to the other's, from dp on -/
def rk_cpy (d : rk_V) (ov : List (Nat × rk_V)) (sp dp : Nat) : Nat → List (Nat × rk_V) → List (Nat × rk_V)
  | 0, acc => acc
  | n + 1, acc => (dp + n, rk_look d ov (sp + n)) :: rk_cpy d ov sp dp n acc
def rk_call (mci : List Nat) (call : Nat → List rk_V → List rk_T → List rk_H → Option rk_O) (lk : List (Nat × Nat × Nat × Nat)) (pc : Nat) (ins : Instr) (st : rk_S) : rk_R :=
  let lo := st.1; let sk := st.2.1; let env := st.2.2.1; let hp := st.2.2.2.1; let nc := st.2.2.2.2.1; let ns := st.2.2.2.2.2
  match ins with
  | .invokevirtual idx => match rk_lk lk idx with
    | some (kd, f, n) => if kd = 5 ∨ kd = 6 then (match rk_pop n [] sk with
      | some (as, .inr (.inl j) :: r) => (match hp[j]? with
        | some (.inl o) => if mci[f]? = some o.1 ∧ rk_sum env r ≤ 8 then rk_after (call f (.inr (.inl j) :: as) env hp) pc lo r nc ns else none
        | _ => none)
      | _ => none) else none
    | none => none
  | .invokestatic idx => match rk_lk lk idx with
    | some (kd, f, n) => if kd = 7 ∨ kd = 8 then (match rk_pop n [] sk with
      | some (as, r) => if rk_sum env r ≤ 8 then rk_after (call f as env hp) pc lo r nc ns else none
      | none => none) else none
    | none => none
  | .invokespecial idx => match rk_lk lk idx with
    | some (kd, f, n) => if kd = 9 ∨ kd = 10 then (match rk_pop n [] sk with
      | some (as, .inr (.inl j) :: r) => if rk_sum env r ≤ 8 then rk_after (call f (.inr (.inl j) :: as) env hp) pc lo r nc ns else none
      | _ => none) else if kd = 11 then (match sk with
      | .inr (.inl _) :: r => if rk_sum env r ≤ 8 then some [(pc + 3, (lo, r, env, hp, nc, ns))] else none
      | _ => none) else none
    | none => none
  | _ => none
/-! ===== rk: System.arraycopy ===== -/
/-- a number that is one, 0 at least -/
def rk_num (env : List rk_T) (a : rk_V) : Option Nat := match rk_iv env a with
  | some I => if I.1 = I.2 ∧ 0 ≤ I.1 then some I.1.toNat else none
  | none => none
def rk_copy (lk : List (Nat × Nat × Nat × Nat)) (pc : Nat) (ins : Instr) (st : rk_S) : rk_R :=
  let lo := st.1; let sk := st.2.1; let env := st.2.2.1; let hp := st.2.2.2.1; let nc := st.2.2.2.2.1; let ns := st.2.2.2.2.2
  match ins with
  | .invokestatic idx => match rk_lk lk idx with
    | some (12, _, _) => (match sk with
      | an :: adp :: .inr (.inl j1) :: asp :: .inr (.inl j0) :: r => if rk_sum env r ≤ 8 then (match rk_num env an, rk_num env adp, rk_num env asp, hp[j0]?, hp[j1]? with
        | some n, some dp, some sp, some (.inr (.int, n0, d0, o0)), some (.inr (.int, n1, d1, o1)) => if sp + n ≤ n0 ∧ dp + n ≤ n1 then some [(pc + 3, (lo, r, env, hp.set j1 (.inr (.int, n1, d1, rk_cpy d0 o0 sp dp n o1)), nc, ns))] else none
        | some n, some dp, some sp, some (.inr (.long, n0, d0, o0)), some (.inr (.long, n1, d1, o1)) => if sp + n ≤ n0 ∧ dp + n ≤ n1 then some [(pc + 3, (lo, r, env, hp.set j1 (.inr (.long, n1, d1, rk_cpy d0 o0 sp dp n o1)), nc, ns))] else none
        | _, _, _, _, _ => none) else none
      | _ => none)
    | _ => none
  | _ => none
def rk_comb (f : Nat × rk_S → Option rk_O) : List (Nat × rk_S) → Option rk_O
  | [] => some (0, 0, [])
  | q :: r => match f q, rk_comb f r with
    | some a, some b => some (max a.1 b.1, max a.2.1 b.2.1, a.2.2 ++ b.2.2)
    | _, _ => none
/-- a number of few values is each of them, one by one -/
def rk_each (a : rk_V) (pc : Nat) (lo : List (Nat × rk_V)) (sk : List rk_V) (env : List rk_T) (hp : List rk_H) (nc ns : Nat) : Int → Nat → List (Nat × rk_S)
  | _, 0 => []
  | v, n + 1 => rk_opt (rk_cut env a v v) pc lo sk hp nc ns ++ rk_each a pc lo sk env hp nc ns (v + 1) n
def rk_which (ins : Instr) (sk : List rk_V) : Option rk_V := match ins with
  | .iaload | .baload | .laload | .aaload | .i2l => sk[0]?
  | .iastore | .bastore | .lastore | .aastore => sk[1]?
  | _ => none
def rk_split (pc : Nat) (ins : Instr) (st : rk_S) : rk_R := match rk_which ins st.2.1 with
  | some a => match rk_iv st.2.2.1 a with
    | some I => if I.1 < I.2 ∧ I.2 - I.1 ≤ 64 then some (rk_each a pc st.1 st.2.1 st.2.2.1 st.2.2.2.1 st.2.2.2.2.1 st.2.2.2.2.2 I.1 (I.2 - I.1 + 1).toNat) else none
    | none => none
  | none => none
/-- Math.max, min, abs -/
def rk_imax (I J : Int × Int) : Int × Int := (max I.1 J.1, max I.2 J.2)
def rk_imin (I J : Int × Int) : Int × Int := (min I.1 J.1, min I.2 J.2)
def rk_math (lk : List (Nat × Nat × Nat × Nat)) (pc : Nat) (ins : Instr) (st : rk_S) : rk_R :=
  let lo := st.1; let sk := st.2.1; let env := st.2.2.1; let hp := st.2.2.2.1; let nc := st.2.2.2.2.1; let ns := st.2.2.2.2.2
  match ins with
  | .invokestatic idx => match rk_lk lk idx with
    | some (14, _, _) => (match sk with
      | b :: a :: r => if rk_sum env r ≤ 8 then rk_op2 (rk_bin (fun x y => if x < y then y else x) rk_imax env a b) (pc + 3) lo r hp nc ns else none
      | _ => none)
    | some (15, _, _) => (match sk with
      | b :: a :: r => if rk_sum env r ≤ 8 then rk_op2 (rk_bin (fun x y => if y < x then y else x) rk_imin env a b) (pc + 3) lo r hp nc ns else none
      | _ => none)
    | some (16, _, _) => (match sk with
      | b :: a :: r => if rk_sum env r ≤ 8 then rk_op2 (rk_lbin (fun x y => if y < x then x else y) env a b) (pc + 3) lo r hp nc ns else none
      | _ => none)
    | some (17, _, _) => (match sk with
      | a :: r => if rk_sum env r ≤ 8 then rk_op2 (rk_un (fun x => if 0 ≤ x then x else 0 - x) rk_full env a) (pc + 3) lo r hp nc ns else none
      | _ => none)
    | _ => none
  | _ => none
/-- ahead of a long difference: a wide symbol of few values is each of them, of one it is that number -/
def rk_pre0 (pc : Nat) (ins : Instr) (st : rk_S) : rk_R := match ins with
  | .lsub => match st.2.1 with
    | .inl (.long y) :: .inr (.inr (.inr k)) :: r => match rk_iv st.2.2.1 (.inr (.inr (.inl k))) with
      | some I => if I.1 = I.2 then some [(pc, (st.1, .inl (.long y) :: .inl (.long (Int32.ofInt I.1).toInt64) :: r, st.2.2))] else if I.1 < I.2 ∧ I.2 - I.1 ≤ 64 then some (rk_each (.inr (.inr (.inl k))) pc st.1 st.2.1 st.2.2.1 st.2.2.2.1 st.2.2.2.2.1 st.2.2.2.2.2 I.1 (I.2 - I.1 + 1).toNat) else none
      | none => none
    | _ => none
  | _ => none
/-- what else a frame may do -/
abbrev rk_Ext : Type := Nat → Instr → rk_S → rk_R
def rk_step (fty : rk_F) (cln : List String) (mci : List Nat) (call : Nat → List rk_V → List rk_T → List rk_H → Option rk_O) (ext : rk_Ext) (M : rk_M2) (pc : Nat) (ins : Instr) (st : rk_S) : rk_R :=
  match ext pc ins st with
  | some r => some r
  | none => match rk_pre0 pc ins st with
  | some r => some r
  | none => match rk_pure M.2.1 pc ins st with
  | some r => some r
  | none => match rk_pure2 pc ins st with
    | some r => some r
    | none => match rk_heap fty cln M.2.2.1 M.2.2.2.1 pc ins st with
      | some r => some r
      | none => match rk_call mci call M.2.2.1 pc ins st with
        | some r => some r
        | none => match rk_copy M.2.2.1 pc ins st with
          | some r => some r
          | none => match rk_split pc ins st with
            | some r => some r
            | none => rk_math M.2.2.1 pc ins st
/-- may a value be returned? -/
def rk_rok (env : List rk_T) (ret : Option FieldType) (a : rk_V) : Bool := match ret with
  | some .int => (rk_iv env a).isSome
  | some .boolean => rk_fit env .boolean a
  | some .long => rk_isL env a
  | _ => false
/-- an end, if the instruction is one -/
def rk_end (ret : Option FieldType) (ins : Instr) (st : rk_S) : Option (Option rk_X) := match ins with
  | .return_ => match st.2.1, ret with
    | [], none => some (some (none, st.2.2.1, st.2.2.2.1, st.2.2.2.2.1, st.2.2.2.2.2))
    | _, _ => some none
  | .ireturn => match st.2.1 with
    | [a] => if rk_rok st.2.2.1 ret a ∧ ¬ ret = some .long then some (some (some a, st.2.2.1, st.2.2.2.1, st.2.2.2.2.1, st.2.2.2.2.2)) else some none
    | _ => some none
  | .lreturn => match st.2.1 with
    | [a] => if rk_rok st.2.2.1 ret a ∧ ret = some .long then some (some (some a, st.2.2.1, st.2.2.2.1, st.2.2.2.2.1, st.2.2.2.2.2)) else some none
    | _ => some none
  | _ => none
def rk_loop (fty : rk_F) (cln : List String) (mci : List Nat) (call : Nat → List rk_V → List rk_T → List rk_H → Option rk_O) (ext : rk_Ext) (M : rk_M2) : Nat → Nat × rk_S → Option rk_O
  | 0, _ => none
  | n + 1, q => match rk_fetch M.1 q.1 with
    | none => none
    | some il => if rk_len il.1 il.2 = true then (match rk_end M.2.2.2.2.1 il.1 q.2 with
      | some (some x) => some (q.2.2.2.2.2.1, q.2.2.2.2.2.2, [x])
      | some none => none
      | none => (match rk_step fty cln mci call ext M q.1 il.1 q.2 with
        | some succ => (match rk_comb (rk_loop fty cln mci call ext M n) succ with
          | some o => some (max q.2.2.2.2.2.1 o.1, max q.2.2.2.2.2.2 o.2.1, o.2.2)
          | none => none)
        | none => none)) else none
/-- the locals of a method's start -/
def rk_args (env : List rk_T) : Nat → List rk_V → List (Nat × rk_V)
  | _, [] => []
  | i, a :: r => (i, a) :: rk_args env (i + rk_cat env a) r
def rk_mpc (g : rk_V → rk_V) (c : rk_H) : rk_H := match c with
  | .inl o => .inl (o.1, o.2.map g)
  | .inr q => .inr (q.1, q.2.1, g q.2.2.1, q.2.2.2.map (fun z => (z.1, g z.2)))
def rk_alc (P : rk_V → Bool) (c : rk_H) : Bool := match c with
  | .inl o => o.2.all P
  | .inr q => P q.2.2.1 && q.2.2.2.all (fun z => P z.2)
def rk_up (n : Nat) (a : rk_V) : rk_V := match a with
  | .inr (.inl j) => .inr (.inl (j + n))
  | a => a
def rk_dn (n : Nat) (a : rk_V) : rk_V := match a with
  | .inr (.inl j) => .inr (.inl (j - n))
  | a => a
def rk_ge (n : Nat) (a : rk_V) : Bool := match a with
  | .inr (.inl j) => decide (n ≤ j)
  | _ => true
def rk_lt (n : Nat) (a : rk_V) : Bool := match a with
  | .inr (.inl j) => decide (j < n)
  | _ => true
def rk_nro (o : Option rk_V) : Bool := match o with
  | some (.inr (.inl _)) => false
  | _ => true
/-- the part from n on -/
def rk_suf (call : Nat → List rk_V → List rk_T → List rk_H → Option rk_O) (n f : Nat) (as : List rk_V) (env : List rk_T) (hp : List rk_H) : Option rk_O :=
  if n ≤ hp.length ∧ as.all (rk_ge n) = true ∧ (hp.drop n).all (rk_alc (rk_ge n)) = true then (match call f (as.map (rk_dn n)) env ((hp.drop n).map (rk_mpc (rk_dn n))) with
    | some o => if o.2.2.all (fun x => rk_nro x.1) = true then some (o.1, o.2.1, o.2.2.map (fun x => (x.1, x.2.1, hp.take n ++ x.2.2.1.map (rk_mpc (rk_up n)), x.2.2.2))) else none
    | none => none) else none
/-- the part below n -/
def rk_pfx (call : Nat → List rk_V → List rk_T → List rk_H → Option rk_O) (n f : Nat) (as : List rk_V) (env : List rk_T) (hp : List rk_H) : Option rk_O :=
  if n ≤ hp.length ∧ as.all (rk_lt n) = true ∧ (hp.take n).all (rk_alc (rk_lt n)) = true then (match call f as env (hp.take n) with
    | some o => if o.2.2.all (fun x => decide (x.2.2.1.length = n)) = true then some (o.1, o.2.1, o.2.2.map (fun x => (x.1, x.2.1, x.2.2.1 ++ hp.drop n, x.2.2.2))) else none
    | none => none) else none
def rk_wrap (call : Nat → List rk_V → List rk_T → List rk_H → Option rk_O) (f : Nat) (as : List rk_V) (env : List rk_T) (hp : List rk_H) : Option rk_O := match as with
  | [.inr (.inl j)] => if j + 1 = hp.length then (match rk_suf call j f [.inr (.inl j)] env hp with
    | some o => some o
    | none => call f [.inr (.inl j)] env hp) else call f [.inr (.inl j)] env hp
  | as => call f as env hp
def rk_run (P : List rk_M2) (fty : rk_F) (cln : List String) (mci : List Nat) (sum : Nat → Nat → List rk_V → List rk_T → List rk_H → Option rk_O) (fuel : Nat) : Nat → Nat → List rk_V → List rk_T → List rk_H → Option rk_O
  | 0, _, _, _, _ => none
  | d + 1, f, as, env, hp => match sum d f as env hp with
   | some o => some o
   | none => match P[f]? with
    | some M => if M.2.1 ≤ 21 ∧ rk_sum env as ≤ M.2.1 then rk_loop fty cln mci (rk_wrap (rk_run P fty cln mci sum fuel d)) (fun _ _ _ => none) M fuel (0, (rk_args env 0 as, [], env, hp, 0, 0)) else none
    | none => none
end
section
/-! ===== rk: a run is sound ===== -/
theorem rk_arr_ty {vals : List Value} {ads : List Nat} {cA : ClassId} {q : rk_D} {e : va_E} (h : rk_arr vals ads cA q e) : True := trivial
theorem rk_c.moved {u U : State} (hvm : u.vm.Alike U.vm) {vals : List Value} {ads : List Nat} {c : rk_H} {e : va_E} (h : rk_c u vals ads c e) : rk_c U vals ads c e := by
  rcases c with o | q
  · exact h
  · obtain ⟨cA, h1, h2, h3⟩ := h
    exact ⟨cA, arrOfT_moved hvm h1, h2.moved hvm, h3⟩
/-- the words that aren't of the tables' own kind -/
def rk_xok (xw : List Jvm.Cond) : Prop := ∀ w ∈ xw, (∃ a i b n d h, w = .fieldLinkNest a i b n d h) ∨ (∃ a i x h, w = .methodLinkNest a i x h) ∨ (∃ C, w = .arrayOver (.object C)) ∨ (∃ t, w = .arrayOver (.array t))
theorem rk_xw_warm {xw : List Jvm.Cond} (hxo : rk_xok xw) {s U : State} (hW : s.WarmedH U.vm) (h : ∀ w ∈ xw, va_Nw w s) : ∀ w ∈ xw, va_Nw w U := by
  intro w hw
  rcases hxo w hw with ⟨a, i, b, n, d, hh, rfl⟩ | ⟨a, i, x, hh, rfl⟩ | ⟨C, rfl⟩ | ⟨t, rfl⟩
  · exact va_Nw.warmF hW (h _ hw)
  · exact va_Nw.warmM hW (h _ hw)
  · exact va_AO.moved hW.alike (h _ hw)
  · exact va_AOA.moved hW.alike (h _ hw)
theorem rk_xw_same {xw : List Jvm.Cond} (hxo : rk_xok xw) {s U : State} (hv : s.vm = U.vm) (h : ∀ w ∈ xw, va_Nw w s) : ∀ w ∈ xw, va_Nw w U := by
  intro w hw
  rcases hxo w hw with ⟨a, i, b, n, d, hh, rfl⟩ | ⟨a, i, x, hh, rfl⟩ | ⟨C, rfl⟩ | ⟨t, rfl⟩
  · exact va_Nw.same rfl hv (h _ hw)
  · exact va_Nw.same rfl hv (h _ hw)
  · exact va_AO.moved (by rw [hv]; exact Vm.Alike.refl _) (h _ hw)
  · exact va_AOA.moved (by rw [hv]; exact Vm.Alike.refl _) (h _ hw)
/-- what else is known of old cells: by the symbols, of a heap, outside what may be written -/
abbrev rk_XT : Type := List Value → (Nat → Prop) → State → Heap → Prop
def rk_xtok (xt : rk_XT) : Prop := (∀ (vals k : List Value) (Ad : Nat → Prop) (U : State) (H : Heap), xt vals Ad U H → xt (vals ++ k) Ad U H) ∧ (∀ (vals : List Value) (Ad : Nat → Prop) (s U : State) (H : Heap), s.vm = U.vm → xt vals Ad s H → xt vals Ad U H) ∧ (∀ (vals : List Value) (Ad : Nat → Prop) (s U : State) (H : Heap), s.WarmedH U.vm → xt vals Ad s H → xt vals Ad U H) ∧ (∀ (vals : List Value) (Ad B : Nat → Prop) (U : State) (H H1 : Heap), xt vals Ad U H → (∀ a, a < H.size → ¬ Ad a → H1[a]? = H[a]?) → (∀ q, B q → Ad q) → xt vals B U H1)
def rk_Pre (D : va_G) (cl : List vw_C) (xw : List Jvm.Cond) (xt : rk_XT) (vals0 : List Value) (ws0 : va_W) (hp : List rk_H) (sz : Nat) (av : List Value) : Array Value → State → Prop := fun v U => v = av.toArray ∧ U.heap.size = sz ∧ va_P D cl ws0 U.heap ∧ va_K D cl [] U ∧ va_D (fun _ => True) ws0 ∧ rk_A2 (fun c q => rk_c U vals0 (ws0.map Prod.fst) c q.2) hp ws0 ∧ (∀ w ∈ xw, va_Nw w U) ∧ xt vals0 (va_A ws0 sz) U U.heap
def rk_ret (r : Option rk_V) (vals : List Value) (ads : List Nat) (oc : Outcome) : Prop := match r with
  | none => oc = .returned none
  | some a => ∃ v, rk_g vals ads a v ∧ oc = .returned (some v)
def rk_Post (D : va_G) (cl : List vw_C) (xs : List rk_X) (vals0 : List Value) (ads0 : List Nat) (Ad : Nat → Prop) : Array Value → State → Outcome → State → Prop := fun _ st oc t =>
  (∃ x ∈ xs, ∃ (vals : List Value) (ws : va_W), (∃ k, vals = vals0 ++ k) ∧ (∃ k, ws.map Prod.fst = ads0 ++ k) ∧ rk_E x.2.1 vals ∧ rk_A2 (fun c q => rk_c t vals (ws.map Prod.fst) c q.2) x.2.2.1 ws ∧ va_P D cl ws t.heap ∧ va_D Ad ws ∧ rk_ret x.1 vals (ws.map Prod.fst) oc) ∧ va_F Ad st t
theorem rk_blind {D : va_G} {cl : List vw_C} {xw : List Jvm.Cond} {xt : rk_XT} {vals0 : List Value} {ws0 : va_W} {hp : List rk_H} {sz : Nat} {av : List Value} (hxo : rk_xok xw) (hxt : rk_xtok xt) : FrameBlind (rk_Pre D cl xw xt vals0 ws0 hp sz av) := by
  intro a U g mk q
  obtain ⟨h1, h2, h3, h4, h5, h6, h7, h8⟩ := q
  exact ⟨h1, h2, h3, va_K.moved (u := U) (U := U.calling g mk a) (Vm.Alike.refl U.vm) h4, h5, h6.mono (fun _ _ h => h.moved (u := U) (U := U.calling g mk a) (Vm.Alike.refl U.vm)), rk_xw_same hxo (s := U) (U := U.calling g mk a) rfl h7, hxt.2.1 _ _ U (U.calling g mk a) _ rfl h8⟩
/-- what is known of a method by its number: its class's name, its own name, its bytes -/
abbrev rk_N : Type := String × MethodName × ByteArray
def rk_kok (tbl : List Jvm.Cond) (own : String) (r : Nat × Nat × Nat × Nat) : Prop := r.2.1 = 12 → Jvm.Cond.methodLink own r.1 arraycopyName ∈ tbl ∧ Jvm.Cond.native arraycopyName ∈ tbl ∧ Jvm.Cond.static arraycopyName ∈ tbl ∧ Jvm.Cond.initialized "java/lang/System" ∈ tbl
/-- what a call's link must be for the tables -/
def rk_cok (tbl xw : List Jvm.Cond) (MN : List rk_N) (P : List rk_M2) (own : String) (r : Nat × Nat × Nat × Nat) : Prop := match r.2.1 with
  | 5 => ∃ q, MN[r.2.2.1]? = some q ∧ Jvm.Cond.methodLink own r.1 q.2.1 ∈ tbl ∧ Jvm.Cond.instanceMethod q.2.1 ∈ tbl ∧ Jvm.Cond.selects q.1 q.2.1 q.2.1 ∈ tbl ∧ (parseMethodDescriptor q.2.1.desc).map (fun d => d.parameters.length) = some r.2.2.2
  | 6 => ∃ q host, MN[r.2.2.1]? = some q ∧ Jvm.Cond.methodLinkNest own r.1 q.2.1 host ∈ xw ∧ Jvm.Cond.instanceMethod q.2.1 ∈ tbl ∧ Jvm.Cond.selects q.1 q.2.1 q.2.1 ∈ tbl ∧ (parseMethodDescriptor q.2.1.desc).map (fun d => d.parameters.length) = some r.2.2.2
  | 7 => ∃ q, MN[r.2.2.1]? = some q ∧ Jvm.Cond.methodLink own r.1 q.2.1 ∈ tbl ∧ Jvm.Cond.static q.2.1 ∈ tbl ∧ (parseMethodDescriptor q.2.1.desc).map (fun d => d.parameters.length) = some r.2.2.2
  | 8 => ∃ q host, MN[r.2.2.1]? = some q ∧ Jvm.Cond.methodLinkNest own r.1 q.2.1 host ∈ xw ∧ Jvm.Cond.static q.2.1 ∈ tbl ∧ (parseMethodDescriptor q.2.1.desc).map (fun d => d.parameters.length) = some r.2.2.2
  | 9 => ∃ q, MN[r.2.2.1]? = some q ∧ (∀ M, P[r.2.2.1]? = some M → M.2.2.2.2.1 = none) ∧ Jvm.Cond.methodLink own r.1 q.2.1 ∈ tbl ∧ Jvm.Cond.instanceMethod q.2.1 ∈ tbl ∧ q.2.1.name = "<init>" ∧ (parseMethodDescriptor q.2.1.desc).map (fun d => d.parameters.length) = some r.2.2.2
  | 10 => ∃ q host, MN[r.2.2.1]? = some q ∧ (∀ M, P[r.2.2.1]? = some M → M.2.2.2.2.1 = none) ∧ Jvm.Cond.methodLinkNest own r.1 q.2.1 host ∈ xw ∧ Jvm.Cond.instanceMethod q.2.1 ∈ tbl ∧ q.2.1.name = "<init>" ∧ (parseMethodDescriptor q.2.1.desc).map (fun d => d.parameters.length) = some r.2.2.2
  | 11 => Jvm.Cond.methodLink own r.1 objectInit ∈ tbl ∧ Jvm.Cond.instanceMethod objectInit ∈ tbl ∧ Jvm.Cond.code objectInit ⟨#[0xb1]⟩ 1 none ∈ tbl
  | _ => True
/-- what a method must be for the tables -/
def rk_mok (tbl xw : List Jvm.Cond) (cl : List vw_C) (MN : List rk_N) (P : List rk_M2) (mci : List Nat) (q : rk_N) (M : rk_M2) : Prop :=
  plainName q.2.1.cls = true ∧ q.2.1.cls = q.1 ∧ (q.2.1.cls ≠ "java/lang/invoke/MethodHandle" ∧ q.2.1.cls ≠ "java/lang/invoke/VarHandle") ∧ Jvm.Cond.code q.2.1 q.2.2 M.2.1 M.2.2.2.2.1 ∈ tbl ∧ Jvm.Cond.initialized q.2.1.cls ∈ tbl ∧ (∀ r ∈ M.1, decode q.2.2 r.1 = .ok r.2) ∧ (∀ r ∈ M.2.2.1, rk_lok tbl xw cl q.1 r ∧ rk_cok tbl xw MN P q.1 r ∧ rk_kok tbl q.1 r) ∧ ((∃ r ∈ M.2.2.1, r.2.1 = 2) → q.2.1.name = "<init>") ∧ (∀ r ∈ M.2.2.2.1, (∀ x, r.2 = .int x → Jvm.Cond.constant q.1 r.1 x ∈ tbl) ∧ (∀ x, r.2 = .long x → Jvm.Cond.constantLong q.1 r.1 x ∈ tbl))
/-- the whole of it -/
def rk_ok (tbl xw : List Jvm.Cond) (cl : List vw_C) (fty : rk_F) (cln : List String) (MN : List rk_N) (mci : List Nat) (P : List rk_M2) : Prop :=
  (∀ w ∈ tbl, goodWord w = true) ∧ rk_xok xw ∧ rk_clok tbl cl fty cln ∧ (Jvm.Cond.arrayClass .int ∈ tbl ∧ Jvm.Cond.arrayClass .byte ∈ tbl ∧ Jvm.Cond.arrayClass .long ∈ tbl) ∧ MN.length = P.length ∧ (∀ (f : Nat) (q : rk_N) (M : rk_M2), MN[f]? = some q → P[f]? = some M → rk_mok tbl xw cl MN P mci q M) ∧ (∀ (f ci : Nat) (q : rk_N) (k : vw_C), mci[f]? = some ci → MN[f]? = some q → cl[ci]? = some k → k.1 = q.1)
theorem rk_pop_ok {vals : List Value} {ads : List Nat} : ∀ (n : Nat) {acc sk as r : List rk_V} {va stk : List Value}, rk_pop n acc sk = some (as, r) → rk_A2 (rk_g vals ads) acc va → rk_A2 (rk_g vals ads) sk stk → ∃ (v2 r2 : List Value), rk_A2 (rk_g vals ads) as (v2 ++ va) ∧ rk_A2 (rk_g vals ads) r r2 ∧ stk = v2.reverse ++ r2 ∧ v2.length = n := by
  intro n
  induction n with
  | zero => intro acc sk as r va stk h ha hs; cases h; exact ⟨[], stk, by simpa using ha, hs, by simp, rfl⟩
  | succ n ih =>
    intro acc sk as r va stk h ha hs
    cases sk with
    | nil => cases h
    | cons a sk =>
      obtain ⟨v, k, rfl, hg, hs⟩ := hs.cons
      obtain ⟨v2, r2, h1, h2, rfl, h4⟩ := ih (show rk_pop n (a :: acc) sk = some (as, r) from h) (show rk_A2 (rk_g vals ads) (a :: acc) (v :: va) from ⟨hg, ha⟩) hs
      exact ⟨v2 ++ [v], r2, by simpa using h1, h2, by simp, by simp [h4]⟩
theorem rk_sum_ok {env : List rk_T} {vals : List Value} {ads : List Nat} (hE : rk_E env vals) : ∀ {r : List rk_V} {stk : List Value}, rk_A2 (rk_g vals ads) r stk → rk_sum env r = (stk.map fun v => v.category).sum := by
  intro r
  induction r with
  | nil => intro stk h; rw [h.nil]; rfl
  | cons a r ih =>
    intro stk h
    obtain ⟨v, k, rfl, hg, hs⟩ := h.cons
    simp [rk_sum, rk_cat_ok hE hg, ih hs]
theorem rk_fetch_mem {pc : Nat} {q : Instr × Nat} : ∀ {l : List (Nat × Instr × Nat)}, rk_fetch l pc = some q → (pc, q) ∈ l := by
  intro l
  induction l with
  | nil => intro h; cases h
  | cons r l ih =>
    intro h
    unfold rk_fetch at h
    split at h
    · next e => cases h; subst e; exact List.mem_cons_self
    · exact List.mem_cons_of_mem _ (ih h)
theorem rk_comb_ok {f : Nat × rk_S → Option rk_O} : ∀ {l : List (Nat × rk_S)} {o : rk_O}, rk_comb f l = some o → ∀ q ∈ l, ∃ o', f q = some o' ∧ o'.1 ≤ o.1 ∧ o'.2.1 ≤ o.2.1 ∧ ∀ x ∈ o'.2.2, x ∈ o.2.2 := by
  intro l
  induction l with
  | nil => intro o h q hq; cases hq
  | cons r l ih =>
    intro o h q hq
    unfold rk_comb at h
    split at h
    · next a b ha hb =>
      cases h
      rcases List.mem_cons.mp hq with rfl | hq
      · exact ⟨a, ha, Nat.le_max_left _ _, Nat.le_max_left _ _, fun x hx => List.mem_append_left _ hx⟩
      · obtain ⟨o', h1, h2, h3, h4⟩ := ih hb q hq
        exact ⟨o', h1, Nat.le_trans h2 (Nat.le_max_right _ _), Nat.le_trans h3 (Nat.le_max_right _ _), fun x hx => List.mem_append_right _ (h4 x hx)⟩
    · cases h
theorem rk_loop_ge {fty : rk_F} {cln : List String} {mci : List Nat} {call : Nat → List rk_V → List rk_T → List rk_H → Option rk_O} {ext : rk_Ext} {M : rk_M2} : ∀ {n : Nat} {q : Nat × rk_S} {o : rk_O}, rk_loop fty cln mci call ext M n q = some o → q.2.2.2.2.2.1 ≤ o.1 ∧ q.2.2.2.2.2.2 ≤ o.2.1 := by
  intro n q o h
  cases n with
  | zero => cases h
  | succ n =>
    unfold rk_loop at h
    split at h
    · cases h
    · split at h
      · split at h
        · cases h; exact ⟨Nat.le_refl _, Nat.le_refl _⟩
        · cases h
        · split at h
          · split at h
            · cases h; exact ⟨Nat.le_max_left _ _, Nat.le_max_left _ _⟩
            · cases h
          · cases h
      · cases h
theorem rk_args_ok {env : List rk_T} {vals : List Value} {ads : List Nat} (hE : rk_E env vals) : ∀ {as : List rk_V} {av : List Value} (i : Nat), rk_A2 (rk_g vals ads) as av → rk_Lo vals ads (rk_args env i as) (lv_args i av) := by
  intro as
  induction as with
  | nil => intro av i h; rw [h.nil]; trivial
  | cons a as ih =>
    intro av i h
    obtain ⟨v, k, rfl, hg, hs⟩ := h.cons
    refine ⟨⟨rfl, hg⟩, ?_⟩
    have e : i + rk_cat env a = if v.category = 2 then i + 2 else i + 1 := by
      rw [rk_cat_ok hE hg]
      rcases lv_cat v with q | q <;> simp [q]
    rw [e]
    exact ih _ hs
section RKB
variable {p : Program} {l : Launch} {e : Env} {R : Room} {s : State} {m : MethodId} {args : Array Value} {below : List Frame} {meth : Method} {c : Code} {Q : State → Prop} {cc : ByteArray} {D : va_G} {cl : List vw_C} {Ad : Nat → Prop} {nL : Nat} {vals0 : List Value} {ads0 : List Nat}
/-- behind a call: each end of the callee goes on in the caller -/
theorem rk_back {vals : List Value} {ws : va_W} {H : Heap} {locs : List Loc} {ls : Array Slot} {st0 rest : List Value} {lc : List (Nat × Value)} {env : List rk_T} {hp : List rk_H} {lo : List (Nat × rk_V)} {r : List rk_V} {o : rk_O} {pc nc ns : Nat} {res : List (Nat × rk_S)} {as : Array Value}
    (hA : ∀ q, s.heap.size ≤ q → Ad q) (hG : rk_G s D cl Ad vals0 ads0 vals ws H locs env hp) (hl : lv_has ls nL lc) (hL : rk_Lo vals (ws.map Prod.fst) lo lc) (hS : rk_A2 (rk_g vals (ws.map Prod.fst)) r rest)
    (hr : va_Run p l e R s m args below meth c H locs nc ns o.1 o.2.1 (F0 m pc ls st0) rest (rk_Post D cl o.2.2 vals (ws.map Prod.fst) (va_A ws H.size) as) (va_A ws H.size))
    (h : rk_after (some o) pc lo r nc ns = some res) (kk : ∀ q ∈ res, rk_W (rk_KW p l e R s m args below meth c Q) s D cl Ad nL vals0 ads0 q.1 q.2) : rk_KW p l e R s m args below meth c Q pc ls st0 H locs nc ns := by
  have hres : res = o.2.2.map (fun x => (pc + 3, (lo, x.1.toList ++ r, x.2.1, x.2.2.1, nc + o.1, ns + o.2.1))) := by
    unfold rk_after at h
    dsimp only at h
    split at h
    · cases h
    · exact (Option.some.inj h).symm
  subst hres
  have hsub : ∀ q, va_A ws H.size q → Ad q := by
    rintro q (⟨k, e1, hk⟩ | hq)
    · exact hG.2.2.2.1.2 k _ hk
    · exact hA q (Nat.le_trans hG.2.2.2.2.1.1 hq)
  intro T hT X
  obtain ⟨v, st₀, t, T', L, h0, X', hLf, e1, e2, ⟨⟨x, hxm, vals', ws', hv', ha', hE', hC', hP', hD', hret⟩, hF⟩, go⟩ := hr T hT X
  have hal : t.vm.Alike s.vm := by rw [← e2]; exact X'.warmed.alike.symm
  obtain ⟨-, -, -, -, h5, ⟨k6, h6⟩, k7, h7⟩ := id hG
  have hS1 : va_S Ad s.heap t.heap (locs ++ L) := by
    refine ⟨Nat.le_trans h5.1 (by rw [← h0]; exact hF.1), fun q hq hn => ?_, fun z hz => ?_⟩
    · rw [hF.2 q (by rw [h0]; exact Nat.lt_of_lt_of_le hq h5.1) (fun z => hn (hsub q z)), h0]
      exact h5.2.1 q hq hn
    · rcases List.mem_append.mp hz with z1 | z1
      · exact h5.2.2 z z1
      · exact hsub _ (hLf z z1)
  have hG1 : rk_G s D cl Ad vals0 ads0 vals' ws' t.heap (locs ++ L) x.2.1 x.2.2.1 := by
    obtain ⟨kv, rfl⟩ := hv'
    obtain ⟨ka, ha'⟩ := ha'
    exact ⟨hE', hC'.mono (fun _ _ h => h.moved hal), hP', hD'.weaken (fun _ _ _ z => hsub _ z), hS1, ⟨k6 ++ kv, by rw [h6, List.append_assoc]⟩, ⟨k7 ++ ka, by rw [ha', h7, List.append_assoc]⟩⟩
  have hL1 : rk_Lo vals' (ws'.map Prod.fst) lo lc := rk_A2.mono (fun _ _ h => ⟨h.1, h.2.grow hv' ha'⟩) hL
  have hS2 : rk_A2 (rk_g vals' (ws'.map Prod.fst)) (x.1.toList ++ r) (v.toList ++ rest) := by
    have hS3 : rk_A2 (rk_g vals' (ws'.map Prod.fst)) r rest := rk_A2.mono (fun _ _ h => h.grow hv' ha') hS
    cases hx1 : x.1 with
    | none =>
      rw [hx1] at hret
      have : v = none := Outcome.returned.inj hret
      subst this
      exact hS3
    | some a =>
      rw [hx1] at hret
      obtain ⟨w, hg, ew⟩ := hret
      have : v = some w := Outcome.returned.inj ew
      subst this
      exact ⟨hg, hS3⟩
  obtain ⟨t2, a1, b1⟩ := kk _ (List.mem_map.mpr ⟨x, hxm, rfl⟩) vals' ws' t.heap (locs ++ L) ls _ lc hG1 hl hL1 hS2 T' e1 X'
  exact ⟨t2, go t2 a1, b1⟩
end RKB
end
section
theorem rk_num_ok {env : List rk_T} {vals : List Value} {ads : List Nat} {a : rk_V} {v : Value} {k : Nat} (hE : rk_E env vals) (h : rk_g vals ads a v) (hi : rk_num env a = some k) : ∃ x : Int32, v = .int x ∧ ¬ x < 0 ∧ x.toNatClampNeg = k := by
  unfold rk_num at hi
  split at hi
  · next I hI =>
    obtain ⟨x, rfl, h1, h2⟩ := rk_iv_ok hE h hI
    split at hi
    · next hc =>
      cases hi
      have e : x.toInt = I.1 := by omega
      have hc2 : x.toNatClampNeg = I.1.toNat := by rw [← e]; rfl
      exact ⟨x, rfl, by rw [Int32.lt_iff_toInt_lt, Int32.toInt_zero]; omega, hc2⟩
    · cases hi
  · cases hi
theorem rk_cpy_look (d1 d0 : rk_V) (o0 : List (Nat × rk_V)) (sp dp : Nat) (acc : List (Nat × rk_V)) (j : Nat) : ∀ n : Nat, rk_look d1 (rk_cpy d0 o0 sp dp n acc) j = if dp ≤ j ∧ j < dp + n then rk_look d0 o0 (sp + (j - dp)) else rk_look d1 acc j := by
  intro n
  induction n with
  | zero => rw [if_neg (by omega)]; rfl
  | succ n ih =>
    show (if dp + n = j then rk_look d0 o0 (sp + n) else rk_look d1 (rk_cpy d0 o0 sp dp n acc) j) = _
    by_cases e : dp + n = j
    · rw [if_pos e, if_pos (by omega), show j - dp = n by omega]
    · rw [if_neg e, ih]
      by_cases q : dp ≤ j ∧ j < dp + n
      · rw [if_pos q, if_pos (by omega)]
      · rw [if_neg q, if_neg (by omega)]
section RKC
variable {p : Program} {l : Launch} {e : Env} {R : Room} {s : State} {m : MethodId} {args : Array Value} {below : List Frame} {meth : Method} {c : Code} {Q : State → Prop} {cc : ByteArray} {D : va_G} {cl : List vw_C} {Ad : Nat → Prop} {nL : Nat} {vals0 : List Value} {ads0 : List Nat}
variable {tbl xw : List Jvm.Cond} {fty : rk_F} {cln : List String} {own : String} {lk : List (Nat × Nat × Nat × Nat)} {cs : List (Nat × Value)}
set_option maxHeartbeats 4000000 in
theorem rk_copy_ok (hx : p.tables.exec = Jvm.exec) (hb : c.code = cc) (hml : c.maxLocals = nL) (hF : rk_Fr s m args meth D cl Ad tbl xw fty cln own lk cs) (hck : ∀ r ∈ lk, rk_kok tbl own r) (hfr : 1 ≤ R.frames) (hlo : 40 ≤ R.locals) {pc : Nat} {ins : Instr} {len : Nat} {st : rk_S} {res : List (Nat × rk_S)} (hdg : decode cc pc = .ok (ins, len)) (hlen : rk_len ins len = true) (h : rk_copy lk pc ins st = some res) (kk : ∀ q ∈ res, rk_W (rk_KW p l e R s m args below meth c Q) s D cl Ad nL vals0 ads0 q.1 q.2) : rk_W (rk_KW p l e R s m args below meth c Q) s D cl Ad nL vals0 ads0 pc st := by
  obtain ⟨hts, hxw, hown, hK, hA, hcl, hlk, hini, hac, hcs⟩ := hF
  obtain ⟨lo, sk, env, hp, nc, ns⟩ := st
  intro vals ws H locs ls stk lc hG hl hL hS
  dsimp only at hG hL hS ⊢
  cases ins
  case invokestatic idx =>
    simp [rk_len] at hlen; subst hlen
    simp only [rk_copy] at h
    split at h
    · next a0 a1 hlk1 =>
      obtain ⟨w1, w2, w3, w4⟩ := hck _ (rk_lk_mem hlk1) rfl
      split at h
      · next an adp j1 asp j0 r =>
        split at h
        · next hsum =>
          obtain ⟨vn, k1, rfl, gn, hSn⟩ := hS.cons; clear hS; have hS := hSn; clear hSn
          obtain ⟨vd, k2, rfl, gd, hSn⟩ := hS.cons; clear hS; have hS := hSn; clear hSn
          obtain ⟨va1, k3, rfl, ⟨x1, hj1x, rfl⟩, hSn⟩ := hS.cons; clear hS; have hS := hSn; clear hSn
          obtain ⟨vs, k4, rfl, gs, hSn⟩ := hS.cons; clear hS; have hS := hSn; clear hSn
          obtain ⟨va0, k5, rfl, ⟨x0, hj0x, rfl⟩, hSn⟩ := hS.cons; clear hS; have hS := hSn; clear hSn
          rw [rk_sum_ok hG.1 hS] at hsum
          have hnf : nativeFrameWords "java/lang/System" "arraycopy" 5 ≤ 20 := by decide +kernel
          have hlr : (k5.map fun v => v.category).sum + (nativeFrameWords "java/lang/System" "arraycopy" 5 + 11) ≤ R.locals := by omega
          split at h
          · next n dp sp n0 d0 o0 n1 d1 o1 hn hdp hsp hj0 hj1 =>
            split at h
            · next hc =>
              cases h
              obtain ⟨xn, rfl, qn, rfl⟩ := rk_num_ok hG.1 gn hn
              obtain ⟨xd, rfl, qd, rfl⟩ := rk_num_ok hG.1 gd hdp
              obtain ⟨xs, rfl, qs, rfl⟩ := rk_num_ok hG.1 gs hsp
              obtain ⟨e0, hw0, cA0, hA01, hA02, f, rfl, hf⟩ := hG.cell hj0 hj0x
              obtain ⟨e1, hw1, cA1, hA11, hA12, g, rfl, hg⟩ := hG.cell hj1 hj1x
              have hK2 : va_K D cl [(cA0, .int), (cA1, .int)] s := (rk_K1 hK hA01 hA02).app (rk_K1 hK hA11 hA12)
              refine va_copyi (ty := .int) hx hb (by rw [hml]; exact hl.1.symm) hown (hts _ w1) (hts _ w2) (hts _ w3) (hts _ w4) hK2 hG.2.2.1 hG.2.2.2.1 hG.2.2.2.2.1 j0 j1 0 1 hw0 hw1 rfl rfl rfl qs qd qn hc.1 hc.2 (fun _ _ => rfl) hfr hlr hdg (fun H1 locs1 hP1 hD1 hS1 => ?_)
              have hG1 := hG.setc (c' := .inr (.int, n1, d1, rk_cpy d0 o0 xs.toNatClampNeg xd.toNatClampNeg xn.toNatClampNeg o1)) hw1 hP1 hD1 hS1 ⟨cA1, hA11, hA12, _, rfl, fun j => by
                show rk_g vals (ws.map Prod.fst) (rk_look d1 (rk_cpy d0 o0 xs.toNatClampNeg xd.toNatClampNeg xn.toNatClampNeg o1) j) _
                rw [rk_cpy_look]
                split
                · next q => rw [pk_cpy_in q.1 q.2]; exact hf _
                · next q => rw [pk_cpy_out (by omega)]; exact hg _⟩
              refine kk _ (List.mem_singleton.mpr rfl) vals _ H1 locs1 ls _ lc hG1 hl ?_ ?_
              · rw [rk_map_set hw1]; exact hL
              · rw [rk_map_set hw1]; exact hS
            · cases h
          · next n dp sp n0 d0 o0 n1 d1 o1 hn hdp hsp hj0 hj1 =>
            split at h
            · next hc =>
              cases h
              obtain ⟨xn, rfl, qn, rfl⟩ := rk_num_ok hG.1 gn hn
              obtain ⟨xd, rfl, qd, rfl⟩ := rk_num_ok hG.1 gd hdp
              obtain ⟨xs, rfl, qs, rfl⟩ := rk_num_ok hG.1 gs hsp
              obtain ⟨e0, hw0, cA0, hA01, hA02, f, rfl, hf⟩ := hG.cell hj0 hj0x
              obtain ⟨e1, hw1, cA1, hA11, hA12, g, rfl, hg⟩ := hG.cell hj1 hj1x
              have hK2 : va_K D cl [(cA0, .long), (cA1, .long)] s := (rk_K1 hK hA01 hA02).app (rk_K1 hK hA11 hA12)
              refine va_copyl (ty := .long) hx hb (by rw [hml]; exact hl.1.symm) hown (hts _ w1) (hts _ w2) (hts _ w3) (hts _ w4) hK2 hG.2.2.1 hG.2.2.2.1 hG.2.2.2.2.1 j0 j1 0 1 hw0 hw1 rfl rfl rfl qs qd qn hc.1 hc.2 (fun _ _ => rfl) hfr hlr hdg (fun H1 locs1 hP1 hD1 hS1 => ?_)
              have hG1 := hG.setc (c' := .inr (.long, n1, d1, rk_cpy d0 o0 xs.toNatClampNeg xd.toNatClampNeg xn.toNatClampNeg o1)) hw1 hP1 hD1 hS1 ⟨cA1, hA11, hA12, _, rfl, fun j => by
                show rk_g vals (ws.map Prod.fst) (rk_look d1 (rk_cpy d0 o0 xs.toNatClampNeg xd.toNatClampNeg xn.toNatClampNeg o1) j) _
                rw [rk_cpy_look]
                split
                · next q => rw [pk_cpy_in q.1 q.2]; exact hf _
                · next q => rw [pk_cpy_out (by omega)]; exact hg _⟩
              refine kk _ (List.mem_singleton.mpr rfl) vals _ H1 locs1 ls _ lc hG1 hl ?_ ?_
              · rw [rk_map_set hw1]; exact hL
              · rw [rk_map_set hw1]; exact hS
            · cases h
          · cases h
        · cases h
      · cases h
    · cases h
  all_goals (simp [rk_copy] at h)
end RKC
end
section
/-! ===== rk: Math.max, min, abs are sound ===== -/
theorem rk_s_max : rk_sound2 (fun x y => if x < y then y else x) rk_imax := by
  intro x y I J h1 h2 h3 h4
  unfold rk_imax
  dsimp only
  split
  · next h =>
    have := Int32.lt_iff_toInt_lt.mp h
    omega
  · next h =>
    have : ¬ x.toInt < y.toInt := fun q => h (Int32.lt_iff_toInt_lt.mpr q)
    omega
theorem rk_s_min : rk_sound2 (fun x y => if y < x then y else x) rk_imin := by
  intro x y I J h1 h2 h3 h4
  unfold rk_imin
  dsimp only
  split
  · next h =>
    have := Int32.lt_iff_toInt_lt.mp h
    omega
  · next h =>
    have : ¬ y.toInt < x.toInt := fun q => h (Int32.lt_iff_toInt_lt.mpr q)
    omega
section RKMA
variable {p : Program} {l : Launch} {e : Env} {R : Room} {s : State} {m : MethodId} {args : Array Value} {below : List Frame} {meth : Method} {c : Code} {Q : State → Prop} {cc : ByteArray} {D : va_G} {cl : List vw_C} {Ad : Nat → Prop} {nL : Nat} {vals0 : List Value} {ads0 : List Nat}
variable {tbl xw : List Jvm.Cond} {fty : rk_F} {cln : List String} {own : String} {lk : List (Nat × Nat × Nat × Nat)} {cs : List (Nat × Value)}
set_option maxHeartbeats 4000000 in
theorem rk_math_ok (hx : p.tables.exec = Jvm.exec) (hb : c.code = cc) (hml : c.maxLocals = nL) (hF : rk_Fr s m args meth D cl Ad tbl xw fty cln own lk cs) (hfr : 1 ≤ R.frames) (hlo : 40 ≤ R.locals) {pc : Nat} {ins : Instr} {len : Nat} {st : rk_S} {res : List (Nat × rk_S)} (hdg : decode cc pc = .ok (ins, len)) (hlen : rk_len ins len = true) (h : rk_math lk pc ins st = some res) (hroom : ∀ q ∈ res, q.2.2.2.2.2.1 ≤ R.cells ∧ q.2.2.2.2.2.2 ≤ R.slots) (kk : ∀ q ∈ res, rk_W (rk_KW p l e R s m args below meth c Q) s D cl Ad nL vals0 ads0 q.1 q.2) : rk_W (rk_KW p l e R s m args below meth c Q) s D cl Ad nL vals0 ads0 pc st := by
  obtain ⟨hts, hxw, hown, hK, hA, hcl, hlk, hini, hac, hcs⟩ := hF
  obtain ⟨lo, sk, env, hp, nc, ns⟩ := st
  intro vals ws H locs ls stk lc hG hl hL hS
  dsimp only at hG hL hS ⊢
  cases ins
  case invokestatic idx =>
    simp [rk_len] at hlen; subst hlen
    simp only [rk_math] at h
    split at h
    · next a0 a1 hlk1 =>
      obtain ⟨w1, w2, w3, w4⟩ := hlk _ (rk_lk_mem hlk1)
      split at h
      · next b a r =>
        split at h
        · next hsum =>
          unfold rk_op2 at h
          split at h
          · next q hq =>
            cases h
            obtain ⟨vb, k1, rfl, gb, hSn⟩ := hS.cons; clear hS; have hS := hSn; clear hSn
            obtain ⟨va, k2, rfl, ga, hSn⟩ := hS.cons; clear hS; have hS := hSn; clear hSn
            rw [rk_sum_ok hG.1 hS] at hsum
            obtain ⟨x, y, k3, rfl, rfl, hE2, hg2⟩ := rk_bin_ok rk_s_max hG.1 ga gb hq
            have hrm := hroom _ (List.mem_singleton.mpr rfl)
            refine va_mmax hx hb (by rw [hml]; exact hl.1.symm) hown (hts _ w1) (hts _ w2) (hts _ w3) (hts _ w4) hfr (by omega) hrm.1 hrm.2 hdg ?_
            exact kk _ (List.mem_singleton.mpr rfl) (vals ++ k3) ws H locs ls _ lc (hG.env hE2) hl (hL.grow k3) ⟨hg2, rk_skG hS k3⟩
          · cases h
        · cases h
      · cases h
    · next a0 a1 hlk1 =>
      obtain ⟨w1, w2, w3, w4⟩ := hlk _ (rk_lk_mem hlk1)
      split at h
      · next b a r =>
        split at h
        · next hsum =>
          unfold rk_op2 at h
          split at h
          · next q hq =>
            cases h
            obtain ⟨vb, k1, rfl, gb, hSn⟩ := hS.cons; clear hS; have hS := hSn; clear hSn
            obtain ⟨va, k2, rfl, ga, hSn⟩ := hS.cons; clear hS; have hS := hSn; clear hSn
            rw [rk_sum_ok hG.1 hS] at hsum
            obtain ⟨x, y, k3, rfl, rfl, hE2, hg2⟩ := rk_bin_ok rk_s_min hG.1 ga gb hq
            have hrm := hroom _ (List.mem_singleton.mpr rfl)
            refine va_mmin hx hb (by rw [hml]; exact hl.1.symm) hown (hts _ w1) (hts _ w2) (hts _ w3) (hts _ w4) hfr (by omega) hrm.1 hrm.2 hdg ?_
            exact kk _ (List.mem_singleton.mpr rfl) (vals ++ k3) ws H locs ls _ lc (hG.env hE2) hl (hL.grow k3) ⟨hg2, rk_skG hS k3⟩
          · cases h
        · cases h
      · cases h
    · next a0 a1 hlk1 =>
      obtain ⟨w1, w2, w3, w4⟩ := hlk _ (rk_lk_mem hlk1)
      split at h
      · next b a r =>
        split at h
        · next hsum =>
          unfold rk_op2 at h
          split at h
          · next q hq =>
            cases h
            obtain ⟨vb, k1, rfl, gb, hSn⟩ := hS.cons; clear hS; have hS := hSn; clear hSn
            obtain ⟨va, k2, rfl, ga, hSn⟩ := hS.cons; clear hS; have hS := hSn; clear hSn
            rw [rk_sum_ok hG.1 hS] at hsum
            obtain ⟨x, y, k3, rfl, rfl, hE2, hg2⟩ := rk_lbin_ok hG.1 ga gb hq
            have hrm := hroom _ (List.mem_singleton.mpr rfl)
            refine va_mmax_long hx hb (by rw [hml]; exact hl.1.symm) hown (hts _ w1) (hts _ w2) (hts _ w3) (hts _ w4) hfr (by omega) hrm.1 hrm.2 hdg ?_
            exact kk _ (List.mem_singleton.mpr rfl) (vals ++ k3) ws H locs ls _ lc (hG.env hE2) hl (hL.grow k3) ⟨hg2, rk_skG hS k3⟩
          · cases h
        · cases h
      · cases h
    · next a0 a1 hlk1 =>
      obtain ⟨w1, w2, w3, w4⟩ := hlk _ (rk_lk_mem hlk1)
      split at h
      · next a r =>
        split at h
        · next hsum =>
          unfold rk_op2 at h
          split at h
          · next q hq =>
            cases h
            obtain ⟨va, k2, rfl, ga, hSn⟩ := hS.cons; clear hS; have hS := hSn; clear hSn
            rw [rk_sum_ok hG.1 hS] at hsum
            obtain ⟨x, k3, rfl, hE2, hg2⟩ := rk_un_ok (fun x => rk_full_ok _) hG.1 ga hq
            have hrm := hroom _ (List.mem_singleton.mpr rfl)
            refine va_mabs hx hb (by rw [hml]; exact hl.1.symm) hown (hts _ w1) (hts _ w2) (hts _ w3) (hts _ w4) hfr (by omega) hrm.1 hrm.2 hdg ?_
            exact kk _ (List.mem_singleton.mpr rfl) (vals ++ k3) ws H locs ls _ lc (hG.env hE2) hl (hL.grow k3) ⟨hg2, rk_skG hS k3⟩
          · cases h
        · cases h
      · cases h
    · cases h
  all_goals (simp [rk_math] at h)
end RKMA
end
section
section RKL
variable {p : Program} {l : Launch} {e : Env} {R : Room} {s : State} {m : MethodId} {args : Array Value} {below : List Frame} {meth : Method} {c : Code} {Q : State → Prop} {cc : ByteArray} {D : va_G} {cl : List vw_C} {Ad : Nat → Prop} {nL : Nat} {vals0 : List Value} {ads0 : List Nat}
variable {xt : rk_XT} {tbl xw : List Jvm.Cond} {fty : rk_F} {cln : List String} {MN : List rk_N} {mci : List Nat} {P : List rk_M2} {own : String} {lk : List (Nat × Nat × Nat × Nat)} {cs : List (Nat × Value)}
/-- the calls are sound, d frames deep -/
def rk_SC (l : Launch) (D : va_G) (cl : List vw_C) (tbl xw : List Jvm.Cond) (xt : rk_XT) (MN : List rk_N) (P : List rk_M2) (d : Nat) (call : Nat → List rk_V → List rk_T → List rk_H → Option rk_O) : Prop :=
  ∀ (f : Nat) (as : List rk_V) (env : List rk_T) (hp : List rk_H) (o : rk_O), call f as env hp = some o → ∀ (q : rk_N), MN[f]? = some q → ∃ M, P[f]? = some M ∧ M.2.1 ≤ 21 ∧ ∀ (vals : List Value) (ws : va_W) (av : List Value) (sz : Nat), rk_E env vals → rk_A2 (rk_g vals (ws.map Prod.fst)) as av →
    Met l q.2.1 (Jvm.Cond.code q.2.1 q.2.2 M.2.1 M.2.2.2.2.1 :: tbl) { frames := d, cells := o.1, slots := o.2.1, locals := 40 * d } (rk_Pre D cl xw xt vals ws hp sz av) (rk_Post D cl o.2.2 vals (ws.map Prod.fst) (va_A ws sz)) o.1 o.2.1 (va_A ws sz)
theorem rk_good {y : MethodName} {b : ByteArray} {n : Nat} {ret : Option FieldType} (hg : ∀ w ∈ tbl, goodWord w = true) (hc : Jvm.Cond.code y b n ret ∈ tbl) : GoodIn tbl (Jvm.Cond.code y b n ret :: tbl) := by
  intro w hw
  rcases List.mem_cons.mp hw with rfl | hw
  · exact ⟨hc, good_of_word (hg _ hc)⟩
  · exact ⟨hw, good_of_word (hg _ hw)⟩
theorem rk_pre {vals : List Value} {ws : va_W} {H : Heap} {locs : List Loc} {env : List rk_T} {hp : List rk_H} {av : List Value} (hxo : rk_xok xw) (hxw : ∀ w ∈ xw, va_Nw w s) (hxt : rk_xtok xt) (hXt : xt vals0 Ad s s.heap) (hA : ∀ q, s.heap.size ≤ q → Ad q) (hK : va_K D cl [] s) (hG : rk_G s D cl Ad vals0 ads0 vals ws H locs env hp) (U : State) (hU : U.heap = H) (hW : s.WarmedH U.vm) : rk_Pre D cl xw xt vals ws hp H.size av av.toArray U :=
  ⟨rfl, by rw [hU], by rw [hU]; exact hG.2.2.1, va_K.moved hW.alike hK, hG.2.2.2.1.weaken (fun _ _ _ _ => trivial), hG.2.1.mono (fun _ _ h => h.moved hW.alike), rk_xw_warm hxo hW hxw, by
    obtain ⟨x1, x2, x3, x4⟩ := hxt
    obtain ⟨k, hk⟩ := hG.2.2.2.2.2.1
    rw [hU, hk]
    refine x3 _ _ _ _ _ hW (x1 _ _ _ _ _ (x4 _ _ _ _ _ _ hXt (fun a ha hn => hG.2.2.2.2.1.2.1 a ha hn) ?_))
    rintro q (⟨k, e1, hk⟩ | hq)
    · exact hG.2.2.2.1.2 k _ hk
    · exact hA q (Nat.le_trans hG.2.2.2.2.1.1 hq)⟩
theorem rk_after_ne {o : rk_O} {pc : Nat} {lo : List (Nat × rk_V)} {r : List rk_V} {nc ns : Nat} {res : List (Nat × rk_S)} (h : rk_after (some o) pc lo r nc ns = some res) : ∃ q ∈ res, q.2.2.2.2.2.1 = nc + o.1 ∧ q.2.2.2.2.2.2 = ns + o.2.1 := by
  unfold rk_after at h
  dsimp only at h
  split at h
  · cases h
  · next hne =>
    cases h
    cases hl : o.2.2 with
    | nil => rw [hl] at hne; exact absurd rfl hne
    | cons x r => exact ⟨_, List.mem_cons_self, rfl, rfl⟩
set_option maxHeartbeats 4000000 in
theorem rk_call_ok (hxt : rk_xtok xt) (hXt : xt vals0 Ad s s.heap) (hok : rk_ok tbl xw cl fty cln MN mci P) (hx : p.tables.exec = Jvm.exec) (hb : c.code = cc) (hml : c.maxLocals = nL) (hF : rk_Fr s m args meth D cl Ad tbl xw fty cln own lk cs) (hck : ∀ r ∈ lk, rk_cok tbl xw MN P own r) {d : Nat} {call : Nat → List rk_V → List rk_T → List rk_H → Option rk_O} (hcall : rk_SC l D cl tbl xw xt MN P d call) (hfr : d + 1 ≤ R.frames) (hlo : 40 * (d + 1) ≤ R.locals) {pc : Nat} {ins : Instr} {len : Nat} {st : rk_S} {res : List (Nat × rk_S)} (hdg : decode cc pc = .ok (ins, len)) (hlen : rk_len ins len = true) (h : rk_call mci call lk pc ins st = some res) (hroom : ∀ q ∈ res, q.2.2.2.2.2.1 ≤ R.cells ∧ q.2.2.2.2.2.2 ≤ R.slots) (kk : ∀ q ∈ res, rk_W (rk_KW p l e R s m args below meth c Q) s D cl Ad nL vals0 ads0 q.1 q.2) : rk_W (rk_KW p l e R s m args below meth c Q) s D cl Ad nL vals0 ads0 pc st := by
  obtain ⟨hgw, hxo, -, -, hlenM, hmok, hmci⟩ := hok
  obtain ⟨hts, hxw, hown, hK, hA, hcl, hlk, hini, hac, hcs⟩ := hF
  obtain ⟨lo, sk, env, hp, nc, ns⟩ := st
  intro vals ws H locs ls stk lc hG hl hL hS
  dsimp only at hG hL hS ⊢
  have hfix : CallFix p m c cc nL s args tbl own := ⟨hx, hb, hml, hown, hts⟩
  cases ins
  case invokevirtual idx =>
    simp [rk_len] at hlen; subst hlen
    simp only [rk_call] at h
    split at h
    · next kd f n hlk1 =>
      split at h
      · next hkd =>
        split at h
        · next as j r hpop =>
          split at h
          · next o1 hj =>
            split at h
            · next hcnd =>
              cases hcl1 : call f (.inr (.inl j) :: as) env hp with
              | none => rw [hcl1] at h; cases h
              | some o =>
                rw [hcl1] at h
                obtain ⟨v2, r2, ha1, hr1, rfl, hn⟩ := rk_pop_ok n hpop (show rk_A2 (rk_g vals (ws.map Prod.fst)) [] [] from trivial) hS
                rw [List.append_nil] at ha1
                obtain ⟨vr, rest, rfl, hgr, hS1⟩ := hr1.cons
                obtain ⟨x, hjx, rfl⟩ := id hgr
                obtain ⟨e1, hw, vs, rfl, hvs⟩ := hG.cell hj hjx
                have hck1 := hck _ (rk_lk_mem hlk1)
                obtain ⟨qr, hqr, hr1, hr2⟩ := rk_after_ne h
                have hrm := hroom qr hqr
                rw [hr1, hr2] at hrm
                have hsum := hcnd.2
                rw [rk_sum_ok hG.1 hS1] at hsum
                rcases hkd with rfl | rfl
                · obtain ⟨q, hq, w1, w2, w3, w4⟩ := hck1
                  obtain ⟨M, hM, hM21, hmet⟩ := hcall f _ _ _ _ hcl1 q hq
                  obtain ⟨m1, m2, m3, m4, m5, -⟩ := hmok f q M hq hM
                  obtain ⟨kq, hkq, -⟩ := hG.2.2.1 j _ hw
                  have hkn := hmci f o1.1 q kq hcnd.1 hq hkq
                  have hrecv := va_recv hK hG.2.2.1 hkq hw
                  rw [hkn] at hrecv
                  refine rk_back (as := (Value.ref x :: v2).toArray) hA hG hl hL hS1 ?_ h kk
                  exact va_runV (C := q.1) hfix (hmet vals ws (.ref x :: v2) H.size hG.1 ⟨hgr, ha1⟩) ⟨callB_of n hts (rk_good hgw m4) rfl rfl rfl (hts _ m5) (hts _ w1) ⟨m3.1, m3.2, w4⟩ ⟨hfr, by show 8 + (M.2.1 + 11) + 40 * d ≤ R.locals; omega⟩, hts _ w2, hts _ w3⟩ ⟨rk_blind hxo hxt, hrecv, fun U hU hW => rk_pre hxo hxw hxt hXt hA hK hG U hU hW⟩ rfl hn hl.1 rfl (lv_room hsum) hdg hrm
                · obtain ⟨q, host, hq, w1, w2, w3, w4⟩ := hck1
                  obtain ⟨M, hM, hM21, hmet⟩ := hcall f _ _ _ _ hcl1 q hq
                  obtain ⟨m1, m2, m3, m4, m5, -⟩ := hmok f q M hq hM
                  obtain ⟨kq, hkq, -⟩ := hG.2.2.1 j _ hw
                  have hkn := hmci f o1.1 q kq hcnd.1 hq hkq
                  have hrecv := va_recv hK hG.2.2.1 hkq hw
                  rw [hkn] at hrecv
                  refine rk_back (as := (Value.ref x :: v2).toArray) hA hG hl hL hS1 ?_ h kk
                  exact va_runVN (C := q.1) hfix (hmet vals ws (.ref x :: v2) H.size hG.1 ⟨hgr, ha1⟩) ⟨va_cnB n hts (rk_good hgw m4) rfl rfl rfl (hxw _ w1) (hts _ m5) ⟨m3.1, m3.2, w4⟩ ⟨hfr, by show 8 + (M.2.1 + 11) + 40 * d ≤ R.locals; omega⟩, hts _ w2, hts _ w3⟩ ⟨rk_blind hxo hxt, hrecv, fun U hU hW => rk_pre hxo hxw hxt hXt hA hK hG U hU hW⟩ rfl hn hl.1 rfl (lv_room hsum) hdg hrm
            · cases h
          · cases h
        · cases h
      · cases h
    · cases h
  case invokestatic idx =>
    simp [rk_len] at hlen; subst hlen
    simp only [rk_call] at h
    split at h
    · next kd f n hlk1 =>
      split at h
      · next hkd =>
        split at h
        · next as r hpop =>
          split at h
          · next hcnd =>
            cases hcl1 : call f as env hp with
            | none => rw [hcl1] at h; cases h
            | some o =>
              rw [hcl1] at h
              obtain ⟨v2, rest, ha1, hS1, rfl, hn⟩ := rk_pop_ok n hpop (show rk_A2 (rk_g vals (ws.map Prod.fst)) [] [] from trivial) hS
              rw [List.append_nil] at ha1
              have hck1 := hck _ (rk_lk_mem hlk1)
              obtain ⟨qr, hqr, hr1, hr2⟩ := rk_after_ne h
              have hrm := hroom qr hqr
              rw [hr1, hr2] at hrm
              have hsum := hcnd
              rw [rk_sum_ok hG.1 hS1] at hsum
              rcases hkd with rfl | rfl
              · obtain ⟨q, hq, w1, w2, w4⟩ := hck1
                obtain ⟨M, hM, hM21, hmet⟩ := hcall f _ _ _ _ hcl1 q hq
                obtain ⟨m1, m2, m3, m4, m5, -⟩ := hmok f q M hq hM
                refine rk_back (as := v2.toArray) hA hG hl hL hS1 ?_ h kk
                exact va_runS hfix (hmet vals ws v2 H.size hG.1 ha1) ⟨callB_of n hts (rk_good hgw m4) rfl rfl rfl (hts _ m5) (hts _ w1) ⟨m3.1, m3.2, w4⟩ ⟨hfr, by show 8 + (M.2.1 + 11) + 40 * d ≤ R.locals; omega⟩, hts _ w2⟩ ⟨rk_blind hxo hxt, fun U hU hW => rk_pre hxo hxw hxt hXt hA hK hG U hU hW⟩ rfl hn hl.1 rfl (lv_room hsum) hdg hrm
              · obtain ⟨q, host, hq, w1, w2, w4⟩ := hck1
                obtain ⟨M, hM, hM21, hmet⟩ := hcall f _ _ _ _ hcl1 q hq
                obtain ⟨m1, m2, m3, m4, m5, -⟩ := hmok f q M hq hM
                refine rk_back (as := v2.toArray) hA hG hl hL hS1 ?_ h kk
                exact va_runSN hfix (hmet vals ws v2 H.size hG.1 ha1) ⟨va_cnB n hts (rk_good hgw m4) rfl rfl rfl (hxw _ w1) (hts _ m5) ⟨m3.1, m3.2, w4⟩ ⟨hfr, by show 8 + (M.2.1 + 11) + 40 * d ≤ R.locals; omega⟩, hts _ w2, trivial⟩ ⟨rk_blind hxo hxt, fun U hU hW => rk_pre hxo hxw hxt hXt hA hK hG U hU hW⟩ rfl hn hl.1 rfl (lv_room hsum) hdg hrm
          · cases h
        · cases h
      · cases h
    · cases h
  case invokespecial idx =>
    simp [rk_len] at hlen; subst hlen
    simp only [rk_call] at h
    split at h
    · next kd f n hlk1 =>
      split at h
      · next hkd =>
        split at h
        · next as j r hpop =>
          split at h
          · next hcnd =>
            cases hcl1 : call f (.inr (.inl j) :: as) env hp with
            | none => rw [hcl1] at h; cases h
            | some o =>
              rw [hcl1] at h
              obtain ⟨v2, r2, ha1, hr1, rfl, hn⟩ := rk_pop_ok n hpop (show rk_A2 (rk_g vals (ws.map Prod.fst)) [] [] from trivial) hS
              rw [List.append_nil] at ha1
              obtain ⟨vr, rest, rfl, hgr, hS1⟩ := hr1.cons
              obtain ⟨x, hjx, rfl⟩ := id hgr
              have hck1 := hck _ (rk_lk_mem hlk1)
              obtain ⟨qr, hqr, hr1, hr2⟩ := rk_after_ne h
              have hrm := hroom qr hqr
              rw [hr1, hr2] at hrm
              have hsum := hcnd
              rw [rk_sum_ok hG.1 hS1] at hsum
              rcases hkd with rfl | rfl
              · obtain ⟨q, hq, w0, w1, w2, w3, w4⟩ := hck1
                obtain ⟨M, hM, hM21, hmet⟩ := hcall f _ _ _ _ hcl1 q hq
                obtain ⟨m1, m2, m3, m4, m5, -⟩ := hmok f q M hq hM
                refine rk_back (as := (Value.ref x :: v2).toArray) hA hG hl hL hS1 ?_ h kk
                have hret : M.2.2.2.2.1 = none := w0 M hM
                rw [hret] at hmet m4
                exact va_runI hfix (hmet vals ws (.ref x :: v2) H.size hG.1 ⟨hgr, ha1⟩) ⟨callB_of n hts (rk_good hgw m4) rfl rfl rfl (hts _ m5) (hts _ w1) ⟨m3.1, m3.2, w4⟩ ⟨hfr, by show 8 + (M.2.1 + 11) + 40 * d ≤ R.locals; omega⟩, w3, hts _ w2⟩ ⟨rk_blind hxo hxt, fun U hU hW => rk_pre hxo hxw hxt hXt hA hK hG U hU hW⟩ rfl hn hl.1 rfl (lv_room hsum) hdg hrm
              · obtain ⟨q, host, hq, w0, w1, w2, w3, w4⟩ := hck1
                obtain ⟨M, hM, hM21, hmet⟩ := hcall f _ _ _ _ hcl1 q hq
                obtain ⟨m1, m2, m3, m4, m5, -⟩ := hmok f q M hq hM
                refine rk_back (as := (Value.ref x :: v2).toArray) hA hG hl hL hS1 ?_ h kk
                have hret : M.2.2.2.2.1 = none := w0 M hM
                rw [hret] at hmet m4
                exact va_runIN hfix (hmet vals ws (.ref x :: v2) H.size hG.1 ⟨hgr, ha1⟩) ⟨va_cnB n hts (rk_good hgw m4) rfl rfl rfl (hxw _ w1) (hts _ m5) ⟨m3.1, m3.2, w4⟩ ⟨hfr, by show 8 + (M.2.1 + 11) + 40 * d ≤ R.locals; omega⟩, w3, hts _ w2⟩ ⟨rk_blind hxo hxt, fun U hU hW => rk_pre hxo hxw hxt hXt hA hK hG U hU hW⟩ rfl hn hl.1 rfl (lv_room hsum) hdg hrm
          · cases h
        · cases h
      · split at h
        · next hkd =>
          subst hkd
          split at h
          · next j r =>
            split at h
            · next hcnd =>
              cases h
              obtain ⟨va, k1, rfl, ⟨x, hjx, rfl⟩, hSn⟩ := hS.cons; clear hS; have hS := hSn; clear hSn
              obtain ⟨w1, w2, w3⟩ := hck _ (rk_lk_mem hlk1)
              have hsum := hcnd
              rw [rk_sum_ok hG.1 hS] at hsum
              have hlr := lv_room (m := m) (pc := pc) (ls := ls) (rest := .ref x :: k1) hsum
              refine W.objInit hx hb hown (hts _ w1) (hts _ w2) (hts _ w3) rfl (by rw [hml]; exact hl.1) rfl hdg (by omega) (by omega) ?_
              exact kk _ (List.mem_singleton.mpr rfl) vals ws H locs ls _ lc hG hl hL hS
            · cases h
          · cases h
        · cases h
    · cases h
  all_goals (simp [rk_call] at h)
end RKL
end
section
/-! ===== rk: a call that sees a part of the world alone ===== -/
theorem rk_Met_imp {l : Launch} {y : MethodName} {ws : List Jvm.Cond} {rm : Room} {Pc Pc' : Array Value → State → Prop} {Qc Qc' : Array Value → State → Outcome → State → Prop} {mc ms : Nat} {free free' : Addr → Prop} (h : Met l y ws rm Pc Qc mc ms free) (h1 : ∀ a U, Pc' a U → Pc a U) (h2 : ∀ a st o t, Pc' a st → st.WarmedH t.vm → Qc a st o t → Qc' a st o t) (h3 : ∀ q, free q → free' q) : Met l y ws rm Pc' Qc' mc ms free' := by
  unfold Met at h ⊢
  refine MetFree.mono h h1 (fun _ _ _ _ _ z => z) (fun a st o t hP hQ => ?_)
  obtain ⟨hQ1, L, hL, hLf⟩ := hQ
  exact ⟨h2 a st o t hP hL.2.1 hQ1, L, hL, fun q hq => h3 _ (hLf q hq)⟩
theorem rk_look_map (g : rk_V → rk_V) (d : rk_V) (j : Nat) : ∀ ov : List (Nat × rk_V), rk_look (g d) (ov.map (fun z => (z.1, g z.2))) j = g (rk_look d ov j)
  | [] => rfl
  | q :: r => by
    show (if q.1 = j then g q.2 else rk_look (g d) (r.map (fun z => (z.1, g z.2))) j) = g (if q.1 = j then q.2 else rk_look d r j)
    by_cases e : q.1 = j
    · rw [if_pos e, if_pos e]
    · rw [if_neg e, if_neg e]
      exact rk_look_map g d j r
theorem rk_look_all {P : rk_V → Bool} {d : rk_V} (hd : P d = true) (j : Nat) : ∀ {ov : List (Nat × rk_V)}, ov.all (fun z => P z.2) = true → P (rk_look d ov j) = true
  | [], _ => hd
  | q :: r, h => by
    simp only [List.all_cons, Bool.and_eq_true] at h
    show P (if q.1 = j then q.2 else rk_look d r j) = true
    by_cases e : q.1 = j
    · rw [if_pos e]; exact h.1
    · rw [if_neg e]; exact rk_look_all hd j h.2
theorem rk_A2.mapL {α β : Type} {R R' : α → β → Prop} {g : α → α} {P : α → Bool} (H : ∀ a b, P a = true → R a b → R' (g a) b) : ∀ {l : List α} {l' : List β}, l.all P = true → rk_A2 R l l' → rk_A2 R' (l.map g) l' := by
  intro l
  induction l with
  | nil => intro l' _ h; rw [h.nil]; trivial
  | cons a l ih =>
    intro l' hp h
    obtain ⟨b, k, rfl, h1, h2⟩ := h.cons
    simp only [List.all_cons, Bool.and_eq_true] at hp
    exact ⟨H a b hp.1 h1, ih hp.2 h2⟩
theorem rk_A2.imp {α β : Type} {R R' : α → β → Prop} {P : α → Bool} (H : ∀ a b, P a = true → R a b → R' a b) : ∀ {l : List α} {l' : List β}, l.all P = true → rk_A2 R l l' → rk_A2 R' l l' := by
  intro l
  induction l with
  | nil => intro l' _ h; rw [h.nil]; trivial
  | cons a l ih =>
    intro l' hp h
    obtain ⟨b, k, rfl, h1, h2⟩ := h.cons
    simp only [List.all_cons, Bool.and_eq_true] at hp
    exact ⟨H a b hp.1 h1, ih hp.2 h2⟩
theorem rk_A2.drop {α β : Type} {R : α → β → Prop} : ∀ (n : Nat) {l : List α} {l' : List β}, rk_A2 R l l' → rk_A2 R (l.drop n) (l'.drop n)
  | 0, _, _, h => h
  | n + 1, [], _, h => by rw [h.nil]; trivial
  | n + 1, a :: l, _, h => by
    obtain ⟨b, k, rfl, h1, h2⟩ := h.cons
    exact rk_A2.drop n h2
theorem rk_A2.take {α β : Type} {R : α → β → Prop} : ∀ (n : Nat) {l : List α} {l' : List β}, rk_A2 R l l' → rk_A2 R (l.take n) (l'.take n)
  | 0, _, _, h => by simp [rk_A2]
  | n + 1, [], _, h => by rw [h.nil]; trivial
  | n + 1, a :: l, _, h => by
    obtain ⟨b, k, rfl, h1, h2⟩ := h.cons
    exact ⟨h1, rk_A2.take n h2⟩
theorem rk_c.map {U : State} {vals : List Value} {ads ads' : List Nat} {g : rk_V → rk_V} {P : rk_V → Bool} (H : ∀ a v, P a = true → rk_g vals ads a v → rk_g vals ads' (g a) v) {c : rk_H} {e : va_E} (hp : rk_alc P c = true) (h : rk_c U vals ads c e) : rk_c U vals ads' (rk_mpc g c) e := by
  rcases c with o | ⟨ty, n, d, ov⟩
  · obtain ⟨vs, e1, h1⟩ := h
    exact ⟨vs, e1, rk_A2.mapL H hp h1⟩
  · obtain ⟨cA, h1, h2, h3⟩ := h
    simp only [rk_alc, Bool.and_eq_true] at hp
    have key : ∀ j v, rk_g vals ads (rk_look d ov j) v → rk_g vals ads' (rk_look (g d) (ov.map (fun z => (z.1, g z.2))) j) v := fun j v hv => by
      rw [rk_look_map]
      exact H _ _ (rk_look_all hp.1 j hp.2) hv
    refine ⟨cA, h1, h2, ?_⟩
    cases ty <;> first
      | exact False.elim h3
      | (obtain ⟨f, e1, h4⟩ := h3; exact ⟨f, e1, fun j => key j _ (h4 j)⟩)
theorem rk_c.same {U : State} {vals : List Value} {ads ads' : List Nat} {P : rk_V → Bool} (H : ∀ a v, P a = true → rk_g vals ads a v → rk_g vals ads' a v) {c : rk_H} {e : va_E} (hp : rk_alc P c = true) (h : rk_c U vals ads c e) : rk_c U vals ads' c e := by
  rcases c with o | ⟨ty, n, d, ov⟩
  · obtain ⟨vs, e1, h1⟩ := h
    exact ⟨vs, e1, rk_A2.imp H hp h1⟩
  · obtain ⟨cA, h1, h2, h3⟩ := h
    simp only [rk_alc, Bool.and_eq_true] at hp
    refine ⟨cA, h1, h2, ?_⟩
    cases ty <;> first
      | exact False.elim h3
      | (obtain ⟨f, e1, h4⟩ := h3; exact ⟨f, e1, fun j => H _ _ (rk_look_all hp.1 j hp.2) (h4 j)⟩)
theorem rk_alc_tt (c : rk_H) : rk_alc (fun _ => true) c = true := by
  rcases c with c | c
  · exact List.all_eq_true.mpr (fun _ _ => rfl)
  · exact Bool.and_eq_true_iff.mpr ⟨rfl, List.all_eq_true.mpr (fun _ _ => rfl)⟩
theorem rk_g_up {vals : List Value} {adsA adsB : List Nat} {n : Nat} (hn : adsA.length = n) (a : rk_V) (v : Value) (_ : (fun _ : rk_V => true) a = true) (h : rk_g vals adsB a v) : rk_g vals (adsA ++ adsB) (rk_up n a) v := by
  rcases a with w | j | k | k
  · exact h
  · obtain ⟨x, hx, rfl⟩ := h
    exact ⟨x, by rw [List.getElem?_append_right (by omega), show j + n - adsA.length = j by omega]; exact hx, rfl⟩
  · exact h
  · exact h
theorem rk_g_dn {vals : List Value} {ads : List Nat} {n : Nat} (a : rk_V) (v : Value) (hg : rk_ge n a = true) (h : rk_g vals ads a v) : rk_g vals (ads.drop n) (rk_dn n a) v := by
  rcases a with w | j | k | k
  · exact h
  · obtain ⟨x, hx, rfl⟩ := h
    have hj : n ≤ j := of_decide_eq_true hg
    exact ⟨x, by rw [List.getElem?_drop, show n + (j - n) = j by omega]; exact hx, rfl⟩
  · exact h
  · exact h
theorem rk_g_tk {vals : List Value} {ads : List Nat} {n : Nat} (a : rk_V) (v : Value) (hg : rk_lt n a = true) (h : rk_g vals ads a v) : rk_g vals (ads.take n) a v := by
  rcases a with w | j | k | k
  · exact h
  · obtain ⟨x, hx, rfl⟩ := h
    have hj : j < n := of_decide_eq_true hg
    exact ⟨x, by rw [List.getElem?_take_of_lt hj]; exact hx, rfl⟩
  · exact h
  · exact h
theorem rk_nro_g {vals : List Value} {ads ads' : List Nat} {r : Option rk_V} {oc : Outcome} (hn : rk_nro r = true) (h : rk_ret r vals ads oc) : rk_ret r vals ads' oc := by
  rcases r with _ | a
  · exact h
  · obtain ⟨v, hg, e⟩ := h
    refine ⟨v, ?_, e⟩
    rcases a with w | j | k | k
    · exact hg
    · cases hn
    · exact hg
    · exact hg
section RKFR
variable {l : Launch} {D : va_G} {cl : List vw_C} {xt : rk_XT} {tbl xw : List Jvm.Cond} {MN : List rk_N} {P : List rk_M2}
theorem rk_P_drop {ws : va_W} {H : Heap} (n : Nat) (h : va_P D cl ws H) : va_P D cl (ws.drop n) H := fun k q hk => h (n + k) q (by rw [List.getElem?_drop] at hk; exact hk)
theorem rk_P_take {ws : va_W} {H : Heap} (n : Nat) (h : va_P D cl ws H) : va_P D cl (ws.take n) H := fun k q hk => h k q (by
  have hk1 : k < n := by
    have := (List.getElem?_eq_some_iff.mp hk).1
    rw [List.length_take] at this
    omega
  rw [List.getElem?_take_of_lt hk1] at hk
  exact hk)
theorem rk_D_drop {A : Nat → Prop} {ws : va_W} (n : Nat) (h : va_D A ws) : va_D A (ws.drop n) := ⟨fun i j p q hi hj e => by
    rw [List.getElem?_drop] at hi hj
    have := h.1 (n + i) (n + j) p q hi hj e
    omega, fun k q hk => h.2 (n + k) q (by rw [List.getElem?_drop] at hk; exact hk)⟩
theorem rk_tk {α : Type} {n k : Nat} {ws : List α} {q : α} (hk : (ws.take n)[k]? = some q) : k < n ∧ ws[k]? = some q := by
  have hk1 : k < n := by
    have := (List.getElem?_eq_some_iff.mp hk).1
    rw [List.length_take] at this
    omega
  rw [List.getElem?_take_of_lt hk1] at hk
  exact ⟨hk1, hk⟩
theorem rk_D_take {A : Nat → Prop} {ws : va_W} (n : Nat) (h : va_D A ws) : va_D A (ws.take n) := ⟨fun i j p q hi hj e => h.1 i j p q (rk_tk hi).2 (rk_tk hj).2 e, fun k q hk => h.2 k q (rk_tk hk).2⟩
set_option maxHeartbeats 4000000 in
theorem rk_suf_ok {call : Nat → List rk_V → List rk_T → List rk_H → Option rk_O} {d n : Nat} (hxt : rk_xtok xt) (hcall : rk_SC l D cl tbl xw xt MN P d call) : rk_SC l D cl tbl xw xt MN P d (rk_suf call n) := by
  intro f as env hp o h q hq
  unfold rk_suf at h
  split at h
  · next hc =>
    obtain ⟨hn, hc1, hc2⟩ := hc
    split at h
    · next o1 ho1 =>
      split at h
      · next hno =>
        cases h
        obtain ⟨M, hM, hM21, hmet⟩ := hcall f _ env _ o1 ho1 q hq
        refine ⟨M, hM, hM21, fun vals ws av sz hE hA2 => ?_⟩
        have hfree : ∀ q, va_A (ws.drop n) sz q → va_A ws sz q := by
          rintro q (⟨k, e1, hk⟩ | hq)
          · exact Or.inl ⟨n + k, e1, by rw [List.getElem?_drop] at hk; exact hk⟩
          · exact Or.inr hq
        refine rk_Met_imp (hmet vals (ws.drop n) av sz hE ?_) ?_ ?_ hfree
        · rw [List.map_drop]
          exact rk_A2.mapL (fun a v hP hg => rk_g_dn a v hP hg) hc1 hA2
        · rintro a U ⟨h1, h2, h3, h4, h5, h6, h7, h8⟩
          refine ⟨h1, h2, rk_P_drop n h3, h4, rk_D_drop n h5, ?_, h7, hxt.2.2.2 vals (va_A ws sz) (va_A (ws.drop n) sz) U U.heap U.heap h8 (fun _ _ _ => rfl) hfree⟩
          rw [List.map_drop]
          exact rk_A2.mapL (R := fun (c : rk_H) (q : Nat × va_E) => rk_c U vals (ws.map Prod.fst) c q.2) (R' := fun (c : rk_H) (q : Nat × va_E) => rk_c U vals ((ws.map Prod.fst).drop n) c q.2) (P := rk_alc (rk_ge n)) (fun c q hP hg => rk_c.map (fun a v => rk_g_dn a v) hP hg) hc2 (h6.drop n)
        · rintro a st oc t ⟨p1, p2, p3, p4, p5, p6, p7, p8⟩ hW ⟨⟨x, hx, vals', ws', ⟨kv, hv'⟩, ⟨k, hk⟩, hE', hC', hP', hD', hret⟩, hF⟩
          have hwl : n ≤ ws.length := by rw [← p6.len]; exact hn
          have hTl : (ws.take n).length = n := by rw [List.length_take]; omega
          have hads : (ws.take n ++ ws').map Prod.fst = ws.map Prod.fst ++ k := by rw [List.map_append, hk, ← List.append_assoc, ← List.map_append, List.take_append_drop]
          have hsz : ∀ (k9 : Nat) (z : Nat × va_E), ws[k9]? = some z → z.1 < sz := fun k9 z hz => by rw [← p2]; exact (p3 k9 z hz).lt
          have hout : ∀ (k9 : Nat) (z : Nat × va_E), (ws.take n)[k9]? = some z → ¬ va_A (ws.drop n) sz z.1 := by
            rintro k9 z hz (⟨k8, e8, hk8⟩ | hq8)
            · obtain ⟨a1, a2⟩ := rk_tk hz
              rw [List.getElem?_drop] at hk8
              have := p5.1 k9 (n + k8) z (z.1, e8) a2 hk8 rfl
              omega
            · have := hsz k9 z (rk_tk hz).2
              omega
          refine ⟨⟨_, List.mem_map.mpr ⟨x, hx, rfl⟩, vals', ws.take n ++ ws', ⟨kv, hv'⟩, ⟨k, hads⟩, hE', ?_, ?_, ?_, ?_⟩, hF.1, fun q9 h9 hn9 => hF.2 q9 h9 (fun z => hn9 (hfree q9 z))⟩
          · dsimp only
            rw [hads]
            refine rk_A2.app ?_ ((p6.take n).mono (fun c z hz => (hz.moved hW.alike).grow ⟨kv, hv'⟩ ⟨k, rfl⟩))
            rw [← hads, List.map_append]
            exact rk_A2.mapL (R := fun (c : rk_H) (q : Nat × va_E) => rk_c t vals' (ws'.map Prod.fst) c q.2) (R' := fun (c : rk_H) (q : Nat × va_E) => rk_c t vals' ((ws.take n).map Prod.fst ++ ws'.map Prod.fst) c q.2) (P := fun _ => true) (fun c z _ hz => rk_c.map (P := fun _ => true) (fun a v => rk_g_up (n := n) (by rw [List.length_map]; exact hTl) a v) (rk_alc_tt c) hz) (List.all_eq_true.mpr (fun _ _ => rfl)) hC'
          · exact ((rk_P_take n p3).kept (fun k9 z hz => hF.2 z.1 ((p3 k9 z (rk_tk hz).2).lt) (hout k9 z hz))).app hP'
          · refine va_D.app ((rk_D_take n p5).weaken (fun k9 z hz _ => Or.inl ⟨k9, z.2, (rk_tk hz).2⟩)) (hD'.weaken (fun _ _ _ z => hfree _ z)) (fun i j a1 a2 hi hj e9 => ?_)
            exact hout i a1 hi (e9 ▸ hD'.2 j a2 hj)
          · exact rk_nro_g (List.all_eq_true.mp hno x hx) hret
      · cases h
    · cases h
  · cases h
set_option maxHeartbeats 4000000 in
theorem rk_pfx_ok {call : Nat → List rk_V → List rk_T → List rk_H → Option rk_O} {d n : Nat} (hxt : rk_xtok xt) (hcall : rk_SC l D cl tbl xw xt MN P d call) : rk_SC l D cl tbl xw xt MN P d (rk_pfx call n) := by
  intro f as env hp o h q hq
  unfold rk_pfx at h
  split at h
  · next hc =>
    obtain ⟨hn, hc1, hc2⟩ := hc
    split at h
    · next o1 ho1 =>
      split at h
      · next hno =>
        cases h
        obtain ⟨M, hM, hM21, hmet⟩ := hcall f _ env _ o1 ho1 q hq
        refine ⟨M, hM, hM21, fun vals ws av sz hE hA2 => ?_⟩
        have hfree : ∀ q, va_A (ws.take n) sz q → va_A ws sz q := by
          rintro q (⟨k, e1, hk⟩ | hq)
          · exact Or.inl ⟨k, e1, (rk_tk hk).2⟩
          · exact Or.inr hq
        refine rk_Met_imp (hmet vals (ws.take n) av sz hE ?_) ?_ ?_ hfree
        · rw [List.map_take]
          exact rk_A2.imp (fun a v hP hg => rk_g_tk a v hP hg) hc1 hA2
        · rintro a U ⟨h1, h2, h3, h4, h5, h6, h7, h8⟩
          refine ⟨h1, h2, rk_P_take n h3, h4, rk_D_take n h5, ?_, h7, hxt.2.2.2 vals (va_A ws sz) (va_A (ws.take n) sz) U U.heap U.heap h8 (fun _ _ _ => rfl) hfree⟩
          rw [List.map_take]
          exact rk_A2.imp (R := fun (c : rk_H) (q : Nat × va_E) => rk_c U vals (ws.map Prod.fst) c q.2) (R' := fun (c : rk_H) (q : Nat × va_E) => rk_c U vals ((ws.map Prod.fst).take n) c q.2) (P := rk_alc (rk_lt n)) (fun c q hP hg => rk_c.same (fun a v => rk_g_tk a v) hP hg) hc2 (h6.take n)
        · rintro a st oc t ⟨p1, p2, p3, p4, p5, p6, p7, p8⟩ hW ⟨⟨x, hx, vals', ws', ⟨kv, hv'⟩, ⟨k, hk⟩, hE', hC', hP', hD', hret⟩, hF⟩
          have hwl : n ≤ ws.length := by rw [← p6.len]; exact hn
          have hTl : (ws.take n).length = n := by rw [List.length_take]; omega
          have hxl : x.2.2.1.length = n := of_decide_eq_true (List.all_eq_true.mp hno x hx)
          have hk0 : k = [] := by
            have h1 : ws'.length = n := by rw [← hC'.len]; exact hxl
            have h2 : (ws'.map Prod.fst).length = ((ws.take n).map Prod.fst ++ k).length := by rw [hk]
            rw [List.length_append, List.length_map, List.length_map, hTl, h1] at h2
            exact List.length_eq_zero_iff.mp (by omega)
          rw [hk0, List.append_nil] at hk
          have hads : (ws' ++ ws.drop n).map Prod.fst = ws.map Prod.fst := by rw [List.map_append, hk, ← List.map_append, List.take_append_drop]
          have hsz : ∀ (k9 : Nat) (z : Nat × va_E), ws[k9]? = some z → z.1 < sz := fun k9 z hz => by rw [← p2]; exact (p3 k9 z hz).lt
          have hout : ∀ (k9 : Nat) (z : Nat × va_E), (ws.drop n)[k9]? = some z → ¬ va_A (ws.take n) sz z.1 := by
            rintro k9 z hz (⟨k8, e8, hk8⟩ | hq8)
            · obtain ⟨a1, a2⟩ := rk_tk hk8
              rw [List.getElem?_drop] at hz
              have := p5.1 (n + k9) k8 z (z.1, e8) hz a2 rfl
              omega
            · rw [List.getElem?_drop] at hz
              have := hsz _ z hz
              omega
          refine ⟨⟨_, List.mem_map.mpr ⟨x, hx, rfl⟩, vals', ws' ++ ws.drop n, ⟨kv, hv'⟩, ⟨[], by rw [hads, List.append_nil]⟩, hE', ?_, ?_, ?_, ?_⟩, hF.1, fun q9 h9 hn9 => hF.2 q9 h9 (fun z => hn9 (hfree q9 z))⟩
          · dsimp only
            rw [hads]
            refine rk_A2.app ((p6.drop n).mono (fun c z hz => (hz.moved hW.alike).grow ⟨kv, hv'⟩ ⟨[], by simp⟩)) ?_
            exact hC'.mono (fun c z hz => hz.grow ⟨[], by simp⟩ ⟨(ws.drop n).map Prod.fst, by rw [hk, ← List.map_append, List.take_append_drop]⟩)
          · exact hP'.app ((rk_P_drop n p3).kept (fun k9 z hz => hF.2 z.1 ((rk_P_drop n p3 k9 z hz).lt) (hout k9 z hz)))
          · refine va_D.app (hD'.weaken (fun _ _ _ z => hfree _ z)) ((rk_D_drop n p5).weaken (fun k9 z hz _ => Or.inl ⟨n + k9, z.2, by rw [List.getElem?_drop] at hz; exact hz⟩)) (fun i j a1 a2 hi hj e9 => ?_)
            exact hout j a2 hj (e9 ▸ hD'.2 i a1 hi)
          · cases hr : x.1 with
            | none => rw [hr] at hret; exact hret
            | some r1 =>
              rw [hr] at hret
              obtain ⟨v, hg, e⟩ := hret
              exact ⟨v, hg.grow ⟨[], by simp⟩ ⟨(ws.drop n).map Prod.fst, by rw [List.map_append]⟩, e⟩
      · cases h
    · cases h
  · cases h
/-- a call on the newest cell alone sees that cell alone -/
theorem rk_wrap_ok {call : Nat → List rk_V → List rk_T → List rk_H → Option rk_O} {d : Nat} (hxt : rk_xtok xt) (hcall : rk_SC l D cl tbl xw xt MN P d call) : rk_SC l D cl tbl xw xt MN P d (rk_wrap call) := by
  intro f as env hp o h q hq
  unfold rk_wrap at h
  split at h
  · split at h
    · split at h
      · next o1 ho1 =>
        cases h
        exact rk_suf_ok hxt hcall f _ env hp o ho1 q hq
      · exact hcall f _ env hp o h q hq
    · exact hcall f _ env hp o h q hq
  · exact hcall f _ env hp o h q hq
end RKFR
end
section
theorem rk_lgsl : ∀ (av : List Value), (lg_sl av).length = (av.map fun v => v.category).sum
  | [] => rfl
  | v :: av => by
    have e : lg_sl (v :: av) = (if v.category = 2 then [Slot.val v, .second] else [.val v]) ++ lg_sl av := rfl
    rw [e, List.length_append, rk_lgsl av]
    rcases lv_cat v with z | z <;> simp [z]
section RKT
variable {p : Program} {l : Launch} {e : Env} {R : Room} {s : State} {m : MethodId} {args : Array Value} {below : List Frame} {meth : Method} {c : Code} {Q : State → Prop} {cc : ByteArray} {D : va_G} {cl : List vw_C} {Ad : Nat → Prop} {nL : Nat} {vals0 : List Value} {ads0 : List Nat}
variable {xt : rk_XT} {tbl xw : List Jvm.Cond} {fty : rk_F} {cln : List String} {MN : List rk_N} {mci : List Nat} {P : List rk_M2}
theorem rk_each_ok {K : rk_K} {a : rk_V} {pc : Nat} {lo : List (Nat × rk_V)} {sk : List rk_V} {env : List rk_T} {hp : List rk_H} {nc ns : Nat} {vals : List Value} {ads : List Nat} {x : Int32} (hE : rk_E env vals) (ga : rk_g vals ads a (.int x)) : ∀ (n : Nat) (v : Int), v ≤ x.toInt → x.toInt < v + n → ∃ env', rk_E env' vals ∧ (pc, (lo, sk, env', hp, nc, ns)) ∈ rk_each a pc lo sk env hp nc ns v n := by
  intro n
  induction n with
  | zero => intro v h1 h2; omega
  | succ n ih =>
    intro v h1 h2
    by_cases e : x.toInt = v
    · obtain ⟨e2, q1, q2⟩ := rk_cut_ok (lo := v) (hi := v) hE ga (by omega) (by omega)
      exact ⟨e2, q2, List.mem_append_left _ (rk_opt_mem q1 _ lo sk hp nc ns)⟩
    · obtain ⟨e2, q1, q2⟩ := ih (v + 1) (by omega) (by omega)
      exact ⟨e2, q1, List.mem_append_right _ q2⟩
theorem rk_split_ok {K : rk_K} {pc : Nat} {ins : Instr} {st : rk_S} {res : List (Nat × rk_S)} (h : rk_split pc ins st = some res) (kk : ∀ q ∈ res, rk_W K s D cl Ad nL vals0 ads0 q.1 q.2) : rk_W K s D cl Ad nL vals0 ads0 pc st := by
  obtain ⟨lo, sk, env, hp, nc, ns⟩ := st
  intro vals ws H locs ls stk lc hG hl hL hS
  dsimp only at hG hL hS ⊢
  unfold rk_split at h
  split at h
  · next a ha =>
    split at h
    · next I hI =>
      split at h
      · next hc =>
        cases h
        have hin : ∃ k : Nat, sk[k]? = some a := by
          unfold rk_which at ha
          split at ha
          all_goals first
            | exact ⟨_, ha⟩
            | cases ha
        obtain ⟨k, hk⟩ := hin
        obtain ⟨v, hv, hg⟩ := hS.get hk
        obtain ⟨x, rfl, h1, h2⟩ := rk_iv_ok hG.1 hg hI
        obtain ⟨e2, q1, q2⟩ := rk_each_ok (K := K) (pc := pc) (lo := lo) (sk := sk) (hp := hp) (nc := nc) (ns := ns) hG.1 hg (I.2 - I.1 + 1).toNat I.1 h1 (by omega)
        exact kk _ q2 vals ws H locs ls stk lc (hG.env0 q1) hl hL hS
      · cases h
    · cases h
  · cases h
theorem rk_pre0_ok {K : rk_K} {pc : Nat} {ins : Instr} {st : rk_S} {res : List (Nat × rk_S)} (h : rk_pre0 pc ins st = some res) (kk : ∀ q ∈ res, rk_W K s D cl Ad nL vals0 ads0 q.1 q.2) : rk_W K s D cl Ad nL vals0 ads0 pc st := by
  obtain ⟨lo, sk, env, hp, nc, ns⟩ := st
  intro vals ws H locs ls stk lc hG hl hL hS
  dsimp only at hG hL hS ⊢
  unfold rk_pre0 at h
  split at h
  · dsimp only at h
    split at h
    · next y k r =>
      obtain ⟨v1, k1, rfl, g1, hS1⟩ := hS.cons
      obtain ⟨v2, k2, rfl, ⟨x, hx, rfl⟩, hS2⟩ := hS1.cons
      split at h
      · next I hI =>
        obtain ⟨x', e', h1, h2⟩ := rk_iv_ok hG.1 (show rk_g vals (ws.map Prod.fst) (.inr (.inr (.inl k))) (.int x) from hx) hI
        cases e'
        split at h
        · next e =>
          cases h
          refine kk _ (List.mem_singleton.mpr rfl) vals ws H locs ls _ lc hG hl hL ⟨g1, ?_, hS2⟩
          show Value.long x.toInt64 = Value.long (Int32.ofInt I.1).toInt64
          rw [show I.1 = x.toInt by omega, Int32.ofInt_toInt]
        · split at h
          · cases h
            obtain ⟨e2, q1, q2⟩ := rk_each_ok (K := K) (pc := pc) (lo := lo) (sk := .inl (.long y) :: .inr (.inr (.inr k)) :: r) (hp := hp) (nc := nc) (ns := ns) hG.1 (show rk_g vals (ws.map Prod.fst) (.inr (.inr (.inl k))) (.int x) from hx) (I.2 - I.1 + 1).toNat I.1 h1 (by omega)
            exact kk _ q2 vals ws H locs ls _ lc (hG.env0 q1) hl hL hS
          · cases h
      · cases h
    · cases h
  · cases h
theorem rk_step_ok (hxt : rk_xtok xt) (hXt : xt vals0 Ad s s.heap) (hok : rk_ok tbl xw cl fty cln MN mci P) (hx : p.tables.exec = Jvm.exec) (hb : c.code = cc) {M : rk_M2} (hml : c.maxLocals = M.2.1) {own : String} (hF : rk_Fr s m args meth D cl Ad tbl xw fty cln own M.2.2.1 M.2.2.2.1) (hck : ∀ r ∈ M.2.2.1, rk_cok tbl xw MN P own r) (hkk : ∀ r ∈ M.2.2.1, rk_kok tbl own r) {d : Nat} {call : Nat → List rk_V → List rk_T → List rk_H → Option rk_O} (hcall : rk_SC l D cl tbl xw xt MN P d call) {ext : rk_Ext} (hext : ∀ (pc : Nat) (ins : Instr) (len : Nat) (st : rk_S) (res : List (Nat × rk_S)), decode cc pc = .ok (ins, len) → rk_len ins len = true → ext pc ins st = some res → (∀ q ∈ res, q.2.2.2.2.2.1 ≤ R.cells ∧ q.2.2.2.2.2.2 ≤ R.slots) → (∀ q ∈ res, rk_W (rk_KW p l e R s m args below meth c Q) s D cl Ad M.2.1 vals0 ads0 q.1 q.2) → rk_W (rk_KW p l e R s m args below meth c Q) s D cl Ad M.2.1 vals0 ads0 pc st) (hfr : d + 1 ≤ R.frames) (hlo : 40 * (d + 1) ≤ R.locals) {pc : Nat} {ins : Instr} {len : Nat} {st : rk_S} {res : List (Nat × rk_S)} (hdg : decode cc pc = .ok (ins, len)) (hlen : rk_len ins len = true) (h : rk_step fty cln mci call ext M pc ins st = some res) (hroom : ∀ q ∈ res, q.2.2.2.2.2.1 ≤ R.cells ∧ q.2.2.2.2.2.2 ≤ R.slots) (kk : ∀ q ∈ res, rk_W (rk_KW p l e R s m args below meth c Q) s D cl Ad M.2.1 vals0 ads0 q.1 q.2) : rk_W (rk_KW p l e R s m args below meth c Q) s D cl Ad M.2.1 vals0 ads0 pc st := by
  unfold rk_step at h
  split at h
  · next r hr => cases h; exact hext pc ins len st _ hdg hlen hr hroom kk
  split at h
  · next r hr => cases h; exact rk_pre0_ok hr kk
  split at h
  · next r hr => cases h; exact rk_pure_ok hx hb hdg hlen hr kk
  · split at h
    · next r hr => cases h; exact rk_pure2_ok hx hb hdg hlen hr kk
    · split at h
      · next r hr => cases h; exact rk_heap_ok hx hb hF hdg hlen hr hroom kk
      · split at h
        · next r hr => cases h; exact rk_call_ok hxt hXt hok hx hb hml hF hck hcall hfr hlo hdg hlen hr hroom kk
        · split at h
          · next r hr => cases h; exact rk_copy_ok hx hb hml hF hkk (by omega) (by omega) hdg hlen hr kk
          · split at h
            · next r hr => cases h; exact rk_split_ok hr kk
            · exact rk_math_ok hx hb hml hF (by omega) (by omega) hdg hlen h hroom kk
set_option maxHeartbeats 4000000 in
theorem rk_loop_ok (hxt : rk_xtok xt) (hXt : xt vals0 Ad s s.heap) (hok : rk_ok tbl xw cl fty cln MN mci P) (hx : p.tables.exec = Jvm.exec) (hb : c.code = cc) {M : rk_M2} (hml : c.maxLocals = M.2.1) (hins : ∀ r ∈ M.1, decode cc r.1 = .ok r.2) {own : String} (hF : rk_Fr s m args meth D cl Ad tbl xw fty cln own M.2.2.1 M.2.2.2.1) (hck : ∀ r ∈ M.2.2.1, rk_cok tbl xw MN P own r) (hkk : ∀ r ∈ M.2.2.1, rk_kok tbl own r) {d : Nat} {call : Nat → List rk_V → List rk_T → List rk_H → Option rk_O} (hcall : rk_SC l D cl tbl xw xt MN P d call) {ext : rk_Ext} (hext : ∀ (pc : Nat) (ins : Instr) (len : Nat) (st : rk_S) (res : List (Nat × rk_S)), decode cc pc = .ok (ins, len) → rk_len ins len = true → ext pc ins st = some res → (∀ q ∈ res, q.2.2.2.2.2.1 ≤ R.cells ∧ q.2.2.2.2.2.2 ≤ R.slots) → (∀ q ∈ res, rk_W (rk_KW p l e R s m args below meth c Q) s D cl Ad M.2.1 vals0 ads0 q.1 q.2) → rk_W (rk_KW p l e R s m args below meth c Q) s D cl Ad M.2.1 vals0 ads0 pc st) (hfr : d + 1 ≤ R.frames) (hlo : 40 * (d + 1) ≤ R.locals) {XS : List rk_X}
    (hend : ∀ (pc : Nat) (ins : Instr) (len : Nat) (st : rk_S) (x : rk_X), decode cc pc = .ok (ins, len) → rk_len ins len = true → rk_end M.2.2.2.2.1 ins st = some (some x) → x ∈ XS → st.2.2.2.2.1 ≤ R.cells → st.2.2.2.2.2 ≤ R.slots → rk_W (rk_KW p l e R s m args below meth c Q) s D cl Ad M.2.1 vals0 ads0 pc st) :
    ∀ (n : Nat) (q : Nat × rk_S) (o : rk_O), rk_loop fty cln mci call ext M n q = some o → (∀ x ∈ o.2.2, x ∈ XS) → o.1 ≤ R.cells → o.2.1 ≤ R.slots → rk_W (rk_KW p l e R s m args below meth c Q) s D cl Ad M.2.1 vals0 ads0 q.1 q.2 := by
  intro n
  induction n with
  | zero => intro q o h; cases h
  | succ n ih =>
    intro q o h hXS hmc hms
    unfold rk_loop at h
    split at h
    · cases h
    · next il hft =>
      have hdg := hins _ (rk_fetch_mem hft)
      split at h
      · next hlen =>
        split at h
        · next x hx1 =>
          cases h
          exact hend q.1 il.1 il.2 q.2 x hdg hlen hx1 (hXS _ (List.mem_singleton.mpr rfl)) hmc hms
        · cases h
        · split at h
          · next succ hsucc =>
            split at h
            · next o1 ho1 =>
              cases h
              have hcb := rk_comb_ok ho1
              have hm1 : o1.1 ≤ R.cells := Nat.le_trans (Nat.le_max_right _ _) hmc
              have hm2 : o1.2.1 ≤ R.slots := Nat.le_trans (Nat.le_max_right _ _) hms
              refine rk_step_ok hxt hXt hok hx hb hml hF hck hkk hcall hext hfr hlo hdg hlen hsucc (fun z hz => ?_) (fun z hz => ?_)
              · obtain ⟨o2, q1, q2, q3, q4⟩ := hcb z hz
                have := rk_loop_ge q1
                exact ⟨Nat.le_trans this.1 (Nat.le_trans q2 hm1), Nat.le_trans this.2 (Nat.le_trans q3 hm2)⟩
              · obtain ⟨o2, q1, q2, q3, q4⟩ := hcb z hz
                exact ih z o2 q1 (fun x hx => hXS _ (q4 x hx)) (Nat.le_trans q2 hm1) (Nat.le_trans q3 hm2)
            · cases h
          · cases h
      · cases h
set_option maxHeartbeats 4000000 in
/-- a method's end, by its contract -/
theorem rk_end_ok (hx : p.tables.exec = Jvm.exec) (hb : c.code = cc) (hlocks : meth.locks = false) {ret : Option FieldType} (hr : meth.sig.returnType = ret) {XS : List rk_X} {pc : Nat} {ins : Instr} {len : Nat} {st : rk_S} {x : rk_X} (hdg : decode cc pc = .ok (ins, len)) (hlen : rk_len ins len = true) (h : rk_end ret ins st = some (some x)) (hXS : x ∈ XS) (hmc : st.2.2.2.2.1 ≤ R.cells) (hms : st.2.2.2.2.2 ≤ R.slots) : rk_W (rk_KW p l e R s m args below meth c (MQ below (rk_Post D cl XS vals0 ads0 Ad) args s R.cells R.slots Ad)) s D cl Ad nL vals0 ads0 pc st := by
  obtain ⟨lo, sk, env, hp, nc, ns⟩ := st
  unfold rk_end at h
  split at h
  · split at h
    · next hsk =>
      cases h
      simp [rk_len] at hlen; subst hlen
      intro vals ws H locs ls stk lc hG hl hL hS
      dsimp only at hsk hG hL hS hmc hms ⊢
      subst hsk
      have hnil := hS.nil
      subst hnil
      refine W.widen (k := R.cells) (n := R.slots) hmc hms ?_
      exact W.vret hx hb hr (fun t ht hW => ⟨⟨_, hXS, vals, ws, hG.2.2.2.2.2.1, hG.2.2.2.2.2.2, hG.1, hG.2.1.mono (fun _ _ h => h.moved hW.alike), by rw [ht]; exact hG.2.2.1, hG.2.2.2.1, rfl⟩, hG.2.2.2.2.1.F ht⟩) hG.2.2.2.2.1.2.2 hdg
    · cases h
  · split at h
    · next a hsk =>
      split at h
      · next hro =>
        cases h
        simp [rk_len] at hlen; subst hlen
        intro vals ws H locs ls stk lc hG hl hL hS
        dsimp only at hsk hG hL hS hmc hms hro ⊢
        subst hsk
        obtain ⟨v, k, rfl, hg, hSn⟩ := hS.cons; clear hS; have hS := hSn; clear hSn
        have hnil := hS.nil
        subst hnil
        refine W.widen (k := R.cells) (n := R.slots) hmc hms ?_
        have hpost : ∀ t : State, t.heap = H → s.WarmedH t.vm → rk_Post D cl XS vals0 ads0 Ad args s (.returned (some v)) t := fun t ht hW => ⟨⟨_, hXS, vals, ws, hG.2.2.2.2.2.1, hG.2.2.2.2.2.2, hG.1, hG.2.1.mono (fun _ _ h => h.moved hW.alike), by rw [ht]; exact hG.2.2.1, hG.2.2.2.1, v, hg, rfl⟩, hG.2.2.2.2.1.F ht⟩
        obtain ⟨hro, hnl⟩ := hro
        unfold rk_rok at hro
        split at hro
        · obtain ⟨I, hI⟩ := Option.isSome_iff_exists.mp hro
          obtain ⟨x, rfl, -, -⟩ := rk_iv_ok hG.1 hg hI
          exact W.iret hx hb hr hpost hG.2.2.2.2.1.2.2 hdg
        · have hfit := rk_fit_ok hG.1 hg hro
          unfold rk_fit at hro
          dsimp only at hro
          split at hro
          · next I hI =>
            obtain ⟨x, rfl, -, -⟩ := rk_iv_ok hG.1 hg hI
            exact W.zret (ty := .boolean) hx hb hr hfit.1 hpost hG.2.2.2.2.1.2.2 hdg
          · cases hro
        · exact absurd rfl hnl
        · cases hro
      · cases h
    · cases h
  · split at h
    · next a hsk =>
      split at h
      · next hro =>
        cases h
        simp [rk_len] at hlen; subst hlen
        intro vals ws H locs ls stk lc hG hl hL hS
        dsimp only at hsk hG hL hS hmc hms hro ⊢
        subst hsk
        obtain ⟨v, k, rfl, hg, hSn⟩ := hS.cons; clear hS; have hS := hSn; clear hSn
        have hnil := hS.nil
        subst hnil
        refine W.widen (k := R.cells) (n := R.slots) hmc hms ?_
        have hpost : ∀ t : State, t.heap = H → s.WarmedH t.vm → rk_Post D cl XS vals0 ads0 Ad args s (.returned (some v)) t := fun t ht hW => ⟨⟨_, hXS, vals, ws, hG.2.2.2.2.2.1, hG.2.2.2.2.2.2, hG.1, hG.2.1.mono (fun _ _ h => h.moved hW.alike), by rw [ht]; exact hG.2.2.1, hG.2.2.2.1, v, hg, rfl⟩, hG.2.2.2.2.1.F ht⟩
        obtain ⟨hro, hnl⟩ := hro
        rw [hnl] at hro
        obtain ⟨x, rfl⟩ := rk_isL_ok hG.1 hg hro
        exact W.lret hx hb (by rw [hr]; exact hnl) hpost hG.2.2.2.2.1.2.2 hdg
      · cases h
    · cases h
  · cases h
theorem rk_run_ok (l : Launch) (D : va_G) (hxt : rk_xtok xt) (hok : rk_ok tbl xw cl fty cln MN mci P) {sum : Nat → Nat → List rk_V → List rk_T → List rk_H → Option rk_O} (hsum : ∀ d : Nat, rk_SC l D cl tbl xw xt MN P (d + 1) (sum d)) (fuel : Nat) : ∀ d : Nat, rk_SC l D cl tbl xw xt MN P d (rk_run P fty cln mci sum fuel d) := by
  intro d
  induction d with
  | zero => intro f as env hp o h; cases h
  | succ d ih =>
    intro f as env hp o h q hq
    unfold rk_run at h
    split at h
    · next o1 ho1 =>
      cases h
      exact hsum d f as env hp o ho1 q hq
    split at h
    · next M hM =>
      split at h
      · next hc =>
        refine ⟨M, hM, hc.1, fun vals ws av sz hE hA2 => ?_⟩
        obtain ⟨hgw, hxo, hcl, hac, hlenM, hmok, hmci⟩ := id hok
        obtain ⟨m1, m2, m3, m4, m5, m6, m7, m8, m9⟩ := hmok f q M hq hM
        refine Met.ofW (cc := q.2.2) (maxL := M.2.1) (ret := M.2.2.2.2.1) m1 rfl ?_
        intro p e s m args below meth c s₁ B hml hv
        obtain ⟨rfl, hsz, hP, hK, hD0, hC, hxw, hXt⟩ := hv
        have hts0 := atoms_spec (ws := Jvm.Cond.code q.2.1 q.2.2 M.2.1 M.2.2.2.2.1 :: tbl) B.pre
        have hts : ∀ w ∈ tbl, w.before av.toArray s = true := fun w hw => hts0 w (List.mem_cons_of_mem _ hw)
        have hown : s.vm.findClass q.1 = some m.cls := by rw [← m2]; exact findClass_of_methodNamed B.named
        have hnm : meth.name = q.2.1.name := (name_of_methodNamed B.named B.method).1
        subst hsz
        have hF : rk_Fr s m av.toArray meth D cl (va_A ws s.heap.size) tbl xw fty cln q.1 M.2.2.1 M.2.2.2.1 := ⟨hts, hxw, hown, hK, fun z hz => Or.inr hz, hcl, fun r hr => (m7 r hr).1, fun hz => by rw [hnm]; exact m8 hz, hac, m9⟩
        have key := rk_loop_ok (l := l) (p := p) (e := e) (R := (headSpec (Jvm.Cond.code q.2.1 q.2.2 M.2.1 M.2.2.2.2.1 :: tbl) { frames := d + 1, cells := o.1, slots := o.2.1, locals := 40 * (d + 1) }).room) (below := below) (vals0 := vals) (ads0 := ws.map Prod.fst) hxt hXt hok B.exec B.bytes hml m6 hF (fun r hr => (m7 r hr).2.1) (fun r hr => (m7 r hr).2.2) (rk_wrap_ok hxt ih) (ext := fun _ _ _ => none) (fun _ _ _ _ _ _ _ z => by cases z) (Nat.le_refl _) (Nat.le_refl _) (XS := o.2.2) (fun pc ins len st x a1 a2 a3 a4 a5 a6 => rk_end_ok B.exec B.bytes B.notSynchronized B.returns a1 a2 a3 a4 a5 a6) fuel _ o h (fun x hx => hx) (Nat.le_refl _) (Nat.le_refl _)
        have hlen : (lg_sl av).length ≤ M.2.1 := by
          rw [rk_lgsl, ← rk_sum_ok hE hA2]
          exact hc.2
        have hl := lv_entry av (n := M.2.1) hlen
        rw [lg_entry_eq]
        exact key vals ws s.heap [] _ [] _ ⟨hE, hC, hP, hD0.self, va_S.rf, ⟨[], by simp⟩, ⟨[], by simp⟩⟩ hl (rk_args_ok hE 0 hA2) trivial
      · cases h
    · cases h
end RKT
end
section
/-! ===== rk: the law's frame: the script's ints are the symbols 0 to 5, the script the symbol 6, its length the symbol 7 ===== -/
def rk_lawx : rk_Ext := fun pc ins st =>
  let lo := st.1; let sk := st.2.1; let env := st.2.2.1; let hp := st.2.2.2.1; let nc := st.2.2.2.2.1; let ns := st.2.2.2.2.2
  match ins with
  | .aload_n k => match rk_ld lo k with
    | some (.inr (.inr (.inl 6))) => some [(pc + 1, (lo, .inr (.inr (.inl 6)) :: sk, env, hp, nc, ns))]
    | _ => none
  | .arraylength => match sk with
    | .inr (.inr (.inl 6)) :: r => some [(pc + 1, (lo, rk_norm env (.inr (.inr (.inl 7))) :: r, env, hp, nc, ns))]
    | _ => none
  | .iaload => match sk with
    | ix :: .inr (.inr (.inl 6)) :: r => match rk_ix env ix 6, rk_iv env (.inr (.inr (.inl 7))) with
      | some i, some J => if 6 ≤ J.1 then some [(pc + 1, (lo, rk_norm env (.inr (.inr (.inl i))) :: r, env, hp, nc, ns))] else none
      | _, _ => none
    | _ => none
  | _ => none
section RKX
variable {p : Program} {l : Launch} {e : Env} {R : Room} {s : State} {m : MethodId} {args : Array Value} {below : List Frame} {meth : Method} {c : Code} {Q : State → Prop} {cc : ByteArray} {D : va_G} {cl : List vw_C} {Ad : Nat → Prop} {nL : Nat} {ads0 : List Nat} {b L : Nat} {xs : Nat → Int32}
def rk_v0 (b L : Nat) (xs : Nat → Int32) : List Value := [.int (xs 0), .int (xs 1), .int (xs 2), .int (xs 3), .int (xs 4), .int (xs 5), .ref b, .int (Int32.ofNat L)]
theorem rk_v0_at {vals : List Value} (h : ∃ k, vals = rk_v0 b L xs ++ k) {i : Nat} {v : Value} (hi : (rk_v0 b L xs)[i]? = some v) : vals[i]? = some v := by
  obtain ⟨k, rfl⟩ := h
  rw [List.getElem?_append_left (List.getElem?_eq_some_iff.mp hi).1]
  exact hi
theorem rk_v0_x {i : Nat} (hi : i < 6) : (rk_v0 b L xs)[i]? = some (.int (xs i)) := by
  match i, hi with
  | 0, _ => rfl
  | 1, _ => rfl
  | 2, _ => rfl
  | 3, _ => rfl
  | 4, _ => rfl
  | 5, _ => rfl
set_option maxHeartbeats 4000000 in
theorem rk_lawx_ok (hx : p.tables.exec = Jvm.exec) (hb : c.code = cc) (hX : va_X b L xs s s.heap) (hbl : b < s.heap.size) (hbA : ¬ Ad b) (hL : L < 2147483648) (pc : Nat) (ins : Instr) (len : Nat) (st : rk_S) (res : List (Nat × rk_S)) (hdg : decode cc pc = .ok (ins, len)) (hlen : rk_len ins len = true) (h : rk_lawx pc ins st = some res) (kk : ∀ q ∈ res, rk_W (rk_KW p l e R s m args below meth c Q) s D cl Ad nL (rk_v0 b L xs) ads0 q.1 q.2) : rk_W (rk_KW p l e R s m args below meth c Q) s D cl Ad nL (rk_v0 b L xs) ads0 pc st := by
  obtain ⟨lo, sk, env, hp, nc, ns⟩ := st
  intro vals ws H locs ls stk lc hG hl hL2 hS
  dsimp only at hG hL2 hS ⊢
  have hpre := hG.2.2.2.2.2.1
  have h6 : rk_g vals (ws.map Prod.fst) (.inr (.inr (.inl 6))) (.ref b) := rk_v0_at hpre rfl
  have h7 : rk_g vals (ws.map Prod.fst) (.inr (.inr (.inl 7))) (.int (Int32.ofNat L)) := rk_v0_at hpre rfl
  cases ins
  case aload_n k =>
    simp [rk_len] at hlen; subst hlen
    simp only [rk_lawx] at h
    split at h
    · next ha =>
      cases h
      obtain ⟨v, hv, hg⟩ := rk_ld_ok hL2 ha
      have ev : v = .ref b := Option.some.inj ((show vals[6]? = some v from hg).symm.trans h6)
      subst ev
      exact lv_aload_n hx hb hdg rfl (hl.2.2 _ hv) (kk _ (List.mem_singleton.mpr rfl) vals ws H locs ls _ lc hG hl hL2 ⟨hg, hS⟩)
    · cases h
  case arraylength =>
    simp [rk_len] at hlen; subst hlen
    simp only [rk_lawx] at h
    split at h
    · next r =>
      cases h
      obtain ⟨v, k1, rfl, hg, hSn⟩ := hS.cons; clear hS; have hS := hSn; clear hSn
      have ev : v = .ref b := Option.some.inj ((show vals[6]? = some v from hg).symm.trans h6)
      subst ev
      exact va_slen hx hb hX hbl hbA hG.2.2.2.2.1 hdg (kk _ (List.mem_singleton.mpr rfl) vals ws H locs ls _ lc hG hl hL2 ⟨rk_norm_ok hG.1 h7, hS⟩)
    · cases h
  case iaload =>
    simp [rk_len] at hlen; subst hlen
    simp only [rk_lawx] at h
    split at h
    · next ix r =>
      split at h
      · next i J hi hJ =>
        split at h
        · next h6J =>
          cases h
          obtain ⟨vi, k0, rfl, hgi, hSn⟩ := hS.cons; clear hS; have hS := hSn; clear hSn
          obtain ⟨v, k1, rfl, hg, hSn⟩ := hS.cons; clear hS; have hS := hSn; clear hSn
          have ev : v = .ref b := Option.some.inj ((show vals[6]? = some v from hg).symm.trans h6)
          subst ev
          obtain ⟨xi, rfl, hin, rfl⟩ := rk_ix_ok hG.1 hgi hi
          obtain ⟨y, ey, y1, y2⟩ := rk_iv_ok hG.1 h7 hJ
          cases ey
          have hLn : (Int32.ofNat L).toInt = L := nI_toInt (n := L) hL
          have hLi : 6 ≤ L := by omega
          have hi6 := (vp_in_iff.mp hin)
          have hin2 : vp_in xi L := vp_in_iff.mpr ⟨hi6.1, by omega⟩
          have hlt : xi.toNatClampNeg < 6 := by have : xi.toNatClampNeg = xi.toInt.toNat := rfl; omega
          exact va_sld hx hb hX hbl hbA hG.2.2.2.2.1 hin2 hdg (kk _ (List.mem_singleton.mpr rfl) vals ws H locs ls _ lc hG hl hL2 ⟨rk_norm_ok hG.1 (rk_v0_at hpre (rk_v0_x hlt)), hS⟩)
        · cases h
      · cases h
    · cases h
  all_goals (simp [rk_lawx] at h)
end RKX
end
section
/-! ===== the program: classes ===== -/
def gk_R0 : String := "GooseIce$Crew"
def gk_T0 : u_T := fun k => match k with
  | 0 => ("GooseIce$Crew", "names", "[J", true)
  | 1 => ("GooseIce$Crew", "weight", "[I", true)
  | 2 => ("GooseIce$Crew", "at", "[I", true)
  | 3 => ("GooseIce$Crew", "made", "[I", true)
  | 4 => ("GooseIce$Crew", "left", "[I", true)
  | 5 => ("GooseIce$Crew", "head", "[I", true)
  | 6 => ("GooseIce$Crew", "route", "[I", true)
  | 7 => ("GooseIce$Crew", "count", "I", false)
  | 8 => ("GooseIce$Crew", "wet", "I", false)
  | _ => ("GooseIce$Crew", "routed", "I", false)
def gk_R1 : String := "GooseIce$Days"
def gk_T1 : u_T := fun k => match k with
  | 0 => ("GooseIce$Days", "cases", "[J", true)
  | 1 => ("GooseIce$Days", "later", "[J", true)
  | _ => ("GooseIce$Days", "middle", "I", false)
def gk_R2 : String := "GooseIce$Ice"
def gk_T2 : u_T := fun k => match k with
  | 0 => ("GooseIce$Ice", "borne", "[I", true)
  | 1 => ("GooseIce$Ice", "most", "[I", true)
  | 2 => ("GooseIce$Ice", "recent", "[I", true)
  | 3 => ("GooseIce$Ice", "came", "[I", true)
  | 4 => ("GooseIce$Ice", "waiting", "I", false)
  | _ => ("GooseIce$Ice", "broken", "I", false)
def gk_R3 : String := "GooseIce$Lake"
def gk_T3 : u_T := fun k => match k with
  | 0 => ("GooseIce$Lake", "names", "[J", true)
  | 1 => ("GooseIce$Lake", "ways", "[I", true)
  | 2 => ("GooseIce$Lake", "besides", "[I", true)
  | 3 => ("GooseIce$Lake", "inside", "[I", true)
  | 4 => ("GooseIce$Lake", "loads", "[I", true)
  | 5 => ("GooseIce$Lake", "sheet", "LGooseIce$Ice;", true)
  | 6 => ("GooseIce$Lake", "crew", "LGooseIce$Crew;", true)
  | 7 => ("GooseIce$Lake", "tales", "LGooseIce$Tales;", true)
  | 8 => ("GooseIce$Lake", "cells", "I", false)
  | 9 => ("GooseIce$Lake", "shores", "I", false)
  | 10 => ("GooseIce$Lake", "worse", "I", false)
  | 11 => ("GooseIce$Lake", "hour", "I", false)
  | 12 => ("GooseIce$Lake", "better", "I", false)
  | _ => ("GooseIce$Lake", "time", "I", false)
def gk_R4 : String := "GooseIce$LakeText"
def gk_T4 : u_T := fun k => match k with
  | 0 => ("GooseIce$LakeText", "reader", "LGooseIce$Reader;", true)
  | _ => ("GooseIce$LakeText", "settled", "I", false)
def gk_R5 : String := "GooseIce$Life"
def gk_T5 : u_T := fun k => match k with
  | 0 => ("GooseIce$Life", "paths", "LGooseIce$Paths;", true)
  | 1 => ("GooseIce$Life", "loopRow", "[I", true)
  | 2 => ("GooseIce$Life", "loopLeft", "[I", true)
  | 3 => ("GooseIce$Life", "depth", "I", false)
  | 4 => ("GooseIce$Life", "state", "I", false)
  | 5 => ("GooseIce$Life", "drew", "Z", false)
  | 6 => ("GooseIce$Life", "missed", "I", false)
  | 7 => ("GooseIce$Life", "walked", "I", false)
  | 8 => ("GooseIce$Life", "sends", "I", false)
  | 9 => ("GooseIce$Life", "broke", "I", false)
  | _ => ("GooseIce$Life", "left", "I", false)
def gk_R6 : String := "GooseIce$Paths"
def gk_T6 : u_T := fun k => match k with
  | 0 => ("GooseIce$Paths", "found", "[I", true)
  | 1 => ("GooseIce$Paths", "layers", "[I", true)
  | 2 => ("GooseIce$Paths", "spares", "[I", true)
  | 3 => ("GooseIce$Paths", "subsets", "[I", true)
  | 4 => ("GooseIce$Paths", "length", "I", false)
  | _ => ("GooseIce$Paths", "least", "I", false)
def gk_R7 : String := "GooseIce$Queue"
def gk_T7 : u_T := fun k => match k with
  | 0 => ("GooseIce$Queue", "levels", "[LGooseIce$Lake;", true)
  | 1 => ("GooseIce$Queue", "members", "[I", true)
  | 2 => ("GooseIce$Queue", "order", "[I", true)
  | 3 => ("GooseIce$Queue", "gaps", "[I", true)
  | 4 => ("GooseIce$Queue", "bestOrder", "[I", true)
  | 5 => ("GooseIce$Queue", "bestGaps", "[I", true)
  | 6 => ("GooseIce$Queue", "row", "[I", true)
  | 7 => ("GooseIce$Queue", "length", "I", false)
  | 8 => ("GooseIce$Queue", "best", "I", false)
  | 9 => ("GooseIce$Queue", "many", "I", false)
  | _ => ("GooseIce$Queue", "cells", "I", false)
def gk_R8 : String := "GooseIce$Reader"
def gk_T8 : u_T := fun k => match k with
  | 0 => ("GooseIce$Reader", "tape", "[B", true)
  | 1 => ("GooseIce$Reader", "reserved", "[J", true)
  | 2 => ("GooseIce$Reader", "fed", "I", false)
  | 3 => ("GooseIce$Reader", "length", "I", false)
  | 4 => ("GooseIce$Reader", "place", "I", false)
  | 5 => ("GooseIce$Reader", "next", "I", false)
  | 6 => ("GooseIce$Reader", "kind", "I", false)
  | 7 => ("GooseIce$Reader", "word", "I", false)
  | 8 => ("GooseIce$Reader", "name", "J", false)
  | 9 => ("GooseIce$Reader", "number", "I", false)
  | 10 => ("GooseIce$Reader", "fault", "I", false)
  | _ => ("GooseIce$Reader", "faultPlace", "I", false)
def gk_R9 : String := "GooseIce$Tales"
def gk_T9 : u_T := fun k => match k with
  | 0 => ("GooseIce$Tales", "op", "[I", true)
  | 1 => ("GooseIce$Tales", "test", "[I", true)
  | 2 => ("GooseIce$Tales", "a", "[I", true)
  | 3 => ("GooseIce$Tales", "b", "[I", true)
  | 4 => ("GooseIce$Tales", "c", "[I", true)
  | 5 => ("GooseIce$Tales", "past", "[I", true)
  | 6 => ("GooseIce$Tales", "count", "I", false)
  | _ => ("GooseIce$Tales", "there", "Z", false)
def gk_R10 : String := "GooseIce$TalesText"
def gk_T10 : u_T := fun k => match k with
  | 0 => ("GooseIce$TalesText", "reader", "LGooseIce$Reader;", true)
  | 1 => ("GooseIce$TalesText", "open", "[I", true)
  | _ => ("GooseIce$TalesText", "depth", "I", false)
def gk_R11 : String := "GooseIce"
def gk_T11 : u_T := fun k => match k with
  | 0 => ("GooseIce", "status", "I", false)
  | 1 => ("GooseIce", "top", "J", false)
  | 2 => ("GooseIce", "bottom", "J", false)
  | 3 => ("GooseIce", "rows", "[[J", true)
  | 4 => ("GooseIce", "sorts", "[I", true)
  | 5 => ("GooseIce", "sizes", "[I", true)
  | 6 => ("GooseIce", "path", "[I", true)
  | 7 => ("GooseIce", "reader", "LGooseIce$Reader;", true)
  | 8 => ("GooseIce", "lakeText", "LGooseIce$LakeText;", true)
  | 9 => ("GooseIce", "talesText", "LGooseIce$TalesText;", true)
  | 10 => ("GooseIce", "lake", "LGooseIce$Lake;", true)
  | 11 => ("GooseIce", "draft", "LGooseIce$Lake;", true)
  | 12 => ("GooseIce", "marks", "[LGooseIce$Lake;", true)
  | 13 => ("GooseIce", "markCount", "I", false)
  | 14 => ("GooseIce", "paths", "LGooseIce$Paths;", true)
  | 15 => ("GooseIce", "line", "LGooseIce$Queue;", true)
  | 16 => ("GooseIce", "weather", "LGooseIce$Days;", true)
  | 17 => ("GooseIce", "life", "LGooseIce$Life;", true)
  | 18 => ("GooseIce", "livedRow", "[I", true)
  | _ => ("GooseIce", "everLived", "Z", false)
def gk_R12 : String := "GooseIceModel"
def gk_T12 : u_T := fun k => match k with
  | 0 => ("GooseIceModel", "at", "[I", true)
  | 1 => ("GooseIceModel", "names", "[J", true)
  | 2 => ("GooseIceModel", "status", "I", false)
  | 3 => ("GooseIceModel", "top", "J", false)
  | 4 => ("GooseIceModel", "bottom", "J", false)
  | 5 => ("GooseIceModel", "sort", "[I", true)
  | 6 => ("GooseIceModel", "trayMany", "[I", true)
  | 7 => ("GooseIceModel", "trays", "[J", true)
  | 8 => ("GooseIceModel", "tape", "[B", true)
  | 9 => ("GooseIceModel", "text", "[B", true)
  | 10 => ("GooseIceModel", "taped", "I", false)
  | 11 => ("GooseIceModel", "size", "I", false)
  | 12 => ("GooseIceModel", "token", "I", false)
  | 13 => ("GooseIceModel", "from", "I", false)
  | 14 => ("GooseIceModel", "end", "I", false)
  | 15 => ("GooseIceModel", "value", "I", false)
  | 16 => ("GooseIceModel", "faultKind", "I", false)
  | 17 => ("GooseIceModel", "faultPlace", "I", false)
  | 18 => ("GooseIceModel", "faults", "I", false)
  | 19 => ("GooseIceModel", "seen", "I", false)
  | 20 => ("GooseIceModel", "told0", "I", false)
  | 21 => ("GooseIceModel", "opened", "[I", true)
  | 22 => ("GooseIceModel", "depth", "I", false)
  | 23 => ("GooseIceModel", "counted", "I", false)
  | 24 => ("GooseIceModel", "far0", "[I", true)
  | 25 => ("GooseIceModel", "least0", "I", false)
  | 26 => ("GooseIceModel", "turn", "[I", true)
  | 27 => ("GooseIceModel", "gap", "[I", true)
  | 28 => ("GooseIceModel", "toldTurn", "[I", true)
  | 29 => ("GooseIceModel", "toldGap", "[I", true)
  | 30 => ("GooseIceModel", "toldMany", "I", false)
  | 31 => ("GooseIceModel", "groupsOf", "[I", true)
  | 32 => ("GooseIceModel", "trials0", "[I", true)
  | 33 => ("GooseIceModel", "row", "[I", true)
  | 34 => ("GooseIceModel", "ways", "[J", true)
  | 35 => ("GooseIceModel", "nextWays", "[J", true)
  | 36 => ("GooseIceModel", "drawn", "I", false)
  | 37 => ("GooseIceModel", "ranSteps", "I", false)
  | 38 => ("GooseIceModel", "loops", "[I", true)
  | 39 => ("GooseIceModel", "ran", "[I", true)
  | 40 => ("GooseIceModel", "told1", "[I", true)
  | 41 => ("GooseIceModel", "isTold", "Z", false)
  | _ => ("GooseIceModel", "marks", "I", false)
def gk_cl : List vw_C := [(gk_R0, gk_T0, 10), (gk_R1, gk_T1, 3), (gk_R2, gk_T2, 6), (gk_R3, gk_T3, 14), (gk_R4, gk_T4, 2), (gk_R5, gk_T5, 11), (gk_R6, gk_T6, 6), (gk_R7, gk_T7, 11), (gk_R8, gk_T8, 12), (gk_R9, gk_T9, 8), (gk_R10, gk_T10, 3), (gk_R11, gk_T11, 20), (gk_R12, gk_T12, 43)]
def gk_fty : rk_F := [[(.array .long, true), (.array .int, true), (.array .int, true), (.array .int, true), (.array .int, true), (.array .int, true), (.array .int, true), (.int, false), (.int, false), (.int, false)], [(.array .long, true), (.array .long, true), (.int, false)], [(.array .int, true), (.array .int, true), (.array .int, true), (.array .int, true), (.int, false), (.int, false)], [(.array .long, true), (.array .int, true), (.array .int, true), (.array .int, true), (.array .int, true), (.object "GooseIce$Ice", true), (.object "GooseIce$Crew", true), (.object "GooseIce$Tales", true), (.int, false), (.int, false), (.int, false), (.int, false), (.int, false), (.int, false)], [(.object "GooseIce$Reader", true), (.int, false)], [(.object "GooseIce$Paths", true), (.array .int, true), (.array .int, true), (.int, false), (.int, false), (.boolean, false), (.int, false), (.int, false), (.int, false), (.int, false), (.int, false)], [(.array .int, true), (.array .int, true), (.array .int, true), (.array .int, true), (.int, false), (.int, false)], [(.array (.object "GooseIce$Lake"), true), (.array .int, true), (.array .int, true), (.array .int, true), (.array .int, true), (.array .int, true), (.array .int, true), (.int, false), (.int, false), (.int, false), (.int, false)], [(.array .byte, true), (.array .long, true), (.int, false), (.int, false), (.int, false), (.int, false), (.int, false), (.int, false), (.long, false), (.int, false), (.int, false), (.int, false)], [(.array .int, true), (.array .int, true), (.array .int, true), (.array .int, true), (.array .int, true), (.array .int, true), (.int, false), (.boolean, false)], [(.object "GooseIce$Reader", true), (.array .int, true), (.int, false)], [(.int, false), (.long, false), (.long, false), (.array (.array .long), true), (.array .int, true), (.array .int, true), (.array .int, true), (.object "GooseIce$Reader", true), (.object "GooseIce$LakeText", true), (.object "GooseIce$TalesText", true), (.object "GooseIce$Lake", true), (.object "GooseIce$Lake", true), (.array (.object "GooseIce$Lake"), true), (.int, false), (.object "GooseIce$Paths", true), (.object "GooseIce$Queue", true), (.object "GooseIce$Days", true), (.object "GooseIce$Life", true), (.array .int, true), (.boolean, false)], [(.array .int, true), (.array .long, true), (.int, false), (.long, false), (.long, false), (.array .int, true), (.array .int, true), (.array .long, true), (.array .byte, true), (.array .byte, true), (.int, false), (.int, false), (.int, false), (.int, false), (.int, false), (.int, false), (.int, false), (.int, false), (.int, false), (.int, false), (.int, false), (.array .int, true), (.int, false), (.int, false), (.array .int, true), (.int, false), (.array .int, true), (.array .int, true), (.array .int, true), (.array .int, true), (.int, false), (.array .int, true), (.array .int, true), (.array .int, true), (.array .long, true), (.array .long, true), (.int, false), (.int, false), (.array .int, true), (.array .int, true), (.array .int, true), (.boolean, false), (.int, false)]]
def gk_cln : List String := ["GooseIce$Crew", "GooseIce$Days", "GooseIce$Ice", "GooseIce$Lake", "GooseIce$LakeText", "GooseIce$Life", "GooseIce$Paths", "GooseIce$Queue", "GooseIce$Reader", "GooseIce$Tales", "GooseIce$TalesText", "GooseIce", "GooseIceModel"]
def rk_isx : Jvm.Cond → Bool
  | .fieldLinkNest _ _ _ _ _ _ => true
  | .methodLinkNest _ _ _ _ => true
  | .arrayOver (.object _) => true
  | .arrayOver (.array _) => true
  | _ => false
def gk_tbl : List Jvm.Cond := lw_tbl.filter goodWord
def gk_xw : List Jvm.Cond := lw_tbl.filter rk_isx
theorem rk_mt {x : Jvm.Cond} (i : Nat) (h : lw_tbl[i]? = some x) (hg : goodWord x = true) : x ∈ gk_tbl := List.mem_filter.mpr ⟨List.mem_of_getElem? h, hg⟩
theorem rk_mx {x : Jvm.Cond} (i : Nat) (h : lw_tbl[i]? = some x) (hg : rk_isx x = true) : x ∈ gk_xw := List.mem_filter.mpr ⟨List.mem_of_getElem? h, hg⟩
theorem gk_good : ∀ x ∈ gk_tbl, goodWord x = true := fun x h => (List.mem_filter.mp h).2
theorem gk_xok : rk_xok gk_xw := by
  intro x h
  have h2 := (List.mem_filter.mp h).2
  unfold rk_isx at h2
  split at h2
  · exact Or.inl ⟨_, _, _, _, _, _, rfl⟩
  · exact Or.inr (Or.inl ⟨_, _, _, _, rfl⟩)
  · exact Or.inr (Or.inr (Or.inl ⟨_, rfl⟩))
  · exact Or.inr (Or.inr (Or.inr ⟨_, rfl⟩))
  · cases h2
theorem rk_sub {big ws : List Jvm.Cond} (ps : List Nat) (h : ws = ps.filterMap (fun i => big[i]?)) : ∀ x ∈ ws, x ∈ big := by
  intro x hx
  rw [h] at hx
  obtain ⟨i, -, hi⟩ := List.mem_filterMap.mp hx
  exact List.mem_of_getElem? hi
theorem gk_u0 : ∀ x ∈ u_ws gk_R0 gk_T0 10, x ∈ gk_tbl := fun x h => List.mem_filter.mpr ⟨rk_sub [465, 467, 469, 471, 473, 475, 477, 479, 481, 483] (by decide +kernel) x h, by
  obtain ⟨k, -, rfl⟩ := List.mem_map.mp h
  unfold u_lay
  split <;> rfl⟩
theorem gk_n0 : ∀ a, a < 10 → ∀ b, b < 10 → a ≠ b → (gk_T0 a).2.1 ≠ (gk_T0 b).2.1 := by decide +kernel
theorem gk_y0 : ∀ (k : Nat) (t : FieldType × Bool), (gk_fty.getD 0 [])[k]? = some t → parseFieldDescriptor (gk_T0 k).2.2.1 = some t.1 ∧ (gk_T0 k).2.2.2 = t.2 := by
  intro k t h
  have hk : k < 10 := (List.getElem?_eq_some_iff.mp h).1
  have hall : (List.range 10).all (fun k => match (gk_fty.getD 0 [])[k]? with | some t => decide (parseFieldDescriptor (gk_T0 k).2.2.1 = some t.1 ∧ (gk_T0 k).2.2.2 = t.2) | none => true) = true := by decide +kernel
  have h1 := List.all_eq_true.mp hall k (List.mem_range.mpr hk)
  rw [h] at h1
  exact of_decide_eq_true h1
theorem gk_u1 : ∀ x ∈ u_ws gk_R1 gk_T1 3, x ∈ gk_tbl := fun x h => List.mem_filter.mpr ⟨rk_sub [692, 694, 696] (by decide +kernel) x h, by
  obtain ⟨k, -, rfl⟩ := List.mem_map.mp h
  unfold u_lay
  split <;> rfl⟩
theorem gk_n1 : ∀ a, a < 3 → ∀ b, b < 3 → a ≠ b → (gk_T1 a).2.1 ≠ (gk_T1 b).2.1 := by decide +kernel
theorem gk_y1 : ∀ (k : Nat) (t : FieldType × Bool), (gk_fty.getD 1 [])[k]? = some t → parseFieldDescriptor (gk_T1 k).2.2.1 = some t.1 ∧ (gk_T1 k).2.2.2 = t.2 := by
  intro k t h
  have hk : k < 3 := (List.getElem?_eq_some_iff.mp h).1
  have hall : (List.range 3).all (fun k => match (gk_fty.getD 1 [])[k]? with | some t => decide (parseFieldDescriptor (gk_T1 k).2.2.1 = some t.1 ∧ (gk_T1 k).2.2.2 = t.2) | none => true) = true := by decide +kernel
  have h1 := List.all_eq_true.mp hall k (List.mem_range.mpr hk)
  rw [h] at h1
  exact of_decide_eq_true h1
theorem gk_u2 : ∀ x ∈ u_ws gk_R2 gk_T2 6, x ∈ gk_tbl := fun x h => List.mem_filter.mpr ⟨rk_sub [416, 418, 420, 422, 424, 426] (by decide +kernel) x h, by
  obtain ⟨k, -, rfl⟩ := List.mem_map.mp h
  unfold u_lay
  split <;> rfl⟩
theorem gk_n2 : ∀ a, a < 6 → ∀ b, b < 6 → a ≠ b → (gk_T2 a).2.1 ≠ (gk_T2 b).2.1 := by decide +kernel
theorem gk_y2 : ∀ (k : Nat) (t : FieldType × Bool), (gk_fty.getD 2 [])[k]? = some t → parseFieldDescriptor (gk_T2 k).2.2.1 = some t.1 ∧ (gk_T2 k).2.2.2 = t.2 := by
  intro k t h
  have hk : k < 6 := (List.getElem?_eq_some_iff.mp h).1
  have hall : (List.range 6).all (fun k => match (gk_fty.getD 2 [])[k]? with | some t => decide (parseFieldDescriptor (gk_T2 k).2.2.1 = some t.1 ∧ (gk_T2 k).2.2.2 = t.2) | none => true) = true := by decide +kernel
  have h1 := List.all_eq_true.mp hall k (List.mem_range.mpr hk)
  rw [h] at h1
  exact of_decide_eq_true h1
theorem gk_u3 : ∀ x ∈ u_ws gk_R3 gk_T3 14, x ∈ gk_tbl := fun x h => List.mem_filter.mpr ⟨rk_sub [577, 579, 581, 583, 585, 587, 589, 591, 593, 595, 597, 599, 601, 603] (by decide +kernel) x h, by
  obtain ⟨k, -, rfl⟩ := List.mem_map.mp h
  unfold u_lay
  split <;> rfl⟩
theorem gk_n3 : ∀ a, a < 14 → ∀ b, b < 14 → a ≠ b → (gk_T3 a).2.1 ≠ (gk_T3 b).2.1 := by decide +kernel
theorem gk_y3 : ∀ (k : Nat) (t : FieldType × Bool), (gk_fty.getD 3 [])[k]? = some t → parseFieldDescriptor (gk_T3 k).2.2.1 = some t.1 ∧ (gk_T3 k).2.2.2 = t.2 := by
  intro k t h
  have hk : k < 14 := (List.getElem?_eq_some_iff.mp h).1
  have hall : (List.range 14).all (fun k => match (gk_fty.getD 3 [])[k]? with | some t => decide (parseFieldDescriptor (gk_T3 k).2.2.1 = some t.1 ∧ (gk_T3 k).2.2.2 = t.2) | none => true) = true := by decide +kernel
  have h1 := List.all_eq_true.mp hall k (List.mem_range.mpr hk)
  rw [h] at h1
  exact of_decide_eq_true h1
theorem gk_u4 : ∀ x ∈ u_ws gk_R4 gk_T4 2, x ∈ gk_tbl := fun x h => List.mem_filter.mpr ⟨rk_sub [366, 368] (by decide +kernel) x h, by
  obtain ⟨k, -, rfl⟩ := List.mem_map.mp h
  unfold u_lay
  split <;> rfl⟩
theorem gk_n4 : ∀ a, a < 2 → ∀ b, b < 2 → a ≠ b → (gk_T4 a).2.1 ≠ (gk_T4 b).2.1 := by decide +kernel
theorem gk_y4 : ∀ (k : Nat) (t : FieldType × Bool), (gk_fty.getD 4 [])[k]? = some t → parseFieldDescriptor (gk_T4 k).2.2.1 = some t.1 ∧ (gk_T4 k).2.2.2 = t.2 := by
  intro k t h
  have hk : k < 2 := (List.getElem?_eq_some_iff.mp h).1
  have hall : (List.range 2).all (fun k => match (gk_fty.getD 4 [])[k]? with | some t => decide (parseFieldDescriptor (gk_T4 k).2.2.1 = some t.1 ∧ (gk_T4 k).2.2.2 = t.2) | none => true) = true := by decide +kernel
  have h1 := List.all_eq_true.mp hall k (List.mem_range.mpr hk)
  rw [h] at h1
  exact of_decide_eq_true h1
theorem gk_u5 : ∀ x ∈ u_ws gk_R5 gk_T5 11, x ∈ gk_tbl := fun x h => List.mem_filter.mpr ⟨rk_sub [722, 724, 726, 728, 730, 732, 734, 736, 738, 740, 742] (by decide +kernel) x h, by
  obtain ⟨k, -, rfl⟩ := List.mem_map.mp h
  unfold u_lay
  split <;> rfl⟩
theorem gk_n5 : ∀ a, a < 11 → ∀ b, b < 11 → a ≠ b → (gk_T5 a).2.1 ≠ (gk_T5 b).2.1 := by decide +kernel
theorem gk_y5 : ∀ (k : Nat) (t : FieldType × Bool), (gk_fty.getD 5 [])[k]? = some t → parseFieldDescriptor (gk_T5 k).2.2.1 = some t.1 ∧ (gk_T5 k).2.2.2 = t.2 := by
  intro k t h
  have hk : k < 11 := (List.getElem?_eq_some_iff.mp h).1
  have hall : (List.range 11).all (fun k => match (gk_fty.getD 5 [])[k]? with | some t => decide (parseFieldDescriptor (gk_T5 k).2.2.1 = some t.1 ∧ (gk_T5 k).2.2.2 = t.2) | none => true) = true := by decide +kernel
  have h1 := List.all_eq_true.mp hall k (List.mem_range.mpr hk)
  rw [h] at h1
  exact of_decide_eq_true h1
theorem gk_u6 : ∀ x ∈ u_ws gk_R6 gk_T6 6, x ∈ gk_tbl := fun x h => List.mem_filter.mpr ⟨rk_sub [625, 627, 629, 631, 633, 635] (by decide +kernel) x h, by
  obtain ⟨k, -, rfl⟩ := List.mem_map.mp h
  unfold u_lay
  split <;> rfl⟩
theorem gk_n6 : ∀ a, a < 6 → ∀ b, b < 6 → a ≠ b → (gk_T6 a).2.1 ≠ (gk_T6 b).2.1 := by decide +kernel
theorem gk_y6 : ∀ (k : Nat) (t : FieldType × Bool), (gk_fty.getD 6 [])[k]? = some t → parseFieldDescriptor (gk_T6 k).2.2.1 = some t.1 ∧ (gk_T6 k).2.2.2 = t.2 := by
  intro k t h
  have hk : k < 6 := (List.getElem?_eq_some_iff.mp h).1
  have hall : (List.range 6).all (fun k => match (gk_fty.getD 6 [])[k]? with | some t => decide (parseFieldDescriptor (gk_T6 k).2.2.1 = some t.1 ∧ (gk_T6 k).2.2.2 = t.2) | none => true) = true := by decide +kernel
  have h1 := List.all_eq_true.mp hall k (List.mem_range.mpr hk)
  rw [h] at h1
  exact of_decide_eq_true h1
theorem gk_u7 : ∀ x ∈ u_ws gk_R7 gk_T7 11, x ∈ gk_tbl := fun x h => List.mem_filter.mpr ⟨rk_sub [660, 662, 664, 666, 668, 670, 672, 674, 676, 678, 680] (by decide +kernel) x h, by
  obtain ⟨k, -, rfl⟩ := List.mem_map.mp h
  unfold u_lay
  split <;> rfl⟩
theorem gk_n7 : ∀ a, a < 11 → ∀ b, b < 11 → a ≠ b → (gk_T7 a).2.1 ≠ (gk_T7 b).2.1 := by decide +kernel
theorem gk_y7 : ∀ (k : Nat) (t : FieldType × Bool), (gk_fty.getD 7 [])[k]? = some t → parseFieldDescriptor (gk_T7 k).2.2.1 = some t.1 ∧ (gk_T7 k).2.2.2 = t.2 := by
  intro k t h
  have hk : k < 11 := (List.getElem?_eq_some_iff.mp h).1
  have hall : (List.range 11).all (fun k => match (gk_fty.getD 7 [])[k]? with | some t => decide (parseFieldDescriptor (gk_T7 k).2.2.1 = some t.1 ∧ (gk_T7 k).2.2.2 = t.2) | none => true) = true := by decide +kernel
  have h1 := List.all_eq_true.mp hall k (List.mem_range.mpr hk)
  rw [h] at h1
  exact of_decide_eq_true h1
theorem gk_u8 : ∀ x ∈ u_ws gk_R8 gk_T8 12, x ∈ gk_tbl := fun x h => List.mem_filter.mpr ⟨rk_sub [330, 332, 334, 336, 338, 340, 342, 344, 346, 348, 350, 352] (by decide +kernel) x h, by
  obtain ⟨k, -, rfl⟩ := List.mem_map.mp h
  unfold u_lay
  split <;> rfl⟩
theorem gk_n8 : ∀ a, a < 12 → ∀ b, b < 12 → a ≠ b → (gk_T8 a).2.1 ≠ (gk_T8 b).2.1 := by decide +kernel
theorem gk_y8 : ∀ (k : Nat) (t : FieldType × Bool), (gk_fty.getD 8 [])[k]? = some t → parseFieldDescriptor (gk_T8 k).2.2.1 = some t.1 ∧ (gk_T8 k).2.2.2 = t.2 := by
  intro k t h
  have hk : k < 12 := (List.getElem?_eq_some_iff.mp h).1
  have hall : (List.range 12).all (fun k => match (gk_fty.getD 8 [])[k]? with | some t => decide (parseFieldDescriptor (gk_T8 k).2.2.1 = some t.1 ∧ (gk_T8 k).2.2.2 = t.2) | none => true) = true := by decide +kernel
  have h1 := List.all_eq_true.mp hall k (List.mem_range.mpr hk)
  rw [h] at h1
  exact of_decide_eq_true h1
theorem gk_u9 : ∀ x ∈ u_ws gk_R9 gk_T9 8, x ∈ gk_tbl := fun x h => List.mem_filter.mpr ⟨rk_sub [517, 519, 521, 523, 525, 527, 529, 531] (by decide +kernel) x h, by
  obtain ⟨k, -, rfl⟩ := List.mem_map.mp h
  unfold u_lay
  split <;> rfl⟩
theorem gk_n9 : ∀ a, a < 8 → ∀ b, b < 8 → a ≠ b → (gk_T9 a).2.1 ≠ (gk_T9 b).2.1 := by decide +kernel
theorem gk_y9 : ∀ (k : Nat) (t : FieldType × Bool), (gk_fty.getD 9 [])[k]? = some t → parseFieldDescriptor (gk_T9 k).2.2.1 = some t.1 ∧ (gk_T9 k).2.2.2 = t.2 := by
  intro k t h
  have hk : k < 8 := (List.getElem?_eq_some_iff.mp h).1
  have hall : (List.range 8).all (fun k => match (gk_fty.getD 9 [])[k]? with | some t => decide (parseFieldDescriptor (gk_T9 k).2.2.1 = some t.1 ∧ (gk_T9 k).2.2.2 = t.2) | none => true) = true := by decide +kernel
  have h1 := List.all_eq_true.mp hall k (List.mem_range.mpr hk)
  rw [h] at h1
  exact of_decide_eq_true h1
theorem gk_u10 : ∀ x ∈ u_ws gk_R10 gk_T10 3, x ∈ gk_tbl := fun x h => List.mem_filter.mpr ⟨rk_sub [380, 382, 384] (by decide +kernel) x h, by
  obtain ⟨k, -, rfl⟩ := List.mem_map.mp h
  unfold u_lay
  split <;> rfl⟩
theorem gk_n10 : ∀ a, a < 3 → ∀ b, b < 3 → a ≠ b → (gk_T10 a).2.1 ≠ (gk_T10 b).2.1 := by decide +kernel
theorem gk_y10 : ∀ (k : Nat) (t : FieldType × Bool), (gk_fty.getD 10 [])[k]? = some t → parseFieldDescriptor (gk_T10 k).2.2.1 = some t.1 ∧ (gk_T10 k).2.2.2 = t.2 := by
  intro k t h
  have hk : k < 3 := (List.getElem?_eq_some_iff.mp h).1
  have hall : (List.range 3).all (fun k => match (gk_fty.getD 10 [])[k]? with | some t => decide (parseFieldDescriptor (gk_T10 k).2.2.1 = some t.1 ∧ (gk_T10 k).2.2.2 = t.2) | none => true) = true := by decide +kernel
  have h1 := List.all_eq_true.mp hall k (List.mem_range.mpr hk)
  rw [h] at h1
  exact of_decide_eq_true h1
theorem gk_u11 : ∀ x ∈ u_ws gk_R11 gk_T11 20, x ∈ gk_tbl := fun x h => List.mem_filter.mpr ⟨rk_sub [768, 770, 772, 774, 776, 778, 780, 782, 784, 786, 788, 790, 792, 794, 796, 798, 800, 802, 804, 806] (by decide +kernel) x h, by
  obtain ⟨k, -, rfl⟩ := List.mem_map.mp h
  unfold u_lay
  split <;> rfl⟩
theorem gk_n11 : ∀ a, a < 20 → ∀ b, b < 20 → a ≠ b → (gk_T11 a).2.1 ≠ (gk_T11 b).2.1 := by decide +kernel
theorem gk_y11 : ∀ (k : Nat) (t : FieldType × Bool), (gk_fty.getD 11 [])[k]? = some t → parseFieldDescriptor (gk_T11 k).2.2.1 = some t.1 ∧ (gk_T11 k).2.2.2 = t.2 := by
  intro k t h
  have hk : k < 20 := (List.getElem?_eq_some_iff.mp h).1
  have hall : (List.range 20).all (fun k => match (gk_fty.getD 11 [])[k]? with | some t => decide (parseFieldDescriptor (gk_T11 k).2.2.1 = some t.1 ∧ (gk_T11 k).2.2.2 = t.2) | none => true) = true := by decide +kernel
  have h1 := List.all_eq_true.mp hall k (List.mem_range.mpr hk)
  rw [h] at h1
  exact of_decide_eq_true h1
theorem gk_u12 : ∀ x ∈ u_ws gk_R12 gk_T12 43, x ∈ gk_tbl := fun x h => List.mem_filter.mpr ⟨rk_sub [1702, 1704, 1706, 1708, 1710, 1712, 1714, 1716, 1718, 1720, 1722, 1724, 1726, 1728, 1730, 1732, 1734, 1736, 1738, 1740, 1742, 1744, 1746, 1748, 1750, 1752, 1754, 1756, 1758, 1760, 1762, 1764, 1766, 1768, 1770, 1772, 1774, 1776, 1778, 1780, 1782, 1784, 1786] (by decide +kernel) x h, by
  obtain ⟨k, -, rfl⟩ := List.mem_map.mp h
  unfold u_lay
  split <;> rfl⟩
theorem gk_n12 : ∀ a, a < 43 → ∀ b, b < 43 → a ≠ b → (gk_T12 a).2.1 ≠ (gk_T12 b).2.1 := by decide +kernel
theorem gk_y12 : ∀ (k : Nat) (t : FieldType × Bool), (gk_fty.getD 12 [])[k]? = some t → parseFieldDescriptor (gk_T12 k).2.2.1 = some t.1 ∧ (gk_T12 k).2.2.2 = t.2 := by
  intro k t h
  have hk : k < 43 := (List.getElem?_eq_some_iff.mp h).1
  have hall : (List.range 43).all (fun k => match (gk_fty.getD 12 [])[k]? with | some t => decide (parseFieldDescriptor (gk_T12 k).2.2.1 = some t.1 ∧ (gk_T12 k).2.2.2 = t.2) | none => true) = true := by decide +kernel
  have h1 := List.all_eq_true.mp hall k (List.mem_range.mpr hk)
  rw [h] at h1
  exact of_decide_eq_true h1
theorem gk_clok : rk_clok gk_tbl gk_cl gk_fty gk_cln := by
  intro ci q h
  match ci, h with
  | 0, h => cases h; exact ⟨gk_u0, gk_n0, rfl, _, rfl, rfl, gk_y0⟩
  | 1, h => cases h; exact ⟨gk_u1, gk_n1, rfl, _, rfl, rfl, gk_y1⟩
  | 2, h => cases h; exact ⟨gk_u2, gk_n2, rfl, _, rfl, rfl, gk_y2⟩
  | 3, h => cases h; exact ⟨gk_u3, gk_n3, rfl, _, rfl, rfl, gk_y3⟩
  | 4, h => cases h; exact ⟨gk_u4, gk_n4, rfl, _, rfl, rfl, gk_y4⟩
  | 5, h => cases h; exact ⟨gk_u5, gk_n5, rfl, _, rfl, rfl, gk_y5⟩
  | 6, h => cases h; exact ⟨gk_u6, gk_n6, rfl, _, rfl, rfl, gk_y6⟩
  | 7, h => cases h; exact ⟨gk_u7, gk_n7, rfl, _, rfl, rfl, gk_y7⟩
  | 8, h => cases h; exact ⟨gk_u8, gk_n8, rfl, _, rfl, rfl, gk_y8⟩
  | 9, h => cases h; exact ⟨gk_u9, gk_n9, rfl, _, rfl, rfl, gk_y9⟩
  | 10, h => cases h; exact ⟨gk_u10, gk_n10, rfl, _, rfl, rfl, gk_y10⟩
  | 11, h => cases h; exact ⟨gk_u11, gk_n11, rfl, _, rfl, rfl, gk_y11⟩
  | 12, h => cases h; exact ⟨gk_u12, gk_n12, rfl, _, rfl, rfl, gk_y12⟩
  | k + 13, h => simp [gk_cl] at h
end
section
/-! ===== the program: methods ===== -/
def gk_m0 : rk_M2 := ([(0, .aload_n 0, 1), (1, .invokespecial 3, 3), (4, .aload_n 0, 1), (5, .bipush 8, 2), (7, .newarray .long, 2), (9, .putfield 9, 3), (12, .aload_n 0, 1), (13, .bipush 8, 2), (15, .newarray .int, 2), (17, .putfield 15, 3), (20, .aload_n 0, 1), (21, .bipush 8, 2), (23, .newarray .int, 2), (25, .putfield 19, 3), (28, .aload_n 0, 1), (29, .bipush 8, 2), (31, .newarray .int, 2), (33, .putfield 22, 3), (36, .aload_n 0, 1), (37, .bipush 8, 2), (39, .newarray .int, 2), (41, .putfield 25, 3), (44, .aload_n 0, 1), (45, .bipush 8, 2), (47, .newarray .int, 2), (49, .putfield 28, 3), (52, .aload_n 0, 1), (53, .sipush 160, 3), (56, .newarray .int, 2), (58, .putfield 31, 3), (61, .return_, 1)], 1, [(3, 11, 0, 0), (9, 2, 0, 0), (15, 2, 0, 1), (19, 2, 0, 2), (22, 2, 0, 3), (25, 2, 0, 4), (28, 2, 0, 5), (31, 2, 0, 6)], [], (Option.none : Option Jvm.ClassFile.FieldType), 0)
def gk_m1 : rk_M2 := ([(0, .aload_n 0, 1), (1, .iconst 0, 1), (2, .putfield 34, 3), (5, .aload_n 0, 1), (6, .iconst 0, 1), (7, .putfield 38, 3), (10, .aload_n 0, 1), (11, .iconst 0, 1), (12, .putfield 41, 3), (15, .aload_n 0, 1), (16, .getfield 22, 3), (19, .iconst 0, 1), (20, .invokestatic 44, 3), (23, .return_, 1)], 1, [(22, 0, 0, 3), (34, 0, 0, 7), (38, 0, 0, 8), (41, 0, 0, 9), (44, 7, 388, 2)], [], (Option.none : Option Jvm.ClassFile.FieldType), 0)
def gk_m2 : rk_M2 := ([(0, .aload_n 1, 1), (1, .getfield 9, 3), (4, .iconst 0, 1), (5, .aload_n 0, 1), (6, .getfield 9, 3), (9, .iconst 0, 1), (10, .bipush 8, 2), (12, .invokestatic 50, 3), (15, .aload_n 1, 1), (16, .getfield 15, 3), (19, .iconst 0, 1), (20, .aload_n 0, 1), (21, .getfield 15, 3), (24, .iconst 0, 1), (25, .bipush 8, 2), (27, .invokestatic 50, 3), (30, .aload_n 1, 1), (31, .getfield 19, 3), (34, .iconst 0, 1), (35, .aload_n 0, 1), (36, .getfield 19, 3), (39, .iconst 0, 1), (40, .bipush 8, 2), (42, .invokestatic 50, 3), (45, .aload_n 1, 1), (46, .getfield 22, 3), (49, .iconst 0, 1), (50, .aload_n 0, 1), (51, .getfield 22, 3), (54, .iconst 0, 1), (55, .bipush 8, 2), (57, .invokestatic 50, 3), (60, .aload_n 1, 1), (61, .getfield 25, 3), (64, .iconst 0, 1), (65, .aload_n 0, 1), (66, .getfield 25, 3), (69, .iconst 0, 1), (70, .bipush 8, 2), (72, .invokestatic 50, 3), (75, .aload_n 1, 1), (76, .getfield 28, 3), (79, .iconst 0, 1), (80, .aload_n 0, 1), (81, .getfield 28, 3), (84, .iconst 0, 1), (85, .bipush 8, 2), (87, .invokestatic 50, 3), (90, .aload_n 1, 1), (91, .getfield 31, 3), (94, .iconst 0, 1), (95, .aload_n 0, 1), (96, .getfield 31, 3), (99, .iconst 0, 1), (100, .sipush 160, 3), (103, .invokestatic 50, 3), (106, .aload_n 0, 1), (107, .aload_n 1, 1), (108, .getfield 34, 3), (111, .putfield 34, 3), (114, .aload_n 0, 1), (115, .aload_n 1, 1), (116, .getfield 38, 3), (119, .putfield 38, 3), (122, .aload_n 0, 1), (123, .aload_n 1, 1), (124, .getfield 41, 3), (127, .putfield 41, 3), (130, .return_, 1)], 2, [(9, 0, 0, 0), (15, 0, 0, 1), (19, 0, 0, 2), (22, 0, 0, 3), (25, 0, 0, 4), (28, 0, 0, 5), (31, 0, 0, 6), (34, 0, 0, 7), (38, 0, 0, 8), (41, 0, 0, 9), (50, 12, 0, 0)], [], (Option.none : Option Jvm.ClassFile.FieldType), 0)
def gk_m3 : rk_M2 := ([(0, .iload_n 1, 1), (1, .ifCond .lt 15, 3), (4, .iload_n 1, 1), (5, .aload_n 0, 1), (6, .getfield 34, 3), (9, .if_icmp .ge 7, 3), (12, .iconst 1, 1), (13, .goto 4, 3), (16, .iconst 0, 1), (17, .ireturn, 1)], 2, [(34, 0, 0, 7)], [], (Option.some Jvm.ClassFile.FieldType.boolean), 0)
def gk_m4 : rk_M2 := ([(0, .iload_n 1, 1), (1, .ifCond .le 17, 3), (4, .iload_n 1, 1), (5, .iconst 1, 1), (6, .aload_n 0, 1), (7, .getfield 34, 3), (10, .ishl, 1), (11, .if_icmp .ge 7, 3), (14, .iconst 1, 1), (15, .goto 4, 3), (18, .iconst 0, 1), (19, .ireturn, 1)], 2, [(34, 0, 0, 7)], [], (Option.some Jvm.ClassFile.FieldType.boolean), 0)
def gk_m5 : rk_M2 := ([(0, .iconst 0, 1), (1, .istore_n 3, 1), (2, .iload_n 3, 1), (3, .aload_n 0, 1), (4, .getfield 34, 3), (7, .if_icmp .ge 22, 3), (10, .aload_n 0, 1), (11, .getfield 9, 3), (14, .iload_n 3, 1), (15, .laload, 1), (16, .lload_n 1, 1), (17, .lcmp, 1), (18, .ifCond .ne 5, 3), (21, .iload_n 3, 1), (22, .ireturn, 1), (23, .iinc 3 1, 3), (26, .goto (-24), 3), (29, .iconst (-1), 1), (30, .ireturn, 1)], 4, [(9, 0, 0, 0), (34, 0, 0, 7)], [], (Option.some Jvm.ClassFile.FieldType.int), 0)
def gk_m6 : rk_M2 := ([(0, .aload_n 0, 1), (1, .getfield 38, 3), (4, .aload_n 0, 1), (5, .getfield 41, 3), (8, .ior, 1), (9, .iload_n 1, 1), (10, .ishr, 1), (11, .iconst 1, 1), (12, .iand, 1), (13, .ifCond .eq 7, 3), (16, .iconst 1, 1), (17, .goto 4, 3), (20, .iconst 0, 1), (21, .ireturn, 1)], 2, [(38, 0, 0, 8), (41, 0, 0, 9)], [], (Option.some Jvm.ClassFile.FieldType.boolean), 0)
def gk_m7 : rk_M2 := ([(0, .iconst 0, 1), (1, .istore_n 2, 1), (2, .iconst 0, 1), (3, .istore_n 3, 1), (4, .iload_n 3, 1), (5, .aload_n 0, 1), (6, .getfield 34, 3), (9, .if_icmp .ge 24, 3), (12, .iload_n 2, 1), (13, .iload_n 1, 1), (14, .iload_n 3, 1), (15, .ishr, 1), (16, .iconst 1, 1), (17, .iand, 1), (18, .aload_n 0, 1), (19, .getfield 15, 3), (22, .iload_n 3, 1), (23, .iaload, 1), (24, .imul, 1), (25, .iadd, 1), (26, .istore_n 2, 1), (27, .iinc 3 1, 3), (30, .goto (-26), 3), (33, .iload_n 2, 1), (34, .ireturn, 1)], 4, [(15, 0, 0, 1), (34, 0, 0, 7)], [], (Option.some Jvm.ClassFile.FieldType.int), 0)
def gk_m8 : rk_M2 := ([(0, .iload_n 3, 1), (1, .aload_n 2, 1), (2, .arraylength, 1), (3, .bipush 20, 2), (5, .invokestatic 56, 3), (8, .invokestatic 56, 3), (11, .istore 4, 2), (13, .iload 4, 2), (15, .iconst 1, 1), (16, .if_icmp .ge 4, 3), (19, .return_, 1), (20, .aload_n 2, 1), (21, .iconst 0, 1), (22, .aload_n 0, 1), (23, .getfield 31, 3), (26, .iload_n 1, 1), (27, .bipush 20, 2), (29, .imul, 1), (30, .iload 4, 2), (32, .invokestatic 50, 3), (35, .aload_n 0, 1), (36, .getfield 28, 3), (39, .iload_n 1, 1), (40, .iconst 0, 1), (41, .iastore, 1), (42, .aload_n 0, 1), (43, .getfield 25, 3), (46, .iload_n 1, 1), (47, .iload 4, 2), (49, .iastore, 1), (50, .aload_n 0, 1), (51, .dup, 1), (52, .getfield 41, 3), (55, .iconst 1, 1), (56, .iload_n 1, 1), (57, .ishl, 1), (58, .ior, 1), (59, .putfield 41, 3), (62, .return_, 1)], 5, [(25, 0, 0, 4), (28, 0, 0, 5), (31, 0, 0, 6), (41, 0, 0, 9), (50, 12, 0, 0), (56, 15, 0, 0)], [], (Option.none : Option Jvm.ClassFile.FieldType), 0)
def gk_m9 : rk_M2 := ([(0, .aload_n 0, 1), (1, .getfield 28, 3), (4, .iload_n 1, 1), (5, .iaload, 1), (6, .iload_n 2, 1), (7, .iadd, 1), (8, .istore_n 3, 1), (9, .iload_n 3, 1), (10, .ifCond .lt 23, 3), (13, .iload_n 3, 1), (14, .bipush 20, 2), (16, .if_icmp .ge 17, 3), (19, .aload_n 0, 1), (20, .getfield 31, 3), (23, .iload_n 1, 1), (24, .bipush 20, 2), (26, .imul, 1), (27, .iload_n 3, 1), (28, .iadd, 1), (29, .iaload, 1), (30, .goto 4, 3), (33, .iconst (-1), 1), (34, .ireturn, 1)], 4, [(28, 0, 0, 5), (31, 0, 0, 6)], [], (Option.some Jvm.ClassFile.FieldType.int), 0)
def gk_m10 : rk_M2 := ([(0, .aload_n 0, 1), (1, .getfield 19, 3), (4, .iload_n 1, 1), (5, .iload_n 2, 1), (6, .iastore, 1), (7, .aload_n 0, 1), (8, .getfield 22, 3), (11, .iload_n 1, 1), (12, .dup2, 1), (13, .iaload, 1), (14, .iconst 1, 1), (15, .iadd, 1), (16, .iastore, 1), (17, .aload_n 0, 1), (18, .getfield 28, 3), (21, .iload_n 1, 1), (22, .dup2, 1), (23, .iaload, 1), (24, .iconst 1, 1), (25, .iadd, 1), (26, .iastore, 1), (27, .aload_n 0, 1), (28, .getfield 25, 3), (31, .iload_n 1, 1), (32, .dup2, 1), (33, .iaload, 1), (34, .iconst 1, 1), (35, .isub, 1), (36, .iastore, 1), (37, .aload_n 0, 1), (38, .getfield 25, 3), (41, .iload_n 1, 1), (42, .iaload, 1), (43, .ifCond .gt 17, 3), (46, .aload_n 0, 1), (47, .dup, 1), (48, .getfield 41, 3), (51, .iconst 1, 1), (52, .iload_n 1, 1), (53, .ishl, 1), (54, .iconst (-1), 1), (55, .ixor, 1), (56, .iand, 1), (57, .putfield 41, 3), (60, .return_, 1)], 3, [(19, 0, 0, 2), (22, 0, 0, 3), (25, 0, 0, 4), (28, 0, 0, 5), (41, 0, 0, 9)], [], (Option.none : Option Jvm.ClassFile.FieldType), 0)
def gk_m11 : rk_M2 := ([(0, .aload_n 0, 1), (1, .getfield 41, 3), (4, .iload_n 1, 1), (5, .ishr, 1), (6, .iconst 1, 1), (7, .iand, 1), (8, .ifCond .eq 12, 3), (11, .aload_n 0, 1), (12, .getfield 25, 3), (15, .iload_n 1, 1), (16, .iaload, 1), (17, .goto 4, 3), (20, .iconst 0, 1), (21, .ireturn, 1)], 2, [(25, 0, 0, 4), (41, 0, 0, 9)], [], (Option.some Jvm.ClassFile.FieldType.int), 0)
def gk_m12 : rk_M2 := ([(0, .aload_n 0, 1), (1, .dup, 1), (2, .getfield 38, 3), (5, .iload_n 1, 1), (6, .ior, 1), (7, .putfield 38, 3), (10, .aload_n 0, 1), (11, .dup, 1), (12, .getfield 41, 3), (15, .iload_n 1, 1), (16, .iconst (-1), 1), (17, .ixor, 1), (18, .iand, 1), (19, .putfield 41, 3), (22, .return_, 1)], 2, [(38, 0, 0, 8), (41, 0, 0, 9)], [], (Option.none : Option Jvm.ClassFile.FieldType), 0)
def gk_m13 : rk_M2 := ([(0, .aload_n 0, 1), (1, .iload_n 1, 1), (2, .invokevirtual 62, 3), (5, .istore_n 2, 1), (6, .iload_n 1, 1), (7, .iload_n 1, 1), (8, .ineg, 1), (9, .iand, 1), (10, .istore_n 3, 1), (11, .iload_n 1, 1), (12, .iload_n 3, 1), (13, .ixor, 1), (14, .istore 4, 2), (16, .iload_n 1, 1), (17, .istore 5, 2), (19, .iload_n 2, 1), (20, .istore 6, 2), (22, .iconst 0, 1), (23, .istore 7, 2), (25, .iconst 0, 1), (26, .istore 8, 2), (28, .iload 8, 2), (30, .sipush 256, 3), (33, .if_icmp .ge 61, 3), (36, .iload_n 2, 1), (37, .iconst 2, 1), (38, .aload_n 0, 1), (39, .iload_n 3, 1), (40, .iload 7, 2), (42, .ior, 1), (43, .invokevirtual 62, 3), (46, .imul, 1), (47, .isub, 1), (48, .invokestatic 66, 3), (51, .istore 9, 2), (53, .iload 9, 2), (55, .iload 6, 2), (57, .if_icmp .ge 13, 3), (60, .iload 9, 2), (62, .istore 6, 2), (64, .iload_n 3, 1), (65, .iload 7, 2), (67, .ior, 1), (68, .istore 5, 2), (70, .iload 7, 2), (72, .iload 4, 2), (74, .isub, 1), (75, .iload 4, 2), (77, .iand, 1), (78, .istore 7, 2), (80, .iload 7, 2), (82, .ifCond .ne 6, 3), (85, .goto 9, 3), (88, .iinc 8 1, 3), (91, .goto (-63), 3), (94, .iload 5, 2), (96, .ireturn, 1)], 10, [(62, 5, 7, 1), (66, 17, 0, 0)], [], (Option.some Jvm.ClassFile.FieldType.int), 0)
def gk_m14 : rk_M2 := ([(0, .aload_n 3, 1), (1, .arraylength, 1), (2, .sipush 256, 3), (5, .if_icmp .ge 5, 3), (8, .iconst (-1), 1), (9, .ireturn, 1), (10, .iconst 0, 1), (11, .istore 4, 2), (13, .iload 4, 2), (15, .aload_n 0, 1), (16, .getfield 34, 3), (19, .if_icmp .ge 31, 3), (22, .iload_n 1, 1), (23, .iload 4, 2), (25, .ishr, 1), (26, .iconst 1, 1), (27, .iand, 1), (28, .ifCond .eq 16, 3), (31, .aload_n 0, 1), (32, .getfield 15, 3), (35, .iload 4, 2), (37, .iaload, 1), (38, .iload_n 2, 1), (39, .if_icmp .le 5, 3), (42, .iconst (-1), 1), (43, .ireturn, 1), (44, .iinc 4 1, 3), (47, .goto (-34), 3), (50, .aload_n 3, 1), (51, .iconst 0, 1), (52, .sipush 1000, 3), (55, .iastore, 1), (56, .iconst 1, 1), (57, .istore 4, 2), (59, .iload 4, 2), (61, .iconst 1, 1), (62, .aload_n 0, 1), (63, .getfield 34, 3), (66, .ishl, 1), (67, .if_icmp .ge 30, 3), (70, .iload 4, 2), (72, .iload_n 1, 1), (73, .iconst (-1), 1), (74, .ixor, 1), (75, .iand, 1), (76, .ifCond .ne 15, 3), (79, .aload_n 3, 1), (80, .iload 4, 2), (82, .aload_n 0, 1), (83, .iload 4, 2), (85, .iload_n 2, 1), (86, .aload_n 3, 1), (87, .invokevirtual 69, 3), (90, .iastore, 1), (91, .iinc 4 1, 3), (94, .goto (-35), 3), (97, .aload_n 3, 1), (98, .iload_n 1, 1), (99, .iaload, 1), (100, .sipush 1000, 3), (103, .idiv, 1), (104, .ireturn, 1)], 5, [(15, 0, 0, 1), (34, 0, 0, 7), (69, 5, 15, 3)], [], (Option.some Jvm.ClassFile.FieldType.int), 0)
def gk_m15 : rk_M2 := ([(0, .ldc 73, 2), (2, .istore 4, 2), (4, .iconst 0, 1), (5, .istore 5, 2), (7, .iload 5, 2), (9, .aload_n 0, 1), (10, .getfield 34, 3), (13, .if_icmp .ge 102, 3), (16, .iload_n 1, 1), (17, .iload 5, 2), (19, .ishr, 1), (20, .iconst 1, 1), (21, .iand, 1), (22, .ifCond .eq 87, 3), (25, .aload_n 3, 1), (26, .iload_n 1, 1), (27, .iconst 1, 1), (28, .iload 5, 2), (30, .ishl, 1), (31, .ixor, 1), (32, .iaload, 1), (33, .istore 6, 2), (35, .iload 6, 2), (37, .sipush 1000, 3), (40, .irem, 1), (41, .aload_n 0, 1), (42, .getfield 15, 3), (45, .iload 5, 2), (47, .iaload, 1), (48, .iadd, 1), (49, .iload_n 2, 1), (50, .if_icmp .gt 7, 3), (53, .iconst 1, 1), (54, .goto 4, 3), (57, .iconst 0, 1), (58, .istore 7, 2), (60, .iload 7, 2), (62, .ifCond .eq 16, 3), (65, .iload 6, 2), (67, .aload_n 0, 1), (68, .getfield 15, 3), (71, .iload 5, 2), (73, .iaload, 1), (74, .iadd, 1), (75, .goto 23, 3), (78, .iload 6, 2), (80, .sipush 1000, 3), (83, .idiv, 1), (84, .iconst 1, 1), (85, .iadd, 1), (86, .sipush 1000, 3), (89, .imul, 1), (90, .aload_n 0, 1), (91, .getfield 15, 3), (94, .iload 5, 2), (96, .iaload, 1), (97, .iadd, 1), (98, .istore 8, 2), (100, .iload 4, 2), (102, .iload 8, 2), (104, .invokestatic 56, 3), (107, .istore 4, 2), (109, .iinc 5 1, 3), (112, .goto (-105), 3), (115, .iload 4, 2), (117, .ireturn, 1)], 9, [(15, 0, 0, 1), (34, 0, 0, 7), (56, 15, 0, 0)], [(73, .int 1000000)], (Option.some Jvm.ClassFile.FieldType.int), 0)
def gk_m16 : rk_M2 := ([(0, .aload_n 0, 1), (1, .invokespecial 3, 3), (4, .aload_n 0, 1), (5, .bipush 21, 2), (7, .newarray .long, 2), (9, .putfield 9, 3), (12, .aload_n 0, 1), (13, .bipush 21, 2), (15, .newarray .long, 2), (17, .putfield 15, 3), (20, .return_, 1)], 1, [(3, 11, 0, 0), (9, 2, 1, 0), (15, 2, 1, 1)], [], (Option.none : Option Jvm.ClassFile.FieldType), 1)
def gk_m17 : rk_M2 := ([(0, .iload_n 0, 1), (1, .ifCond .lt 35, 3), (4, .iload_n 0, 1), (5, .bipush 10, 2), (7, .if_icmp .gt 29, 3), (10, .iload_n 1, 1), (11, .ifCond .lt 25, 3), (14, .iload_n 1, 1), (15, .bipush 16, 2), (17, .if_icmp .gt 19, 3), (20, .iload_n 2, 1), (21, .ifCond .lt 15, 3), (24, .iload_n 2, 1), (25, .bipush 16, 2), (27, .iload_n 1, 1), (28, .isub, 1), (29, .if_icmp .gt 7, 3), (32, .iconst 1, 1), (33, .goto 4, 3), (36, .iconst 0, 1), (37, .ireturn, 1)], 3, [], [], (Option.some Jvm.ClassFile.FieldType.boolean), 1)
def gk_m18 : rk_M2 := ([(0, .lconst 1, 1), (1, .iconst 4, 1), (2, .iload_n 0, 1), (3, .imul, 1), (4, .lshl, 1), (5, .lreturn, 1)], 1, [], [], (Option.some Jvm.ClassFile.FieldType.long), 1)
def gk_m19 : rk_M2 := ([(0, .aload_n 0, 1), (1, .iload_n 1, 1), (2, .putfield 18, 3), (5, .aload_n 0, 1), (6, .getfield 9, 3), (9, .lconst 0, 1), (10, .invokestatic 22, 3), (13, .aload_n 0, 1), (14, .getfield 9, 3), (17, .bipush 10, 2), (19, .lconst 1, 1), (20, .lastore, 1), (21, .iconst 0, 1), (22, .istore 5, 2), (24, .iload 5, 2), (26, .iload_n 2, 1), (27, .if_icmp .ge 170, 3), (30, .aload_n 0, 1), (31, .getfield 15, 3), (34, .lconst 0, 1), (35, .invokestatic 22, 3), (38, .iconst 0, 1), (39, .istore 6, 2), (41, .iload 6, 2), (43, .bipush 20, 2), (45, .if_icmp .gt 131, 3), (48, .aload_n 0, 1), (49, .iload 6, 2), (51, .invokevirtual 28, 3), (54, .istore 7, 2), (56, .iload 7, 2), (58, .sipush 999, 3), (61, .if_icmp .ge 17, 3), (64, .iload 6, 2), (66, .bipush 20, 2), (68, .if_icmp .ge 10, 3), (71, .iload 6, 2), (73, .iconst 1, 1), (74, .iadd, 1), (75, .goto 5, 3), (78, .iload 6, 2), (80, .istore 8, 2), (82, .iload 7, 2), (84, .ifCond .le 15, 3), (87, .iload 6, 2), (89, .ifCond .le 10, 3), (92, .iload 6, 2), (94, .iconst 1, 1), (95, .isub, 1), (96, .goto 5, 3), (99, .iload 6, 2), (101, .istore 9, 2), (103, .aload_n 0, 1), (104, .getfield 15, 3), (107, .iload 8, 2), (109, .dup2, 1), (110, .laload, 1), (111, .aload_n 0, 1), (112, .getfield 9, 3), (115, .iload 6, 2), (117, .laload, 1), (118, .iload_n 3, 1), (119, .i2l, 1), (120, .lmul, 1), (121, .ladd, 1), (122, .lastore, 1), (123, .aload_n 0, 1), (124, .getfield 15, 3), (127, .iload 9, 2), (129, .dup2, 1), (130, .laload, 1), (131, .aload_n 0, 1), (132, .getfield 9, 3), (135, .iload 6, 2), (137, .laload, 1), (138, .iload 4, 2), (140, .i2l, 1), (141, .lmul, 1), (142, .ladd, 1), (143, .lastore, 1), (144, .aload_n 0, 1), (145, .getfield 15, 3), (148, .iload 6, 2), (150, .dup2, 1), (151, .laload, 1), (152, .aload_n 0, 1), (153, .getfield 9, 3), (156, .iload 6, 2), (158, .laload, 1), (159, .bipush 16, 2), (161, .iload_n 3, 1), (162, .isub, 1), (163, .iload 4, 2), (165, .isub, 1), (166, .i2l, 1), (167, .lmul, 1), (168, .ladd, 1), (169, .lastore, 1), (170, .iinc 6 1, 3), (173, .goto (-132), 3), (176, .aload_n 0, 1), (177, .getfield 15, 3), (180, .iconst 0, 1), (181, .aload_n 0, 1), (182, .getfield 9, 3), (185, .iconst 0, 1), (186, .bipush 21, 2), (188, .invokestatic 32, 3), (191, .iinc 5 1, 3), (194, .goto (-170), 3), (197, .return_, 1)], 10, [(9, 0, 1, 0), (15, 0, 1, 1), (18, 0, 1, 2), (22, 7, 387, 2), (28, 5, 20, 1), (32, 12, 0, 0)], [], (Option.none : Option Jvm.ClassFile.FieldType), 1)
def gk_m20 : rk_M2 := ([(0, .aload_n 0, 1), (1, .getfield 18, 3), (4, .iload_n 1, 1), (5, .iadd, 1), (6, .bipush 10, 2), (8, .isub, 1), (9, .ireturn, 1)], 2, [(18, 0, 1, 2)], [], (Option.some Jvm.ClassFile.FieldType.int), 1)
def gk_m21 : rk_M2 := ([(0, .lconst 0, 1), (1, .lstore_n 2, 1), (2, .iconst 0, 1), (3, .istore 4, 2), (5, .iload 4, 2), (7, .bipush 20, 2), (9, .if_icmp .gt 29, 3), (12, .aload_n 0, 1), (13, .iload 4, 2), (15, .invokevirtual 28, 3), (18, .iload_n 1, 1), (19, .if_icmp .lt 13, 3), (22, .lload_n 2, 1), (23, .aload_n 0, 1), (24, .getfield 9, 3), (27, .iload 4, 2), (29, .laload, 1), (30, .ladd, 1), (31, .lstore_n 2, 1), (32, .iinc 4 1, 3), (35, .goto (-30), 3), (38, .lload_n 2, 1), (39, .lreturn, 1)], 5, [(9, 0, 1, 0), (28, 5, 20, 1)], [], (Option.some Jvm.ClassFile.FieldType.long), 1)
def gk_m22 : rk_M2 := ([(0, .lconst 0, 1), (1, .lstore_n 1, 1), (2, .iconst 0, 1), (3, .istore_n 3, 1), (4, .iload_n 3, 1), (5, .bipush 20, 2), (7, .if_icmp .gt 25, 3), (10, .lload_n 1, 1), (11, .aload_n 0, 1), (12, .getfield 9, 3), (15, .iload_n 3, 1), (16, .laload, 1), (17, .aload_n 0, 1), (18, .iload_n 3, 1), (19, .invokevirtual 28, 3), (22, .i2l, 1), (23, .lmul, 1), (24, .ladd, 1), (25, .lstore_n 1, 1), (26, .iinc 3 1, 3), (29, .goto (-25), 3), (32, .lload_n 1, 1), (33, .lreturn, 1)], 4, [(9, 0, 1, 0), (28, 5, 20, 1)], [], (Option.some Jvm.ClassFile.FieldType.long), 1)
def gk_m23 : rk_M2 := ([(0, .aload_n 0, 1), (1, .invokespecial 3, 3), (4, .aload_n 0, 1), (5, .bipush 10, 2), (7, .newarray .int, 2), (9, .putfield 9, 3), (12, .aload_n 0, 1), (13, .bipush 10, 2), (15, .newarray .int, 2), (17, .putfield 15, 3), (20, .aload_n 0, 1), (21, .bipush 10, 2), (23, .newarray .int, 2), (25, .putfield 18, 3), (28, .aload_n 0, 1), (29, .sipush 200, 3), (32, .newarray .int, 2), (34, .putfield 21, 3), (37, .return_, 1)], 1, [(3, 11, 0, 0), (9, 2, 2, 0), (15, 2, 2, 1), (18, 2, 2, 2), (21, 2, 2, 3)], [], (Option.none : Option Jvm.ClassFile.FieldType), 2)
def gk_m24 : rk_M2 := ([(0, .aload_n 0, 1), (1, .getfield 9, 3), (4, .iconst 0, 1), (5, .invokestatic 24, 3), (8, .aload_n 0, 1), (9, .getfield 15, 3), (12, .iconst 0, 1), (13, .invokestatic 24, 3), (16, .aload_n 0, 1), (17, .getfield 18, 3), (20, .iconst 0, 1), (21, .invokestatic 24, 3), (24, .aload_n 0, 1), (25, .getfield 21, 3), (28, .iconst 0, 1), (29, .invokestatic 24, 3), (32, .aload_n 0, 1), (33, .iconst 0, 1), (34, .putfield 30, 3), (37, .aload_n 0, 1), (38, .iconst 0, 1), (39, .putfield 34, 3), (42, .return_, 1)], 1, [(9, 0, 2, 0), (15, 0, 2, 1), (18, 0, 2, 2), (21, 0, 2, 3), (24, 7, 388, 2), (30, 0, 2, 4), (34, 0, 2, 5)], [], (Option.none : Option Jvm.ClassFile.FieldType), 2)
def gk_m25 : rk_M2 := ([(0, .aload_n 1, 1), (1, .getfield 9, 3), (4, .iconst 0, 1), (5, .aload_n 0, 1), (6, .getfield 9, 3), (9, .iconst 0, 1), (10, .bipush 10, 2), (12, .invokestatic 37, 3), (15, .aload_n 1, 1), (16, .getfield 15, 3), (19, .iconst 0, 1), (20, .aload_n 0, 1), (21, .getfield 15, 3), (24, .iconst 0, 1), (25, .bipush 10, 2), (27, .invokestatic 37, 3), (30, .aload_n 1, 1), (31, .getfield 18, 3), (34, .iconst 0, 1), (35, .aload_n 0, 1), (36, .getfield 18, 3), (39, .iconst 0, 1), (40, .bipush 10, 2), (42, .invokestatic 37, 3), (45, .aload_n 1, 1), (46, .getfield 21, 3), (49, .iconst 0, 1), (50, .aload_n 0, 1), (51, .getfield 21, 3), (54, .iconst 0, 1), (55, .sipush 200, 3), (58, .invokestatic 37, 3), (61, .aload_n 0, 1), (62, .aload_n 1, 1), (63, .getfield 30, 3), (66, .putfield 30, 3), (69, .aload_n 0, 1), (70, .aload_n 1, 1), (71, .getfield 34, 3), (74, .putfield 34, 3), (77, .return_, 1)], 2, [(9, 0, 2, 0), (15, 0, 2, 1), (18, 0, 2, 2), (21, 0, 2, 3), (30, 0, 2, 4), (34, 0, 2, 5), (37, 12, 0, 0)], [], (Option.none : Option Jvm.ClassFile.FieldType), 2)
def gk_m26 : rk_M2 := ([(0, .aload_n 0, 1), (1, .getfield 21, 3), (4, .iload_n 2, 1), (5, .bipush 10, 2), (7, .imul, 1), (8, .iload_n 1, 1), (9, .iadd, 1), (10, .dup2, 1), (11, .iaload, 1), (12, .iconst 1, 1), (13, .iadd, 1), (14, .iastore, 1), (15, .aload_n 0, 1), (16, .getfield 18, 3), (19, .iload_n 1, 1), (20, .dup2, 1), (21, .iaload, 1), (22, .iconst 1, 1), (23, .iadd, 1), (24, .iastore, 1), (25, .aload_n 0, 1), (26, .dup, 1), (27, .getfield 30, 3), (30, .iconst 1, 1), (31, .iadd, 1), (32, .putfield 30, 3), (35, .return_, 1)], 3, [(18, 0, 2, 2), (21, 0, 2, 3), (30, 0, 2, 4)], [], (Option.none : Option Jvm.ClassFile.FieldType), 2)
def gk_m27 : rk_M2 := ([(0, .aload_n 0, 1), (1, .getfield 30, 3), (4, .ifCond .ne 4, 3), (7, .return_, 1), (8, .iconst 0, 1), (9, .istore_n 3, 1), (10, .iload_n 3, 1), (11, .bipush 10, 2), (13, .if_icmp .ge 79, 3), (16, .aload_n 0, 1), (17, .getfield 21, 3), (20, .iload_n 1, 1), (21, .bipush 10, 2), (23, .imul, 1), (24, .iload_n 3, 1), (25, .iadd, 1), (26, .iaload, 1), (27, .istore 4, 2), (29, .aload_n 0, 1), (30, .getfield 21, 3), (33, .iload_n 1, 1), (34, .bipush 10, 2), (36, .imul, 1), (37, .iload_n 3, 1), (38, .iadd, 1), (39, .iconst 0, 1), (40, .iastore, 1), (41, .aload_n 0, 1), (42, .getfield 18, 3), (45, .iload_n 3, 1), (46, .dup2, 1), (47, .iaload, 1), (48, .iload 4, 2), (50, .isub, 1), (51, .iastore, 1), (52, .aload_n 0, 1), (53, .dup, 1), (54, .getfield 30, 3), (57, .iload 4, 2), (59, .isub, 1), (60, .putfield 30, 3), (63, .aload_n 0, 1), (64, .getfield 9, 3), (67, .iload_n 3, 1), (68, .sipush 999, 3), (71, .aload_n 0, 1), (72, .getfield 9, 3), (75, .iload_n 3, 1), (76, .iaload, 1), (77, .iload_n 2, 1), (78, .iload 4, 2), (80, .imul, 1), (81, .iadd, 1), (82, .invokestatic 43, 3), (85, .iastore, 1), (86, .iinc 3 1, 3), (89, .goto (-79), 3), (92, .return_, 1)], 5, [(9, 0, 2, 0), (18, 0, 2, 2), (21, 0, 2, 3), (30, 0, 2, 4), (43, 15, 0, 0)], [], (Option.none : Option Jvm.ClassFile.FieldType), 2)
def gk_m28 : rk_M2 := ([(0, .aload_n 0, 1), (1, .dup, 1), (2, .getfield 34, 3), (5, .iconst 1, 1), (6, .iload_n 1, 1), (7, .ishl, 1), (8, .ior, 1), (9, .putfield 34, 3), (12, .aload_n 0, 1), (13, .getfield 9, 3), (16, .iload_n 1, 1), (17, .iconst 0, 1), (18, .iastore, 1), (19, .aload_n 0, 1), (20, .dup, 1), (21, .getfield 30, 3), (24, .aload_n 0, 1), (25, .getfield 18, 3), (28, .iload_n 1, 1), (29, .iaload, 1), (30, .isub, 1), (31, .putfield 30, 3), (34, .aload_n 0, 1), (35, .getfield 18, 3), (38, .iload_n 1, 1), (39, .iconst 0, 1), (40, .iastore, 1), (41, .iconst 0, 1), (42, .istore_n 2, 1), (43, .iload_n 2, 1), (44, .bipush 20, 2), (46, .if_icmp .ge 21, 3), (49, .aload_n 0, 1), (50, .getfield 21, 3), (53, .iload_n 2, 1), (54, .bipush 10, 2), (56, .imul, 1), (57, .iload_n 1, 1), (58, .iadd, 1), (59, .iconst 0, 1), (60, .iastore, 1), (61, .iinc 2 1, 3), (64, .goto (-21), 3), (67, .return_, 1)], 3, [(9, 0, 2, 0), (18, 0, 2, 2), (21, 0, 2, 3), (30, 0, 2, 4), (34, 0, 2, 5)], [], (Option.none : Option Jvm.ClassFile.FieldType), 2)
def gk_m29 : rk_M2 := ([(0, .aload_n 0, 1), (1, .invokespecial 3, 3), (4, .aload_n 0, 1), (5, .bipush 10, 2), (7, .newarray .long, 2), (9, .putfield 9, 3), (12, .aload_n 0, 1), (13, .bipush 10, 2), (15, .newarray .int, 2), (17, .putfield 15, 3), (20, .aload_n 0, 1), (21, .bipush 10, 2), (23, .newarray .int, 2), (25, .putfield 19, 3), (28, .aload_n 0, 1), (29, .bipush 10, 2), (31, .newarray .int, 2), (33, .putfield 22, 3), (36, .aload_n 0, 1), (37, .bipush 10, 2), (39, .newarray .int, 2), (41, .putfield 25, 3), (44, .aload_n 0, 1), (45, .new 28, 3), (48, .dup, 1), (49, .invokespecial 30, 3), (52, .putfield 31, 3), (55, .aload_n 0, 1), (56, .new 35, 3), (59, .dup, 1), (60, .invokespecial 37, 3), (63, .putfield 38, 3), (66, .aload_n 0, 1), (67, .new 42, 3), (70, .dup, 1), (71, .invokespecial 44, 3), (74, .putfield 45, 3), (77, .aload_n 0, 1), (78, .iconst 2, 1), (79, .putfield 49, 3), (82, .aload_n 0, 1), (83, .iconst 4, 1), (84, .putfield 53, 3), (87, .aload_n 0, 1), (88, .iconst 1, 1), (89, .putfield 56, 3), (92, .return_, 1)], 1, [(3, 11, 0, 0), (9, 2, 3, 0), (15, 2, 3, 1), (19, 2, 3, 2), (22, 2, 3, 3), (25, 2, 3, 4), (28, 3, 2, 0), (30, 10, 23, 0), (31, 2, 3, 5), (35, 3, 0, 0), (37, 10, 0, 0), (38, 2, 3, 6), (42, 3, 9, 0), (44, 10, 115, 0), (45, 2, 3, 7), (49, 0, 3, 10), (53, 0, 3, 11), (56, 0, 3, 12)], [], (Option.none : Option Jvm.ClassFile.FieldType), 3)
def gk_m30 : rk_M2 := ([(0, .aload_n 0, 1), (1, .getfield 15, 3), (4, .iconst 0, 1), (5, .invokestatic 59, 3), (8, .aload_n 0, 1), (9, .getfield 19, 3), (12, .iconst 0, 1), (13, .invokestatic 59, 3), (16, .aload_n 0, 1), (17, .getfield 22, 3), (20, .iconst 0, 1), (21, .invokestatic 59, 3), (24, .aload_n 0, 1), (25, .getfield 31, 3), (28, .invokevirtual 65, 3), (31, .aload_n 0, 1), (32, .getfield 38, 3), (35, .invokevirtual 68, 3), (38, .aload_n 0, 1), (39, .iconst 0, 1), (40, .putfield 69, 3), (43, .aload_n 0, 1), (44, .iconst 0, 1), (45, .putfield 72, 3), (48, .aload_n 0, 1), (49, .iconst 2, 1), (50, .putfield 49, 3), (53, .aload_n 0, 1), (54, .iconst 4, 1), (55, .putfield 53, 3), (58, .aload_n 0, 1), (59, .iconst 1, 1), (60, .putfield 56, 3), (63, .aload_n 0, 1), (64, .iconst 0, 1), (65, .putfield 75, 3), (68, .return_, 1)], 1, [(15, 0, 3, 1), (19, 0, 3, 2), (22, 0, 3, 3), (31, 0, 3, 5), (38, 0, 3, 6), (49, 0, 3, 10), (53, 0, 3, 11), (56, 0, 3, 12), (59, 7, 388, 2), (65, 6, 24, 0), (68, 6, 1, 0), (69, 0, 3, 8), (72, 0, 3, 9), (75, 0, 3, 13)], [], (Option.none : Option Jvm.ClassFile.FieldType), 3)
def gk_m31 : rk_M2 := ([(0, .aload_n 1, 1), (1, .getfield 9, 3), (4, .iconst 0, 1), (5, .aload_n 0, 1), (6, .getfield 9, 3), (9, .iconst 0, 1), (10, .bipush 10, 2), (12, .invokestatic 78, 3), (15, .aload_n 1, 1), (16, .getfield 15, 3), (19, .iconst 0, 1), (20, .aload_n 0, 1), (21, .getfield 15, 3), (24, .iconst 0, 1), (25, .bipush 10, 2), (27, .invokestatic 78, 3), (30, .aload_n 1, 1), (31, .getfield 19, 3), (34, .iconst 0, 1), (35, .aload_n 0, 1), (36, .getfield 19, 3), (39, .iconst 0, 1), (40, .bipush 10, 2), (42, .invokestatic 78, 3), (45, .aload_n 1, 1), (46, .getfield 22, 3), (49, .iconst 0, 1), (50, .aload_n 0, 1), (51, .getfield 22, 3), (54, .iconst 0, 1), (55, .bipush 10, 2), (57, .invokestatic 78, 3), (60, .aload_n 0, 1), (61, .getfield 31, 3), (64, .aload_n 1, 1), (65, .getfield 31, 3), (68, .invokevirtual 84, 3), (71, .aload_n 0, 1), (72, .getfield 38, 3), (75, .aload_n 1, 1), (76, .getfield 38, 3), (79, .invokevirtual 88, 3), (82, .aload_n 0, 1), (83, .aload_n 1, 1), (84, .getfield 69, 3), (87, .putfield 69, 3), (90, .aload_n 0, 1), (91, .aload_n 1, 1), (92, .getfield 72, 3), (95, .putfield 72, 3), (98, .aload_n 0, 1), (99, .aload_n 1, 1), (100, .getfield 49, 3), (103, .putfield 49, 3), (106, .aload_n 0, 1), (107, .aload_n 1, 1), (108, .getfield 53, 3), (111, .putfield 53, 3), (114, .aload_n 0, 1), (115, .aload_n 1, 1), (116, .getfield 56, 3), (119, .putfield 56, 3), (122, .aload_n 0, 1), (123, .aload_n 1, 1), (124, .getfield 75, 3), (127, .putfield 75, 3), (130, .return_, 1)], 2, [(9, 0, 3, 0), (15, 0, 3, 1), (19, 0, 3, 2), (22, 0, 3, 3), (31, 0, 3, 5), (38, 0, 3, 6), (49, 0, 3, 10), (53, 0, 3, 11), (56, 0, 3, 12), (69, 0, 3, 8), (72, 0, 3, 9), (75, 0, 3, 13), (78, 12, 0, 0), (84, 6, 25, 1), (88, 6, 2, 1)], [], (Option.none : Option Jvm.ClassFile.FieldType), 3)
def gk_m32 : rk_M2 := ([(0, .aload_n 0, 1), (1, .getfield 69, 3), (4, .bipush 10, 2), (6, .if_icmp .lt 4, 3), (9, .return_, 1), (10, .aload_n 0, 1), (11, .getfield 9, 3), (14, .aload_n 0, 1), (15, .getfield 69, 3), (18, .lload_n 1, 1), (19, .lastore, 1), (20, .aload_n 0, 1), (21, .getfield 31, 3), (24, .getfield 91, 3), (27, .aload_n 0, 1), (28, .getfield 69, 3), (31, .iload_n 3, 1), (32, .ifCond .eq 7, 3), (35, .iconst 0, 1), (36, .goto 5, 3), (39, .iload 4, 2), (41, .iastore, 1), (42, .aload_n 0, 1), (43, .dup, 1), (44, .getfield 72, 3), (47, .iload_n 3, 1), (48, .ifCond .eq 12, 3), (51, .iconst 1, 1), (52, .aload_n 0, 1), (53, .getfield 69, 3), (56, .ishl, 1), (57, .goto 4, 3), (60, .iconst 0, 1), (61, .ior, 1), (62, .putfield 72, 3), (65, .aload_n 0, 1), (66, .dup, 1), (67, .getfield 69, 3), (70, .iconst 1, 1), (71, .iadd, 1), (72, .putfield 69, 3), (75, .return_, 1)], 5, [(9, 0, 3, 0), (31, 0, 3, 5), (69, 0, 3, 8), (72, 0, 3, 9), (91, 1, 2, 0)], [], (Option.none : Option Jvm.ClassFile.FieldType), 3)
def gk_m33 : rk_M2 := ([(0, .aload_n 0, 1), (1, .getfield 38, 3), (4, .getfield 94, 3), (7, .istore 5, 2), (9, .iload 5, 2), (11, .bipush 8, 2), (13, .if_icmp .ge 12, 3), (16, .aload_n 0, 1), (17, .iload 4, 2), (19, .invokevirtual 97, 3), (22, .ifCond .ne 4, 3), (25, .return_, 1), (26, .aload_n 0, 1), (27, .getfield 38, 3), (30, .getfield 101, 3), (33, .iload 5, 2), (35, .lload_n 1, 1), (36, .lastore, 1), (37, .aload_n 0, 1), (38, .getfield 38, 3), (41, .getfield 102, 3), (44, .iload 5, 2), (46, .iload_n 3, 1), (47, .iastore, 1), (48, .aload_n 0, 1), (49, .getfield 38, 3), (52, .getfield 105, 3), (55, .iload 5, 2), (57, .iload 4, 2), (59, .iastore, 1), (60, .aload_n 0, 1), (61, .getfield 22, 3), (64, .iload 4, 2), (66, .dup2, 1), (67, .iaload, 1), (68, .iconst 1, 1), (69, .iload 5, 2), (71, .ishl, 1), (72, .ior, 1), (73, .iastore, 1), (74, .aload_n 0, 1), (75, .getfield 38, 3), (78, .dup, 1), (79, .getfield 94, 3), (82, .iconst 1, 1), (83, .iadd, 1), (84, .putfield 94, 3), (87, .return_, 1)], 6, [(22, 0, 3, 3), (38, 0, 3, 6), (94, 1, 0, 7), (97, 5, 34, 1), (101, 1, 0, 0), (102, 1, 0, 1), (105, 1, 0, 2)], [], (Option.none : Option Jvm.ClassFile.FieldType), 3)
def gk_m34 : rk_M2 := ([(0, .iload_n 1, 1), (1, .ifCond .lt 15, 3), (4, .iload_n 1, 1), (5, .aload_n 0, 1), (6, .getfield 69, 3), (9, .if_icmp .ge 7, 3), (12, .iconst 1, 1), (13, .goto 4, 3), (16, .iconst 0, 1), (17, .ireturn, 1)], 2, [(69, 0, 3, 8)], [], (Option.some Jvm.ClassFile.FieldType.boolean), 3)
def gk_m35 : rk_M2 := ([(0, .aload_n 0, 1), (1, .iload_n 1, 1), (2, .invokevirtual 97, 3), (5, .ifCond .eq 18, 3), (8, .aload_n 0, 1), (9, .getfield 72, 3), (12, .iload_n 1, 1), (13, .ishr, 1), (14, .iconst 1, 1), (15, .iand, 1), (16, .ifCond .eq 7, 3), (19, .iconst 1, 1), (20, .goto 4, 3), (23, .iconst 0, 1), (24, .ireturn, 1)], 2, [(72, 0, 3, 9), (97, 5, 34, 1)], [], (Option.some Jvm.ClassFile.FieldType.boolean), 3)
def gk_m36 : rk_M2 := ([(0, .aload_n 0, 1), (1, .iload_n 1, 1), (2, .invokevirtual 97, 3), (5, .ifCond .eq 18, 3), (8, .aload_n 0, 1), (9, .getfield 72, 3), (12, .iload_n 1, 1), (13, .ishr, 1), (14, .iconst 1, 1), (15, .iand, 1), (16, .ifCond .ne 7, 3), (19, .iconst 1, 1), (20, .goto 4, 3), (23, .iconst 0, 1), (24, .ireturn, 1)], 2, [(72, 0, 3, 9), (97, 5, 34, 1)], [], (Option.some Jvm.ClassFile.FieldType.boolean), 3)
def gk_m37 : rk_M2 := ([(0, .aload_n 0, 1), (1, .iload_n 1, 1), (2, .invokevirtual 97, 3), (5, .ifCond .eq 20, 3), (8, .aload_n 0, 1), (9, .iload_n 2, 1), (10, .invokevirtual 97, 3), (13, .ifCond .eq 12, 3), (16, .iload_n 1, 1), (17, .iload_n 2, 1), (18, .if_icmp .eq 7, 3), (21, .iconst 1, 1), (22, .goto 4, 3), (25, .iconst 0, 1), (26, .ireturn, 1)], 3, [(97, 5, 34, 1)], [], (Option.some Jvm.ClassFile.FieldType.boolean), 3)
def gk_m38 : rk_M2 := ([(0, .iconst 0, 1), (1, .istore_n 3, 1), (2, .iload_n 3, 1), (3, .aload_n 0, 1), (4, .getfield 69, 3), (7, .if_icmp .ge 22, 3), (10, .aload_n 0, 1), (11, .getfield 9, 3), (14, .iload_n 3, 1), (15, .laload, 1), (16, .lload_n 1, 1), (17, .lcmp, 1), (18, .ifCond .ne 5, 3), (21, .iload_n 3, 1), (22, .ireturn, 1), (23, .iinc 3 1, 3), (26, .goto (-24), 3), (29, .iconst (-1), 1), (30, .ireturn, 1)], 4, [(9, 0, 3, 0), (69, 0, 3, 8)], [], (Option.some Jvm.ClassFile.FieldType.int), 3)
def gk_m39 : rk_M2 := ([(0, .iconst 1, 1), (1, .aload_n 0, 1), (2, .getfield 69, 3), (5, .ishl, 1), (6, .iconst 1, 1), (7, .isub, 1), (8, .aload_n 0, 1), (9, .getfield 72, 3), (12, .iconst (-1), 1), (13, .ixor, 1), (14, .iand, 1), (15, .aload_n 0, 1), (16, .getfield 31, 3), (19, .getfield 108, 3), (22, .iconst (-1), 1), (23, .ixor, 1), (24, .iand, 1), (25, .ireturn, 1)], 1, [(31, 0, 3, 5), (69, 0, 3, 8), (72, 0, 3, 9), (108, 1, 2, 5)], [], (Option.some Jvm.ClassFile.FieldType.int), 3)
def gk_m40 : rk_M2 := ([(0, .iconst 0, 1), (1, .aload_n 0, 1), (2, .getfield 31, 3), (5, .getfield 91, 3), (8, .iload_n 1, 1), (9, .iaload, 1), (10, .aload_n 0, 1), (11, .getfield 49, 3), (14, .aload_n 0, 1), (15, .getfield 31, 3), (18, .getfield 111, 3), (21, .iload_n 1, 1), (22, .iaload, 1), (23, .imul, 1), (24, .isub, 1), (25, .invokestatic 114, 3), (28, .ireturn, 1)], 2, [(31, 0, 3, 5), (49, 0, 3, 10), (91, 1, 2, 0), (111, 1, 2, 2), (114, 14, 0, 0)], [], (Option.some Jvm.ClassFile.FieldType.int), 3)
def gk_m41 : rk_M2 := ([(0, .aload_n 0, 1), (1, .getfield 22, 3), (4, .iload_n 1, 1), (5, .iaload, 1), (6, .istore_n 3, 1), (7, .aload_n 0, 1), (8, .getfield 19, 3), (11, .iload_n 1, 1), (12, .iaload, 1), (13, .istore 4, 2), (15, .iconst 0, 1), (16, .istore 5, 2), (18, .iload 5, 2), (20, .aload_n 0, 1), (21, .getfield 69, 3), (24, .if_icmp .ge 37, 3), (27, .iload 4, 2), (29, .ifCond .eq 32, 3), (32, .iload 4, 2), (34, .iconst 1, 1), (35, .iand, 1), (36, .ifCond .eq 13, 3), (39, .iload_n 3, 1), (40, .aload_n 0, 1), (41, .getfield 22, 3), (44, .iload 5, 2), (46, .iaload, 1), (47, .ior, 1), (48, .istore_n 3, 1), (49, .iload 4, 2), (51, .iconst 1, 1), (52, .ishr, 1), (53, .istore 4, 2), (55, .iinc 5 1, 3), (58, .goto (-40), 3), (61, .iload_n 3, 1), (62, .aload_n 0, 1), (63, .getfield 38, 3), (66, .getfield 120, 3), (69, .iconst (-1), 1), (70, .ixor, 1), (71, .iload_n 2, 1), (72, .iconst (-1), 1), (73, .ixor, 1), (74, .iand, 1), (75, .iand, 1), (76, .istore_n 3, 1), (77, .iconst 0, 1), (78, .istore 5, 2), (80, .iconst 0, 1), (81, .istore 6, 2), (83, .iload 6, 2), (85, .aload_n 0, 1), (86, .getfield 38, 3), (89, .getfield 94, 3), (92, .if_icmp .ge 38, 3), (95, .iload_n 3, 1), (96, .ifCond .eq 34, 3), (99, .iload_n 3, 1), (100, .iconst 1, 1), (101, .iand, 1), (102, .ifCond .eq 18, 3), (105, .iload 5, 2), (107, .aload_n 0, 1), (108, .getfield 38, 3), (111, .getfield 102, 3), (114, .iload 6, 2), (116, .iaload, 1), (117, .iadd, 1), (118, .istore 5, 2), (120, .iload_n 3, 1), (121, .iconst 1, 1), (122, .ishr, 1), (123, .istore_n 3, 1), (124, .iinc 6 1, 3), (127, .goto (-44), 3), (130, .iload 5, 2), (132, .ireturn, 1)], 7, [(19, 0, 3, 2), (22, 0, 3, 3), (38, 0, 3, 6), (69, 0, 3, 8), (94, 1, 0, 7), (102, 1, 0, 1), (120, 1, 0, 8)], [], (Option.some Jvm.ClassFile.FieldType.int), 3)
def gk_m42 : rk_M2 := ([(0, .aload_n 0, 1), (1, .getfield 72, 3), (4, .iload_n 2, 1), (5, .ishr, 1), (6, .iconst 1, 1), (7, .iand, 1), (8, .ifCond .eq 7, 3), (11, .sipush 999, 3), (14, .ireturn, 1), (15, .iconst 0, 1), (16, .aload_n 0, 1), (17, .getfield 31, 3), (20, .getfield 91, 3), (23, .iload_n 2, 1), (24, .iaload, 1), (25, .aload_n 0, 1), (26, .getfield 49, 3), (29, .aload_n 0, 1), (30, .getfield 31, 3), (33, .getfield 111, 3), (36, .iload_n 2, 1), (37, .iaload, 1), (38, .iconst 1, 1), (39, .iadd, 1), (40, .imul, 1), (41, .isub, 1), (42, .invokestatic 114, 3), (45, .istore_n 3, 1), (46, .iload_n 3, 1), (47, .aload_n 0, 1), (48, .iload_n 2, 1), (49, .iconst 1, 1), (50, .iload_n 1, 1), (51, .ishl, 1), (52, .invokevirtual 123, 3), (55, .isub, 1), (56, .aload_n 0, 1), (57, .getfield 38, 3), (60, .getfield 102, 3), (63, .iload_n 1, 1), (64, .iaload, 1), (65, .isub, 1), (66, .ireturn, 1)], 4, [(31, 0, 3, 5), (38, 0, 3, 6), (49, 0, 3, 10), (72, 0, 3, 9), (91, 1, 2, 0), (102, 1, 0, 1), (111, 1, 2, 2), (114, 14, 0, 0), (123, 5, 41, 2)], [], (Option.some Jvm.ClassFile.FieldType.int), 3)
def gk_m43 : rk_M2 := ([(0, .aload_n 0, 1), (1, .getfield 72, 3), (4, .istore_n 2, 1), (5, .aload_n 0, 1), (6, .invokevirtual 126, 3), (9, .istore_n 3, 1), (10, .iconst 0, 1), (11, .istore 4, 2), (13, .iload 4, 2), (15, .aload_n 0, 1), (16, .getfield 69, 3), (19, .if_icmp .ge 35, 3), (22, .iload_n 3, 1), (23, .iload 4, 2), (25, .ishr, 1), (26, .iconst 1, 1), (27, .iand, 1), (28, .ifCond .eq 20, 3), (31, .aload_n 0, 1), (32, .iload_n 1, 1), (33, .iload 4, 2), (35, .invokevirtual 130, 3), (38, .ifCond .lt 10, 3), (41, .iload_n 2, 1), (42, .iconst 1, 1), (43, .iload 4, 2), (45, .ishl, 1), (46, .ior, 1), (47, .istore_n 2, 1), (48, .iinc 4 1, 3), (51, .goto (-38), 3), (54, .iload_n 2, 1), (55, .ireturn, 1)], 5, [(69, 0, 3, 8), (72, 0, 3, 9), (126, 5, 39, 0), (130, 5, 42, 2)], [], (Option.some Jvm.ClassFile.FieldType.int), 3)
def gk_m44 : rk_M2 := ([(0, .iconst 0, 1), (1, .istore_n 2, 1), (2, .aload_n 0, 1), (3, .iload_n 1, 1), (4, .invokevirtual 133, 3), (7, .ifCond .eq 5, 3), (10, .iload_n 2, 1), (11, .ireturn, 1), (12, .aload_n 0, 1), (13, .getfield 31, 3), (16, .getfield 108, 3), (19, .iload_n 1, 1), (20, .ishr, 1), (21, .iconst 1, 1), (22, .iand, 1), (23, .ifCond .eq 7, 3), (26, .iconst 1, 1), (27, .goto 4, 3), (30, .iconst 0, 1), (31, .istore_n 3, 1), (32, .iconst 0, 1), (33, .istore 4, 2), (35, .iload 4, 2), (37, .aload_n 0, 1), (38, .getfield 38, 3), (41, .getfield 94, 3), (44, .if_icmp .ge 45, 3), (47, .aload_n 0, 1), (48, .getfield 38, 3), (51, .getfield 120, 3), (54, .iload 4, 2), (56, .ishr, 1), (57, .iconst 1, 1), (58, .iand, 1), (59, .ifCond .ne 24, 3), (62, .iload_n 3, 1), (63, .ifCond .ne 13, 3), (66, .aload_n 0, 1), (67, .iload 4, 2), (69, .iload_n 1, 1), (70, .invokevirtual 130, 3), (73, .ifCond .ge 10, 3), (76, .iload_n 2, 1), (77, .iconst 1, 1), (78, .iload 4, 2), (80, .ishl, 1), (81, .ior, 1), (82, .istore_n 2, 1), (83, .iinc 4 1, 3), (86, .goto (-51), 3), (89, .iload_n 2, 1), (90, .ireturn, 1)], 5, [(31, 0, 3, 5), (38, 0, 3, 6), (94, 1, 0, 7), (108, 1, 2, 5), (120, 1, 0, 8), (130, 5, 42, 2), (133, 5, 35, 1)], [], (Option.some Jvm.ClassFile.FieldType.int), 3)
def gk_m45 : rk_M2 := ([(0, .iload_n 1, 1), (1, .istore 4, 2), (3, .iconst 0, 1), (4, .istore 5, 2), (6, .iload 5, 2), (8, .iload_n 3, 1), (9, .if_icmp .ge 61, 3), (12, .iload 5, 2), (14, .aload_n 2, 1), (15, .arraylength, 1), (16, .if_icmp .ge 54, 3), (19, .aload_n 0, 1), (20, .iload 4, 2), (22, .invokevirtual 97, 3), (25, .ifCond .eq 31, 3), (28, .aload_n 0, 1), (29, .aload_n 2, 1), (30, .iload 5, 2), (32, .iaload, 1), (33, .invokevirtual 97, 3), (36, .ifCond .eq 20, 3), (39, .aload_n 0, 1), (40, .getfield 15, 3), (43, .iload 4, 2), (45, .iaload, 1), (46, .aload_n 2, 1), (47, .iload 5, 2), (49, .iaload, 1), (50, .ishr, 1), (51, .iconst 1, 1), (52, .iand, 1), (53, .ifCond .ne 5, 3), (56, .iconst 0, 1), (57, .ireturn, 1), (58, .aload_n 2, 1), (59, .iload 5, 2), (61, .iaload, 1), (62, .istore 4, 2), (64, .iinc 5 1, 3), (67, .goto (-61), 3), (70, .iconst 1, 1), (71, .ireturn, 1)], 6, [(15, 0, 3, 1), (97, 5, 34, 1)], [], (Option.some Jvm.ClassFile.FieldType.boolean), 3)
def gk_m46 : rk_M2 := ([(0, .iconst 0, 1), (1, .istore_n 2, 1), (2, .iconst 0, 1), (3, .istore_n 3, 1), (4, .iload_n 3, 1), (5, .aload_n 0, 1), (6, .getfield 69, 3), (9, .if_icmp .ge 26, 3), (12, .iload_n 1, 1), (13, .iload_n 3, 1), (14, .ishr, 1), (15, .iconst 1, 1), (16, .iand, 1), (17, .ifCond .eq 12, 3), (20, .iload_n 2, 1), (21, .aload_n 0, 1), (22, .getfield 15, 3), (25, .iload_n 3, 1), (26, .iaload, 1), (27, .ior, 1), (28, .istore_n 2, 1), (29, .iinc 3 1, 3), (32, .goto (-28), 3), (35, .iload_n 2, 1), (36, .ireturn, 1)], 4, [(15, 0, 3, 1), (69, 0, 3, 8)], [], (Option.some Jvm.ClassFile.FieldType.int), 3)
def gk_m47 : rk_M2 := ([(0, .iconst 1, 1), (1, .iload_n 1, 1), (2, .ishl, 1), (3, .istore_n 3, 1), (4, .iconst 0, 1), (5, .istore 4, 2), (7, .iload 4, 2), (9, .bipush 10, 2), (11, .if_icmp .ge 32, 3), (14, .iload_n 3, 1), (15, .aload_n 0, 1), (16, .iload_n 3, 1), (17, .invokevirtual 136, 3), (20, .iload_n 2, 1), (21, .iand, 1), (22, .ior, 1), (23, .istore 5, 2), (25, .iload 5, 2), (27, .iload_n 3, 1), (28, .if_icmp .ne 6, 3), (31, .goto 12, 3), (34, .iload 5, 2), (36, .istore_n 3, 1), (37, .iinc 4 1, 3), (40, .goto (-33), 3), (43, .iload_n 3, 1), (44, .ireturn, 1)], 6, [(136, 5, 46, 1)], [], (Option.some Jvm.ClassFile.FieldType.int), 3)
def gk_m48 : rk_M2 := ([(0, .aload_n 0, 1), (1, .getfield 38, 3), (4, .getfield 105, 3), (7, .iload_n 1, 1), (8, .invokestatic 140, 3), (11, .bipush 7, 2), (13, .iand, 1), (14, .iaload, 1), (15, .istore_n 2, 1), (16, .aload_n 0, 1), (17, .iload_n 2, 1), (18, .invokevirtual 133, 3), (21, .ifCond .eq 20, 3), (24, .iload_n 1, 1), (25, .aload_n 0, 1), (26, .getfield 22, 3), (29, .iload_n 2, 1), (30, .iaload, 1), (31, .iconst (-1), 1), (32, .ixor, 1), (33, .iand, 1), (34, .ifCond .ne 7, 3), (37, .iconst 1, 1), (38, .goto 4, 3), (41, .iconst 0, 1), (42, .istore_n 3, 1), (43, .iload_n 3, 1), (44, .ifCond .eq 27, 3), (47, .iload_n 1, 1), (48, .aload_n 0, 1), (49, .getfield 38, 3), (52, .getfield 120, 3), (55, .aload_n 0, 1), (56, .getfield 38, 3), (59, .getfield 143, 3), (62, .ior, 1), (63, .iand, 1), (64, .ifCond .ne 7, 3), (67, .iload_n 2, 1), (68, .goto 4, 3), (71, .iconst (-1), 1), (72, .ireturn, 1)], 4, [(22, 0, 3, 3), (38, 0, 3, 6), (105, 1, 0, 2), (120, 1, 0, 8), (133, 5, 35, 1), (140, 8, 200, 1), (143, 1, 0, 9)], [], (Option.some Jvm.ClassFile.FieldType.int), 3)
def gk_m49 : rk_M2 := ([(0, .iconst 0, 1), (1, .istore_n 2, 1), (2, .iconst 0, 1), (3, .istore_n 3, 1), (4, .iload_n 3, 1), (5, .iload_n 1, 1), (6, .if_icmp .ge 62, 3), (9, .aload_n 0, 1), (10, .invokevirtual 146, 3), (13, .istore 4, 2), (15, .iload_n 2, 1), (16, .iload 4, 2), (18, .ior, 1), (19, .istore_n 2, 1), (20, .iload 4, 2), (22, .ifCond .ne 40, 3), (25, .aload_n 0, 1), (26, .getfield 38, 3), (29, .getfield 143, 3), (32, .ifCond .ne 30, 3), (35, .aload_n 0, 1), (36, .getfield 31, 3), (39, .getfield 149, 3), (42, .ifCond .ne 20, 3), (45, .aload_n 0, 1), (46, .dup, 1), (47, .getfield 75, 3), (50, .iload_n 1, 1), (51, .iconst 1, 1), (52, .isub, 1), (53, .iload_n 3, 1), (54, .isub, 1), (55, .iadd, 1), (56, .putfield 75, 3), (59, .goto 9, 3), (62, .iinc 3 1, 3), (65, .goto (-61), 3), (68, .iload_n 2, 1), (69, .ireturn, 1)], 5, [(31, 0, 3, 5), (38, 0, 3, 6), (75, 0, 3, 13), (143, 1, 0, 9), (146, 5, 50, 0), (149, 1, 2, 4)], [], (Option.some Jvm.ClassFile.FieldType.int), 3)
def gk_m50 : rk_M2 := ([(0, .aload_n 0, 1), (1, .dup, 1), (2, .getfield 75, 3), (5, .iconst 1, 1), (6, .iadd, 1), (7, .putfield 75, 3), (10, .aload_n 0, 1), (11, .getfield 53, 3), (14, .ifCond .le 24, 3), (17, .aload_n 0, 1), (18, .getfield 53, 3), (21, .bipush 20, 2), (23, .if_icmp .gt 15, 3), (26, .aload_n 0, 1), (27, .getfield 75, 3), (30, .aload_n 0, 1), (31, .getfield 53, 3), (34, .irem, 1), (35, .goto 4, 3), (38, .iconst 0, 1), (39, .istore_n 1, 1), (40, .aload_n 0, 1), (41, .getfield 31, 3), (44, .iload_n 1, 1), (45, .aload_n 0, 1), (46, .getfield 56, 3), (49, .invokevirtual 152, 3), (52, .iconst 0, 1), (53, .istore_n 2, 1), (54, .iload_n 2, 1), (55, .aload_n 0, 1), (56, .getfield 38, 3), (59, .getfield 94, 3), (62, .if_icmp .ge 39, 3), (65, .aload_n 0, 1), (66, .getfield 38, 3), (69, .getfield 143, 3), (72, .ifCond .eq 29, 3), (75, .aload_n 0, 1), (76, .getfield 38, 3), (79, .getfield 143, 3), (82, .iload_n 2, 1), (83, .ishr, 1), (84, .iconst 1, 1), (85, .iand, 1), (86, .ifCond .eq 9, 3), (89, .aload_n 0, 1), (90, .iload_n 2, 1), (91, .iload_n 1, 1), (92, .invokevirtual 156, 3), (95, .iinc 2 1, 3), (98, .goto (-44), 3), (101, .aload_n 0, 1), (102, .invokevirtual 159, 3), (105, .aload_n 0, 1), (106, .invokevirtual 162, 3), (109, .istore_n 2, 1), (110, .iload_n 2, 1), (111, .ifCond .eq 12, 3), (114, .aload_n 0, 1), (115, .iload_n 2, 1), (116, .invokevirtual 165, 3), (119, .aload_n 0, 1), (120, .invokevirtual 159, 3), (123, .aload_n 0, 1), (124, .invokevirtual 169, 3), (127, .iload_n 2, 1), (128, .ireturn, 1)], 3, [(31, 0, 3, 5), (38, 0, 3, 6), (53, 0, 3, 11), (56, 0, 3, 12), (75, 0, 3, 13), (94, 1, 0, 7), (143, 1, 0, 9), (152, 6, 27, 2), (156, 5, 51, 2), (159, 5, 52, 0), (162, 5, 53, 0), (165, 5, 54, 1), (169, 5, 55, 0)], [], (Option.some Jvm.ClassFile.FieldType.int), 3)
def gk_m51 : rk_M2 := ([(0, .aload_n 0, 1), (1, .getfield 38, 3), (4, .getfield 105, 3), (7, .iload_n 1, 1), (8, .iaload, 1), (9, .istore_n 3, 1), (10, .aload_n 0, 1), (11, .getfield 38, 3), (14, .iload_n 1, 1), (15, .iconst 0, 1), (16, .invokevirtual 172, 3), (19, .istore 4, 2), (21, .aload_n 0, 1), (22, .iload 4, 2), (24, .invokevirtual 97, 3), (27, .ifCond .eq 11, 3), (30, .aload_n 0, 1), (31, .iload_n 3, 1), (32, .invokevirtual 97, 3), (35, .ifCond .ne 4, 3), (38, .return_, 1), (39, .aload_n 0, 1), (40, .getfield 22, 3), (43, .iload_n 3, 1), (44, .dup2, 1), (45, .iaload, 1), (46, .iconst 1, 1), (47, .iload_n 1, 1), (48, .ishl, 1), (49, .iconst (-1), 1), (50, .ixor, 1), (51, .iand, 1), (52, .iastore, 1), (53, .aload_n 0, 1), (54, .getfield 22, 3), (57, .iload 4, 2), (59, .dup2, 1), (60, .iaload, 1), (61, .iconst 1, 1), (62, .iload_n 1, 1), (63, .ishl, 1), (64, .ior, 1), (65, .iastore, 1), (66, .aload_n 0, 1), (67, .getfield 38, 3), (70, .iload_n 1, 1), (71, .iload 4, 2), (73, .invokevirtual 175, 3), (76, .aload_n 0, 1), (77, .getfield 31, 3), (80, .getfield 108, 3), (83, .iload 4, 2), (85, .ishr, 1), (86, .iconst 1, 1), (87, .iand, 1), (88, .ifCond .eq 16, 3), (91, .aload_n 0, 1), (92, .getfield 38, 3), (95, .iconst 1, 1), (96, .iload_n 1, 1), (97, .ishl, 1), (98, .invokevirtual 178, 3), (101, .goto 25, 3), (104, .aload_n 0, 1), (105, .getfield 72, 3), (108, .iload 4, 2), (110, .ishr, 1), (111, .iconst 1, 1), (112, .iand, 1), (113, .ifCond .ne 13, 3), (116, .aload_n 0, 1), (117, .getfield 31, 3), (120, .iload 4, 2), (122, .iload_n 2, 1), (123, .invokevirtual 181, 3), (126, .return_, 1)], 5, [(22, 0, 3, 3), (31, 0, 3, 5), (38, 0, 3, 6), (72, 0, 3, 9), (97, 5, 34, 1), (105, 1, 0, 2), (108, 1, 2, 5), (172, 6, 9, 2), (175, 6, 10, 2), (178, 6, 12, 1), (181, 6, 26, 2)], [], (Option.none : Option Jvm.ClassFile.FieldType), 3)
def gk_m52 : rk_M2 := ([(0, .iconst 0, 1), (1, .istore_n 1, 1), (2, .iload_n 1, 1), (3, .aload_n 0, 1), (4, .getfield 69, 3), (7, .if_icmp .ge 21, 3), (10, .aload_n 0, 1), (11, .getfield 25, 3), (14, .iload_n 1, 1), (15, .aload_n 0, 1), (16, .iload_n 1, 1), (17, .iconst 0, 1), (18, .invokevirtual 123, 3), (21, .iastore, 1), (22, .iinc 1 1, 3), (25, .goto (-23), 3), (28, .return_, 1)], 2, [(25, 0, 3, 4), (69, 0, 3, 8), (123, 5, 41, 2)], [], (Option.none : Option Jvm.ClassFile.FieldType), 3)
def gk_m53 : rk_M2 := ([(0, .iconst 0, 1), (1, .istore_n 1, 1), (2, .aload_n 0, 1), (3, .invokevirtual 126, 3), (6, .istore_n 2, 1), (7, .iconst 0, 1), (8, .istore_n 3, 1), (9, .iload_n 3, 1), (10, .aload_n 0, 1), (11, .getfield 69, 3), (14, .if_icmp .ge 37, 3), (17, .iload_n 2, 1), (18, .iload_n 3, 1), (19, .ishr, 1), (20, .iconst 1, 1), (21, .iand, 1), (22, .ifCond .eq 23, 3), (25, .aload_n 0, 1), (26, .getfield 25, 3), (29, .iload_n 3, 1), (30, .iaload, 1), (31, .aload_n 0, 1), (32, .iload_n 3, 1), (33, .invokevirtual 184, 3), (36, .if_icmp .le 9, 3), (39, .iload_n 1, 1), (40, .iconst 1, 1), (41, .iload_n 3, 1), (42, .ishl, 1), (43, .ior, 1), (44, .istore_n 1, 1), (45, .iinc 3 1, 3), (48, .goto (-39), 3), (51, .iload_n 1, 1), (52, .ireturn, 1)], 4, [(25, 0, 3, 4), (69, 0, 3, 8), (126, 5, 39, 0), (184, 5, 40, 1)], [], (Option.some Jvm.ClassFile.FieldType.int), 3)
def gk_m54 : rk_M2 := ([(0, .iconst 0, 1), (1, .istore_n 2, 1), (2, .iload_n 2, 1), (3, .aload_n 0, 1), (4, .getfield 69, 3), (7, .if_icmp .ge 42, 3), (10, .iload_n 1, 1), (11, .ifCond .eq 38, 3), (14, .iload_n 1, 1), (15, .iload_n 2, 1), (16, .ishr, 1), (17, .iconst 1, 1), (18, .iand, 1), (19, .ifCond .eq 24, 3), (22, .aload_n 0, 1), (23, .getfield 31, 3), (26, .iload_n 2, 1), (27, .invokevirtual 187, 3), (30, .aload_n 0, 1), (31, .getfield 38, 3), (34, .aload_n 0, 1), (35, .getfield 22, 3), (38, .iload_n 2, 1), (39, .iaload, 1), (40, .invokevirtual 178, 3), (43, .iinc 2 1, 3), (46, .goto (-44), 3), (49, .return_, 1)], 3, [(22, 0, 3, 3), (31, 0, 3, 5), (38, 0, 3, 6), (69, 0, 3, 8), (178, 6, 12, 1), (187, 6, 28, 1)], [], (Option.none : Option Jvm.ClassFile.FieldType), 3)
def gk_m55 : rk_M2 := ([(0, .aload_n 0, 1), (1, .invokevirtual 126, 3), (4, .istore_n 1, 1), (5, .iconst 0, 1), (6, .istore_n 2, 1), (7, .iload_n 2, 1), (8, .aload_n 0, 1), (9, .getfield 69, 3), (12, .if_icmp .ge 44, 3), (15, .iload_n 1, 1), (16, .iload_n 2, 1), (17, .ishr, 1), (18, .iconst 1, 1), (19, .iand, 1), (20, .ifCond .eq 30, 3), (23, .aload_n 0, 1), (24, .getfield 31, 3), (27, .getfield 190, 3), (30, .iload_n 2, 1), (31, .aload_n 0, 1), (32, .getfield 31, 3), (35, .getfield 190, 3), (38, .iload_n 2, 1), (39, .iaload, 1), (40, .aload_n 0, 1), (41, .getfield 25, 3), (44, .iload_n 2, 1), (45, .iaload, 1), (46, .invokestatic 114, 3), (49, .iastore, 1), (50, .iinc 2 1, 3), (53, .goto (-46), 3), (56, .return_, 1)], 3, [(25, 0, 3, 4), (31, 0, 3, 5), (69, 0, 3, 8), (114, 14, 0, 0), (126, 5, 39, 0), (190, 1, 2, 1)], [], (Option.none : Option Jvm.ClassFile.FieldType), 3)
def gk_m56 : rk_M2 := ([(0, .aload_n 0, 1), (1, .getfield 31, 3), (4, .getfield 108, 3), (7, .invokestatic 193, 3), (10, .istore_n 2, 1), (11, .aload_n 0, 1), (12, .getfield 31, 3), (15, .iconst 0, 1), (16, .putfield 108, 3), (19, .iconst 0, 1), (20, .istore_n 3, 1), (21, .iload_n 3, 1), (22, .aload_n 0, 1), (23, .getfield 69, 3), (26, .if_icmp .ge 43, 3), (29, .aload_n 0, 1), (30, .iload_n 3, 1), (31, .invokevirtual 198, 3), (34, .ifCond .eq 29, 3), (37, .aload_n 0, 1), (38, .getfield 31, 3), (41, .getfield 91, 3), (44, .iload_n 3, 1), (45, .sipush 999, 3), (48, .aload_n 0, 1), (49, .getfield 31, 3), (52, .getfield 91, 3), (55, .iload_n 3, 1), (56, .iaload, 1), (57, .iload_n 1, 1), (58, .iadd, 1), (59, .invokestatic 201, 3), (62, .iastore, 1), (63, .iinc 3 1, 3), (66, .goto (-45), 3), (69, .iload_n 2, 1), (70, .ireturn, 1)], 4, [(31, 0, 3, 5), (69, 0, 3, 8), (91, 1, 2, 0), (108, 1, 2, 5), (193, 7, 372, 1), (198, 5, 36, 1), (201, 15, 0, 0)], [], (Option.some Jvm.ClassFile.FieldType.int), 3)
def gk_m57 : rk_M2 := ([(0, .iconst 0, 1), (1, .istore_n 2, 1), (2, .iload_n 2, 1), (3, .aload_n 0, 1), (4, .getfield 69, 3), (7, .if_icmp .ge 33, 3), (10, .aload_n 0, 1), (11, .getfield 31, 3), (14, .getfield 91, 3), (17, .iload_n 2, 1), (18, .iconst 0, 1), (19, .aload_n 0, 1), (20, .getfield 31, 3), (23, .getfield 91, 3), (26, .iload_n 2, 1), (27, .iaload, 1), (28, .iload_n 1, 1), (29, .isub, 1), (30, .invokestatic 114, 3), (33, .iastore, 1), (34, .iinc 2 1, 3), (37, .goto (-35), 3), (40, .return_, 1)], 3, [(31, 0, 3, 5), (69, 0, 3, 8), (91, 1, 2, 0), (114, 14, 0, 0)], [], (Option.none : Option Jvm.ClassFile.FieldType), 3)
def gk_m58 : rk_M2 := ([(0, .iconst 0, 1), (1, .istore_n 1, 1), (2, .iconst 0, 1), (3, .istore_n 2, 1), (4, .iload_n 2, 1), (5, .aload_n 0, 1), (6, .getfield 69, 3), (9, .if_icmp .ge 28, 3), (12, .aload_n 0, 1), (13, .iload_n 2, 1), (14, .invokevirtual 198, 3), (17, .ifCond .eq 14, 3), (20, .aload_n 0, 1), (21, .iload_n 2, 1), (22, .invokevirtual 184, 3), (25, .ifCond .ne 6, 3), (28, .iinc 1 1, 3), (31, .iinc 2 1, 3), (34, .goto (-30), 3), (37, .iload_n 1, 1), (38, .ireturn, 1)], 3, [(69, 0, 3, 8), (184, 5, 40, 1), (198, 5, 36, 1)], [], (Option.some Jvm.ClassFile.FieldType.int), 3)
def gk_m59 : rk_M2 := ([(0, .aload_n 0, 1), (1, .getfield 38, 3), (4, .getfield 105, 3), (7, .iload_n 1, 1), (8, .iaload, 1), (9, .istore_n 2, 1), (10, .aload_n 0, 1), (11, .getfield 72, 3), (14, .invokestatic 140, 3), (17, .istore_n 3, 1), (18, .aload_n 0, 1), (19, .iload_n 2, 1), (20, .invokevirtual 97, 3), (23, .ifCond .eq 11, 3), (26, .aload_n 0, 1), (27, .iload_n 3, 1), (28, .invokevirtual 97, 3), (31, .ifCond .ne 4, 3), (34, .return_, 1), (35, .aload_n 0, 1), (36, .getfield 22, 3), (39, .iload_n 2, 1), (40, .dup2, 1), (41, .iaload, 1), (42, .iconst 1, 1), (43, .iload_n 1, 1), (44, .ishl, 1), (45, .iconst (-1), 1), (46, .ixor, 1), (47, .iand, 1), (48, .iastore, 1), (49, .aload_n 0, 1), (50, .getfield 22, 3), (53, .iload_n 3, 1), (54, .dup2, 1), (55, .iaload, 1), (56, .iconst 1, 1), (57, .iload_n 1, 1), (58, .ishl, 1), (59, .ior, 1), (60, .iastore, 1), (61, .aload_n 0, 1), (62, .getfield 38, 3), (65, .getfield 105, 3), (68, .iload_n 1, 1), (69, .iload_n 3, 1), (70, .iastore, 1), (71, .aload_n 0, 1), (72, .getfield 38, 3), (75, .dup, 1), (76, .getfield 120, 3), (79, .iconst 1, 1), (80, .iload_n 1, 1), (81, .ishl, 1), (82, .iconst (-1), 1), (83, .ixor, 1), (84, .iand, 1), (85, .putfield 120, 3), (88, .return_, 1)], 4, [(22, 0, 3, 3), (38, 0, 3, 6), (72, 0, 3, 9), (97, 5, 34, 1), (105, 1, 0, 2), (120, 1, 0, 8), (140, 8, 200, 1)], [], (Option.none : Option Jvm.ClassFile.FieldType), 3)
def gk_m60 : rk_M2 := ([(0, .ldc 204, 2), (2, .istore_n 2, 1), (3, .iconst 0, 1), (4, .istore_n 3, 1), (5, .iload_n 3, 1), (6, .aload_n 0, 1), (7, .getfield 38, 3), (10, .iload_n 1, 1), (11, .invokevirtual 205, 3), (14, .if_icmp .ge 51, 3), (17, .aload_n 0, 1), (18, .getfield 38, 3), (21, .iload_n 1, 1), (22, .iload_n 3, 1), (23, .invokevirtual 172, 3), (26, .istore 4, 2), (28, .aload_n 0, 1), (29, .iload 4, 2), (31, .invokevirtual 198, 3), (34, .ifCond .eq 25, 3), (37, .iload_n 2, 1), (38, .aload_n 0, 1), (39, .getfield 38, 3), (42, .getfield 102, 3), (45, .iload_n 1, 1), (46, .iaload, 1), (47, .aload_n 0, 1), (48, .iload_n 1, 1), (49, .iload 4, 2), (51, .invokevirtual 130, 3), (54, .iadd, 1), (55, .invokestatic 201, 3), (58, .istore_n 2, 1), (59, .iinc 3 1, 3), (62, .goto (-57), 3), (65, .iload_n 2, 1), (66, .ldc 204, 2), (68, .if_icmp .ne 7, 3), (71, .iconst (-1), 1), (72, .goto 8, 3), (75, .iconst 0, 1), (76, .iload_n 2, 1), (77, .invokestatic 114, 3), (80, .ireturn, 1)], 5, [(38, 0, 3, 6), (102, 1, 0, 1), (114, 14, 0, 0), (130, 5, 42, 2), (172, 6, 9, 2), (198, 5, 36, 1), (201, 15, 0, 0), (205, 6, 11, 1)], [(204, .int 1000000)], (Option.some Jvm.ClassFile.FieldType.int), 3)
def gk_m61 : rk_M2 := ([(0, .iconst (-1), 1), (1, .istore_n 1, 1), (2, .iconst 0, 1), (3, .istore_n 2, 1), (4, .iload_n 2, 1), (5, .aload_n 0, 1), (6, .getfield 69, 3), (9, .if_icmp .ge 36, 3), (12, .aload_n 0, 1), (13, .iload_n 2, 1), (14, .invokevirtual 198, 3), (17, .ifCond .eq 22, 3), (20, .iload_n 1, 1), (21, .ifCond .lt 16, 3), (24, .aload_n 0, 1), (25, .iload_n 2, 1), (26, .invokevirtual 184, 3), (29, .aload_n 0, 1), (30, .iload_n 1, 1), (31, .invokevirtual 184, 3), (34, .if_icmp .ge 5, 3), (37, .iload_n 2, 1), (38, .istore_n 1, 1), (39, .iinc 2 1, 3), (42, .goto (-38), 3), (45, .iload_n 1, 1), (46, .ireturn, 1)], 3, [(69, 0, 3, 8), (184, 5, 40, 1), (198, 5, 36, 1)], [], (Option.some Jvm.ClassFile.FieldType.int), 3)
def gk_m62 : rk_M2 := ([(0, .aload_n 0, 1), (1, .getfield 31, 3), (4, .getfield 108, 3), (7, .iload_n 1, 1), (8, .ishr, 1), (9, .iconst 1, 1), (10, .iand, 1), (11, .ifCond .eq 5, 3), (14, .iconst (-1), 1), (15, .ireturn, 1), (16, .aload_n 0, 1), (17, .getfield 31, 3), (20, .getfield 91, 3), (23, .iload_n 1, 1), (24, .iaload, 1), (25, .istore_n 3, 1), (26, .aload_n 0, 1), (27, .getfield 31, 3), (30, .getfield 111, 3), (33, .iload_n 1, 1), (34, .iaload, 1), (35, .istore 4, 2), (37, .iconst 0, 1), (38, .istore 5, 2), (40, .iload 5, 2), (42, .aload_n 0, 1), (43, .getfield 53, 3), (46, .if_icmp .gt 98, 3), (49, .iload 5, 2), (51, .bipush 20, 2), (53, .if_icmp .gt 91, 3), (56, .iload 5, 2), (58, .ifCond .le 60, 3), (61, .aload_n 0, 1), (62, .getfield 53, 3), (65, .ifCond .le 53, 3), (68, .aload_n 0, 1), (69, .getfield 31, 3), (72, .getfield 208, 3), (75, .aload_n 0, 1), (76, .getfield 75, 3), (79, .iload 5, 2), (81, .iadd, 1), (82, .aload_n 0, 1), (83, .getfield 53, 3), (86, .irem, 1), (87, .bipush 10, 2), (89, .imul, 1), (90, .iload_n 1, 1), (91, .iadd, 1), (92, .iaload, 1), (93, .istore 6, 2), (95, .iload 4, 2), (97, .iload 6, 2), (99, .isub, 1), (100, .istore 4, 2), (102, .sipush 999, 3), (105, .iload_n 3, 1), (106, .aload_n 0, 1), (107, .getfield 56, 3), (110, .iload 6, 2), (112, .imul, 1), (113, .iadd, 1), (114, .invokestatic 201, 3), (117, .istore_n 3, 1), (118, .iconst 0, 1), (119, .iload_n 3, 1), (120, .aload_n 0, 1), (121, .getfield 49, 3), (124, .iload 4, 2), (126, .imul, 1), (127, .isub, 1), (128, .invokestatic 114, 3), (131, .iload_n 2, 1), (132, .if_icmp .lt 6, 3), (135, .iload 5, 2), (137, .ireturn, 1), (138, .iinc 5 1, 3), (141, .goto (-101), 3), (144, .iconst (-1), 1), (145, .ireturn, 1)], 7, [(31, 0, 3, 5), (49, 0, 3, 10), (53, 0, 3, 11), (56, 0, 3, 12), (75, 0, 3, 13), (91, 1, 2, 0), (108, 1, 2, 5), (111, 1, 2, 2), (114, 14, 0, 0), (201, 15, 0, 0), (208, 1, 2, 3)], [], (Option.some Jvm.ClassFile.FieldType.int), 3)
def gk_m63 : rk_M2 := ([(0, .aload_n 0, 1), (1, .invokespecial 3, 3), (4, .aload_n 0, 1), (5, .aload_n 1, 1), (6, .putfield 9, 3), (9, .return_, 1)], 2, [(3, 11, 0, 0), (9, 2, 4, 0)], [], (Option.none : Option Jvm.ClassFile.FieldType), 4)
def gk_m64 : rk_M2 := ([(0, .aload_n 1, 1), (1, .invokevirtual 15, 3), (4, .aload_n 0, 1), (5, .iconst 0, 1), (6, .putfield 20, 3), (9, .iconst 0, 1), (10, .istore_n 2, 1), (11, .iload_n 2, 1), (12, .sipush 900, 3), (15, .if_icmp .ge 34, 3), (18, .aload_n 0, 1), (19, .getfield 9, 3), (22, .getfield 24, 3), (25, .ifCond .ne 24, 3), (28, .aload_n 0, 1), (29, .getfield 9, 3), (32, .getfield 29, 3), (35, .ifCond .eq 14, 3), (38, .aload_n 0, 1), (39, .aload_n 1, 1), (40, .invokevirtual 32, 3), (43, .iinc 2 1, 3), (46, .goto (-35), 3), (49, .return_, 1)], 3, [(9, 0, 4, 0), (15, 6, 30, 0), (20, 0, 4, 1), (24, 1, 8, 10), (29, 1, 8, 6), (32, 5, 65, 1)], [], (Option.none : Option Jvm.ClassFile.FieldType), 4)
def gk_m65 : rk_M2 := ([(0, .aload_n 0, 1), (1, .getfield 9, 3), (4, .getfield 36, 3), (7, .tableswitch 149 0 10 #[57, 149, 66, 75, 84, 93, 149, 149, 101, 117, 133], 57), (64, .aload_n 0, 1), (65, .aload_n 1, 1), (66, .iconst 0, 1), (67, .invokevirtual 39, 3), (70, .goto 93, 3), (73, .aload_n 0, 1), (74, .aload_n 1, 1), (75, .iconst 1, 1), (76, .invokevirtual 39, 3), (79, .goto 84, 3), (82, .aload_n 0, 1), (83, .aload_n 1, 1), (84, .iconst 0, 1), (85, .invokevirtual 43, 3), (88, .goto 75, 3), (91, .aload_n 0, 1), (92, .aload_n 1, 1), (93, .iconst 1, 1), (94, .invokevirtual 43, 3), (97, .goto 66, 3), (100, .aload_n 0, 1), (101, .aload_n 1, 1), (102, .invokevirtual 46, 3), (105, .goto 58, 3), (108, .aload_n 1, 1), (109, .aload_n 0, 1), (110, .iconst 0, 1), (111, .aload_n 1, 1), (112, .getfield 49, 3), (115, .invokevirtual 52, 3), (118, .putfield 49, 3), (121, .goto 42, 3), (124, .aload_n 1, 1), (125, .aload_n 0, 1), (126, .iconst 1, 1), (127, .aload_n 1, 1), (128, .getfield 56, 3), (131, .invokevirtual 52, 3), (134, .putfield 56, 3), (137, .goto 26, 3), (140, .aload_n 1, 1), (141, .aload_n 0, 1), (142, .iconst 0, 1), (143, .aload_n 1, 1), (144, .getfield 59, 3), (147, .invokevirtual 52, 3), (150, .putfield 59, 3), (153, .goto 10, 3), (156, .aload_n 0, 1), (157, .getfield 9, 3), (160, .invokevirtual 62, 3), (163, .return_, 1)], 2, [(9, 0, 4, 0), (36, 1, 8, 7), (39, 5, 67, 2), (43, 5, 68, 2), (46, 5, 69, 1), (49, 1, 3, 10), (52, 5, 70, 2), (56, 1, 3, 11), (59, 1, 3, 12), (62, 6, 108, 0)], [], (Option.none : Option Jvm.ClassFile.FieldType), 4)
def gk_m66 : rk_M2 := ([(0, .aload_n 0, 1), (1, .getfield 9, 3), (4, .invokevirtual 65, 3), (7, .lstore_n 2, 1), (8, .lload_n 2, 1), (9, .lconst 0, 1), (10, .lcmp, 1), (11, .ifCond .eq 30, 3), (14, .aload_n 1, 1), (15, .lload_n 2, 1), (16, .invokevirtual 69, 3), (19, .ifCond .ge 14, 3), (22, .aload_n 1, 1), (23, .getfield 73, 3), (26, .lload_n 2, 1), (27, .invokevirtual 77, 3), (30, .ifCond .lt 11, 3), (33, .aload_n 0, 1), (34, .getfield 9, 3), (37, .iconst 3, 1), (38, .invokevirtual 80, 3), (41, .aload_n 0, 1), (42, .getfield 9, 3), (45, .invokevirtual 84, 3), (48, .lload_n 2, 1), (49, .lreturn, 1)], 4, [(9, 0, 4, 0), (65, 6, 112, 0), (69, 6, 38, 1), (73, 1, 3, 6), (77, 6, 5, 1), (80, 6, 107, 1), (84, 6, 104, 0)], [], (Option.some Jvm.ClassFile.FieldType.long), 4)
def gk_m67 : rk_M2 := ([(0, .aload_n 1, 1), (1, .getfield 87, 3), (4, .bipush 10, 2), (6, .if_icmp .lt 12, 3), (9, .aload_n 0, 1), (10, .getfield 9, 3), (13, .bipush 6, 2), (15, .invokevirtual 80, 3), (18, .aload_n 0, 1), (19, .getfield 9, 3), (22, .invokevirtual 84, 3), (25, .aload_n 0, 1), (26, .aload_n 1, 1), (27, .invokevirtual 90, 3), (30, .lstore_n 3, 1), (31, .iconst 0, 1), (32, .istore 5, 2), (34, .iload_n 2, 1), (35, .ifCond .ne 24, 3), (38, .aload_n 0, 1), (39, .getfield 9, 3), (42, .iconst 1, 1), (43, .invokevirtual 94, 3), (46, .aload_n 0, 1), (47, .getfield 9, 3), (50, .iconst 0, 1), (51, .sipush 200, 3), (54, .invokevirtual 97, 3), (57, .istore 5, 2), (59, .aload_n 0, 1), (60, .getfield 9, 3), (63, .bipush 59, 2), (65, .invokevirtual 100, 3), (68, .ifCond .eq 11, 3), (71, .aload_n 1, 1), (72, .lload_n 3, 1), (73, .iload_n 2, 1), (74, .iload 5, 2), (76, .invokevirtual 104, 3), (79, .return_, 1)], 6, [(9, 0, 4, 0), (80, 6, 107, 1), (84, 6, 104, 0), (87, 1, 3, 8), (90, 5, 66, 1), (94, 6, 109, 1), (97, 6, 111, 2), (100, 6, 110, 1), (104, 6, 32, 3)], [], (Option.none : Option Jvm.ClassFile.FieldType), 4)
def gk_m68 : rk_M2 := ([(0, .aload_n 0, 1), (1, .getfield 9, 3), (4, .invokevirtual 84, 3), (7, .aload_n 0, 1), (8, .getfield 9, 3), (11, .aload_n 1, 1), (12, .invokevirtual 108, 3), (15, .istore_n 3, 1), (16, .iload_n 2, 1), (17, .ifCond .eq 19, 3), (20, .aload_n 1, 1), (21, .iload_n 3, 1), (22, .invokevirtual 112, 3), (25, .ifCond .eq 11, 3), (28, .aload_n 0, 1), (29, .getfield 9, 3), (32, .iconst 5, 1), (33, .invokevirtual 80, 3), (36, .aload_n 0, 1), (37, .getfield 9, 3), (40, .invokevirtual 84, 3), (43, .aload_n 0, 1), (44, .getfield 9, 3), (47, .aload_n 1, 1), (48, .invokevirtual 108, 3), (51, .istore 4, 2), (53, .iload_n 3, 1), (54, .iload 4, 2), (56, .if_icmp .eq 16, 3), (59, .iload_n 2, 1), (60, .ifCond .eq 20, 3), (63, .aload_n 1, 1), (64, .iload 4, 2), (66, .invokevirtual 112, 3), (69, .ifCond .eq 11, 3), (72, .aload_n 0, 1), (73, .getfield 9, 3), (76, .iconst 5, 1), (77, .invokevirtual 80, 3), (80, .aload_n 0, 1), (81, .getfield 9, 3), (84, .invokevirtual 84, 3), (87, .aload_n 0, 1), (88, .getfield 9, 3), (91, .bipush 59, 2), (93, .invokevirtual 100, 3), (96, .ifCond .eq 52, 3), (99, .aload_n 1, 1), (100, .iload_n 3, 1), (101, .iload 4, 2), (103, .invokevirtual 115, 3), (106, .ifCond .eq 42, 3), (109, .iload_n 2, 1), (110, .ifCond .eq 10, 3), (113, .aload_n 1, 1), (114, .getfield 119, 3), (117, .goto 7, 3), (120, .aload_n 1, 1), (121, .getfield 123, 3), (124, .astore 5, 2), (126, .aload 5, 2), (128, .iload_n 3, 1), (129, .dup2, 1), (130, .iaload, 1), (131, .iconst 1, 1), (132, .iload 4, 2), (134, .ishl, 1), (135, .ior, 1), (136, .iastore, 1), (137, .aload 5, 2), (139, .iload 4, 2), (141, .dup2, 1), (142, .iaload, 1), (143, .iconst 1, 1), (144, .iload_n 3, 1), (145, .ishl, 1), (146, .ior, 1), (147, .iastore, 1), (148, .return_, 1)], 6, [(9, 0, 4, 0), (80, 6, 107, 1), (84, 6, 104, 0), (100, 6, 110, 1), (108, 6, 113, 1), (112, 6, 35, 1), (115, 6, 37, 2), (119, 1, 3, 2), (123, 1, 3, 1)], [], (Option.none : Option Jvm.ClassFile.FieldType), 4)
def gk_m69 : rk_M2 := ([(0, .aload_n 1, 1), (1, .getfield 73, 3), (4, .getfield 126, 3), (7, .bipush 8, 2), (9, .if_icmp .lt 12, 3), (12, .aload_n 0, 1), (13, .getfield 9, 3), (16, .bipush 6, 2), (18, .invokevirtual 80, 3), (21, .aload_n 0, 1), (22, .getfield 9, 3), (25, .invokevirtual 84, 3), (28, .aload_n 0, 1), (29, .aload_n 1, 1), (30, .invokevirtual 90, 3), (33, .lstore_n 2, 1), (34, .aload_n 0, 1), (35, .getfield 9, 3), (38, .bipush 6, 2), (40, .invokevirtual 94, 3), (43, .aload_n 0, 1), (44, .getfield 9, 3), (47, .iconst 1, 1), (48, .bipush 99, 2), (50, .invokevirtual 97, 3), (53, .istore 4, 2), (55, .aload_n 0, 1), (56, .getfield 9, 3), (59, .bipush 7, 2), (61, .invokevirtual 94, 3), (64, .aload_n 0, 1), (65, .getfield 9, 3), (68, .aload_n 1, 1), (69, .invokevirtual 108, 3), (72, .istore 5, 2), (74, .aload_n 1, 1), (75, .iload 5, 2), (77, .invokevirtual 112, 3), (80, .ifCond .ne 11, 3), (83, .aload_n 0, 1), (84, .getfield 9, 3), (87, .iconst 5, 1), (88, .invokevirtual 80, 3), (91, .aload_n 0, 1), (92, .getfield 9, 3), (95, .invokevirtual 84, 3), (98, .aload_n 0, 1), (99, .getfield 9, 3), (102, .bipush 59, 2), (104, .invokevirtual 100, 3), (107, .ifCond .eq 12, 3), (110, .aload_n 1, 1), (111, .lload_n 2, 1), (112, .iload 4, 2), (114, .iload 5, 2), (116, .invokevirtual 129, 3), (119, .return_, 1)], 6, [(9, 0, 4, 0), (73, 1, 3, 6), (80, 6, 107, 1), (84, 6, 104, 0), (90, 5, 66, 1), (94, 6, 109, 1), (97, 6, 111, 2), (100, 6, 110, 1), (108, 6, 113, 1), (112, 6, 35, 1), (126, 1, 0, 7), (129, 6, 33, 3)], [], (Option.none : Option Jvm.ClassFile.FieldType), 4)
def gk_m70 : rk_M2 := ([(0, .iconst 1, 1), (1, .aload_n 0, 1), (2, .getfield 9, 3), (5, .getfield 36, 3), (8, .ishl, 1), (9, .istore_n 3, 1), (10, .aload_n 0, 1), (11, .getfield 20, 3), (14, .iload_n 3, 1), (15, .iand, 1), (16, .ifCond .eq 11, 3), (19, .aload_n 0, 1), (20, .getfield 9, 3), (23, .iconst 5, 1), (24, .invokevirtual 80, 3), (27, .aload_n 0, 1), (28, .dup, 1), (29, .getfield 20, 3), (32, .iload_n 3, 1), (33, .ior, 1), (34, .putfield 20, 3), (37, .aload_n 0, 1), (38, .getfield 9, 3), (41, .invokevirtual 84, 3), (44, .aload_n 0, 1), (45, .getfield 9, 3), (48, .iload_n 1, 1), (49, .bipush 20, 2), (51, .invokevirtual 97, 3), (54, .istore 4, 2), (56, .aload_n 0, 1), (57, .getfield 9, 3), (60, .bipush 59, 2), (62, .invokevirtual 100, 3), (65, .ifCond .eq 8, 3), (68, .iload 4, 2), (70, .goto 4, 3), (73, .iload_n 2, 1), (74, .ireturn, 1)], 5, [(9, 0, 4, 0), (20, 0, 4, 1), (36, 1, 8, 7), (80, 6, 107, 1), (84, 6, 104, 0), (97, 6, 111, 2), (100, 6, 110, 1)], [], (Option.some Jvm.ClassFile.FieldType.int), 4)
def gk_m71 : rk_M2 := ([(0, .aload_n 0, 1), (1, .invokespecial 3, 3), (4, .aload_n 0, 1), (5, .iconst 3, 1), (6, .newarray .int, 2), (8, .putfield 9, 3), (11, .aload_n 0, 1), (12, .iconst 3, 1), (13, .newarray .int, 2), (15, .putfield 15, 3), (18, .aload_n 0, 1), (19, .aload_n 1, 1), (20, .putfield 18, 3), (23, .return_, 1)], 2, [(3, 11, 0, 0), (9, 2, 5, 1), (15, 2, 5, 2), (18, 2, 5, 0)], [], (Option.none : Option Jvm.ClassFile.FieldType), 5)
def gk_m72 : rk_M2 := ([(0, .aload_n 0, 1), (1, .iconst 0, 1), (2, .putfield 22, 3), (5, .aload_n 0, 1), (6, .iload_n 3, 1), (7, .putfield 26, 3), (10, .aload_n 0, 1), (11, .iconst 0, 1), (12, .putfield 29, 3), (15, .aload_n 0, 1), (16, .iconst 0, 1), (17, .putfield 33, 3), (20, .aload_n 0, 1), (21, .iconst 0, 1), (22, .putfield 36, 3), (25, .aload_n 0, 1), (26, .iconst 0, 1), (27, .putfield 39, 3), (30, .aload_n 0, 1), (31, .iconst 0, 1), (32, .putfield 42, 3), (35, .iconst 0, 1), (36, .istore 4, 2), (38, .iconst 0, 1), (39, .istore 5, 2), (41, .iload 4, 2), (43, .sipush 300, 3), (46, .if_icmp .ge 38, 3), (49, .iload 5, 2), (51, .ifCond .lt 33, 3), (54, .iload 5, 2), (56, .aload_n 2, 1), (57, .getfield 45, 3), (60, .if_icmp .ge 24, 3), (63, .aload_n 0, 1), (64, .aload_n 2, 1), (65, .aload_n 0, 1), (66, .aload_n 1, 1), (67, .aload_n 2, 1), (68, .iload 5, 2), (70, .invokevirtual 50, 3), (73, .invokevirtual 54, 3), (76, .istore 5, 2), (78, .iinc 4 1, 3), (81, .goto (-40), 3), (84, .aload_n 0, 1), (85, .iload 5, 2), (87, .aload_n 2, 1), (88, .getfield 45, 3), (91, .if_icmp .ge 7, 3), (94, .iconst 1, 1), (95, .goto 4, 3), (98, .iconst 0, 1), (99, .putfield 58, 3), (102, .iload 4, 2), (104, .ireturn, 1)], 6, [(22, 0, 5, 3), (26, 0, 5, 4), (29, 0, 5, 5), (33, 0, 5, 6), (36, 0, 5, 7), (39, 0, 5, 8), (42, 0, 5, 9), (45, 1, 9, 6), (50, 5, 73, 3), (54, 5, 75, 2), (58, 0, 5, 10)], [], (Option.some Jvm.ClassFile.FieldType.int), 5)
def gk_m73 : rk_M2 := ([(0, .aload_n 2, 1), (1, .getfield 61, 3), (4, .iload_n 3, 1), (5, .iaload, 1), (6, .tableswitch 261 11 20 #[54, 261, 74, 144, 158, 171, 230, 261, 261, 252], 54), (60, .aload_n 0, 1), (61, .aload_n 1, 1), (62, .aload_n 2, 1), (63, .getfield 64, 3), (66, .iload_n 3, 1), (67, .iaload, 1), (68, .aload_n 2, 1), (69, .getfield 67, 3), (72, .iload_n 3, 1), (73, .iaload, 1), (74, .invokevirtual 70, 3), (77, .goto 200, 3), (80, .aload_n 1, 1), (81, .getfield 74, 3), (84, .aload_n 2, 1), (85, .getfield 64, 3), (88, .iload_n 3, 1), (89, .iaload, 1), (90, .iadd, 1), (91, .sipush 9999, 3), (94, .if_icmp .le 16, 3), (97, .aload_n 0, 1), (98, .dup, 1), (99, .getfield 33, 3), (102, .iconst 1, 1), (103, .iadd, 1), (104, .putfield 33, 3), (107, .goto 170, 3), (110, .aload_n 0, 1), (111, .dup, 1), (112, .getfield 42, 3), (115, .aload_n 1, 1), (116, .aload_n 2, 1), (117, .getfield 64, 3), (120, .iload_n 3, 1), (121, .iaload, 1), (122, .invokevirtual 79, 3), (125, .invokestatic 83, 3), (128, .iadd, 1), (129, .putfield 42, 3), (132, .aload_n 0, 1), (133, .dup, 1), (134, .getfield 36, 3), (137, .aload_n 2, 1), (138, .getfield 64, 3), (141, .iload_n 3, 1), (142, .iaload, 1), (143, .iadd, 1), (144, .putfield 36, 3), (147, .goto 130, 3), (150, .aload_n 1, 1), (151, .aload_n 2, 1), (152, .getfield 64, 3), (155, .iload_n 3, 1), (156, .iaload, 1), (157, .invokevirtual 88, 3), (160, .pop, 1), (161, .goto 116, 3), (164, .aload_n 1, 1), (165, .aload_n 2, 1), (166, .getfield 64, 3), (169, .iload_n 3, 1), (170, .iaload, 1), (171, .invokevirtual 91, 3), (174, .goto 103, 3), (177, .aload_n 1, 1), (178, .getfield 95, 3), (181, .getfield 99, 3), (184, .iconst 1, 1), (185, .if_icmp .lt 11, 3), (188, .aload_n 1, 1), (189, .getfield 102, 3), (192, .iconst 1, 1), (193, .if_icmp .ge 16, 3), (196, .aload_n 0, 1), (197, .dup, 1), (198, .getfield 33, 3), (201, .iconst 1, 1), (202, .iadd, 1), (203, .putfield 33, 3), (206, .goto 71, 3), (209, .aload_n 0, 1), (210, .aload_n 1, 1), (211, .aload_n 0, 1), (212, .aload_n 1, 1), (213, .getfield 95, 3), (216, .getfield 99, 3), (219, .invokevirtual 105, 3), (222, .aload_n 0, 1), (223, .aload_n 1, 1), (224, .getfield 102, 3), (227, .invokevirtual 105, 3), (230, .invokevirtual 70, 3), (233, .goto 44, 3), (236, .aload_n 1, 1), (237, .aload_n 2, 1), (238, .iload_n 3, 1), (239, .invokestatic 108, 3), (242, .ifCond .eq 9, 3), (245, .iload_n 3, 1), (246, .iconst 1, 1), (247, .iadd, 1), (248, .goto 9, 3), (251, .aload_n 2, 1), (252, .getfield 112, 3), (255, .iload_n 3, 1), (256, .iaload, 1), (257, .ireturn, 1), (258, .aload_n 0, 1), (259, .aload_n 2, 1), (260, .iload_n 3, 1), (261, .invokevirtual 115, 3), (264, .goto 13, 3), (267, .aload_n 0, 1), (268, .iconst 0, 1), (269, .putfield 22, 3), (272, .aload_n 2, 1), (273, .getfield 45, 3), (276, .ireturn, 1), (277, .iload_n 3, 1), (278, .iconst 1, 1), (279, .iadd, 1), (280, .ireturn, 1)], 4, [(22, 0, 5, 3), (33, 0, 5, 6), (36, 0, 5, 7), (42, 0, 5, 9), (45, 1, 9, 6), (61, 1, 9, 0), (64, 1, 9, 2), (67, 1, 9, 3), (70, 5, 76, 3), (74, 1, 3, 13), (79, 6, 49, 1), (83, 7, 372, 1), (88, 6, 56, 1), (91, 6, 57, 1), (95, 1, 3, 6), (99, 1, 0, 7), (102, 1, 3, 8), (105, 5, 77, 1), (108, 7, 78, 3), (112, 1, 9, 5), (115, 5, 74, 2)], [], (Option.some Jvm.ClassFile.FieldType.int), 5)
def gk_m74 : rk_M2 := ([(0, .aload_n 1, 1), (1, .getfield 112, 3), (4, .iload_n 2, 1), (5, .iaload, 1), (6, .iload_n 2, 1), (7, .iconst 1, 1), (8, .iadd, 1), (9, .if_icmp .ne 7, 3), (12, .iconst 1, 1), (13, .goto 4, 3), (16, .iconst 0, 1), (17, .istore_n 3, 1), (18, .iload_n 3, 1), (19, .ifCond .ne 48, 3), (22, .aload_n 0, 1), (23, .getfield 22, 3), (26, .iconst 3, 1), (27, .if_icmp .ge 40, 3), (30, .aload_n 0, 1), (31, .getfield 9, 3), (34, .aload_n 0, 1), (35, .getfield 22, 3), (38, .iload_n 2, 1), (39, .iastore, 1), (40, .aload_n 0, 1), (41, .getfield 15, 3), (44, .aload_n 0, 1), (45, .getfield 22, 3), (48, .aload_n 1, 1), (49, .getfield 64, 3), (52, .iload_n 2, 1), (53, .iaload, 1), (54, .iconst 1, 1), (55, .isub, 1), (56, .iastore, 1), (57, .aload_n 0, 1), (58, .dup, 1), (59, .getfield 22, 3), (62, .iconst 1, 1), (63, .iadd, 1), (64, .putfield 22, 3), (67, .return_, 1)], 4, [(9, 0, 5, 1), (15, 0, 5, 2), (22, 0, 5, 3), (64, 1, 9, 2), (112, 1, 9, 5)], [], (Option.none : Option Jvm.ClassFile.FieldType), 5)
def gk_m75 : rk_M2 := ([(0, .iconst 0, 1), (1, .istore_n 3, 1), (2, .iload_n 3, 1), (3, .iconst 3, 1), (4, .if_icmp .ge 87, 3), (7, .aload_n 0, 1), (8, .getfield 22, 3), (11, .ifCond .le 80, 3), (14, .aload_n 0, 1), (15, .getfield 9, 3), (18, .aload_n 0, 1), (19, .getfield 22, 3), (22, .iconst 1, 1), (23, .isub, 1), (24, .iaload, 1), (25, .istore 4, 2), (27, .aload_n 1, 1), (28, .getfield 112, 3), (31, .iload 4, 2), (33, .iaload, 1), (34, .iload_n 2, 1), (35, .if_icmp .eq 6, 3), (38, .goto 53, 3), (41, .aload_n 0, 1), (42, .getfield 15, 3), (45, .aload_n 0, 1), (46, .getfield 22, 3), (49, .iconst 1, 1), (50, .isub, 1), (51, .iaload, 1), (52, .ifCond .le 23, 3), (55, .aload_n 0, 1), (56, .getfield 15, 3), (59, .aload_n 0, 1), (60, .getfield 22, 3), (63, .iconst 1, 1), (64, .isub, 1), (65, .dup2, 1), (66, .iaload, 1), (67, .iconst 1, 1), (68, .isub, 1), (69, .iastore, 1), (70, .iload 4, 2), (72, .iconst 1, 1), (73, .iadd, 1), (74, .ireturn, 1), (75, .aload_n 0, 1), (76, .dup, 1), (77, .getfield 22, 3), (80, .iconst 1, 1), (81, .isub, 1), (82, .putfield 22, 3), (85, .iinc 3 1, 3), (88, .goto (-86), 3), (91, .iload_n 2, 1), (92, .ireturn, 1)], 5, [(9, 0, 5, 1), (15, 0, 5, 2), (22, 0, 5, 3), (112, 1, 9, 5)], [], (Option.some Jvm.ClassFile.FieldType.int), 5)
def gk_m76 : rk_M2 := ([(0, .aload_n 1, 1), (1, .getfield 95, 3), (4, .iload_n 2, 1), (5, .invokevirtual 119, 3), (8, .ifCond .eq 65, 3), (11, .aload_n 1, 1), (12, .iload_n 3, 1), (13, .invokevirtual 123, 3), (16, .ifCond .eq 57, 3), (19, .aload_n 1, 1), (20, .getfield 95, 3), (23, .iload_n 2, 1), (24, .invokevirtual 126, 3), (27, .ifCond .ne 46, 3), (30, .aload_n 1, 1), (31, .getfield 95, 3), (34, .getfield 129, 3), (37, .iload_n 2, 1), (38, .iaload, 1), (39, .iload_n 3, 1), (40, .if_icmp .eq 33, 3), (43, .aload_n 0, 1), (44, .getfield 18, 3), (47, .aload_n 1, 1), (48, .aload_n 1, 1), (49, .getfield 95, 3), (52, .getfield 129, 3), (55, .iload_n 2, 1), (56, .iaload, 1), (57, .iload_n 3, 1), (58, .aload_n 1, 1), (59, .iload_n 2, 1), (60, .invokevirtual 132, 3), (63, .invokevirtual 135, 3), (66, .ifCond .eq 7, 3), (69, .iconst 1, 1), (70, .goto 4, 3), (73, .iconst 0, 1), (74, .istore 4, 2), (76, .iload 4, 2), (78, .ifCond .eq 38, 3), (81, .aload_n 1, 1), (82, .getfield 95, 3), (85, .iload_n 2, 1), (86, .aload_n 0, 1), (87, .getfield 18, 3), (90, .getfield 141, 3), (93, .aload_n 0, 1), (94, .getfield 18, 3), (97, .getfield 144, 3), (100, .invokevirtual 147, 3), (103, .aload_n 0, 1), (104, .dup, 1), (105, .getfield 39, 3), (108, .iconst 1, 1), (109, .iadd, 1), (110, .putfield 39, 3), (113, .goto 13, 3), (116, .aload_n 0, 1), (117, .dup, 1), (118, .getfield 33, 3), (121, .iconst 1, 1), (122, .iadd, 1), (123, .putfield 33, 3), (126, .return_, 1)], 5, [(18, 0, 5, 0), (33, 0, 5, 6), (39, 0, 5, 8), (95, 1, 3, 6), (119, 6, 3, 1), (123, 6, 34, 1), (126, 6, 6, 1), (129, 1, 0, 2), (132, 6, 43, 1), (135, 6, 81, 4), (141, 1, 6, 0), (144, 1, 6, 4), (147, 6, 8, 3)], [], (Option.none : Option Jvm.ClassFile.FieldType), 5)
def gk_m77 : rk_M2 := ([(0, .aload_n 0, 1), (1, .iconst 1, 1), (2, .putfield 29, 3), (5, .aload_n 0, 1), (6, .aload_n 0, 1), (7, .getfield 26, 3), (10, .sipush 2999, 3), (13, .imul, 1), (14, .sipush 11177, 3), (17, .iadd, 1), (18, .ldc 151, 2), (20, .irem, 1), (21, .putfield 26, 3), (24, .iload_n 1, 1), (25, .ifCond .le 15, 3), (28, .aload_n 0, 1), (29, .getfield 26, 3), (32, .bipush 8, 2), (34, .idiv, 1), (35, .iload_n 1, 1), (36, .irem, 1), (37, .goto 4, 3), (40, .iconst 0, 1), (41, .ireturn, 1)], 2, [(26, 0, 5, 4), (29, 0, 5, 5)], [(151, .int 65536)], (Option.some Jvm.ClassFile.FieldType.int), 5)
def gk_m78 : rk_M2 := ([(0, .aload_n 1, 1), (1, .getfield 64, 3), (4, .iload_n 2, 1), (5, .iaload, 1), (6, .istore_n 3, 1), (7, .aload_n 1, 1), (8, .getfield 67, 3), (11, .iload_n 2, 1), (12, .iaload, 1), (13, .istore 4, 2), (15, .aload_n 1, 1), (16, .getfield 152, 3), (19, .iload_n 2, 1), (20, .iaload, 1), (21, .lookupswitch 148 #[(1, 27), (7, 117)], 27), (48, .aload_n 0, 1), (49, .iload_n 3, 1), (50, .invokevirtual 155, 3), (53, .ifCond .eq 11, 3), (56, .aload_n 0, 1), (57, .iload_n 3, 1), (58, .invokevirtual 158, 3), (61, .goto 6, 3), (64, .sipush 999, 3), (67, .istore 5, 2), (69, .iload 4, 2), (71, .bipush 60, 2), (73, .if_icmp .ne 22, 3), (76, .iload 5, 2), (78, .aload_n 1, 1), (79, .getfield 161, 3), (82, .iload_n 2, 1), (83, .iaload, 1), (84, .if_icmp .ge 7, 3), (87, .iconst 1, 1), (88, .goto 49, 3), (91, .iconst 0, 1), (92, .goto 45, 3), (95, .iload 4, 2), (97, .bipush 62, 2), (99, .if_icmp .ne 22, 3), (102, .iload 5, 2), (104, .aload_n 1, 1), (105, .getfield 161, 3), (108, .iload_n 2, 1), (109, .iaload, 1), (110, .if_icmp .le 7, 3), (113, .iconst 1, 1), (114, .goto 23, 3), (117, .iconst 0, 1), (118, .goto 19, 3), (121, .iload 5, 2), (123, .aload_n 1, 1), (124, .getfield 161, 3), (127, .iload_n 2, 1), (128, .iaload, 1), (129, .if_icmp .ne 7, 3), (132, .iconst 1, 1), (133, .goto 4, 3), (136, .iconst 0, 1), (137, .ireturn, 1), (138, .aload_n 0, 1), (139, .getfield 95, 3), (142, .iload_n 3, 1), (143, .invokevirtual 119, 3), (146, .ifCond .eq 21, 3), (149, .aload_n 0, 1), (150, .getfield 95, 3), (153, .getfield 129, 3), (156, .iload_n 3, 1), (157, .iaload, 1), (158, .iload 4, 2), (160, .if_icmp .ne 7, 3), (163, .iconst 1, 1), (164, .goto 4, 3), (167, .iconst 0, 1), (168, .ireturn, 1), (169, .aload_n 0, 1), (170, .getfield 95, 3), (173, .getfield 164, 3), (176, .iload_n 3, 1), (177, .ishr, 1), (178, .iconst 1, 1), (179, .iand, 1), (180, .ifCond .eq 7, 3), (183, .iconst 1, 1), (184, .goto 4, 3), (187, .iconst 0, 1), (188, .ireturn, 1)], 6, [(64, 1, 9, 2), (67, 1, 9, 3), (95, 1, 3, 6), (119, 6, 3, 1), (129, 1, 0, 2), (152, 1, 9, 1), (155, 6, 36, 1), (158, 6, 40, 1), (161, 1, 9, 4), (164, 1, 0, 8)], [], (Option.some Jvm.ClassFile.FieldType.boolean), 5)
def gk_m79 : rk_M2 := ([(0, .aload_n 0, 1), (1, .invokespecial 3, 3), (4, .aload_n 0, 1), (5, .bipush 10, 2), (7, .newarray .int, 2), (9, .putfield 9, 3), (12, .aload_n 0, 1), (13, .bipush 11, 2), (15, .newarray .int, 2), (17, .putfield 15, 3), (20, .aload_n 0, 1), (21, .bipush 10, 2), (23, .newarray .int, 2), (25, .putfield 18, 3), (28, .aload_n 0, 1), (29, .sipush 1024, 3), (32, .newarray .int, 2), (34, .putfield 21, 3), (37, .return_, 1)], 1, [(3, 11, 0, 0), (9, 2, 6, 0), (15, 2, 6, 1), (18, 2, 6, 2), (21, 2, 6, 3)], [], (Option.none : Option Jvm.ClassFile.FieldType), 6)
def gk_m80 : rk_M2 := ([(0, .iload_n 1, 1), (1, .ifCond .lt 21, 3), (4, .iload_n 1, 1), (5, .aload_n 0, 1), (6, .getfield 24, 3), (9, .if_icmp .ge 13, 3), (12, .iload_n 1, 1), (13, .bipush 10, 2), (15, .if_icmp .ge 7, 3), (18, .iconst 1, 1), (19, .goto 4, 3), (22, .iconst 0, 1), (23, .ireturn, 1)], 2, [(24, 0, 6, 4)], [], (Option.some Jvm.ClassFile.FieldType.boolean), 6)
def gk_m81 : rk_M2 := ([(0, .aload_n 0, 1), (1, .iconst 0, 1), (2, .putfield 24, 3), (5, .iload_n 2, 1), (6, .iload_n 3, 1), (7, .if_icmp .ne 5, 3), (10, .iconst 1, 1), (11, .ireturn, 1), (12, .aload_n 0, 1), (13, .aload_n 1, 1), (14, .iload_n 3, 1), (15, .iload_n 2, 1), (16, .iload 4, 2), (18, .invokevirtual 28, 3), (21, .istore 5, 2), (23, .iload 5, 2), (25, .iconst 1, 1), (26, .if_icmp .ge 5, 3), (29, .iconst 0, 1), (30, .ireturn, 1), (31, .iload_n 2, 1), (32, .istore 6, 2), (34, .iload 5, 2), (36, .iconst 1, 1), (37, .isub, 1), (38, .istore 7, 2), (40, .iload 7, 2), (42, .ifCond .lt 74, 3), (45, .aload_n 1, 1), (46, .getfield 32, 3), (49, .iload 6, 2), (51, .iaload, 1), (52, .aload_n 0, 1), (53, .getfield 15, 3), (56, .iload 7, 2), (58, .iaload, 1), (59, .iand, 1), (60, .invokestatic 37, 3), (63, .istore 8, 2), (65, .aload_n 1, 1), (66, .iload 8, 2), (68, .invokevirtual 41, 3), (71, .ifCond .eq 12, 3), (74, .aload_n 0, 1), (75, .getfield 24, 3), (78, .bipush 10, 2), (80, .if_icmp .lt 5, 3), (83, .iconst 0, 1), (84, .ireturn, 1), (85, .aload_n 0, 1), (86, .getfield 9, 3), (89, .aload_n 0, 1), (90, .getfield 24, 3), (93, .iload 8, 2), (95, .iastore, 1), (96, .aload_n 0, 1), (97, .dup, 1), (98, .getfield 24, 3), (101, .iconst 1, 1), (102, .iadd, 1), (103, .putfield 24, 3), (106, .iload 8, 2), (108, .istore 6, 2), (110, .iinc 7 (-1), 3), (113, .goto (-73), 3), (116, .iconst 1, 1), (117, .ireturn, 1)], 9, [(9, 0, 6, 0), (15, 0, 6, 1), (24, 0, 6, 4), (28, 5, 82, 4), (32, 1, 3, 1), (37, 8, 200, 1), (41, 6, 34, 1)], [], (Option.some Jvm.ClassFile.FieldType.boolean), 6)
def gk_m82 : rk_M2 := ([(0, .iload 4, 2), (2, .iload_n 2, 1), (3, .ishr, 1), (4, .iconst 1, 1), (5, .iand, 1), (6, .ifCond .ne 5, 3), (9, .iconst (-1), 1), (10, .ireturn, 1), (11, .aload_n 0, 1), (12, .getfield 15, 3), (15, .iconst 0, 1), (16, .iconst 1, 1), (17, .iload_n 2, 1), (18, .ishl, 1), (19, .iastore, 1), (20, .aload_n 0, 1), (21, .getfield 15, 3), (24, .iconst 0, 1), (25, .iaload, 1), (26, .istore 5, 2), (28, .iconst 1, 1), (29, .istore 6, 2), (31, .iload 6, 2), (33, .bipush 10, 2), (35, .if_icmp .gt 78, 3), (38, .aload_n 1, 1), (39, .aload_n 0, 1), (40, .getfield 15, 3), (43, .iload 6, 2), (45, .iconst 1, 1), (46, .isub, 1), (47, .iaload, 1), (48, .invokevirtual 45, 3), (51, .iload 5, 2), (53, .iconst (-1), 1), (54, .ixor, 1), (55, .iand, 1), (56, .istore 7, 2), (58, .iload 7, 2), (60, .iload_n 3, 1), (61, .ishr, 1), (62, .iconst 1, 1), (63, .iand, 1), (64, .ifCond .eq 6, 3), (67, .iload 6, 2), (69, .ireturn, 1), (70, .aload_n 0, 1), (71, .getfield 15, 3), (74, .iload 6, 2), (76, .iload 7, 2), (78, .iload 4, 2), (80, .iand, 1), (81, .iastore, 1), (82, .iload 5, 2), (84, .aload_n 0, 1), (85, .getfield 15, 3), (88, .iload 6, 2), (90, .iaload, 1), (91, .ior, 1), (92, .istore 5, 2), (94, .aload_n 0, 1), (95, .getfield 15, 3), (98, .iload 6, 2), (100, .iaload, 1), (101, .ifCond .ne 6, 3), (104, .goto 9, 3), (107, .iinc 6 1, 3), (110, .goto (-79), 3), (113, .iconst (-1), 1), (114, .ireturn, 1)], 8, [(15, 0, 6, 1), (45, 6, 46, 1)], [], (Option.some Jvm.ClassFile.FieldType.int), 6)
def gk_m83 : rk_M2 := ([(0, .aload_n 1, 1), (1, .getfield 48, 3), (4, .getfield 52, 3), (7, .iload_n 2, 1), (8, .iaload, 1), (9, .istore 4, 2), (11, .iconst 0, 1), (12, .istore 5, 2), (14, .iload 5, 2), (16, .aload_n 1, 1), (17, .getfield 57, 3), (20, .if_icmp .ge 23, 3), (23, .aload_n 0, 1), (24, .getfield 18, 3), (27, .iload 5, 2), (29, .aload_n 1, 1), (30, .iload_n 2, 1), (31, .iload 5, 2), (33, .invokevirtual 60, 3), (36, .iastore, 1), (37, .iinc 5 1, 3), (40, .goto (-26), 3), (43, .iconst 0, 1), (44, .istore 5, 2), (46, .iconst 0, 1), (47, .istore 6, 2), (49, .iload 6, 2), (51, .aload_n 1, 1), (52, .getfield 57, 3), (55, .if_icmp .ge 79, 3), (58, .iload 5, 2), (60, .ifCond .eq 17, 3), (63, .aload_n 0, 1), (64, .getfield 18, 3), (67, .iload 6, 2), (69, .iaload, 1), (70, .aload_n 0, 1), (71, .getfield 64, 3), (74, .if_icmp .le 7, 3), (77, .iconst 1, 1), (78, .goto 4, 3), (81, .iconst 0, 1), (82, .istore 7, 2), (84, .iload 7, 2), (86, .ifCond .eq 42, 3), (89, .aload_n 1, 1), (90, .iload 4, 2), (92, .aload_n 0, 1), (93, .aload_n 1, 1), (94, .aload_n 0, 1), (95, .getfield 18, 3), (98, .iload 6, 2), (100, .iaload, 1), (101, .invokevirtual 67, 3), (104, .invokevirtual 71, 3), (107, .iload_n 3, 1), (108, .ishr, 1), (109, .iconst 1, 1), (110, .iand, 1), (111, .ifCond .eq 17, 3), (114, .aload_n 0, 1), (115, .aload_n 0, 1), (116, .getfield 18, 3), (119, .iload 6, 2), (121, .iaload, 1), (122, .putfield 64, 3), (125, .iconst 1, 1), (126, .istore 5, 2), (128, .iinc 6 1, 3), (131, .goto (-82), 3), (134, .iload 5, 2), (136, .ifCond .eq 27, 3), (139, .aload_n 0, 1), (140, .aload_n 1, 1), (141, .iload 4, 2), (143, .iload_n 3, 1), (144, .aload_n 0, 1), (145, .aload_n 1, 1), (146, .aload_n 0, 1), (147, .getfield 64, 3), (150, .invokevirtual 67, 3), (153, .invokevirtual 74, 3), (156, .ifCond .eq 7, 3), (159, .iconst 1, 1), (160, .goto 4, 3), (163, .iconst 0, 1), (164, .ireturn, 1)], 8, [(18, 0, 6, 2), (48, 1, 3, 6), (52, 1, 0, 2), (57, 1, 3, 8), (60, 6, 42, 2), (64, 0, 6, 5), (67, 5, 84, 2), (71, 6, 47, 2), (74, 5, 81, 4)], [], (Option.some Jvm.ClassFile.FieldType.boolean), 6)
def gk_m84 : rk_M2 := ([(0, .iconst 0, 1), (1, .istore_n 3, 1), (2, .iconst 0, 1), (3, .istore 4, 2), (5, .iload 4, 2), (7, .aload_n 1, 1), (8, .getfield 57, 3), (11, .if_icmp .ge 27, 3), (14, .aload_n 0, 1), (15, .getfield 18, 3), (18, .iload 4, 2), (20, .iaload, 1), (21, .iload_n 2, 1), (22, .if_icmp .lt 10, 3), (25, .iload_n 3, 1), (26, .iconst 1, 1), (27, .iload 4, 2), (29, .ishl, 1), (30, .ior, 1), (31, .istore_n 3, 1), (32, .iinc 4 1, 3), (35, .goto (-30), 3), (38, .iload_n 3, 1), (39, .ireturn, 1)], 5, [(18, 0, 6, 2), (57, 1, 3, 8)], [], (Option.some Jvm.ClassFile.FieldType.int), 6)
def gk_m85 : rk_M2 := ([(0, .aload_n 1, 1), (1, .getfield 48, 3), (4, .getfield 52, 3), (7, .iload_n 2, 1), (8, .iaload, 1), (9, .istore 4, 2), (11, .aload_n 1, 1), (12, .getfield 32, 3), (15, .iload 4, 2), (17, .iaload, 1), (18, .iload_n 3, 1), (19, .ishr, 1), (20, .iconst 1, 1), (21, .iand, 1), (22, .ifCond .eq 5, 3), (25, .iconst (-1), 1), (26, .ireturn, 1), (27, .aload_n 1, 1), (28, .iload_n 2, 1), (29, .invokevirtual 78, 3), (32, .istore 5, 2), (34, .iload 5, 2), (36, .aload_n 1, 1), (37, .getfield 81, 3), (40, .iconst (-1), 1), (41, .ixor, 1), (42, .iand, 1), (43, .iconst 1, 1), (44, .iload 4, 2), (46, .ishl, 1), (47, .iconst (-1), 1), (48, .ixor, 1), (49, .iand, 1), (50, .iconst 1, 1), (51, .iload_n 3, 1), (52, .ishl, 1), (53, .iconst (-1), 1), (54, .ixor, 1), (55, .iand, 1), (56, .istore 6, 2), (58, .iconst (-1), 1), (59, .istore 7, 2), (61, .iconst 0, 1), (62, .istore 8, 2), (64, .iconst 0, 1), (65, .istore 9, 2), (67, .iload 9, 2), (69, .sipush 1024, 3), (72, .if_icmp .ge 81, 3), (75, .iload 7, 2), (77, .ifCond .lt 16, 3), (80, .iload 8, 2), (82, .invokestatic 84, 3), (85, .iload 7, 2), (87, .invokestatic 84, 3), (90, .if_icmp .ge 7, 3), (93, .iconst 1, 1), (94, .goto 4, 3), (97, .iconst 0, 1), (98, .istore 10, 2), (100, .iload 10, 2), (102, .ifCond .eq 27, 3), (105, .aload_n 1, 1), (106, .iload 4, 2), (108, .iload 5, 2), (110, .iload 8, 2), (112, .iconst (-1), 1), (113, .ixor, 1), (114, .iand, 1), (115, .invokevirtual 71, 3), (118, .iload_n 3, 1), (119, .ishr, 1), (120, .iconst 1, 1), (121, .iand, 1), (122, .ifCond .ne 7, 3), (125, .iload 8, 2), (127, .istore 7, 2), (129, .iload 8, 2), (131, .iload 6, 2), (133, .isub, 1), (134, .iload 6, 2), (136, .iand, 1), (137, .istore 8, 2), (139, .iload 8, 2), (141, .ifCond .ne 6, 3), (144, .goto 9, 3), (147, .iinc 9 1, 3), (150, .goto (-83), 3), (153, .iload 7, 2), (155, .ireturn, 1)], 11, [(32, 1, 3, 1), (48, 1, 3, 6), (52, 1, 0, 2), (71, 6, 47, 2), (78, 6, 43, 1), (81, 1, 3, 9), (84, 7, 372, 1)], [], (Option.some Jvm.ClassFile.FieldType.int), 6)
def gk_m86 : rk_M2 := ([(0, .iconst 0, 1), (1, .istore_n 3, 1), (2, .iconst 0, 1), (3, .istore 4, 2), (5, .iload 4, 2), (7, .aload_n 1, 1), (8, .getfield 48, 3), (11, .getfield 89, 3), (14, .if_icmp .ge 52, 3), (17, .aload_n 1, 1), (18, .aload_n 1, 1), (19, .getfield 48, 3), (22, .getfield 92, 3), (25, .iload 4, 2), (27, .iaload, 1), (28, .invokestatic 95, 3), (31, .istore 5, 2), (33, .iload 5, 2), (35, .iload_n 2, 1), (36, .iand, 1), (37, .ifCond .ne 23, 3), (40, .aload_n 0, 1), (41, .aload_n 1, 1), (42, .iload_n 2, 1), (43, .iload 5, 2), (45, .iload_n 2, 1), (46, .ior, 1), (47, .invokevirtual 98, 3), (50, .ifCond .eq 10, 3), (53, .iload_n 3, 1), (54, .iconst 1, 1), (55, .iload 4, 2), (57, .ishl, 1), (58, .ior, 1), (59, .istore_n 3, 1), (60, .iinc 4 1, 3), (63, .goto (-58), 3), (66, .iload_n 3, 1), (67, .ireturn, 1)], 6, [(48, 1, 3, 6), (89, 1, 0, 7), (92, 1, 0, 1), (95, 7, 87, 2), (98, 5, 88, 3)], [], (Option.some Jvm.ClassFile.FieldType.int), 6)
def gk_m87 : rk_M2 := ([(0, .iconst 0, 1), (1, .istore_n 2, 1), (2, .iconst 0, 1), (3, .istore_n 3, 1), (4, .iload_n 3, 1), (5, .aload_n 0, 1), (6, .getfield 57, 3), (9, .if_icmp .ge 32, 3), (12, .aload_n 0, 1), (13, .iload_n 3, 1), (14, .invokevirtual 102, 3), (17, .ifCond .eq 18, 3), (20, .aload_n 0, 1), (21, .iload_n 3, 1), (22, .invokevirtual 105, 3), (25, .iload_n 1, 1), (26, .if_icmp .lt 9, 3), (29, .iload_n 2, 1), (30, .iconst 1, 1), (31, .iload_n 3, 1), (32, .ishl, 1), (33, .ior, 1), (34, .istore_n 2, 1), (35, .iinc 3 1, 3), (38, .goto (-34), 3), (41, .iload_n 2, 1), (42, .ireturn, 1)], 4, [(57, 1, 3, 8), (102, 6, 36, 1), (105, 6, 40, 1)], [], (Option.some Jvm.ClassFile.FieldType.int), 6)
def gk_m88 : rk_M2 := ([(0, .iconst 0, 1), (1, .istore 4, 2), (3, .iload 4, 2), (5, .aload_n 1, 1), (6, .getfield 57, 3), (9, .if_icmp .ge 32, 3), (12, .aload_n 1, 1), (13, .iload 4, 2), (15, .invokevirtual 108, 3), (18, .ifCond .eq 17, 3), (21, .aload_n 0, 1), (22, .aload_n 1, 1), (23, .iload 4, 2), (25, .iload_n 2, 1), (26, .iload_n 3, 1), (27, .invokevirtual 111, 3), (30, .ifCond .eq 5, 3), (33, .iconst 1, 1), (34, .ireturn, 1), (35, .iinc 4 1, 3), (38, .goto (-35), 3), (41, .iconst 0, 1), (42, .ireturn, 1)], 5, [(57, 1, 3, 8), (108, 6, 35, 1), (111, 5, 89, 4)], [], (Option.some Jvm.ClassFile.FieldType.boolean), 6)
def gk_m89 : rk_M2 := ([(0, .aload_n 1, 1), (1, .getfield 81, 3), (4, .iconst 1, 1), (5, .iload_n 2, 1), (6, .ishl, 1), (7, .iconst (-1), 1), (8, .ixor, 1), (9, .iand, 1), (10, .istore 5, 2), (12, .aload_n 1, 1), (13, .iload 5, 2), (15, .invokevirtual 45, 3), (18, .istore 6, 2), (20, .iload_n 3, 1), (21, .ifCond .ne 17, 3), (24, .aload_n 1, 1), (25, .getfield 32, 3), (28, .iload_n 2, 1), (29, .iaload, 1), (30, .iload 5, 2), (32, .iand, 1), (33, .ifCond .eq 5, 3), (36, .iconst 1, 1), (37, .ireturn, 1), (38, .iconst 0, 1), (39, .istore 7, 2), (41, .iconst 0, 1), (42, .istore 8, 2), (44, .iload 8, 2), (46, .sipush 1024, 3), (49, .if_icmp .ge 74, 3), (52, .iload 7, 2), (54, .iload 4, 2), (56, .isub, 1), (57, .iload 4, 2), (59, .iand, 1), (60, .istore 7, 2), (62, .iload 7, 2), (64, .ifCond .le 59, 3), (67, .iload 7, 2), (69, .sipush 1024, 3), (72, .if_icmp .lt 6, 3), (75, .goto 48, 3), (78, .aload_n 0, 1), (79, .getfield 21, 3), (82, .iload 7, 2), (84, .aload_n 0, 1), (85, .aload_n 1, 1), (86, .iload_n 2, 1), (87, .iload 7, 2), (89, .invokevirtual 114, 3), (92, .iastore, 1), (93, .iload_n 3, 1), (94, .iload 7, 2), (96, .iconst (-1), 1), (97, .ixor, 1), (98, .iand, 1), (99, .ifCond .ne 18, 3), (102, .aload_n 0, 1), (103, .getfield 21, 3), (106, .iload 7, 2), (108, .iaload, 1), (109, .iload 6, 2), (111, .iand, 1), (112, .ifCond .eq 5, 3), (115, .iconst 1, 1), (116, .ireturn, 1), (117, .iinc 8 1, 3), (120, .goto (-76), 3), (123, .iconst 0, 1), (124, .ireturn, 1)], 9, [(21, 0, 6, 3), (32, 1, 3, 1), (45, 6, 46, 1), (81, 1, 3, 9), (114, 5, 90, 3)], [], (Option.some Jvm.ClassFile.FieldType.boolean), 6)
def gk_m90 : rk_M2 := ([(0, .iload_n 3, 1), (1, .iload_n 3, 1), (2, .iconst 1, 1), (3, .isub, 1), (4, .iand, 1), (5, .ifCond .ne 12, 3), (8, .iload_n 3, 1), (9, .aload_n 1, 1), (10, .getfield 32, 3), (13, .iload_n 2, 1), (14, .iaload, 1), (15, .iand, 1), (16, .ireturn, 1), (17, .iconst 0, 1), (18, .istore 4, 2), (20, .iconst 0, 1), (21, .istore 5, 2), (23, .iload 5, 2), (25, .aload_n 1, 1), (26, .getfield 57, 3), (29, .if_icmp .ge 49, 3), (32, .iload_n 3, 1), (33, .iload 5, 2), (35, .ishr, 1), (36, .iconst 1, 1), (37, .iand, 1), (38, .ifCond .eq 34, 3), (41, .aload_n 0, 1), (42, .getfield 21, 3), (45, .iload_n 3, 1), (46, .iconst 1, 1), (47, .iload 5, 2), (49, .ishl, 1), (50, .ixor, 1), (51, .iaload, 1), (52, .aload_n 1, 1), (53, .getfield 32, 3), (56, .iload 5, 2), (58, .iaload, 1), (59, .iand, 1), (60, .ifCond .eq 12, 3), (63, .iload 4, 2), (65, .iconst 1, 1), (66, .iload 5, 2), (68, .ishl, 1), (69, .ior, 1), (70, .istore 4, 2), (72, .iinc 5 1, 3), (75, .goto (-52), 3), (78, .iload 4, 2), (80, .ireturn, 1)], 6, [(21, 0, 6, 3), (32, 1, 3, 1), (57, 1, 3, 8)], [], (Option.some Jvm.ClassFile.FieldType.int), 6)
def gk_m91 : rk_M2 := ([(0, .aload_n 0, 1), (1, .invokespecial 3, 3), (4, .aload_n 0, 1), (5, .iconst 4, 1), (6, .anewarray 9, 3), (9, .putfield 11, 3), (12, .aload_n 0, 1), (13, .iconst 4, 1), (14, .newarray .int, 2), (16, .putfield 17, 3), (19, .aload_n 0, 1), (20, .iconst 4, 1), (21, .newarray .int, 2), (23, .putfield 21, 3), (26, .aload_n 0, 1), (27, .iconst 4, 1), (28, .newarray .int, 2), (30, .putfield 24, 3), (33, .aload_n 0, 1), (34, .iconst 4, 1), (35, .newarray .int, 2), (37, .putfield 27, 3), (40, .aload_n 0, 1), (41, .iconst 4, 1), (42, .newarray .int, 2), (44, .putfield 30, 3), (47, .aload_n 0, 1), (48, .bipush 12, 2), (50, .newarray .int, 2), (52, .putfield 33, 3), (55, .iconst 0, 1), (56, .istore_n 1, 1), (57, .iload_n 1, 1), (58, .iconst 4, 1), (59, .if_icmp .ge 22, 3), (62, .aload_n 0, 1), (63, .getfield 11, 3), (66, .iload_n 1, 1), (67, .new 9, 3), (70, .dup, 1), (71, .invokespecial 36, 3), (74, .aastore, 1), (75, .iinc 1 1, 3), (78, .goto (-21), 3), (81, .return_, 1)], 2, [(3, 11, 0, 0), (9, 3, 3, 0), (9, 4, 3, 0), (11, 2, 7, 0), (17, 2, 7, 1), (21, 2, 7, 2), (24, 2, 7, 3), (27, 2, 7, 4), (30, 2, 7, 5), (33, 2, 7, 6), (36, 10, 29, 0)], [], (Option.none : Option Jvm.ClassFile.FieldType), 7)
def gk_m92 : rk_M2 := ([(0, .iload 4, 2), (2, .iconst 1, 1), (3, .if_icmp .lt 27, 3), (6, .iload 4, 2), (8, .bipush 12, 2), (10, .if_icmp .gt 20, 3), (13, .iload 4, 2), (15, .aload_n 3, 1), (16, .arraylength, 1), (17, .if_icmp .gt 13, 3), (20, .aload_n 1, 1), (21, .aload_n 3, 1), (22, .iload 4, 2), (24, .invokestatic 37, 3), (27, .ifCond .eq 5, 3), (30, .iconst (-1), 1), (31, .ireturn, 1), (32, .aload_n 3, 1), (33, .iconst 0, 1), (34, .aload_n 0, 1), (35, .getfield 33, 3), (38, .iconst 0, 1), (39, .iload 4, 2), (41, .invokestatic 41, 3), (44, .aload_n 0, 1), (45, .iload 4, 2), (47, .putfield 47, 3), (50, .aload_n 0, 1), (51, .ldc 51, 2), (53, .putfield 52, 3), (56, .aload_n 0, 1), (57, .iload_n 2, 1), (58, .invokevirtual 55, 3), (61, .aload_n 0, 1), (62, .getfield 59, 3), (65, .iconst 1, 1), (66, .if_icmp .ge 5, 3), (69, .iconst (-1), 1), (70, .ireturn, 1), (71, .iconst 0, 1), (72, .istore 5, 2), (74, .iload 5, 2), (76, .iconst 1, 1), (77, .iconst 2, 1), (78, .aload_n 0, 1), (79, .getfield 59, 3), (82, .imul, 1), (83, .ishl, 1), (84, .if_icmp .ge 23, 3), (87, .aload_n 0, 1), (88, .iload 5, 2), (90, .invokevirtual 62, 3), (93, .ifCond .eq 8, 3), (96, .aload_n 0, 1), (97, .aload_n 1, 1), (98, .invokevirtual 66, 3), (101, .iinc 5 1, 3), (104, .goto (-30), 3), (107, .aload_n 0, 1), (108, .getfield 52, 3), (111, .ldc 51, 2), (113, .if_icmp .ne 7, 3), (116, .iconst (-1), 1), (117, .goto 7, 3), (120, .aload_n 0, 1), (121, .getfield 52, 3), (124, .ireturn, 1)], 6, [(33, 0, 7, 6), (37, 7, 93, 3), (41, 12, 0, 0), (47, 0, 7, 10), (52, 0, 7, 8), (55, 5, 94, 1), (59, 0, 7, 9), (62, 5, 95, 1), (66, 5, 96, 1)], [(51, .int 1000000)], (Option.some Jvm.ClassFile.FieldType.int), 7)
def gk_m93 : rk_M2 := ([(0, .iconst 0, 1), (1, .istore_n 3, 1), (2, .iload_n 3, 1), (3, .iload_n 2, 1), (4, .if_icmp .ge 27, 3), (7, .aload_n 0, 1), (8, .getfield 70, 3), (11, .getfield 74, 3), (14, .aload_n 1, 1), (15, .iload_n 3, 1), (16, .iaload, 1), (17, .ishr, 1), (18, .iconst 1, 1), (19, .iand, 1), (20, .ifCond .eq 5, 3), (23, .iconst 1, 1), (24, .ireturn, 1), (25, .iinc 3 1, 3), (28, .goto (-26), 3), (31, .iconst 0, 1), (32, .ireturn, 1)], 4, [(70, 1, 3, 5), (74, 1, 2, 5)], [], (Option.some Jvm.ClassFile.FieldType.boolean), 7)
def gk_m94 : rk_M2 := ([(0, .aload_n 0, 1), (1, .iconst 0, 1), (2, .putfield 59, 3), (5, .iconst 0, 1), (6, .istore_n 2, 1), (7, .iload_n 2, 1), (8, .bipush 8, 2), (10, .if_icmp .ge 45, 3), (13, .aload_n 0, 1), (14, .getfield 59, 3), (17, .iconst 4, 1), (18, .if_icmp .ge 37, 3), (21, .iload_n 1, 1), (22, .iload_n 2, 1), (23, .ishr, 1), (24, .iconst 1, 1), (25, .iand, 1), (26, .ifCond .eq 23, 3), (29, .aload_n 0, 1), (30, .getfield 17, 3), (33, .aload_n 0, 1), (34, .getfield 59, 3), (37, .iload_n 2, 1), (38, .iastore, 1), (39, .aload_n 0, 1), (40, .dup, 1), (41, .getfield 59, 3), (44, .iconst 1, 1), (45, .iadd, 1), (46, .putfield 59, 3), (49, .iinc 2 1, 3), (52, .goto (-45), 3), (55, .return_, 1)], 3, [(17, 0, 7, 1), (59, 0, 7, 9)], [], (Option.none : Option Jvm.ClassFile.FieldType), 7)
def gk_m95 : rk_M2 := ([(0, .iconst 0, 1), (1, .istore_n 2, 1), (2, .iconst 0, 1), (3, .istore_n 3, 1), (4, .iload_n 3, 1), (5, .aload_n 0, 1), (6, .getfield 59, 3), (9, .if_icmp .ge 65, 3), (12, .iload_n 1, 1), (13, .iconst 2, 1), (14, .aload_n 0, 1), (15, .getfield 59, 3), (18, .iconst 1, 1), (19, .isub, 1), (20, .iload_n 3, 1), (21, .isub, 1), (22, .imul, 1), (23, .ishr, 1), (24, .iconst 3, 1), (25, .iand, 1), (26, .istore 4, 2), (28, .iload 4, 2), (30, .aload_n 0, 1), (31, .getfield 59, 3), (34, .if_icmp .ge 12, 3), (37, .iload_n 2, 1), (38, .iload 4, 2), (40, .ishr, 1), (41, .iconst 1, 1), (42, .iand, 1), (43, .ifCond .eq 5, 3), (46, .iconst 0, 1), (47, .ireturn, 1), (48, .iload_n 2, 1), (49, .iconst 1, 1), (50, .iload 4, 2), (52, .ishl, 1), (53, .ior, 1), (54, .istore_n 2, 1), (55, .aload_n 0, 1), (56, .getfield 21, 3), (59, .iload_n 3, 1), (60, .aload_n 0, 1), (61, .getfield 17, 3), (64, .iload 4, 2), (66, .iaload, 1), (67, .iastore, 1), (68, .iinc 3 1, 3), (71, .goto (-67), 3), (74, .iconst 1, 1), (75, .ireturn, 1)], 5, [(17, 0, 7, 1), (21, 0, 7, 2), (59, 0, 7, 9)], [], (Option.some Jvm.ClassFile.FieldType.boolean), 7)
def gk_m96 : rk_M2 := ([(0, .aload_n 0, 1), (1, .getfield 47, 3), (4, .aload_n 0, 1), (5, .getfield 59, 3), (8, .iadd, 1), (9, .iconst 1, 1), (10, .isub, 1), (11, .aload_n 0, 1), (12, .getfield 52, 3), (15, .if_icmp .lt 4, 3), (18, .return_, 1), (19, .aload_n 0, 1), (20, .getfield 11, 3), (23, .iconst 0, 1), (24, .aaload, 1), (25, .astore_n 2, 1), (26, .aload_n 2, 1), (27, .aload_n 1, 1), (28, .invokevirtual 79, 3), (31, .aload_n 2, 1), (32, .getfield 82, 3), (35, .iconst 0, 1), (36, .putfield 86, 3), (39, .aload_n 2, 1), (40, .getfield 82, 3), (43, .aload_n 0, 1), (44, .getfield 21, 3), (47, .iconst 0, 1), (48, .iaload, 1), (49, .aload_n 0, 1), (50, .getfield 33, 3), (53, .aload_n 0, 1), (54, .getfield 47, 3), (57, .invokevirtual 91, 3), (60, .aload_n 0, 1), (61, .getfield 24, 3), (64, .iconst 0, 1), (65, .iconst 0, 1), (66, .iastore, 1), (67, .aload_n 2, 1), (68, .invokevirtual 95, 3), (71, .ifCond .ne 12, 3), (74, .aload_n 0, 1), (75, .iconst 1, 1), (76, .aload_n 0, 1), (77, .getfield 47, 3), (80, .invokevirtual 99, 3), (83, .return_, 1)], 3, [(11, 0, 7, 0), (21, 0, 7, 2), (24, 0, 7, 3), (33, 0, 7, 6), (47, 0, 7, 10), (52, 0, 7, 8), (59, 0, 7, 9), (79, 6, 31, 1), (82, 1, 3, 6), (86, 1, 0, 9), (91, 6, 8, 3), (95, 6, 50, 0), (99, 5, 97, 2)], [], (Option.none : Option Jvm.ClassFile.FieldType), 7)
def gk_m97 : rk_M2 := ([(0, .iload_n 1, 1), (1, .aload_n 0, 1), (2, .getfield 59, 3), (5, .if_icmp .ge 8, 3), (8, .iload_n 1, 1), (9, .iconst 4, 1), (10, .if_icmp .lt 20, 3), (13, .aload_n 0, 1), (14, .aload_n 0, 1), (15, .getfield 11, 3), (18, .aload_n 0, 1), (19, .getfield 59, 3), (22, .iconst 1, 1), (23, .isub, 1), (24, .aaload, 1), (25, .iload_n 2, 1), (26, .invokevirtual 103, 3), (29, .return_, 1), (30, .aload_n 0, 1), (31, .getfield 11, 3), (34, .iload_n 1, 1), (35, .iconst 1, 1), (36, .isub, 1), (37, .aaload, 1), (38, .astore_n 3, 1), (39, .aload_n 0, 1), (40, .getfield 11, 3), (43, .iload_n 1, 1), (44, .aaload, 1), (45, .astore 4, 2), (47, .iconst 1, 1), (48, .istore 5, 2), (50, .iload 5, 2), (52, .bipush 6, 2), (54, .if_icmp .gt 92, 3), (57, .iload_n 2, 1), (58, .iload 5, 2), (60, .iadd, 1), (61, .aload_n 0, 1), (62, .getfield 59, 3), (65, .iadd, 1), (66, .iconst 1, 1), (67, .isub, 1), (68, .iload_n 1, 1), (69, .isub, 1), (70, .aload_n 0, 1), (71, .getfield 52, 3), (74, .if_icmp .ge 72, 3), (77, .aload 4, 2), (79, .aload_n 3, 1), (80, .invokevirtual 79, 3), (83, .aload 4, 2), (85, .getfield 82, 3), (88, .aload_n 0, 1), (89, .getfield 21, 3), (92, .iload_n 1, 1), (93, .iaload, 1), (94, .aload_n 0, 1), (95, .getfield 33, 3), (98, .aload_n 0, 1), (99, .getfield 47, 3), (102, .invokevirtual 91, 3), (105, .aload_n 0, 1), (106, .getfield 24, 3), (109, .iload_n 1, 1), (110, .iload 5, 2), (112, .iastore, 1), (113, .aload 4, 2), (115, .invokevirtual 95, 3), (118, .ifCond .ne 14, 3), (121, .aload_n 0, 1), (122, .iload_n 1, 1), (123, .iconst 1, 1), (124, .iadd, 1), (125, .iload_n 2, 1), (126, .iload 5, 2), (128, .iadd, 1), (129, .invokevirtual 99, 3), (132, .aload_n 3, 1), (133, .invokevirtual 95, 3), (136, .ifCond .eq 4, 3), (139, .return_, 1), (140, .iinc 5 1, 3), (143, .goto (-93), 3), (146, .return_, 1)], 6, [(11, 0, 7, 0), (21, 0, 7, 2), (24, 0, 7, 3), (33, 0, 7, 6), (47, 0, 7, 10), (52, 0, 7, 8), (59, 0, 7, 9), (79, 6, 31, 1), (82, 1, 3, 6), (91, 6, 8, 3), (95, 6, 50, 0), (99, 5, 97, 2), (103, 5, 98, 2)], [], (Option.none : Option Jvm.ClassFile.FieldType), 7)
def gk_m98 : rk_M2 := ([(0, .iconst 1, 1), (1, .istore_n 3, 1), (2, .iload_n 3, 1), (3, .aload_n 0, 1), (4, .getfield 47, 3), (7, .if_icmp .ge 17, 3), (10, .aload_n 1, 1), (11, .invokevirtual 95, 3), (14, .ifCond .eq 4, 3), (17, .return_, 1), (18, .iinc 3 1, 3), (21, .goto (-19), 3), (24, .aload_n 0, 1), (25, .iload_n 2, 1), (26, .putfield 52, 3), (29, .aload_n 0, 1), (30, .aload_n 0, 1), (31, .getfield 59, 3), (34, .putfield 107, 3), (37, .aload_n 0, 1), (38, .getfield 21, 3), (41, .iconst 0, 1), (42, .aload_n 0, 1), (43, .getfield 27, 3), (46, .iconst 0, 1), (47, .iconst 4, 1), (48, .invokestatic 41, 3), (51, .aload_n 0, 1), (52, .getfield 24, 3), (55, .iconst 0, 1), (56, .aload_n 0, 1), (57, .getfield 30, 3), (60, .iconst 0, 1), (61, .iconst 4, 1), (62, .invokestatic 41, 3), (65, .return_, 1)], 4, [(21, 0, 7, 2), (24, 0, 7, 3), (27, 0, 7, 4), (30, 0, 7, 5), (41, 12, 0, 0), (47, 0, 7, 10), (52, 0, 7, 8), (59, 0, 7, 9), (95, 6, 50, 0), (107, 0, 7, 7)], [], (Option.none : Option Jvm.ClassFile.FieldType), 7)
def gk_m99 : rk_M2 := ([(0, .aload_n 0, 1), (1, .invokespecial 3, 3), (4, .aload_n 0, 1), (5, .sipush 900, 3), (8, .newarray .byte, 2), (10, .putfield 9, 3), (13, .aload_n 0, 1), (14, .bipush 23, 2), (16, .newarray .long, 2), (18, .putfield 15, 3), (21, .aload_n 0, 1), (22, .iconst (-1), 1), (23, .putfield 19, 3), (26, .aload_n 0, 1), (27, .iconst (-1), 1), (28, .putfield 23, 3), (31, .iconst 0, 1), (32, .istore_n 1, 1), (33, .iconst 0, 1), (34, .istore_n 2, 1), (35, .iload_n 2, 1), (36, .ldc 26, 2), (38, .invokevirtual 28, 3), (41, .if_icmp .ge 58, 3), (44, .ldc 26, 2), (46, .iload_n 2, 1), (47, .invokevirtual 34, 3), (50, .istore_n 3, 1), (51, .iload_n 3, 1), (52, .bipush 32, 2), (54, .if_icmp .ne 9, 3), (57, .iinc 1 1, 3), (60, .goto 33, 3), (63, .iload_n 1, 1), (64, .bipush 23, 2), (66, .if_icmp .ge 27, 3), (69, .aload_n 0, 1), (70, .getfield 15, 3), (73, .iload_n 1, 1), (74, .aload_n 0, 1), (75, .getfield 15, 3), (78, .iload_n 1, 1), (79, .laload, 1), (80, .ldc2_w 38, 3), (83, .lmul, 1), (84, .iload_n 3, 1), (85, .bipush 97, 2), (87, .isub, 1), (88, .iconst 1, 1), (89, .iadd, 1), (90, .i2l, 1), (91, .ladd, 1), (92, .lastore, 1), (93, .iinc 2 1, 3), (96, .goto (-61), 3), (99, .return_, 1)], 4, [(3, 11, 0, 0), (9, 2, 8, 0), (15, 2, 8, 1), (19, 0, 8, 10), (23, 0, 8, 11), (28, 5, 377, 0), (34, 5, 378, 1)], [(38, .long 32)], (Option.none : Option Jvm.ClassFile.FieldType), 8)
def gk_m100 : rk_M2 := ([(0, .aload_n 0, 1), (1, .getfield 40, 3), (4, .bipush 20, 2), (6, .iadd, 1), (7, .sipush 900, 3), (10, .if_icmp .gt 7, 3), (13, .iconst 1, 1), (14, .goto 4, 3), (17, .iconst 0, 1), (18, .ireturn, 1)], 1, [(40, 0, 8, 2)], [], (Option.some Jvm.ClassFile.FieldType.boolean), 8)
def gk_m101 : rk_M2 := ([(0, .bipush 24, 2), (2, .istore_n 2, 1), (3, .iload_n 2, 1), (4, .ifCond .lt 42, 3), (7, .aload_n 0, 1), (8, .getfield 40, 3), (11, .sipush 900, 3), (14, .if_icmp .ge 32, 3), (17, .aload_n 0, 1), (18, .getfield 9, 3), (21, .aload_n 0, 1), (22, .getfield 40, 3), (25, .iload_n 1, 1), (26, .iload_n 2, 1), (27, .ishr, 1), (28, .i2b, 1), (29, .bastore, 1), (30, .aload_n 0, 1), (31, .dup, 1), (32, .getfield 40, 3), (35, .iconst 1, 1), (36, .iadd, 1), (37, .putfield 40, 3), (40, .iinc 2 (-8), 3), (43, .goto (-40), 3), (46, .return_, 1)], 3, [(9, 0, 8, 0), (40, 0, 8, 2)], [], (Option.none : Option Jvm.ClassFile.FieldType), 8)
def gk_m102 : rk_M2 := ([(0, .aload_n 0, 1), (1, .iload_n 1, 1), (2, .putfield 43, 3), (5, .aload_n 0, 1), (6, .iconst 0, 1), (7, .putfield 40, 3), (10, .aload_n 0, 1), (11, .iconst 0, 1), (12, .putfield 45, 3), (15, .aload_n 0, 1), (16, .iconst 0, 1), (17, .putfield 19, 3), (20, .aload_n 0, 1), (21, .iconst (-1), 1), (22, .putfield 23, 3), (25, .aload_n 0, 1), (26, .invokevirtual 48, 3), (29, .return_, 1)], 2, [(19, 0, 8, 10), (23, 0, 8, 11), (40, 0, 8, 2), (43, 0, 8, 3), (45, 0, 8, 5), (48, 5, 104, 0)], [], (Option.none : Option Jvm.ClassFile.FieldType), 8)
def gk_m103 : rk_M2 := ([(0, .iload_n 1, 1), (1, .ifCond .lt 27, 3), (4, .iload_n 1, 1), (5, .aload_n 0, 1), (6, .getfield 43, 3), (9, .if_icmp .ge 19, 3), (12, .iload_n 1, 1), (13, .sipush 900, 3), (16, .if_icmp .ge 12, 3), (19, .aload_n 0, 1), (20, .getfield 9, 3), (23, .iload_n 1, 1), (24, .baload, 1), (25, .goto 4, 3), (28, .iconst (-1), 1), (29, .ireturn, 1)], 2, [(9, 0, 8, 0), (43, 0, 8, 3)], [], (Option.some Jvm.ClassFile.FieldType.int), 8)
def gk_m104 : rk_M2 := ([(0, .aload_n 0, 1), (1, .getfield 45, 3), (4, .aload_n 0, 1), (5, .getfield 43, 3), (8, .if_icmp .ge 42, 3), (11, .aload_n 0, 1), (12, .aload_n 0, 1), (13, .getfield 45, 3), (16, .invokevirtual 51, 3), (19, .bipush 10, 2), (21, .if_icmp .eq 16, 3), (24, .aload_n 0, 1), (25, .aload_n 0, 1), (26, .getfield 45, 3), (29, .invokevirtual 51, 3), (32, .bipush 32, 2), (34, .if_icmp .ne 16, 3), (37, .aload_n 0, 1), (38, .dup, 1), (39, .getfield 45, 3), (42, .iconst 1, 1), (43, .iadd, 1), (44, .putfield 45, 3), (47, .goto (-47), 3), (50, .aload_n 0, 1), (51, .aload_n 0, 1), (52, .getfield 45, 3), (55, .putfield 55, 3), (58, .aload_n 0, 1), (59, .iconst (-1), 1), (60, .putfield 58, 3), (63, .aload_n 0, 1), (64, .aload_n 0, 1), (65, .getfield 45, 3), (68, .invokevirtual 51, 3), (71, .istore_n 1, 1), (72, .aload_n 0, 1), (73, .getfield 45, 3), (76, .aload_n 0, 1), (77, .getfield 43, 3), (80, .if_icmp .lt 11, 3), (83, .aload_n 0, 1), (84, .iconst 0, 1), (85, .putfield 61, 3), (88, .goto 93, 3), (91, .iload_n 1, 1), (92, .bipush 97, 2), (94, .if_icmp .lt 16, 3), (97, .iload_n 1, 1), (98, .bipush 122, 2), (100, .if_icmp .gt 10, 3), (103, .aload_n 0, 1), (104, .invokevirtual 64, 3), (107, .goto 74, 3), (110, .iload_n 1, 1), (111, .bipush 48, 2), (113, .if_icmp .lt 16, 3), (116, .iload_n 1, 1), (117, .bipush 57, 2), (119, .if_icmp .gt 10, 3), (122, .aload_n 0, 1), (123, .invokevirtual 67, 3), (126, .goto 55, 3), (129, .iload_n 1, 1), (130, .bipush 59, 2), (132, .if_icmp .eq 21, 3), (135, .iload_n 1, 1), (136, .bipush 60, 2), (138, .if_icmp .eq 15, 3), (141, .iload_n 1, 1), (142, .bipush 62, 2), (144, .if_icmp .eq 9, 3), (147, .iload_n 1, 1), (148, .bipush 61, 2), (150, .if_icmp .ne 26, 3), (153, .aload_n 0, 1), (154, .iconst 3, 1), (155, .putfield 61, 3), (158, .aload_n 0, 1), (159, .iload_n 1, 1), (160, .putfield 70, 3), (163, .aload_n 0, 1), (164, .dup, 1), (165, .getfield 45, 3), (168, .iconst 1, 1), (169, .iadd, 1), (170, .putfield 45, 3), (173, .goto 8, 3), (176, .aload_n 0, 1), (177, .iconst 4, 1), (178, .putfield 61, 3), (181, .return_, 1)], 2, [(43, 0, 8, 3), (45, 0, 8, 5), (51, 5, 103, 1), (55, 0, 8, 4), (58, 0, 8, 7), (61, 0, 8, 6), (64, 5, 105, 0), (67, 5, 106, 0), (70, 0, 8, 9)], [], (Option.none : Option Jvm.ClassFile.FieldType), 8)
def gk_m105 : rk_M2 := ([(0, .lconst 0, 1), (1, .lstore_n 1, 1), (2, .aload_n 0, 1), (3, .getfield 45, 3), (6, .aload_n 0, 1), (7, .getfield 43, 3), (10, .if_icmp .ge 63, 3), (13, .aload_n 0, 1), (14, .aload_n 0, 1), (15, .getfield 45, 3), (18, .invokevirtual 51, 3), (21, .bipush 97, 2), (23, .if_icmp .lt 50, 3), (26, .aload_n 0, 1), (27, .aload_n 0, 1), (28, .getfield 45, 3), (31, .invokevirtual 51, 3), (34, .bipush 122, 2), (36, .if_icmp .gt 37, 3), (39, .lload_n 1, 1), (40, .ldc2_w 38, 3), (43, .lmul, 1), (44, .aload_n 0, 1), (45, .aload_n 0, 1), (46, .getfield 45, 3), (49, .invokevirtual 51, 3), (52, .bipush 97, 2), (54, .isub, 1), (55, .iconst 1, 1), (56, .iadd, 1), (57, .i2l, 1), (58, .ladd, 1), (59, .lstore_n 1, 1), (60, .aload_n 0, 1), (61, .dup, 1), (62, .getfield 45, 3), (65, .iconst 1, 1), (66, .iadd, 1), (67, .putfield 45, 3), (70, .goto (-68), 3), (73, .aload_n 0, 1), (74, .iconst 1, 1), (75, .putfield 61, 3), (78, .aload_n 0, 1), (79, .aload_n 0, 1), (80, .getfield 45, 3), (83, .aload_n 0, 1), (84, .getfield 55, 3), (87, .isub, 1), (88, .bipush 8, 2), (90, .if_icmp .le 7, 3), (93, .lconst 0, 1), (94, .goto 4, 3), (97, .lload_n 1, 1), (98, .putfield 73, 3), (101, .iconst 0, 1), (102, .istore_n 3, 1), (103, .iload_n 3, 1), (104, .bipush 23, 2), (106, .if_icmp .ge 28, 3), (109, .aload_n 0, 1), (110, .getfield 15, 3), (113, .iload_n 3, 1), (114, .laload, 1), (115, .aload_n 0, 1), (116, .getfield 73, 3), (119, .lcmp, 1), (120, .ifCond .ne 8, 3), (123, .aload_n 0, 1), (124, .iload_n 3, 1), (125, .putfield 58, 3), (128, .iinc 3 1, 3), (131, .goto (-28), 3), (134, .return_, 1)], 4, [(15, 0, 8, 1), (43, 0, 8, 3), (45, 0, 8, 5), (51, 5, 103, 1), (55, 0, 8, 4), (58, 0, 8, 7), (61, 0, 8, 6), (73, 0, 8, 8)], [(38, .long 32)], (Option.none : Option Jvm.ClassFile.FieldType), 8)
def gk_m106 : rk_M2 := ([(0, .aload_n 0, 1), (1, .iconst 0, 1), (2, .putfield 70, 3), (5, .aload_n 0, 1), (6, .getfield 45, 3), (9, .aload_n 0, 1), (10, .getfield 43, 3), (13, .if_icmp .ge 65, 3), (16, .aload_n 0, 1), (17, .aload_n 0, 1), (18, .getfield 45, 3), (21, .invokevirtual 51, 3), (24, .bipush 48, 2), (26, .if_icmp .lt 52, 3), (29, .aload_n 0, 1), (30, .aload_n 0, 1), (31, .getfield 45, 3), (34, .invokevirtual 51, 3), (37, .bipush 57, 2), (39, .if_icmp .gt 39, 3), (42, .aload_n 0, 1), (43, .aload_n 0, 1), (44, .getfield 70, 3), (47, .bipush 10, 2), (49, .imul, 1), (50, .aload_n 0, 1), (51, .aload_n 0, 1), (52, .getfield 45, 3), (55, .invokevirtual 51, 3), (58, .bipush 48, 2), (60, .isub, 1), (61, .iadd, 1), (62, .putfield 70, 3), (65, .aload_n 0, 1), (66, .dup, 1), (67, .getfield 45, 3), (70, .iconst 1, 1), (71, .iadd, 1), (72, .putfield 45, 3), (75, .goto (-70), 3), (78, .aload_n 0, 1), (79, .aload_n 0, 1), (80, .getfield 45, 3), (83, .aload_n 0, 1), (84, .getfield 55, 3), (87, .isub, 1), (88, .iconst 4, 1), (89, .if_icmp .le 7, 3), (92, .iconst 4, 1), (93, .goto 4, 3), (96, .iconst 2, 1), (97, .putfield 61, 3), (100, .return_, 1)], 1, [(43, 0, 8, 3), (45, 0, 8, 5), (51, 5, 103, 1), (55, 0, 8, 4), (61, 0, 8, 6), (70, 0, 8, 9)], [], (Option.none : Option Jvm.ClassFile.FieldType), 8)
def gk_m107 : rk_M2 := ([(0, .aload_n 0, 1), (1, .getfield 19, 3), (4, .ifCond .ne 16, 3), (7, .aload_n 0, 1), (8, .iload_n 1, 1), (9, .putfield 19, 3), (12, .aload_n 0, 1), (13, .aload_n 0, 1), (14, .getfield 55, 3), (17, .putfield 23, 3), (20, .return_, 1)], 2, [(19, 0, 8, 10), (23, 0, 8, 11), (55, 0, 8, 4)], [], (Option.none : Option Jvm.ClassFile.FieldType), 8)
def gk_m108 : rk_M2 := ([(0, .aload_n 0, 1), (1, .aload_n 0, 1), (2, .getfield 61, 3), (5, .iconst 4, 1), (6, .if_icmp .ne 7, 3), (9, .iconst 1, 1), (10, .goto 4, 3), (13, .iconst 2, 1), (14, .invokevirtual 77, 3), (17, .return_, 1)], 1, [(61, 0, 8, 6), (77, 5, 107, 1)], [], (Option.none : Option Jvm.ClassFile.FieldType), 8)
def gk_m109 : rk_M2 := ([(0, .aload_n 0, 1), (1, .getfield 61, 3), (4, .iconst 1, 1), (5, .if_icmp .ne 18, 3), (8, .aload_n 0, 1), (9, .getfield 58, 3), (12, .iload_n 1, 1), (13, .if_icmp .ne 10, 3), (16, .aload_n 0, 1), (17, .invokevirtual 48, 3), (20, .goto 7, 3), (23, .aload_n 0, 1), (24, .invokevirtual 81, 3), (27, .return_, 1)], 2, [(48, 5, 104, 0), (58, 0, 8, 7), (61, 0, 8, 6), (81, 5, 108, 0)], [], (Option.none : Option Jvm.ClassFile.FieldType), 8)
def gk_m110 : rk_M2 := ([(0, .aload_n 0, 1), (1, .getfield 61, 3), (4, .iconst 3, 1), (5, .if_icmp .ne 18, 3), (8, .aload_n 0, 1), (9, .getfield 70, 3), (12, .iload_n 1, 1), (13, .if_icmp .ne 10, 3), (16, .aload_n 0, 1), (17, .invokevirtual 48, 3), (20, .goto 7, 3), (23, .aload_n 0, 1), (24, .invokevirtual 81, 3), (27, .aload_n 0, 1), (28, .getfield 19, 3), (31, .ifCond .ne 7, 3), (34, .iconst 1, 1), (35, .goto 4, 3), (38, .iconst 0, 1), (39, .ireturn, 1)], 2, [(19, 0, 8, 10), (48, 5, 104, 0), (61, 0, 8, 6), (70, 0, 8, 9), (81, 5, 108, 0)], [], (Option.some Jvm.ClassFile.FieldType.boolean), 8)
def gk_m111 : rk_M2 := ([(0, .aload_n 0, 1), (1, .getfield 70, 3), (4, .istore_n 3, 1), (5, .aload_n 0, 1), (6, .getfield 61, 3), (9, .iconst 2, 1), (10, .if_icmp .eq 10, 3), (13, .aload_n 0, 1), (14, .invokevirtual 81, 3), (17, .goto 25, 3), (20, .iload_n 3, 1), (21, .iload_n 1, 1), (22, .if_icmp .lt 8, 3), (25, .iload_n 3, 1), (26, .iload_n 2, 1), (27, .if_icmp .le 11, 3), (30, .aload_n 0, 1), (31, .iconst 4, 1), (32, .invokevirtual 77, 3), (35, .goto 7, 3), (38, .aload_n 0, 1), (39, .invokevirtual 48, 3), (42, .iload_n 3, 1), (43, .ireturn, 1)], 4, [(48, 5, 104, 0), (61, 0, 8, 6), (70, 0, 8, 9), (77, 5, 107, 1), (81, 5, 108, 0)], [], (Option.some Jvm.ClassFile.FieldType.int), 8)
def gk_m112 : rk_M2 := ([(0, .aload_n 0, 1), (1, .getfield 61, 3), (4, .iconst 1, 1), (5, .if_icmp .ne 25, 3), (8, .aload_n 0, 1), (9, .getfield 58, 3), (12, .iconst (-1), 1), (13, .if_icmp .ne 17, 3), (16, .aload_n 0, 1), (17, .getfield 73, 3), (20, .lconst 0, 1), (21, .lcmp, 1), (22, .ifCond .eq 8, 3), (25, .aload_n 0, 1), (26, .getfield 73, 3), (29, .lreturn, 1), (30, .aload_n 0, 1), (31, .invokevirtual 81, 3), (34, .lconst 0, 1), (35, .lreturn, 1)], 1, [(58, 0, 8, 7), (61, 0, 8, 6), (73, 0, 8, 8), (81, 5, 108, 0)], [], (Option.some Jvm.ClassFile.FieldType.long), 8)
def gk_m113 : rk_M2 := ([(0, .aload_n 0, 1), (1, .invokevirtual 84, 3), (4, .lstore_n 2, 1), (5, .lload_n 2, 1), (6, .lconst 0, 1), (7, .lcmp, 1), (8, .ifCond .ne 7, 3), (11, .iconst (-1), 1), (12, .goto 8, 3), (15, .aload_n 1, 1), (16, .lload_n 2, 1), (17, .invokevirtual 88, 3), (20, .istore 4, 2), (22, .iload 4, 2), (24, .ifCond .ge 8, 3), (27, .aload_n 0, 1), (28, .iconst 3, 1), (29, .invokevirtual 77, 3), (32, .iload 4, 2), (34, .ireturn, 1)], 5, [(77, 5, 107, 1), (84, 5, 112, 0), (88, 6, 38, 1)], [], (Option.some Jvm.ClassFile.FieldType.int), 8)
def gk_m114 : rk_M2 := ([(0, .aload_n 0, 1), (1, .invokevirtual 84, 3), (4, .lstore_n 2, 1), (5, .lload_n 2, 1), (6, .lconst 0, 1), (7, .lcmp, 1), (8, .ifCond .ne 7, 3), (11, .iconst (-1), 1), (12, .goto 11, 3), (15, .aload_n 1, 1), (16, .getfield 94, 3), (19, .lload_n 2, 1), (20, .invokevirtual 98, 3), (23, .istore 4, 2), (25, .iload 4, 2), (27, .ifCond .ge 8, 3), (30, .aload_n 0, 1), (31, .iconst 3, 1), (32, .invokevirtual 77, 3), (35, .iload 4, 2), (37, .ireturn, 1)], 5, [(77, 5, 107, 1), (84, 5, 112, 0), (94, 1, 3, 6), (98, 6, 5, 1)], [], (Option.some Jvm.ClassFile.FieldType.int), 8)
def gk_m115 : rk_M2 := ([(0, .aload_n 0, 1), (1, .invokespecial 3, 3), (4, .aload_n 0, 1), (5, .bipush 30, 2), (7, .newarray .int, 2), (9, .putfield 9, 3), (12, .aload_n 0, 1), (13, .bipush 30, 2), (15, .newarray .int, 2), (17, .putfield 15, 3), (20, .aload_n 0, 1), (21, .bipush 30, 2), (23, .newarray .int, 2), (25, .putfield 18, 3), (28, .aload_n 0, 1), (29, .bipush 30, 2), (31, .newarray .int, 2), (33, .putfield 21, 3), (36, .aload_n 0, 1), (37, .bipush 30, 2), (39, .newarray .int, 2), (41, .putfield 24, 3), (44, .aload_n 0, 1), (45, .bipush 30, 2), (47, .newarray .int, 2), (49, .putfield 27, 3), (52, .return_, 1)], 1, [(3, 11, 0, 0), (9, 2, 9, 0), (15, 2, 9, 1), (18, 2, 9, 2), (21, 2, 9, 3), (24, 2, 9, 4), (27, 2, 9, 5)], [], (Option.none : Option Jvm.ClassFile.FieldType), 9)
def gk_m116 : rk_M2 := ([(0, .aload_n 0, 1), (1, .iconst 0, 1), (2, .putfield 30, 3), (5, .aload_n 0, 1), (6, .iconst 0, 1), (7, .putfield 34, 3), (10, .return_, 1)], 1, [(30, 0, 9, 6), (34, 0, 9, 7)], [], (Option.none : Option Jvm.ClassFile.FieldType), 9)
def gk_m117 : rk_M2 := ([(0, .aload_n 1, 1), (1, .getfield 9, 3), (4, .iconst 0, 1), (5, .aload_n 0, 1), (6, .getfield 9, 3), (9, .iconst 0, 1), (10, .bipush 30, 2), (12, .invokestatic 38, 3), (15, .aload_n 1, 1), (16, .getfield 15, 3), (19, .iconst 0, 1), (20, .aload_n 0, 1), (21, .getfield 15, 3), (24, .iconst 0, 1), (25, .bipush 30, 2), (27, .invokestatic 38, 3), (30, .aload_n 1, 1), (31, .getfield 18, 3), (34, .iconst 0, 1), (35, .aload_n 0, 1), (36, .getfield 18, 3), (39, .iconst 0, 1), (40, .bipush 30, 2), (42, .invokestatic 38, 3), (45, .aload_n 1, 1), (46, .getfield 21, 3), (49, .iconst 0, 1), (50, .aload_n 0, 1), (51, .getfield 21, 3), (54, .iconst 0, 1), (55, .bipush 30, 2), (57, .invokestatic 38, 3), (60, .aload_n 1, 1), (61, .getfield 24, 3), (64, .iconst 0, 1), (65, .aload_n 0, 1), (66, .getfield 24, 3), (69, .iconst 0, 1), (70, .bipush 30, 2), (72, .invokestatic 38, 3), (75, .aload_n 1, 1), (76, .getfield 27, 3), (79, .iconst 0, 1), (80, .aload_n 0, 1), (81, .getfield 27, 3), (84, .iconst 0, 1), (85, .bipush 30, 2), (87, .invokestatic 38, 3), (90, .aload_n 0, 1), (91, .aload_n 1, 1), (92, .getfield 30, 3), (95, .putfield 30, 3), (98, .aload_n 0, 1), (99, .aload_n 1, 1), (100, .getfield 34, 3), (103, .putfield 34, 3), (106, .return_, 1)], 2, [(9, 0, 9, 0), (15, 0, 9, 1), (18, 0, 9, 2), (21, 0, 9, 3), (24, 0, 9, 4), (27, 0, 9, 5), (30, 0, 9, 6), (34, 0, 9, 7), (38, 12, 0, 0)], [], (Option.none : Option Jvm.ClassFile.FieldType), 9)
def gk_m118 : rk_M2 := ([(0, .aload_n 0, 1), (1, .invokespecial 3, 3), (4, .aload_n 0, 1), (5, .iconst 3, 1), (6, .newarray .int, 2), (8, .putfield 9, 3), (11, .aload_n 0, 1), (12, .aload_n 1, 1), (13, .putfield 15, 3), (16, .return_, 1)], 2, [(3, 11, 0, 0), (9, 2, 10, 1), (15, 2, 10, 0)], [], (Option.none : Option Jvm.ClassFile.FieldType), 10)
def gk_m119 : rk_M2 := ([(0, .aload_n 2, 1), (1, .invokevirtual 19, 3), (4, .aload_n 2, 1), (5, .iconst 1, 1), (6, .putfield 24, 3), (9, .aload_n 0, 1), (10, .iconst 0, 1), (11, .putfield 28, 3), (14, .iconst 0, 1), (15, .istore_n 3, 1), (16, .iload_n 3, 1), (17, .sipush 900, 3), (20, .if_icmp .ge 62, 3), (23, .aload_n 0, 1), (24, .getfield 15, 3), (27, .getfield 32, 3), (30, .ifCond .ne 52, 3), (33, .aload_n 0, 1), (34, .getfield 15, 3), (37, .getfield 37, 3), (40, .ifCond .eq 42, 3), (43, .aload_n 0, 1), (44, .getfield 15, 3), (47, .getfield 40, 3), (50, .bipush 21, 2), (52, .if_icmp .ne 18, 3), (55, .aload_n 0, 1), (56, .getfield 28, 3), (59, .ifCond .le 11, 3), (62, .aload_n 0, 1), (63, .aload_n 2, 1), (64, .invokevirtual 43, 3), (67, .goto 9, 3), (70, .aload_n 0, 1), (71, .aload_n 1, 1), (72, .aload_n 2, 1), (73, .invokevirtual 47, 3), (76, .iinc 3 1, 3), (79, .goto (-63), 3), (82, .aload_n 0, 1), (83, .getfield 28, 3), (86, .ifCond .le 10, 3), (89, .aload_n 0, 1), (90, .getfield 15, 3), (93, .invokevirtual 51, 3), (96, .return_, 1)], 4, [(15, 0, 10, 0), (19, 6, 116, 0), (24, 1, 9, 7), (28, 0, 10, 2), (32, 1, 8, 10), (37, 1, 8, 6), (40, 1, 8, 7), (43, 5, 120, 1), (47, 5, 122, 2), (51, 6, 108, 0)], [], (Option.none : Option Jvm.ClassFile.FieldType), 10)
def gk_m120 : rk_M2 := ([(0, .aload_n 0, 1), (1, .dup, 1), (2, .getfield 28, 3), (5, .iconst 1, 1), (6, .isub, 1), (7, .putfield 28, 3), (10, .aload_n 1, 1), (11, .getfield 54, 3), (14, .aload_n 0, 1), (15, .getfield 9, 3), (18, .aload_n 0, 1), (19, .getfield 28, 3), (22, .iaload, 1), (23, .aload_n 1, 1), (24, .getfield 57, 3), (27, .iastore, 1), (28, .aload_n 0, 1), (29, .getfield 15, 3), (32, .invokevirtual 60, 3), (35, .aload_n 0, 1), (36, .getfield 15, 3), (39, .bipush 59, 2), (41, .invokevirtual 63, 3), (44, .pop, 1), (45, .return_, 1)], 2, [(9, 0, 10, 1), (15, 0, 10, 0), (28, 0, 10, 2), (54, 1, 9, 5), (57, 1, 9, 6), (60, 6, 104, 0), (63, 6, 110, 1)], [], (Option.none : Option Jvm.ClassFile.FieldType), 10)
def gk_m121 : rk_M2 := ([(0, .iload_n 0, 1), (1, .bipush 11, 2), (3, .if_icmp .eq 45, 3), (6, .iload_n 0, 1), (7, .bipush 13, 2), (9, .if_icmp .eq 39, 3), (12, .iload_n 0, 1), (13, .bipush 14, 2), (15, .if_icmp .eq 33, 3), (18, .iload_n 0, 1), (19, .bipush 15, 2), (21, .if_icmp .eq 27, 3), (24, .iload_n 0, 1), (25, .bipush 16, 2), (27, .if_icmp .eq 21, 3), (30, .iload_n 0, 1), (31, .bipush 17, 2), (33, .if_icmp .eq 15, 3), (36, .iload_n 0, 1), (37, .bipush 20, 2), (39, .if_icmp .eq 9, 3), (42, .iload_n 0, 1), (43, .bipush 22, 2), (45, .if_icmp .ne 7, 3), (48, .iconst 1, 1), (49, .goto 4, 3), (52, .iconst 0, 1), (53, .ireturn, 1)], 1, [], [], (Option.some Jvm.ClassFile.FieldType.boolean), 10)
def gk_m122 : rk_M2 := ([(0, .aload_n 0, 1), (1, .getfield 15, 3), (4, .getfield 40, 3), (7, .istore_n 3, 1), (8, .aload_n 2, 1), (9, .getfield 57, 3), (12, .istore 4, 2), (14, .iload_n 3, 1), (15, .invokestatic 67, 3), (18, .ifCond .ne 13, 3), (21, .aload_n 0, 1), (22, .getfield 15, 3), (25, .invokevirtual 51, 3), (28, .goto 51, 3), (31, .iload 4, 2), (33, .bipush 30, 2), (35, .if_icmp .lt 15, 3), (38, .aload_n 0, 1), (39, .getfield 15, 3), (42, .bipush 6, 2), (44, .invokevirtual 70, 3), (47, .goto 32, 3), (50, .iload_n 3, 1), (51, .bipush 17, 2), (53, .if_icmp .eq 9, 3), (56, .iload_n 3, 1), (57, .bipush 20, 2), (59, .if_icmp .ne 20, 3), (62, .aload_n 0, 1), (63, .getfield 28, 3), (66, .iconst 3, 1), (67, .if_icmp .lt 12, 3), (70, .aload_n 0, 1), (71, .getfield 15, 3), (74, .bipush 7, 2), (76, .invokevirtual 70, 3), (79, .aload_n 0, 1), (80, .getfield 15, 3), (83, .getfield 32, 3), (86, .ifCond .eq 4, 3), (89, .return_, 1), (90, .aload_n 0, 1), (91, .getfield 15, 3), (94, .invokevirtual 60, 3), (97, .iload_n 3, 1), (98, .bipush 17, 2), (100, .if_icmp .ne 14, 3), (103, .aload_n 0, 1), (104, .aload_n 1, 1), (105, .aload_n 2, 1), (106, .iload 4, 2), (108, .invokevirtual 74, 3), (111, .goto 12, 3), (114, .aload_n 0, 1), (115, .aload_n 1, 1), (116, .aload_n 2, 1), (117, .iload_n 3, 1), (118, .iload 4, 2), (120, .invokevirtual 78, 3), (123, .aload_n 0, 1), (124, .getfield 15, 3), (127, .bipush 59, 2), (129, .invokevirtual 63, 3), (132, .ifCond .ne 4, 3), (135, .return_, 1), (136, .aload_n 2, 1), (137, .getfield 82, 3), (140, .iload 4, 2), (142, .iload_n 3, 1), (143, .iastore, 1), (144, .aload_n 2, 1), (145, .iload 4, 2), (147, .iconst 1, 1), (148, .iadd, 1), (149, .putfield 57, 3), (152, .iload_n 3, 1), (153, .bipush 17, 2), (155, .if_icmp .eq 9, 3), (158, .iload_n 3, 1), (159, .bipush 20, 2), (161, .if_icmp .ne 24, 3), (164, .aload_n 0, 1), (165, .getfield 9, 3), (168, .aload_n 0, 1), (169, .getfield 28, 3), (172, .iload 4, 2), (174, .iastore, 1), (175, .aload_n 0, 1), (176, .dup, 1), (177, .getfield 28, 3), (180, .iconst 1, 1), (181, .iadd, 1), (182, .putfield 28, 3), (185, .return_, 1)], 5, [(9, 0, 10, 1), (15, 0, 10, 0), (28, 0, 10, 2), (32, 1, 8, 10), (40, 1, 8, 7), (51, 6, 108, 0), (57, 1, 9, 6), (60, 6, 104, 0), (63, 6, 110, 1), (67, 7, 121, 1), (70, 6, 107, 1), (74, 5, 124, 3), (78, 5, 123, 4), (82, 1, 9, 0)], [], (Option.none : Option Jvm.ClassFile.FieldType), 10)
def gk_m123 : rk_M2 := ([(0, .iload_n 3, 1), (1, .tableswitch 151 11 20 #[55, 151, 111, 111, 111, 151, 151, 151, 151, 131], 55), (56, .aload_n 2, 1), (57, .getfield 85, 3), (60, .iload 4, 2), (62, .aload_n 0, 1), (63, .getfield 15, 3), (66, .aload_n 1, 1), (67, .invokevirtual 88, 3), (70, .iastore, 1), (71, .aload_n 0, 1), (72, .getfield 15, 3), (75, .invokevirtual 60, 3), (78, .aload_n 0, 1), (79, .getfield 15, 3), (82, .bipush 12, 2), (84, .invokevirtual 92, 3), (87, .aload_n 2, 1), (88, .getfield 95, 3), (91, .iload 4, 2), (93, .aload_n 0, 1), (94, .getfield 15, 3), (97, .aload_n 1, 1), (98, .invokevirtual 98, 3), (101, .iastore, 1), (102, .aload_n 0, 1), (103, .getfield 15, 3), (106, .invokevirtual 60, 3), (109, .goto 43, 3), (112, .aload_n 2, 1), (113, .getfield 85, 3), (116, .iload 4, 2), (118, .aload_n 0, 1), (119, .getfield 15, 3), (122, .iconst 1, 1), (123, .bipush 20, 2), (125, .invokevirtual 101, 3), (128, .iastore, 1), (129, .goto 23, 3), (132, .aload_n 2, 1), (133, .getfield 85, 3), (136, .iload 4, 2), (138, .aload_n 0, 1), (139, .getfield 15, 3), (142, .iconst 1, 1), (143, .bipush 99, 2), (145, .invokevirtual 101, 3), (148, .iastore, 1), (149, .goto 3, 3), (152, .return_, 1)], 5, [(15, 0, 10, 0), (60, 6, 104, 0), (85, 1, 9, 2), (88, 6, 114, 1), (92, 6, 109, 1), (95, 1, 9, 3), (98, 6, 113, 1), (101, 6, 111, 2)], [], (Option.none : Option Jvm.ClassFile.FieldType), 10)
def gk_m124 : rk_M2 := ([(0, .aload_n 0, 1), (1, .getfield 15, 3), (4, .getfield 40, 3), (7, .istore 4, 2), (9, .aload_n 2, 1), (10, .getfield 105, 3), (13, .iload_n 3, 1), (14, .iload 4, 2), (16, .iastore, 1), (17, .iload 4, 2), (19, .iconst 1, 1), (20, .if_icmp .eq 25, 3), (23, .iload 4, 2), (25, .bipush 7, 2), (27, .if_icmp .eq 18, 3), (30, .iload 4, 2), (32, .bipush 19, 2), (34, .if_icmp .eq 11, 3), (37, .aload_n 0, 1), (38, .getfield 15, 3), (41, .invokevirtual 51, 3), (44, .return_, 1), (45, .aload_n 0, 1), (46, .getfield 15, 3), (49, .invokevirtual 60, 3), (52, .aload_n 2, 1), (53, .getfield 85, 3), (56, .iload_n 3, 1), (57, .iload 4, 2), (59, .iconst 1, 1), (60, .if_icmp .ne 14, 3), (63, .aload_n 0, 1), (64, .getfield 15, 3), (67, .aload_n 1, 1), (68, .invokevirtual 98, 3), (71, .goto 11, 3), (74, .aload_n 0, 1), (75, .getfield 15, 3), (78, .aload_n 1, 1), (79, .invokevirtual 88, 3), (82, .iastore, 1), (83, .aload_n 0, 1), (84, .getfield 15, 3), (87, .invokevirtual 60, 3), (90, .iload 4, 2), (92, .iconst 1, 1), (93, .if_icmp .ne 33, 3), (96, .aload_n 2, 1), (97, .getfield 95, 3), (100, .iload_n 3, 1), (101, .aload_n 0, 1), (102, .invokevirtual 108, 3), (105, .iastore, 1), (106, .aload_n 2, 1), (107, .getfield 112, 3), (110, .iload_n 3, 1), (111, .aload_n 0, 1), (112, .getfield 15, 3), (115, .iconst 0, 1), (116, .sipush 999, 3), (119, .invokevirtual 101, 3), (122, .iastore, 1), (123, .goto 40, 3), (126, .iload 4, 2), (128, .bipush 7, 2), (130, .if_icmp .ne 33, 3), (133, .aload_n 0, 1), (134, .getfield 15, 3), (137, .bipush 18, 2), (139, .invokevirtual 92, 3), (142, .aload_n 2, 1), (143, .getfield 95, 3), (146, .iload_n 3, 1), (147, .aload_n 0, 1), (148, .getfield 15, 3), (151, .aload_n 1, 1), (152, .invokevirtual 98, 3), (155, .iastore, 1), (156, .aload_n 0, 1), (157, .getfield 15, 3), (160, .invokevirtual 60, 3), (163, .return_, 1)], 5, [(15, 0, 10, 0), (40, 1, 8, 7), (51, 6, 108, 0), (60, 6, 104, 0), (85, 1, 9, 2), (88, 6, 114, 1), (92, 6, 109, 1), (95, 1, 9, 3), (98, 6, 113, 1), (101, 6, 111, 2), (105, 1, 9, 1), (108, 5, 125, 0), (112, 1, 9, 4)], [], (Option.none : Option Jvm.ClassFile.FieldType), 10)
def gk_m125 : rk_M2 := ([(0, .aload_n 0, 1), (1, .getfield 15, 3), (4, .getfield 115, 3), (7, .istore_n 1, 1), (8, .aload_n 0, 1), (9, .getfield 15, 3), (12, .getfield 37, 3), (15, .iconst 3, 1), (16, .if_icmp .ne 9, 3), (19, .iload_n 1, 1), (20, .bipush 59, 2), (22, .if_icmp .ne 12, 3), (25, .aload_n 0, 1), (26, .getfield 15, 3), (29, .invokevirtual 51, 3), (32, .iconst (-1), 1), (33, .ireturn, 1), (34, .aload_n 0, 1), (35, .getfield 15, 3), (38, .invokevirtual 60, 3), (41, .iload_n 1, 1), (42, .ireturn, 1)], 2, [(15, 0, 10, 0), (37, 1, 8, 6), (51, 6, 108, 0), (60, 6, 104, 0), (115, 1, 8, 9)], [], (Option.some Jvm.ClassFile.FieldType.int), 10)
def gk_m126 : rk_M2 := ([(0, .aload_n 0, 1), (1, .invokespecial 1, 3), (4, .aload_n 0, 1), (5, .lconst 1, 1), (6, .putfield 7, 3), (9, .aload_n 0, 1), (10, .iconst 4, 1), (11, .bipush 60, 2), (13, .multianewarray 13 2, 4), (17, .putfield 15, 3), (20, .aload_n 0, 1), (21, .iconst 4, 1), (22, .newarray .int, 2), (24, .putfield 18, 3), (27, .aload_n 0, 1), (28, .iconst 4, 1), (29, .newarray .int, 2), (31, .putfield 22, 3), (34, .aload_n 0, 1), (35, .bipush 20, 2), (37, .newarray .int, 2), (39, .putfield 25, 3), (42, .aload_n 0, 1), (43, .new 28, 3), (46, .dup, 1), (47, .invokespecial 30, 3), (50, .putfield 31, 3), (53, .aload_n 0, 1), (54, .new 35, 3), (57, .dup, 1), (58, .aload_n 0, 1), (59, .getfield 31, 3), (62, .invokespecial 37, 3), (65, .putfield 40, 3), (68, .aload_n 0, 1), (69, .new 44, 3), (72, .dup, 1), (73, .aload_n 0, 1), (74, .getfield 31, 3), (77, .invokespecial 46, 3), (80, .putfield 47, 3), (83, .aload_n 0, 1), (84, .new 51, 3), (87, .dup, 1), (88, .invokespecial 53, 3), (91, .putfield 54, 3), (94, .aload_n 0, 1), (95, .new 51, 3), (98, .dup, 1), (99, .invokespecial 53, 3), (102, .putfield 58, 3), (105, .aload_n 0, 1), (106, .iconst 3, 1), (107, .anewarray 51, 3), (110, .putfield 61, 3), (113, .aload_n 0, 1), (114, .new 65, 3), (117, .dup, 1), (118, .invokespecial 67, 3), (121, .putfield 68, 3), (124, .aload_n 0, 1), (125, .new 72, 3), (128, .dup, 1), (129, .invokespecial 74, 3), (132, .putfield 75, 3), (135, .aload_n 0, 1), (136, .new 79, 3), (139, .dup, 1), (140, .invokespecial 81, 3), (143, .putfield 82, 3), (146, .aload_n 0, 1), (147, .new 86, 3), (150, .dup, 1), (151, .aload_n 0, 1), (152, .getfield 68, 3), (155, .invokespecial 88, 3), (158, .putfield 91, 3), (161, .aload_n 0, 1), (162, .iconst 5, 1), (163, .newarray .int, 2), (165, .putfield 95, 3), (168, .aload_n 0, 1), (169, .getfield 22, 3), (172, .iconst (-1), 1), (173, .invokestatic 98, 3), (176, .iconst 0, 1), (177, .istore_n 1, 1), (178, .iload_n 1, 1), (179, .iconst 3, 1), (180, .if_icmp .ge 22, 3), (183, .aload_n 0, 1), (184, .getfield 61, 3), (187, .iload_n 1, 1), (188, .new 51, 3), (191, .dup, 1), (192, .invokespecial 53, 3), (195, .aastore, 1), (196, .iinc 1 1, 3), (199, .goto (-21), 3), (202, .return_, 1)], 2, [(1, 11, 0, 0), (7, 0, 11, 2), (13, 13, 0, 0), (15, 2, 11, 3), (18, 2, 11, 4), (22, 2, 11, 5), (25, 2, 11, 6), (28, 3, 8, 0), (30, 10, 99, 0), (31, 2, 11, 7), (35, 3, 4, 0), (37, 10, 63, 1), (40, 2, 11, 8), (44, 3, 10, 0), (46, 10, 118, 1), (47, 2, 11, 9), (51, 3, 3, 0), (51, 4, 3, 0), (53, 10, 29, 0), (54, 2, 11, 10), (58, 2, 11, 11), (61, 2, 11, 12), (65, 3, 6, 0), (67, 10, 79, 0), (68, 2, 11, 14), (72, 3, 7, 0), (74, 10, 91, 0), (75, 2, 11, 15), (79, 3, 1, 0), (81, 10, 16, 0), (82, 2, 11, 16), (86, 3, 5, 0), (88, 10, 71, 1), (91, 2, 11, 17), (95, 2, 11, 18), (98, 7, 388, 2)], [], (Option.none : Option Jvm.ClassFile.FieldType), 11)
def gk_m127 : rk_M2 := ([(0, .aload_n 0, 1), (1, .getfield 104, 3), (4, .ireturn, 1)], 1, [(104, 0, 11, 0)], [], (Option.some Jvm.ClassFile.FieldType.int), 11)
def gk_m128 : rk_M2 := ([(0, .aload_n 0, 1), (1, .getfield 108, 3), (4, .lreturn, 1)], 1, [(108, 0, 11, 1)], [], (Option.some Jvm.ClassFile.FieldType.long), 11)
def gk_m129 : rk_M2 := ([(0, .aload_n 0, 1), (1, .getfield 7, 3), (4, .lreturn, 1)], 1, [(7, 0, 11, 2)], [], (Option.some Jvm.ClassFile.FieldType.long), 11)
def gk_m130 : rk_M2 := ([(0, .iload_n 1, 1), (1, .invokestatic 111, 3), (4, .ifCond .eq 22, 3), (7, .iload_n 2, 1), (8, .ifCond .lt 18, 3), (11, .iload_n 2, 1), (12, .iconst 3, 1), (13, .if_icmp .gt 13, 3), (16, .iload_n 3, 1), (17, .ifCond .lt 9, 3), (20, .iload_n 3, 1), (21, .bipush 60, 2), (23, .if_icmp .le 9, 3), (26, .aload_n 0, 1), (27, .iconst 1, 1), (28, .invokevirtual 115, 3), (31, .ireturn, 1), (32, .aload_n 0, 1), (33, .getfield 15, 3), (36, .iload_n 1, 1), (37, .aaload, 1), (38, .lconst 0, 1), (39, .invokestatic 118, 3), (42, .aload_n 0, 1), (43, .getfield 18, 3), (46, .iload_n 1, 1), (47, .iload_n 2, 1), (48, .iastore, 1), (49, .aload_n 0, 1), (50, .getfield 22, 3), (53, .iload_n 1, 1), (54, .iload_n 3, 1), (55, .iastore, 1), (56, .aload_n 0, 1), (57, .invokevirtual 121, 3), (60, .ireturn, 1)], 4, [(15, 0, 11, 3), (18, 0, 11, 4), (22, 0, 11, 5), (111, 7, 191, 1), (115, 5, 189, 1), (118, 7, 387, 2), (121, 5, 188, 0)], [], (Option.some Jvm.ClassFile.FieldType.boolean), 11)
def gk_m131 : rk_M2 := ([(0, .aload_n 0, 1), (1, .iload_n 1, 1), (2, .iload_n 2, 1), (3, .invokevirtual 125, 3), (6, .istore 5, 2), (8, .iload 5, 2), (10, .ifCond .eq 10, 3), (13, .aload_n 0, 1), (14, .iload 5, 2), (16, .invokevirtual 115, 3), (19, .ireturn, 1), (20, .aload_n 0, 1), (21, .getfield 15, 3), (24, .iload_n 1, 1), (25, .aaload, 1), (26, .iload_n 2, 1), (27, .aload_n 0, 1), (28, .getfield 18, 3), (31, .iload_n 1, 1), (32, .iaload, 1), (33, .lload_n 3, 1), (34, .invokestatic 129, 3), (37, .lastore, 1), (38, .aload_n 0, 1), (39, .invokevirtual 121, 3), (42, .ireturn, 1)], 6, [(15, 0, 11, 3), (18, 0, 11, 4), (115, 5, 189, 1), (121, 5, 188, 0), (125, 5, 192, 2), (129, 7, 193, 2)], [], (Option.some Jvm.ClassFile.FieldType.boolean), 11)
def gk_m132 : rk_M2 := ([(0, .aload_n 0, 1), (1, .iload_n 1, 1), (2, .iload_n 2, 1), (3, .invokevirtual 125, 3), (6, .istore_n 3, 1), (7, .iload_n 3, 1), (8, .ifCond .eq 10, 3), (11, .aload_n 0, 1), (12, .iload_n 3, 1), (13, .invokevirtual 133, 3), (16, .i2l, 1), (17, .lreturn, 1), (18, .aload_n 0, 1), (19, .iconst 0, 1), (20, .putfield 104, 3), (23, .aload_n 0, 1), (24, .getfield 15, 3), (27, .iload_n 1, 1), (28, .aaload, 1), (29, .iload_n 2, 1), (30, .laload, 1), (31, .lreturn, 1)], 4, [(15, 0, 11, 3), (104, 0, 11, 0), (125, 5, 192, 2), (133, 5, 187, 1)], [], (Option.some Jvm.ClassFile.FieldType.long), 11)
def gk_m133 : rk_M2 := ([(0, .iload_n 1, 1), (1, .invokestatic 111, 3), (4, .ifCond .eq 24, 3), (7, .iload_n 3, 1), (8, .invokestatic 111, 3), (11, .ifCond .eq 17, 3), (14, .iload_n 2, 1), (15, .ifCond .lt 13, 3), (18, .iload 4, 2), (20, .ifCond .lt 8, 3), (23, .iload 5, 2), (25, .ifCond .ge 9, 3), (28, .aload_n 0, 1), (29, .iconst 1, 1), (30, .invokevirtual 115, 3), (33, .ireturn, 1), (34, .aload_n 0, 1), (35, .getfield 22, 3), (38, .iload_n 1, 1), (39, .iaload, 1), (40, .ifCond .lt 12, 3), (43, .aload_n 0, 1), (44, .getfield 22, 3), (47, .iload_n 3, 1), (48, .iaload, 1), (49, .ifCond .ge 9, 3), (52, .aload_n 0, 1), (53, .iconst 2, 1), (54, .invokevirtual 115, 3), (57, .ireturn, 1), (58, .aload_n 0, 1), (59, .getfield 18, 3), (62, .iload_n 1, 1), (63, .iaload, 1), (64, .aload_n 0, 1), (65, .getfield 18, 3), (68, .iload_n 3, 1), (69, .iaload, 1), (70, .if_icmp .eq 10, 3), (73, .aload_n 0, 1), (74, .bipush 8, 2), (76, .invokevirtual 115, 3), (79, .ireturn, 1), (80, .iload 5, 2), (82, .aload_n 0, 1), (83, .getfield 22, 3), (86, .iload_n 1, 1), (87, .iaload, 1), (88, .if_icmp .gt 41, 3), (91, .iload_n 2, 1), (92, .aload_n 0, 1), (93, .getfield 22, 3), (96, .iload_n 1, 1), (97, .iaload, 1), (98, .iload 5, 2), (100, .isub, 1), (101, .if_icmp .gt 28, 3), (104, .iload 5, 2), (106, .aload_n 0, 1), (107, .getfield 22, 3), (110, .iload_n 3, 1), (111, .iaload, 1), (112, .if_icmp .gt 17, 3), (115, .iload 4, 2), (117, .aload_n 0, 1), (118, .getfield 22, 3), (121, .iload_n 3, 1), (122, .iaload, 1), (123, .iload 5, 2), (125, .isub, 1), (126, .if_icmp .le 9, 3), (129, .aload_n 0, 1), (130, .iconst 3, 1), (131, .invokevirtual 115, 3), (134, .ireturn, 1), (135, .aload_n 0, 1), (136, .getfield 15, 3), (139, .iload_n 1, 1), (140, .aaload, 1), (141, .iload_n 2, 1), (142, .aload_n 0, 1), (143, .getfield 15, 3), (146, .iload_n 3, 1), (147, .aaload, 1), (148, .iload 4, 2), (150, .iload 5, 2), (152, .invokestatic 137, 3), (155, .aload_n 0, 1), (156, .invokevirtual 121, 3), (159, .ireturn, 1)], 6, [(15, 0, 11, 3), (18, 0, 11, 4), (22, 0, 11, 5), (111, 7, 191, 1), (115, 5, 189, 1), (121, 5, 188, 0), (137, 12, 0, 0)], [], (Option.some Jvm.ClassFile.FieldType.boolean), 11)
def gk_m134 : rk_M2 := ([(0, .aload_n 0, 1), (1, .getfield 31, 3), (4, .invokevirtual 143, 3), (7, .ifCond .ne 5, 3), (10, .iconst (-1), 1), (11, .ireturn, 1), (12, .aload_n 0, 1), (13, .getfield 31, 3), (16, .iload_n 1, 1), (17, .invokevirtual 146, 3), (20, .aload_n 0, 1), (21, .getfield 31, 3), (24, .iload_n 2, 1), (25, .invokevirtual 146, 3), (28, .aload_n 0, 1), (29, .getfield 31, 3), (32, .iload_n 3, 1), (33, .invokevirtual 146, 3), (36, .aload_n 0, 1), (37, .getfield 31, 3), (40, .iload 4, 2), (42, .invokevirtual 146, 3), (45, .aload_n 0, 1), (46, .getfield 31, 3), (49, .iload 5, 2), (51, .invokevirtual 146, 3), (54, .aload_n 0, 1), (55, .getfield 31, 3), (58, .getfield 150, 3), (61, .ireturn, 1)], 6, [(31, 0, 11, 7), (143, 6, 100, 0), (146, 6, 101, 1), (150, 1, 8, 2)], [], (Option.some Jvm.ClassFile.FieldType.int), 11)
def gk_m135 : rk_M2 := ([(0, .iload_n 1, 1), (1, .ifCond .lt 14, 3), (4, .iload_n 1, 1), (5, .aload_n 0, 1), (6, .getfield 31, 3), (9, .getfield 150, 3), (12, .if_icmp .le 9, 3), (15, .aload_n 0, 1), (16, .iconst 1, 1), (17, .invokevirtual 133, 3), (20, .ireturn, 1), (21, .aload_n 0, 1), (22, .getfield 31, 3), (25, .iload_n 1, 1), (26, .invokevirtual 153, 3), (29, .aload_n 0, 1), (30, .getfield 40, 3), (33, .aload_n 0, 1), (34, .getfield 58, 3), (37, .invokevirtual 156, 3), (40, .aload_n 0, 1), (41, .getfield 31, 3), (44, .getfield 160, 3), (47, .ifCond .eq 10, 3), (50, .aload_n 0, 1), (51, .bipush 9, 2), (53, .invokevirtual 133, 3), (56, .ireturn, 1), (57, .aload_n 0, 1), (58, .getfield 54, 3), (61, .aload_n 0, 1), (62, .getfield 58, 3), (65, .invokevirtual 163, 3), (68, .aload_n 0, 1), (69, .getfield 54, 3), (72, .getfield 166, 3), (75, .invokevirtual 170, 3), (78, .aload_n 0, 1), (79, .aload_n 0, 1), (80, .getfield 54, 3), (83, .getfield 175, 3), (86, .invokevirtual 178, 3), (89, .ireturn, 1)], 2, [(31, 0, 11, 7), (40, 0, 11, 8), (54, 0, 11, 10), (58, 0, 11, 11), (133, 5, 187, 1), (150, 1, 8, 2), (153, 6, 102, 1), (156, 6, 64, 1), (160, 1, 8, 10), (163, 6, 31, 1), (166, 1, 3, 7), (170, 6, 116, 0), (175, 1, 3, 8), (178, 5, 186, 1)], [], (Option.some Jvm.ClassFile.FieldType.int), 11)
def gk_m136 : rk_M2 := ([(0, .iload_n 1, 1), (1, .ifCond .lt 21, 3), (4, .iload_n 1, 1), (5, .aload_n 0, 1), (6, .getfield 31, 3), (9, .getfield 150, 3), (12, .if_icmp .gt 10, 3), (15, .iload_n 1, 1), (16, .sipush 300, 3), (19, .if_icmp .le 9, 3), (22, .aload_n 0, 1), (23, .iconst 1, 1), (24, .invokevirtual 133, 3), (27, .ireturn, 1), (28, .aload_n 0, 1), (29, .getfield 31, 3), (32, .iload_n 1, 1), (33, .invokevirtual 153, 3), (36, .aload_n 0, 1), (37, .getfield 47, 3), (40, .aload_n 0, 1), (41, .getfield 54, 3), (44, .aload_n 0, 1), (45, .getfield 58, 3), (48, .getfield 166, 3), (51, .invokevirtual 181, 3), (54, .aload_n 0, 1), (55, .getfield 31, 3), (58, .getfield 160, 3), (61, .ifCond .eq 10, 3), (64, .aload_n 0, 1), (65, .bipush 9, 2), (67, .invokevirtual 133, 3), (70, .ireturn, 1), (71, .aload_n 0, 1), (72, .getfield 54, 3), (75, .getfield 166, 3), (78, .aload_n 0, 1), (79, .getfield 58, 3), (82, .getfield 166, 3), (85, .invokevirtual 184, 3), (88, .aload_n 0, 1), (89, .aload_n 0, 1), (90, .getfield 54, 3), (93, .getfield 166, 3), (96, .getfield 187, 3), (99, .invokevirtual 178, 3), (102, .ireturn, 1)], 2, [(31, 0, 11, 7), (47, 0, 11, 9), (54, 0, 11, 10), (58, 0, 11, 11), (133, 5, 187, 1), (150, 1, 8, 2), (153, 6, 102, 1), (160, 1, 8, 10), (166, 1, 3, 7), (178, 5, 186, 1), (181, 6, 119, 2), (184, 6, 117, 1), (187, 1, 9, 6)], [], (Option.some Jvm.ClassFile.FieldType.int), 11)
def gk_m137 : rk_M2 := ([(0, .iload_n 1, 1), (1, .ifCond .ne 11, 3), (4, .aload_n 0, 1), (5, .getfield 31, 3), (8, .getfield 160, 3), (11, .ireturn, 1), (12, .iload_n 1, 1), (13, .iconst 1, 1), (14, .if_icmp .ne 13, 3), (17, .aload_n 0, 1), (18, .getfield 31, 3), (21, .getfield 190, 3), (24, .goto 4, 3), (27, .iconst (-1), 1), (28, .ireturn, 1)], 2, [(31, 0, 11, 7), (160, 1, 8, 10), (190, 1, 8, 11)], [], (Option.some Jvm.ClassFile.FieldType.int), 11)
def gk_m138 : rk_M2 := ([(0, .iload_n 1, 1), (1, .tableswitch 187 0 9 #[55, 67, 82, 94, 106, 118, 130, 142, 157, 172], 55), (56, .aload_n 0, 1), (57, .aload_n 0, 1), (58, .getfield 54, 3), (61, .getfield 175, 3), (64, .invokevirtual 178, 3), (67, .ireturn, 1), (68, .aload_n 0, 1), (69, .aload_n 0, 1), (70, .getfield 54, 3), (73, .getfield 193, 3), (76, .getfield 197, 3), (79, .invokevirtual 178, 3), (82, .ireturn, 1), (83, .aload_n 0, 1), (84, .aload_n 0, 1), (85, .getfield 54, 3), (88, .getfield 200, 3), (91, .invokevirtual 178, 3), (94, .ireturn, 1), (95, .aload_n 0, 1), (96, .aload_n 0, 1), (97, .getfield 54, 3), (100, .getfield 203, 3), (103, .invokevirtual 178, 3), (106, .ireturn, 1), (107, .aload_n 0, 1), (108, .aload_n 0, 1), (109, .getfield 54, 3), (112, .getfield 206, 3), (115, .invokevirtual 178, 3), (118, .ireturn, 1), (119, .aload_n 0, 1), (120, .aload_n 0, 1), (121, .getfield 54, 3), (124, .getfield 209, 3), (127, .invokevirtual 178, 3), (130, .ireturn, 1), (131, .aload_n 0, 1), (132, .aload_n 0, 1), (133, .getfield 54, 3), (136, .getfield 212, 3), (139, .invokevirtual 178, 3), (142, .ireturn, 1), (143, .aload_n 0, 1), (144, .aload_n 0, 1), (145, .getfield 54, 3), (148, .getfield 215, 3), (151, .getfield 219, 3), (154, .invokevirtual 178, 3), (157, .ireturn, 1), (158, .aload_n 0, 1), (159, .aload_n 0, 1), (160, .getfield 54, 3), (163, .getfield 193, 3), (166, .getfield 224, 3), (169, .invokevirtual 178, 3), (172, .ireturn, 1), (173, .aload_n 0, 1), (174, .aload_n 0, 1), (175, .getfield 54, 3), (178, .getfield 193, 3), (181, .getfield 227, 3), (184, .invokevirtual 178, 3), (187, .ireturn, 1), (188, .aload_n 0, 1), (189, .iconst 1, 1), (190, .invokevirtual 133, 3), (193, .ireturn, 1)], 2, [(54, 0, 11, 10), (133, 5, 187, 1), (175, 1, 3, 8), (178, 5, 186, 1), (193, 1, 3, 6), (197, 1, 0, 7), (200, 1, 3, 10), (203, 1, 3, 11), (206, 1, 3, 12), (209, 1, 3, 13), (212, 1, 3, 9), (215, 1, 3, 5), (219, 1, 2, 5), (224, 1, 0, 8), (227, 1, 0, 9)], [], (Option.some Jvm.ClassFile.FieldType.int), 11)
def gk_m139 : rk_M2 := ([(0, .aload_n 0, 1), (1, .getfield 54, 3), (4, .iload_n 1, 1), (5, .invokevirtual 230, 3), (8, .ifCond .ne 9, 3), (11, .aload_n 0, 1), (12, .iconst 1, 1), (13, .invokevirtual 133, 3), (16, .ireturn, 1), (17, .iload_n 2, 1), (18, .tableswitch 112 0 4 #[34, 51, 64, 81, 95], 34), (52, .aload_n 0, 1), (53, .aload_n 0, 1), (54, .getfield 54, 3), (57, .getfield 215, 3), (60, .getfield 233, 3), (63, .iload_n 1, 1), (64, .iaload, 1), (65, .invokevirtual 178, 3), (68, .ireturn, 1), (69, .aload_n 0, 1), (70, .aload_n 0, 1), (71, .getfield 54, 3), (74, .iload_n 1, 1), (75, .invokevirtual 236, 3), (78, .invokevirtual 178, 3), (81, .ireturn, 1), (82, .aload_n 0, 1), (83, .aload_n 0, 1), (84, .getfield 54, 3), (87, .getfield 215, 3), (90, .getfield 239, 3), (93, .iload_n 1, 1), (94, .iaload, 1), (95, .invokevirtual 178, 3), (98, .ireturn, 1), (99, .aload_n 0, 1), (100, .aload_n 0, 1), (101, .getfield 54, 3), (104, .iload_n 1, 1), (105, .iconst 0, 1), (106, .invokevirtual 242, 3), (109, .invokevirtual 178, 3), (112, .ireturn, 1), (113, .aload_n 0, 1), (114, .aload_n 0, 1), (115, .getfield 54, 3), (118, .getfield 215, 3), (121, .getfield 245, 3), (124, .iload_n 1, 1), (125, .iaload, 1), (126, .invokevirtual 178, 3), (129, .ireturn, 1), (130, .aload_n 0, 1), (131, .iconst 1, 1), (132, .invokevirtual 133, 3), (135, .ireturn, 1)], 3, [(54, 0, 11, 10), (133, 5, 187, 1), (178, 5, 186, 1), (215, 1, 3, 5), (230, 6, 36, 1), (233, 1, 2, 0), (236, 6, 40, 1), (239, 1, 2, 2), (242, 6, 41, 2), (245, 1, 2, 1)], [], (Option.some Jvm.ClassFile.FieldType.int), 11)
def gk_m140 : rk_M2 := ([(0, .aload_n 0, 1), (1, .getfield 54, 3), (4, .getfield 193, 3), (7, .iload_n 1, 1), (8, .invokevirtual 248, 3), (11, .ifCond .ne 9, 3), (14, .aload_n 0, 1), (15, .iconst 1, 1), (16, .invokevirtual 133, 3), (19, .ireturn, 1), (20, .iload_n 2, 1), (21, .tableswitch 98 0 3 #[31, 48, 65, 81], 31), (52, .aload_n 0, 1), (53, .aload_n 0, 1), (54, .getfield 54, 3), (57, .getfield 193, 3), (60, .getfield 251, 3), (63, .iload_n 1, 1), (64, .iaload, 1), (65, .invokevirtual 178, 3), (68, .ireturn, 1), (69, .aload_n 0, 1), (70, .aload_n 0, 1), (71, .getfield 54, 3), (74, .getfield 193, 3), (77, .getfield 254, 3), (80, .iload_n 1, 1), (81, .iaload, 1), (82, .invokevirtual 178, 3), (85, .ireturn, 1), (86, .aload_n 0, 1), (87, .aload_n 0, 1), (88, .getfield 54, 3), (91, .getfield 193, 3), (94, .iload_n 1, 1), (95, .invokevirtual 257, 3), (98, .invokevirtual 178, 3), (101, .ireturn, 1), (102, .aload_n 0, 1), (103, .aload_n 0, 1), (104, .getfield 54, 3), (107, .getfield 193, 3), (110, .getfield 260, 3), (113, .iload_n 1, 1), (114, .iaload, 1), (115, .invokevirtual 178, 3), (118, .ireturn, 1), (119, .aload_n 0, 1), (120, .iconst 1, 1), (121, .invokevirtual 133, 3), (124, .ireturn, 1)], 3, [(54, 0, 11, 10), (133, 5, 187, 1), (178, 5, 186, 1), (193, 1, 3, 6), (248, 6, 3, 1), (251, 1, 0, 1), (254, 1, 0, 2), (257, 6, 11, 1), (260, 1, 0, 3)], [], (Option.some Jvm.ClassFile.FieldType.int), 11)
def gk_m141 : rk_M2 := ([(0, .aload_n 0, 1), (1, .getfield 54, 3), (4, .getfield 193, 3), (7, .iload_n 1, 1), (8, .invokevirtual 248, 3), (11, .ifCond .ne 9, 3), (14, .aload_n 0, 1), (15, .iconst 1, 1), (16, .invokevirtual 133, 3), (19, .ireturn, 1), (20, .iload_n 2, 1), (21, .ifCond .lt 18, 3), (24, .iload_n 2, 1), (25, .aload_n 0, 1), (26, .getfield 54, 3), (29, .getfield 193, 3), (32, .iload_n 1, 1), (33, .invokevirtual 257, 3), (36, .if_icmp .lt 10, 3), (39, .aload_n 0, 1), (40, .bipush 6, 2), (42, .invokevirtual 133, 3), (45, .ireturn, 1), (46, .aload_n 0, 1), (47, .aload_n 0, 1), (48, .getfield 54, 3), (51, .getfield 193, 3), (54, .iload_n 1, 1), (55, .iload_n 2, 1), (56, .invokevirtual 263, 3), (59, .invokevirtual 178, 3), (62, .ireturn, 1)], 3, [(54, 0, 11, 10), (133, 5, 187, 1), (178, 5, 186, 1), (193, 1, 3, 6), (248, 6, 3, 1), (257, 6, 11, 1), (263, 6, 9, 2)], [], (Option.some Jvm.ClassFile.FieldType.int), 11)
def gk_m142 : rk_M2 := ([(0, .aload_n 0, 1), (1, .getfield 54, 3), (4, .iload_n 1, 1), (5, .iload_n 2, 1), (6, .invokevirtual 266, 3), (9, .ifCond .ne 9, 3), (12, .aload_n 0, 1), (13, .iconst 1, 1), (14, .invokevirtual 133, 3), (17, .ireturn, 1), (18, .aload_n 0, 1), (19, .aload_n 0, 1), (20, .getfield 54, 3), (23, .getfield 270, 3), (26, .iload_n 1, 1), (27, .iaload, 1), (28, .iload_n 2, 1), (29, .ishr, 1), (30, .iconst 1, 1), (31, .iand, 1), (32, .invokevirtual 178, 3), (35, .ireturn, 1)], 3, [(54, 0, 11, 10), (133, 5, 187, 1), (178, 5, 186, 1), (266, 6, 37, 2), (270, 1, 3, 1)], [], (Option.some Jvm.ClassFile.FieldType.int), 11)
def gk_m143 : rk_M2 := ([(0, .aload_n 0, 1), (1, .getfield 54, 3), (4, .iload_n 1, 1), (5, .iload_n 2, 1), (6, .invokevirtual 266, 3), (9, .ifCond .ne 9, 3), (12, .aload_n 0, 1), (13, .iconst 1, 1), (14, .invokevirtual 133, 3), (17, .ireturn, 1), (18, .aload_n 0, 1), (19, .aload_n 0, 1), (20, .getfield 54, 3), (23, .getfield 273, 3), (26, .iload_n 1, 1), (27, .iaload, 1), (28, .iload_n 2, 1), (29, .ishr, 1), (30, .iconst 1, 1), (31, .iand, 1), (32, .invokevirtual 178, 3), (35, .ireturn, 1)], 3, [(54, 0, 11, 10), (133, 5, 187, 1), (178, 5, 186, 1), (266, 6, 37, 2), (273, 1, 3, 2)], [], (Option.some Jvm.ClassFile.FieldType.int), 11)
def gk_m144 : rk_M2 := ([(0, .aload_n 0, 1), (1, .getfield 54, 3), (4, .iload_n 1, 1), (5, .invokevirtual 276, 3), (8, .ifCond .ne 9, 3), (11, .aload_n 0, 1), (12, .iconst 1, 1), (13, .invokevirtual 133, 3), (16, .ireturn, 1), (17, .aload_n 0, 1), (18, .aload_n 0, 1), (19, .getfield 54, 3), (22, .getfield 279, 3), (25, .iload_n 1, 1), (26, .iaload, 1), (27, .invokevirtual 178, 3), (30, .ireturn, 1)], 2, [(54, 0, 11, 10), (133, 5, 187, 1), (178, 5, 186, 1), (276, 6, 34, 1), (279, 1, 3, 3)], [], (Option.some Jvm.ClassFile.FieldType.int), 11)
def gk_m145 : rk_M2 := ([(0, .aload_n 0, 1), (1, .getfield 54, 3), (4, .getfield 193, 3), (7, .iload_n 1, 1), (8, .invokevirtual 248, 3), (11, .ifCond .eq 21, 3), (14, .iload_n 2, 1), (15, .invokestatic 111, 3), (18, .ifCond .eq 14, 3), (21, .iload_n 3, 1), (22, .iconst 1, 1), (23, .if_icmp .lt 9, 3), (26, .iload_n 3, 1), (27, .bipush 20, 2), (29, .if_icmp .le 9, 3), (32, .aload_n 0, 1), (33, .iconst 1, 1), (34, .invokevirtual 133, 3), (37, .ireturn, 1), (38, .aload_n 0, 1), (39, .iload_n 2, 1), (40, .iload_n 3, 1), (41, .invokevirtual 282, 3), (44, .istore 4, 2), (46, .iload 4, 2), (48, .ifCond .eq 10, 3), (51, .aload_n 0, 1), (52, .iload 4, 2), (54, .invokevirtual 133, 3), (57, .ireturn, 1), (58, .aload_n 0, 1), (59, .getfield 54, 3), (62, .getfield 193, 3), (65, .iload_n 1, 1), (66, .invokevirtual 285, 3), (69, .ifCond .ne 30, 3), (72, .aload_n 0, 1), (73, .getfield 54, 3), (76, .aload_n 0, 1), (77, .getfield 54, 3), (80, .getfield 193, 3), (83, .getfield 254, 3), (86, .iload_n 1, 1), (87, .iaload, 1), (88, .aload_n 0, 1), (89, .getfield 25, 3), (92, .iload_n 3, 1), (93, .invokevirtual 288, 3), (96, .ifCond .ne 10, 3), (99, .aload_n 0, 1), (100, .bipush 7, 2), (102, .invokevirtual 133, 3), (105, .ireturn, 1), (106, .aload_n 0, 1), (107, .getfield 54, 3), (110, .getfield 193, 3), (113, .iload_n 1, 1), (114, .aload_n 0, 1), (115, .getfield 25, 3), (118, .iload_n 3, 1), (119, .invokevirtual 292, 3), (122, .aload_n 0, 1), (123, .iload_n 3, 1), (124, .invokevirtual 178, 3), (127, .ireturn, 1)], 5, [(25, 0, 11, 6), (54, 0, 11, 10), (111, 7, 191, 1), (133, 5, 187, 1), (178, 5, 186, 1), (193, 1, 3, 6), (248, 6, 3, 1), (254, 1, 0, 2), (282, 5, 194, 2), (285, 6, 6, 1), (288, 6, 45, 3), (292, 6, 8, 3)], [], (Option.some Jvm.ClassFile.FieldType.int), 11)
def gk_m146 : rk_M2 := ([(0, .aload_n 0, 1), (1, .getfield 54, 3), (4, .getfield 193, 3), (7, .iload_n 1, 1), (8, .invokevirtual 248, 3), (11, .ifCond .eq 14, 3), (14, .aload_n 0, 1), (15, .getfield 54, 3), (18, .iload_n 2, 1), (19, .invokevirtual 276, 3), (22, .ifCond .ne 9, 3), (25, .aload_n 0, 1), (26, .iconst 1, 1), (27, .invokevirtual 133, 3), (30, .ireturn, 1), (31, .aload_n 0, 1), (32, .getfield 54, 3), (35, .getfield 193, 3), (38, .iload_n 1, 1), (39, .invokevirtual 285, 3), (42, .ifCond .ne 19, 3), (45, .aload_n 0, 1), (46, .getfield 54, 3), (49, .getfield 193, 3), (52, .getfield 254, 3), (55, .iload_n 1, 1), (56, .iaload, 1), (57, .iload_n 2, 1), (58, .if_icmp .ne 10, 3), (61, .aload_n 0, 1), (62, .bipush 7, 2), (64, .invokevirtual 133, 3), (67, .ireturn, 1), (68, .aload_n 0, 1), (69, .iload_n 1, 1), (70, .iload_n 2, 1), (71, .invokevirtual 296, 3), (74, .ifCond .ne 10, 3), (77, .aload_n 0, 1), (78, .bipush 6, 2), (80, .invokevirtual 133, 3), (83, .ireturn, 1), (84, .aload_n 0, 1), (85, .getfield 54, 3), (88, .getfield 193, 3), (91, .iload_n 1, 1), (92, .aload_n 0, 1), (93, .getfield 68, 3), (96, .getfield 299, 3), (99, .aload_n 0, 1), (100, .getfield 68, 3), (103, .getfield 302, 3), (106, .invokevirtual 292, 3), (109, .aload_n 0, 1), (110, .aload_n 0, 1), (111, .getfield 68, 3), (114, .getfield 302, 3), (117, .invokevirtual 178, 3), (120, .ireturn, 1)], 3, [(54, 0, 11, 10), (68, 0, 11, 14), (133, 5, 187, 1), (178, 5, 186, 1), (193, 1, 3, 6), (248, 6, 3, 1), (254, 1, 0, 2), (276, 6, 34, 1), (285, 6, 6, 1), (292, 6, 8, 3), (296, 5, 195, 2), (299, 1, 6, 0), (302, 1, 6, 4)], [], (Option.some Jvm.ClassFile.FieldType.int), 11)
def gk_m147 : rk_M2 := ([(0, .aload_n 0, 1), (1, .getfield 54, 3), (4, .getfield 193, 3), (7, .iload_n 1, 1), (8, .invokevirtual 248, 3), (11, .ifCond .ne 9, 3), (14, .aload_n 0, 1), (15, .iconst 1, 1), (16, .invokevirtual 133, 3), (19, .ireturn, 1), (20, .aload_n 0, 1), (21, .getfield 54, 3), (24, .getfield 193, 3), (27, .iload_n 1, 1), (28, .invokevirtual 257, 3), (31, .istore_n 2, 1), (32, .iload_n 2, 1), (33, .ifCond .ne 10, 3), (36, .aload_n 0, 1), (37, .bipush 7, 2), (39, .invokevirtual 133, 3), (42, .ireturn, 1), (43, .aload_n 0, 1), (44, .getfield 54, 3), (47, .getfield 193, 3), (50, .dup, 1), (51, .getfield 227, 3), (54, .iconst 1, 1), (55, .iload_n 1, 1), (56, .ishl, 1), (57, .iconst (-1), 1), (58, .ixor, 1), (59, .iand, 1), (60, .putfield 227, 3), (63, .aload_n 0, 1), (64, .iload_n 2, 1), (65, .invokevirtual 178, 3), (68, .ireturn, 1)], 3, [(54, 0, 11, 10), (133, 5, 187, 1), (178, 5, 186, 1), (193, 1, 3, 6), (227, 1, 0, 9), (248, 6, 3, 1), (257, 6, 11, 1)], [], (Option.some Jvm.ClassFile.FieldType.int), 11)
def gk_m148 : rk_M2 := ([(0, .iload_n 1, 1), (1, .iconst 1, 1), (2, .if_icmp .lt 9, 3), (5, .iload_n 1, 1), (6, .bipush 20, 2), (8, .if_icmp .le 9, 3), (11, .aload_n 0, 1), (12, .iconst 1, 1), (13, .invokevirtual 133, 3), (16, .ireturn, 1), (17, .aload_n 0, 1), (18, .getfield 54, 3), (21, .getfield 209, 3), (24, .iload_n 1, 1), (25, .iadd, 1), (26, .sipush 9999, 3), (29, .if_icmp .le 9, 3), (32, .aload_n 0, 1), (33, .iconst 4, 1), (34, .invokevirtual 133, 3), (37, .ireturn, 1), (38, .aload_n 0, 1), (39, .aload_n 0, 1), (40, .getfield 54, 3), (43, .iload_n 1, 1), (44, .invokevirtual 305, 3), (47, .invokevirtual 178, 3), (50, .ireturn, 1)], 2, [(54, 0, 11, 10), (133, 5, 187, 1), (178, 5, 186, 1), (209, 1, 3, 13), (305, 6, 49, 1)], [], (Option.some Jvm.ClassFile.FieldType.int), 11)
def gk_m149 : rk_M2 := ([(0, .iload_n 1, 1), (1, .iconst 1, 1), (2, .if_icmp .lt 9, 3), (5, .iload_n 1, 1), (6, .bipush 20, 2), (8, .if_icmp .le 9, 3), (11, .aload_n 0, 1), (12, .iconst 1, 1), (13, .invokevirtual 133, 3), (16, .ireturn, 1), (17, .aload_n 0, 1), (18, .aload_n 0, 1), (19, .getfield 54, 3), (22, .iload_n 1, 1), (23, .invokevirtual 308, 3), (26, .invokevirtual 178, 3), (29, .ireturn, 1)], 2, [(54, 0, 11, 10), (133, 5, 187, 1), (178, 5, 186, 1), (308, 6, 56, 1)], [], (Option.some Jvm.ClassFile.FieldType.int), 11)
def gk_m150 : rk_M2 := ([(0, .iload_n 1, 1), (1, .iconst 1, 1), (2, .if_icmp .lt 9, 3), (5, .iload_n 1, 1), (6, .bipush 20, 2), (8, .if_icmp .le 9, 3), (11, .aload_n 0, 1), (12, .iconst 1, 1), (13, .invokevirtual 133, 3), (16, .ireturn, 1), (17, .aload_n 0, 1), (18, .getfield 54, 3), (21, .iload_n 1, 1), (22, .invokevirtual 311, 3), (25, .aload_n 0, 1), (26, .aload_n 0, 1), (27, .getfield 54, 3), (30, .invokevirtual 314, 3), (33, .invokevirtual 178, 3), (36, .ireturn, 1)], 2, [(54, 0, 11, 10), (133, 5, 187, 1), (178, 5, 186, 1), (311, 6, 57, 1), (314, 6, 58, 0)], [], (Option.some Jvm.ClassFile.FieldType.int), 11)
def gk_m151 : rk_M2 := ([(0, .aload_n 0, 1), (1, .getfield 54, 3), (4, .getfield 193, 3), (7, .iload_n 1, 1), (8, .invokevirtual 248, 3), (11, .ifCond .ne 9, 3), (14, .aload_n 0, 1), (15, .iconst 1, 1), (16, .invokevirtual 133, 3), (19, .ireturn, 1), (20, .aload_n 0, 1), (21, .getfield 54, 3), (24, .getfield 193, 3), (27, .getfield 224, 3), (30, .iload_n 1, 1), (31, .ishr, 1), (32, .iconst 1, 1), (33, .iand, 1), (34, .ifCond .eq 13, 3), (37, .aload_n 0, 1), (38, .getfield 54, 3), (41, .getfield 212, 3), (44, .ifCond .ne 10, 3), (47, .aload_n 0, 1), (48, .bipush 7, 2), (50, .invokevirtual 133, 3), (53, .ireturn, 1), (54, .aload_n 0, 1), (55, .getfield 54, 3), (58, .iload_n 1, 1), (59, .invokevirtual 318, 3), (62, .aload_n 0, 1), (63, .aload_n 0, 1), (64, .getfield 54, 3), (67, .getfield 193, 3), (70, .getfield 224, 3), (73, .invokestatic 321, 3), (76, .invokevirtual 178, 3), (79, .ireturn, 1)], 2, [(54, 0, 11, 10), (133, 5, 187, 1), (178, 5, 186, 1), (193, 1, 3, 6), (212, 1, 3, 9), (224, 1, 0, 8), (248, 6, 3, 1), (318, 6, 59, 1), (321, 7, 372, 1)], [], (Option.some Jvm.ClassFile.FieldType.int), 11)
def gk_m152 : rk_M2 := ([(0, .aload_n 0, 1), (1, .getfield 54, 3), (4, .iload_n 1, 1), (5, .invokevirtual 230, 3), (8, .ifCond .ne 9, 3), (11, .aload_n 0, 1), (12, .iconst 1, 1), (13, .invokevirtual 133, 3), (16, .ireturn, 1), (17, .aload_n 0, 1), (18, .getfield 54, 3), (21, .getfield 215, 3), (24, .getfield 219, 3), (27, .iload_n 1, 1), (28, .ishr, 1), (29, .iconst 1, 1), (30, .iand, 1), (31, .ifCond .eq 10, 3), (34, .aload_n 0, 1), (35, .bipush 7, 2), (37, .invokevirtual 133, 3), (40, .ireturn, 1), (41, .aload_n 0, 1), (42, .getfield 54, 3), (45, .iconst 1, 1), (46, .iload_n 1, 1), (47, .ishl, 1), (48, .invokevirtual 326, 3), (51, .aload_n 0, 1), (52, .aload_n 0, 1), (53, .getfield 54, 3), (56, .getfield 215, 3), (59, .getfield 219, 3), (62, .invokestatic 321, 3), (65, .invokevirtual 178, 3), (68, .ireturn, 1)], 2, [(54, 0, 11, 10), (133, 5, 187, 1), (178, 5, 186, 1), (215, 1, 3, 5), (219, 1, 2, 5), (230, 6, 36, 1), (321, 7, 372, 1), (326, 6, 54, 1)], [], (Option.some Jvm.ClassFile.FieldType.int), 11)
def gk_m153 : rk_M2 := ([(0, .aload_n 0, 1), (1, .getfield 54, 3), (4, .getfield 193, 3), (7, .iload_n 1, 1), (8, .invokevirtual 248, 3), (11, .ifCond .eq 14, 3), (14, .iload_n 2, 1), (15, .iconst 1, 1), (16, .if_icmp .lt 9, 3), (19, .iload_n 2, 1), (20, .bipush 99, 2), (22, .if_icmp .le 9, 3), (25, .aload_n 0, 1), (26, .iconst 1, 1), (27, .invokevirtual 115, 3), (30, .ireturn, 1), (31, .aload_n 0, 1), (32, .getfield 54, 3), (35, .getfield 193, 3), (38, .getfield 251, 3), (41, .iload_n 1, 1), (42, .iload_n 2, 1), (43, .iastore, 1), (44, .aload_n 0, 1), (45, .invokevirtual 121, 3), (48, .ireturn, 1)], 3, [(54, 0, 11, 10), (115, 5, 189, 1), (121, 5, 188, 0), (193, 1, 3, 6), (248, 6, 3, 1), (251, 1, 0, 1)], [], (Option.some Jvm.ClassFile.FieldType.boolean), 11)
def gk_m154 : rk_M2 := ([(0, .aload_n 0, 1), (1, .getfield 54, 3), (4, .iload_n 1, 1), (5, .iload_n 2, 1), (6, .invokevirtual 266, 3), (9, .ifCond .ne 9, 3), (12, .aload_n 0, 1), (13, .iconst 1, 1), (14, .invokevirtual 115, 3), (17, .ireturn, 1), (18, .aload_n 0, 1), (19, .getfield 54, 3), (22, .getfield 270, 3), (25, .iload_n 1, 1), (26, .iaload, 1), (27, .iload_n 2, 1), (28, .ishr, 1), (29, .iconst 1, 1), (30, .iand, 1), (31, .ifCond .eq 7, 3), (34, .iconst 1, 1), (35, .goto 4, 3), (38, .iconst 0, 1), (39, .istore 4, 2), (41, .iload 4, 2), (43, .iload_n 3, 1), (44, .if_icmp .ne 10, 3), (47, .aload_n 0, 1), (48, .bipush 7, 2), (50, .invokevirtual 115, 3), (53, .ireturn, 1), (54, .aload_n 0, 1), (55, .getfield 54, 3), (58, .getfield 270, 3), (61, .iload_n 1, 1), (62, .dup2, 1), (63, .iaload, 1), (64, .iconst 1, 1), (65, .iload_n 2, 1), (66, .ishl, 1), (67, .ixor, 1), (68, .iastore, 1), (69, .aload_n 0, 1), (70, .getfield 54, 3), (73, .getfield 270, 3), (76, .iload_n 2, 1), (77, .dup2, 1), (78, .iaload, 1), (79, .iconst 1, 1), (80, .iload_n 1, 1), (81, .ishl, 1), (82, .ixor, 1), (83, .iastore, 1), (84, .aload_n 0, 1), (85, .invokevirtual 121, 3), (88, .ireturn, 1)], 5, [(54, 0, 11, 10), (115, 5, 189, 1), (121, 5, 188, 0), (266, 6, 37, 2), (270, 1, 3, 1)], [], (Option.some Jvm.ClassFile.FieldType.boolean), 11)
def gk_m155 : rk_M2 := ([(0, .aload_n 0, 1), (1, .getfield 54, 3), (4, .getfield 193, 3), (7, .iload_n 1, 1), (8, .invokevirtual 248, 3), (11, .ifCond .eq 14, 3), (14, .aload_n 0, 1), (15, .getfield 54, 3), (18, .iload_n 2, 1), (19, .invokevirtual 276, 3), (22, .ifCond .ne 9, 3), (25, .aload_n 0, 1), (26, .iconst 1, 1), (27, .invokevirtual 133, 3), (30, .ireturn, 1), (31, .aload_n 0, 1), (32, .aload_n 0, 1), (33, .getfield 54, 3), (36, .iload_n 1, 1), (37, .invokevirtual 329, 3), (40, .iload_n 2, 1), (41, .ishr, 1), (42, .iconst 1, 1), (43, .iand, 1), (44, .invokevirtual 178, 3), (47, .ireturn, 1)], 3, [(54, 0, 11, 10), (133, 5, 187, 1), (178, 5, 186, 1), (193, 1, 3, 6), (248, 6, 3, 1), (276, 6, 34, 1), (329, 6, 43, 1)], [], (Option.some Jvm.ClassFile.FieldType.int), 11)
def gk_m156 : rk_M2 := ([(0, .aload_n 0, 1), (1, .getfield 54, 3), (4, .getfield 193, 3), (7, .iload_n 1, 1), (8, .invokevirtual 248, 3), (11, .ifCond .eq 14, 3), (14, .aload_n 0, 1), (15, .getfield 54, 3), (18, .iload_n 2, 1), (19, .invokevirtual 276, 3), (22, .ifCond .ne 9, 3), (25, .aload_n 0, 1), (26, .iconst 1, 1), (27, .invokevirtual 133, 3), (30, .ireturn, 1), (31, .aload_n 0, 1), (32, .aload_n 0, 1), (33, .getfield 54, 3), (36, .iload_n 1, 1), (37, .iload_n 2, 1), (38, .invokevirtual 332, 3), (41, .invokevirtual 178, 3), (44, .ireturn, 1)], 3, [(54, 0, 11, 10), (133, 5, 187, 1), (178, 5, 186, 1), (193, 1, 3, 6), (248, 6, 3, 1), (276, 6, 34, 1), (332, 6, 42, 2)], [], (Option.some Jvm.ClassFile.FieldType.int), 11)
def gk_m157 : rk_M2 := ([(0, .aload_n 0, 1), (1, .getfield 54, 3), (4, .getfield 193, 3), (7, .iload_n 1, 1), (8, .invokevirtual 248, 3), (11, .ifCond .eq 14, 3), (14, .aload_n 0, 1), (15, .getfield 54, 3), (18, .iload_n 2, 1), (19, .invokevirtual 276, 3), (22, .ifCond .ne 9, 3), (25, .aload_n 0, 1), (26, .iconst 1, 1), (27, .invokevirtual 133, 3), (30, .ireturn, 1), (31, .aload_n 0, 1), (32, .iload_n 1, 1), (33, .iload_n 2, 1), (34, .invokevirtual 296, 3), (37, .ifCond .eq 17, 3), (40, .aload_n 0, 1), (41, .aload_n 0, 1), (42, .getfield 68, 3), (45, .getfield 302, 3), (48, .invokevirtual 178, 3), (51, .goto 9, 3), (54, .aload_n 0, 1), (55, .bipush 6, 2), (57, .invokevirtual 133, 3), (60, .ireturn, 1)], 3, [(54, 0, 11, 10), (68, 0, 11, 14), (133, 5, 187, 1), (178, 5, 186, 1), (193, 1, 3, 6), (248, 6, 3, 1), (276, 6, 34, 1), (296, 5, 195, 2), (302, 1, 6, 4)], [], (Option.some Jvm.ClassFile.FieldType.int), 11)
def gk_m158 : rk_M2 := ([(0, .aload_n 0, 1), (1, .getfield 54, 3), (4, .getfield 193, 3), (7, .iload_n 1, 1), (8, .invokevirtual 248, 3), (11, .ifCond .eq 14, 3), (14, .aload_n 0, 1), (15, .getfield 54, 3), (18, .iload_n 2, 1), (19, .invokevirtual 276, 3), (22, .ifCond .ne 9, 3), (25, .aload_n 0, 1), (26, .iconst 1, 1), (27, .invokevirtual 133, 3), (30, .ireturn, 1), (31, .aload_n 0, 1), (32, .iload_n 1, 1), (33, .iload_n 2, 1), (34, .invokevirtual 296, 3), (37, .ifCond .eq 14, 3), (40, .aload_n 0, 1), (41, .getfield 68, 3), (44, .iload_n 3, 1), (45, .invokevirtual 335, 3), (48, .ifCond .ne 10, 3), (51, .aload_n 0, 1), (52, .bipush 6, 2), (54, .invokevirtual 133, 3), (57, .ireturn, 1), (58, .aload_n 0, 1), (59, .aload_n 0, 1), (60, .getfield 68, 3), (63, .getfield 299, 3), (66, .iload_n 3, 1), (67, .iaload, 1), (68, .invokevirtual 178, 3), (71, .ireturn, 1)], 4, [(54, 0, 11, 10), (68, 0, 11, 14), (133, 5, 187, 1), (178, 5, 186, 1), (193, 1, 3, 6), (248, 6, 3, 1), (276, 6, 34, 1), (296, 5, 195, 2), (299, 1, 6, 0), (335, 6, 80, 1)], [], (Option.some Jvm.ClassFile.FieldType.int), 11)
def gk_m159 : rk_M2 := ([(0, .aload_n 0, 1), (1, .iload_n 1, 1), (2, .iload_n 2, 1), (3, .invokevirtual 336, 3), (6, .ifCond .ne 9, 3), (9, .aload_n 0, 1), (10, .iconst 1, 1), (11, .invokevirtual 133, 3), (14, .ireturn, 1), (15, .aload_n 0, 1), (16, .getfield 68, 3), (19, .aload_n 0, 1), (20, .getfield 54, 3), (23, .iload_n 1, 1), (24, .iload_n 2, 1), (25, .invokevirtual 339, 3), (28, .ifCond .eq 17, 3), (31, .aload_n 0, 1), (32, .aload_n 0, 1), (33, .getfield 68, 3), (36, .getfield 343, 3), (39, .invokevirtual 178, 3), (42, .goto 9, 3), (45, .aload_n 0, 1), (46, .bipush 6, 2), (48, .invokevirtual 133, 3), (51, .ireturn, 1)], 3, [(54, 0, 11, 10), (68, 0, 11, 14), (133, 5, 187, 1), (178, 5, 186, 1), (336, 5, 196, 2), (339, 6, 83, 3), (343, 1, 6, 5)], [], (Option.some Jvm.ClassFile.FieldType.int), 11)
def gk_m160 : rk_M2 := ([(0, .aload_n 0, 1), (1, .iload_n 1, 1), (2, .iload_n 2, 1), (3, .invokevirtual 336, 3), (6, .ifCond .ne 9, 3), (9, .aload_n 0, 1), (10, .iconst 1, 1), (11, .invokevirtual 133, 3), (14, .ireturn, 1), (15, .aload_n 0, 1), (16, .getfield 68, 3), (19, .aload_n 0, 1), (20, .getfield 54, 3), (23, .iload_n 1, 1), (24, .iload_n 2, 1), (25, .invokevirtual 339, 3), (28, .ifCond .eq 17, 3), (31, .aload_n 0, 1), (32, .aload_n 0, 1), (33, .getfield 68, 3), (36, .getfield 302, 3), (39, .invokevirtual 178, 3), (42, .goto 9, 3), (45, .aload_n 0, 1), (46, .bipush 6, 2), (48, .invokevirtual 133, 3), (51, .ireturn, 1)], 3, [(54, 0, 11, 10), (68, 0, 11, 14), (133, 5, 187, 1), (178, 5, 186, 1), (302, 1, 6, 4), (336, 5, 196, 2), (339, 6, 83, 3)], [], (Option.some Jvm.ClassFile.FieldType.int), 11)
def gk_m161 : rk_M2 := ([(0, .aload_n 0, 1), (1, .iload_n 1, 1), (2, .iload_n 2, 1), (3, .invokevirtual 336, 3), (6, .ifCond .ne 9, 3), (9, .aload_n 0, 1), (10, .iconst 1, 1), (11, .invokevirtual 133, 3), (14, .ireturn, 1), (15, .aload_n 0, 1), (16, .getfield 68, 3), (19, .aload_n 0, 1), (20, .getfield 54, 3), (23, .iload_n 1, 1), (24, .iload_n 2, 1), (25, .invokevirtual 339, 3), (28, .ifCond .eq 14, 3), (31, .aload_n 0, 1), (32, .getfield 68, 3), (35, .iload_n 3, 1), (36, .invokevirtual 335, 3), (39, .ifCond .ne 10, 3), (42, .aload_n 0, 1), (43, .bipush 6, 2), (45, .invokevirtual 133, 3), (48, .ireturn, 1), (49, .aload_n 0, 1), (50, .aload_n 0, 1), (51, .getfield 68, 3), (54, .getfield 299, 3), (57, .iload_n 3, 1), (58, .iaload, 1), (59, .invokevirtual 178, 3), (62, .ireturn, 1)], 4, [(54, 0, 11, 10), (68, 0, 11, 14), (133, 5, 187, 1), (178, 5, 186, 1), (299, 1, 6, 0), (335, 6, 80, 1), (336, 5, 196, 2), (339, 6, 83, 3)], [], (Option.some Jvm.ClassFile.FieldType.int), 11)
def gk_m162 : rk_M2 := ([(0, .aload_n 0, 1), (1, .getfield 54, 3), (4, .getfield 193, 3), (7, .iload_n 1, 1), (8, .invokevirtual 248, 3), (11, .ifCond .ne 9, 3), (14, .aload_n 0, 1), (15, .iconst 1, 1), (16, .invokevirtual 133, 3), (19, .ireturn, 1), (20, .aload_n 0, 1), (21, .aload_n 0, 1), (22, .getfield 54, 3), (25, .aload_n 0, 1), (26, .getfield 54, 3), (29, .getfield 193, 3), (32, .getfield 254, 3), (35, .iload_n 1, 1), (36, .iaload, 1), (37, .aload_n 0, 1), (38, .getfield 54, 3), (41, .iload_n 1, 1), (42, .invokevirtual 329, 3), (45, .invokevirtual 346, 3), (48, .invokevirtual 178, 3), (51, .ireturn, 1)], 2, [(54, 0, 11, 10), (133, 5, 187, 1), (178, 5, 186, 1), (193, 1, 3, 6), (248, 6, 3, 1), (254, 1, 0, 2), (329, 6, 43, 1), (346, 6, 47, 2)], [], (Option.some Jvm.ClassFile.FieldType.int), 11)
def gk_m163 : rk_M2 := ([(0, .aload_n 0, 1), (1, .iload_n 1, 1), (2, .iload_n 2, 1), (3, .invokevirtual 336, 3), (6, .ifCond .ne 9, 3), (9, .aload_n 0, 1), (10, .iconst 1, 1), (11, .invokevirtual 133, 3), (14, .ireturn, 1), (15, .aload_n 0, 1), (16, .getfield 68, 3), (19, .aload_n 0, 1), (20, .getfield 54, 3), (23, .iload_n 1, 1), (24, .iload_n 2, 1), (25, .invokevirtual 349, 3), (28, .istore_n 3, 1), (29, .iload_n 3, 1), (30, .ifCond .ge 12, 3), (33, .aload_n 0, 1), (34, .bipush 6, 2), (36, .invokevirtual 133, 3), (39, .goto 11, 3), (42, .aload_n 0, 1), (43, .iload_n 3, 1), (44, .invokestatic 321, 3), (47, .invokevirtual 178, 3), (50, .ireturn, 1)], 4, [(54, 0, 11, 10), (68, 0, 11, 14), (133, 5, 187, 1), (178, 5, 186, 1), (321, 7, 372, 1), (336, 5, 196, 2), (349, 6, 85, 3)], [], (Option.some Jvm.ClassFile.FieldType.int), 11)
def gk_m164 : rk_M2 := ([(0, .aload_n 0, 1), (1, .iload_n 1, 1), (2, .iload_n 2, 1), (3, .invokevirtual 336, 3), (6, .ifCond .ne 9, 3), (9, .aload_n 0, 1), (10, .iconst 1, 1), (11, .invokevirtual 133, 3), (14, .ireturn, 1), (15, .aload_n 0, 1), (16, .getfield 68, 3), (19, .aload_n 0, 1), (20, .getfield 54, 3), (23, .iload_n 1, 1), (24, .iload_n 2, 1), (25, .invokevirtual 349, 3), (28, .istore_n 3, 1), (29, .iload_n 3, 1), (30, .ifCond .ge 12, 3), (33, .aload_n 0, 1), (34, .bipush 6, 2), (36, .invokevirtual 133, 3), (39, .goto 8, 3), (42, .aload_n 0, 1), (43, .iload_n 3, 1), (44, .invokevirtual 178, 3), (47, .ireturn, 1)], 4, [(54, 0, 11, 10), (68, 0, 11, 14), (133, 5, 187, 1), (178, 5, 186, 1), (336, 5, 196, 2), (349, 6, 85, 3)], [], (Option.some Jvm.ClassFile.FieldType.int), 11)
def gk_m165 : rk_M2 := ([(0, .aload_n 0, 1), (1, .getfield 54, 3), (4, .getfield 193, 3), (7, .iload_n 1, 1), (8, .invokevirtual 248, 3), (11, .ifCond .ne 9, 3), (14, .aload_n 0, 1), (15, .iconst 1, 1), (16, .invokevirtual 133, 3), (19, .ireturn, 1), (20, .aload_n 0, 1), (21, .getfield 54, 3), (24, .iload_n 1, 1), (25, .invokevirtual 353, 3), (28, .istore_n 2, 1), (29, .iload_n 2, 1), (30, .ifCond .ge 12, 3), (33, .aload_n 0, 1), (34, .bipush 6, 2), (36, .invokevirtual 133, 3), (39, .goto 8, 3), (42, .aload_n 0, 1), (43, .iload_n 2, 1), (44, .invokevirtual 178, 3), (47, .ireturn, 1)], 3, [(54, 0, 11, 10), (133, 5, 187, 1), (178, 5, 186, 1), (193, 1, 3, 6), (248, 6, 3, 1), (353, 6, 60, 1)], [], (Option.some Jvm.ClassFile.FieldType.int), 11)
def gk_m166 : rk_M2 := ([(0, .aload_n 0, 1), (1, .getfield 54, 3), (4, .invokevirtual 356, 3), (7, .istore_n 1, 1), (8, .iload_n 1, 1), (9, .ifCond .ge 12, 3), (12, .aload_n 0, 1), (13, .bipush 6, 2), (15, .invokevirtual 133, 3), (18, .goto 8, 3), (21, .aload_n 0, 1), (22, .iload_n 1, 1), (23, .invokevirtual 178, 3), (26, .ireturn, 1)], 2, [(54, 0, 11, 10), (133, 5, 187, 1), (178, 5, 186, 1), (356, 6, 61, 0)], [], (Option.some Jvm.ClassFile.FieldType.int), 11)
def gk_m167 : rk_M2 := ([(0, .aload_n 0, 1), (1, .getfield 54, 3), (4, .iload_n 1, 1), (5, .invokevirtual 276, 3), (8, .ifCond .ne 9, 3), (11, .aload_n 0, 1), (12, .iconst 1, 1), (13, .invokevirtual 133, 3), (16, .ireturn, 1), (17, .aload_n 0, 1), (18, .aload_n 0, 1), (19, .getfield 54, 3), (22, .iload_n 1, 1), (23, .invokevirtual 359, 3), (26, .invokevirtual 178, 3), (29, .ireturn, 1)], 2, [(54, 0, 11, 10), (133, 5, 187, 1), (178, 5, 186, 1), (276, 6, 34, 1), (359, 6, 44, 1)], [], (Option.some Jvm.ClassFile.FieldType.int), 11)
def gk_m168 : rk_M2 := ([(0, .aload_n 0, 1), (1, .getfield 54, 3), (4, .iload_n 1, 1), (5, .invokevirtual 230, 3), (8, .ifCond .eq 14, 3), (11, .iload_n 2, 1), (12, .ifCond .lt 10, 3), (15, .iload_n 2, 1), (16, .sipush 999, 3), (19, .if_icmp .le 9, 3), (22, .aload_n 0, 1), (23, .iconst 1, 1), (24, .invokevirtual 133, 3), (27, .ireturn, 1), (28, .aload_n 0, 1), (29, .getfield 54, 3), (32, .iload_n 1, 1), (33, .iload_n 2, 1), (34, .invokevirtual 362, 3), (37, .istore_n 3, 1), (38, .iload_n 3, 1), (39, .ifCond .ge 12, 3), (42, .aload_n 0, 1), (43, .bipush 6, 2), (45, .invokevirtual 133, 3), (48, .goto 8, 3), (51, .aload_n 0, 1), (52, .iload_n 3, 1), (53, .invokevirtual 178, 3), (56, .ireturn, 1)], 4, [(54, 0, 11, 10), (133, 5, 187, 1), (178, 5, 186, 1), (230, 6, 36, 1), (362, 6, 62, 2)], [], (Option.some Jvm.ClassFile.FieldType.int), 11)
def gk_m169 : rk_M2 := ([(0, .aload_n 0, 1), (1, .getfield 54, 3), (4, .getfield 193, 3), (7, .iload_n 1, 1), (8, .invokevirtual 365, 3), (11, .ifCond .eq 29, 3), (14, .iload_n 1, 1), (15, .invokestatic 321, 3), (18, .iconst 4, 1), (19, .if_icmp .gt 21, 3), (22, .iload_n 2, 1), (23, .invokestatic 111, 3), (26, .ifCond .eq 14, 3), (29, .iload_n 3, 1), (30, .iconst 1, 1), (31, .if_icmp .lt 9, 3), (34, .iload_n 3, 1), (35, .bipush 12, 2), (37, .if_icmp .le 9, 3), (40, .aload_n 0, 1), (41, .iconst 1, 1), (42, .invokevirtual 133, 3), (45, .ireturn, 1), (46, .aload_n 0, 1), (47, .iload_n 2, 1), (48, .iload_n 3, 1), (49, .invokevirtual 282, 3), (52, .istore 4, 2), (54, .iload 4, 2), (56, .ifCond .eq 10, 3), (59, .aload_n 0, 1), (60, .iload 4, 2), (62, .invokevirtual 133, 3), (65, .ireturn, 1), (66, .aload_n 0, 1), (67, .getfield 54, 3), (70, .iload_n 1, 1), (71, .invokevirtual 368, 3), (74, .istore 5, 2), (76, .iload 5, 2), (78, .ifCond .lt 20, 3), (81, .aload_n 0, 1), (82, .getfield 54, 3), (85, .iload 5, 2), (87, .aload_n 0, 1), (88, .getfield 25, 3), (91, .iload_n 3, 1), (92, .invokevirtual 288, 3), (95, .ifCond .ne 10, 3), (98, .aload_n 0, 1), (99, .bipush 7, 2), (101, .invokevirtual 133, 3), (104, .ireturn, 1), (105, .aload_n 0, 1), (106, .getfield 75, 3), (109, .aload_n 0, 1), (110, .getfield 54, 3), (113, .iload_n 1, 1), (114, .aload_n 0, 1), (115, .getfield 25, 3), (118, .iload_n 3, 1), (119, .invokevirtual 371, 3), (122, .istore 6, 2), (124, .iload 6, 2), (126, .ifCond .ge 12, 3), (129, .aload_n 0, 1), (130, .bipush 6, 2), (132, .invokevirtual 133, 3), (135, .goto 9, 3), (138, .aload_n 0, 1), (139, .iload 6, 2), (141, .invokevirtual 178, 3), (144, .ireturn, 1)], 7, [(25, 0, 11, 6), (54, 0, 11, 10), (75, 0, 11, 15), (111, 7, 191, 1), (133, 5, 187, 1), (178, 5, 186, 1), (193, 1, 3, 6), (282, 5, 194, 2), (288, 6, 45, 3), (321, 7, 372, 1), (365, 6, 4, 1), (368, 6, 48, 1), (371, 6, 92, 4)], [], (Option.some Jvm.ClassFile.FieldType.int), 11)
def gk_m170 : rk_M2 := ([(0, .iload_n 2, 1), (1, .ifCond .lt 8, 3), (4, .iload_n 2, 1), (5, .iconst 1, 1), (6, .if_icmp .le 9, 3), (9, .aload_n 0, 1), (10, .iconst 1, 1), (11, .invokevirtual 133, 3), (14, .ireturn, 1), (15, .iload_n 1, 1), (16, .ifCond .lt 14, 3), (19, .iload_n 1, 1), (20, .aload_n 0, 1), (21, .getfield 75, 3), (24, .getfield 375, 3), (27, .if_icmp .lt 10, 3), (30, .aload_n 0, 1), (31, .bipush 6, 2), (33, .invokevirtual 133, 3), (36, .ireturn, 1), (37, .aload_n 0, 1), (38, .iload_n 2, 1), (39, .ifCond .ne 15, 3), (42, .aload_n 0, 1), (43, .getfield 75, 3), (46, .getfield 376, 3), (49, .iload_n 1, 1), (50, .iaload, 1), (51, .goto 12, 3), (54, .aload_n 0, 1), (55, .getfield 75, 3), (58, .getfield 379, 3), (61, .iload_n 1, 1), (62, .iaload, 1), (63, .invokevirtual 178, 3), (66, .ireturn, 1)], 3, [(75, 0, 11, 15), (133, 5, 187, 1), (178, 5, 186, 1), (375, 1, 7, 7), (376, 1, 7, 4), (379, 1, 7, 5)], [], (Option.some Jvm.ClassFile.FieldType.int), 11)
def gk_m171 : rk_M2 := ([(0, .aload_n 0, 1), (1, .getfield 58, 3), (4, .aload_n 0, 1), (5, .getfield 54, 3), (8, .invokevirtual 163, 3), (11, .iconst 1, 1), (12, .istore_n 1, 1), (13, .iload_n 1, 1), (14, .bipush 20, 2), (16, .if_icmp .gt 38, 3), (19, .aload_n 0, 1), (20, .getfield 58, 3), (23, .getfield 193, 3), (26, .getfield 227, 3), (29, .ifCond .eq 25, 3), (32, .aload_n 0, 1), (33, .getfield 58, 3), (36, .invokevirtual 382, 3), (39, .ifCond .eq 9, 3), (42, .aload_n 0, 1), (43, .iload_n 1, 1), (44, .invokevirtual 178, 3), (47, .ireturn, 1), (48, .iinc 1 1, 3), (51, .goto (-38), 3), (54, .aload_n 0, 1), (55, .iconst 0, 1), (56, .invokevirtual 178, 3), (59, .ireturn, 1)], 2, [(54, 0, 11, 10), (58, 0, 11, 11), (163, 6, 31, 1), (178, 5, 186, 1), (193, 1, 3, 6), (227, 1, 0, 9), (382, 6, 50, 0)], [], (Option.some Jvm.ClassFile.FieldType.int), 11)
def gk_m172 : rk_M2 := ([(0, .aload_n 0, 1), (1, .getfield 54, 3), (4, .getfield 193, 3), (7, .iload_n 1, 1), (8, .invokevirtual 365, 3), (11, .ifCond .ne 9, 3), (14, .aload_n 0, 1), (15, .iconst 1, 1), (16, .invokevirtual 133, 3), (19, .ireturn, 1), (20, .aload_n 0, 1), (21, .getfield 54, 3), (24, .getfield 193, 3), (27, .iload_n 1, 1), (28, .invokevirtual 385, 3), (31, .istore_n 2, 1), (32, .aload_n 0, 1), (33, .aload_n 0, 1), (34, .getfield 54, 3), (37, .getfield 193, 3), (40, .iload_n 1, 1), (41, .invokevirtual 388, 3), (44, .iconst 2, 1), (45, .aload_n 0, 1), (46, .getfield 54, 3), (49, .getfield 193, 3), (52, .iload_n 2, 1), (53, .invokevirtual 388, 3), (56, .imul, 1), (57, .isub, 1), (58, .invokestatic 391, 3), (61, .invokevirtual 178, 3), (64, .ireturn, 1)], 3, [(54, 0, 11, 10), (133, 5, 187, 1), (178, 5, 186, 1), (193, 1, 3, 6), (365, 6, 4, 1), (385, 6, 13, 1), (388, 6, 7, 1), (391, 17, 0, 0)], [], (Option.some Jvm.ClassFile.FieldType.int), 11)
def gk_m173 : rk_M2 := ([(0, .aload_n 0, 1), (1, .getfield 54, 3), (4, .getfield 193, 3), (7, .iload_n 1, 1), (8, .invokevirtual 365, 3), (11, .ifCond .ne 9, 3), (14, .aload_n 0, 1), (15, .iconst 1, 1), (16, .invokevirtual 133, 3), (19, .ireturn, 1), (20, .aload_n 0, 1), (21, .aload_n 0, 1), (22, .getfield 54, 3), (25, .getfield 193, 3), (28, .iload_n 1, 1), (29, .invokevirtual 385, 3), (32, .invokevirtual 178, 3), (35, .ireturn, 1)], 2, [(54, 0, 11, 10), (133, 5, 187, 1), (178, 5, 186, 1), (193, 1, 3, 6), (365, 6, 4, 1), (385, 6, 13, 1)], [], (Option.some Jvm.ClassFile.FieldType.int), 11)
def gk_m174 : rk_M2 := ([(0, .aload_n 0, 1), (1, .getfield 54, 3), (4, .getfield 193, 3), (7, .iload_n 1, 1), (8, .invokevirtual 365, 3), (11, .ifCond .eq 15, 3), (14, .iload_n 2, 1), (15, .iconst 1, 1), (16, .if_icmp .lt 10, 3), (19, .iload_n 2, 1), (20, .sipush 999, 3), (23, .if_icmp .le 9, 3), (26, .aload_n 0, 1), (27, .iconst 1, 1), (28, .invokevirtual 133, 3), (31, .ireturn, 1), (32, .aload_n 0, 1), (33, .getfield 54, 3), (36, .getfield 193, 3), (39, .iload_n 1, 1), (40, .iload_n 2, 1), (41, .aload_n 0, 1), (42, .getfield 68, 3), (45, .getfield 396, 3), (48, .invokevirtual 399, 3), (51, .istore_n 3, 1), (52, .iload_n 3, 1), (53, .ifCond .ge 12, 3), (56, .aload_n 0, 1), (57, .bipush 6, 2), (59, .invokevirtual 133, 3), (62, .goto 8, 3), (65, .aload_n 0, 1), (66, .iload_n 3, 1), (67, .invokevirtual 178, 3), (70, .ireturn, 1)], 4, [(54, 0, 11, 10), (68, 0, 11, 14), (133, 5, 187, 1), (178, 5, 186, 1), (193, 1, 3, 6), (365, 6, 4, 1), (396, 1, 6, 3), (399, 6, 14, 3)], [], (Option.some Jvm.ClassFile.FieldType.int), 11)
def gk_m175 : rk_M2 := ([(0, .iload_n 1, 1), (1, .iload_n 2, 1), (2, .invokestatic 403, 3), (5, .ifCond .ne 9, 3), (8, .aload_n 0, 1), (9, .iconst 1, 1), (10, .invokevirtual 133, 3), (13, .ireturn, 1), (14, .aload_n 0, 1), (15, .iload_n 1, 1), (16, .iload_n 2, 1), (17, .invokestatic 406, 3), (20, .invokevirtual 178, 3), (23, .ireturn, 1)], 3, [(133, 5, 187, 1), (178, 5, 186, 1), (403, 7, 197, 2), (406, 7, 198, 2)], [], (Option.some Jvm.ClassFile.FieldType.int), 11)
def gk_m176 : rk_M2 := ([(0, .iload_n 1, 1), (1, .iload_n 2, 1), (2, .invokestatic 403, 3), (5, .ifCond .ne 9, 3), (8, .aload_n 0, 1), (9, .iconst 1, 1), (10, .invokevirtual 133, 3), (13, .ireturn, 1), (14, .iload_n 1, 1), (15, .ifCond .ne 10, 3), (18, .aload_n 0, 1), (19, .bipush 6, 2), (21, .invokevirtual 133, 3), (24, .ireturn, 1), (25, .iload_n 1, 1), (26, .iload_n 2, 1), (27, .invokestatic 406, 3), (30, .iconst 1, 1), (31, .isub, 1), (32, .iload_n 2, 1), (33, .invokestatic 409, 3), (36, .lstore_n 3, 1), (37, .aload_n 0, 1), (38, .lconst 1, 1), (39, .iload_n 1, 1), (40, .i2l, 1), (41, .lload_n 3, 1), (42, .lsub, 1), (43, .invokestatic 413, 3), (46, .l2i, 1), (47, .invokevirtual 178, 3), (50, .ireturn, 1)], 5, [(133, 5, 187, 1), (178, 5, 186, 1), (403, 7, 197, 2), (406, 7, 198, 2), (409, 7, 199, 2), (413, 16, 0, 0)], [], (Option.some Jvm.ClassFile.FieldType.int), 11)
def gk_m177 : rk_M2 := ([(0, .iload_n 1, 1), (1, .ifCond .lt 28, 3), (4, .iload_n 1, 1), (5, .iconst 1, 1), (6, .aload_n 0, 1), (7, .getfield 54, 3), (10, .getfield 175, 3), (13, .ishl, 1), (14, .if_icmp .ge 15, 3), (17, .iload_n 1, 1), (18, .aload_n 0, 1), (19, .getfield 54, 3), (22, .getfield 212, 3), (25, .iand, 1), (26, .ifCond .eq 9, 3), (29, .aload_n 0, 1), (30, .iconst 1, 1), (31, .invokevirtual 133, 3), (34, .ireturn, 1), (35, .aload_n 0, 1), (36, .aload_n 0, 1), (37, .getfield 68, 3), (40, .aload_n 0, 1), (41, .getfield 54, 3), (44, .iload_n 1, 1), (45, .invokevirtual 417, 3), (48, .invokevirtual 178, 3), (51, .ireturn, 1)], 2, [(54, 0, 11, 10), (68, 0, 11, 14), (133, 5, 187, 1), (175, 1, 3, 8), (178, 5, 186, 1), (212, 1, 3, 9), (417, 6, 86, 2)], [], (Option.some Jvm.ClassFile.FieldType.int), 11)
def gk_m178 : rk_M2 := ([(0, .aload_n 0, 1), (1, .getfield 54, 3), (4, .iload_n 1, 1), (5, .invokevirtual 230, 3), (8, .ifCond .eq 25, 3), (11, .iload_n 2, 1), (12, .ifCond .lt 21, 3), (15, .iload_n 2, 1), (16, .sipush 999, 3), (19, .if_icmp .gt 14, 3), (22, .iload_n 3, 1), (23, .iload 4, 2), (25, .iload 5, 2), (27, .invokestatic 421, 3), (30, .ifCond .ne 9, 3), (33, .aload_n 0, 1), (34, .iconst 1, 1), (35, .invokevirtual 115, 3), (38, .ireturn, 1), (39, .aload_n 0, 1), (40, .getfield 82, 3), (43, .aload_n 0, 1), (44, .getfield 54, 3), (47, .getfield 215, 3), (50, .getfield 233, 3), (53, .iload_n 1, 1), (54, .iaload, 1), (55, .iload_n 3, 1), (56, .iload 4, 2), (58, .iload 5, 2), (60, .invokevirtual 425, 3), (63, .aload_n 0, 1), (64, .aload_n 0, 1), (65, .getfield 82, 3), (68, .iload_n 2, 1), (69, .invokevirtual 429, 3), (72, .iload_n 3, 1), (73, .invokestatic 433, 3), (76, .invokevirtual 436, 3), (79, .aload_n 0, 1), (80, .invokevirtual 121, 3), (83, .ireturn, 1)], 6, [(54, 0, 11, 10), (82, 0, 11, 16), (115, 5, 189, 1), (121, 5, 188, 0), (215, 1, 3, 5), (230, 6, 36, 1), (233, 1, 2, 0), (421, 8, 17, 3), (425, 6, 19, 4), (429, 6, 21, 1), (433, 8, 18, 1), (436, 5, 190, 2)], [], (Option.some Jvm.ClassFile.FieldType.boolean), 11)
def gk_m179 : rk_M2 := ([(0, .aload_n 0, 1), (1, .getfield 54, 3), (4, .iload_n 1, 1), (5, .invokevirtual 230, 3), (8, .ifCond .eq 25, 3), (11, .iload_n 2, 1), (12, .ifCond .lt 21, 3), (15, .iload_n 2, 1), (16, .sipush 999, 3), (19, .if_icmp .gt 14, 3), (22, .iload_n 3, 1), (23, .iload 4, 2), (25, .iload 5, 2), (27, .invokestatic 421, 3), (30, .ifCond .ne 9, 3), (33, .aload_n 0, 1), (34, .iconst 1, 1), (35, .invokevirtual 133, 3), (38, .ireturn, 1), (39, .iconst 0, 1), (40, .istore 6, 2), (42, .ldc2_w 440, 3), (45, .lstore 7, 2), (47, .iconst 0, 1), (48, .istore 9, 2), (50, .iload 9, 2), (52, .iload_n 3, 1), (53, .if_icmp .gt 69, 3), (56, .aload_n 0, 1), (57, .getfield 82, 3), (60, .aload_n 0, 1), (61, .getfield 54, 3), (64, .getfield 215, 3), (67, .getfield 233, 3), (70, .iload_n 1, 1), (71, .iaload, 1), (72, .iload 9, 2), (74, .iload 4, 2), (76, .iload 5, 2), (78, .invokevirtual 425, 3), (81, .aload_n 0, 1), (82, .getfield 82, 3), (85, .iload_n 2, 1), (86, .invokevirtual 429, 3), (89, .bipush 10, 2), (91, .iload 9, 2), (93, .isub, 1), (94, .invokestatic 433, 3), (97, .lmul, 1), (98, .lstore 10, 2), (100, .lload 10, 2), (102, .lload 7, 2), (104, .lcmp, 1), (105, .ifCond .le 11, 3), (108, .lload 10, 2), (110, .lstore 7, 2), (112, .iload 9, 2), (114, .istore 6, 2), (116, .iinc 9 1, 3), (119, .goto (-69), 3), (122, .aload_n 0, 1), (123, .iload 6, 2), (125, .invokevirtual 178, 3), (128, .ireturn, 1)], 12, [(54, 0, 11, 10), (82, 0, 11, 16), (133, 5, 187, 1), (178, 5, 186, 1), (215, 1, 3, 5), (230, 6, 36, 1), (233, 1, 2, 0), (421, 8, 17, 3), (425, 6, 19, 4), (429, 6, 21, 1), (433, 8, 18, 1)], [(440, .long (-1))], (Option.some Jvm.ClassFile.FieldType.int), 11)
def gk_m180 : rk_M2 := ([(0, .aload_n 0, 1), (1, .getfield 54, 3), (4, .iload_n 1, 1), (5, .invokevirtual 230, 3), (8, .ifCond .eq 13, 3), (11, .iload_n 2, 1), (12, .iload_n 3, 1), (13, .iload 4, 2), (15, .invokestatic 421, 3), (18, .ifCond .ne 9, 3), (21, .aload_n 0, 1), (22, .iconst 1, 1), (23, .invokevirtual 115, 3), (26, .ireturn, 1), (27, .aload_n 0, 1), (28, .getfield 82, 3), (31, .aload_n 0, 1), (32, .getfield 54, 3), (35, .getfield 215, 3), (38, .getfield 233, 3), (41, .iload_n 1, 1), (42, .iaload, 1), (43, .iload_n 2, 1), (44, .iload_n 3, 1), (45, .iload 4, 2), (47, .invokevirtual 425, 3), (50, .aload_n 0, 1), (51, .aload_n 0, 1), (52, .getfield 82, 3), (55, .invokevirtual 442, 3), (58, .iload_n 2, 1), (59, .invokestatic 433, 3), (62, .invokevirtual 436, 3), (65, .aload_n 0, 1), (66, .invokevirtual 121, 3), (69, .ireturn, 1)], 5, [(54, 0, 11, 10), (82, 0, 11, 16), (115, 5, 189, 1), (121, 5, 188, 0), (215, 1, 3, 5), (230, 6, 36, 1), (233, 1, 2, 0), (421, 8, 17, 3), (425, 6, 19, 4), (433, 8, 18, 1), (436, 5, 190, 2), (442, 6, 22, 0)], [], (Option.some Jvm.ClassFile.FieldType.boolean), 11)
def gk_m181 : rk_M2 := ([(0, .iload_n 1, 1), (1, .ifCond .lt 10, 3), (4, .iload_n 1, 1), (5, .sipush 9999, 3), (8, .if_icmp .le 9, 3), (11, .aload_n 0, 1), (12, .iconst 1, 1), (13, .invokevirtual 133, 3), (16, .ireturn, 1), (17, .aload_n 0, 1), (18, .getfield 54, 3), (21, .getfield 166, 3), (24, .getfield 446, 3), (27, .ifCond .ne 10, 3), (30, .aload_n 0, 1), (31, .bipush 6, 2), (33, .invokevirtual 133, 3), (36, .ireturn, 1), (37, .aload_n 0, 1), (38, .getfield 91, 3), (41, .aload_n 0, 1), (42, .getfield 54, 3), (45, .aload_n 0, 1), (46, .getfield 54, 3), (49, .getfield 166, 3), (52, .iload_n 1, 1), (53, .invokevirtual 450, 3), (56, .istore_n 2, 1), (57, .aload_n 0, 1), (58, .getfield 95, 3), (61, .iconst 0, 1), (62, .aload_n 0, 1), (63, .getfield 91, 3), (66, .getfield 454, 3), (69, .iastore, 1), (70, .aload_n 0, 1), (71, .getfield 95, 3), (74, .iconst 1, 1), (75, .aload_n 0, 1), (76, .getfield 91, 3), (79, .getfield 457, 3), (82, .iastore, 1), (83, .aload_n 0, 1), (84, .getfield 95, 3), (87, .iconst 2, 1), (88, .aload_n 0, 1), (89, .getfield 91, 3), (92, .getfield 460, 3), (95, .iastore, 1), (96, .aload_n 0, 1), (97, .getfield 95, 3), (100, .iconst 3, 1), (101, .aload_n 0, 1), (102, .getfield 91, 3), (105, .getfield 463, 3), (108, .iastore, 1), (109, .aload_n 0, 1), (110, .getfield 95, 3), (113, .iconst 4, 1), (114, .aload_n 0, 1), (115, .getfield 91, 3), (118, .getfield 466, 3), (121, .iastore, 1), (122, .aload_n 0, 1), (123, .iconst 1, 1), (124, .putfield 469, 3), (127, .aload_n 0, 1), (128, .iload_n 2, 1), (129, .invokevirtual 178, 3), (132, .ireturn, 1)], 3, [(54, 0, 11, 10), (91, 0, 11, 17), (95, 0, 11, 18), (133, 5, 187, 1), (166, 1, 3, 7), (178, 5, 186, 1), (446, 1, 9, 7), (450, 6, 72, 3), (454, 1, 5, 6), (457, 1, 5, 7), (460, 1, 5, 8), (463, 1, 5, 9), (466, 1, 5, 10), (469, 0, 11, 19)], [], (Option.some Jvm.ClassFile.FieldType.int), 11)
def gk_m182 : rk_M2 := ([(0, .iload_n 1, 1), (1, .ifCond .lt 8, 3), (4, .iload_n 1, 1), (5, .iconst 4, 1), (6, .if_icmp .le 9, 3), (9, .aload_n 0, 1), (10, .iconst 1, 1), (11, .invokevirtual 133, 3), (14, .ireturn, 1), (15, .aload_n 0, 1), (16, .getfield 469, 3), (19, .ifCond .eq 16, 3), (22, .aload_n 0, 1), (23, .aload_n 0, 1), (24, .getfield 95, 3), (27, .iload_n 1, 1), (28, .iaload, 1), (29, .invokevirtual 178, 3), (32, .goto 9, 3), (35, .aload_n 0, 1), (36, .bipush 6, 2), (38, .invokevirtual 133, 3), (41, .ireturn, 1)], 2, [(95, 0, 11, 18), (133, 5, 187, 1), (178, 5, 186, 1), (469, 0, 11, 19)], [], (Option.some Jvm.ClassFile.FieldType.int), 11)
def gk_m183 : rk_M2 := ([(0, .iload_n 1, 1), (1, .ifCond .lt 32, 3), (4, .iload_n 1, 1), (5, .sipush 9999, 3), (8, .if_icmp .gt 25, 3), (11, .iload_n 2, 1), (12, .iconst 1, 1), (13, .if_icmp .lt 20, 3), (16, .iload_n 2, 1), (17, .bipush 20, 2), (19, .if_icmp .gt 14, 3), (22, .iload_n 1, 1), (23, .iload_n 2, 1), (24, .iadd, 1), (25, .iconst 1, 1), (26, .isub, 1), (27, .sipush 9999, 3), (30, .if_icmp .le 9, 3), (33, .aload_n 0, 1), (34, .iconst 1, 1), (35, .invokevirtual 115, 3), (38, .ireturn, 1), (39, .aload_n 0, 1), (40, .getfield 54, 3), (43, .getfield 166, 3), (46, .getfield 446, 3), (49, .ifCond .ne 10, 3), (52, .aload_n 0, 1), (53, .bipush 6, 2), (55, .invokevirtual 115, 3), (58, .ireturn, 1), (59, .lconst 0, 1), (60, .lstore_n 3, 1), (61, .iconst 0, 1), (62, .istore 5, 2), (64, .iload 5, 2), (66, .iload_n 2, 1), (67, .if_icmp .ge 89, 3), (70, .aload_n 0, 1), (71, .getfield 58, 3), (74, .aload_n 0, 1), (75, .getfield 54, 3), (78, .invokevirtual 163, 3), (81, .aload_n 0, 1), (82, .getfield 91, 3), (85, .aload_n 0, 1), (86, .getfield 58, 3), (89, .aload_n 0, 1), (90, .getfield 54, 3), (93, .getfield 166, 3), (96, .iload_n 1, 1), (97, .iload 5, 2), (99, .iadd, 1), (100, .invokevirtual 450, 3), (103, .pop, 1), (104, .aload_n 0, 1), (105, .getfield 58, 3), (108, .getfield 193, 3), (111, .getfield 224, 3), (114, .invokestatic 321, 3), (117, .istore 6, 2), (119, .aload_n 0, 1), (120, .getfield 91, 3), (123, .getfield 472, 3), (126, .ifCond .ne 18, 3), (129, .lload_n 3, 1), (130, .iload 6, 2), (132, .i2l, 1), (133, .iload_n 2, 1), (134, .iload 5, 2), (136, .isub, 1), (137, .i2l, 1), (138, .lmul, 1), (139, .ladd, 1), (140, .lstore_n 3, 1), (141, .goto 15, 3), (144, .lload_n 3, 1), (145, .iload 6, 2), (147, .i2l, 1), (148, .ladd, 1), (149, .lstore_n 3, 1), (150, .iinc 5 1, 3), (153, .goto (-89), 3), (156, .aload_n 0, 1), (157, .lload_n 3, 1), (158, .iload_n 2, 1), (159, .i2l, 1), (160, .invokevirtual 436, 3), (163, .aload_n 0, 1), (164, .invokevirtual 121, 3), (167, .ireturn, 1)], 7, [(54, 0, 11, 10), (58, 0, 11, 11), (91, 0, 11, 17), (115, 5, 189, 1), (121, 5, 188, 0), (163, 6, 31, 1), (166, 1, 3, 7), (193, 1, 3, 6), (224, 1, 0, 8), (321, 7, 372, 1), (436, 5, 190, 2), (446, 1, 9, 7), (450, 6, 72, 3), (472, 1, 5, 5)], [], (Option.some Jvm.ClassFile.FieldType.boolean), 11)
def gk_m184 : rk_M2 := ([(0, .aload_n 0, 1), (1, .getfield 475, 3), (4, .iconst 3, 1), (5, .if_icmp .lt 9, 3), (8, .aload_n 0, 1), (9, .iconst 4, 1), (10, .invokevirtual 133, 3), (13, .ireturn, 1), (14, .aload_n 0, 1), (15, .getfield 61, 3), (18, .aload_n 0, 1), (19, .getfield 475, 3), (22, .aaload, 1), (23, .aload_n 0, 1), (24, .getfield 54, 3), (27, .invokevirtual 163, 3), (30, .aload_n 0, 1), (31, .getfield 61, 3), (34, .aload_n 0, 1), (35, .getfield 475, 3), (38, .aaload, 1), (39, .getfield 166, 3), (42, .aload_n 0, 1), (43, .getfield 54, 3), (46, .getfield 166, 3), (49, .invokevirtual 184, 3), (52, .aload_n 0, 1), (53, .dup, 1), (54, .getfield 475, 3), (57, .iconst 1, 1), (58, .iadd, 1), (59, .putfield 475, 3), (62, .aload_n 0, 1), (63, .aload_n 0, 1), (64, .getfield 475, 3), (67, .invokevirtual 178, 3), (70, .ireturn, 1)], 1, [(54, 0, 11, 10), (61, 0, 11, 12), (133, 5, 187, 1), (163, 6, 31, 1), (166, 1, 3, 7), (178, 5, 186, 1), (184, 6, 117, 1), (475, 0, 11, 13)], [], (Option.some Jvm.ClassFile.FieldType.int), 11)
def gk_m185 : rk_M2 := ([(0, .aload_n 0, 1), (1, .getfield 475, 3), (4, .iconst 1, 1), (5, .if_icmp .ge 10, 3), (8, .aload_n 0, 1), (9, .bipush 6, 2), (11, .invokevirtual 133, 3), (14, .ireturn, 1), (15, .aload_n 0, 1), (16, .dup, 1), (17, .getfield 475, 3), (20, .iconst 1, 1), (21, .isub, 1), (22, .putfield 475, 3), (25, .aload_n 0, 1), (26, .getfield 54, 3), (29, .aload_n 0, 1), (30, .getfield 61, 3), (33, .aload_n 0, 1), (34, .getfield 475, 3), (37, .aaload, 1), (38, .invokevirtual 163, 3), (41, .aload_n 0, 1), (42, .getfield 54, 3), (45, .getfield 166, 3), (48, .aload_n 0, 1), (49, .getfield 61, 3), (52, .aload_n 0, 1), (53, .getfield 475, 3), (56, .aaload, 1), (57, .getfield 166, 3), (60, .invokevirtual 184, 3), (63, .aload_n 0, 1), (64, .aload_n 0, 1), (65, .getfield 475, 3), (68, .invokevirtual 178, 3), (71, .ireturn, 1)], 1, [(54, 0, 11, 10), (61, 0, 11, 12), (133, 5, 187, 1), (163, 6, 31, 1), (166, 1, 3, 7), (178, 5, 186, 1), (184, 6, 117, 1), (475, 0, 11, 13)], [], (Option.some Jvm.ClassFile.FieldType.int), 11)
def gk_m186 : rk_M2 := ([(0, .aload_n 0, 1), (1, .iconst 0, 1), (2, .putfield 104, 3), (5, .iload_n 1, 1), (6, .ireturn, 1)], 2, [(104, 0, 11, 0)], [], (Option.some Jvm.ClassFile.FieldType.int), 11)
def gk_m187 : rk_M2 := ([(0, .aload_n 0, 1), (1, .iload_n 1, 1), (2, .putfield 104, 3), (5, .iconst (-1), 1), (6, .ireturn, 1)], 2, [(104, 0, 11, 0)], [], (Option.some Jvm.ClassFile.FieldType.int), 11)
def gk_m188 : rk_M2 := ([(0, .aload_n 0, 1), (1, .iconst 0, 1), (2, .putfield 104, 3), (5, .iconst 1, 1), (6, .ireturn, 1)], 1, [(104, 0, 11, 0)], [], (Option.some Jvm.ClassFile.FieldType.boolean), 11)
def gk_m189 : rk_M2 := ([(0, .aload_n 0, 1), (1, .iload_n 1, 1), (2, .putfield 104, 3), (5, .iconst 0, 1), (6, .ireturn, 1)], 2, [(104, 0, 11, 0)], [], (Option.some Jvm.ClassFile.FieldType.boolean), 11)
def gk_m190 : rk_M2 := ([(0, .lload_n 1, 1), (1, .lstore 5, 2), (3, .lload_n 3, 1), (4, .lstore 7, 2), (6, .iconst 0, 1), (7, .istore 9, 2), (9, .iload 9, 2), (11, .bipush 100, 2), (13, .if_icmp .ge 31, 3), (16, .lload 7, 2), (18, .lconst 0, 1), (19, .lcmp, 1), (20, .ifCond .eq 24, 3), (23, .lload 5, 2), (25, .lload 7, 2), (27, .lrem, 1), (28, .lstore 10, 2), (30, .lload 7, 2), (32, .lstore 5, 2), (34, .lload 10, 2), (36, .lstore 7, 2), (38, .iinc 9 1, 3), (41, .goto (-32), 3), (44, .aload_n 0, 1), (45, .lload 5, 2), (47, .lconst 0, 1), (48, .lcmp, 1), (49, .ifCond .ne 7, 3), (52, .lconst 0, 1), (53, .goto 7, 3), (56, .lload_n 1, 1), (57, .lload 5, 2), (59, .ldiv, 1), (60, .putfield 108, 3), (63, .aload_n 0, 1), (64, .lload 5, 2), (66, .lconst 0, 1), (67, .lcmp, 1), (68, .ifCond .ne 7, 3), (71, .lconst 1, 1), (72, .goto 7, 3), (75, .lload_n 3, 1), (76, .lload 5, 2), (78, .ldiv, 1), (79, .putfield 7, 3), (82, .return_, 1)], 12, [(7, 0, 11, 2), (108, 0, 11, 1)], [], (Option.none : Option Jvm.ClassFile.FieldType), 11)
def gk_m191 : rk_M2 := ([(0, .iload_n 0, 1), (1, .ifCond .lt 12, 3), (4, .iload_n 0, 1), (5, .iconst 4, 1), (6, .if_icmp .ge 7, 3), (9, .iconst 1, 1), (10, .goto 4, 3), (13, .iconst 0, 1), (14, .ireturn, 1)], 1, [], [], (Option.some Jvm.ClassFile.FieldType.boolean), 11)
def gk_m192 : rk_M2 := ([(0, .iload_n 1, 1), (1, .invokestatic 111, 3), (4, .ifCond .ne 5, 3), (7, .iconst 1, 1), (8, .ireturn, 1), (9, .aload_n 0, 1), (10, .getfield 22, 3), (13, .iload_n 1, 1), (14, .iaload, 1), (15, .ifCond .ge 5, 3), (18, .iconst 2, 1), (19, .ireturn, 1), (20, .iload_n 2, 1), (21, .ifCond .lt 13, 3), (24, .iload_n 2, 1), (25, .aload_n 0, 1), (26, .getfield 22, 3), (29, .iload_n 1, 1), (30, .iaload, 1), (31, .if_icmp .lt 7, 3), (34, .iconst 3, 1), (35, .goto 4, 3), (38, .iconst 0, 1), (39, .ireturn, 1)], 3, [(22, 0, 11, 5), (111, 7, 191, 1)], [], (Option.some Jvm.ClassFile.FieldType.int), 11)
def gk_m193 : rk_M2 := ([(0, .iload_n 0, 1), (1, .tableswitch 41 0 2 #[27, 32, 37], 27), (28, .lload_n 1, 1), (29, .l2i, 1), (30, .i2b, 1), (31, .i2l, 1), (32, .lreturn, 1), (33, .lload_n 1, 1), (34, .l2i, 1), (35, .i2s, 1), (36, .i2l, 1), (37, .lreturn, 1), (38, .lload_n 1, 1), (39, .l2i, 1), (40, .i2l, 1), (41, .lreturn, 1), (42, .lload_n 1, 1), (43, .lreturn, 1)], 3, [], [], (Option.some Jvm.ClassFile.FieldType.long), 11)
def gk_m194 : rk_M2 := ([(0, .aload_n 0, 1), (1, .getfield 22, 3), (4, .iload_n 1, 1), (5, .iaload, 1), (6, .ifCond .ge 5, 3), (9, .iconst 2, 1), (10, .ireturn, 1), (11, .iload_n 2, 1), (12, .aload_n 0, 1), (13, .getfield 22, 3), (16, .iload_n 1, 1), (17, .iaload, 1), (18, .if_icmp .gt 9, 3), (21, .iload_n 2, 1), (22, .bipush 20, 2), (24, .if_icmp .le 5, 3), (27, .iconst 3, 1), (28, .ireturn, 1), (29, .iconst 0, 1), (30, .istore_n 3, 1), (31, .iload_n 3, 1), (32, .iload_n 2, 1), (33, .if_icmp .ge 51, 3), (36, .aload_n 0, 1), (37, .getfield 15, 3), (40, .iload_n 1, 1), (41, .aaload, 1), (42, .iload_n 3, 1), (43, .laload, 1), (44, .lstore 4, 2), (46, .lload 4, 2), (48, .lconst 0, 1), (49, .lcmp, 1), (50, .ifCond .lt 17, 3), (53, .lload 4, 2), (55, .aload_n 0, 1), (56, .getfield 54, 3), (59, .getfield 175, 3), (62, .i2l, 1), (63, .lcmp, 1), (64, .ifCond .lt 5, 3), (67, .iconst 5, 1), (68, .ireturn, 1), (69, .aload_n 0, 1), (70, .getfield 25, 3), (73, .iload_n 3, 1), (74, .lload 4, 2), (76, .l2i, 1), (77, .iastore, 1), (78, .iinc 3 1, 3), (81, .goto (-50), 3), (84, .iconst 0, 1), (85, .ireturn, 1)], 6, [(15, 0, 11, 3), (22, 0, 11, 5), (25, 0, 11, 6), (54, 0, 11, 10), (175, 1, 3, 8)], [], (Option.some Jvm.ClassFile.FieldType.int), 11)
def gk_m195 : rk_M2 := ([(0, .aload_n 0, 1), (1, .getfield 68, 3), (4, .aload_n 0, 1), (5, .getfield 54, 3), (8, .aload_n 0, 1), (9, .getfield 54, 3), (12, .getfield 193, 3), (15, .getfield 254, 3), (18, .iload_n 1, 1), (19, .iaload, 1), (20, .iload_n 2, 1), (21, .aload_n 0, 1), (22, .getfield 54, 3), (25, .iload_n 1, 1), (26, .invokevirtual 329, 3), (29, .invokevirtual 478, 3), (32, .ireturn, 1)], 3, [(54, 0, 11, 10), (68, 0, 11, 14), (193, 1, 3, 6), (254, 1, 0, 2), (329, 6, 43, 1), (478, 6, 81, 4)], [], (Option.some Jvm.ClassFile.FieldType.boolean), 11)
def gk_m196 : rk_M2 := ([(0, .aload_n 0, 1), (1, .getfield 54, 3), (4, .getfield 193, 3), (7, .iload_n 1, 1), (8, .invokevirtual 248, 3), (11, .ifCond .eq 34, 3), (14, .aload_n 0, 1), (15, .getfield 54, 3), (18, .iload_n 2, 1), (19, .invokevirtual 276, 3), (22, .ifCond .eq 23, 3), (25, .aload_n 0, 1), (26, .getfield 54, 3), (29, .getfield 193, 3), (32, .getfield 254, 3), (35, .iload_n 1, 1), (36, .iaload, 1), (37, .iload_n 2, 1), (38, .if_icmp .eq 7, 3), (41, .iconst 1, 1), (42, .goto 4, 3), (45, .iconst 0, 1), (46, .ireturn, 1)], 3, [(54, 0, 11, 10), (193, 1, 3, 6), (248, 6, 3, 1), (254, 1, 0, 2), (276, 6, 34, 1)], [], (Option.some Jvm.ClassFile.FieldType.boolean), 11)
def gk_m197 : rk_M2 := ([(0, .iload_n 0, 1), (1, .ifCond .lt 24, 3), (4, .iload_n 0, 1), (5, .bipush 60, 2), (7, .if_icmp .gt 18, 3), (10, .iload_n 1, 1), (11, .iconst 1, 1), (12, .if_icmp .lt 13, 3), (15, .iload_n 1, 1), (16, .bipush 6, 2), (18, .if_icmp .gt 7, 3), (21, .iconst 1, 1), (22, .goto 4, 3), (25, .iconst 0, 1), (26, .ireturn, 1)], 2, [], [], (Option.some Jvm.ClassFile.FieldType.boolean), 11)
def gk_m198 : rk_M2 := ([(0, .iconst 0, 1), (1, .istore_n 2, 1), (2, .iload_n 2, 1), (3, .bipush 60, 2), (5, .if_icmp .ge 20, 3), (8, .iload_n 2, 1), (9, .iload_n 1, 1), (10, .invokestatic 409, 3), (13, .iload_n 0, 1), (14, .i2l, 1), (15, .lcmp, 1), (16, .ifCond .ge 9, 3), (19, .iinc 2 1, 3), (22, .goto (-20), 3), (25, .iload_n 2, 1), (26, .ireturn, 1)], 3, [(409, 7, 199, 2)], [], (Option.some Jvm.ClassFile.FieldType.int), 11)
def gk_m199 : rk_M2 := ([(0, .lconst 0, 1), (1, .lstore_n 2, 1), (2, .lconst 1, 1), (3, .lstore 4, 2), (5, .iconst 1, 1), (6, .istore 6, 2), (8, .iload 6, 2), (10, .iload_n 1, 1), (11, .if_icmp .gt 34, 3), (14, .lload 4, 2), (16, .iconst 0, 1), (17, .iload_n 0, 1), (18, .iload 6, 2), (20, .isub, 1), (21, .iconst 1, 1), (22, .iadd, 1), (23, .invokestatic 482, 3), (26, .i2l, 1), (27, .lmul, 1), (28, .iload 6, 2), (30, .i2l, 1), (31, .ldiv, 1), (32, .lstore 4, 2), (34, .lload_n 2, 1), (35, .lload 4, 2), (37, .ladd, 1), (38, .lstore_n 2, 1), (39, .iinc 6 1, 3), (42, .goto (-34), 3), (45, .lload_n 2, 1), (46, .lreturn, 1)], 7, [(482, 14, 0, 0)], [], (Option.some Jvm.ClassFile.FieldType.long), 11)
def gk_m200 : rk_M2 := ([(0, .iload_n 0, 1), (1, .iload_n 0, 1), (2, .ineg, 1), (3, .iand, 1), (4, .iconst 1, 1), (5, .isub, 1), (6, .invokestatic 321, 3), (9, .ireturn, 1)], 1, [(321, 7, 372, 1)], [], (Option.some Jvm.ClassFile.FieldType.int), 11)
def gk_m201 : rk_M2 := ([(0, .aload_n 0, 1), (1, .invokespecial 1, 3), (4, .aload_n 0, 1), (5, .sipush 5894, 3), (8, .newarray .int, 2), (10, .putfield 7, 3), (13, .aload_n 0, 1), (14, .bipush 108, 2), (16, .newarray .long, 2), (18, .putfield 13, 3), (21, .aload_n 0, 1), (22, .lconst 1, 1), (23, .putfield 17, 3), (26, .aload_n 0, 1), (27, .iconst 4, 1), (28, .newarray .int, 2), (30, .putfield 21, 3), (33, .aload_n 0, 1), (34, .iconst 4, 1), (35, .newarray .int, 2), (37, .dup, 1), (38, .iconst 0, 1), (39, .iconst (-1), 1), (40, .iastore, 1), (41, .dup, 1), (42, .iconst 1, 1), (43, .iconst (-1), 1), (44, .iastore, 1), (45, .dup, 1), (46, .iconst 2, 1), (47, .iconst (-1), 1), (48, .iastore, 1), (49, .dup, 1), (50, .iconst 3, 1), (51, .iconst (-1), 1), (52, .iastore, 1), (53, .putfield 24, 3), (56, .aload_n 0, 1), (57, .sipush 240, 3), (60, .newarray .long, 2), (62, .putfield 27, 3), (65, .aload_n 0, 1), (66, .sipush 900, 3), (69, .newarray .byte, 2), (71, .putfield 30, 3), (74, .aload_n 0, 1), (75, .sipush 900, 3), (78, .newarray .byte, 2), (80, .putfield 34, 3), (83, .aload_n 0, 1), (84, .iconst (-1), 1), (85, .putfield 37, 3), (88, .aload_n 0, 1), (89, .iconst (-1), 1), (90, .putfield 41, 3), (93, .aload_n 0, 1), (94, .iconst 3, 1), (95, .newarray .int, 2), (97, .putfield 44, 3), (100, .aload_n 0, 1), (101, .bipush 10, 2), (103, .newarray .int, 2), (105, .putfield 47, 3), (108, .aload_n 0, 1), (109, .iconst 4, 1), (110, .newarray .int, 2), (112, .putfield 50, 3), (115, .aload_n 0, 1), (116, .iconst 4, 1), (117, .newarray .int, 2), (119, .putfield 53, 3), (122, .aload_n 0, 1), (123, .iconst 4, 1), (124, .newarray .int, 2), (126, .putfield 56, 3), (129, .aload_n 0, 1), (130, .iconst 4, 1), (131, .newarray .int, 2), (133, .putfield 59, 3), (136, .aload_n 0, 1), (137, .sipush 256, 3), (140, .newarray .int, 2), (142, .putfield 62, 3), (145, .aload_n 0, 1), (146, .sipush 427, 3), (149, .newarray .int, 2), (151, .putfield 65, 3), (154, .aload_n 0, 1), (155, .bipush 10, 2), (157, .newarray .int, 2), (159, .putfield 68, 3), (162, .aload_n 0, 1), (163, .bipush 21, 2), (165, .newarray .long, 2), (167, .putfield 71, 3), (170, .aload_n 0, 1), (171, .bipush 21, 2), (173, .newarray .long, 2), (175, .putfield 74, 3), (178, .aload_n 0, 1), (179, .bipush 80, 2), (181, .newarray .int, 2), (183, .putfield 77, 3), (186, .aload_n 0, 1), (187, .iconst 5, 1), (188, .newarray .int, 2), (190, .putfield 80, 3), (193, .aload_n 0, 1), (194, .iconst 5, 1), (195, .newarray .int, 2), (197, .putfield 83, 3), (200, .aload_n 0, 1), (201, .iconst 0, 1), (202, .invokevirtual 86, 3), (205, .return_, 1)], 1, [(1, 11, 0, 0), (7, 2, 12, 0), (13, 2, 12, 1), (17, 0, 12, 4), (21, 2, 12, 5), (24, 2, 12, 6), (27, 2, 12, 7), (30, 2, 12, 8), (34, 2, 12, 9), (37, 0, 12, 16), (41, 0, 12, 17), (44, 2, 12, 21), (47, 2, 12, 24), (50, 2, 12, 26), (53, 2, 12, 27), (56, 2, 12, 28), (59, 2, 12, 29), (62, 2, 12, 31), (65, 2, 12, 32), (68, 2, 12, 33), (71, 2, 12, 34), (74, 2, 12, 35), (77, 2, 12, 38), (80, 2, 12, 39), (83, 2, 12, 40), (86, 5, 202, 1)], [], (Option.none : Option Jvm.ClassFile.FieldType), 12)
def gk_m202 : rk_M2 := ([(0, .iconst 0, 1), (1, .istore_n 2, 1), (2, .iload_n 2, 1), (3, .sipush 842, 3), (6, .if_icmp .ge 18, 3), (9, .aload_n 0, 1), (10, .getfield 7, 3), (13, .iload_n 1, 1), (14, .iload_n 2, 1), (15, .iadd, 1), (16, .iconst 0, 1), (17, .iastore, 1), (18, .iinc 2 1, 3), (21, .goto (-19), 3), (24, .aload_n 0, 1), (25, .getfield 7, 3), (28, .iload_n 1, 1), (29, .iconst 2, 1), (30, .iadd, 1), (31, .iconst 2, 1), (32, .iastore, 1), (33, .aload_n 0, 1), (34, .getfield 7, 3), (37, .iload_n 1, 1), (38, .iconst 3, 1), (39, .iadd, 1), (40, .iconst 4, 1), (41, .iastore, 1), (42, .aload_n 0, 1), (43, .getfield 7, 3), (46, .iload_n 1, 1), (47, .iconst 4, 1), (48, .iadd, 1), (49, .iconst 1, 1), (50, .iastore, 1), (51, .aload_n 0, 1), (52, .getfield 7, 3), (55, .iload_n 1, 1), (56, .bipush 6, 2), (58, .iadd, 1), (59, .iconst (-1), 1), (60, .iastore, 1), (61, .return_, 1)], 3, [(7, 0, 12, 0)], [], (Option.none : Option Jvm.ClassFile.FieldType), 12)
def gk_m203 : rk_M2 := ([(0, .aload_n 0, 1), (1, .getfield 90, 3), (4, .ireturn, 1)], 1, [(90, 0, 12, 2)], [], (Option.some Jvm.ClassFile.FieldType.int), 12)
def gk_m204 : rk_M2 := ([(0, .aload_n 0, 1), (1, .getfield 93, 3), (4, .lreturn, 1)], 1, [(93, 0, 12, 3)], [], (Option.some Jvm.ClassFile.FieldType.long), 12)
def gk_m205 : rk_M2 := ([(0, .aload_n 0, 1), (1, .getfield 17, 3), (4, .lreturn, 1)], 1, [(17, 0, 12, 4)], [], (Option.some Jvm.ClassFile.FieldType.long), 12)
def gk_m206 : rk_M2 := ([(0, .aload_n 0, 1), (1, .iload_n 1, 1), (2, .putfield 90, 3), (5, .iload_n 1, 1), (6, .ifCond .ne 7, 3), (9, .iconst 1, 1), (10, .goto 4, 3), (13, .iconst 0, 1), (14, .ireturn, 1)], 2, [(90, 0, 12, 2)], [], (Option.some Jvm.ClassFile.FieldType.boolean), 12)
def gk_m207 : rk_M2 := ([(0, .aload_n 0, 1), (1, .iload_n 1, 1), (2, .putfield 90, 3), (5, .iconst (-1), 1), (6, .ireturn, 1)], 2, [(90, 0, 12, 2)], [], (Option.some Jvm.ClassFile.FieldType.int), 12)
def gk_m208 : rk_M2 := ([(0, .aload_n 0, 1), (1, .iconst 0, 1), (2, .putfield 90, 3), (5, .iload_n 1, 1), (6, .ireturn, 1)], 2, [(90, 0, 12, 2)], [], (Option.some Jvm.ClassFile.FieldType.int), 12)
def gk_m209 : rk_M2 := ([(0, .iload_n 1, 1), (1, .iconst (-1), 1), (2, .if_icmp .ne 12, 3), (5, .aload_n 0, 1), (6, .bipush 6, 2), (8, .invokevirtual 96, 3), (11, .goto 8, 3), (14, .aload_n 0, 1), (15, .iload_n 1, 1), (16, .invokevirtual 100, 3), (19, .ireturn, 1)], 2, [(96, 5, 207, 1), (100, 5, 208, 1)], [], (Option.some Jvm.ClassFile.FieldType.int), 12)
def gk_m210 : rk_M2 := ([(0, .lload_n 1, 1), (1, .lstore 5, 2), (3, .lload_n 3, 1), (4, .lstore 7, 2), (6, .lload 7, 2), (8, .lconst 0, 1), (9, .lcmp, 1), (10, .ifCond .eq 21, 3), (13, .lload 5, 2), (15, .lload 7, 2), (17, .lrem, 1), (18, .lstore 9, 2), (20, .lload 7, 2), (22, .lstore 5, 2), (24, .lload 9, 2), (26, .lstore 7, 2), (28, .goto (-22), 3), (31, .aload_n 0, 1), (32, .lload_n 1, 1), (33, .lload 5, 2), (35, .ldiv, 1), (36, .putfield 93, 3), (39, .aload_n 0, 1), (40, .lload_n 3, 1), (41, .lload 5, 2), (43, .ldiv, 1), (44, .putfield 17, 3), (47, .aload_n 0, 1), (48, .iconst 0, 1), (49, .invokevirtual 103, 3), (52, .ireturn, 1)], 11, [(17, 0, 12, 4), (93, 0, 12, 3), (103, 5, 206, 1)], [], (Option.some Jvm.ClassFile.FieldType.boolean), 12)
def gk_m211 : rk_M2 := ([(0, .iload_n 0, 1), (1, .ifCond .lt 12, 3), (4, .iload_n 0, 1), (5, .iconst 4, 1), (6, .if_icmp .ge 7, 3), (9, .iconst 1, 1), (10, .goto 4, 3), (13, .iconst 0, 1), (14, .ireturn, 1)], 1, [], [], (Option.some Jvm.ClassFile.FieldType.boolean), 12)
def gk_m212 : rk_M2 := ([(0, .iload_n 2, 1), (1, .ifCond .ne 10, 3), (4, .lload_n 0, 1), (5, .l2i, 1), (6, .i2b, 1), (7, .i2l, 1), (8, .goto 27, 3), (11, .iload_n 2, 1), (12, .iconst 1, 1), (13, .if_icmp .ne 10, 3), (16, .lload_n 0, 1), (17, .l2i, 1), (18, .i2s, 1), (19, .i2l, 1), (20, .goto 15, 3), (23, .iload_n 2, 1), (24, .iconst 2, 1), (25, .if_icmp .ne 9, 3), (28, .lload_n 0, 1), (29, .l2i, 1), (30, .i2l, 1), (31, .goto 4, 3), (34, .lload_n 0, 1), (35, .lreturn, 1)], 3, [], [], (Option.some Jvm.ClassFile.FieldType.long), 12)
def gk_m213 : rk_M2 := ([(0, .iload_n 1, 1), (1, .invokestatic 107, 3), (4, .ifCond .eq 22, 3), (7, .iload_n 2, 1), (8, .ifCond .lt 18, 3), (11, .iload_n 2, 1), (12, .iconst 3, 1), (13, .if_icmp .gt 13, 3), (16, .iload_n 3, 1), (17, .ifCond .lt 9, 3), (20, .iload_n 3, 1), (21, .bipush 60, 2), (23, .if_icmp .le 9, 3), (26, .aload_n 0, 1), (27, .iconst 1, 1), (28, .invokevirtual 103, 3), (31, .ireturn, 1), (32, .aload_n 0, 1), (33, .getfield 21, 3), (36, .iload_n 1, 1), (37, .iload_n 2, 1), (38, .iastore, 1), (39, .aload_n 0, 1), (40, .getfield 24, 3), (43, .iload_n 1, 1), (44, .iload_n 3, 1), (45, .iastore, 1), (46, .iconst 0, 1), (47, .istore 4, 2), (49, .iload 4, 2), (51, .iload_n 3, 1), (52, .if_icmp .ge 22, 3), (55, .aload_n 0, 1), (56, .getfield 27, 3), (59, .bipush 60, 2), (61, .iload_n 1, 1), (62, .imul, 1), (63, .iload 4, 2), (65, .iadd, 1), (66, .lconst 0, 1), (67, .lastore, 1), (68, .iinc 4 1, 3), (71, .goto (-22), 3), (74, .aload_n 0, 1), (75, .iconst 0, 1), (76, .invokevirtual 103, 3), (79, .ireturn, 1)], 5, [(21, 0, 12, 5), (24, 0, 12, 6), (27, 0, 12, 7), (103, 5, 206, 1), (107, 7, 211, 1)], [], (Option.some Jvm.ClassFile.FieldType.boolean), 12)
def gk_m214 : rk_M2 := ([(0, .iload_n 1, 1), (1, .invokestatic 107, 3), (4, .ifCond .ne 7, 3), (7, .iconst 1, 1), (8, .goto 36, 3), (11, .aload_n 0, 1), (12, .getfield 24, 3), (15, .iload_n 1, 1), (16, .iaload, 1), (17, .iconst (-1), 1), (18, .if_icmp .ne 7, 3), (21, .iconst 2, 1), (22, .goto 22, 3), (25, .iload_n 2, 1), (26, .ifCond .lt 13, 3), (29, .iload_n 2, 1), (30, .aload_n 0, 1), (31, .getfield 24, 3), (34, .iload_n 1, 1), (35, .iaload, 1), (36, .if_icmp .lt 7, 3), (39, .iconst 3, 1), (40, .goto 4, 3), (43, .iconst 0, 1), (44, .ireturn, 1)], 3, [(24, 0, 12, 6), (107, 7, 211, 1)], [], (Option.some Jvm.ClassFile.FieldType.int), 12)
def gk_m215 : rk_M2 := ([(0, .aload_n 0, 1), (1, .iload_n 1, 1), (2, .iload_n 2, 1), (3, .invokevirtual 110, 3), (6, .istore 5, 2), (8, .iload 5, 2), (10, .ifCond .ne 24, 3), (13, .aload_n 0, 1), (14, .getfield 27, 3), (17, .bipush 60, 2), (19, .iload_n 1, 1), (20, .imul, 1), (21, .iload_n 2, 1), (22, .iadd, 1), (23, .lload_n 3, 1), (24, .aload_n 0, 1), (25, .getfield 21, 3), (28, .iload_n 1, 1), (29, .iaload, 1), (30, .invokestatic 114, 3), (33, .lastore, 1), (34, .aload_n 0, 1), (35, .iload 5, 2), (37, .invokevirtual 103, 3), (40, .ireturn, 1)], 6, [(21, 0, 12, 5), (27, 0, 12, 7), (103, 5, 206, 1), (110, 5, 214, 2), (114, 7, 212, 2)], [], (Option.some Jvm.ClassFile.FieldType.boolean), 12)
def gk_m216 : rk_M2 := ([(0, .aload_n 0, 1), (1, .aload_n 0, 1), (2, .iload_n 1, 1), (3, .iload_n 2, 1), (4, .invokevirtual 110, 3), (7, .putfield 90, 3), (10, .aload_n 0, 1), (11, .getfield 90, 3), (14, .ifCond .le 9, 3), (17, .ldc2_w 118, 3), (20, .goto 14, 3), (23, .aload_n 0, 1), (24, .getfield 27, 3), (27, .bipush 60, 2), (29, .iload_n 1, 1), (30, .imul, 1), (31, .iload_n 2, 1), (32, .iadd, 1), (33, .laload, 1), (34, .lreturn, 1)], 3, [(27, 0, 12, 7), (90, 0, 12, 2), (110, 5, 214, 2)], [(118, .long (-1))], (Option.some Jvm.ClassFile.FieldType.long), 12)
def gk_m217 : rk_M2 := ([(0, .iload_n 1, 1), (1, .invokestatic 107, 3), (4, .ifCond .eq 24, 3), (7, .iload_n 3, 1), (8, .invokestatic 107, 3), (11, .ifCond .eq 17, 3), (14, .iload_n 2, 1), (15, .ifCond .lt 13, 3), (18, .iload 4, 2), (20, .ifCond .lt 8, 3), (23, .iload 5, 2), (25, .ifCond .ge 9, 3), (28, .aload_n 0, 1), (29, .iconst 1, 1), (30, .invokevirtual 103, 3), (33, .ireturn, 1), (34, .aload_n 0, 1), (35, .getfield 24, 3), (38, .iload_n 1, 1), (39, .iaload, 1), (40, .iconst (-1), 1), (41, .if_icmp .eq 13, 3), (44, .aload_n 0, 1), (45, .getfield 24, 3), (48, .iload_n 3, 1), (49, .iaload, 1), (50, .iconst (-1), 1), (51, .if_icmp .ne 9, 3), (54, .aload_n 0, 1), (55, .iconst 2, 1), (56, .invokevirtual 103, 3), (59, .ireturn, 1), (60, .aload_n 0, 1), (61, .getfield 21, 3), (64, .iload_n 1, 1), (65, .iaload, 1), (66, .aload_n 0, 1), (67, .getfield 21, 3), (70, .iload_n 3, 1), (71, .iaload, 1), (72, .if_icmp .eq 10, 3), (75, .aload_n 0, 1), (76, .bipush 8, 2), (78, .invokevirtual 103, 3), (81, .ireturn, 1), (82, .iload 5, 2), (84, .aload_n 0, 1), (85, .getfield 24, 3), (88, .iload_n 1, 1), (89, .iaload, 1), (90, .iload_n 2, 1), (91, .isub, 1), (92, .if_icmp .gt 17, 3), (95, .iload 5, 2), (97, .aload_n 0, 1), (98, .getfield 24, 3), (101, .iload_n 3, 1), (102, .iaload, 1), (103, .iload 4, 2), (105, .isub, 1), (106, .if_icmp .le 9, 3), (109, .aload_n 0, 1), (110, .iconst 3, 1), (111, .invokevirtual 103, 3), (114, .ireturn, 1), (115, .iconst 0, 1), (116, .istore 6, 2), (118, .iload 6, 2), (120, .iload 5, 2), (122, .if_icmp .ge 58, 3), (125, .iload_n 2, 1), (126, .iload 4, 2), (128, .if_icmp .ge 13, 3), (131, .iload 5, 2), (133, .iconst 1, 1), (134, .isub, 1), (135, .iload 6, 2), (137, .isub, 1), (138, .goto 5, 3), (141, .iload 6, 2), (143, .istore 7, 2), (145, .aload_n 0, 1), (146, .getfield 27, 3), (149, .bipush 60, 2), (151, .iload_n 3, 1), (152, .imul, 1), (153, .iload 4, 2), (155, .iadd, 1), (156, .iload 7, 2), (158, .iadd, 1), (159, .aload_n 0, 1), (160, .getfield 27, 3), (163, .bipush 60, 2), (165, .iload_n 1, 1), (166, .imul, 1), (167, .iload_n 2, 1), (168, .iadd, 1), (169, .iload 7, 2), (171, .iadd, 1), (172, .laload, 1), (173, .lastore, 1), (174, .iinc 6 1, 3), (177, .goto (-59), 3), (180, .aload_n 0, 1), (181, .iconst 0, 1), (182, .invokevirtual 103, 3), (185, .ireturn, 1)], 8, [(21, 0, 12, 5), (24, 0, 12, 6), (27, 0, 12, 7), (103, 5, 206, 1), (107, 7, 211, 1)], [], (Option.some Jvm.ClassFile.FieldType.boolean), 12)
def gk_m218 : rk_M2 := ([(0, .lload_n 0, 1), (1, .lload_n 2, 1), (2, .lcmp, 1), (3, .ifCond .lt 14, 3), (6, .lload_n 0, 1), (7, .lload 4, 2), (9, .lcmp, 1), (10, .ifCond .gt 7, 3), (13, .iconst 1, 1), (14, .goto 4, 3), (17, .iconst 0, 1), (18, .ireturn, 1)], 6, [], [], (Option.some Jvm.ClassFile.FieldType.boolean), 12)
def gk_m219 : rk_M2 := ([(0, .aload_n 0, 1), (1, .getfield 120, 3), (4, .bipush 20, 2), (6, .iadd, 1), (7, .sipush 900, 3), (10, .if_icmp .le 5, 3), (13, .iconst (-1), 1), (14, .ireturn, 1), (15, .aload_n 0, 1), (16, .iload_n 1, 1), (17, .invokevirtual 123, 3), (20, .aload_n 0, 1), (21, .iload_n 2, 1), (22, .invokevirtual 123, 3), (25, .aload_n 0, 1), (26, .iload_n 3, 1), (27, .invokevirtual 123, 3), (30, .aload_n 0, 1), (31, .iload 4, 2), (33, .invokevirtual 123, 3), (36, .aload_n 0, 1), (37, .iload 5, 2), (39, .invokevirtual 123, 3), (42, .aload_n 0, 1), (43, .getfield 120, 3), (46, .ireturn, 1)], 6, [(120, 0, 12, 10), (123, 5, 220, 1)], [], (Option.some Jvm.ClassFile.FieldType.int), 12)
def gk_m220 : rk_M2 := ([(0, .bipush 24, 2), (2, .istore_n 2, 1), (3, .iload_n 2, 1), (4, .ifCond .lt 32, 3), (7, .aload_n 0, 1), (8, .getfield 30, 3), (11, .aload_n 0, 1), (12, .getfield 120, 3), (15, .iload_n 1, 1), (16, .iload_n 2, 1), (17, .ishr, 1), (18, .i2b, 1), (19, .bastore, 1), (20, .aload_n 0, 1), (21, .dup, 1), (22, .getfield 120, 3), (25, .iconst 1, 1), (26, .iadd, 1), (27, .putfield 120, 3), (30, .iinc 2 (-8), 3), (33, .goto (-30), 3), (36, .return_, 1)], 3, [(30, 0, 12, 8), (120, 0, 12, 10)], [], (Option.none : Option Jvm.ClassFile.FieldType), 12)
def gk_m221 : rk_M2 := ([(0, .iload_n 1, 1), (1, .aload_n 0, 1), (2, .getfield 126, 3), (5, .if_icmp .ge 16, 3), (8, .aload_n 0, 1), (9, .getfield 34, 3), (12, .iload_n 1, 1), (13, .baload, 1), (14, .sipush 255, 3), (17, .iand, 1), (18, .goto 4, 3), (21, .iconst (-1), 1), (22, .ireturn, 1)], 2, [(34, 0, 12, 9), (126, 0, 12, 11)], [], (Option.some Jvm.ClassFile.FieldType.int), 12)
def gk_m222 : rk_M2 := ([(0, .iload_n 0, 1), (1, .bipush 97, 2), (3, .if_icmp .lt 13, 3), (6, .iload_n 0, 1), (7, .bipush 122, 2), (9, .if_icmp .gt 7, 3), (12, .iconst 1, 1), (13, .goto 4, 3), (16, .iconst 0, 1), (17, .ireturn, 1)], 1, [], [], (Option.some Jvm.ClassFile.FieldType.boolean), 12)
def gk_m223 : rk_M2 := ([(0, .iload_n 0, 1), (1, .bipush 48, 2), (3, .if_icmp .lt 13, 3), (6, .iload_n 0, 1), (7, .bipush 57, 2), (9, .if_icmp .gt 7, 3), (12, .iconst 1, 1), (13, .goto 4, 3), (16, .iconst 0, 1), (17, .ireturn, 1)], 1, [], [], (Option.some Jvm.ClassFile.FieldType.boolean), 12)
def gk_m224 : rk_M2 := ([(0, .aload_n 0, 1), (1, .aload_n 0, 1), (2, .getfield 129, 3), (5, .invokevirtual 132, 3), (8, .bipush 32, 2), (10, .if_icmp .eq 16, 3), (13, .aload_n 0, 1), (14, .aload_n 0, 1), (15, .getfield 129, 3), (18, .invokevirtual 132, 3), (21, .bipush 10, 2), (23, .if_icmp .ne 16, 3), (26, .aload_n 0, 1), (27, .dup, 1), (28, .getfield 129, 3), (31, .iconst 1, 1), (32, .iadd, 1), (33, .putfield 129, 3), (36, .goto (-36), 3), (39, .aload_n 0, 1), (40, .aload_n 0, 1), (41, .getfield 129, 3), (44, .putfield 135, 3), (47, .aload_n 0, 1), (48, .aload_n 0, 1), (49, .getfield 129, 3), (52, .invokevirtual 132, 3), (55, .istore_n 1, 1), (56, .aload_n 0, 1), (57, .iload_n 1, 1), (58, .putfield 138, 3), (61, .iload_n 1, 1), (62, .iconst (-1), 1), (63, .if_icmp .ne 11, 3), (66, .aload_n 0, 1), (67, .iconst 0, 1), (68, .putfield 141, 3), (71, .goto 180, 3), (74, .iload_n 1, 1), (75, .invokestatic 144, 3), (78, .ifCond .eq 38, 3), (81, .aload_n 0, 1), (82, .aload_n 0, 1), (83, .getfield 129, 3), (86, .invokevirtual 132, 3), (89, .invokestatic 144, 3), (92, .ifCond .eq 16, 3), (95, .aload_n 0, 1), (96, .dup, 1), (97, .getfield 129, 3), (100, .iconst 1, 1), (101, .iadd, 1), (102, .putfield 129, 3), (105, .goto (-24), 3), (108, .aload_n 0, 1), (109, .iconst 2, 1), (110, .putfield 141, 3), (113, .goto 138, 3), (116, .iload_n 1, 1), (117, .invokestatic 147, 3), (120, .ifCond .eq 88, 3), (123, .aload_n 0, 1), (124, .iconst 0, 1), (125, .putfield 138, 3), (128, .aload_n 0, 1), (129, .aload_n 0, 1), (130, .getfield 129, 3), (133, .invokevirtual 132, 3), (136, .invokestatic 147, 3), (139, .ifCond .eq 44, 3), (142, .aload_n 0, 1), (143, .ldc 150, 2), (145, .bipush 10, 2), (147, .aload_n 0, 1), (148, .getfield 138, 3), (151, .imul, 1), (152, .aload_n 0, 1), (153, .aload_n 0, 1), (154, .getfield 129, 3), (157, .invokevirtual 132, 3), (160, .iadd, 1), (161, .bipush 48, 2), (163, .isub, 1), (164, .invokestatic 151, 3), (167, .putfield 138, 3), (170, .aload_n 0, 1), (171, .dup, 1), (172, .getfield 129, 3), (175, .iconst 1, 1), (176, .iadd, 1), (177, .putfield 129, 3), (180, .goto (-52), 3), (183, .aload_n 0, 1), (184, .aload_n 0, 1), (185, .getfield 129, 3), (188, .aload_n 0, 1), (189, .getfield 135, 3), (192, .isub, 1), (193, .iconst 4, 1), (194, .if_icmp .le 7, 3), (197, .iconst 1, 1), (198, .goto 4, 3), (201, .iconst 3, 1), (202, .putfield 141, 3), (205, .goto 46, 3), (208, .aload_n 0, 1), (209, .dup, 1), (210, .getfield 129, 3), (213, .iconst 1, 1), (214, .iadd, 1), (215, .putfield 129, 3), (218, .aload_n 0, 1), (219, .iload_n 1, 1), (220, .bipush 59, 2), (222, .if_icmp .eq 21, 3), (225, .iload_n 1, 1), (226, .bipush 60, 2), (228, .if_icmp .eq 15, 3), (231, .iload_n 1, 1), (232, .bipush 62, 2), (234, .if_icmp .eq 9, 3), (237, .iload_n 1, 1), (238, .bipush 61, 2), (240, .if_icmp .ne 7, 3), (243, .iconst 4, 1), (244, .goto 4, 3), (247, .iconst 1, 1), (248, .putfield 141, 3), (251, .return_, 1)], 2, [(129, 0, 12, 14), (132, 5, 221, 1), (135, 0, 12, 13), (138, 0, 12, 15), (141, 0, 12, 12), (144, 7, 222, 1), (147, 7, 223, 1), (151, 15, 0, 0)], [(150, .int 100000)], (Option.none : Option Jvm.ClassFile.FieldType), 12)
def gk_m225 : rk_M2 := ([(0, .aload_n 0, 1), (1, .getfield 141, 3), (4, .iconst 4, 1), (5, .if_icmp .ne 15, 3), (8, .aload_n 0, 1), (9, .getfield 138, 3), (12, .iload_n 1, 1), (13, .if_icmp .ne 7, 3), (16, .iconst 1, 1), (17, .goto 4, 3), (20, .iconst 0, 1), (21, .ireturn, 1)], 2, [(138, 0, 12, 15), (141, 0, 12, 12)], [], (Option.some Jvm.ClassFile.FieldType.boolean), 12)
def gk_m226 : rk_M2 := ([(0, .aload_n 0, 1), (1, .getfield 141, 3), (4, .iconst 2, 1), (5, .if_icmp .eq 5, 3), (8, .iconst (-1), 1), (9, .ireturn, 1), (10, .iconst 0, 1), (11, .istore_n 2, 1), (12, .iconst 1, 1), (13, .istore_n 3, 1), (14, .iload_n 3, 1), (15, .aload_n 1, 1), (16, .invokevirtual 156, 3), (19, .if_icmp .ge 114, 3), (22, .iload_n 3, 1), (23, .istore 4, 2), (25, .aload_n 1, 1), (26, .iload 4, 2), (28, .invokevirtual 162, 3), (31, .bipush 32, 2), (33, .if_icmp .eq 9, 3), (36, .iinc 4 1, 3), (39, .goto (-14), 3), (42, .iload 4, 2), (44, .iload_n 3, 1), (45, .isub, 1), (46, .aload_n 0, 1), (47, .getfield 129, 3), (50, .aload_n 0, 1), (51, .getfield 135, 3), (54, .isub, 1), (55, .if_icmp .ne 7, 3), (58, .iconst 1, 1), (59, .goto 4, 3), (62, .iconst 0, 1), (63, .istore 5, 2), (65, .iload_n 3, 1), (66, .istore 6, 2), (68, .iload 6, 2), (70, .iload 4, 2), (72, .if_icmp .ge 43, 3), (75, .iload 5, 2), (77, .ifCond .eq 38, 3), (80, .aload_n 1, 1), (81, .iload 6, 2), (83, .invokevirtual 162, 3), (86, .aload_n 0, 1), (87, .aload_n 0, 1), (88, .getfield 135, 3), (91, .iload 6, 2), (93, .iadd, 1), (94, .iload_n 3, 1), (95, .isub, 1), (96, .invokevirtual 132, 3), (99, .if_icmp .ne 7, 3), (102, .iconst 1, 1), (103, .goto 4, 3), (106, .iconst 0, 1), (107, .istore 5, 2), (109, .iinc 6 1, 3), (112, .goto (-44), 3), (115, .iload 5, 2), (117, .ifCond .eq 5, 3), (120, .iload_n 2, 1), (121, .ireturn, 1), (122, .iinc 2 1, 3), (125, .iload 4, 2), (127, .iconst 1, 1), (128, .iadd, 1), (129, .istore_n 3, 1), (130, .goto (-116), 3), (133, .iconst (-1), 1), (134, .ireturn, 1)], 7, [(129, 0, 12, 14), (132, 5, 221, 1), (135, 0, 12, 13), (141, 0, 12, 12), (156, 5, 377, 0), (162, 5, 378, 1)], [], (Option.some Jvm.ClassFile.FieldType.int), 12)
def gk_m227 : rk_M2 := ([(0, .aload_n 0, 1), (1, .getfield 166, 3), (4, .ifCond .ne 28, 3), (7, .aload_n 0, 1), (8, .aload_n 0, 1), (9, .getfield 141, 3), (12, .iconst 1, 1), (13, .if_icmp .ne 7, 3), (16, .iconst 1, 1), (17, .goto 4, 3), (20, .iload_n 1, 1), (21, .putfield 166, 3), (24, .aload_n 0, 1), (25, .aload_n 0, 1), (26, .getfield 135, 3), (29, .putfield 41, 3), (32, .iconst 0, 1), (33, .ireturn, 1)], 2, [(41, 0, 12, 17), (135, 0, 12, 13), (141, 0, 12, 12), (166, 0, 12, 18)], [], (Option.some Jvm.ClassFile.FieldType.boolean), 12)
def gk_m228 : rk_M2 := ([(0, .iload_n 1, 1), (1, .ifCond .lt 16, 3), (4, .iload_n 1, 1), (5, .aload_n 0, 1), (6, .getfield 120, 3), (9, .if_icmp .gt 8, 3), (12, .iload_n 1, 1), (13, .iload_n 2, 1), (14, .if_icmp .le 5, 3), (17, .iconst 0, 1), (18, .ireturn, 1), (19, .aload_n 0, 1), (20, .iload_n 1, 1), (21, .putfield 126, 3), (24, .iconst 0, 1), (25, .istore_n 3, 1), (26, .iload_n 3, 1), (27, .iload_n 1, 1), (28, .if_icmp .ge 21, 3), (31, .aload_n 0, 1), (32, .getfield 34, 3), (35, .iload_n 3, 1), (36, .aload_n 0, 1), (37, .getfield 30, 3), (40, .iload_n 3, 1), (41, .baload, 1), (42, .bastore, 1), (43, .iinc 3 1, 3), (46, .goto (-20), 3), (49, .aload_n 0, 1), (50, .iconst 0, 1), (51, .putfield 120, 3), (54, .aload_n 0, 1), (55, .iconst 0, 1), (56, .putfield 166, 3), (59, .aload_n 0, 1), (60, .iconst (-1), 1), (61, .putfield 41, 3), (64, .aload_n 0, 1), (65, .iconst 0, 1), (66, .putfield 129, 3), (69, .aload_n 0, 1), (70, .iconst 0, 1), (71, .putfield 169, 3), (74, .aload_n 0, 1), (75, .invokevirtual 172, 3), (78, .iconst 1, 1), (79, .ireturn, 1)], 4, [(30, 0, 12, 8), (34, 0, 12, 9), (41, 0, 12, 17), (120, 0, 12, 10), (126, 0, 12, 11), (129, 0, 12, 14), (166, 0, 12, 18), (169, 0, 12, 19), (172, 5, 224, 0)], [], (Option.some Jvm.ClassFile.FieldType.boolean), 12)
def gk_m229 : rk_M2 := ([(0, .aload_n 0, 1), (1, .iload_n 1, 1), (2, .invokevirtual 175, 3), (5, .ifCond .ne 9, 3), (8, .aload_n 0, 1), (9, .iconst 2, 1), (10, .invokevirtual 178, 3), (13, .ireturn, 1), (14, .aload_n 0, 1), (15, .invokevirtual 172, 3), (18, .iconst 1, 1), (19, .ireturn, 1)], 2, [(172, 5, 224, 0), (175, 5, 225, 1), (178, 5, 227, 1)], [], (Option.some Jvm.ClassFile.FieldType.boolean), 12)
def gk_m230 : rk_M2 := ([(0, .aload_n 0, 1), (1, .aload_n 1, 1), (2, .invokevirtual 181, 3), (5, .iload_n 2, 1), (6, .if_icmp .eq 9, 3), (9, .aload_n 0, 1), (10, .iconst 2, 1), (11, .invokevirtual 178, 3), (14, .ireturn, 1), (15, .aload_n 0, 1), (16, .invokevirtual 172, 3), (19, .iconst 1, 1), (20, .ireturn, 1)], 3, [(172, 5, 224, 0), (178, 5, 227, 1), (181, 5, 226, 1)], [], (Option.some Jvm.ClassFile.FieldType.boolean), 12)
def gk_m231 : rk_M2 := ([(0, .aload_n 0, 1), (1, .getfield 141, 3), (4, .iconst 3, 1), (5, .if_icmp .eq 9, 3), (8, .aload_n 0, 1), (9, .iconst 2, 1), (10, .invokevirtual 178, 3), (13, .ireturn, 1), (14, .aload_n 0, 1), (15, .getfield 138, 3), (18, .iload_n 2, 1), (19, .if_icmp .lt 11, 3), (22, .aload_n 0, 1), (23, .getfield 138, 3), (26, .iload_n 3, 1), (27, .if_icmp .le 9, 3), (30, .aload_n 0, 1), (31, .iconst 4, 1), (32, .invokevirtual 178, 3), (35, .ireturn, 1), (36, .aload_n 0, 1), (37, .getfield 7, 3), (40, .iload_n 1, 1), (41, .aload_n 0, 1), (42, .getfield 138, 3), (45, .iastore, 1), (46, .aload_n 0, 1), (47, .invokevirtual 172, 3), (50, .iconst 1, 1), (51, .ireturn, 1)], 4, [(7, 0, 12, 0), (138, 0, 12, 15), (141, 0, 12, 12), (172, 5, 224, 0), (178, 5, 227, 1)], [], (Option.some Jvm.ClassFile.FieldType.boolean), 12)
def gk_m232 : rk_M2 := ([(0, .aload_n 0, 1), (1, .getfield 141, 3), (4, .iconst 2, 1), (5, .if_icmp .ne 30, 3), (8, .aload_n 0, 1), (9, .getfield 129, 3), (12, .aload_n 0, 1), (13, .getfield 135, 3), (16, .isub, 1), (17, .bipush 8, 2), (19, .if_icmp .gt 16, 3), (22, .aload_n 0, 1), (23, .aload_n 1, 1), (24, .invokevirtual 181, 3), (27, .iconst (-1), 1), (28, .if_icmp .ne 7, 3), (31, .iconst 1, 1), (32, .goto 4, 3), (35, .iconst 0, 1), (36, .ireturn, 1)], 2, [(129, 0, 12, 14), (135, 0, 12, 13), (141, 0, 12, 12), (181, 5, 226, 1)], [], (Option.some Jvm.ClassFile.FieldType.boolean), 12)
def gk_m233 : rk_M2 := ([(0, .lconst 0, 1), (1, .lstore_n 1, 1), (2, .aload_n 0, 1), (3, .getfield 135, 3), (6, .istore_n 3, 1), (7, .iload_n 3, 1), (8, .aload_n 0, 1), (9, .getfield 129, 3), (12, .if_icmp .ge 21, 3), (15, .lload_n 1, 1), (16, .bipush 8, 2), (18, .lshl, 1), (19, .aload_n 0, 1), (20, .iload_n 3, 1), (21, .invokevirtual 132, 3), (24, .i2l, 1), (25, .lor, 1), (26, .lstore_n 1, 1), (27, .iinc 3 1, 3), (30, .goto (-23), 3), (33, .lload_n 1, 1), (34, .lreturn, 1)], 4, [(129, 0, 12, 14), (132, 5, 221, 1), (135, 0, 12, 13)], [], (Option.some Jvm.ClassFile.FieldType.long), 12)
def gk_m234 : rk_M2 := ([(0, .iconst 0, 1), (1, .istore_n 3, 1), (2, .iload_n 3, 1), (3, .iload_n 2, 1), (4, .if_icmp .ge 27, 3), (7, .aload_n 0, 1), (8, .getfield 13, 3), (11, .iload_n 1, 1), (12, .iload_n 3, 1), (13, .iadd, 1), (14, .laload, 1), (15, .aload_n 0, 1), (16, .invokevirtual 185, 3), (19, .lcmp, 1), (20, .ifCond .ne 5, 3), (23, .iload_n 3, 1), (24, .ireturn, 1), (25, .iinc 3 1, 3), (28, .goto (-26), 3), (31, .iconst (-1), 1), (32, .ireturn, 1)], 4, [(13, 0, 12, 1), (185, 5, 233, 0)], [], (Option.some Jvm.ClassFile.FieldType.int), 12)
def gk_m235 : rk_M2 := ([(0, .iload_n 1, 1), (1, .ifCond .ne 10, 3), (4, .aload_n 0, 1), (5, .getfield 37, 3), (8, .goto 16, 3), (11, .iload_n 1, 1), (12, .iconst 1, 1), (13, .if_icmp .ne 10, 3), (16, .aload_n 0, 1), (17, .getfield 41, 3), (20, .goto 4, 3), (23, .iconst (-1), 1), (24, .ireturn, 1)], 2, [(37, 0, 12, 16), (41, 0, 12, 17)], [], (Option.some Jvm.ClassFile.FieldType.int), 12)
def gk_m236 : rk_M2 := ([(0, .aload_n 0, 1), (1, .aload_n 0, 1), (2, .getfield 166, 3), (5, .putfield 37, 3), (8, .aload_n 0, 1), (9, .getfield 166, 3), (12, .ifCond .le 12, 3), (15, .aload_n 0, 1), (16, .bipush 9, 2), (18, .invokevirtual 96, 3), (21, .goto 8, 3), (24, .aload_n 0, 1), (25, .iload_n 1, 1), (26, .invokevirtual 100, 3), (29, .ireturn, 1)], 2, [(37, 0, 12, 16), (96, 5, 207, 1), (100, 5, 208, 1), (166, 0, 12, 18)], [], (Option.some Jvm.ClassFile.FieldType.int), 12)
def gk_m237 : rk_M2 := ([(0, .aload_n 0, 1), (1, .getfield 7, 3), (4, .sipush 3368, 3), (7, .iload_n 1, 1), (8, .iadd, 1), (9, .iaload, 1), (10, .iload_n 2, 1), (11, .if_icmp .ne 10, 3), (14, .aload_n 0, 1), (15, .bipush 6, 2), (17, .invokevirtual 178, 3), (20, .ireturn, 1), (21, .aload_n 0, 1), (22, .invokevirtual 172, 3), (25, .aload_n 0, 1), (26, .ldc 189, 2), (28, .invokevirtual 191, 3), (31, .ifCond .ne 9, 3), (34, .aload_n 0, 1), (35, .iconst 2, 1), (36, .invokevirtual 178, 3), (39, .ireturn, 1), (40, .aload_n 0, 1), (41, .bipush 72, 2), (43, .aload_n 0, 1), (44, .getfield 7, 3), (47, .sipush 3368, 3), (50, .iaload, 1), (51, .invokevirtual 195, 3), (54, .iconst (-1), 1), (55, .if_icmp .ne 21, 3), (58, .aload_n 0, 1), (59, .bipush 82, 2), (61, .aload_n 0, 1), (62, .getfield 7, 3), (65, .sipush 3369, 3), (68, .iaload, 1), (69, .invokevirtual 195, 3), (72, .iconst (-1), 1), (73, .if_icmp .eq 9, 3), (76, .aload_n 0, 1), (77, .iconst 3, 1), (78, .invokevirtual 178, 3), (81, .ireturn, 1), (82, .aload_n 0, 1), (83, .getfield 13, 3), (86, .bipush 72, 2), (88, .iload_n 3, 1), (89, .iadd, 1), (90, .aload_n 0, 1), (91, .getfield 7, 3), (94, .sipush 3368, 3), (97, .iload_n 1, 1), (98, .iadd, 1), (99, .iaload, 1), (100, .iadd, 1), (101, .aload_n 0, 1), (102, .invokevirtual 185, 3), (105, .lastore, 1), (106, .aload_n 0, 1), (107, .invokevirtual 172, 3), (110, .iconst 1, 1), (111, .ireturn, 1)], 4, [(7, 0, 12, 0), (13, 0, 12, 1), (172, 5, 224, 0), (178, 5, 227, 1), (185, 5, 233, 0), (191, 5, 232, 1), (195, 5, 234, 2)], [], (Option.some Jvm.ClassFile.FieldType.boolean), 12)
def gk_m238 : rk_M2 := ([(0, .aload_n 0, 1), (1, .ldc 189, 2), (3, .invokevirtual 191, 3), (6, .ifCond .ne 9, 3), (9, .aload_n 0, 1), (10, .iconst 2, 1), (11, .invokevirtual 178, 3), (14, .ireturn, 1), (15, .aload_n 0, 1), (16, .getfield 7, 3), (19, .iload_n 3, 1), (20, .aload_n 0, 1), (21, .iload_n 1, 1), (22, .iload_n 2, 1), (23, .invokevirtual 195, 3), (26, .iastore, 1), (27, .aload_n 0, 1), (28, .getfield 7, 3), (31, .iload_n 3, 1), (32, .iaload, 1), (33, .iconst (-1), 1), (34, .if_icmp .ne 9, 3), (37, .aload_n 0, 1), (38, .iconst 3, 1), (39, .invokevirtual 178, 3), (42, .ireturn, 1), (43, .aload_n 0, 1), (44, .invokevirtual 172, 3), (47, .iconst 1, 1), (48, .ireturn, 1)], 4, [(7, 0, 12, 0), (172, 5, 224, 0), (178, 5, 227, 1), (191, 5, 232, 1), (195, 5, 234, 2)], [], (Option.some Jvm.ClassFile.FieldType.boolean), 12)
def gk_m239 : rk_M2 := ([(0, .sipush 3376, 3), (3, .bipush 6, 2), (5, .aload_n 0, 1), (6, .getfield 7, 3), (9, .sipush 3368, 3), (12, .iaload, 1), (13, .imul, 1), (14, .iadd, 1), (15, .istore_n 2, 1), (16, .aload_n 0, 1), (17, .iconst 0, 1), (18, .bipush 10, 2), (20, .iconst 0, 1), (21, .invokevirtual 198, 3), (24, .ifCond .ne 5, 3), (27, .iconst 0, 1), (28, .ireturn, 1), (29, .aload_n 0, 1), (30, .getfield 7, 3), (33, .iload_n 2, 1), (34, .iload_n 1, 1), (35, .ifCond .eq 7, 3), (38, .iconst 1, 1), (39, .goto 4, 3), (42, .iconst 0, 1), (43, .iastore, 1), (44, .iload_n 1, 1), (45, .ifCond .ne 30, 3), (48, .aload_n 0, 1), (49, .ldc 189, 2), (51, .bipush 8, 2), (53, .invokevirtual 202, 3), (56, .ifCond .eq 17, 3), (59, .aload_n 0, 1), (60, .iload_n 2, 1), (61, .iconst 1, 1), (62, .iadd, 1), (63, .iconst 0, 1), (64, .sipush 200, 3), (67, .invokevirtual 206, 3), (70, .ifCond .ne 5, 3), (73, .iconst 0, 1), (74, .ireturn, 1), (75, .aload_n 0, 1), (76, .getfield 7, 3), (79, .sipush 3368, 3), (82, .dup2, 1), (83, .iaload, 1), (84, .iconst 1, 1), (85, .iadd, 1), (86, .iastore, 1), (87, .iconst 1, 1), (88, .ireturn, 1)], 3, [(7, 0, 12, 0), (198, 5, 237, 3), (202, 5, 230, 2), (206, 5, 231, 3)], [], (Option.some Jvm.ClassFile.FieldType.boolean), 12)
def gk_m240 : rk_M2 := ([(0, .aload_n 0, 1), (1, .ldc 189, 2), (3, .invokevirtual 191, 3), (6, .ifCond .eq 20, 3), (9, .aload_n 0, 1), (10, .bipush 72, 2), (12, .aload_n 0, 1), (13, .getfield 7, 3), (16, .sipush 3368, 3), (19, .iaload, 1), (20, .invokevirtual 195, 3), (23, .goto 4, 3), (26, .iconst (-1), 1), (27, .ireturn, 1)], 1, [(7, 0, 12, 0), (191, 5, 232, 1), (195, 5, 234, 2)], [], (Option.some Jvm.ClassFile.FieldType.int), 12)
def gk_m241 : rk_M2 := ([(0, .aload_n 0, 1), (1, .getfield 7, 3), (4, .sipush 3376, 3), (7, .bipush 6, 2), (9, .iload_n 1, 1), (10, .imul, 1), (11, .iadd, 1), (12, .iaload, 1), (13, .iconst 1, 1), (14, .if_icmp .ne 7, 3), (17, .iconst 1, 1), (18, .goto 4, 3), (21, .iconst 0, 1), (22, .ireturn, 1)], 2, [(7, 0, 12, 0)], [], (Option.some Jvm.ClassFile.FieldType.boolean), 12)
def gk_m242 : rk_M2 := ([(0, .sipush 4206, 3), (3, .istore_n 2, 1), (4, .aload_n 0, 1), (5, .invokevirtual 172, 3), (8, .aload_n 0, 1), (9, .invokevirtual 209, 3), (12, .istore_n 3, 1), (13, .iload_n 1, 1), (14, .iconst 3, 1), (15, .if_icmp .ne 22, 3), (18, .iload_n 3, 1), (19, .iconst (-1), 1), (20, .if_icmp .eq 17, 3), (23, .aload_n 0, 1), (24, .iload_n 3, 1), (25, .invokevirtual 212, 3), (28, .ifCond .eq 9, 3), (31, .aload_n 0, 1), (32, .iconst 5, 1), (33, .invokevirtual 178, 3), (36, .ireturn, 1), (37, .aload_n 0, 1), (38, .bipush 72, 2), (40, .aload_n 0, 1), (41, .getfield 7, 3), (44, .sipush 3368, 3), (47, .iaload, 1), (48, .iload_n 2, 1), (49, .invokevirtual 215, 3), (52, .ifCond .ne 5, 3), (55, .iconst 0, 1), (56, .ireturn, 1), (57, .aload_n 0, 1), (58, .invokevirtual 209, 3), (61, .istore 4, 2), (63, .iload 4, 2), (65, .iconst (-1), 1), (66, .if_icmp .eq 29, 3), (69, .iload 4, 2), (71, .iload_n 3, 1), (72, .if_icmp .eq 17, 3), (75, .iload_n 1, 1), (76, .iconst 3, 1), (77, .if_icmp .ne 18, 3), (80, .aload_n 0, 1), (81, .iload 4, 2), (83, .invokevirtual 212, 3), (86, .ifCond .eq 9, 3), (89, .aload_n 0, 1), (90, .iconst 5, 1), (91, .invokevirtual 178, 3), (94, .ireturn, 1), (95, .aload_n 0, 1), (96, .bipush 72, 2), (98, .aload_n 0, 1), (99, .getfield 7, 3), (102, .sipush 3368, 3), (105, .iaload, 1), (106, .iload_n 2, 1), (107, .iconst 1, 1), (108, .iadd, 1), (109, .invokevirtual 215, 3), (112, .ifCond .ne 5, 3), (115, .iconst 0, 1), (116, .ireturn, 1), (117, .aload_n 0, 1), (118, .getfield 7, 3), (121, .sipush 3376, 3), (124, .bipush 6, 2), (126, .iload_n 3, 1), (127, .imul, 1), (128, .iadd, 1), (129, .iload_n 1, 1), (130, .iadd, 1), (131, .dup2, 1), (132, .iaload, 1), (133, .iconst 1, 1), (134, .iload 4, 2), (136, .ishl, 1), (137, .ior, 1), (138, .iastore, 1), (139, .aload_n 0, 1), (140, .getfield 7, 3), (143, .sipush 3376, 3), (146, .bipush 6, 2), (148, .iload 4, 2), (150, .imul, 1), (151, .iadd, 1), (152, .iload_n 1, 1), (153, .iadd, 1), (154, .dup2, 1), (155, .iaload, 1), (156, .iconst 1, 1), (157, .iload_n 3, 1), (158, .ishl, 1), (159, .ior, 1), (160, .iastore, 1), (161, .iconst 1, 1), (162, .ireturn, 1)], 5, [(7, 0, 12, 0), (172, 5, 224, 0), (178, 5, 227, 1), (209, 5, 240, 0), (212, 5, 241, 1), (215, 5, 238, 3)], [], (Option.some Jvm.ClassFile.FieldType.boolean), 12)
def gk_m243 : rk_M2 := ([(0, .sipush 3646, 3), (3, .iconst 5, 1), (4, .aload_n 0, 1), (5, .getfield 7, 3), (8, .sipush 3369, 3), (11, .iaload, 1), (12, .imul, 1), (13, .iadd, 1), (14, .istore_n 1, 1), (15, .aload_n 0, 1), (16, .iconst 1, 1), (17, .bipush 8, 2), (19, .bipush 10, 2), (21, .invokevirtual 198, 3), (24, .ifCond .eq 36, 3), (27, .aload_n 0, 1), (28, .ldc 189, 2), (30, .bipush 9, 2), (32, .invokevirtual 202, 3), (35, .ifCond .eq 25, 3), (38, .aload_n 0, 1), (39, .iload_n 1, 1), (40, .iconst 1, 1), (41, .bipush 99, 2), (43, .invokevirtual 206, 3), (46, .ifCond .eq 14, 3), (49, .aload_n 0, 1), (50, .ldc 189, 2), (52, .bipush 10, 2), (54, .invokevirtual 202, 3), (57, .ifCond .ne 5, 3), (60, .iconst 0, 1), (61, .ireturn, 1), (62, .aload_n 0, 1), (63, .invokevirtual 209, 3), (66, .istore_n 2, 1), (67, .iload_n 2, 1), (68, .iconst (-1), 1), (69, .if_icmp .eq 17, 3), (72, .aload_n 0, 1), (73, .iload_n 2, 1), (74, .invokevirtual 212, 3), (77, .ifCond .ne 9, 3), (80, .aload_n 0, 1), (81, .iconst 5, 1), (82, .invokevirtual 178, 3), (85, .ireturn, 1), (86, .aload_n 0, 1), (87, .bipush 72, 2), (89, .aload_n 0, 1), (90, .getfield 7, 3), (93, .sipush 3368, 3), (96, .iaload, 1), (97, .iload_n 1, 1), (98, .iconst 1, 1), (99, .iadd, 1), (100, .invokevirtual 215, 3), (103, .ifCond .ne 5, 3), (106, .iconst 0, 1), (107, .ireturn, 1), (108, .aload_n 0, 1), (109, .getfield 7, 3), (112, .sipush 3369, 3), (115, .dup2, 1), (116, .iaload, 1), (117, .iconst 1, 1), (118, .iadd, 1), (119, .iastore, 1), (120, .iconst 1, 1), (121, .ireturn, 1)], 3, [(7, 0, 12, 0), (178, 5, 227, 1), (198, 5, 237, 3), (202, 5, 230, 2), (206, 5, 231, 3), (209, 5, 240, 0), (212, 5, 241, 1), (215, 5, 238, 3)], [], (Option.some Jvm.ClassFile.FieldType.boolean), 12)
def gk_m244 : rk_M2 := ([(0, .aload_n 0, 1), (1, .getfield 218, 3), (4, .iload_n 1, 1), (5, .ishr, 1), (6, .iconst 1, 1), (7, .iand, 1), (8, .iconst 1, 1), (9, .if_icmp .ne 9, 3), (12, .aload_n 0, 1), (13, .iconst 5, 1), (14, .invokevirtual 178, 3), (17, .ireturn, 1), (18, .aload_n 0, 1), (19, .dup, 1), (20, .getfield 218, 3), (23, .iconst 1, 1), (24, .iload_n 1, 1), (25, .ishl, 1), (26, .ior, 1), (27, .putfield 218, 3), (30, .aload_n 0, 1), (31, .invokevirtual 172, 3), (34, .aload_n 0, 1), (35, .sipush 3370, 3), (38, .iload_n 1, 1), (39, .iadd, 1), (40, .iconst 5, 1), (41, .isub, 1), (42, .iload_n 1, 1), (43, .bipush 6, 2), (45, .if_icmp .ne 7, 3), (48, .iconst 1, 1), (49, .goto 4, 3), (52, .iconst 0, 1), (53, .bipush 20, 2), (55, .invokevirtual 206, 3), (58, .ireturn, 1)], 2, [(172, 5, 224, 0), (178, 5, 227, 1), (206, 5, 231, 3), (218, 0, 12, 20)], [], (Option.some Jvm.ClassFile.FieldType.boolean), 12)
def gk_m245 : rk_M2 := ([(0, .aload_n 0, 1), (1, .ldc 189, 2), (3, .invokevirtual 181, 3), (6, .tableswitch 119 0 7 #[46, 55, 64, 73, 82, 90, 99, 109], 46), (52, .aload_n 0, 1), (53, .iconst 0, 1), (54, .invokevirtual 221, 3), (57, .istore_n 1, 1), (58, .goto 73, 3), (61, .aload_n 0, 1), (62, .iconst 1, 1), (63, .invokevirtual 221, 3), (66, .istore_n 1, 1), (67, .goto 64, 3), (70, .aload_n 0, 1), (71, .iconst 2, 1), (72, .invokevirtual 225, 3), (75, .istore_n 1, 1), (76, .goto 55, 3), (79, .aload_n 0, 1), (80, .iconst 3, 1), (81, .invokevirtual 225, 3), (84, .istore_n 1, 1), (85, .goto 46, 3), (88, .aload_n 0, 1), (89, .invokevirtual 228, 3), (92, .istore_n 1, 1), (93, .goto 38, 3), (96, .aload_n 0, 1), (97, .iconst 5, 1), (98, .invokevirtual 232, 3), (101, .istore_n 1, 1), (102, .goto 29, 3), (105, .aload_n 0, 1), (106, .bipush 6, 2), (108, .invokevirtual 232, 3), (111, .istore_n 1, 1), (112, .goto 19, 3), (115, .aload_n 0, 1), (116, .bipush 7, 2), (118, .invokevirtual 232, 3), (121, .istore_n 1, 1), (122, .goto 9, 3), (125, .aload_n 0, 1), (126, .iconst 2, 1), (127, .invokevirtual 178, 3), (130, .ireturn, 1), (131, .iload_n 1, 1), (132, .ifCond .eq 16, 3), (135, .aload_n 0, 1), (136, .bipush 59, 2), (138, .invokevirtual 235, 3), (141, .ifCond .eq 7, 3), (144, .iconst 1, 1), (145, .goto 4, 3), (148, .iconst 0, 1), (149, .ireturn, 1)], 2, [(178, 5, 227, 1), (181, 5, 226, 1), (221, 5, 239, 1), (225, 5, 242, 1), (228, 5, 243, 0), (232, 5, 244, 1), (235, 5, 229, 1)], [], (Option.some Jvm.ClassFile.FieldType.boolean), 12)
def gk_m246 : rk_M2 := ([(0, .aload_n 0, 1), (1, .iload_n 1, 1), (2, .sipush 900, 3), (5, .invokevirtual 238, 3), (8, .ifCond .ne 9, 3), (11, .aload_n 0, 1), (12, .iconst 1, 1), (13, .invokevirtual 96, 3), (16, .ireturn, 1), (17, .aload_n 0, 1), (18, .sipush 3368, 3), (21, .invokevirtual 86, 3), (24, .aload_n 0, 1), (25, .iconst 0, 1), (26, .putfield 218, 3), (29, .iconst 1, 1), (30, .istore_n 2, 1), (31, .iload_n 2, 1), (32, .ifCond .eq 18, 3), (35, .aload_n 0, 1), (36, .getfield 141, 3), (39, .ifCond .eq 11, 3), (42, .aload_n 0, 1), (43, .invokevirtual 242, 3), (46, .istore_n 2, 1), (47, .goto (-16), 3), (50, .aload_n 0, 1), (51, .getfield 166, 3), (54, .ifCond .ne 63, 3), (57, .iconst 0, 1), (58, .istore_n 3, 1), (59, .iload_n 3, 1), (60, .sipush 842, 3), (63, .if_icmp .ge 25, 3), (66, .aload_n 0, 1), (67, .getfield 7, 3), (70, .iload_n 3, 1), (71, .aload_n 0, 1), (72, .getfield 7, 3), (75, .sipush 3368, 3), (78, .iload_n 3, 1), (79, .iadd, 1), (80, .iaload, 1), (81, .iastore, 1), (82, .iinc 3 1, 3), (85, .goto (-26), 3), (88, .iconst 0, 1), (89, .istore_n 3, 1), (90, .iload_n 3, 1), (91, .bipush 18, 2), (93, .if_icmp .ge 24, 3), (96, .aload_n 0, 1), (97, .getfield 13, 3), (100, .iload_n 3, 1), (101, .aload_n 0, 1), (102, .getfield 13, 3), (105, .bipush 72, 2), (107, .iload_n 3, 1), (108, .iadd, 1), (109, .laload, 1), (110, .lastore, 1), (111, .iinc 3 1, 3), (114, .goto (-24), 3), (117, .aload_n 0, 1), (118, .aload_n 0, 1), (119, .getfield 7, 3), (122, .iconst 0, 1), (123, .iaload, 1), (124, .invokevirtual 245, 3), (127, .ireturn, 1)], 4, [(7, 0, 12, 0), (13, 0, 12, 1), (86, 5, 202, 1), (96, 5, 207, 1), (141, 0, 12, 12), (166, 0, 12, 18), (218, 0, 12, 20), (238, 5, 228, 2), (242, 5, 245, 0), (245, 5, 236, 1)], [], (Option.some Jvm.ClassFile.FieldType.int), 12)
def gk_m247 : rk_M2 := ([(0, .aload_n 0, 1), (1, .iconst 0, 1), (2, .aload_n 0, 1), (3, .getfield 7, 3), (6, .iconst 0, 1), (7, .iaload, 1), (8, .iload_n 1, 1), (9, .invokevirtual 215, 3), (12, .ireturn, 1)], 2, [(7, 0, 12, 0), (215, 5, 238, 3)], [], (Option.some Jvm.ClassFile.FieldType.boolean), 12)
def gk_m248 : rk_M2 := ([(0, .aload_n 0, 1), (1, .bipush 10, 2), (3, .aload_n 0, 1), (4, .getfield 7, 3), (7, .iconst 1, 1), (8, .iaload, 1), (9, .iload_n 1, 1), (10, .invokevirtual 215, 3), (13, .ireturn, 1)], 2, [(7, 0, 12, 0), (215, 5, 238, 3)], [], (Option.some Jvm.ClassFile.FieldType.boolean), 12)
def gk_m249 : rk_M2 := ([(0, .aload_n 0, 1), (1, .ldc 189, 2), (3, .invokevirtual 181, 3), (6, .istore_n 2, 1), (7, .iload_n 2, 1), (8, .bipush 8, 2), (10, .if_icmp .eq 21, 3), (13, .iload_n 2, 1), (14, .bipush 10, 2), (16, .if_icmp .eq 15, 3), (19, .iload_n 2, 1), (20, .bipush 22, 2), (22, .if_icmp .eq 9, 3), (25, .aload_n 0, 1), (26, .iconst 2, 1), (27, .invokevirtual 178, 3), (30, .ireturn, 1), (31, .aload_n 0, 1), (32, .getfield 7, 3), (35, .iload_n 1, 1), (36, .sipush 1800, 3), (39, .iload_n 2, 1), (40, .iadd, 1), (41, .iastore, 1), (42, .aload_n 0, 1), (43, .invokevirtual 172, 3), (46, .iload_n 2, 1), (47, .bipush 22, 2), (49, .if_icmp .ne 11, 3), (52, .aload_n 0, 1), (53, .iload_n 1, 1), (54, .iconst 1, 1), (55, .iadd, 1), (56, .invokevirtual 248, 3), (59, .ireturn, 1), (60, .iload_n 2, 1), (61, .bipush 10, 2), (63, .if_icmp .ne 40, 3), (66, .aload_n 0, 1), (67, .iload_n 1, 1), (68, .iconst 1, 1), (69, .iadd, 1), (70, .invokevirtual 248, 3), (73, .ifCond .eq 28, 3), (76, .aload_n 0, 1), (77, .ldc 189, 2), (79, .bipush 17, 2), (81, .invokevirtual 202, 3), (84, .ifCond .eq 17, 3), (87, .aload_n 0, 1), (88, .iload_n 1, 1), (89, .iconst 2, 1), (90, .iadd, 1), (91, .invokevirtual 251, 3), (94, .ifCond .eq 7, 3), (97, .iconst 1, 1), (98, .goto 4, 3), (101, .iconst 0, 1), (102, .ireturn, 1), (103, .aload_n 0, 1), (104, .iload_n 1, 1), (105, .iconst 1, 1), (106, .iadd, 1), (107, .invokevirtual 251, 3), (110, .ifCond .ne 5, 3), (113, .iconst 0, 1), (114, .ireturn, 1), (115, .aload_n 0, 1), (116, .bipush 60, 2), (118, .invokevirtual 175, 3), (121, .ifCond .ne 27, 3), (124, .aload_n 0, 1), (125, .bipush 62, 2), (127, .invokevirtual 175, 3), (130, .ifCond .ne 18, 3), (133, .aload_n 0, 1), (134, .bipush 61, 2), (136, .invokevirtual 175, 3), (139, .ifCond .ne 9, 3), (142, .aload_n 0, 1), (143, .iconst 2, 1), (144, .invokevirtual 178, 3), (147, .ireturn, 1), (148, .aload_n 0, 1), (149, .getfield 7, 3), (152, .iload_n 1, 1), (153, .iconst 5, 1), (154, .iadd, 1), (155, .aload_n 0, 1), (156, .getfield 138, 3), (159, .iastore, 1), (160, .aload_n 0, 1), (161, .invokevirtual 172, 3), (164, .aload_n 0, 1), (165, .iload_n 1, 1), (166, .iconst 2, 1), (167, .iadd, 1), (168, .iconst 0, 1), (169, .sipush 999, 3), (172, .invokevirtual 206, 3), (175, .ireturn, 1)], 3, [(7, 0, 12, 0), (138, 0, 12, 15), (172, 5, 224, 0), (175, 5, 225, 1), (178, 5, 227, 1), (181, 5, 226, 1), (202, 5, 230, 2), (206, 5, 231, 3), (248, 5, 248, 1), (251, 5, 247, 1)], [], (Option.some Jvm.ClassFile.FieldType.boolean), 12)
def gk_m250 : rk_M2 := ([(0, .iload_n 1, 1), (1, .tableswitch 116 11 19 #[51, 88, 88, 88, 116, 116, 116, 99, 105], 51), (52, .aload_n 0, 1), (53, .iload_n 2, 1), (54, .iconst 1, 1), (55, .iadd, 1), (56, .invokevirtual 248, 3), (59, .ifCond .eq 28, 3), (62, .aload_n 0, 1), (63, .ldc 189, 2), (65, .bipush 16, 2), (67, .invokevirtual 202, 3), (70, .ifCond .eq 17, 3), (73, .aload_n 0, 1), (74, .iload_n 2, 1), (75, .iconst 2, 1), (76, .iadd, 1), (77, .invokevirtual 251, 3), (80, .ifCond .eq 7, 3), (83, .iconst 1, 1), (84, .goto 4, 3), (87, .iconst 0, 1), (88, .ireturn, 1), (89, .aload_n 0, 1), (90, .iload_n 2, 1), (91, .iconst 1, 1), (92, .iadd, 1), (93, .iconst 1, 1), (94, .bipush 20, 2), (96, .invokevirtual 206, 3), (99, .ireturn, 1), (100, .aload_n 0, 1), (101, .iload_n 2, 1), (102, .invokevirtual 254, 3), (105, .ireturn, 1), (106, .aload_n 0, 1), (107, .iload_n 2, 1), (108, .iconst 1, 1), (109, .iadd, 1), (110, .iconst 1, 1), (111, .bipush 99, 2), (113, .invokevirtual 206, 3), (116, .ireturn, 1), (117, .iconst 1, 1), (118, .ireturn, 1)], 3, [(202, 5, 230, 2), (206, 5, 231, 3), (248, 5, 248, 1), (251, 5, 247, 1), (254, 5, 249, 1)], [], (Option.some Jvm.ClassFile.FieldType.boolean), 12)
def gk_m251 : rk_M2 := ([(0, .aload_n 0, 1), (1, .ldc 189, 2), (3, .invokevirtual 181, 3), (6, .istore_n 1, 1), (7, .aload_n 0, 1), (8, .getfield 7, 3), (11, .sipush 3374, 3), (14, .iaload, 1), (15, .istore_n 2, 1), (16, .sipush 3846, 3), (19, .bipush 6, 2), (21, .iload_n 2, 1), (22, .imul, 1), (23, .iadd, 1), (24, .istore_n 3, 1), (25, .iload_n 1, 1), (26, .bipush 18, 2), (28, .if_icmp .eq 9, 3), (31, .iload_n 1, 1), (32, .bipush 19, 2), (34, .if_icmp .ne 7, 3), (37, .iconst 1, 1), (38, .goto 4, 3), (41, .iconst 0, 1), (42, .istore 4, 2), (44, .iload_n 1, 1), (45, .bipush 11, 2), (47, .if_icmp .lt 34, 3), (50, .iload_n 1, 1), (51, .bipush 21, 2), (53, .if_icmp .gt 28, 3), (56, .iload_n 1, 1), (57, .bipush 16, 2), (59, .if_icmp .eq 22, 3), (62, .iload_n 1, 1), (63, .bipush 17, 2), (65, .if_icmp .eq 16, 3), (68, .iload_n 1, 1), (69, .bipush 20, 2), (71, .if_icmp .ne 16, 3), (74, .aload_n 0, 1), (75, .getfield 257, 3), (78, .ifCond .ne 9, 3), (81, .aload_n 0, 1), (82, .iconst 2, 1), (83, .invokevirtual 178, 3), (86, .ireturn, 1), (87, .iload_n 1, 1), (88, .bipush 20, 2), (90, .if_icmp .eq 19, 3), (93, .aload_n 0, 1), (94, .getfield 260, 3), (97, .bipush 30, 2), (99, .if_icmp .ne 10, 3), (102, .aload_n 0, 1), (103, .bipush 6, 2), (105, .invokevirtual 178, 3), (108, .ireturn, 1), (109, .iload 4, 2), (111, .ifCond .eq 18, 3), (114, .aload_n 0, 1), (115, .getfield 257, 3), (118, .iconst 3, 1), (119, .if_icmp .ne 10, 3), (122, .aload_n 0, 1), (123, .bipush 7, 2), (125, .invokevirtual 178, 3), (128, .ireturn, 1), (129, .aload_n 0, 1), (130, .dup, 1), (131, .getfield 260, 3), (134, .iload_n 1, 1), (135, .bipush 20, 2), (137, .if_icmp .ne 7, 3), (140, .iconst 0, 1), (141, .goto 4, 3), (144, .iconst 1, 1), (145, .iadd, 1), (146, .putfield 260, 3), (149, .aload_n 0, 1), (150, .getfield 7, 3), (153, .iload_n 3, 1), (154, .iload_n 1, 1), (155, .iastore, 1), (156, .iconst 1, 1), (157, .istore 5, 2), (159, .iload 5, 2), (161, .bipush 6, 2), (163, .if_icmp .ge 19, 3), (166, .aload_n 0, 1), (167, .getfield 7, 3), (170, .iload_n 3, 1), (171, .iload 5, 2), (173, .iadd, 1), (174, .iconst 0, 1), (175, .iastore, 1), (176, .iinc 5 1, 3), (179, .goto (-20), 3), (182, .aload_n 0, 1), (183, .getfield 7, 3), (186, .sipush 3374, 3), (189, .dup2, 1), (190, .iaload, 1), (191, .iconst 1, 1), (192, .iadd, 1), (193, .iastore, 1), (194, .aload_n 0, 1), (195, .invokevirtual 172, 3), (198, .aload_n 0, 1), (199, .iload_n 1, 1), (200, .iload_n 3, 1), (201, .invokevirtual 263, 3), (204, .ifCond .ne 5, 3), (207, .iconst 0, 1), (208, .ireturn, 1), (209, .iload 4, 2), (211, .ifCond .eq 23, 3), (214, .aload_n 0, 1), (215, .getfield 44, 3), (218, .aload_n 0, 1), (219, .getfield 257, 3), (222, .iload_n 2, 1), (223, .iastore, 1), (224, .aload_n 0, 1), (225, .dup, 1), (226, .getfield 257, 3), (229, .iconst 1, 1), (230, .iadd, 1), (231, .putfield 257, 3), (234, .iload_n 1, 1), (235, .bipush 20, 2), (237, .if_icmp .ne 54, 3), (240, .aload_n 0, 1), (241, .dup, 1), (242, .getfield 257, 3), (245, .iconst 1, 1), (246, .isub, 1), (247, .putfield 257, 3), (250, .aload_n 0, 1), (251, .getfield 7, 3), (254, .iload_n 3, 1), (255, .iconst 4, 1), (256, .iadd, 1), (257, .aload_n 0, 1), (258, .getfield 44, 3), (261, .aload_n 0, 1), (262, .getfield 257, 3), (265, .iaload, 1), (266, .iastore, 1), (267, .aload_n 0, 1), (268, .getfield 7, 3), (271, .sipush 3846, 3), (274, .bipush 6, 2), (276, .aload_n 0, 1), (277, .getfield 44, 3), (280, .aload_n 0, 1), (281, .getfield 257, 3), (284, .iaload, 1), (285, .imul, 1), (286, .iadd, 1), (287, .iconst 4, 1), (288, .iadd, 1), (289, .iload_n 2, 1), (290, .iastore, 1), (291, .aload_n 0, 1), (292, .bipush 59, 2), (294, .invokevirtual 235, 3), (297, .ireturn, 1)], 6, [(7, 0, 12, 0), (44, 0, 12, 21), (172, 5, 224, 0), (178, 5, 227, 1), (181, 5, 226, 1), (235, 5, 229, 1), (257, 0, 12, 22), (260, 0, 12, 23), (263, 5, 250, 2)], [], (Option.some Jvm.ClassFile.FieldType.boolean), 12)
def gk_m252 : rk_M2 := ([(0, .aload_n 0, 1), (1, .iload_n 1, 1), (2, .sipush 300, 3), (5, .invokevirtual 238, 3), (8, .ifCond .ne 9, 3), (11, .aload_n 0, 1), (12, .iconst 1, 1), (13, .invokevirtual 96, 3), (16, .ireturn, 1), (17, .aload_n 0, 1), (18, .getfield 7, 3), (21, .sipush 3374, 3), (24, .iconst 0, 1), (25, .iastore, 1), (26, .aload_n 0, 1), (27, .iconst 0, 1), (28, .putfield 257, 3), (31, .aload_n 0, 1), (32, .iconst 0, 1), (33, .putfield 260, 3), (36, .iconst 1, 1), (37, .istore_n 2, 1), (38, .iload_n 2, 1), (39, .ifCond .eq 18, 3), (42, .aload_n 0, 1), (43, .getfield 141, 3), (46, .ifCond .eq 11, 3), (49, .aload_n 0, 1), (50, .invokevirtual 266, 3), (53, .istore_n 2, 1), (54, .goto (-16), 3), (57, .aload_n 0, 1), (58, .getfield 166, 3), (61, .ifCond .ne 16, 3), (64, .aload_n 0, 1), (65, .getfield 257, 3), (68, .ifCond .le 9, 3), (71, .aload_n 0, 1), (72, .iconst 2, 1), (73, .invokevirtual 178, 3), (76, .pop, 1), (77, .aload_n 0, 1), (78, .getfield 166, 3), (81, .ifCond .ne 51, 3), (84, .aload_n 0, 1), (85, .getfield 7, 3), (88, .bipush 6, 2), (90, .aload_n 0, 1), (91, .getfield 7, 3), (94, .sipush 3374, 3), (97, .iaload, 1), (98, .iastore, 1), (99, .sipush 478, 3), (102, .istore_n 3, 1), (103, .iload_n 3, 1), (104, .sipush 838, 3), (107, .if_icmp .ge 25, 3), (110, .aload_n 0, 1), (111, .getfield 7, 3), (114, .iload_n 3, 1), (115, .aload_n 0, 1), (116, .getfield 7, 3), (119, .sipush 3368, 3), (122, .iload_n 3, 1), (123, .iadd, 1), (124, .iaload, 1), (125, .iastore, 1), (126, .iinc 3 1, 3), (129, .goto (-26), 3), (132, .aload_n 0, 1), (133, .aload_n 0, 1), (134, .getfield 260, 3), (137, .invokevirtual 245, 3), (140, .ireturn, 1)], 4, [(7, 0, 12, 0), (96, 5, 207, 1), (141, 0, 12, 12), (166, 0, 12, 18), (178, 5, 227, 1), (238, 5, 228, 2), (245, 5, 236, 1), (257, 0, 12, 22), (260, 0, 12, 23), (266, 5, 251, 0)], [], (Option.some Jvm.ClassFile.FieldType.int), 12)
def gk_m253 : rk_M2 := ([(0, .bipush 8, 2), (2, .bipush 6, 2), (4, .iload_n 0, 1), (5, .imul, 1), (6, .iadd, 1), (7, .ireturn, 1)], 1, [], [], (Option.some Jvm.ClassFile.FieldType.int), 12)
def gk_m254 : rk_M2 := ([(0, .sipush 278, 3), (3, .iconst 5, 1), (4, .iload_n 0, 1), (5, .imul, 1), (6, .iadd, 1), (7, .ireturn, 1)], 1, [], [], (Option.some Jvm.ClassFile.FieldType.int), 12)
def gk_m255 : rk_M2 := ([(0, .lload_n 1, 1), (1, .lconst 0, 1), (2, .lcmp, 1), (3, .ifCond .lt 19, 3), (6, .lload_n 1, 1), (7, .aload_n 0, 1), (8, .getfield 7, 3), (11, .iconst 0, 1), (12, .iaload, 1), (13, .i2l, 1), (14, .lcmp, 1), (15, .ifCond .ge 7, 3), (18, .iconst 1, 1), (19, .goto 4, 3), (22, .iconst 0, 1), (23, .ireturn, 1)], 3, [(7, 0, 12, 0)], [], (Option.some Jvm.ClassFile.FieldType.boolean), 12)
def gk_m256 : rk_M2 := ([(0, .aload_n 0, 1), (1, .getfield 7, 3), (4, .iload_n 1, 1), (5, .invokestatic 269, 3), (8, .iaload, 1), (9, .iconst 1, 1), (10, .if_icmp .ne 7, 3), (13, .iconst 1, 1), (14, .goto 4, 3), (17, .iconst 0, 1), (18, .ireturn, 1)], 2, [(7, 0, 12, 0), (269, 7, 253, 1)], [], (Option.some Jvm.ClassFile.FieldType.boolean), 12)
def gk_m257 : rk_M2 := ([(0, .aload_n 0, 1), (1, .iload_n 1, 1), (2, .i2l, 1), (3, .invokevirtual 272, 3), (6, .ifCond .eq 15, 3), (9, .aload_n 0, 1), (10, .iload_n 1, 1), (11, .invokevirtual 276, 3), (14, .ifCond .ne 7, 3), (17, .iconst 1, 1), (18, .goto 4, 3), (21, .iconst 0, 1), (22, .ireturn, 1)], 2, [(272, 5, 255, 1), (276, 5, 256, 1)], [], (Option.some Jvm.ClassFile.FieldType.boolean), 12)
def gk_m258 : rk_M2 := ([(0, .iload_n 1, 1), (1, .ifCond .lt 17, 3), (4, .iload_n 1, 1), (5, .aload_n 0, 1), (6, .getfield 7, 3), (9, .iconst 1, 1), (10, .iaload, 1), (11, .if_icmp .ge 7, 3), (14, .iconst 1, 1), (15, .goto 4, 3), (18, .iconst 0, 1), (19, .ireturn, 1)], 2, [(7, 0, 12, 0)], [], (Option.some Jvm.ClassFile.FieldType.boolean), 12)
def gk_m259 : rk_M2 := ([(0, .aload_n 0, 1), (1, .iload_n 1, 1), (2, .invokevirtual 279, 3), (5, .ifCond .eq 16, 3), (8, .aload_n 0, 1), (9, .iload_n 2, 1), (10, .i2l, 1), (11, .invokevirtual 272, 3), (14, .ifCond .eq 7, 3), (17, .iconst 1, 1), (18, .goto 4, 3), (21, .iconst 0, 1), (22, .ireturn, 1)], 3, [(272, 5, 255, 1), (279, 5, 258, 1)], [], (Option.some Jvm.ClassFile.FieldType.boolean), 12)
def gk_m260 : rk_M2 := ([(0, .iload_n 1, 1), (1, .iload_n 2, 1), (2, .ishr, 1), (3, .iconst 1, 1), (4, .iand, 1), (5, .iconst 1, 1), (6, .if_icmp .ne 7, 3), (9, .iconst 1, 1), (10, .goto 4, 3), (13, .iconst 0, 1), (14, .ireturn, 1)], 3, [], [], (Option.some Jvm.ClassFile.FieldType.boolean), 12)
def gk_m261 : rk_M2 := ([(0, .iconst 0, 1), (1, .istore_n 1, 1), (2, .iload_n 0, 1), (3, .istore_n 2, 1), (4, .iload_n 2, 1), (5, .ifCond .eq 15, 3), (8, .iinc 1 1, 3), (11, .iload_n 2, 1), (12, .iload_n 2, 1), (13, .iconst 1, 1), (14, .isub, 1), (15, .iand, 1), (16, .istore_n 2, 1), (17, .goto (-13), 3), (20, .iload_n 1, 1), (21, .ireturn, 1)], 3, [], [], (Option.some Jvm.ClassFile.FieldType.int), 12)
def gk_m262 : rk_M2 := ([(0, .aload_n 0, 1), (1, .aload_n 0, 1), (2, .getfield 7, 3), (5, .iload_n 1, 1), (6, .invokestatic 269, 3), (9, .iconst 2, 1), (10, .iadd, 1), (11, .iaload, 1), (12, .iload_n 2, 1), (13, .invokevirtual 282, 3), (16, .ireturn, 1)], 3, [(7, 0, 12, 0), (269, 7, 253, 1), (282, 5, 260, 2)], [], (Option.some Jvm.ClassFile.FieldType.boolean), 12)
def gk_m263 : rk_M2 := ([(0, .aload_n 0, 1), (1, .getfield 7, 3), (4, .iload_n 1, 1), (5, .invokestatic 269, 3), (8, .iconst 4, 1), (9, .iadd, 1), (10, .iaload, 1), (11, .iconst 1, 1), (12, .if_icmp .ne 7, 3), (15, .iconst 1, 1), (16, .goto 4, 3), (19, .iconst 0, 1), (20, .ireturn, 1)], 2, [(7, 0, 12, 0), (269, 7, 253, 1)], [], (Option.some Jvm.ClassFile.FieldType.boolean), 12)
def gk_m264 : rk_M2 := ([(0, .aload_n 0, 1), (1, .getfield 7, 3), (4, .iload_n 1, 1), (5, .invokestatic 285, 3), (8, .iaload, 1), (9, .ireturn, 1)], 2, [(7, 0, 12, 0), (285, 7, 254, 1)], [], (Option.some Jvm.ClassFile.FieldType.int), 12)
def gk_m265 : rk_M2 := ([(0, .aload_n 0, 1), (1, .getfield 7, 3), (4, .iload_n 1, 1), (5, .invokestatic 285, 3), (8, .iconst 1, 1), (9, .iadd, 1), (10, .iaload, 1), (11, .ireturn, 1)], 2, [(7, 0, 12, 0), (285, 7, 254, 1)], [], (Option.some Jvm.ClassFile.FieldType.int), 12)
def gk_m266 : rk_M2 := ([(0, .aload_n 0, 1), (1, .getfield 7, 3), (4, .iload_n 1, 1), (5, .invokestatic 285, 3), (8, .iconst 2, 1), (9, .iadd, 1), (10, .iaload, 1), (11, .iconst 1, 1), (12, .if_icmp .ne 7, 3), (15, .iconst 1, 1), (16, .goto 4, 3), (19, .iconst 0, 1), (20, .ireturn, 1)], 2, [(7, 0, 12, 0), (285, 7, 254, 1)], [], (Option.some Jvm.ClassFile.FieldType.boolean), 12)
def gk_m267 : rk_M2 := ([(0, .aload_n 0, 1), (1, .getfield 7, 3), (4, .iload_n 1, 1), (5, .invokestatic 285, 3), (8, .iconst 3, 1), (9, .iadd, 1), (10, .iaload, 1), (11, .ireturn, 1)], 2, [(7, 0, 12, 0), (285, 7, 254, 1)], [], (Option.some Jvm.ClassFile.FieldType.int), 12)
def gk_m268 : rk_M2 := ([(0, .aload_n 0, 1), (1, .getfield 7, 3), (4, .sipush 318, 3), (7, .bipush 20, 2), (9, .iload_n 1, 1), (10, .imul, 1), (11, .iadd, 1), (12, .iload_n 2, 1), (13, .iadd, 1), (14, .iaload, 1), (15, .ireturn, 1)], 3, [(7, 0, 12, 0)], [], (Option.some Jvm.ClassFile.FieldType.int), 12)
def gk_m269 : rk_M2 := ([(0, .aload_n 0, 1), (1, .getfield 7, 3), (4, .iconst 5, 1), (5, .iaload, 1), (6, .iload_n 2, 1), (7, .if_icmp .ge 7, 3), (10, .iconst 0, 1), (11, .goto 27, 3), (14, .aload_n 0, 1), (15, .getfield 7, 3), (18, .bipush 68, 2), (20, .bipush 21, 2), (22, .iload_n 1, 1), (23, .imul, 1), (24, .iadd, 1), (25, .aload_n 0, 1), (26, .getfield 7, 3), (29, .iconst 5, 1), (30, .iaload, 1), (31, .iload_n 2, 1), (32, .isub, 1), (33, .bipush 21, 2), (35, .irem, 1), (36, .iadd, 1), (37, .iaload, 1), (38, .ireturn, 1)], 3, [(7, 0, 12, 0)], [], (Option.some Jvm.ClassFile.FieldType.int), 12)
def gk_m270 : rk_M2 := ([(0, .iconst 0, 1), (1, .istore_n 2, 1), (2, .iconst 0, 1), (3, .istore_n 3, 1), (4, .iload_n 3, 1), (5, .aload_n 0, 1), (6, .getfield 7, 3), (9, .iconst 3, 1), (10, .iaload, 1), (11, .if_icmp .ge 18, 3), (14, .iload_n 2, 1), (15, .aload_n 0, 1), (16, .iload_n 1, 1), (17, .iload_n 3, 1), (18, .invokevirtual 288, 3), (21, .iadd, 1), (22, .istore_n 2, 1), (23, .iinc 3 1, 3), (26, .goto (-22), 3), (29, .iload_n 2, 1), (30, .ireturn, 1)], 4, [(7, 0, 12, 0), (288, 5, 269, 2)], [], (Option.some Jvm.ClassFile.FieldType.int), 12)
def gk_m271 : rk_M2 := ([(0, .aload_n 0, 1), (1, .iload_n 1, 1), (2, .invokevirtual 276, 3), (5, .ifCond .eq 9, 3), (8, .sipush 999, 3), (11, .goto 43, 3), (14, .aload_n 0, 1), (15, .iload_n 1, 1), (16, .invokevirtual 291, 3), (19, .ifCond .eq 7, 3), (22, .iconst 0, 1), (23, .goto 31, 3), (26, .iconst 0, 1), (27, .aload_n 0, 1), (28, .getfield 7, 3), (31, .iload_n 1, 1), (32, .invokestatic 269, 3), (35, .iconst 1, 1), (36, .iadd, 1), (37, .iaload, 1), (38, .aload_n 0, 1), (39, .getfield 7, 3), (42, .iconst 2, 1), (43, .iaload, 1), (44, .aload_n 0, 1), (45, .iload_n 1, 1), (46, .invokevirtual 294, 3), (49, .imul, 1), (50, .isub, 1), (51, .invokestatic 297, 3), (54, .ireturn, 1)], 2, [(7, 0, 12, 0), (269, 7, 253, 1), (276, 5, 256, 1), (291, 5, 263, 1), (294, 5, 270, 1), (297, 14, 0, 0)], [], (Option.some Jvm.ClassFile.FieldType.int), 12)
def gk_m272 : rk_M2 := ([(0, .iconst 0, 1), (1, .istore_n 3, 1), (2, .iconst 0, 1), (3, .istore 4, 2), (5, .iload 4, 2), (7, .aload_n 0, 1), (8, .getfield 7, 3), (11, .iconst 1, 1), (12, .iaload, 1), (13, .if_icmp .ge 71, 3), (16, .iload_n 3, 1), (17, .iload 4, 2), (19, .iload_n 2, 1), (20, .if_icmp .eq 55, 3), (23, .aload_n 0, 1), (24, .iload 4, 2), (26, .invokevirtual 300, 3), (29, .ifCond .ne 46, 3), (32, .aload_n 0, 1), (33, .iload 4, 2), (35, .invokevirtual 303, 3), (38, .iload_n 1, 1), (39, .if_icmp .eq 27, 3), (42, .aload_n 0, 1), (43, .aload_n 0, 1), (44, .getfield 7, 3), (47, .iload_n 1, 1), (48, .invokestatic 269, 3), (51, .iconst 3, 1), (52, .iadd, 1), (53, .iaload, 1), (54, .aload_n 0, 1), (55, .iload 4, 2), (57, .invokevirtual 303, 3), (60, .invokevirtual 282, 3), (63, .ifCond .eq 12, 3), (66, .aload_n 0, 1), (67, .iload 4, 2), (69, .invokevirtual 306, 3), (72, .goto 4, 3), (75, .iconst 0, 1), (76, .iadd, 1), (77, .istore_n 3, 1), (78, .iinc 4 1, 3), (81, .goto (-76), 3), (84, .iload_n 3, 1), (85, .ireturn, 1)], 5, [(7, 0, 12, 0), (269, 7, 253, 1), (282, 5, 260, 2), (300, 5, 266, 1), (303, 5, 265, 1), (306, 5, 264, 1)], [], (Option.some Jvm.ClassFile.FieldType.int), 12)
def gk_m273 : rk_M2 := ([(0, .iconst 0, 1), (1, .istore_n 2, 1), (2, .iconst 0, 1), (3, .istore_n 3, 1), (4, .iload_n 3, 1), (5, .aload_n 0, 1), (6, .getfield 7, 3), (9, .iconst 0, 1), (10, .iaload, 1), (11, .if_icmp .ge 47, 3), (14, .iload_n 1, 1), (15, .iconst 2, 1), (16, .if_icmp .ge 42, 3), (19, .iload_n 2, 1), (20, .iload_n 1, 1), (21, .ifCond .ne 14, 3), (24, .aload_n 0, 1), (25, .iload_n 3, 1), (26, .invokevirtual 276, 3), (29, .ifCond .eq 20, 3), (32, .goto 11, 3), (35, .aload_n 0, 1), (36, .iload_n 3, 1), (37, .invokevirtual 291, 3), (40, .ifCond .eq 9, 3), (43, .iconst 1, 1), (44, .iload_n 3, 1), (45, .ishl, 1), (46, .goto 4, 3), (49, .iconst 0, 1), (50, .ior, 1), (51, .istore_n 2, 1), (52, .iinc 3 1, 3), (55, .goto (-51), 3), (58, .iconst 0, 1), (59, .istore_n 3, 1), (60, .iload_n 3, 1), (61, .aload_n 0, 1), (62, .getfield 7, 3), (65, .iconst 1, 1), (66, .iaload, 1), (67, .if_icmp .ge 48, 3), (70, .iload_n 1, 1), (71, .iconst 1, 1), (72, .if_icmp .le 43, 3), (75, .iload_n 2, 1), (76, .iload_n 1, 1), (77, .iconst 2, 1), (78, .if_icmp .ne 14, 3), (81, .aload_n 0, 1), (82, .iload_n 3, 1), (83, .invokevirtual 300, 3), (86, .ifCond .eq 20, 3), (89, .goto 11, 3), (92, .aload_n 0, 1), (93, .iload_n 3, 1), (94, .invokevirtual 309, 3), (97, .ifCond .le 9, 3), (100, .iconst 1, 1), (101, .iload_n 3, 1), (102, .ishl, 1), (103, .goto 4, 3), (106, .iconst 0, 1), (107, .ior, 1), (108, .istore_n 2, 1), (109, .iinc 3 1, 3), (112, .goto (-52), 3), (115, .iload_n 2, 1), (116, .ireturn, 1)], 4, [(7, 0, 12, 0), (276, 5, 256, 1), (291, 5, 263, 1), (300, 5, 266, 1), (309, 5, 267, 1)], [], (Option.some Jvm.ClassFile.FieldType.int), 12)
def gk_m274 : rk_M2 := ([(0, .iload_n 1, 1), (1, .ifCond .lt 9, 3), (4, .iload_n 1, 1), (5, .bipush 9, 2), (7, .if_icmp .le 11, 3), (10, .aload_n 0, 1), (11, .iconst 1, 1), (12, .invokevirtual 96, 3), (15, .goto 30, 3), (18, .aload_n 0, 1), (19, .iload_n 1, 1), (20, .bipush 6, 2), (22, .if_icmp .ge 12, 3), (25, .aload_n 0, 1), (26, .getfield 7, 3), (29, .iload_n 1, 1), (30, .iaload, 1), (31, .goto 11, 3), (34, .aload_n 0, 1), (35, .iload_n 1, 1), (36, .bipush 6, 2), (38, .isub, 1), (39, .invokevirtual 312, 3), (42, .invokevirtual 100, 3), (45, .ireturn, 1)], 2, [(7, 0, 12, 0), (96, 5, 207, 1), (100, 5, 208, 1), (312, 5, 273, 1)], [], (Option.some Jvm.ClassFile.FieldType.int), 12)
def gk_m275 : rk_M2 := ([(0, .aload_n 0, 1), (1, .iload_n 1, 1), (2, .invokevirtual 315, 3), (5, .ifCond .ne 9, 3), (8, .aload_n 0, 1), (9, .iconst 1, 1), (10, .invokevirtual 96, 3), (13, .ireturn, 1), (14, .iload_n 2, 1), (15, .tableswitch 96 0 4 #[33, 49, 59, 69, 80], 33), (48, .aload_n 0, 1), (49, .aload_n 0, 1), (50, .getfield 7, 3), (53, .iload_n 1, 1), (54, .invokestatic 269, 3), (57, .iconst 1, 1), (58, .iadd, 1), (59, .iaload, 1), (60, .invokevirtual 100, 3), (63, .ireturn, 1), (64, .aload_n 0, 1), (65, .aload_n 0, 1), (66, .iload_n 1, 1), (67, .invokevirtual 318, 3), (70, .invokevirtual 100, 3), (73, .ireturn, 1), (74, .aload_n 0, 1), (75, .aload_n 0, 1), (76, .iload_n 1, 1), (77, .invokevirtual 294, 3), (80, .invokevirtual 100, 3), (83, .ireturn, 1), (84, .aload_n 0, 1), (85, .aload_n 0, 1), (86, .iload_n 1, 1), (87, .iconst (-1), 1), (88, .invokevirtual 321, 3), (91, .invokevirtual 100, 3), (94, .ireturn, 1), (95, .aload_n 0, 1), (96, .aload_n 0, 1), (97, .getfield 7, 3), (100, .iload_n 1, 1), (101, .invokestatic 269, 3), (104, .iconst 5, 1), (105, .iadd, 1), (106, .iaload, 1), (107, .invokevirtual 100, 3), (110, .ireturn, 1), (111, .aload_n 0, 1), (112, .iconst 1, 1), (113, .invokevirtual 96, 3), (116, .ireturn, 1)], 3, [(7, 0, 12, 0), (96, 5, 207, 1), (100, 5, 208, 1), (269, 7, 253, 1), (294, 5, 270, 1), (315, 5, 257, 1), (318, 5, 271, 1), (321, 5, 272, 2)], [], (Option.some Jvm.ClassFile.FieldType.int), 12)
def gk_m276 : rk_M2 := ([(0, .aload_n 0, 1), (1, .iload_n 1, 1), (2, .invokevirtual 279, 3), (5, .ifCond .ne 9, 3), (8, .aload_n 0, 1), (9, .iconst 1, 1), (10, .invokevirtual 96, 3), (13, .ireturn, 1), (14, .iload_n 2, 1), (15, .tableswitch 75 0 3 #[29, 39, 49, 59], 29), (44, .aload_n 0, 1), (45, .aload_n 0, 1), (46, .iload_n 1, 1), (47, .invokevirtual 306, 3), (50, .invokevirtual 100, 3), (53, .ireturn, 1), (54, .aload_n 0, 1), (55, .aload_n 0, 1), (56, .iload_n 1, 1), (57, .invokevirtual 303, 3), (60, .invokevirtual 100, 3), (63, .ireturn, 1), (64, .aload_n 0, 1), (65, .aload_n 0, 1), (66, .iload_n 1, 1), (67, .invokevirtual 309, 3), (70, .invokevirtual 100, 3), (73, .ireturn, 1), (74, .aload_n 0, 1), (75, .aload_n 0, 1), (76, .getfield 7, 3), (79, .iload_n 1, 1), (80, .invokestatic 285, 3), (83, .iconst 4, 1), (84, .iadd, 1), (85, .iaload, 1), (86, .invokevirtual 100, 3), (89, .ireturn, 1), (90, .aload_n 0, 1), (91, .iconst 1, 1), (92, .invokevirtual 96, 3), (95, .ireturn, 1)], 3, [(7, 0, 12, 0), (96, 5, 207, 1), (100, 5, 208, 1), (279, 5, 258, 1), (285, 7, 254, 1), (303, 5, 265, 1), (306, 5, 264, 1), (309, 5, 267, 1)], [], (Option.some Jvm.ClassFile.FieldType.int), 12)
def gk_m277 : rk_M2 := ([(0, .aload_n 0, 1), (1, .iload_n 1, 1), (2, .invokevirtual 279, 3), (5, .ifCond .ne 11, 3), (8, .aload_n 0, 1), (9, .iconst 1, 1), (10, .invokevirtual 96, 3), (13, .goto 35, 3), (16, .iload_n 2, 1), (17, .ifCond .lt 12, 3), (20, .iload_n 2, 1), (21, .aload_n 0, 1), (22, .iload_n 1, 1), (23, .invokevirtual 309, 3), (26, .if_icmp .lt 12, 3), (29, .aload_n 0, 1), (30, .bipush 6, 2), (32, .invokevirtual 96, 3), (35, .goto 13, 3), (38, .aload_n 0, 1), (39, .aload_n 0, 1), (40, .iload_n 1, 1), (41, .iload_n 2, 1), (42, .invokevirtual 324, 3), (45, .invokevirtual 100, 3), (48, .ireturn, 1)], 3, [(96, 5, 207, 1), (100, 5, 208, 1), (279, 5, 258, 1), (309, 5, 267, 1), (324, 5, 268, 2)], [], (Option.some Jvm.ClassFile.FieldType.int), 12)
def gk_m278 : rk_M2 := ([(0, .aload_n 0, 1), (1, .iload_n 1, 1), (2, .i2l, 1), (3, .invokevirtual 272, 3), (6, .ifCond .eq 21, 3), (9, .aload_n 0, 1), (10, .iload_n 2, 1), (11, .i2l, 1), (12, .invokevirtual 272, 3), (15, .ifCond .eq 12, 3), (18, .iload_n 1, 1), (19, .iload_n 2, 1), (20, .if_icmp .eq 7, 3), (23, .iconst 1, 1), (24, .goto 4, 3), (27, .iconst 0, 1), (28, .ireturn, 1)], 3, [(272, 5, 255, 1)], [], (Option.some Jvm.ClassFile.FieldType.boolean), 12)
def gk_m279 : rk_M2 := ([(0, .aload_n 0, 1), (1, .iload_n 1, 1), (2, .iload_n 2, 1), (3, .invokevirtual 327, 3), (6, .ifCond .eq 24, 3), (9, .aload_n 0, 1), (10, .aload_n 0, 1), (11, .iload_n 1, 1), (12, .iload_n 2, 1), (13, .invokevirtual 330, 3), (16, .ifCond .eq 7, 3), (19, .iconst 1, 1), (20, .goto 4, 3), (23, .iconst 0, 1), (24, .invokevirtual 100, 3), (27, .goto 8, 3), (30, .aload_n 0, 1), (31, .iconst 1, 1), (32, .invokevirtual 96, 3), (35, .ireturn, 1)], 3, [(96, 5, 207, 1), (100, 5, 208, 1), (327, 5, 278, 2), (330, 5, 262, 2)], [], (Option.some Jvm.ClassFile.FieldType.int), 12)
def gk_m280 : rk_M2 := ([(0, .aload_n 0, 1), (1, .iload_n 1, 1), (2, .iload_n 2, 1), (3, .invokevirtual 327, 3), (6, .ifCond .eq 34, 3), (9, .aload_n 0, 1), (10, .aload_n 0, 1), (11, .aload_n 0, 1), (12, .getfield 7, 3), (15, .iload_n 1, 1), (16, .invokestatic 269, 3), (19, .iconst 3, 1), (20, .iadd, 1), (21, .iaload, 1), (22, .iload_n 2, 1), (23, .invokevirtual 282, 3), (26, .ifCond .eq 7, 3), (29, .iconst 1, 1), (30, .goto 4, 3), (33, .iconst 0, 1), (34, .invokevirtual 100, 3), (37, .goto 8, 3), (40, .aload_n 0, 1), (41, .iconst 1, 1), (42, .invokevirtual 96, 3), (45, .ireturn, 1)], 3, [(7, 0, 12, 0), (96, 5, 207, 1), (100, 5, 208, 1), (269, 7, 253, 1), (282, 5, 260, 2), (327, 5, 278, 2)], [], (Option.some Jvm.ClassFile.FieldType.int), 12)
def gk_m281 : rk_M2 := ([(0, .aload_n 0, 1), (1, .iload_n 1, 1), (2, .i2l, 1), (3, .invokevirtual 272, 3), (6, .ifCond .ne 9, 3), (9, .aload_n 0, 1), (10, .iconst 1, 1), (11, .invokevirtual 96, 3), (14, .ireturn, 1), (15, .iconst 0, 1), (16, .istore_n 2, 1), (17, .iconst 0, 1), (18, .istore_n 3, 1), (19, .iload_n 3, 1), (20, .aload_n 0, 1), (21, .getfield 7, 3), (24, .iconst 1, 1), (25, .iaload, 1), (26, .if_icmp .ge 28, 3), (29, .iload_n 2, 1), (30, .aload_n 0, 1), (31, .iload_n 3, 1), (32, .invokevirtual 303, 3), (35, .iload_n 1, 1), (36, .if_icmp .ne 9, 3), (39, .iconst 1, 1), (40, .iload_n 3, 1), (41, .ishl, 1), (42, .goto 4, 3), (45, .iconst 0, 1), (46, .ior, 1), (47, .istore_n 2, 1), (48, .iinc 3 1, 3), (51, .goto (-32), 3), (54, .aload_n 0, 1), (55, .iload_n 2, 1), (56, .invokevirtual 100, 3), (59, .ireturn, 1)], 4, [(7, 0, 12, 0), (96, 5, 207, 1), (100, 5, 208, 1), (272, 5, 255, 1), (303, 5, 265, 1)], [], (Option.some Jvm.ClassFile.FieldType.int), 12)
def gk_m282 : rk_M2 := ([(0, .aload_n 0, 1), (1, .getfield 7, 3), (4, .iload_n 1, 1), (5, .invokestatic 269, 3), (8, .iconst 4, 1), (9, .iadd, 1), (10, .iconst 1, 1), (11, .iastore, 1), (12, .aload_n 0, 1), (13, .getfield 7, 3), (16, .iload_n 1, 1), (17, .invokestatic 269, 3), (20, .iconst 1, 1), (21, .iadd, 1), (22, .iconst 0, 1), (23, .iastore, 1), (24, .iconst 0, 1), (25, .istore_n 2, 1), (26, .iload_n 2, 1), (27, .bipush 21, 2), (29, .if_icmp .ge 24, 3), (32, .aload_n 0, 1), (33, .getfield 7, 3), (36, .bipush 68, 2), (38, .bipush 21, 2), (40, .iload_n 1, 1), (41, .imul, 1), (42, .iadd, 1), (43, .iload_n 2, 1), (44, .iadd, 1), (45, .iconst 0, 1), (46, .iastore, 1), (47, .iinc 2 1, 3), (50, .goto (-24), 3), (53, .iconst 0, 1), (54, .istore_n 2, 1), (55, .iload_n 2, 1), (56, .aload_n 0, 1), (57, .getfield 7, 3), (60, .iconst 1, 1), (61, .iaload, 1), (62, .if_icmp .ge 31, 3), (65, .aload_n 0, 1), (66, .iload_n 2, 1), (67, .invokevirtual 303, 3), (70, .iload_n 1, 1), (71, .if_icmp .ne 16, 3), (74, .aload_n 0, 1), (75, .iload_n 2, 1), (76, .invokevirtual 300, 3), (79, .ifCond .ne 8, 3), (82, .aload_n 0, 1), (83, .iload_n 2, 1), (84, .invokevirtual 333, 3), (87, .iinc 2 1, 3), (90, .goto (-35), 3), (93, .return_, 1)], 3, [(7, 0, 12, 0), (269, 7, 253, 1), (300, 5, 266, 1), (303, 5, 265, 1), (333, 5, 283, 1)], [], (Option.none : Option Jvm.ClassFile.FieldType), 12)
def gk_m283 : rk_M2 := ([(0, .aload_n 0, 1), (1, .getfield 7, 3), (4, .iload_n 1, 1), (5, .invokestatic 285, 3), (8, .iconst 2, 1), (9, .iadd, 1), (10, .iconst 1, 1), (11, .iastore, 1), (12, .aload_n 0, 1), (13, .getfield 7, 3), (16, .iload_n 1, 1), (17, .invokestatic 285, 3), (20, .iconst 3, 1), (21, .iadd, 1), (22, .iconst 0, 1), (23, .iastore, 1), (24, .return_, 1)], 2, [(7, 0, 12, 0), (285, 7, 254, 1)], [], (Option.none : Option Jvm.ClassFile.FieldType), 12)
def gk_m284 : rk_M2 := ([(0, .aload_n 0, 1), (1, .iload_n 1, 1), (2, .iconst 0, 1), (3, .invokevirtual 324, 3), (6, .istore_n 2, 1), (7, .aload_n 0, 1), (8, .getfield 7, 3), (11, .iload_n 1, 1), (12, .invokestatic 285, 3), (15, .iconst 1, 1), (16, .iadd, 1), (17, .iload_n 2, 1), (18, .iastore, 1), (19, .aload_n 0, 1), (20, .getfield 7, 3), (23, .iload_n 1, 1), (24, .invokestatic 285, 3), (27, .iconst 4, 1), (28, .iadd, 1), (29, .dup2, 1), (30, .iaload, 1), (31, .iconst 1, 1), (32, .iadd, 1), (33, .iastore, 1), (34, .aload_n 0, 1), (35, .getfield 7, 3), (38, .iload_n 1, 1), (39, .invokestatic 285, 3), (42, .iconst 3, 1), (43, .iadd, 1), (44, .dup2, 1), (45, .iaload, 1), (46, .iconst 1, 1), (47, .isub, 1), (48, .iastore, 1), (49, .iconst 0, 1), (50, .istore_n 3, 1), (51, .iload_n 3, 1), (52, .aload_n 0, 1), (53, .iload_n 1, 1), (54, .invokevirtual 309, 3), (57, .if_icmp .ge 32, 3), (60, .aload_n 0, 1), (61, .getfield 7, 3), (64, .sipush 318, 3), (67, .bipush 20, 2), (69, .iload_n 1, 1), (70, .imul, 1), (71, .iadd, 1), (72, .iload_n 3, 1), (73, .iadd, 1), (74, .aload_n 0, 1), (75, .iload_n 1, 1), (76, .iload_n 3, 1), (77, .iconst 1, 1), (78, .iadd, 1), (79, .invokevirtual 324, 3), (82, .iastore, 1), (83, .iinc 3 1, 3), (86, .goto (-35), 3), (89, .aload_n 0, 1), (90, .iload_n 2, 1), (91, .invokevirtual 315, 3), (94, .ifCond .eq 37, 3), (97, .aload_n 0, 1), (98, .iload_n 2, 1), (99, .invokevirtual 291, 3), (102, .ifCond .ne 29, 3), (105, .aload_n 0, 1), (106, .getfield 7, 3), (109, .bipush 68, 2), (111, .bipush 21, 2), (113, .iload_n 2, 1), (114, .imul, 1), (115, .iadd, 1), (116, .aload_n 0, 1), (117, .getfield 7, 3), (120, .iconst 5, 1), (121, .iaload, 1), (122, .bipush 21, 2), (124, .irem, 1), (125, .iadd, 1), (126, .dup2, 1), (127, .iaload, 1), (128, .iconst 1, 1), (129, .iadd, 1), (130, .iastore, 1), (131, .return_, 1)], 4, [(7, 0, 12, 0), (285, 7, 254, 1), (291, 5, 263, 1), (309, 5, 267, 1), (315, 5, 257, 1), (324, 5, 268, 2)], [], (Option.none : Option Jvm.ClassFile.FieldType), 12)
def gk_m285 : rk_M2 := ([(0, .aload_n 0, 1), (1, .getfield 7, 3), (4, .iconst 5, 1), (5, .dup2, 1), (6, .iaload, 1), (7, .iconst 1, 1), (8, .iadd, 1), (9, .iastore, 1), (10, .iconst 0, 1), (11, .istore_n 1, 1), (12, .iload_n 1, 1), (13, .aload_n 0, 1), (14, .getfield 7, 3), (17, .iconst 0, 1), (18, .iaload, 1), (19, .if_icmp .ge 32, 3), (22, .aload_n 0, 1), (23, .getfield 7, 3), (26, .bipush 68, 2), (28, .bipush 21, 2), (30, .iload_n 1, 1), (31, .imul, 1), (32, .iadd, 1), (33, .aload_n 0, 1), (34, .getfield 7, 3), (37, .iconst 5, 1), (38, .iaload, 1), (39, .bipush 21, 2), (41, .irem, 1), (42, .iadd, 1), (43, .iconst 0, 1), (44, .iastore, 1), (45, .iinc 1 1, 3), (48, .goto (-36), 3), (51, .iconst 0, 1), (52, .istore_n 1, 1), (53, .iload_n 1, 1), (54, .aload_n 0, 1), (55, .getfield 7, 3), (58, .iconst 1, 1), (59, .iaload, 1), (60, .if_icmp .ge 22, 3), (63, .aload_n 0, 1), (64, .iload_n 1, 1), (65, .invokevirtual 309, 3), (68, .ifCond .le 8, 3), (71, .aload_n 0, 1), (72, .iload_n 1, 1), (73, .invokevirtual 336, 3), (76, .iinc 1 1, 3), (79, .goto (-26), 3), (82, .iconst 0, 1), (83, .istore_n 1, 1), (84, .iload_n 1, 1), (85, .aload_n 0, 1), (86, .getfield 7, 3), (89, .iconst 0, 1), (90, .iaload, 1), (91, .if_icmp .ge 72, 3), (94, .aload_n 0, 1), (95, .iload_n 1, 1), (96, .invokevirtual 315, 3), (99, .ifCond .eq 58, 3), (102, .aload_n 0, 1), (103, .iload_n 1, 1), (104, .invokevirtual 291, 3), (107, .ifCond .ne 50, 3), (110, .aload_n 0, 1), (111, .getfield 7, 3), (114, .iload_n 1, 1), (115, .invokestatic 269, 3), (118, .iconst 1, 1), (119, .iadd, 1), (120, .sipush 999, 3), (123, .aload_n 0, 1), (124, .getfield 7, 3), (127, .iload_n 1, 1), (128, .invokestatic 269, 3), (131, .iconst 1, 1), (132, .iadd, 1), (133, .iaload, 1), (134, .aload_n 0, 1), (135, .getfield 7, 3), (138, .iconst 4, 1), (139, .iaload, 1), (140, .aload_n 0, 1), (141, .iload_n 1, 1), (142, .aload_n 0, 1), (143, .getfield 7, 3), (146, .iconst 3, 1), (147, .iaload, 1), (148, .invokevirtual 288, 3), (151, .imul, 1), (152, .iadd, 1), (153, .invokestatic 151, 3), (156, .iastore, 1), (157, .iinc 1 1, 3), (160, .goto (-76), 3), (163, .iconst 0, 1), (164, .istore_n 1, 1), (165, .iconst 0, 1), (166, .istore_n 2, 1), (167, .iload_n 2, 1), (168, .aload_n 0, 1), (169, .getfield 7, 3), (172, .iconst 0, 1), (173, .iaload, 1), (174, .if_icmp .ge 41, 3), (177, .iload_n 1, 1), (178, .aload_n 0, 1), (179, .iload_n 2, 1), (180, .invokevirtual 315, 3), (183, .ifCond .eq 23, 3), (186, .aload_n 0, 1), (187, .iload_n 2, 1), (188, .iconst (-1), 1), (189, .invokevirtual 321, 3), (192, .aload_n 0, 1), (193, .iload_n 2, 1), (194, .invokevirtual 318, 3), (197, .if_icmp .le 9, 3), (200, .iconst 1, 1), (201, .iload_n 2, 1), (202, .ishl, 1), (203, .goto 4, 3), (206, .iconst 0, 1), (207, .ior, 1), (208, .istore_n 1, 1), (209, .iinc 2 1, 3), (212, .goto (-45), 3), (215, .iload_n 1, 1), (216, .aload_n 0, 1), (217, .iconst 1, 1), (218, .invokevirtual 312, 3), (221, .iconst (-1), 1), (222, .ixor, 1), (223, .iand, 1), (224, .istore_n 2, 1), (225, .iconst 0, 1), (226, .istore_n 3, 1), (227, .iload_n 3, 1), (228, .aload_n 0, 1), (229, .getfield 7, 3), (232, .iconst 0, 1), (233, .iaload, 1), (234, .if_icmp .ge 23, 3), (237, .aload_n 0, 1), (238, .iload_n 1, 1), (239, .iload_n 3, 1), (240, .invokevirtual 282, 3), (243, .ifCond .eq 8, 3), (246, .aload_n 0, 1), (247, .iload_n 3, 1), (248, .invokevirtual 339, 3), (251, .iinc 3 1, 3), (254, .goto (-27), 3), (257, .iconst 0, 1), (258, .istore_n 3, 1), (259, .iload_n 3, 1), (260, .aload_n 0, 1), (261, .getfield 7, 3), (264, .iconst 0, 1), (265, .iaload, 1), (266, .if_icmp .ge 56, 3), (269, .aload_n 0, 1), (270, .iload_n 3, 1), (271, .invokevirtual 315, 3), (274, .ifCond .eq 42, 3), (277, .aload_n 0, 1), (278, .iload_n 3, 1), (279, .invokevirtual 291, 3), (282, .ifCond .ne 34, 3), (285, .aload_n 0, 1), (286, .getfield 7, 3), (289, .iload_n 3, 1), (290, .invokestatic 269, 3), (293, .iconst 5, 1), (294, .iadd, 1), (295, .aload_n 0, 1), (296, .getfield 7, 3), (299, .iload_n 3, 1), (300, .invokestatic 269, 3), (303, .iconst 5, 1), (304, .iadd, 1), (305, .iaload, 1), (306, .aload_n 0, 1), (307, .iload_n 3, 1), (308, .iconst (-1), 1), (309, .invokevirtual 321, 3), (312, .invokestatic 297, 3), (315, .iastore, 1), (316, .iinc 3 1, 3), (319, .goto (-60), 3), (322, .iload_n 2, 1), (323, .ireturn, 1)], 4, [(7, 0, 12, 0), (151, 15, 0, 0), (269, 7, 253, 1), (282, 5, 260, 2), (288, 5, 269, 2), (291, 5, 263, 1), (297, 14, 0, 0), (309, 5, 267, 1), (312, 5, 273, 1), (315, 5, 257, 1), (318, 5, 271, 1), (321, 5, 272, 2), (336, 5, 284, 1), (339, 5, 282, 1)], [], (Option.some Jvm.ClassFile.FieldType.int), 12)
def gk_m286 : rk_M2 := ([(0, .iload_n 1, 1), (1, .istore 4, 2), (3, .iconst 0, 1), (4, .istore 5, 2), (6, .iload 5, 2), (8, .iload_n 3, 1), (9, .if_icmp .ge 41, 3), (12, .aload_n 0, 1), (13, .getfield 27, 3), (16, .bipush 60, 2), (18, .iload_n 2, 1), (19, .imul, 1), (20, .iload 5, 2), (22, .iadd, 1), (23, .laload, 1), (24, .l2i, 1), (25, .istore 6, 2), (27, .aload_n 0, 1), (28, .iload 4, 2), (30, .iload 6, 2), (32, .invokevirtual 330, 3), (35, .ifCond .ne 5, 3), (38, .iconst 0, 1), (39, .ireturn, 1), (40, .iload 6, 2), (42, .istore 4, 2), (44, .iinc 5 1, 3), (47, .goto (-41), 3), (50, .iconst 1, 1), (51, .ireturn, 1)], 7, [(27, 0, 12, 7), (330, 5, 262, 2)], [], (Option.some Jvm.ClassFile.FieldType.boolean), 12)
def gk_m287 : rk_M2 := ([(0, .iload_n 1, 1), (1, .invokestatic 107, 3), (4, .ifCond .eq 14, 3), (7, .iload_n 2, 1), (8, .i2l, 1), (9, .lconst 1, 1), (10, .iload_n 3, 1), (11, .i2l, 1), (12, .invokestatic 342, 3), (15, .ifCond .ne 5, 3), (18, .iconst 1, 1), (19, .ireturn, 1), (20, .aload_n 0, 1), (21, .getfield 24, 3), (24, .iload_n 1, 1), (25, .iaload, 1), (26, .iconst (-1), 1), (27, .if_icmp .ne 5, 3), (30, .iconst 2, 1), (31, .ireturn, 1), (32, .aload_n 0, 1), (33, .getfield 24, 3), (36, .iload_n 1, 1), (37, .iaload, 1), (38, .iload_n 2, 1), (39, .if_icmp .ge 5, 3), (42, .iconst 3, 1), (43, .ireturn, 1), (44, .iconst 0, 1), (45, .istore 4, 2), (47, .iload 4, 2), (49, .iload_n 2, 1), (50, .if_icmp .ge 30, 3), (53, .aload_n 0, 1), (54, .aload_n 0, 1), (55, .getfield 27, 3), (58, .bipush 60, 2), (60, .iload_n 1, 1), (61, .imul, 1), (62, .iload 4, 2), (64, .iadd, 1), (65, .laload, 1), (66, .invokevirtual 272, 3), (69, .ifCond .ne 5, 3), (72, .iconst 5, 1), (73, .ireturn, 1), (74, .iinc 4 1, 3), (77, .goto (-30), 3), (80, .iconst 0, 1), (81, .ireturn, 1)], 5, [(24, 0, 12, 6), (27, 0, 12, 7), (107, 7, 211, 1), (272, 5, 255, 1), (342, 7, 218, 3)], [], (Option.some Jvm.ClassFile.FieldType.int), 12)
def gk_m288 : rk_M2 := ([(0, .iconst 0, 1), (1, .istore 4, 2), (3, .iload 4, 2), (5, .iload_n 3, 1), (6, .if_icmp .ge 38, 3), (9, .aload_n 0, 1), (10, .getfield 7, 3), (13, .sipush 318, 3), (16, .bipush 20, 2), (18, .iload_n 1, 1), (19, .imul, 1), (20, .iadd, 1), (21, .iload 4, 2), (23, .iadd, 1), (24, .aload_n 0, 1), (25, .getfield 27, 3), (28, .bipush 60, 2), (30, .iload_n 2, 1), (31, .imul, 1), (32, .iload 4, 2), (34, .iadd, 1), (35, .laload, 1), (36, .l2i, 1), (37, .iastore, 1), (38, .iinc 4 1, 3), (41, .goto (-38), 3), (44, .aload_n 0, 1), (45, .getfield 7, 3), (48, .iload_n 1, 1), (49, .invokestatic 285, 3), (52, .iconst 3, 1), (53, .iadd, 1), (54, .iload_n 3, 1), (55, .iastore, 1), (56, .return_, 1)], 5, [(7, 0, 12, 0), (27, 0, 12, 7), (285, 7, 254, 1)], [], (Option.none : Option Jvm.ClassFile.FieldType), 12)
def gk_m289 : rk_M2 := ([(0, .aload_n 0, 1), (1, .iload_n 1, 1), (2, .invokevirtual 279, 3), (5, .ifCond .eq 14, 3), (8, .aload_n 0, 1), (9, .iload_n 2, 1), (10, .iload_n 3, 1), (11, .bipush 20, 2), (13, .invokevirtual 346, 3), (16, .goto 4, 3), (19, .iconst 1, 1), (20, .istore 4, 2), (22, .iload 4, 2), (24, .ifCond .le 10, 3), (27, .aload_n 0, 1), (28, .iload 4, 2), (30, .invokevirtual 96, 3), (33, .ireturn, 1), (34, .aload_n 0, 1), (35, .iload_n 1, 1), (36, .invokevirtual 300, 3), (39, .ifCond .ne 25, 3), (42, .aload_n 0, 1), (43, .iload_n 1, 1), (44, .invokevirtual 309, 3), (47, .ifCond .gt 17, 3), (50, .aload_n 0, 1), (51, .aload_n 0, 1), (52, .iload_n 1, 1), (53, .invokevirtual 303, 3), (56, .iload_n 2, 1), (57, .iload_n 3, 1), (58, .invokevirtual 350, 3), (61, .ifCond .ne 10, 3), (64, .aload_n 0, 1), (65, .bipush 7, 2), (67, .invokevirtual 96, 3), (70, .ireturn, 1), (71, .aload_n 0, 1), (72, .iload_n 1, 1), (73, .iload_n 2, 1), (74, .iload_n 3, 1), (75, .invokevirtual 353, 3), (78, .aload_n 0, 1), (79, .iload_n 3, 1), (80, .invokevirtual 100, 3), (83, .ireturn, 1)], 5, [(96, 5, 207, 1), (100, 5, 208, 1), (279, 5, 258, 1), (300, 5, 266, 1), (303, 5, 265, 1), (309, 5, 267, 1), (346, 5, 287, 3), (350, 5, 286, 3), (353, 5, 288, 3)], [], (Option.some Jvm.ClassFile.FieldType.int), 12)
def gk_m290 : rk_M2 := ([(0, .aload_n 0, 1), (1, .iload_n 1, 1), (2, .invokevirtual 300, 3), (5, .ifCond .ne 20, 3), (8, .aload_n 0, 1), (9, .iload_n 1, 1), (10, .invokevirtual 309, 3), (13, .ifCond .gt 12, 3), (16, .aload_n 0, 1), (17, .iload_n 1, 1), (18, .invokevirtual 303, 3), (21, .iload_n 2, 1), (22, .if_icmp .ne 6, 3), (25, .bipush 7, 2), (27, .ireturn, 1), (28, .aload_n 0, 1), (29, .iload_n 1, 1), (30, .iload_n 2, 1), (31, .aload_n 0, 1), (32, .iload_n 1, 1), (33, .invokevirtual 357, 3), (36, .invokevirtual 360, 3), (39, .istore_n 3, 1), (40, .iload_n 3, 1), (41, .ldc_w 363, 3), (44, .if_icmp .ne 6, 3), (47, .bipush 6, 2), (49, .ireturn, 1), (50, .aload_n 0, 1), (51, .iload_n 1, 1), (52, .invokevirtual 303, 3), (55, .istore 4, 2), (57, .iconst 0, 1), (58, .istore 5, 2), (60, .iload 5, 2), (62, .iload_n 3, 1), (63, .if_icmp .ge 35, 3), (66, .aload_n 0, 1), (67, .iload 4, 2), (69, .invokevirtual 364, 3), (72, .istore 4, 2), (74, .aload_n 0, 1), (75, .getfield 7, 3), (78, .sipush 318, 3), (81, .bipush 20, 2), (83, .iload_n 1, 1), (84, .imul, 1), (85, .iadd, 1), (86, .iload 5, 2), (88, .iadd, 1), (89, .iload 4, 2), (91, .iastore, 1), (92, .iinc 5 1, 3), (95, .goto (-35), 3), (98, .aload_n 0, 1), (99, .getfield 7, 3), (102, .iload_n 1, 1), (103, .invokestatic 285, 3), (106, .iconst 3, 1), (107, .iadd, 1), (108, .iload_n 3, 1), (109, .iastore, 1), (110, .iconst 0, 1), (111, .ireturn, 1)], 6, [(7, 0, 12, 0), (285, 7, 254, 1), (300, 5, 266, 1), (303, 5, 265, 1), (309, 5, 267, 1), (357, 5, 304, 1), (360, 5, 305, 3), (364, 5, 306, 1)], [(363, .int 1000000)], (Option.some Jvm.ClassFile.FieldType.int), 12)
def gk_m291 : rk_M2 := ([(0, .aload_n 0, 1), (1, .iload_n 1, 1), (2, .iload_n 2, 1), (3, .invokevirtual 367, 3), (6, .ifCond .eq 12, 3), (9, .aload_n 0, 1), (10, .iload_n 1, 1), (11, .iload_n 2, 1), (12, .invokevirtual 370, 3), (15, .goto 4, 3), (18, .iconst 1, 1), (19, .istore_n 3, 1), (20, .iload_n 3, 1), (21, .ifCond .le 11, 3), (24, .aload_n 0, 1), (25, .iload_n 3, 1), (26, .invokevirtual 96, 3), (29, .goto 12, 3), (32, .aload_n 0, 1), (33, .aload_n 0, 1), (34, .iload_n 1, 1), (35, .invokevirtual 309, 3), (38, .invokevirtual 100, 3), (41, .ireturn, 1)], 4, [(96, 5, 207, 1), (100, 5, 208, 1), (309, 5, 267, 1), (367, 5, 259, 2), (370, 5, 290, 2)], [], (Option.some Jvm.ClassFile.FieldType.int), 12)
def gk_m292 : rk_M2 := ([(0, .aload_n 0, 1), (1, .iload_n 1, 1), (2, .invokevirtual 279, 3), (5, .ifCond .ne 9, 3), (8, .aload_n 0, 1), (9, .iconst 1, 1), (10, .invokevirtual 96, 3), (13, .ireturn, 1), (14, .aload_n 0, 1), (15, .iload_n 1, 1), (16, .invokevirtual 309, 3), (19, .istore_n 2, 1), (20, .aload_n 0, 1), (21, .getfield 7, 3), (24, .iload_n 1, 1), (25, .invokestatic 285, 3), (28, .iconst 3, 1), (29, .iadd, 1), (30, .iconst 0, 1), (31, .iastore, 1), (32, .iload_n 2, 1), (33, .ifCond .ne 12, 3), (36, .aload_n 0, 1), (37, .bipush 7, 2), (39, .invokevirtual 96, 3), (42, .goto 8, 3), (45, .aload_n 0, 1), (46, .iload_n 2, 1), (47, .invokevirtual 100, 3), (50, .ireturn, 1)], 3, [(7, 0, 12, 0), (96, 5, 207, 1), (100, 5, 208, 1), (279, 5, 258, 1), (285, 7, 254, 1), (309, 5, 267, 1)], [], (Option.some Jvm.ClassFile.FieldType.int), 12)
def gk_m293 : rk_M2 := ([(0, .iload_n 1, 1), (1, .i2l, 1), (2, .lconst 1, 1), (3, .ldc2_w 373, 3), (6, .invokestatic 342, 3), (9, .ifCond .ne 9, 3), (12, .aload_n 0, 1), (13, .iconst 1, 1), (14, .invokevirtual 96, 3), (17, .ireturn, 1), (18, .aload_n 0, 1), (19, .getfield 7, 3), (22, .iconst 5, 1), (23, .iaload, 1), (24, .iload_n 1, 1), (25, .iadd, 1), (26, .sipush 9999, 3), (29, .if_icmp .le 9, 3), (32, .aload_n 0, 1), (33, .iconst 4, 1), (34, .invokevirtual 96, 3), (37, .ireturn, 1), (38, .iconst 0, 1), (39, .istore_n 2, 1), (40, .iconst 0, 1), (41, .istore_n 3, 1), (42, .iload_n 3, 1), (43, .iload_n 1, 1), (44, .if_icmp .ge 16, 3), (47, .iload_n 2, 1), (48, .aload_n 0, 1), (49, .invokevirtual 375, 3), (52, .ior, 1), (53, .istore_n 2, 1), (54, .iinc 3 1, 3), (57, .goto (-15), 3), (60, .aload_n 0, 1), (61, .iload_n 2, 1), (62, .invokevirtual 100, 3), (65, .ireturn, 1)], 4, [(7, 0, 12, 0), (96, 5, 207, 1), (100, 5, 208, 1), (342, 7, 218, 3), (375, 5, 285, 0)], [(373, .long 20)], (Option.some Jvm.ClassFile.FieldType.int), 12)
def gk_m294 : rk_M2 := ([(0, .iconst 0, 1), (1, .istore_n 2, 1), (2, .iconst 0, 1), (3, .istore_n 3, 1), (4, .iload_n 3, 1), (5, .aload_n 0, 1), (6, .getfield 7, 3), (9, .iconst 0, 1), (10, .iaload, 1), (11, .if_icmp .ge 78, 3), (14, .aload_n 0, 1), (15, .iload_n 3, 1), (16, .invokevirtual 276, 3), (19, .ifCond .eq 6, 3), (22, .goto 61, 3), (25, .iload_n 2, 1), (26, .aload_n 0, 1), (27, .iload_n 3, 1), (28, .invokevirtual 291, 3), (31, .ifCond .eq 7, 3), (34, .iconst 1, 1), (35, .goto 4, 3), (38, .iconst 0, 1), (39, .iadd, 1), (40, .istore_n 2, 1), (41, .aload_n 0, 1), (42, .getfield 7, 3), (45, .iload_n 3, 1), (46, .invokestatic 269, 3), (49, .iconst 4, 1), (50, .iadd, 1), (51, .iconst 0, 1), (52, .iastore, 1), (53, .aload_n 0, 1), (54, .getfield 7, 3), (57, .iload_n 3, 1), (58, .invokestatic 269, 3), (61, .iconst 1, 1), (62, .iadd, 1), (63, .sipush 999, 3), (66, .aload_n 0, 1), (67, .getfield 7, 3), (70, .iload_n 3, 1), (71, .invokestatic 269, 3), (74, .iconst 1, 1), (75, .iadd, 1), (76, .iaload, 1), (77, .iload_n 1, 1), (78, .iadd, 1), (79, .invokestatic 151, 3), (82, .iastore, 1), (83, .iinc 3 1, 3), (86, .goto (-82), 3), (89, .iload_n 2, 1), (90, .ireturn, 1)], 4, [(7, 0, 12, 0), (151, 15, 0, 0), (269, 7, 253, 1), (276, 5, 256, 1), (291, 5, 263, 1)], [], (Option.some Jvm.ClassFile.FieldType.int), 12)
def gk_m295 : rk_M2 := ([(0, .iconst 0, 1), (1, .istore_n 2, 1), (2, .iconst 0, 1), (3, .istore_n 3, 1), (4, .iload_n 3, 1), (5, .aload_n 0, 1), (6, .getfield 7, 3), (9, .iconst 0, 1), (10, .iaload, 1), (11, .if_icmp .ge 64, 3), (14, .aload_n 0, 1), (15, .iload_n 3, 1), (16, .invokevirtual 276, 3), (19, .ifCond .eq 6, 3), (22, .goto 47, 3), (25, .aload_n 0, 1), (26, .getfield 7, 3), (29, .iload_n 3, 1), (30, .invokestatic 269, 3), (33, .iconst 1, 1), (34, .iadd, 1), (35, .iconst 0, 1), (36, .aload_n 0, 1), (37, .getfield 7, 3), (40, .iload_n 3, 1), (41, .invokestatic 269, 3), (44, .iconst 1, 1), (45, .iadd, 1), (46, .iaload, 1), (47, .iload_n 1, 1), (48, .isub, 1), (49, .invokestatic 297, 3), (52, .iastore, 1), (53, .iload_n 2, 1), (54, .aload_n 0, 1), (55, .iload_n 3, 1), (56, .invokevirtual 318, 3), (59, .ifCond .ne 7, 3), (62, .iconst 1, 1), (63, .goto 4, 3), (66, .iconst 0, 1), (67, .iadd, 1), (68, .istore_n 2, 1), (69, .iinc 3 1, 3), (72, .goto (-68), 3), (75, .iload_n 2, 1), (76, .ireturn, 1)], 4, [(7, 0, 12, 0), (269, 7, 253, 1), (276, 5, 256, 1), (297, 14, 0, 0), (318, 5, 271, 1)], [], (Option.some Jvm.ClassFile.FieldType.int), 12)
def gk_m296 : rk_M2 := ([(0, .iload_n 1, 1), (1, .i2l, 1), (2, .lconst 1, 1), (3, .ldc2_w 373, 3), (6, .invokestatic 342, 3), (9, .ifCond .eq 15, 3), (12, .aload_n 0, 1), (13, .aload_n 0, 1), (14, .iload_n 1, 1), (15, .invokevirtual 378, 3), (18, .invokevirtual 100, 3), (21, .goto 8, 3), (24, .aload_n 0, 1), (25, .iconst 1, 1), (26, .invokevirtual 96, 3), (29, .ireturn, 1)], 2, [(96, 5, 207, 1), (100, 5, 208, 1), (342, 7, 218, 3), (378, 5, 294, 1)], [(373, .long 20)], (Option.some Jvm.ClassFile.FieldType.int), 12)
def gk_m297 : rk_M2 := ([(0, .iload_n 1, 1), (1, .i2l, 1), (2, .lconst 1, 1), (3, .ldc2_w 373, 3), (6, .invokestatic 342, 3), (9, .ifCond .eq 15, 3), (12, .aload_n 0, 1), (13, .aload_n 0, 1), (14, .iload_n 1, 1), (15, .invokevirtual 381, 3), (18, .invokevirtual 100, 3), (21, .goto 8, 3), (24, .aload_n 0, 1), (25, .iconst 1, 1), (26, .invokevirtual 96, 3), (29, .ireturn, 1)], 2, [(96, 5, 207, 1), (100, 5, 208, 1), (342, 7, 218, 3), (381, 5, 295, 1)], [(373, .long 20)], (Option.some Jvm.ClassFile.FieldType.int), 12)
def gk_m298 : rk_M2 := ([(0, .aload_n 0, 1), (1, .iload_n 1, 1), (2, .invokevirtual 279, 3), (5, .ifCond .ne 9, 3), (8, .aload_n 0, 1), (9, .iconst 1, 1), (10, .invokevirtual 96, 3), (13, .ireturn, 1), (14, .iconst 0, 1), (15, .istore_n 2, 1), (16, .iload_n 2, 1), (17, .aload_n 0, 1), (18, .getfield 7, 3), (21, .iconst 0, 1), (22, .iaload, 1), (23, .if_icmp .ge 17, 3), (26, .aload_n 0, 1), (27, .iload_n 2, 1), (28, .invokevirtual 276, 3), (31, .ifCond .ne 9, 3), (34, .iinc 2 1, 3), (37, .goto (-21), 3), (40, .aload_n 0, 1), (41, .iload_n 1, 1), (42, .invokevirtual 300, 3), (45, .ifCond .eq 13, 3), (48, .iload_n 2, 1), (49, .aload_n 0, 1), (50, .getfield 7, 3), (53, .iconst 0, 1), (54, .iaload, 1), (55, .if_icmp .ne 10, 3), (58, .aload_n 0, 1), (59, .bipush 7, 2), (61, .invokevirtual 96, 3), (64, .ireturn, 1), (65, .aload_n 0, 1), (66, .getfield 7, 3), (69, .iload_n 1, 1), (70, .invokestatic 285, 3), (73, .iconst 2, 1), (74, .iadd, 1), (75, .iconst 0, 1), (76, .iastore, 1), (77, .aload_n 0, 1), (78, .getfield 7, 3), (81, .iload_n 1, 1), (82, .invokestatic 285, 3), (85, .iconst 1, 1), (86, .iadd, 1), (87, .iload_n 2, 1), (88, .iastore, 1), (89, .aload_n 0, 1), (90, .aload_n 0, 1), (91, .iconst 2, 1), (92, .invokevirtual 312, 3), (95, .invokestatic 384, 3), (98, .invokevirtual 100, 3), (101, .ireturn, 1)], 3, [(7, 0, 12, 0), (96, 5, 207, 1), (100, 5, 208, 1), (276, 5, 256, 1), (279, 5, 258, 1), (285, 7, 254, 1), (300, 5, 266, 1), (312, 5, 273, 1), (384, 7, 261, 1)], [], (Option.some Jvm.ClassFile.FieldType.int), 12)
def gk_m299 : rk_M2 := ([(0, .aload_n 0, 1), (1, .iload_n 1, 1), (2, .invokevirtual 315, 3), (5, .ifCond .ne 9, 3), (8, .aload_n 0, 1), (9, .iconst 1, 1), (10, .invokevirtual 96, 3), (13, .ireturn, 1), (14, .aload_n 0, 1), (15, .iload_n 1, 1), (16, .invokevirtual 291, 3), (19, .ifCond .eq 10, 3), (22, .aload_n 0, 1), (23, .bipush 7, 2), (25, .invokevirtual 96, 3), (28, .ireturn, 1), (29, .aload_n 0, 1), (30, .iload_n 1, 1), (31, .invokevirtual 339, 3), (34, .aload_n 0, 1), (35, .aload_n 0, 1), (36, .iconst 1, 1), (37, .invokevirtual 312, 3), (40, .invokestatic 384, 3), (43, .invokevirtual 100, 3), (46, .ireturn, 1)], 2, [(96, 5, 207, 1), (100, 5, 208, 1), (291, 5, 263, 1), (312, 5, 273, 1), (315, 5, 257, 1), (339, 5, 282, 1), (384, 7, 261, 1)], [], (Option.some Jvm.ClassFile.FieldType.int), 12)
def gk_m300 : rk_M2 := ([(0, .aload_n 0, 1), (1, .iload_n 1, 1), (2, .invokevirtual 279, 3), (5, .ifCond .eq 15, 3), (8, .iload_n 2, 1), (9, .i2l, 1), (10, .lconst 1, 1), (11, .ldc2_w 387, 3), (14, .invokestatic 342, 3), (17, .ifCond .ne 9, 3), (20, .aload_n 0, 1), (21, .iconst 1, 1), (22, .invokevirtual 103, 3), (25, .ireturn, 1), (26, .aload_n 0, 1), (27, .getfield 7, 3), (30, .iload_n 1, 1), (31, .invokestatic 285, 3), (34, .iload_n 2, 1), (35, .iastore, 1), (36, .aload_n 0, 1), (37, .iconst 0, 1), (38, .invokevirtual 103, 3), (41, .ireturn, 1)], 3, [(7, 0, 12, 0), (103, 5, 206, 1), (279, 5, 258, 1), (285, 7, 254, 1), (342, 7, 218, 3)], [(387, .long 99)], (Option.some Jvm.ClassFile.FieldType.boolean), 12)
def gk_m301 : rk_M2 := ([(0, .aload_n 0, 1), (1, .iload_n 1, 1), (2, .iload_n 2, 1), (3, .invokevirtual 327, 3), (6, .ifCond .ne 9, 3), (9, .aload_n 0, 1), (10, .iconst 1, 1), (11, .invokevirtual 103, 3), (14, .ireturn, 1), (15, .aload_n 0, 1), (16, .iload_n 1, 1), (17, .iload_n 2, 1), (18, .invokevirtual 330, 3), (21, .iload_n 3, 1), (22, .if_icmp .ne 10, 3), (25, .aload_n 0, 1), (26, .bipush 7, 2), (28, .invokevirtual 103, 3), (31, .ireturn, 1), (32, .aload_n 0, 1), (33, .getfield 7, 3), (36, .iload_n 1, 1), (37, .invokestatic 269, 3), (40, .iconst 2, 1), (41, .iadd, 1), (42, .dup2, 1), (43, .iaload, 1), (44, .iconst 1, 1), (45, .iload_n 2, 1), (46, .ishl, 1), (47, .ixor, 1), (48, .iastore, 1), (49, .aload_n 0, 1), (50, .getfield 7, 3), (53, .iload_n 2, 1), (54, .invokestatic 269, 3), (57, .iconst 2, 1), (58, .iadd, 1), (59, .dup2, 1), (60, .iaload, 1), (61, .iconst 1, 1), (62, .iload_n 1, 1), (63, .ishl, 1), (64, .ixor, 1), (65, .iastore, 1), (66, .aload_n 0, 1), (67, .iconst 0, 1), (68, .invokevirtual 103, 3), (71, .ireturn, 1)], 4, [(7, 0, 12, 0), (103, 5, 206, 1), (269, 7, 253, 1), (327, 5, 278, 2), (330, 5, 262, 2)], [], (Option.some Jvm.ClassFile.FieldType.boolean), 12)
def gk_m302 : rk_M2 := ([(0, .aload_n 0, 1), (1, .iload_n 2, 1), (2, .invokevirtual 276, 3), (5, .ifCond .eq 7, 3), (8, .sipush 999, 3), (11, .ireturn, 1), (12, .aload_n 0, 1), (13, .iload_n 2, 1), (14, .invokevirtual 291, 3), (17, .ifCond .eq 7, 3), (20, .iconst 0, 1), (21, .goto 33, 3), (24, .iconst 0, 1), (25, .aload_n 0, 1), (26, .getfield 7, 3), (29, .iload_n 2, 1), (30, .invokestatic 269, 3), (33, .iconst 1, 1), (34, .iadd, 1), (35, .iaload, 1), (36, .aload_n 0, 1), (37, .getfield 7, 3), (40, .iconst 2, 1), (41, .iaload, 1), (42, .aload_n 0, 1), (43, .iload_n 2, 1), (44, .invokevirtual 294, 3), (47, .iconst 1, 1), (48, .iadd, 1), (49, .imul, 1), (50, .isub, 1), (51, .invokestatic 297, 3), (54, .istore_n 3, 1), (55, .iload_n 3, 1), (56, .aload_n 0, 1), (57, .iload_n 2, 1), (58, .iload_n 1, 1), (59, .invokevirtual 321, 3), (62, .isub, 1), (63, .aload_n 0, 1), (64, .iload_n 1, 1), (65, .invokevirtual 306, 3), (68, .isub, 1), (69, .ireturn, 1)], 4, [(7, 0, 12, 0), (269, 7, 253, 1), (276, 5, 256, 1), (291, 5, 263, 1), (294, 5, 270, 1), (297, 14, 0, 0), (306, 5, 264, 1), (321, 5, 272, 2)], [], (Option.some Jvm.ClassFile.FieldType.int), 12)
def gk_m303 : rk_M2 := ([(0, .aload_n 0, 1), (1, .iload_n 2, 1), (2, .invokevirtual 276, 3), (5, .ifCond .ne 20, 3), (8, .aload_n 0, 1), (9, .iload_n 2, 1), (10, .invokevirtual 291, 3), (13, .ifCond .ne 16, 3), (16, .aload_n 0, 1), (17, .iload_n 1, 1), (18, .iload_n 2, 1), (19, .invokevirtual 389, 3), (22, .ifCond .lt 7, 3), (25, .iconst 1, 1), (26, .goto 4, 3), (29, .iconst 0, 1), (30, .ireturn, 1)], 3, [(276, 5, 256, 1), (291, 5, 263, 1), (389, 5, 302, 2)], [], (Option.some Jvm.ClassFile.FieldType.boolean), 12)
def gk_m304 : rk_M2 := ([(0, .iconst 0, 1), (1, .istore_n 2, 1), (2, .iconst 0, 1), (3, .istore_n 3, 1), (4, .iload_n 3, 1), (5, .aload_n 0, 1), (6, .getfield 7, 3), (9, .iconst 0, 1), (10, .iaload, 1), (11, .if_icmp .ge 28, 3), (14, .iload_n 2, 1), (15, .aload_n 0, 1), (16, .iload_n 1, 1), (17, .iload_n 3, 1), (18, .invokevirtual 392, 3), (21, .ifCond .eq 9, 3), (24, .iconst 1, 1), (25, .iload_n 3, 1), (26, .ishl, 1), (27, .goto 4, 3), (30, .iconst 0, 1), (31, .ior, 1), (32, .istore_n 2, 1), (33, .iinc 3 1, 3), (36, .goto (-32), 3), (39, .iload_n 2, 1), (40, .ireturn, 1)], 4, [(7, 0, 12, 0), (392, 5, 303, 2)], [], (Option.some Jvm.ClassFile.FieldType.int), 12)
def gk_m305 : rk_M2 := ([(0, .iconst 0, 1), (1, .istore 4, 2), (3, .iload 4, 2), (5, .bipush 10, 2), (7, .if_icmp .ge 47, 3), (10, .aload_n 0, 1), (11, .getfield 47, 3), (14, .iload 4, 2), (16, .iload 4, 2), (18, .iload_n 2, 1), (19, .if_icmp .ne 25, 3), (22, .aload_n 0, 1), (23, .iload_n 3, 1), (24, .iload_n 2, 1), (25, .invokevirtual 282, 3), (28, .ifCond .ne 12, 3), (31, .aload_n 0, 1), (32, .iload_n 1, 1), (33, .invokevirtual 303, 3), (36, .iload_n 2, 1), (37, .if_icmp .ne 7, 3), (40, .iconst 0, 1), (41, .goto 6, 3), (44, .ldc_w 363, 3), (47, .iastore, 1), (48, .iinc 4 1, 3), (51, .goto (-48), 3), (54, .iconst 0, 1), (55, .istore 4, 2), (57, .iload 4, 2), (59, .bipush 10, 2), (61, .if_icmp .ge 116, 3), (64, .iconst 0, 1), (65, .istore 5, 2), (67, .iload 5, 2), (69, .aload_n 0, 1), (70, .getfield 7, 3), (73, .iconst 0, 1), (74, .iaload, 1), (75, .if_icmp .ge 96, 3), (78, .iconst 0, 1), (79, .istore 6, 2), (81, .iload 6, 2), (83, .aload_n 0, 1), (84, .getfield 7, 3), (87, .iconst 0, 1), (88, .iaload, 1), (89, .if_icmp .ge 76, 3), (92, .aload_n 0, 1), (93, .getfield 47, 3), (96, .iload 5, 2), (98, .iaload, 1), (99, .iload 4, 2), (101, .if_icmp .ne 58, 3), (104, .aload_n 0, 1), (105, .getfield 47, 3), (108, .iload 6, 2), (110, .iaload, 1), (111, .ldc_w 363, 3), (114, .if_icmp .ne 45, 3), (117, .aload_n 0, 1), (118, .iload 5, 2), (120, .iload 6, 2), (122, .invokevirtual 330, 3), (125, .ifCond .eq 34, 3), (128, .aload_n 0, 1), (129, .iload_n 3, 1), (130, .iload 6, 2), (132, .invokevirtual 282, 3), (135, .ifCond .ne 13, 3), (138, .iload 6, 2), (140, .aload_n 0, 1), (141, .iload_n 1, 1), (142, .invokevirtual 303, 3), (145, .if_icmp .ne 14, 3), (148, .aload_n 0, 1), (149, .getfield 47, 3), (152, .iload 6, 2), (154, .iload 4, 2), (156, .iconst 1, 1), (157, .iadd, 1), (158, .iastore, 1), (159, .iinc 6 1, 3), (162, .goto (-81), 3), (165, .iinc 5 1, 3), (168, .goto (-101), 3), (171, .iinc 4 1, 3), (174, .goto (-117), 3), (177, .aload_n 0, 1), (178, .getfield 47, 3), (181, .aload_n 0, 1), (182, .iload_n 1, 1), (183, .invokevirtual 303, 3), (186, .iaload, 1), (187, .ireturn, 1)], 7, [(7, 0, 12, 0), (47, 0, 12, 24), (282, 5, 260, 2), (303, 5, 265, 1), (330, 5, 262, 2)], [(363, .int 1000000)], (Option.some Jvm.ClassFile.FieldType.int), 12)
def gk_m306 : rk_M2 := ([(0, .iconst 0, 1), (1, .istore_n 2, 1), (2, .aload_n 0, 1), (3, .iload_n 1, 1), (4, .iload_n 2, 1), (5, .invokevirtual 330, 3), (8, .ifCond .eq 20, 3), (11, .aload_n 0, 1), (12, .getfield 47, 3), (15, .iload_n 2, 1), (16, .iaload, 1), (17, .aload_n 0, 1), (18, .getfield 47, 3), (21, .iload_n 1, 1), (22, .iaload, 1), (23, .iconst 1, 1), (24, .isub, 1), (25, .if_icmp .eq 9, 3), (28, .iinc 2 1, 3), (31, .goto (-29), 3), (34, .iload_n 2, 1), (35, .ireturn, 1)], 3, [(47, 0, 12, 24), (330, 5, 262, 2)], [], (Option.some Jvm.ClassFile.FieldType.int), 12)
def gk_m307 : rk_M2 := ([(0, .aload_n 0, 1), (1, .getfield 47, 3), (4, .aload_n 0, 1), (5, .iload_n 1, 1), (6, .invokevirtual 303, 3), (9, .iaload, 1), (10, .istore_n 3, 1), (11, .iload_n 3, 1), (12, .ldc_w 363, 3), (15, .if_icmp .eq 12, 3), (18, .iload_n 2, 1), (19, .ifCond .lt 8, 3), (22, .iload_n 2, 1), (23, .iload_n 3, 1), (24, .if_icmp .lt 5, 3), (27, .iconst (-1), 1), (28, .ireturn, 1), (29, .aload_n 0, 1), (30, .iload_n 1, 1), (31, .invokevirtual 303, 3), (34, .istore 4, 2), (36, .iconst 0, 1), (37, .istore 5, 2), (39, .iload 5, 2), (41, .iload_n 2, 1), (42, .if_icmp .gt 17, 3), (45, .aload_n 0, 1), (46, .iload 4, 2), (48, .invokevirtual 364, 3), (51, .istore 4, 2), (53, .iinc 5 1, 3), (56, .goto (-17), 3), (59, .iload 4, 2), (61, .ireturn, 1)], 6, [(47, 0, 12, 24), (303, 5, 265, 1), (364, 5, 306, 1)], [(363, .int 1000000)], (Option.some Jvm.ClassFile.FieldType.int), 12)
def gk_m308 : rk_M2 := ([(0, .aload_n 0, 1), (1, .iload_n 1, 1), (2, .iload_n 2, 1), (3, .invokevirtual 367, 3), (6, .ifCond .eq 24, 3), (9, .aload_n 0, 1), (10, .aload_n 0, 1), (11, .iload_n 1, 1), (12, .iload_n 2, 1), (13, .invokevirtual 392, 3), (16, .ifCond .eq 7, 3), (19, .iconst 1, 1), (20, .goto 4, 3), (23, .iconst 0, 1), (24, .invokevirtual 100, 3), (27, .goto 8, 3), (30, .aload_n 0, 1), (31, .iconst 1, 1), (32, .invokevirtual 96, 3), (35, .ireturn, 1)], 3, [(96, 5, 207, 1), (100, 5, 208, 1), (367, 5, 259, 2), (392, 5, 303, 2)], [], (Option.some Jvm.ClassFile.FieldType.int), 12)
def gk_m309 : rk_M2 := ([(0, .aload_n 0, 1), (1, .iload_n 1, 1), (2, .iload_n 2, 1), (3, .invokevirtual 367, 3), (6, .ifCond .eq 16, 3), (9, .aload_n 0, 1), (10, .aload_n 0, 1), (11, .iload_n 1, 1), (12, .iload_n 2, 1), (13, .invokevirtual 389, 3), (16, .invokevirtual 100, 3), (19, .goto 8, 3), (22, .aload_n 0, 1), (23, .iconst 1, 1), (24, .invokevirtual 96, 3), (27, .ireturn, 1)], 3, [(96, 5, 207, 1), (100, 5, 208, 1), (367, 5, 259, 2), (389, 5, 302, 2)], [], (Option.some Jvm.ClassFile.FieldType.int), 12)
def gk_m310 : rk_M2 := ([(0, .aload_n 0, 1), (1, .iload_n 1, 1), (2, .iload_n 2, 1), (3, .invokevirtual 367, 3), (6, .ifCond .ne 9, 3), (9, .aload_n 0, 1), (10, .iconst 1, 1), (11, .invokevirtual 96, 3), (14, .ireturn, 1), (15, .aload_n 0, 1), (16, .iload_n 1, 1), (17, .iload_n 2, 1), (18, .aload_n 0, 1), (19, .iload_n 1, 1), (20, .invokevirtual 357, 3), (23, .invokevirtual 360, 3), (26, .istore_n 3, 1), (27, .iload_n 3, 1), (28, .ldc_w 363, 3), (31, .if_icmp .ne 12, 3), (34, .aload_n 0, 1), (35, .bipush 6, 2), (37, .invokevirtual 96, 3), (40, .goto 8, 3), (43, .aload_n 0, 1), (44, .iload_n 3, 1), (45, .invokevirtual 100, 3), (48, .ireturn, 1)], 4, [(96, 5, 207, 1), (100, 5, 208, 1), (357, 5, 304, 1), (360, 5, 305, 3), (367, 5, 259, 2)], [(363, .int 1000000)], (Option.some Jvm.ClassFile.FieldType.int), 12)
def gk_m311 : rk_M2 := ([(0, .aload_n 0, 1), (1, .iload_n 1, 1), (2, .iload_n 2, 1), (3, .invokevirtual 367, 3), (6, .ifCond .ne 9, 3), (9, .aload_n 0, 1), (10, .iconst 1, 1), (11, .invokevirtual 96, 3), (14, .ireturn, 1), (15, .aload_n 0, 1), (16, .iload_n 1, 1), (17, .iload_n 2, 1), (18, .aload_n 0, 1), (19, .iload_n 1, 1), (20, .invokevirtual 357, 3), (23, .invokevirtual 360, 3), (26, .pop, 1), (27, .aload_n 0, 1), (28, .aload_n 0, 1), (29, .iload_n 1, 1), (30, .iload_n 3, 1), (31, .invokevirtual 395, 3), (34, .invokevirtual 398, 3), (37, .ireturn, 1)], 4, [(96, 5, 207, 1), (357, 5, 304, 1), (360, 5, 305, 3), (367, 5, 259, 2), (395, 5, 307, 2), (398, 5, 209, 1)], [], (Option.some Jvm.ClassFile.FieldType.int), 12)
def gk_m312 : rk_M2 := ([(0, .aload_n 0, 1), (1, .ldc_w 401, 3), (4, .putfield 402, 3), (7, .iconst 0, 1), (8, .istore_n 3, 1), (9, .iconst 0, 1), (10, .istore 4, 2), (12, .iload 4, 2), (14, .aload_n 0, 1), (15, .getfield 7, 3), (18, .iconst 0, 1), (19, .iaload, 1), (20, .if_icmp .ge 57, 3), (23, .aload_n 0, 1), (24, .iload_n 1, 1), (25, .iload 4, 2), (27, .invokevirtual 389, 3), (30, .istore 5, 2), (32, .iload 5, 2), (34, .aload_n 0, 1), (35, .getfield 402, 3), (38, .if_icmp .le 33, 3), (41, .aload_n 0, 1), (42, .iload_n 1, 1), (43, .iload_n 2, 1), (44, .aload_n 0, 1), (45, .iload_n 1, 1), (46, .iload 5, 2), (48, .invokevirtual 405, 3), (51, .invokevirtual 360, 3), (54, .ldc_w 363, 3), (57, .if_icmp .ne 6, 3), (60, .goto 11, 3), (63, .aload_n 0, 1), (64, .iload 5, 2), (66, .putfield 402, 3), (69, .iconst 1, 1), (70, .istore_n 3, 1), (71, .iinc 4 1, 3), (74, .goto (-62), 3), (77, .aload_n 0, 1), (78, .iload_n 1, 1), (79, .iload_n 2, 1), (80, .aload_n 0, 1), (81, .iload_n 1, 1), (82, .aload_n 0, 1), (83, .getfield 402, 3), (86, .invokevirtual 405, 3), (89, .invokevirtual 360, 3), (92, .pop, 1), (93, .iload_n 3, 1), (94, .ireturn, 1)], 6, [(7, 0, 12, 0), (360, 5, 305, 3), (389, 5, 302, 2), (402, 0, 12, 25), (405, 5, 313, 2)], [(363, .int 1000000), (401, .int (-1000000))], (Option.some Jvm.ClassFile.FieldType.boolean), 12)
def gk_m313 : rk_M2 := ([(0, .iconst 0, 1), (1, .istore_n 3, 1), (2, .iconst 0, 1), (3, .istore 4, 2), (5, .iload 4, 2), (7, .aload_n 0, 1), (8, .getfield 7, 3), (11, .iconst 0, 1), (12, .iaload, 1), (13, .if_icmp .ge 31, 3), (16, .iload_n 3, 1), (17, .aload_n 0, 1), (18, .iload_n 1, 1), (19, .iload 4, 2), (21, .invokevirtual 389, 3), (24, .iload_n 2, 1), (25, .if_icmp .lt 10, 3), (28, .iconst 1, 1), (29, .iload 4, 2), (31, .ishl, 1), (32, .goto 4, 3), (35, .iconst 0, 1), (36, .ior, 1), (37, .istore_n 3, 1), (38, .iinc 4 1, 3), (41, .goto (-36), 3), (44, .iload_n 3, 1), (45, .ireturn, 1)], 5, [(7, 0, 12, 0), (389, 5, 302, 2)], [], (Option.some Jvm.ClassFile.FieldType.int), 12)
def gk_m314 : rk_M2 := ([(0, .aload_n 0, 1), (1, .iload_n 1, 1), (2, .iload_n 2, 1), (3, .invokevirtual 367, 3), (6, .ifCond .eq 16, 3), (9, .aload_n 0, 1), (10, .iload_n 1, 1), (11, .invokevirtual 303, 3), (14, .iload_n 2, 1), (15, .if_icmp .eq 7, 3), (18, .iconst 1, 1), (19, .goto 4, 3), (22, .iconst 0, 1), (23, .ireturn, 1)], 3, [(303, 5, 265, 1), (367, 5, 259, 2)], [], (Option.some Jvm.ClassFile.FieldType.boolean), 12)
def gk_m315 : rk_M2 := ([(0, .aload_n 0, 1), (1, .iload_n 1, 1), (2, .iload_n 2, 1), (3, .invokevirtual 408, 3), (6, .ifCond .ne 11, 3), (9, .aload_n 0, 1), (10, .iconst 1, 1), (11, .invokevirtual 96, 3), (14, .goto 29, 3), (17, .aload_n 0, 1), (18, .iload_n 1, 1), (19, .iload_n 2, 1), (20, .invokevirtual 411, 3), (23, .ifCond .eq 14, 3), (26, .aload_n 0, 1), (27, .aload_n 0, 1), (28, .getfield 402, 3), (31, .invokevirtual 100, 3), (34, .goto 9, 3), (37, .aload_n 0, 1), (38, .bipush 6, 2), (40, .invokevirtual 96, 3), (43, .ireturn, 1)], 3, [(96, 5, 207, 1), (100, 5, 208, 1), (402, 0, 12, 25), (408, 5, 314, 2), (411, 5, 312, 2)], [], (Option.some Jvm.ClassFile.FieldType.int), 12)
def gk_m316 : rk_M2 := ([(0, .aload_n 0, 1), (1, .iload_n 1, 1), (2, .iload_n 2, 1), (3, .invokevirtual 408, 3), (6, .ifCond .ne 11, 3), (9, .aload_n 0, 1), (10, .iconst 1, 1), (11, .invokevirtual 96, 3), (14, .goto 35, 3), (17, .aload_n 0, 1), (18, .iload_n 1, 1), (19, .iload_n 2, 1), (20, .invokevirtual 411, 3), (23, .ifCond .eq 20, 3), (26, .aload_n 0, 1), (27, .aload_n 0, 1), (28, .getfield 47, 3), (31, .aload_n 0, 1), (32, .iload_n 1, 1), (33, .invokevirtual 303, 3), (36, .iaload, 1), (37, .invokevirtual 100, 3), (40, .goto 9, 3), (43, .aload_n 0, 1), (44, .bipush 6, 2), (46, .invokevirtual 96, 3), (49, .ireturn, 1)], 3, [(47, 0, 12, 24), (96, 5, 207, 1), (100, 5, 208, 1), (303, 5, 265, 1), (408, 5, 314, 2), (411, 5, 312, 2)], [], (Option.some Jvm.ClassFile.FieldType.int), 12)
def gk_m317 : rk_M2 := ([(0, .aload_n 0, 1), (1, .iload_n 1, 1), (2, .iload_n 2, 1), (3, .invokevirtual 408, 3), (6, .ifCond .ne 11, 3), (9, .aload_n 0, 1), (10, .iconst 1, 1), (11, .invokevirtual 96, 3), (14, .goto 31, 3), (17, .aload_n 0, 1), (18, .iload_n 1, 1), (19, .iload_n 2, 1), (20, .invokevirtual 411, 3), (23, .ifCond .eq 16, 3), (26, .aload_n 0, 1), (27, .aload_n 0, 1), (28, .iload_n 1, 1), (29, .iload_n 3, 1), (30, .invokevirtual 395, 3), (33, .invokevirtual 398, 3), (36, .goto 9, 3), (39, .aload_n 0, 1), (40, .bipush 6, 2), (42, .invokevirtual 96, 3), (45, .ireturn, 1)], 4, [(96, 5, 207, 1), (395, 5, 307, 2), (398, 5, 209, 1), (408, 5, 314, 2), (411, 5, 312, 2)], [], (Option.some Jvm.ClassFile.FieldType.int), 12)
def gk_m318 : rk_M2 := ([(0, .aload_n 0, 1), (1, .iload_n 1, 1), (2, .invokevirtual 279, 3), (5, .ifCond .ne 9, 3), (8, .aload_n 0, 1), (9, .iconst 1, 1), (10, .invokevirtual 96, 3), (13, .ireturn, 1), (14, .aload_n 0, 1), (15, .iload_n 1, 1), (16, .invokevirtual 357, 3), (19, .istore_n 2, 1), (20, .iconst 0, 1), (21, .istore_n 3, 1), (22, .iconst 0, 1), (23, .istore 4, 2), (25, .iload 4, 2), (27, .aload_n 0, 1), (28, .getfield 7, 3), (31, .iconst 0, 1), (32, .iaload, 1), (33, .if_icmp .ge 34, 3), (36, .iload_n 3, 1), (37, .aload_n 0, 1), (38, .iload_n 1, 1), (39, .iload 4, 2), (41, .iload_n 2, 1), (42, .invokevirtual 360, 3), (45, .ldc_w 363, 3), (48, .if_icmp .ge 10, 3), (51, .iconst 1, 1), (52, .iload 4, 2), (54, .ishl, 1), (55, .goto 4, 3), (58, .iconst 0, 1), (59, .ior, 1), (60, .istore_n 3, 1), (61, .iinc 4 1, 3), (64, .goto (-39), 3), (67, .aload_n 0, 1), (68, .iload_n 3, 1), (69, .invokevirtual 100, 3), (72, .ireturn, 1)], 5, [(7, 0, 12, 0), (96, 5, 207, 1), (100, 5, 208, 1), (279, 5, 258, 1), (357, 5, 304, 1), (360, 5, 305, 3)], [(363, .int 1000000)], (Option.some Jvm.ClassFile.FieldType.int), 12)
def gk_m319 : rk_M2 := ([(0, .aload_n 0, 1), (1, .iload_n 1, 1), (2, .invokevirtual 357, 3), (5, .istore_n 3, 1), (6, .iload_n 3, 1), (7, .aload_n 0, 1), (8, .iconst 0, 1), (9, .invokevirtual 312, 3), (12, .iconst (-1), 1), (13, .ixor, 1), (14, .iand, 1), (15, .iconst 1, 1), (16, .iload_n 2, 1), (17, .ishl, 1), (18, .iconst (-1), 1), (19, .ixor, 1), (20, .iand, 1), (21, .iconst 1, 1), (22, .aload_n 0, 1), (23, .iload_n 1, 1), (24, .invokevirtual 303, 3), (27, .ishl, 1), (28, .iconst (-1), 1), (29, .ixor, 1), (30, .iand, 1), (31, .istore 4, 2), (33, .iconst (-1), 1), (34, .istore 5, 2), (36, .iconst 0, 1), (37, .istore 6, 2), (39, .iload 6, 2), (41, .iconst 1, 1), (42, .aload_n 0, 1), (43, .getfield 7, 3), (46, .iconst 0, 1), (47, .iaload, 1), (48, .ishl, 1), (49, .if_icmp .ge 60, 3), (52, .iload 6, 2), (54, .iload 4, 2), (56, .iconst (-1), 1), (57, .ixor, 1), (58, .iand, 1), (59, .ifCond .ne 44, 3), (62, .iload 5, 2), (64, .iconst (-1), 1), (65, .if_icmp .eq 16, 3), (68, .iload 6, 2), (70, .invokestatic 384, 3), (73, .iload 5, 2), (75, .invokestatic 384, 3), (78, .if_icmp .ge 25, 3), (81, .aload_n 0, 1), (82, .iload_n 1, 1), (83, .iload_n 2, 1), (84, .iload_n 3, 1), (85, .iload 6, 2), (87, .iconst (-1), 1), (88, .ixor, 1), (89, .iand, 1), (90, .invokevirtual 360, 3), (93, .ldc_w 363, 3), (96, .if_icmp .ne 7, 3), (99, .iload 6, 2), (101, .istore 5, 2), (103, .iinc 6 1, 3), (106, .goto (-67), 3), (109, .iload 5, 2), (111, .ireturn, 1)], 7, [(7, 0, 12, 0), (303, 5, 265, 1), (312, 5, 273, 1), (357, 5, 304, 1), (360, 5, 305, 3), (384, 7, 261, 1)], [(363, .int 1000000)], (Option.some Jvm.ClassFile.FieldType.int), 12)
def gk_m320 : rk_M2 := ([(0, .aload_n 0, 1), (1, .iload_n 1, 1), (2, .iload_n 2, 1), (3, .invokevirtual 408, 3), (6, .ifCond .ne 9, 3), (9, .aload_n 0, 1), (10, .iconst 1, 1), (11, .invokevirtual 96, 3), (14, .ireturn, 1), (15, .aload_n 0, 1), (16, .iload_n 1, 1), (17, .iload_n 2, 1), (18, .invokevirtual 414, 3), (21, .istore_n 3, 1), (22, .iload_n 3, 1), (23, .iconst (-1), 1), (24, .if_icmp .ne 12, 3), (27, .aload_n 0, 1), (28, .bipush 6, 2), (30, .invokevirtual 96, 3), (33, .goto 11, 3), (36, .aload_n 0, 1), (37, .iload_n 3, 1), (38, .invokestatic 384, 3), (41, .invokevirtual 100, 3), (44, .ireturn, 1)], 4, [(96, 5, 207, 1), (100, 5, 208, 1), (384, 7, 261, 1), (408, 5, 314, 2), (414, 5, 319, 2)], [], (Option.some Jvm.ClassFile.FieldType.int), 12)
def gk_m321 : rk_M2 := ([(0, .aload_n 0, 1), (1, .iload_n 1, 1), (2, .iload_n 2, 1), (3, .invokevirtual 408, 3), (6, .ifCond .eq 16, 3), (9, .aload_n 0, 1), (10, .aload_n 0, 1), (11, .iload_n 1, 1), (12, .iload_n 2, 1), (13, .invokevirtual 414, 3), (16, .invokevirtual 398, 3), (19, .goto 8, 3), (22, .aload_n 0, 1), (23, .iconst 1, 1), (24, .invokevirtual 96, 3), (27, .ireturn, 1)], 3, [(96, 5, 207, 1), (398, 5, 209, 1), (408, 5, 314, 2), (414, 5, 319, 2)], [], (Option.some Jvm.ClassFile.FieldType.int), 12)
def gk_m322 : rk_M2 := ([(0, .aload_n 0, 1), (1, .iload_n 1, 1), (2, .invokevirtual 279, 3), (5, .ifCond .ne 9, 3), (8, .aload_n 0, 1), (9, .iconst 1, 1), (10, .invokevirtual 96, 3), (13, .ireturn, 1), (14, .ldc_w 363, 3), (17, .istore_n 2, 1), (18, .iconst 0, 1), (19, .istore_n 3, 1), (20, .iload_n 3, 1), (21, .aload_n 0, 1), (22, .iload_n 1, 1), (23, .invokevirtual 309, 3), (26, .if_icmp .ge 48, 3), (29, .aload_n 0, 1), (30, .aload_n 0, 1), (31, .iload_n 1, 1), (32, .iload_n 3, 1), (33, .invokevirtual 324, 3), (36, .invokevirtual 315, 3), (39, .ifCond .eq 29, 3), (42, .iload_n 2, 1), (43, .iconst 0, 1), (44, .aload_n 0, 1), (45, .iload_n 1, 1), (46, .invokevirtual 306, 3), (49, .aload_n 0, 1), (50, .iload_n 1, 1), (51, .aload_n 0, 1), (52, .iload_n 1, 1), (53, .iload_n 3, 1), (54, .invokevirtual 324, 3), (57, .invokevirtual 389, 3), (60, .iadd, 1), (61, .invokestatic 297, 3), (64, .invokestatic 151, 3), (67, .istore_n 2, 1), (68, .iinc 3 1, 3), (71, .goto (-51), 3), (74, .iload_n 2, 1), (75, .ldc_w 363, 3), (78, .if_icmp .ne 12, 3), (81, .aload_n 0, 1), (82, .bipush 6, 2), (84, .invokevirtual 96, 3), (87, .goto 8, 3), (90, .aload_n 0, 1), (91, .iload_n 2, 1), (92, .invokevirtual 100, 3), (95, .ireturn, 1)], 4, [(96, 5, 207, 1), (100, 5, 208, 1), (151, 15, 0, 0), (279, 5, 258, 1), (297, 14, 0, 0), (306, 5, 264, 1), (309, 5, 267, 1), (315, 5, 257, 1), (324, 5, 268, 2), (389, 5, 302, 2)], [(363, .int 1000000)], (Option.some Jvm.ClassFile.FieldType.int), 12)
def gk_m323 : rk_M2 := ([(0, .iconst (-1), 1), (1, .istore_n 1, 1), (2, .iconst 0, 1), (3, .istore_n 2, 1), (4, .iload_n 2, 1), (5, .aload_n 0, 1), (6, .getfield 7, 3), (9, .iconst 0, 1), (10, .iaload, 1), (11, .if_icmp .ge 37, 3), (14, .aload_n 0, 1), (15, .iload_n 2, 1), (16, .invokevirtual 315, 3), (19, .ifCond .eq 23, 3), (22, .iload_n 1, 1), (23, .iconst (-1), 1), (24, .if_icmp .eq 16, 3), (27, .aload_n 0, 1), (28, .iload_n 2, 1), (29, .invokevirtual 318, 3), (32, .aload_n 0, 1), (33, .iload_n 1, 1), (34, .invokevirtual 318, 3), (37, .if_icmp .ge 5, 3), (40, .iload_n 2, 1), (41, .istore_n 1, 1), (42, .iinc 2 1, 3), (45, .goto (-41), 3), (48, .aload_n 0, 1), (49, .iload_n 1, 1), (50, .invokevirtual 398, 3), (53, .ireturn, 1)], 3, [(7, 0, 12, 0), (315, 5, 257, 1), (318, 5, 271, 1), (398, 5, 209, 1)], [], (Option.some Jvm.ClassFile.FieldType.int), 12)
def gk_m324 : rk_M2 := ([(0, .aload_n 0, 1), (1, .iload_n 1, 1), (2, .i2l, 1), (3, .invokevirtual 272, 3), (6, .ifCond .ne 9, 3), (9, .aload_n 0, 1), (10, .iconst 1, 1), (11, .invokevirtual 96, 3), (14, .ireturn, 1), (15, .iconst 0, 1), (16, .istore_n 2, 1), (17, .iconst 0, 1), (18, .istore_n 3, 1), (19, .iload_n 3, 1), (20, .aload_n 0, 1), (21, .getfield 7, 3), (24, .iconst 1, 1), (25, .iaload, 1), (26, .if_icmp .ge 36, 3), (29, .iload_n 2, 1), (30, .aload_n 0, 1), (31, .iload_n 3, 1), (32, .invokevirtual 300, 3), (35, .ifCond .ne 18, 3), (38, .aload_n 0, 1), (39, .iload_n 3, 1), (40, .iload_n 1, 1), (41, .invokevirtual 392, 3), (44, .ifCond .ne 9, 3), (47, .iconst 1, 1), (48, .iload_n 3, 1), (49, .ishl, 1), (50, .goto 4, 3), (53, .iconst 0, 1), (54, .ior, 1), (55, .istore_n 2, 1), (56, .iinc 3 1, 3), (59, .goto (-40), 3), (62, .aload_n 0, 1), (63, .iload_n 2, 1), (64, .invokevirtual 100, 3), (67, .ireturn, 1)], 4, [(7, 0, 12, 0), (96, 5, 207, 1), (100, 5, 208, 1), (272, 5, 255, 1), (300, 5, 266, 1), (392, 5, 303, 2)], [], (Option.some Jvm.ClassFile.FieldType.int), 12)
def gk_m325 : rk_M2 := ([(0, .iconst 0, 1), (1, .istore_n 2, 1), (2, .iload_n 2, 1), (3, .sipush 478, 3), (6, .if_icmp .ge 23, 3), (9, .aload_n 0, 1), (10, .getfield 7, 3), (13, .iload_n 1, 1), (14, .iload_n 2, 1), (15, .iadd, 1), (16, .aload_n 0, 1), (17, .getfield 7, 3), (20, .iload_n 2, 1), (21, .iaload, 1), (22, .iastore, 1), (23, .iinc 2 1, 3), (26, .goto (-24), 3), (29, .return_, 1)], 3, [(7, 0, 12, 0)], [], (Option.none : Option Jvm.ClassFile.FieldType), 12)
def gk_m326 : rk_M2 := ([(0, .iconst 0, 1), (1, .istore_n 2, 1), (2, .iload_n 2, 1), (3, .sipush 478, 3), (6, .if_icmp .ge 23, 3), (9, .aload_n 0, 1), (10, .getfield 7, 3), (13, .iload_n 2, 1), (14, .aload_n 0, 1), (15, .getfield 7, 3), (18, .iload_n 1, 1), (19, .iload_n 2, 1), (20, .iadd, 1), (21, .iaload, 1), (22, .iastore, 1), (23, .iinc 2 1, 3), (26, .goto (-24), 3), (29, .return_, 1)], 3, [(7, 0, 12, 0)], [], (Option.none : Option Jvm.ClassFile.FieldType), 12)
def gk_m327 : rk_M2 := ([(0, .iconst 0, 1), (1, .istore_n 1, 1), (2, .iload_n 1, 1), (3, .aload_n 0, 1), (4, .getfield 7, 3), (7, .iconst 1, 1), (8, .iaload, 1), (9, .if_icmp .ge 21, 3), (12, .aload_n 0, 1), (13, .getfield 7, 3), (16, .iload_n 1, 1), (17, .invokestatic 285, 3), (20, .iconst 3, 1), (21, .iadd, 1), (22, .iconst 0, 1), (23, .iastore, 1), (24, .iinc 1 1, 3), (27, .goto (-25), 3), (30, .return_, 1)], 2, [(7, 0, 12, 0), (285, 7, 254, 1)], [], (Option.none : Option Jvm.ClassFile.FieldType), 12)
def gk_m328 : rk_M2 := ([(0, .aload_n 0, 1), (1, .iload_n 1, 1), (2, .invokevirtual 315, 3), (5, .ifCond .eq 15, 3), (8, .iload_n 2, 1), (9, .i2l, 1), (10, .lconst 0, 1), (11, .ldc2_w 417, 3), (14, .invokestatic 342, 3), (17, .ifCond .ne 9, 3), (20, .aload_n 0, 1), (21, .iconst 1, 1), (22, .invokevirtual 96, 3), (25, .ireturn, 1), (26, .aload_n 0, 1), (27, .sipush 5052, 3), (30, .invokevirtual 419, 3), (33, .aload_n 0, 1), (34, .invokevirtual 422, 3), (37, .iconst 0, 1), (38, .istore_n 3, 1), (39, .iload_n 3, 1), (40, .aload_n 0, 1), (41, .getfield 7, 3), (44, .iconst 1, 1), (45, .iaload, 1), (46, .if_icmp .ge 21, 3), (49, .aload_n 0, 1), (50, .getfield 7, 3), (53, .iload_n 3, 1), (54, .invokestatic 285, 3), (57, .iconst 2, 1), (58, .iadd, 1), (59, .iconst 1, 1), (60, .iastore, 1), (61, .iinc 3 1, 3), (64, .goto (-25), 3), (67, .aload_n 0, 1), (68, .iload_n 1, 1), (69, .invokevirtual 291, 3), (72, .ifCond .eq 8, 3), (75, .bipush 21, 2), (77, .goto 4, 3), (80, .iconst 0, 1), (81, .istore_n 3, 1), (82, .iload_n 3, 1), (83, .bipush 20, 2), (85, .if_icmp .gt 23, 3), (88, .aload_n 0, 1), (89, .iload_n 1, 1), (90, .invokevirtual 318, 3), (93, .iload_n 2, 1), (94, .if_icmp .ge 14, 3), (97, .aload_n 0, 1), (98, .invokevirtual 375, 3), (101, .pop, 1), (102, .iinc 3 1, 3), (105, .goto (-23), 3), (108, .aload_n 0, 1), (109, .sipush 5052, 3), (112, .invokevirtual 425, 3), (115, .iload_n 3, 1), (116, .bipush 20, 2), (118, .if_icmp .le 12, 3), (121, .aload_n 0, 1), (122, .bipush 6, 2), (124, .invokevirtual 96, 3), (127, .goto 8, 3), (130, .aload_n 0, 1), (131, .iload_n 3, 1), (132, .invokevirtual 100, 3), (135, .ireturn, 1)], 4, [(7, 0, 12, 0), (96, 5, 207, 1), (100, 5, 208, 1), (285, 7, 254, 1), (291, 5, 263, 1), (315, 5, 257, 1), (318, 5, 271, 1), (342, 7, 218, 3), (375, 5, 285, 0), (419, 5, 325, 1), (422, 5, 327, 0), (425, 5, 326, 1)], [(417, .long 999)], (Option.some Jvm.ClassFile.FieldType.int), 12)
def gk_m329 : rk_M2 := ([(0, .aload_n 0, 1), (1, .sipush 5052, 3), (4, .invokevirtual 419, 3), (7, .aload_n 0, 1), (8, .invokevirtual 422, 3), (11, .iload_n 3, 1), (12, .istore 4, 2), (14, .iconst 1, 1), (15, .istore 5, 2), (17, .iload 5, 2), (19, .iload_n 1, 1), (20, .if_icmp .ge 21, 3), (23, .iload 4, 2), (25, .aload_n 0, 1), (26, .getfield 53, 3), (29, .iload 5, 2), (31, .iaload, 1), (32, .iadd, 1), (33, .istore 4, 2), (35, .iinc 5 1, 3), (38, .goto (-21), 3), (41, .iconst 0, 1), (42, .istore 5, 2), (44, .iconst 0, 1), (45, .istore 6, 2), (47, .iconst 1, 1), (48, .istore 7, 2), (50, .iconst 0, 1), (51, .istore 8, 2), (53, .iload 8, 2), (55, .iload 4, 2), (57, .if_icmp .ge 118, 3), (60, .iload 7, 2), (62, .ifCond .eq 113, 3), (65, .iload 6, 2), (67, .iload_n 1, 1), (68, .if_icmp .ge 48, 3), (71, .iload 8, 2), (73, .iload 5, 2), (75, .if_icmp .ne 41, 3), (78, .aload_n 0, 1), (79, .aload_n 0, 1), (80, .getfield 50, 3), (83, .iload 6, 2), (85, .iaload, 1), (86, .iload_n 2, 1), (87, .iload_n 3, 1), (88, .invokevirtual 353, 3), (91, .iinc 6 1, 3), (94, .iload 5, 2), (96, .iload 6, 2), (98, .iload_n 1, 1), (99, .if_icmp .ge 13, 3), (102, .aload_n 0, 1), (103, .getfield 53, 3), (106, .iload 6, 2), (108, .iaload, 1), (109, .goto 4, 3), (112, .iconst 0, 1), (113, .iadd, 1), (114, .istore 5, 2), (116, .aload_n 0, 1), (117, .invokevirtual 375, 3), (120, .ifCond .ne 7, 3), (123, .iconst 1, 1), (124, .goto 4, 3), (127, .iconst 0, 1), (128, .istore 7, 2), (130, .iconst 0, 1), (131, .istore 9, 2), (133, .iload 9, 2), (135, .iload_n 1, 1), (136, .if_icmp .ge 33, 3), (139, .iload 7, 2), (141, .aload_n 0, 1), (142, .aload_n 0, 1), (143, .getfield 50, 3), (146, .iload 9, 2), (148, .iaload, 1), (149, .invokevirtual 300, 3), (152, .ifCond .ne 7, 3), (155, .iconst 1, 1), (156, .goto 4, 3), (159, .iconst 0, 1), (160, .iand, 1), (161, .istore 7, 2), (163, .iinc 9 1, 3), (166, .goto (-33), 3), (169, .iinc 8 1, 3), (172, .goto (-119), 3), (175, .aload_n 0, 1), (176, .sipush 5052, 3), (179, .invokevirtual 425, 3), (182, .iload 7, 2), (184, .ifCond .eq 8, 3), (187, .iload 4, 2), (189, .goto 6, 3), (192, .ldc_w 363, 3), (195, .ireturn, 1)], 10, [(50, 0, 12, 26), (53, 0, 12, 27), (300, 5, 266, 1), (353, 5, 288, 3), (375, 5, 285, 0), (419, 5, 325, 1), (422, 5, 327, 0), (425, 5, 326, 1)], [(363, .int 1000000)], (Option.some Jvm.ClassFile.FieldType.int), 12)
def gk_m330 : rk_M2 := ([(0, .iload_n 1, 1), (1, .iconst 1, 1), (2, .isub, 1), (3, .istore_n 2, 1), (4, .iload_n 2, 1), (5, .ifCond .le 27, 3), (8, .aload_n 0, 1), (9, .getfield 53, 3), (12, .iload_n 2, 1), (13, .iaload, 1), (14, .bipush 6, 2), (16, .if_icmp .ne 16, 3), (19, .aload_n 0, 1), (20, .getfield 53, 3), (23, .iload_n 2, 1), (24, .iconst 1, 1), (25, .iastore, 1), (26, .iinc 2 (-1), 3), (29, .goto (-25), 3), (32, .iload_n 2, 1), (33, .ifCond .gt 5, 3), (36, .iconst 0, 1), (37, .ireturn, 1), (38, .aload_n 0, 1), (39, .getfield 53, 3), (42, .iload_n 2, 1), (43, .dup2, 1), (44, .iaload, 1), (45, .iconst 1, 1), (46, .iadd, 1), (47, .iastore, 1), (48, .iconst 1, 1), (49, .ireturn, 1)], 3, [(53, 0, 12, 27)], [], (Option.some Jvm.ClassFile.FieldType.boolean), 12)
def gk_m331 : rk_M2 := ([(0, .iload_n 1, 1), (1, .iconst 2, 1), (2, .isub, 1), (3, .istore_n 2, 1), (4, .iload_n 2, 1), (5, .ifCond .lt 26, 3), (8, .aload_n 0, 1), (9, .getfield 50, 3), (12, .iload_n 2, 1), (13, .iaload, 1), (14, .aload_n 0, 1), (15, .getfield 50, 3), (18, .iload_n 2, 1), (19, .iconst 1, 1), (20, .iadd, 1), (21, .iaload, 1), (22, .if_icmp .le 9, 3), (25, .iinc 2 (-1), 3), (28, .goto (-24), 3), (31, .iload_n 2, 1), (32, .ifCond .ge 5, 3), (35, .iconst 0, 1), (36, .ireturn, 1), (37, .iload_n 1, 1), (38, .iconst 1, 1), (39, .isub, 1), (40, .istore_n 3, 1), (41, .aload_n 0, 1), (42, .getfield 50, 3), (45, .iload_n 3, 1), (46, .iaload, 1), (47, .aload_n 0, 1), (48, .getfield 50, 3), (51, .iload_n 2, 1), (52, .iaload, 1), (53, .if_icmp .ge 9, 3), (56, .iinc 3 (-1), 3), (59, .goto (-18), 3), (62, .aload_n 0, 1), (63, .iload_n 2, 1), (64, .iload_n 3, 1), (65, .invokevirtual 428, 3), (68, .iload_n 2, 1), (69, .iconst 1, 1), (70, .iadd, 1), (71, .istore 4, 2), (73, .iload 4, 2), (75, .iload_n 1, 1), (76, .iload 4, 2), (78, .isub, 1), (79, .iload_n 2, 1), (80, .iadd, 1), (81, .if_icmp .ge 21, 3), (84, .aload_n 0, 1), (85, .iload 4, 2), (87, .iload_n 1, 1), (88, .iload 4, 2), (90, .isub, 1), (91, .iload_n 2, 1), (92, .iadd, 1), (93, .invokevirtual 428, 3), (96, .iinc 4 1, 3), (99, .goto (-26), 3), (102, .iconst 1, 1), (103, .ireturn, 1)], 5, [(50, 0, 12, 26), (428, 5, 332, 2)], [], (Option.some Jvm.ClassFile.FieldType.boolean), 12)
def gk_m332 : rk_M2 := ([(0, .aload_n 0, 1), (1, .getfield 50, 3), (4, .iload_n 1, 1), (5, .iaload, 1), (6, .istore_n 3, 1), (7, .aload_n 0, 1), (8, .getfield 50, 3), (11, .iload_n 1, 1), (12, .aload_n 0, 1), (13, .getfield 50, 3), (16, .iload_n 2, 1), (17, .iaload, 1), (18, .iastore, 1), (19, .aload_n 0, 1), (20, .getfield 50, 3), (23, .iload_n 2, 1), (24, .iload_n 3, 1), (25, .iastore, 1), (26, .return_, 1)], 4, [(50, 0, 12, 26)], [], (Option.none : Option Jvm.ClassFile.FieldType), 12)
def gk_m333 : rk_M2 := ([(0, .iload_n 1, 1), (1, .i2l, 1), (2, .lconst 1, 1), (3, .lconst 1, 1), (4, .aload_n 0, 1), (5, .getfield 7, 3), (8, .iconst 1, 1), (9, .iaload, 1), (10, .lshl, 1), (11, .lconst 1, 1), (12, .lsub, 1), (13, .invokestatic 342, 3), (16, .ifCond .eq 11, 3), (19, .iload_n 1, 1), (20, .invokestatic 384, 3), (23, .iconst 4, 1), (24, .if_icmp .le 5, 3), (27, .iconst 1, 1), (28, .ireturn, 1), (29, .aload_n 0, 1), (30, .iload_n 2, 1), (31, .iload_n 3, 1), (32, .bipush 12, 2), (34, .invokevirtual 346, 3), (37, .istore 4, 2), (39, .iload 4, 2), (41, .ifCond .le 6, 3), (44, .iload 4, 2), (46, .ireturn, 1), (47, .iconst (-1), 1), (48, .istore 5, 2), (50, .iconst 0, 1), (51, .istore 6, 2), (53, .iload 6, 2), (55, .aload_n 0, 1), (56, .getfield 7, 3), (59, .iconst 1, 1), (60, .iaload, 1), (61, .if_icmp .ge 77, 3), (64, .aload_n 0, 1), (65, .iload_n 1, 1), (66, .iload 6, 2), (68, .invokevirtual 282, 3), (71, .ifCond .ne 6, 3), (74, .goto 58, 3), (77, .iload 5, 2), (79, .iconst (-1), 1), (80, .if_icmp .ne 11, 3), (83, .aload_n 0, 1), (84, .iload 6, 2), (86, .invokevirtual 303, 3), (89, .istore 5, 2), (91, .aload_n 0, 1), (92, .iload 6, 2), (94, .invokevirtual 303, 3), (97, .iload 5, 2), (99, .if_icmp .ne 30, 3), (102, .aload_n 0, 1), (103, .iload 5, 2), (105, .invokevirtual 276, 3), (108, .ifCond .eq 21, 3), (111, .aload_n 0, 1), (112, .iload 6, 2), (114, .invokevirtual 300, 3), (117, .ifCond .ne 12, 3), (120, .aload_n 0, 1), (121, .iload 6, 2), (123, .invokevirtual 309, 3), (126, .ifCond .le 6, 3), (129, .bipush 7, 2), (131, .ireturn, 1), (132, .iinc 6 1, 3), (135, .goto (-82), 3), (138, .aload_n 0, 1), (139, .iload 5, 2), (141, .iload_n 2, 1), (142, .iload_n 3, 1), (143, .invokevirtual 350, 3), (146, .ifCond .eq 7, 3), (149, .iconst 0, 1), (150, .goto 5, 3), (153, .bipush 7, 2), (155, .ireturn, 1)], 7, [(7, 0, 12, 0), (276, 5, 256, 1), (282, 5, 260, 2), (300, 5, 266, 1), (303, 5, 265, 1), (309, 5, 267, 1), (342, 7, 218, 3), (346, 5, 287, 3), (350, 5, 286, 3), (384, 7, 261, 1)], [], (Option.some Jvm.ClassFile.FieldType.int), 12)
def gk_m334 : rk_M2 := ([(0, .aload_n 0, 1), (1, .iload_n 1, 1), (2, .iload_n 2, 1), (3, .iload_n 3, 1), (4, .invokevirtual 432, 3), (7, .istore 4, 2), (9, .iload 4, 2), (11, .ifCond .le 10, 3), (14, .aload_n 0, 1), (15, .iload 4, 2), (17, .invokevirtual 96, 3), (20, .ireturn, 1), (21, .iconst 0, 1), (22, .istore 5, 2), (24, .iconst 0, 1), (25, .istore 6, 2), (27, .iload 6, 2), (29, .aload_n 0, 1), (30, .getfield 7, 3), (33, .iconst 1, 1), (34, .iaload, 1), (35, .if_icmp .ge 34, 3), (38, .aload_n 0, 1), (39, .iload_n 1, 1), (40, .iload 6, 2), (42, .invokevirtual 282, 3), (45, .ifCond .ne 6, 3), (48, .goto 15, 3), (51, .aload_n 0, 1), (52, .getfield 50, 3), (55, .iload 5, 2), (57, .iload 6, 2), (59, .iastore, 1), (60, .iinc 5 1, 3), (63, .iinc 6 1, 3), (66, .goto (-39), 3), (69, .ldc_w 363, 3), (72, .istore 6, 2), (74, .iconst 1, 1), (75, .istore 7, 2), (77, .iload 7, 2), (79, .ifCond .eq 137, 3), (82, .iconst 0, 1), (83, .istore 8, 2), (85, .iload 8, 2), (87, .iload 5, 2), (89, .if_icmp .ge 26, 3), (92, .aload_n 0, 1), (93, .getfield 53, 3), (96, .iload 8, 2), (98, .iload 8, 2), (100, .ifCond .ne 7, 3), (103, .iconst 0, 1), (104, .goto 4, 3), (107, .iconst 1, 1), (108, .iastore, 1), (109, .iinc 8 1, 3), (112, .goto (-27), 3), (115, .iconst 1, 1), (116, .istore 8, 2), (118, .iload 8, 2), (120, .ifCond .eq 85, 3), (123, .aload_n 0, 1), (124, .iload 5, 2), (126, .iload_n 2, 1), (127, .iload_n 3, 1), (128, .invokevirtual 435, 3), (131, .istore 9, 2), (133, .iload 9, 2), (135, .iload 6, 2), (137, .if_icmp .ge 57, 3), (140, .iload 9, 2), (142, .istore 6, 2), (144, .aload_n 0, 1), (145, .iload 5, 2), (147, .putfield 438, 3), (150, .iconst 0, 1), (151, .istore 10, 2), (153, .iload 10, 2), (155, .iload 5, 2), (157, .if_icmp .ge 37, 3), (160, .aload_n 0, 1), (161, .getfield 56, 3), (164, .iload 10, 2), (166, .aload_n 0, 1), (167, .getfield 50, 3), (170, .iload 10, 2), (172, .iaload, 1), (173, .iastore, 1), (174, .aload_n 0, 1), (175, .getfield 59, 3), (178, .iload 10, 2), (180, .aload_n 0, 1), (181, .getfield 53, 3), (184, .iload 10, 2), (186, .iaload, 1), (187, .iastore, 1), (188, .iinc 10 1, 3), (191, .goto (-38), 3), (194, .aload_n 0, 1), (195, .iload 5, 2), (197, .invokevirtual 441, 3), (200, .istore 8, 2), (202, .goto (-84), 3), (205, .aload_n 0, 1), (206, .iload 5, 2), (208, .invokevirtual 444, 3), (211, .istore 7, 2), (213, .goto (-136), 3), (216, .iload 6, 2), (218, .ldc_w 363, 3), (221, .if_icmp .ne 12, 3), (224, .aload_n 0, 1), (225, .bipush 6, 2), (227, .invokevirtual 96, 3), (230, .goto 9, 3), (233, .aload_n 0, 1), (234, .iload 6, 2), (236, .invokevirtual 100, 3), (239, .ireturn, 1)], 11, [(7, 0, 12, 0), (50, 0, 12, 26), (53, 0, 12, 27), (56, 0, 12, 28), (59, 0, 12, 29), (96, 5, 207, 1), (100, 5, 208, 1), (282, 5, 260, 2), (432, 5, 333, 3), (435, 5, 329, 3), (438, 0, 12, 30), (441, 5, 330, 1), (444, 5, 331, 1)], [(363, .int 1000000)], (Option.some Jvm.ClassFile.FieldType.int), 12)
def gk_m335 : rk_M2 := ([(0, .iload_n 2, 1), (1, .ifCond .lt 8, 3), (4, .iload_n 2, 1), (5, .iconst 1, 1), (6, .if_icmp .le 11, 3), (9, .aload_n 0, 1), (10, .iconst 1, 1), (11, .invokevirtual 96, 3), (14, .goto 47, 3), (17, .iload_n 1, 1), (18, .ifCond .lt 11, 3), (21, .iload_n 1, 1), (22, .aload_n 0, 1), (23, .getfield 438, 3), (26, .if_icmp .lt 12, 3), (29, .aload_n 0, 1), (30, .bipush 6, 2), (32, .invokevirtual 96, 3), (35, .goto 26, 3), (38, .aload_n 0, 1), (39, .iload_n 2, 1), (40, .ifCond .ne 12, 3), (43, .aload_n 0, 1), (44, .getfield 56, 3), (47, .iload_n 1, 1), (48, .iaload, 1), (49, .goto 9, 3), (52, .aload_n 0, 1), (53, .getfield 59, 3), (56, .iload_n 1, 1), (57, .iaload, 1), (58, .invokevirtual 100, 3), (61, .ireturn, 1)], 3, [(56, 0, 12, 28), (59, 0, 12, 29), (96, 5, 207, 1), (100, 5, 208, 1), (438, 0, 12, 30)], [], (Option.some Jvm.ClassFile.FieldType.int), 12)
def gk_m336 : rk_M2 := ([(0, .aload_n 0, 1), (1, .sipush 5052, 3), (4, .invokevirtual 419, 3), (7, .iconst 0, 1), (8, .istore_n 1, 1), (9, .iconst 1, 1), (10, .istore_n 2, 1), (11, .iload_n 2, 1), (12, .bipush 20, 2), (14, .if_icmp .gt 34, 3), (17, .iload_n 1, 1), (18, .ifCond .ne 30, 3), (21, .aload_n 0, 1), (22, .iconst 3, 1), (23, .invokevirtual 312, 3), (26, .ifCond .eq 22, 3), (29, .aload_n 0, 1), (30, .invokevirtual 375, 3), (33, .ifCond .ne 7, 3), (36, .iconst 0, 1), (37, .goto 4, 3), (40, .iload_n 2, 1), (41, .istore_n 1, 1), (42, .iinc 2 1, 3), (45, .goto (-34), 3), (48, .aload_n 0, 1), (49, .sipush 5052, 3), (52, .invokevirtual 425, 3), (55, .aload_n 0, 1), (56, .iload_n 1, 1), (57, .invokevirtual 100, 3), (60, .ireturn, 1)], 3, [(100, 5, 208, 1), (312, 5, 273, 1), (375, 5, 285, 0), (419, 5, 325, 1), (425, 5, 326, 1)], [], (Option.some Jvm.ClassFile.FieldType.int), 12)
def gk_m337 : rk_M2 := ([(0, .iconst 0, 1), (1, .istore_n 2, 1), (2, .iconst 0, 1), (3, .istore_n 3, 1), (4, .iload_n 3, 1), (5, .aload_n 0, 1), (6, .getfield 7, 3), (9, .iconst 1, 1), (10, .iaload, 1), (11, .if_icmp .ge 30, 3), (14, .iload_n 2, 1), (15, .aload_n 0, 1), (16, .iload_n 1, 1), (17, .iload_n 3, 1), (18, .invokevirtual 282, 3), (21, .ifCond .eq 11, 3), (24, .aload_n 0, 1), (25, .iload_n 3, 1), (26, .invokevirtual 306, 3), (29, .goto 4, 3), (32, .iconst 0, 1), (33, .iadd, 1), (34, .istore_n 2, 1), (35, .iinc 3 1, 3), (38, .goto (-34), 3), (41, .iload_n 2, 1), (42, .ireturn, 1)], 4, [(7, 0, 12, 0), (282, 5, 260, 2), (306, 5, 264, 1)], [], (Option.some Jvm.ClassFile.FieldType.int), 12)
def gk_m338 : rk_M2 := ([(0, .iload_n 1, 1), (1, .i2l, 1), (2, .lconst 1, 1), (3, .lconst 1, 1), (4, .aload_n 0, 1), (5, .getfield 7, 3), (8, .iconst 1, 1), (9, .iaload, 1), (10, .lshl, 1), (11, .lconst 1, 1), (12, .lsub, 1), (13, .invokestatic 342, 3), (16, .ireturn, 1)], 2, [(7, 0, 12, 0), (342, 7, 218, 3)], [], (Option.some Jvm.ClassFile.FieldType.boolean), 12)
def gk_m339 : rk_M2 := ([(0, .aload_n 0, 1), (1, .iload_n 1, 1), (2, .invokevirtual 447, 3), (5, .aload_n 0, 1), (6, .iload_n 2, 1), (7, .iload_n 1, 1), (8, .iconst (-1), 1), (9, .ixor, 1), (10, .iand, 1), (11, .invokevirtual 447, 3), (14, .isub, 1), (15, .invokestatic 450, 3), (18, .ireturn, 1)], 3, [(447, 5, 337, 1), (450, 17, 0, 0)], [], (Option.some Jvm.ClassFile.FieldType.int), 12)
def gk_m340 : rk_M2 := ([(0, .iconst (-1), 1), (1, .istore_n 2, 1), (2, .iconst 1, 1), (3, .istore_n 3, 1), (4, .iload_n 3, 1), (5, .iload_n 1, 1), (6, .if_icmp .gt 48, 3), (9, .iload_n 3, 1), (10, .iload_n 1, 1), (11, .iconst (-1), 1), (12, .ixor, 1), (13, .iand, 1), (14, .ifCond .ne 34, 3), (17, .iload_n 3, 1), (18, .iload_n 1, 1), (19, .iload_n 1, 1), (20, .ineg, 1), (21, .iand, 1), (22, .iand, 1), (23, .ifCond .eq 25, 3), (26, .iload_n 2, 1), (27, .iconst (-1), 1), (28, .if_icmp .eq 18, 3), (31, .aload_n 0, 1), (32, .iload_n 3, 1), (33, .iload_n 1, 1), (34, .invokevirtual 453, 3), (37, .aload_n 0, 1), (38, .iload_n 2, 1), (39, .iload_n 1, 1), (40, .invokevirtual 453, 3), (43, .if_icmp .ge 5, 3), (46, .iload_n 3, 1), (47, .istore_n 2, 1), (48, .iinc 3 1, 3), (51, .goto (-47), 3), (54, .iload_n 2, 1), (55, .ireturn, 1)], 4, [(453, 5, 339, 2)], [], (Option.some Jvm.ClassFile.FieldType.int), 12)
def gk_m341 : rk_M2 := ([(0, .aload_n 0, 1), (1, .iload_n 1, 1), (2, .invokevirtual 456, 3), (5, .ifCond .eq 20, 3), (8, .aload_n 0, 1), (9, .aload_n 0, 1), (10, .aload_n 0, 1), (11, .iload_n 1, 1), (12, .invokevirtual 459, 3), (15, .iload_n 1, 1), (16, .invokevirtual 453, 3), (19, .invokevirtual 100, 3), (22, .goto 8, 3), (25, .aload_n 0, 1), (26, .iconst 1, 1), (27, .invokevirtual 96, 3), (30, .ireturn, 1)], 2, [(96, 5, 207, 1), (100, 5, 208, 1), (453, 5, 339, 2), (456, 5, 338, 1), (459, 5, 340, 1)], [], (Option.some Jvm.ClassFile.FieldType.int), 12)
def gk_m342 : rk_M2 := ([(0, .aload_n 0, 1), (1, .iload_n 1, 1), (2, .invokevirtual 456, 3), (5, .ifCond .eq 15, 3), (8, .aload_n 0, 1), (9, .aload_n 0, 1), (10, .iload_n 1, 1), (11, .invokevirtual 459, 3), (14, .invokevirtual 100, 3), (17, .goto 8, 3), (20, .aload_n 0, 1), (21, .iconst 1, 1), (22, .invokevirtual 96, 3), (25, .ireturn, 1)], 2, [(96, 5, 207, 1), (100, 5, 208, 1), (456, 5, 338, 1), (459, 5, 340, 1)], [], (Option.some Jvm.ClassFile.FieldType.int), 12)
def gk_m343 : rk_M2 := ([(0, .aload_n 0, 1), (1, .iload_n 1, 1), (2, .invokevirtual 456, 3), (5, .ifCond .eq 15, 3), (8, .iload_n 2, 1), (9, .i2l, 1), (10, .lconst 1, 1), (11, .ldc2_w 417, 3), (14, .invokestatic 342, 3), (17, .ifCond .ne 9, 3), (20, .aload_n 0, 1), (21, .iconst 1, 1), (22, .invokevirtual 96, 3), (25, .ireturn, 1), (26, .iconst 0, 1), (27, .istore_n 3, 1), (28, .iload_n 3, 1), (29, .iload_n 1, 1), (30, .if_icmp .gt 94, 3), (33, .aload_n 0, 1), (34, .getfield 62, 3), (37, .iload_n 3, 1), (38, .iload_n 3, 1), (39, .ifCond .ne 7, 3), (42, .iconst 0, 1), (43, .goto 6, 3), (46, .ldc_w 363, 3), (49, .iastore, 1), (50, .iload_n 3, 1), (51, .iload_n 1, 1), (52, .iconst (-1), 1), (53, .ixor, 1), (54, .iand, 1), (55, .ifCond .eq 6, 3), (58, .goto 60, 3), (61, .iload_n 3, 1), (62, .istore 4, 2), (64, .iload 4, 2), (66, .ifCond .le 52, 3), (69, .aload_n 0, 1), (70, .iload 4, 2), (72, .invokevirtual 447, 3), (75, .iload_n 2, 1), (76, .if_icmp .gt 31, 3), (79, .aload_n 0, 1), (80, .getfield 62, 3), (83, .iload_n 3, 1), (84, .aload_n 0, 1), (85, .getfield 62, 3), (88, .iload_n 3, 1), (89, .iaload, 1), (90, .aload_n 0, 1), (91, .getfield 62, 3), (94, .iload_n 3, 1), (95, .iload 4, 2), (97, .iconst (-1), 1), (98, .ixor, 1), (99, .iand, 1), (100, .iaload, 1), (101, .iconst 1, 1), (102, .iadd, 1), (103, .invokestatic 151, 3), (106, .iastore, 1), (107, .iload 4, 2), (109, .iconst 1, 1), (110, .isub, 1), (111, .iload_n 3, 1), (112, .iand, 1), (113, .istore 4, 2), (115, .goto (-51), 3), (118, .iinc 3 1, 3), (121, .goto (-93), 3), (124, .aload_n 0, 1), (125, .getfield 62, 3), (128, .iload_n 1, 1), (129, .iaload, 1), (130, .ldc_w 363, 3), (133, .if_icmp .lt 12, 3), (136, .aload_n 0, 1), (137, .bipush 6, 2), (139, .invokevirtual 96, 3), (142, .goto 13, 3), (145, .aload_n 0, 1), (146, .aload_n 0, 1), (147, .getfield 62, 3), (150, .iload_n 1, 1), (151, .iaload, 1), (152, .invokevirtual 100, 3), (155, .ireturn, 1)], 5, [(62, 0, 12, 31), (96, 5, 207, 1), (100, 5, 208, 1), (151, 15, 0, 0), (342, 7, 218, 3), (447, 5, 337, 1), (456, 5, 338, 1)], [(363, .int 1000000), (417, .long 999)], (Option.some Jvm.ClassFile.FieldType.int), 12)
def gk_m344 : rk_M2 := ([(0, .iconst 0, 1), (1, .istore_n 3, 1), (2, .iload_n 3, 1), (3, .iload_n 2, 1), (4, .if_icmp .gt 104, 3), (7, .iconst 0, 1), (8, .istore 4, 2), (10, .iload 4, 2), (12, .iload_n 1, 1), (13, .if_icmp .gt 89, 3), (16, .aload_n 0, 1), (17, .getfield 65, 3), (20, .bipush 61, 2), (22, .iload_n 3, 1), (23, .imul, 1), (24, .iload 4, 2), (26, .iadd, 1), (27, .iload 4, 2), (29, .ifCond .ne 7, 3), (32, .iconst 0, 1), (33, .goto 6, 3), (36, .ldc_w 363, 3), (39, .iastore, 1), (40, .iconst 1, 1), (41, .istore 5, 2), (43, .iload 5, 2), (45, .iload 4, 2), (47, .if_icmp .gt 49, 3), (50, .iload_n 3, 1), (51, .ifCond .le 45, 3), (54, .aload_n 0, 1), (55, .getfield 65, 3), (58, .bipush 61, 2), (60, .iload_n 3, 1), (61, .imul, 1), (62, .iload 4, 2), (64, .iadd, 1), (65, .aload_n 0, 1), (66, .getfield 65, 3), (69, .bipush 61, 2), (71, .iload_n 3, 1), (72, .imul, 1), (73, .iload 4, 2), (75, .iadd, 1), (76, .iaload, 1), (77, .aload_n 0, 1), (78, .iload 4, 2), (80, .iload_n 3, 1), (81, .iload 5, 2), (83, .invokevirtual 462, 3), (86, .invokestatic 151, 3), (89, .iastore, 1), (90, .iinc 5 1, 3), (93, .goto (-50), 3), (96, .iinc 4 1, 3), (99, .goto (-89), 3), (102, .iinc 3 1, 3), (105, .goto (-103), 3), (108, .aload_n 0, 1), (109, .getfield 65, 3), (112, .bipush 61, 2), (114, .iload_n 2, 1), (115, .imul, 1), (116, .iload_n 1, 1), (117, .iadd, 1), (118, .iaload, 1), (119, .ireturn, 1)], 6, [(65, 0, 12, 32), (151, 15, 0, 0), (462, 5, 345, 3)], [(363, .int 1000000)], (Option.some Jvm.ClassFile.FieldType.int), 12)
def gk_m345 : rk_M2 := ([(0, .iconst 1, 1), (1, .aload_n 0, 1), (2, .getfield 65, 3), (5, .bipush 61, 2), (7, .iload_n 2, 1), (8, .iconst 1, 1), (9, .isub, 1), (10, .imul, 1), (11, .iload_n 3, 1), (12, .iadd, 1), (13, .iconst 1, 1), (14, .isub, 1), (15, .iaload, 1), (16, .aload_n 0, 1), (17, .getfield 65, 3), (20, .bipush 61, 2), (22, .iload_n 2, 1), (23, .imul, 1), (24, .iload_n 1, 1), (25, .iadd, 1), (26, .iload_n 3, 1), (27, .isub, 1), (28, .iaload, 1), (29, .invokestatic 297, 3), (32, .iadd, 1), (33, .ireturn, 1)], 4, [(65, 0, 12, 32), (297, 14, 0, 0)], [], (Option.some Jvm.ClassFile.FieldType.int), 12)
def gk_m346 : rk_M2 := ([(0, .iload_n 0, 1), (1, .i2l, 1), (2, .lconst 0, 1), (3, .ldc2_w 465, 3), (6, .invokestatic 342, 3), (9, .ifCond .eq 19, 3), (12, .iload_n 1, 1), (13, .i2l, 1), (14, .lconst 1, 1), (15, .ldc2_w 467, 3), (18, .invokestatic 342, 3), (21, .ifCond .eq 7, 3), (24, .iconst 1, 1), (25, .goto 4, 3), (28, .iconst 0, 1), (29, .ireturn, 1)], 2, [(342, 7, 218, 3)], [(465, .long 60), (467, .long 6)], (Option.some Jvm.ClassFile.FieldType.boolean), 12)
def gk_m347 : rk_M2 := ([(0, .iload_n 1, 1), (1, .iload_n 2, 1), (2, .invokestatic 469, 3), (5, .ifCond .eq 16, 3), (8, .aload_n 0, 1), (9, .aload_n 0, 1), (10, .iload_n 1, 1), (11, .iload_n 2, 1), (12, .invokevirtual 472, 3), (15, .invokevirtual 100, 3), (18, .goto 8, 3), (21, .aload_n 0, 1), (22, .iconst 1, 1), (23, .invokevirtual 96, 3), (26, .ireturn, 1)], 3, [(96, 5, 207, 1), (100, 5, 208, 1), (469, 7, 346, 2), (472, 5, 344, 2)], [], (Option.some Jvm.ClassFile.FieldType.int), 12)
def gk_m348 : rk_M2 := ([(0, .iload_n 1, 1), (1, .iload_n 2, 1), (2, .invokestatic 469, 3), (5, .ifCond .ne 9, 3), (8, .aload_n 0, 1), (9, .iconst 1, 1), (10, .invokevirtual 96, 3), (13, .ireturn, 1), (14, .iload_n 1, 1), (15, .ifCond .ne 10, 3), (18, .aload_n 0, 1), (19, .bipush 6, 2), (21, .invokevirtual 96, 3), (24, .ireturn, 1), (25, .aload_n 0, 1), (26, .iload_n 1, 1), (27, .iload_n 2, 1), (28, .invokevirtual 472, 3), (31, .istore_n 3, 1), (32, .iconst 1, 1), (33, .istore 4, 2), (35, .aload_n 0, 1), (36, .iload_n 1, 1), (37, .iload_n 2, 1), (38, .iload 4, 2), (40, .invokevirtual 462, 3), (43, .iload_n 3, 1), (44, .if_icmp .eq 9, 3), (47, .iinc 4 1, 3), (50, .goto (-15), 3), (53, .aload_n 0, 1), (54, .iload 4, 2), (56, .invokevirtual 100, 3), (59, .ireturn, 1)], 5, [(96, 5, 207, 1), (100, 5, 208, 1), (462, 5, 345, 3), (469, 7, 346, 2), (472, 5, 344, 2)], [], (Option.some Jvm.ClassFile.FieldType.int), 12)
def gk_m349 : rk_M2 := ([(0, .aload_n 0, 1), (1, .iconst 0, 1), (2, .invokevirtual 312, 3), (5, .istore_n 3, 1), (6, .iconst 0, 1), (7, .istore 4, 2), (9, .iload 4, 2), (11, .aload_n 0, 1), (12, .getfield 7, 3), (15, .iconst 0, 1), (16, .iaload, 1), (17, .if_icmp .ge 75, 3), (20, .aload_n 0, 1), (21, .iload_n 2, 1), (22, .iload 4, 2), (24, .invokevirtual 282, 3), (27, .ifCond .eq 19, 3), (30, .aload_n 0, 1), (31, .iload 4, 2), (33, .invokevirtual 318, 3), (36, .aload_n 0, 1), (37, .iload_n 1, 1), (38, .invokevirtual 306, 3), (41, .if_icmp .lt 5, 3), (44, .iconst 0, 1), (45, .ireturn, 1), (46, .aload_n 0, 1), (47, .iload_n 2, 1), (48, .iload 4, 2), (50, .invokevirtual 282, 3), (53, .ifCond .ne 26, 3), (56, .aload_n 0, 1), (57, .iload 4, 2), (59, .invokevirtual 315, 3), (62, .ifCond .eq 24, 3), (65, .aload_n 0, 1), (66, .iload 4, 2), (68, .invokevirtual 318, 3), (71, .aload_n 0, 1), (72, .iload_n 1, 1), (73, .invokevirtual 306, 3), (76, .if_icmp .lt 10, 3), (79, .iload_n 3, 1), (80, .iconst 1, 1), (81, .iload 4, 2), (83, .ishl, 1), (84, .ior, 1), (85, .istore_n 3, 1), (86, .iinc 4 1, 3), (89, .goto (-80), 3), (92, .iconst 0, 1), (93, .istore 4, 2), (95, .iconst 0, 1), (96, .istore 5, 2), (98, .aload_n 0, 1), (99, .getfield 68, 3), (102, .iconst 0, 1), (103, .iconst (-1), 1), (104, .iastore, 1), (105, .iload 4, 2), (107, .ifCond .lt 192, 3), (110, .aload_n 0, 1), (111, .getfield 68, 3), (114, .iload 4, 2), (116, .iaload, 1), (117, .istore 6, 2), (119, .iload 6, 2), (121, .iconst (-1), 1), (122, .if_icmp .eq 14, 3), (125, .iload 5, 2), (127, .iconst 1, 1), (128, .iload 6, 2), (130, .ishl, 1), (131, .iconst (-1), 1), (132, .ixor, 1), (133, .iand, 1), (134, .istore 5, 2), (136, .iload 6, 2), (138, .iconst 1, 1), (139, .iadd, 1), (140, .istore 7, 2), (142, .iload 7, 2), (144, .aload_n 0, 1), (145, .getfield 7, 3), (148, .iconst 0, 1), (149, .iaload, 1), (150, .if_icmp .ge 65, 3), (153, .aload_n 0, 1), (154, .iload_n 3, 1), (155, .iload 7, 2), (157, .invokevirtual 282, 3), (160, .ifCond .eq 49, 3), (163, .aload_n 0, 1), (164, .iload 5, 2), (166, .iload 7, 2), (168, .invokevirtual 282, 3), (171, .ifCond .ne 38, 3), (174, .iload 4, 2), (176, .ifCond .ne 15, 3), (179, .aload_n 0, 1), (180, .iload 7, 2), (182, .invokevirtual 276, 3), (185, .ifCond .ne 30, 3), (188, .goto 21, 3), (191, .aload_n 0, 1), (192, .aload_n 0, 1), (193, .getfield 68, 3), (196, .iload 4, 2), (198, .iconst 1, 1), (199, .isub, 1), (200, .iaload, 1), (201, .iload 7, 2), (203, .invokevirtual 330, 3), (206, .ifCond .ne 9, 3), (209, .iinc 7 1, 3), (212, .goto (-70), 3), (215, .aload_n 0, 1), (216, .getfield 68, 3), (219, .iload 4, 2), (221, .iload 7, 2), (223, .iastore, 1), (224, .iload 7, 2), (226, .aload_n 0, 1), (227, .getfield 7, 3), (230, .iconst 0, 1), (231, .iaload, 1), (232, .if_icmp .ne 9, 3), (235, .iinc 4 (-1), 3), (238, .goto (-133), 3), (241, .iload 5, 2), (243, .iconst 1, 1), (244, .iload 7, 2), (246, .ishl, 1), (247, .ior, 1), (248, .istore 5, 2), (250, .iload 4, 2), (252, .ifCond .le 23, 3), (255, .aload_n 0, 1), (256, .iload 7, 2), (258, .invokevirtual 276, 3), (261, .ifCond .eq 14, 3), (264, .iload_n 2, 1), (265, .iload 5, 2), (267, .iconst (-1), 1), (268, .ixor, 1), (269, .iand, 1), (270, .ifCond .ne 5, 3), (273, .iconst 1, 1), (274, .ireturn, 1), (275, .iload 4, 2), (277, .bipush 9, 2), (279, .if_icmp .ne 6, 3), (282, .goto (-177), 3), (285, .iinc 4 1, 3), (288, .aload_n 0, 1), (289, .getfield 68, 3), (292, .iload 4, 2), (294, .iconst (-1), 1), (295, .iastore, 1), (296, .goto (-191), 3), (299, .iconst 0, 1), (300, .ireturn, 1)], 8, [(7, 0, 12, 0), (68, 0, 12, 33), (276, 5, 256, 1), (282, 5, 260, 2), (306, 5, 264, 1), (312, 5, 273, 1), (315, 5, 257, 1), (318, 5, 271, 1), (330, 5, 262, 2)], [], (Option.some Jvm.ClassFile.FieldType.boolean), 12)
def gk_m350 : rk_M2 := ([(0, .iload_n 1, 1), (1, .i2l, 1), (2, .lconst 0, 1), (3, .lconst 1, 1), (4, .aload_n 0, 1), (5, .getfield 7, 3), (8, .iconst 0, 1), (9, .iaload, 1), (10, .lshl, 1), (11, .lconst 1, 1), (12, .lsub, 1), (13, .invokestatic 342, 3), (16, .ifCond .eq 13, 3), (19, .iload_n 1, 1), (20, .aload_n 0, 1), (21, .iconst 0, 1), (22, .invokevirtual 312, 3), (25, .iand, 1), (26, .ifCond .eq 9, 3), (29, .aload_n 0, 1), (30, .iconst 1, 1), (31, .invokevirtual 96, 3), (34, .ireturn, 1), (35, .iconst 0, 1), (36, .istore_n 2, 1), (37, .iconst 0, 1), (38, .istore_n 3, 1), (39, .iload_n 3, 1), (40, .aload_n 0, 1), (41, .getfield 7, 3), (44, .iconst 1, 1), (45, .iaload, 1), (46, .if_icmp .ge 28, 3), (49, .iload_n 2, 1), (50, .aload_n 0, 1), (51, .iload_n 3, 1), (52, .iload_n 1, 1), (53, .invokevirtual 475, 3), (56, .ifCond .eq 9, 3), (59, .iconst 1, 1), (60, .iload_n 3, 1), (61, .ishl, 1), (62, .goto 4, 3), (65, .iconst 0, 1), (66, .ior, 1), (67, .istore_n 2, 1), (68, .iinc 3 1, 3), (71, .goto (-32), 3), (74, .aload_n 0, 1), (75, .iload_n 2, 1), (76, .invokevirtual 100, 3), (79, .ireturn, 1)], 4, [(7, 0, 12, 0), (96, 5, 207, 1), (100, 5, 208, 1), (312, 5, 273, 1), (342, 7, 218, 3), (475, 5, 349, 2)], [], (Option.some Jvm.ClassFile.FieldType.int), 12)
def gk_m351 : rk_M2 := ([(0, .aload_n 0, 1), (1, .getfield 7, 3), (4, .iload_n 1, 1), (5, .invokestatic 269, 3), (8, .iconst 1, 1), (9, .iadd, 1), (10, .iaload, 1), (11, .ireturn, 1)], 2, [(7, 0, 12, 0), (269, 7, 253, 1)], [], (Option.some Jvm.ClassFile.FieldType.int), 12)
def gk_m352 : rk_M2 := ([(0, .iconst 0, 1), (1, .istore 5, 2), (3, .iload 5, 2), (5, .bipush 21, 2), (7, .if_icmp .ge 28, 3), (10, .aload_n 0, 1), (11, .getfield 71, 3), (14, .iload 5, 2), (16, .iload 5, 2), (18, .bipush 10, 2), (20, .if_icmp .ne 7, 3), (23, .lconst 1, 1), (24, .goto 4, 3), (27, .lconst 0, 1), (28, .lastore, 1), (29, .iinc 5 1, 3), (32, .goto (-29), 3), (35, .lconst 1, 1), (36, .lstore 5, 2), (38, .iconst 0, 1), (39, .istore 7, 2), (41, .iload 7, 2), (43, .iload_n 2, 1), (44, .if_icmp .ge 226, 3), (47, .iconst 0, 1), (48, .istore 8, 2), (50, .iload 8, 2), (52, .bipush 21, 2), (54, .if_icmp .ge 17, 3), (57, .aload_n 0, 1), (58, .getfield 74, 3), (61, .iload 8, 2), (63, .lconst 0, 1), (64, .lastore, 1), (65, .iinc 8 1, 3), (68, .goto (-18), 3), (71, .iconst 0, 1), (72, .istore 8, 2), (74, .iload 8, 2), (76, .bipush 21, 2), (78, .if_icmp .ge 148, 3), (81, .aload_n 0, 1), (82, .getfield 71, 3), (85, .iload 8, 2), (87, .laload, 1), (88, .lconst 0, 1), (89, .lcmp, 1), (90, .ifCond .ne 6, 3), (93, .goto 127, 3), (96, .aload_n 0, 1), (97, .iload_n 1, 1), (98, .invokevirtual 478, 3), (101, .iload 8, 2), (103, .iadd, 1), (104, .bipush 10, 2), (106, .isub, 1), (107, .istore 9, 2), (109, .aload_n 0, 1), (110, .getfield 74, 3), (113, .iload 8, 2), (115, .dup2, 1), (116, .laload, 1), (117, .aload_n 0, 1), (118, .getfield 71, 3), (121, .iload 8, 2), (123, .laload, 1), (124, .bipush 16, 2), (126, .iload_n 3, 1), (127, .isub, 1), (128, .iload 4, 2), (130, .isub, 1), (131, .i2l, 1), (132, .lmul, 1), (133, .ladd, 1), (134, .lastore, 1), (135, .aload_n 0, 1), (136, .getfield 74, 3), (139, .iload 9, 2), (141, .sipush 999, 3), (144, .if_icmp .ne 8, 3), (147, .iload 8, 2), (149, .goto 7, 3), (152, .iload 8, 2), (154, .iconst 1, 1), (155, .iadd, 1), (156, .dup2, 1), (157, .laload, 1), (158, .iload_n 3, 1), (159, .ifCond .ne 7, 3), (162, .lconst 0, 1), (163, .goto 13, 3), (166, .aload_n 0, 1), (167, .getfield 71, 3), (170, .iload 8, 2), (172, .laload, 1), (173, .iload_n 3, 1), (174, .i2l, 1), (175, .lmul, 1), (176, .ladd, 1), (177, .lastore, 1), (178, .aload_n 0, 1), (179, .getfield 74, 3), (182, .iload 9, 2), (184, .ifCond .ne 8, 3), (187, .iload 8, 2), (189, .goto 7, 3), (192, .iload 8, 2), (194, .iconst 1, 1), (195, .isub, 1), (196, .dup2, 1), (197, .laload, 1), (198, .iload 4, 2), (200, .ifCond .ne 7, 3), (203, .lconst 0, 1), (204, .goto 14, 3), (207, .aload_n 0, 1), (208, .getfield 71, 3), (211, .iload 8, 2), (213, .laload, 1), (214, .iload 4, 2), (216, .i2l, 1), (217, .lmul, 1), (218, .ladd, 1), (219, .lastore, 1), (220, .iinc 8 1, 3), (223, .goto (-149), 3), (226, .iconst 0, 1), (227, .istore 8, 2), (229, .iload 8, 2), (231, .bipush 21, 2), (233, .if_icmp .ge 23, 3), (236, .aload_n 0, 1), (237, .getfield 71, 3), (240, .iload 8, 2), (242, .aload_n 0, 1), (243, .getfield 74, 3), (246, .iload 8, 2), (248, .laload, 1), (249, .lastore, 1), (250, .iinc 8 1, 3), (253, .goto (-24), 3), (256, .lload 5, 2), (258, .ldc2_w 481, 3), (261, .lmul, 1), (262, .lstore 5, 2), (264, .iinc 7 1, 3), (267, .goto (-226), 3), (270, .lload 5, 2), (272, .lreturn, 1)], 10, [(71, 0, 12, 34), (74, 0, 12, 35), (478, 5, 351, 1)], [(481, .long 16)], (Option.some Jvm.ClassFile.FieldType.long), 12)
def gk_m353 : rk_M2 := ([(0, .lconst 0, 1), (1, .lstore_n 3, 1), (2, .iconst 0, 1), (3, .istore 5, 2), (5, .iload 5, 2), (7, .bipush 21, 2), (9, .if_icmp .ge 38, 3), (12, .lload_n 3, 1), (13, .aload_n 0, 1), (14, .iload_n 1, 1), (15, .invokevirtual 478, 3), (18, .iload 5, 2), (20, .iadd, 1), (21, .bipush 10, 2), (23, .isub, 1), (24, .iload_n 2, 1), (25, .if_icmp .lt 13, 3), (28, .aload_n 0, 1), (29, .getfield 71, 3), (32, .iload 5, 2), (34, .laload, 1), (35, .goto 4, 3), (38, .lconst 0, 1), (39, .ladd, 1), (40, .lstore_n 3, 1), (41, .iinc 5 1, 3), (44, .goto (-39), 3), (47, .lload_n 3, 1), (48, .lreturn, 1)], 6, [(71, 0, 12, 34), (478, 5, 351, 1)], [], (Option.some Jvm.ClassFile.FieldType.long), 12)
def gk_m354 : rk_M2 := ([(0, .aload_n 0, 1), (1, .iload_n 1, 1), (2, .invokevirtual 315, 3), (5, .ifCond .eq 47, 3), (8, .iload_n 2, 1), (9, .i2l, 1), (10, .lconst 0, 1), (11, .ldc2_w 483, 3), (14, .invokestatic 342, 3), (17, .ifCond .eq 35, 3), (20, .iload_n 3, 1), (21, .i2l, 1), (22, .lconst 0, 1), (23, .ldc2_w 481, 3), (26, .invokestatic 342, 3), (29, .ifCond .eq 23, 3), (32, .iload 4, 2), (34, .i2l, 1), (35, .lconst 0, 1), (36, .ldc2_w 481, 3), (39, .iload_n 3, 1), (40, .i2l, 1), (41, .lsub, 1), (42, .invokestatic 342, 3), (45, .ifCond .eq 7, 3), (48, .iconst 1, 1), (49, .goto 4, 3), (52, .iconst 0, 1), (53, .ireturn, 1)], 5, [(315, 5, 257, 1), (342, 7, 218, 3)], [(481, .long 16), (483, .long 10)], (Option.some Jvm.ClassFile.FieldType.boolean), 12)
def gk_m355 : rk_M2 := ([(0, .aload_n 0, 1), (1, .iload_n 1, 1), (2, .iload_n 3, 1), (3, .iload 4, 2), (5, .iload 5, 2), (7, .invokevirtual 485, 3), (10, .ifCond .eq 15, 3), (13, .iload_n 2, 1), (14, .i2l, 1), (15, .lconst 0, 1), (16, .ldc2_w 417, 3), (19, .invokestatic 342, 3), (22, .ifCond .ne 9, 3), (25, .aload_n 0, 1), (26, .iconst 1, 1), (27, .invokevirtual 103, 3), (30, .ireturn, 1), (31, .aload_n 0, 1), (32, .iload_n 1, 1), (33, .iload_n 3, 1), (34, .iload 4, 2), (36, .iload 5, 2), (38, .invokevirtual 489, 3), (41, .lstore 6, 2), (43, .aload_n 0, 1), (44, .aload_n 0, 1), (45, .iload_n 1, 1), (46, .iload_n 2, 1), (47, .invokevirtual 493, 3), (50, .lload 6, 2), (52, .invokevirtual 497, 3), (55, .ireturn, 1)], 8, [(103, 5, 206, 1), (342, 7, 218, 3), (485, 5, 354, 4), (489, 5, 352, 4), (493, 5, 353, 2), (497, 5, 210, 2)], [(417, .long 999)], (Option.some Jvm.ClassFile.FieldType.boolean), 12)
def gk_m356 : rk_M2 := ([(0, .aload_n 0, 1), (1, .iload_n 1, 1), (2, .iload_n 3, 1), (3, .iload 4, 2), (5, .iload 5, 2), (7, .invokevirtual 485, 3), (10, .ifCond .eq 15, 3), (13, .iload_n 2, 1), (14, .i2l, 1), (15, .lconst 0, 1), (16, .ldc2_w 417, 3), (19, .invokestatic 342, 3), (22, .ifCond .ne 9, 3), (25, .aload_n 0, 1), (26, .iconst 1, 1), (27, .invokevirtual 96, 3), (30, .ireturn, 1), (31, .iconst (-1), 1), (32, .istore 6, 2), (34, .ldc2_w 118, 3), (37, .lstore 7, 2), (39, .iconst 0, 1), (40, .istore 9, 2), (42, .iload 9, 2), (44, .iload_n 3, 1), (45, .if_icmp .gt 72, 3), (48, .aload_n 0, 1), (49, .iload_n 1, 1), (50, .iload 9, 2), (52, .iload 4, 2), (54, .iload 5, 2), (56, .invokevirtual 489, 3), (59, .pop2, 1), (60, .aload_n 0, 1), (61, .iload_n 1, 1), (62, .iload_n 2, 1), (63, .invokevirtual 493, 3), (66, .lstore 10, 2), (68, .iload 9, 2), (70, .istore 12, 2), (72, .iload 12, 2), (74, .iload_n 3, 1), (75, .if_icmp .ge 17, 3), (78, .lload 10, 2), (80, .ldc2_w 481, 3), (83, .lmul, 1), (84, .lstore 10, 2), (86, .iinc 12 1, 3), (89, .goto (-17), 3), (92, .lload 10, 2), (94, .lload 7, 2), (96, .lcmp, 1), (97, .ifCond .gt 6, 3), (100, .goto 11, 3), (103, .lload 10, 2), (105, .lstore 7, 2), (107, .iload 9, 2), (109, .istore 6, 2), (111, .iinc 9 1, 3), (114, .goto (-72), 3), (117, .aload_n 0, 1), (118, .iload 6, 2), (120, .invokevirtual 100, 3), (123, .ireturn, 1)], 13, [(96, 5, 207, 1), (100, 5, 208, 1), (342, 7, 218, 3), (485, 5, 354, 4), (489, 5, 352, 4), (493, 5, 353, 2)], [(118, .long (-1)), (417, .long 999), (481, .long 16)], (Option.some Jvm.ClassFile.FieldType.int), 12)
def gk_m357 : rk_M2 := ([(0, .aload_n 0, 1), (1, .iload_n 1, 1), (2, .iload_n 2, 1), (3, .iload_n 3, 1), (4, .iload 4, 2), (6, .invokevirtual 485, 3), (9, .ifCond .ne 9, 3), (12, .aload_n 0, 1), (13, .iconst 1, 1), (14, .invokevirtual 103, 3), (17, .ireturn, 1), (18, .aload_n 0, 1), (19, .iload_n 1, 1), (20, .iload_n 2, 1), (21, .iload_n 3, 1), (22, .iload 4, 2), (24, .invokevirtual 489, 3), (27, .lstore 5, 2), (29, .lconst 0, 1), (30, .lstore 7, 2), (32, .iconst 0, 1), (33, .istore 9, 2), (35, .iload 9, 2), (37, .bipush 21, 2), (39, .if_icmp .ge 34, 3), (42, .lload 7, 2), (44, .aload_n 0, 1), (45, .getfield 71, 3), (48, .iload 9, 2), (50, .laload, 1), (51, .aload_n 0, 1), (52, .iload_n 1, 1), (53, .invokevirtual 478, 3), (56, .iload 9, 2), (58, .iadd, 1), (59, .bipush 10, 2), (61, .isub, 1), (62, .i2l, 1), (63, .lmul, 1), (64, .ladd, 1), (65, .lstore 7, 2), (67, .iinc 9 1, 3), (70, .goto (-35), 3), (73, .aload_n 0, 1), (74, .lload 7, 2), (76, .lload 5, 2), (78, .invokevirtual 497, 3), (81, .ireturn, 1)], 10, [(71, 0, 12, 34), (103, 5, 206, 1), (478, 5, 351, 1), (485, 5, 354, 4), (489, 5, 352, 4), (497, 5, 210, 2)], [], (Option.some Jvm.ClassFile.FieldType.boolean), 12)
def gk_m358 : rk_M2 := ([(0, .aload_n 0, 1), (1, .aload_n 0, 1), (2, .getfield 501, 3), (5, .sipush 2999, 3), (8, .imul, 1), (9, .sipush 11177, 3), (12, .iadd, 1), (13, .ldc_w 504, 3), (16, .irem, 1), (17, .putfield 501, 3), (20, .aload_n 0, 1), (21, .getfield 501, 3), (24, .bipush 8, 2), (26, .idiv, 1), (27, .iload_n 1, 1), (28, .irem, 1), (29, .ireturn, 1)], 2, [(501, 0, 12, 36)], [(504, .int 65536)], (Option.some Jvm.ClassFile.FieldType.int), 12)
def gk_m359 : rk_M2 := ([(0, .aload_n 0, 1), (1, .iload_n 1, 1), (2, .iload_n 2, 1), (3, .invokevirtual 370, 3), (6, .ifCond .le 5, 3), (9, .iconst 0, 1), (10, .ireturn, 1), (11, .aload_n 0, 1), (12, .getfield 80, 3), (15, .iconst 2, 1), (16, .dup2, 1), (17, .iaload, 1), (18, .iconst 1, 1), (19, .iadd, 1), (20, .iastore, 1), (21, .iconst 1, 1), (22, .ireturn, 1)], 3, [(80, 0, 12, 39), (370, 5, 290, 2)], [], (Option.some Jvm.ClassFile.FieldType.boolean), 12)
def gk_m360 : rk_M2 := ([(0, .aload_n 0, 1), (1, .getfield 7, 3), (4, .iconst 1, 1), (5, .iaload, 1), (6, .ifCond .eq 12, 3), (9, .aload_n 0, 1), (10, .getfield 7, 3), (13, .iconst 0, 1), (14, .iaload, 1), (15, .ifCond .ne 5, 3), (18, .iconst 0, 1), (19, .ireturn, 1), (20, .aload_n 0, 1), (21, .aload_n 0, 1), (22, .getfield 7, 3), (25, .iconst 1, 1), (26, .iaload, 1), (27, .invokevirtual 505, 3), (30, .istore_n 1, 1), (31, .aload_n 0, 1), (32, .iload_n 1, 1), (33, .aload_n 0, 1), (34, .aload_n 0, 1), (35, .getfield 7, 3), (38, .iconst 0, 1), (39, .iaload, 1), (40, .invokevirtual 505, 3), (43, .invokevirtual 508, 3), (46, .ireturn, 1)], 2, [(7, 0, 12, 0), (505, 5, 358, 1), (508, 5, 359, 2)], [], (Option.some Jvm.ClassFile.FieldType.boolean), 12)
def gk_m361 : rk_M2 := ([(0, .aload_n 0, 1), (1, .getfield 7, 3), (4, .iconst 5, 1), (5, .iaload, 1), (6, .iload_n 1, 1), (7, .iadd, 1), (8, .sipush 9999, 3), (11, .if_icmp .le 5, 3), (14, .iconst 0, 1), (15, .ireturn, 1), (16, .iconst 0, 1), (17, .istore_n 2, 1), (18, .iload_n 2, 1), (19, .iload_n 1, 1), (20, .if_icmp .ge 25, 3), (23, .aload_n 0, 1), (24, .getfield 80, 3), (27, .iconst 3, 1), (28, .dup2, 1), (29, .iaload, 1), (30, .aload_n 0, 1), (31, .invokevirtual 375, 3), (34, .invokestatic 384, 3), (37, .iadd, 1), (38, .iastore, 1), (39, .iinc 2 1, 3), (42, .goto (-24), 3), (45, .aload_n 0, 1), (46, .getfield 80, 3), (49, .iconst 1, 1), (50, .dup2, 1), (51, .iaload, 1), (52, .iload_n 1, 1), (53, .iadd, 1), (54, .iastore, 1), (55, .iconst 1, 1), (56, .ireturn, 1)], 3, [(7, 0, 12, 0), (80, 0, 12, 39), (375, 5, 285, 0), (384, 7, 261, 1)], [], (Option.some Jvm.ClassFile.FieldType.boolean), 12)
def gk_m362 : rk_M2 := ([(0, .aload_n 0, 1), (1, .getfield 7, 3), (4, .iload_n 1, 1), (5, .iconst 1, 1), (6, .iadd, 1), (7, .iaload, 1), (8, .istore_n 2, 1), (9, .aload_n 0, 1), (10, .getfield 7, 3), (13, .iload_n 1, 1), (14, .iaload, 1), (15, .tableswitch 86 11 15 #[33, 47, 53, 67, 81], 33), (48, .aload_n 0, 1), (49, .iload_n 2, 1), (50, .aload_n 0, 1), (51, .getfield 7, 3), (54, .iload_n 1, 1), (55, .iconst 2, 1), (56, .iadd, 1), (57, .iaload, 1), (58, .invokevirtual 508, 3), (61, .ireturn, 1), (62, .aload_n 0, 1), (63, .iload_n 2, 1), (64, .invokevirtual 511, 3), (67, .ireturn, 1), (68, .aload_n 0, 1), (69, .iload_n 2, 1), (70, .invokevirtual 378, 3), (73, .ifCond .lt 7, 3), (76, .iconst 1, 1), (77, .goto 4, 3), (80, .iconst 0, 1), (81, .ireturn, 1), (82, .aload_n 0, 1), (83, .iload_n 2, 1), (84, .invokevirtual 381, 3), (87, .ifCond .lt 7, 3), (90, .iconst 1, 1), (91, .goto 4, 3), (94, .iconst 0, 1), (95, .ireturn, 1), (96, .aload_n 0, 1), (97, .invokevirtual 514, 3), (100, .ireturn, 1), (101, .iconst 1, 1), (102, .ireturn, 1)], 3, [(7, 0, 12, 0), (378, 5, 294, 1), (381, 5, 295, 1), (508, 5, 359, 2), (511, 5, 361, 1), (514, 5, 360, 0)], [], (Option.some Jvm.ClassFile.FieldType.boolean), 12)
def gk_m363 : rk_M2 := ([(0, .aload_n 0, 1), (1, .getfield 7, 3), (4, .iload_n 1, 1), (5, .iaload, 1), (6, .sipush 1800, 3), (9, .isub, 1), (10, .istore_n 2, 1), (11, .iload_n 2, 1), (12, .bipush 22, 2), (14, .if_icmp .ne 16, 3), (17, .aload_n 0, 1), (18, .aload_n 0, 1), (19, .getfield 7, 3), (22, .iload_n 1, 1), (23, .iconst 1, 1), (24, .iadd, 1), (25, .iaload, 1), (26, .invokevirtual 300, 3), (29, .ireturn, 1), (30, .iload_n 2, 1), (31, .bipush 10, 2), (33, .if_icmp .ne 32, 3), (36, .aload_n 0, 1), (37, .aload_n 0, 1), (38, .getfield 7, 3), (41, .iload_n 1, 1), (42, .iconst 1, 1), (43, .iadd, 1), (44, .iaload, 1), (45, .invokevirtual 303, 3), (48, .aload_n 0, 1), (49, .getfield 7, 3), (52, .iload_n 1, 1), (53, .iconst 2, 1), (54, .iadd, 1), (55, .iaload, 1), (56, .if_icmp .ne 7, 3), (59, .iconst 1, 1), (60, .goto 4, 3), (63, .iconst 0, 1), (64, .ireturn, 1), (65, .aload_n 0, 1), (66, .aload_n 0, 1), (67, .getfield 7, 3), (70, .iload_n 1, 1), (71, .iconst 1, 1), (72, .iadd, 1), (73, .iaload, 1), (74, .invokevirtual 318, 3), (77, .istore_n 3, 1), (78, .aload_n 0, 1), (79, .getfield 7, 3), (82, .iload_n 1, 1), (83, .iconst 5, 1), (84, .iadd, 1), (85, .iaload, 1), (86, .bipush 60, 2), (88, .if_icmp .ne 23, 3), (91, .iload_n 3, 1), (92, .aload_n 0, 1), (93, .getfield 7, 3), (96, .iload_n 1, 1), (97, .iconst 2, 1), (98, .iadd, 1), (99, .iaload, 1), (100, .if_icmp .ge 7, 3), (103, .iconst 1, 1), (104, .goto 57, 3), (107, .iconst 0, 1), (108, .goto 53, 3), (111, .aload_n 0, 1), (112, .getfield 7, 3), (115, .iload_n 1, 1), (116, .iconst 5, 1), (117, .iadd, 1), (118, .iaload, 1), (119, .bipush 62, 2), (121, .if_icmp .ne 23, 3), (124, .iload_n 3, 1), (125, .aload_n 0, 1), (126, .getfield 7, 3), (129, .iload_n 1, 1), (130, .iconst 2, 1), (131, .iadd, 1), (132, .iaload, 1), (133, .if_icmp .le 7, 3), (136, .iconst 1, 1), (137, .goto 24, 3), (140, .iconst 0, 1), (141, .goto 20, 3), (144, .iload_n 3, 1), (145, .aload_n 0, 1), (146, .getfield 7, 3), (149, .iload_n 1, 1), (150, .iconst 2, 1), (151, .iadd, 1), (152, .iaload, 1), (153, .if_icmp .ne 7, 3), (156, .iconst 1, 1), (157, .goto 4, 3), (160, .iconst 0, 1), (161, .ireturn, 1)], 4, [(7, 0, 12, 0), (300, 5, 266, 1), (303, 5, 265, 1), (318, 5, 271, 1)], [], (Option.some Jvm.ClassFile.FieldType.boolean), 12)
def gk_m364 : rk_M2 := ([(0, .iload_n 1, 1), (1, .istore_n 2, 1), (2, .iload_n 2, 1), (3, .aload_n 0, 1), (4, .getfield 7, 3), (7, .bipush 6, 2), (9, .iaload, 1), (10, .if_icmp .ge 108, 3), (13, .aload_n 0, 1), (14, .getfield 7, 3), (17, .sipush 478, 3), (20, .bipush 6, 2), (22, .iload_n 2, 1), (23, .imul, 1), (24, .iadd, 1), (25, .iaload, 1), (26, .bipush 20, 2), (28, .if_icmp .ne 90, 3), (31, .aload_n 0, 1), (32, .getfield 7, 3), (35, .sipush 478, 3), (38, .bipush 6, 2), (40, .iload_n 2, 1), (41, .imul, 1), (42, .iadd, 1), (43, .iconst 4, 1), (44, .iadd, 1), (45, .iaload, 1), (46, .istore_n 3, 1), (47, .aload_n 0, 1), (48, .getfield 7, 3), (51, .sipush 478, 3), (54, .bipush 6, 2), (56, .iload_n 3, 1), (57, .imul, 1), (58, .iadd, 1), (59, .iaload, 1), (60, .bipush 19, 2), (62, .if_icmp .ne 16, 3), (65, .aload_n 0, 1), (66, .getfield 77, 3), (69, .iload_n 3, 1), (70, .iaload, 1), (71, .ifCond .le 7, 3), (74, .iconst 1, 1), (75, .goto 4, 3), (78, .iconst 0, 1), (79, .istore 4, 2), (81, .aload_n 0, 1), (82, .getfield 77, 3), (85, .iload_n 3, 1), (86, .dup2, 1), (87, .iaload, 1), (88, .iload 4, 2), (90, .ifCond .eq 7, 3), (93, .iconst 1, 1), (94, .goto 4, 3), (97, .iconst 0, 1), (98, .isub, 1), (99, .iastore, 1), (100, .iload 4, 2), (102, .ifCond .eq 9, 3), (105, .iload_n 3, 1), (106, .iconst 1, 1), (107, .iadd, 1), (108, .goto 6, 3), (111, .iload_n 2, 1), (112, .iconst 1, 1), (113, .iadd, 1), (114, .istore_n 2, 1), (115, .goto (-113), 3), (118, .iload_n 2, 1), (119, .ireturn, 1)], 5, [(7, 0, 12, 0), (77, 0, 12, 38)], [], (Option.some Jvm.ClassFile.FieldType.int), 12)
def gk_m365 : rk_M2 := ([(0, .aload_n 0, 1), (1, .iload_n 1, 1), (2, .putfield 501, 3), (5, .aload_n 0, 1), (6, .iconst 0, 1), (7, .putfield 517, 3), (10, .iconst 0, 1), (11, .istore_n 2, 1), (12, .iload_n 2, 1), (13, .iconst 5, 1), (14, .if_icmp .ge 16, 3), (17, .aload_n 0, 1), (18, .getfield 80, 3), (21, .iload_n 2, 1), (22, .iconst 0, 1), (23, .iastore, 1), (24, .iinc 2 1, 3), (27, .goto (-15), 3), (30, .iconst 0, 1), (31, .istore_n 2, 1), (32, .iload_n 2, 1), (33, .aload_n 0, 1), (34, .getfield 7, 3), (37, .bipush 6, 2), (39, .iaload, 1), (40, .if_icmp .ge 145, 3), (43, .aload_n 0, 1), (44, .getfield 517, 3), (47, .sipush 300, 3), (50, .if_icmp .ne 11, 3), (53, .aload_n 0, 1), (54, .getfield 80, 3), (57, .iconst 4, 1), (58, .iconst 1, 1), (59, .iastore, 1), (60, .return_, 1), (61, .sipush 478, 3), (64, .bipush 6, 2), (66, .iload_n 2, 1), (67, .imul, 1), (68, .iadd, 1), (69, .istore_n 3, 1), (70, .aload_n 0, 1), (71, .dup, 1), (72, .getfield 517, 3), (75, .iconst 1, 1), (76, .iadd, 1), (77, .putfield 517, 3), (80, .aload_n 0, 1), (81, .getfield 7, 3), (84, .iload_n 3, 1), (85, .iaload, 1), (86, .bipush 21, 2), (88, .if_icmp .ne 4, 3), (91, .return_, 1), (92, .aload_n 0, 1), (93, .getfield 80, 3), (96, .iconst 0, 1), (97, .dup2, 1), (98, .iaload, 1), (99, .aload_n 0, 1), (100, .iload_n 3, 1), (101, .invokevirtual 520, 3), (104, .ifCond .eq 7, 3), (107, .iconst 0, 1), (108, .goto 4, 3), (111, .iconst 1, 1), (112, .iadd, 1), (113, .iastore, 1), (114, .aload_n 0, 1), (115, .getfield 7, 3), (118, .iload_n 3, 1), (119, .iaload, 1), (120, .bipush 19, 2), (122, .if_icmp .ne 19, 3), (125, .aload_n 0, 1), (126, .getfield 77, 3), (129, .iload_n 2, 1), (130, .aload_n 0, 1), (131, .getfield 7, 3), (134, .iload_n 3, 1), (135, .iconst 1, 1), (136, .iadd, 1), (137, .iaload, 1), (138, .iconst 1, 1), (139, .isub, 1), (140, .iastore, 1), (141, .aload_n 0, 1), (142, .aload_n 0, 1), (143, .getfield 7, 3), (146, .iload_n 3, 1), (147, .iaload, 1), (148, .sipush 1800, 3), (151, .if_icmp .lt 24, 3), (154, .aload_n 0, 1), (155, .iload_n 3, 1), (156, .invokevirtual 523, 3), (159, .ifCond .ne 16, 3), (162, .aload_n 0, 1), (163, .getfield 7, 3), (166, .iload_n 3, 1), (167, .iconst 4, 1), (168, .iadd, 1), (169, .iaload, 1), (170, .iconst 1, 1), (171, .iadd, 1), (172, .goto 6, 3), (175, .iload_n 2, 1), (176, .iconst 1, 1), (177, .iadd, 1), (178, .invokevirtual 526, 3), (181, .istore_n 2, 1), (182, .goto (-150), 3), (185, .return_, 1)], 4, [(7, 0, 12, 0), (77, 0, 12, 38), (80, 0, 12, 39), (501, 0, 12, 36), (517, 0, 12, 37), (520, 5, 362, 1), (523, 5, 363, 1), (526, 5, 364, 1)], [], (Option.none : Option Jvm.ClassFile.FieldType), 12)
def gk_m366 : rk_M2 := ([(0, .iload_n 1, 1), (1, .i2l, 1), (2, .lconst 0, 1), (3, .ldc2_w 529, 3), (6, .invokestatic 342, 3), (9, .ifCond .ne 9, 3), (12, .aload_n 0, 1), (13, .iconst 1, 1), (14, .invokevirtual 96, 3), (17, .ireturn, 1), (18, .aload_n 0, 1), (19, .getfield 7, 3), (22, .bipush 6, 2), (24, .iaload, 1), (25, .iconst (-1), 1), (26, .if_icmp .ne 10, 3), (29, .aload_n 0, 1), (30, .bipush 6, 2), (32, .invokevirtual 96, 3), (35, .ireturn, 1), (36, .aload_n 0, 1), (37, .iload_n 1, 1), (38, .invokevirtual 531, 3), (41, .iconst 0, 1), (42, .istore_n 2, 1), (43, .iload_n 2, 1), (44, .iconst 5, 1), (45, .if_icmp .ge 21, 3), (48, .aload_n 0, 1), (49, .getfield 83, 3), (52, .iload_n 2, 1), (53, .aload_n 0, 1), (54, .getfield 80, 3), (57, .iload_n 2, 1), (58, .iaload, 1), (59, .iastore, 1), (60, .iinc 2 1, 3), (63, .goto (-20), 3), (66, .aload_n 0, 1), (67, .iconst 1, 1), (68, .putfield 534, 3), (71, .aload_n 0, 1), (72, .aload_n 0, 1), (73, .getfield 517, 3), (76, .invokevirtual 100, 3), (79, .ireturn, 1)], 3, [(7, 0, 12, 0), (80, 0, 12, 39), (83, 0, 12, 40), (96, 5, 207, 1), (100, 5, 208, 1), (342, 7, 218, 3), (517, 0, 12, 37), (531, 5, 365, 1), (534, 0, 12, 41)], [(529, .long 9999)], (Option.some Jvm.ClassFile.FieldType.int), 12)
def gk_m367 : rk_M2 := ([(0, .iload_n 1, 1), (1, .ifCond .lt 8, 3), (4, .iload_n 1, 1), (5, .iconst 4, 1), (6, .if_icmp .le 11, 3), (9, .aload_n 0, 1), (10, .iconst 1, 1), (11, .invokevirtual 96, 3), (14, .goto 29, 3), (17, .aload_n 0, 1), (18, .getfield 534, 3), (21, .ifCond .eq 16, 3), (24, .aload_n 0, 1), (25, .aload_n 0, 1), (26, .getfield 83, 3), (29, .iload_n 1, 1), (30, .iaload, 1), (31, .invokevirtual 100, 3), (34, .goto 9, 3), (37, .aload_n 0, 1), (38, .bipush 6, 2), (40, .invokevirtual 96, 3), (43, .ireturn, 1)], 2, [(83, 0, 12, 40), (96, 5, 207, 1), (100, 5, 208, 1), (534, 0, 12, 41)], [], (Option.some Jvm.ClassFile.FieldType.int), 12)
def gk_m368 : rk_M2 := ([(0, .iload_n 1, 1), (1, .i2l, 1), (2, .lconst 0, 1), (3, .ldc2_w 529, 3), (6, .invokestatic 342, 3), (9, .ifCond .eq 26, 3), (12, .iload_n 2, 1), (13, .i2l, 1), (14, .lconst 1, 1), (15, .ldc2_w 373, 3), (18, .invokestatic 342, 3), (21, .ifCond .eq 14, 3), (24, .iload_n 1, 1), (25, .iload_n 2, 1), (26, .iadd, 1), (27, .iconst 1, 1), (28, .isub, 1), (29, .sipush 9999, 3), (32, .if_icmp .le 9, 3), (35, .aload_n 0, 1), (36, .iconst 1, 1), (37, .invokevirtual 103, 3), (40, .ireturn, 1), (41, .aload_n 0, 1), (42, .getfield 7, 3), (45, .bipush 6, 2), (47, .iaload, 1), (48, .iconst (-1), 1), (49, .if_icmp .ne 10, 3), (52, .aload_n 0, 1), (53, .bipush 6, 2), (55, .invokevirtual 103, 3), (58, .ireturn, 1), (59, .aload_n 0, 1), (60, .sipush 4210, 3), (63, .invokevirtual 419, 3), (66, .lconst 0, 1), (67, .lstore_n 3, 1), (68, .iconst 0, 1), (69, .istore 5, 2), (71, .iload 5, 2), (73, .iload_n 2, 1), (74, .if_icmp .ge 36, 3), (77, .aload_n 0, 1), (78, .iload_n 1, 1), (79, .iload 5, 2), (81, .iadd, 1), (82, .invokevirtual 531, 3), (85, .lload_n 3, 1), (86, .aload_n 0, 1), (87, .iconst 2, 1), (88, .invokevirtual 312, 3), (91, .invokestatic 384, 3), (94, .i2l, 1), (95, .ladd, 1), (96, .lstore_n 3, 1), (97, .aload_n 0, 1), (98, .sipush 4210, 3), (101, .invokevirtual 425, 3), (104, .iinc 5 1, 3), (107, .goto (-36), 3), (110, .aload_n 0, 1), (111, .lload_n 3, 1), (112, .iload_n 2, 1), (113, .i2l, 1), (114, .invokevirtual 497, 3), (117, .ireturn, 1)], 6, [(7, 0, 12, 0), (103, 5, 206, 1), (312, 5, 273, 1), (342, 7, 218, 3), (384, 7, 261, 1), (419, 5, 325, 1), (425, 5, 326, 1), (497, 5, 210, 2), (531, 5, 365, 1)], [(373, .long 20), (529, .long 9999)], (Option.some Jvm.ClassFile.FieldType.boolean), 12)
def gk_m369 : rk_M2 := ([(0, .iconst 0, 1), (1, .istore_n 3, 1), (2, .iload_n 3, 1), (3, .sipush 842, 3), (6, .if_icmp .ge 33, 3), (9, .aload_n 0, 1), (10, .getfield 7, 3), (13, .sipush 842, 3), (16, .iload_n 2, 1), (17, .imul, 1), (18, .iload_n 3, 1), (19, .iadd, 1), (20, .aload_n 0, 1), (21, .getfield 7, 3), (24, .sipush 842, 3), (27, .iload_n 1, 1), (28, .imul, 1), (29, .iload_n 3, 1), (30, .iadd, 1), (31, .iaload, 1), (32, .iastore, 1), (33, .iinc 3 1, 3), (36, .goto (-34), 3), (39, .iconst 0, 1), (40, .istore_n 3, 1), (41, .iload_n 3, 1), (42, .bipush 18, 2), (44, .if_icmp .ge 31, 3), (47, .aload_n 0, 1), (48, .getfield 13, 3), (51, .bipush 18, 2), (53, .iload_n 2, 1), (54, .imul, 1), (55, .iload_n 3, 1), (56, .iadd, 1), (57, .aload_n 0, 1), (58, .getfield 13, 3), (61, .bipush 18, 2), (63, .iload_n 1, 1), (64, .imul, 1), (65, .iload_n 3, 1), (66, .iadd, 1), (67, .laload, 1), (68, .lastore, 1), (69, .iinc 3 1, 3), (72, .goto (-31), 3), (75, .return_, 1)], 4, [(7, 0, 12, 0), (13, 0, 12, 1)], [], (Option.none : Option Jvm.ClassFile.FieldType), 12)
def gk_m370 : rk_M2 := ([(0, .aload_n 0, 1), (1, .getfield 538, 3), (4, .iconst 3, 1), (5, .if_icmp .ne 9, 3), (8, .aload_n 0, 1), (9, .iconst 4, 1), (10, .invokevirtual 96, 3), (13, .ireturn, 1), (14, .aload_n 0, 1), (15, .dup, 1), (16, .getfield 538, 3), (19, .iconst 1, 1), (20, .iadd, 1), (21, .putfield 538, 3), (24, .aload_n 0, 1), (25, .iconst 0, 1), (26, .aload_n 0, 1), (27, .getfield 538, 3), (30, .invokevirtual 541, 3), (33, .aload_n 0, 1), (34, .aload_n 0, 1), (35, .getfield 538, 3), (38, .invokevirtual 100, 3), (41, .ireturn, 1)], 1, [(96, 5, 207, 1), (100, 5, 208, 1), (538, 0, 12, 42), (541, 5, 369, 2)], [], (Option.some Jvm.ClassFile.FieldType.int), 12)
def gk_m371 : rk_M2 := ([(0, .aload_n 0, 1), (1, .getfield 538, 3), (4, .ifCond .ne 10, 3), (7, .aload_n 0, 1), (8, .bipush 6, 2), (10, .invokevirtual 96, 3), (13, .ireturn, 1), (14, .aload_n 0, 1), (15, .aload_n 0, 1), (16, .getfield 538, 3), (19, .iconst 0, 1), (20, .invokevirtual 541, 3), (23, .aload_n 0, 1), (24, .dup, 1), (25, .getfield 538, 3), (28, .iconst 1, 1), (29, .isub, 1), (30, .putfield 538, 3), (33, .aload_n 0, 1), (34, .aload_n 0, 1), (35, .getfield 538, 3), (38, .invokevirtual 100, 3), (41, .ireturn, 1)], 1, [(96, 5, 207, 1), (100, 5, 208, 1), (538, 0, 12, 42), (541, 5, 369, 2)], [], (Option.some Jvm.ClassFile.FieldType.int), 12)
def gk_m372 : rk_M2 := ([(0, .iload_n 0, 1), (1, .iload_n 0, 1), (2, .iconst 1, 1), (3, .iushr, 1), (4, .ldc_w 265, 3), (7, .iand, 1), (8, .isub, 1), (9, .istore_n 0, 1), (10, .iload_n 0, 1), (11, .ldc_w 266, 3), (14, .iand, 1), (15, .iload_n 0, 1), (16, .iconst 2, 1), (17, .iushr, 1), (18, .ldc_w 266, 3), (21, .iand, 1), (22, .iadd, 1), (23, .istore_n 0, 1), (24, .iload_n 0, 1), (25, .iload_n 0, 1), (26, .iconst 4, 1), (27, .iushr, 1), (28, .iadd, 1), (29, .ldc_w 267, 3), (32, .iand, 1), (33, .istore_n 0, 1), (34, .iload_n 0, 1), (35, .iload_n 0, 1), (36, .bipush 8, 2), (38, .iushr, 1), (39, .iadd, 1), (40, .istore_n 0, 1), (41, .iload_n 0, 1), (42, .iload_n 0, 1), (43, .bipush 16, 2), (45, .iushr, 1), (46, .iadd, 1), (47, .istore_n 0, 1), (48, .iload_n 0, 1), (49, .bipush 63, 2), (51, .iand, 1), (52, .ireturn, 1)], 1, [], [(265, .int 1431655765), (266, .int 858993459), (267, .int 252645135)], (Option.some Jvm.ClassFile.FieldType.int), 999)
def gk_m373 : rk_M2 := ([(0, .iload_n 0, 1), (1, .ifCond .ge 8, 3), (4, .iload_n 0, 1), (5, .ineg, 1), (6, .goto 4, 3), (9, .iload_n 0, 1), (10, .ireturn, 1)], 1, [], [], (Option.some Jvm.ClassFile.FieldType.int), 999)
def gk_m374 : rk_M2 := ([(0, .iload_n 0, 1), (1, .iload_n 1, 1), (2, .if_icmp .lt 7, 3), (5, .iload_n 0, 1), (6, .goto 4, 3), (9, .iload_n 1, 1), (10, .ireturn, 1)], 2, [], [], (Option.some Jvm.ClassFile.FieldType.int), 999)
def gk_m375 : rk_M2 := ([(0, .lload_n 0, 1), (1, .lload_n 2, 1), (2, .lcmp, 1), (3, .ifCond .lt 7, 3), (6, .lload_n 0, 1), (7, .goto 4, 3), (10, .lload_n 2, 1), (11, .lreturn, 1)], 4, [], [], (Option.some Jvm.ClassFile.FieldType.long), 999)
def gk_m376 : rk_M2 := ([(0, .iload_n 0, 1), (1, .iload_n 1, 1), (2, .if_icmp .gt 7, 3), (5, .iload_n 0, 1), (6, .goto 4, 3), (9, .iload_n 1, 1), (10, .ireturn, 1)], 2, [], [], (Option.some Jvm.ClassFile.FieldType.int), 999)
def gk_m377 : rk_M2 := ([(0, .aload_n 0, 1), (1, .getfield 9, 3), (4, .arraylength, 1), (5, .aload_n 0, 1), (6, .invokevirtual 335, 3), (9, .ishr, 1), (10, .ireturn, 1)], 1, [(335, 5, 379, 0)], [], (Option.some Jvm.ClassFile.FieldType.int), 999)
def gk_m378 : rk_M2 := ([(0, .aload_n 0, 1), (1, .invokevirtual 492, 3), (4, .ifCond .eq 12, 3), (7, .aload_n 0, 1), (8, .getfield 9, 3), (11, .iload_n 1, 1), (12, .invokestatic 495, 3), (15, .ireturn, 1), (16, .aload_n 0, 1), (17, .getfield 9, 3), (20, .iload_n 1, 1), (21, .invokestatic 498, 3), (24, .ireturn, 1)], 2, [(492, 5, 380, 0), (495, 7, 382, 2), (498, 7, 385, 2)], [], (Option.some Jvm.ClassFile.FieldType.char), 999)
def gk_m379 : rk_M2 := ([(0, .getstatic 38, 3), (3, .ifCond .eq 10, 3), (6, .aload_n 0, 1), (7, .getfield 15, 3), (10, .goto 4, 3), (13, .iconst 1, 1), (14, .ireturn, 1)], 1, [], [], (Option.some Jvm.ClassFile.FieldType.byte), 999)
def gk_m380 : rk_M2 := ([(0, .getstatic 38, 3), (3, .ifCond .eq 14, 3), (6, .aload_n 0, 1), (7, .getfield 15, 3), (10, .ifCond .ne 7, 3), (13, .iconst 1, 1), (14, .goto 4, 3), (17, .iconst 0, 1), (18, .ireturn, 1)], 1, [], [], (Option.some Jvm.ClassFile.FieldType.boolean), 999)
def gk_m381 : rk_M2 := ([(0, .iload_n 0, 1), (1, .iload_n 1, 1), (2, .getstatic 1053, 3), (5, .invokestatic 1059, 3), (8, .pop, 1), (9, .return_, 1)], 2, [(1059, 7, 389, 3)], [], (Option.none : Option Jvm.ClassFile.FieldType), 999)
def gk_m382 : rk_M2 := ([(0, .iload_n 1, 1), (1, .aload_n 0, 1), (2, .arraylength, 1), (3, .invokestatic 9, 3), (6, .aload_n 0, 1), (7, .iload_n 1, 1), (8, .baload, 1), (9, .sipush 255, 3), (12, .iand, 1), (13, .i2c, 1), (14, .ireturn, 1)], 2, [(9, 7, 381, 2)], [], (Option.some Jvm.ClassFile.FieldType.char), 999)
def gk_m383 : rk_M2 := ([(0, .getstatic 44, 3), (3, .ifCond .ne 25, 3), (6, .iload_n 1, 1), (7, .ifCond .lt 11, 3), (10, .iload_n 1, 1), (11, .aload_n 0, 1), (12, .invokestatic 48, 3), (15, .if_icmp .lt 13, 3), (18, .new 52, 3), (21, .dup, 1), (22, .ldc 54, 2), (24, .invokespecial 56, 3), (27, .athrow, 1), (28, .iload_n 1, 1), (29, .iconst 1, 1), (30, .ishl, 1), (31, .istore_n 1, 1), (32, .aload_n 0, 1), (33, .iload_n 1, 1), (34, .iinc 1 1, 3), (37, .baload, 1), (38, .sipush 255, 3), (41, .iand, 1), (42, .getstatic 59, 3), (45, .ishl, 1), (46, .aload_n 0, 1), (47, .iload_n 1, 1), (48, .baload, 1), (49, .sipush 255, 3), (52, .iand, 1), (53, .getstatic 63, 3), (56, .ishl, 1), (57, .ior, 1), (58, .i2c, 1), (59, .ireturn, 1)], 2, [(48, 7, 384, 1)], [], (Option.some Jvm.ClassFile.FieldType.char), 999)
def gk_m384 : rk_M2 := ([(0, .aload_n 0, 1), (1, .arraylength, 1), (2, .iconst 1, 1), (3, .ishr, 1), (4, .ireturn, 1)], 1, [], [], (Option.some Jvm.ClassFile.FieldType.int), 999)
def gk_m385 : rk_M2 := ([(0, .iload_n 1, 1), (1, .aload_n 0, 1), (2, .invokestatic 67, 3), (5, .aload_n 0, 1), (6, .iload_n 1, 1), (7, .invokestatic 71, 3), (10, .ireturn, 1)], 2, [(67, 7, 386, 2), (71, 7, 383, 2)], [], (Option.some Jvm.ClassFile.FieldType.char), 999)
def gk_m386 : rk_M2 := ([(0, .iload_n 0, 1), (1, .aload_n 1, 1), (2, .invokestatic 48, 3), (5, .invokestatic 414, 3), (8, .return_, 1)], 2, [(48, 7, 384, 1), (414, 7, 381, 2)], [], (Option.none : Option Jvm.ClassFile.FieldType), 999)
def gk_m387 : rk_M2 := ([(0, .iconst 0, 1), (1, .istore_n 3, 1), (2, .aload_n 0, 1), (3, .arraylength, 1), (4, .istore 4, 2), (6, .iload_n 3, 1), (7, .iload 4, 2), (9, .if_icmp .ge 13, 3), (12, .aload_n 0, 1), (13, .iload_n 3, 1), (14, .lload_n 1, 1), (15, .lastore, 1), (16, .iinc 3 1, 3), (19, .goto (-13), 3), (22, .return_, 1)], 5, [], [], (Option.none : Option Jvm.ClassFile.FieldType), 999)
def gk_m388 : rk_M2 := ([(0, .iconst 0, 1), (1, .istore_n 2, 1), (2, .aload_n 0, 1), (3, .arraylength, 1), (4, .istore_n 3, 1), (5, .iload_n 2, 1), (6, .iload_n 3, 1), (7, .if_icmp .ge 13, 3), (10, .aload_n 0, 1), (11, .iload_n 2, 1), (12, .iload_n 1, 1), (13, .iastore, 1), (14, .iinc 2 1, 3), (17, .goto (-12), 3), (20, .return_, 1)], 4, [], [], (Option.none : Option Jvm.ClassFile.FieldType), 999)
def gk_m389 : rk_M2 := ([(0, .iload_n 0, 1), (1, .ifCond .lt 8, 3), (4, .iload_n 0, 1), (5, .iload_n 1, 1), (6, .if_icmp .lt 10, 3), (9, .aload_n 2, 1), (10, .iload_n 0, 1), (11, .iload_n 1, 1), (12, .invokestatic 95, 3), (15, .athrow, 1), (16, .iload_n 0, 1), (17, .ireturn, 1)], 3, [], [], (Option.some Jvm.ClassFile.FieldType.int), 999)
def gk_lw0 : List (Nat × Instr × Nat) := [(0, .new 7, 3), (3, .dup, 1), (4, .invokespecial 9, 3), (7, .astore_n 1, 1), (8, .new 10, 3), (11, .dup, 1), (12, .invokespecial 12, 3), (15, .astore_n 2, 1), (16, .iconst 0, 1), (17, .istore_n 3, 1), (18, .iload_n 3, 1), (19, .aload_n 0, 1), (20, .arraylength, 1), (21, .bipush 6, 2), (23, .isub, 1), (24, .if_icmp .gt 2142, 3), (27, .aload_n 0, 1), (28, .iload_n 3, 1), (29, .iaload, 1), (30, .bipush 63, 2), (32, .iand, 1), (33, .tableswitch 2127 0 58 #[251, 264, 278, 292, 335, 408, 442, 505, 568, 591, 614, 637, 660, 693, 726, 759, 792, 825, 848, 891, 924, 947, 970, 993, 1016, 1039, 1062, 1095, 1154, 1187, 1220, 1253, 1296, 1329, 1362, 1405, 1428, 1461, 1494, 1517, 1530, 1553, 1586, 1629, 1662, 1675, 1698, 1721, 1754, 1787, 1820, 1843, 1906, 1969, 2022, 2045, 2068, 2101, 2114], 251), (284, .aload_n 1, 1), (285, .invokevirtual 13, 3), (288, .aload_n 2, 1), (289, .invokevirtual 17, 3), (292, .if_icmp .eq 1868, 3), (295, .iconst 0, 1), (296, .ireturn, 1), (297, .aload_n 1, 1), (298, .invokevirtual 18, 3), (301, .aload_n 2, 1), (302, .invokevirtual 22, 3), (305, .lcmp, 1), (306, .ifCond .eq 1854, 3), (309, .iconst 0, 1), (310, .ireturn, 1), (311, .aload_n 1, 1), (312, .invokevirtual 23, 3), (315, .aload_n 2, 1), (316, .invokevirtual 26, 3), (319, .lcmp, 1), (320, .ifCond .eq 1840, 3), (323, .iconst 0, 1), (324, .ireturn, 1), (325, .aload_n 1, 1), (326, .aload_n 0, 1), (327, .iload_n 3, 1), (328, .iconst 1, 1), (329, .iadd, 1), (330, .iaload, 1), (331, .aload_n 0, 1), (332, .iload_n 3, 1), (333, .iconst 2, 1), (334, .iadd, 1), (335, .iaload, 1), (336, .aload_n 0, 1), (337, .iload_n 3, 1), (338, .iconst 3, 1), (339, .iadd, 1), (340, .iaload, 1), (341, .invokevirtual 27, 3), (344, .aload_n 2, 1), (345, .aload_n 0, 1), (346, .iload_n 3, 1), (347, .iconst 1, 1), (348, .iadd, 1), (349, .iaload, 1), (350, .aload_n 0, 1), (351, .iload_n 3, 1), (352, .iconst 2, 1), (353, .iadd, 1), (354, .iaload, 1), (355, .aload_n 0, 1), (356, .iload_n 3, 1), (357, .iconst 3, 1), (358, .iadd, 1), (359, .iaload, 1), (360, .invokevirtual 31, 3), (363, .if_icmp .eq 1797, 3), (366, .iconst 0, 1), (367, .ireturn, 1), (368, .aload_n 1, 1), (369, .aload_n 0, 1), (370, .iload_n 3, 1), (371, .iconst 1, 1), (372, .iadd, 1), (373, .iaload, 1), (374, .aload_n 0, 1), (375, .iload_n 3, 1), (376, .iconst 2, 1), (377, .iadd, 1), (378, .iaload, 1), (379, .aload_n 0, 1), (380, .iload_n 3, 1), (381, .iconst 3, 1), (382, .iadd, 1), (383, .iaload, 1), (384, .i2l, 1), (385, .bipush 32, 2), (387, .lshl, 1), (388, .aload_n 0, 1), (389, .iload_n 3, 1), (390, .iconst 4, 1), (391, .iadd, 1), (392, .iaload, 1), (393, .i2l, 1), (394, .ldc2_w 32, 3), (397, .land, 1), (398, .lor, 1), (399, .invokevirtual 34, 3), (402, .aload_n 2, 1), (403, .aload_n 0, 1), (404, .iload_n 3, 1), (405, .iconst 1, 1), (406, .iadd, 1), (407, .iaload, 1), (408, .aload_n 0, 1), (409, .iload_n 3, 1), (410, .iconst 2, 1), (411, .iadd, 1), (412, .iaload, 1), (413, .aload_n 0, 1), (414, .iload_n 3, 1), (415, .iconst 3, 1), (416, .iadd, 1), (417, .iaload, 1), (418, .i2l, 1), (419, .bipush 32, 2), (421, .lshl, 1), (422, .aload_n 0, 1), (423, .iload_n 3, 1), (424, .iconst 4, 1), (425, .iadd, 1), (426, .iaload, 1), (427, .i2l, 1), (428, .ldc2_w 32, 3), (431, .land, 1), (432, .lor, 1), (433, .invokevirtual 38, 3), (436, .if_icmp .eq 1724, 3), (439, .iconst 0, 1), (440, .ireturn, 1), (441, .aload_n 1, 1), (442, .aload_n 0, 1), (443, .iload_n 3, 1), (444, .iconst 1, 1), (445, .iadd, 1), (446, .iaload, 1), (447, .aload_n 0, 1)]
def gk_lw1 : List (Nat × Instr × Nat) := [(448, .iload_n 3, 1), (449, .iconst 2, 1), (450, .iadd, 1), (451, .iaload, 1), (452, .invokevirtual 39, 3), (455, .aload_n 2, 1), (456, .aload_n 0, 1), (457, .iload_n 3, 1), (458, .iconst 1, 1), (459, .iadd, 1), (460, .iaload, 1), (461, .aload_n 0, 1), (462, .iload_n 3, 1), (463, .iconst 2, 1), (464, .iadd, 1), (465, .iaload, 1), (466, .invokevirtual 43, 3), (469, .lcmp, 1), (470, .ifCond .eq 1690, 3), (473, .iconst 0, 1), (474, .ireturn, 1), (475, .aload_n 1, 1), (476, .aload_n 0, 1), (477, .iload_n 3, 1), (478, .iconst 1, 1), (479, .iadd, 1), (480, .iaload, 1), (481, .aload_n 0, 1), (482, .iload_n 3, 1), (483, .iconst 2, 1), (484, .iadd, 1), (485, .iaload, 1), (486, .aload_n 0, 1), (487, .iload_n 3, 1), (488, .iconst 3, 1), (489, .iadd, 1), (490, .iaload, 1), (491, .aload_n 0, 1), (492, .iload_n 3, 1), (493, .iconst 4, 1), (494, .iadd, 1), (495, .iaload, 1), (496, .aload_n 0, 1), (497, .iload_n 3, 1), (498, .iconst 5, 1), (499, .iadd, 1), (500, .iaload, 1), (501, .invokevirtual 44, 3), (504, .aload_n 2, 1), (505, .aload_n 0, 1), (506, .iload_n 3, 1), (507, .iconst 1, 1), (508, .iadd, 1), (509, .iaload, 1), (510, .aload_n 0, 1), (511, .iload_n 3, 1), (512, .iconst 2, 1), (513, .iadd, 1), (514, .iaload, 1), (515, .aload_n 0, 1), (516, .iload_n 3, 1), (517, .iconst 3, 1), (518, .iadd, 1), (519, .iaload, 1), (520, .aload_n 0, 1), (521, .iload_n 3, 1), (522, .iconst 4, 1), (523, .iadd, 1), (524, .iaload, 1), (525, .aload_n 0, 1), (526, .iload_n 3, 1), (527, .iconst 5, 1), (528, .iadd, 1), (529, .iaload, 1), (530, .invokevirtual 48, 3), (533, .if_icmp .eq 1627, 3), (536, .iconst 0, 1), (537, .ireturn, 1), (538, .aload_n 1, 1), (539, .aload_n 0, 1), (540, .iload_n 3, 1), (541, .iconst 1, 1), (542, .iadd, 1), (543, .iaload, 1), (544, .aload_n 0, 1), (545, .iload_n 3, 1), (546, .iconst 2, 1), (547, .iadd, 1), (548, .iaload, 1), (549, .aload_n 0, 1), (550, .iload_n 3, 1), (551, .iconst 3, 1), (552, .iadd, 1), (553, .iaload, 1), (554, .aload_n 0, 1), (555, .iload_n 3, 1), (556, .iconst 4, 1), (557, .iadd, 1), (558, .iaload, 1), (559, .aload_n 0, 1), (560, .iload_n 3, 1), (561, .iconst 5, 1), (562, .iadd, 1), (563, .iaload, 1), (564, .invokevirtual 49, 3), (567, .aload_n 2, 1), (568, .aload_n 0, 1), (569, .iload_n 3, 1), (570, .iconst 1, 1), (571, .iadd, 1), (572, .iaload, 1), (573, .aload_n 0, 1), (574, .iload_n 3, 1), (575, .iconst 2, 1), (576, .iadd, 1), (577, .iaload, 1), (578, .aload_n 0, 1), (579, .iload_n 3, 1), (580, .iconst 3, 1), (581, .iadd, 1), (582, .iaload, 1), (583, .aload_n 0, 1), (584, .iload_n 3, 1), (585, .iconst 4, 1), (586, .iadd, 1), (587, .iaload, 1), (588, .aload_n 0, 1), (589, .iload_n 3, 1), (590, .iconst 5, 1), (591, .iadd, 1), (592, .iaload, 1), (593, .invokevirtual 53, 3), (596, .if_icmp .eq 1564, 3), (599, .iconst 0, 1), (600, .ireturn, 1), (601, .aload_n 1, 1), (602, .aload_n 0, 1), (603, .iload_n 3, 1), (604, .iconst 1, 1), (605, .iadd, 1), (606, .iaload, 1), (607, .invokevirtual 54, 3), (610, .aload_n 2, 1), (611, .aload_n 0, 1), (612, .iload_n 3, 1), (613, .iconst 1, 1), (614, .iadd, 1), (615, .iaload, 1), (616, .invokevirtual 58, 3), (619, .if_icmp .eq 1541, 3)]
def gk_lw2 : List (Nat × Instr × Nat) := [(622, .iconst 0, 1), (623, .ireturn, 1), (624, .aload_n 1, 1), (625, .aload_n 0, 1), (626, .iload_n 3, 1), (627, .iconst 1, 1), (628, .iadd, 1), (629, .iaload, 1), (630, .invokevirtual 59, 3), (633, .aload_n 2, 1), (634, .aload_n 0, 1), (635, .iload_n 3, 1), (636, .iconst 1, 1), (637, .iadd, 1), (638, .iaload, 1), (639, .invokevirtual 62, 3), (642, .if_icmp .eq 1518, 3), (645, .iconst 0, 1), (646, .ireturn, 1), (647, .aload_n 1, 1), (648, .aload_n 0, 1), (649, .iload_n 3, 1), (650, .iconst 1, 1), (651, .iadd, 1), (652, .iaload, 1), (653, .invokevirtual 63, 3), (656, .aload_n 2, 1), (657, .aload_n 0, 1), (658, .iload_n 3, 1), (659, .iconst 1, 1), (660, .iadd, 1), (661, .iaload, 1), (662, .invokevirtual 66, 3), (665, .if_icmp .eq 1495, 3), (668, .iconst 0, 1), (669, .ireturn, 1), (670, .aload_n 1, 1), (671, .aload_n 0, 1), (672, .iload_n 3, 1), (673, .iconst 1, 1), (674, .iadd, 1), (675, .iaload, 1), (676, .invokevirtual 67, 3), (679, .aload_n 2, 1), (680, .aload_n 0, 1), (681, .iload_n 3, 1), (682, .iconst 1, 1), (683, .iadd, 1), (684, .iaload, 1), (685, .invokevirtual 70, 3), (688, .if_icmp .eq 1472, 3), (691, .iconst 0, 1), (692, .ireturn, 1), (693, .aload_n 1, 1), (694, .aload_n 0, 1), (695, .iload_n 3, 1), (696, .iconst 1, 1), (697, .iadd, 1), (698, .iaload, 1), (699, .aload_n 0, 1), (700, .iload_n 3, 1), (701, .iconst 2, 1), (702, .iadd, 1), (703, .iaload, 1), (704, .invokevirtual 71, 3), (707, .aload_n 2, 1), (708, .aload_n 0, 1), (709, .iload_n 3, 1), (710, .iconst 1, 1), (711, .iadd, 1), (712, .iaload, 1), (713, .aload_n 0, 1), (714, .iload_n 3, 1), (715, .iconst 2, 1), (716, .iadd, 1), (717, .iaload, 1), (718, .invokevirtual 75, 3), (721, .if_icmp .eq 1439, 3), (724, .iconst 0, 1), (725, .ireturn, 1), (726, .aload_n 1, 1), (727, .aload_n 0, 1), (728, .iload_n 3, 1), (729, .iconst 1, 1), (730, .iadd, 1), (731, .iaload, 1), (732, .aload_n 0, 1), (733, .iload_n 3, 1), (734, .iconst 2, 1), (735, .iadd, 1), (736, .iaload, 1), (737, .invokevirtual 76, 3), (740, .aload_n 2, 1), (741, .aload_n 0, 1), (742, .iload_n 3, 1), (743, .iconst 1, 1), (744, .iadd, 1), (745, .iaload, 1), (746, .aload_n 0, 1), (747, .iload_n 3, 1), (748, .iconst 2, 1), (749, .iadd, 1), (750, .iaload, 1), (751, .invokevirtual 79, 3), (754, .if_icmp .eq 1406, 3), (757, .iconst 0, 1), (758, .ireturn, 1), (759, .aload_n 1, 1), (760, .aload_n 0, 1), (761, .iload_n 3, 1), (762, .iconst 1, 1), (763, .iadd, 1), (764, .iaload, 1), (765, .aload_n 0, 1), (766, .iload_n 3, 1), (767, .iconst 2, 1), (768, .iadd, 1), (769, .iaload, 1), (770, .invokevirtual 80, 3), (773, .aload_n 2, 1), (774, .aload_n 0, 1), (775, .iload_n 3, 1), (776, .iconst 1, 1), (777, .iadd, 1), (778, .iaload, 1), (779, .aload_n 0, 1), (780, .iload_n 3, 1), (781, .iconst 2, 1), (782, .iadd, 1), (783, .iaload, 1), (784, .invokevirtual 83, 3), (787, .if_icmp .eq 1373, 3), (790, .iconst 0, 1), (791, .ireturn, 1), (792, .aload_n 1, 1), (793, .aload_n 0, 1), (794, .iload_n 3, 1), (795, .iconst 1, 1), (796, .iadd, 1), (797, .iaload, 1), (798, .aload_n 0, 1), (799, .iload_n 3, 1), (800, .iconst 2, 1), (801, .iadd, 1), (802, .iaload, 1), (803, .invokevirtual 84, 3), (806, .aload_n 2, 1), (807, .aload_n 0, 1), (808, .iload_n 3, 1), (809, .iconst 1, 1)]
def gk_lw3 : List (Nat × Instr × Nat) := [(810, .iadd, 1), (811, .iaload, 1), (812, .aload_n 0, 1), (813, .iload_n 3, 1), (814, .iconst 2, 1), (815, .iadd, 1), (816, .iaload, 1), (817, .invokevirtual 87, 3), (820, .if_icmp .eq 1340, 3), (823, .iconst 0, 1), (824, .ireturn, 1), (825, .aload_n 1, 1), (826, .aload_n 0, 1), (827, .iload_n 3, 1), (828, .iconst 1, 1), (829, .iadd, 1), (830, .iaload, 1), (831, .aload_n 0, 1), (832, .iload_n 3, 1), (833, .iconst 2, 1), (834, .iadd, 1), (835, .iaload, 1), (836, .invokevirtual 88, 3), (839, .aload_n 2, 1), (840, .aload_n 0, 1), (841, .iload_n 3, 1), (842, .iconst 1, 1), (843, .iadd, 1), (844, .iaload, 1), (845, .aload_n 0, 1), (846, .iload_n 3, 1), (847, .iconst 2, 1), (848, .iadd, 1), (849, .iaload, 1), (850, .invokevirtual 91, 3), (853, .if_icmp .eq 1307, 3), (856, .iconst 0, 1), (857, .ireturn, 1), (858, .aload_n 1, 1), (859, .aload_n 0, 1), (860, .iload_n 3, 1), (861, .iconst 1, 1), (862, .iadd, 1), (863, .iaload, 1), (864, .invokevirtual 92, 3), (867, .aload_n 2, 1), (868, .aload_n 0, 1), (869, .iload_n 3, 1), (870, .iconst 1, 1), (871, .iadd, 1), (872, .iaload, 1), (873, .invokevirtual 95, 3), (876, .if_icmp .eq 1284, 3), (879, .iconst 0, 1), (880, .ireturn, 1), (881, .aload_n 1, 1), (882, .aload_n 0, 1), (883, .iload_n 3, 1), (884, .iconst 1, 1), (885, .iadd, 1), (886, .iaload, 1), (887, .aload_n 0, 1), (888, .iload_n 3, 1), (889, .iconst 2, 1), (890, .iadd, 1), (891, .iaload, 1), (892, .aload_n 0, 1), (893, .iload_n 3, 1), (894, .iconst 3, 1), (895, .iadd, 1), (896, .iaload, 1), (897, .invokevirtual 96, 3), (900, .aload_n 2, 1), (901, .aload_n 0, 1), (902, .iload_n 3, 1), (903, .iconst 1, 1), (904, .iadd, 1), (905, .iaload, 1), (906, .aload_n 0, 1), (907, .iload_n 3, 1), (908, .iconst 2, 1), (909, .iadd, 1), (910, .iaload, 1), (911, .aload_n 0, 1), (912, .iload_n 3, 1), (913, .iconst 3, 1), (914, .iadd, 1), (915, .iaload, 1), (916, .invokevirtual 100, 3), (919, .if_icmp .eq 1241, 3), (922, .iconst 0, 1), (923, .ireturn, 1), (924, .aload_n 1, 1), (925, .aload_n 0, 1), (926, .iload_n 3, 1), (927, .iconst 1, 1), (928, .iadd, 1), (929, .iaload, 1), (930, .aload_n 0, 1), (931, .iload_n 3, 1), (932, .iconst 2, 1), (933, .iadd, 1), (934, .iaload, 1), (935, .invokevirtual 101, 3), (938, .aload_n 2, 1), (939, .aload_n 0, 1), (940, .iload_n 3, 1), (941, .iconst 1, 1), (942, .iadd, 1), (943, .iaload, 1), (944, .aload_n 0, 1), (945, .iload_n 3, 1), (946, .iconst 2, 1), (947, .iadd, 1), (948, .iaload, 1), (949, .invokevirtual 104, 3), (952, .if_icmp .eq 1208, 3), (955, .iconst 0, 1), (956, .ireturn, 1), (957, .aload_n 1, 1), (958, .aload_n 0, 1), (959, .iload_n 3, 1), (960, .iconst 1, 1), (961, .iadd, 1), (962, .iaload, 1), (963, .invokevirtual 105, 3), (966, .aload_n 2, 1), (967, .aload_n 0, 1), (968, .iload_n 3, 1), (969, .iconst 1, 1), (970, .iadd, 1), (971, .iaload, 1), (972, .invokevirtual 108, 3), (975, .if_icmp .eq 1185, 3), (978, .iconst 0, 1), (979, .ireturn, 1), (980, .aload_n 1, 1), (981, .aload_n 0, 1), (982, .iload_n 3, 1), (983, .iconst 1, 1), (984, .iadd, 1), (985, .iaload, 1), (986, .invokevirtual 109, 3), (989, .aload_n 2, 1), (990, .aload_n 0, 1), (991, .iload_n 3, 1), (992, .iconst 1, 1), (993, .iadd, 1), (994, .iaload, 1), (995, .invokevirtual 112, 3)]
def gk_lw4 : List (Nat × Instr × Nat) := [(998, .if_icmp .eq 1162, 3), (1001, .iconst 0, 1), (1002, .ireturn, 1), (1003, .aload_n 1, 1), (1004, .aload_n 0, 1), (1005, .iload_n 3, 1), (1006, .iconst 1, 1), (1007, .iadd, 1), (1008, .iaload, 1), (1009, .invokevirtual 113, 3), (1012, .aload_n 2, 1), (1013, .aload_n 0, 1), (1014, .iload_n 3, 1), (1015, .iconst 1, 1), (1016, .iadd, 1), (1017, .iaload, 1), (1018, .invokevirtual 116, 3), (1021, .if_icmp .eq 1139, 3), (1024, .iconst 0, 1), (1025, .ireturn, 1), (1026, .aload_n 1, 1), (1027, .aload_n 0, 1), (1028, .iload_n 3, 1), (1029, .iconst 1, 1), (1030, .iadd, 1), (1031, .iaload, 1), (1032, .invokevirtual 117, 3), (1035, .aload_n 2, 1), (1036, .aload_n 0, 1), (1037, .iload_n 3, 1), (1038, .iconst 1, 1), (1039, .iadd, 1), (1040, .iaload, 1), (1041, .invokevirtual 120, 3), (1044, .if_icmp .eq 1116, 3), (1047, .iconst 0, 1), (1048, .ireturn, 1), (1049, .aload_n 1, 1), (1050, .aload_n 0, 1), (1051, .iload_n 3, 1), (1052, .iconst 1, 1), (1053, .iadd, 1), (1054, .iaload, 1), (1055, .invokevirtual 121, 3), (1058, .aload_n 2, 1), (1059, .aload_n 0, 1), (1060, .iload_n 3, 1), (1061, .iconst 1, 1), (1062, .iadd, 1), (1063, .iaload, 1), (1064, .invokevirtual 124, 3), (1067, .if_icmp .eq 1093, 3), (1070, .iconst 0, 1), (1071, .ireturn, 1), (1072, .aload_n 1, 1), (1073, .aload_n 0, 1), (1074, .iload_n 3, 1), (1075, .iconst 1, 1), (1076, .iadd, 1), (1077, .iaload, 1), (1078, .invokevirtual 125, 3), (1081, .aload_n 2, 1), (1082, .aload_n 0, 1), (1083, .iload_n 3, 1), (1084, .iconst 1, 1), (1085, .iadd, 1), (1086, .iaload, 1), (1087, .invokevirtual 128, 3), (1090, .if_icmp .eq 1070, 3), (1093, .iconst 0, 1), (1094, .ireturn, 1), (1095, .aload_n 1, 1), (1096, .aload_n 0, 1), (1097, .iload_n 3, 1), (1098, .iconst 1, 1), (1099, .iadd, 1), (1100, .iaload, 1), (1101, .aload_n 0, 1), (1102, .iload_n 3, 1), (1103, .iconst 2, 1), (1104, .iadd, 1), (1105, .iaload, 1), (1106, .invokevirtual 129, 3), (1109, .aload_n 2, 1), (1110, .aload_n 0, 1), (1111, .iload_n 3, 1), (1112, .iconst 1, 1), (1113, .iadd, 1), (1114, .iaload, 1), (1115, .aload_n 0, 1), (1116, .iload_n 3, 1), (1117, .iconst 2, 1), (1118, .iadd, 1), (1119, .iaload, 1), (1120, .invokevirtual 133, 3), (1123, .if_icmp .eq 1037, 3), (1126, .iconst 0, 1), (1127, .ireturn, 1), (1128, .aload_n 1, 1), (1129, .aload_n 0, 1), (1130, .iload_n 3, 1), (1131, .iconst 1, 1), (1132, .iadd, 1), (1133, .iaload, 1), (1134, .aload_n 0, 1), (1135, .iload_n 3, 1), (1136, .iconst 2, 1), (1137, .iadd, 1), (1138, .iaload, 1), (1139, .aload_n 0, 1), (1140, .iload_n 3, 1), (1141, .iconst 3, 1), (1142, .iadd, 1), (1143, .iaload, 1), (1144, .ifCond .eq 7, 3), (1147, .iconst 1, 1), (1148, .goto 4, 3), (1151, .iconst 0, 1), (1152, .invokevirtual 134, 3), (1155, .aload_n 2, 1), (1156, .aload_n 0, 1), (1157, .iload_n 3, 1), (1158, .iconst 1, 1), (1159, .iadd, 1), (1160, .iaload, 1), (1161, .aload_n 0, 1), (1162, .iload_n 3, 1), (1163, .iconst 2, 1), (1164, .iadd, 1), (1165, .iaload, 1), (1166, .aload_n 0, 1), (1167, .iload_n 3, 1), (1168, .iconst 3, 1), (1169, .iadd, 1), (1170, .iaload, 1), (1171, .ifCond .eq 7, 3), (1174, .iconst 1, 1), (1175, .goto 4, 3), (1178, .iconst 0, 1), (1179, .invokevirtual 138, 3), (1182, .if_icmp .eq 978, 3), (1185, .iconst 0, 1), (1186, .ireturn, 1), (1187, .aload_n 1, 1), (1188, .aload_n 0, 1), (1189, .iload_n 3, 1), (1190, .iconst 1, 1), (1191, .iadd, 1), (1192, .iaload, 1), (1193, .aload_n 0, 1)]
def gk_lw5 : List (Nat × Instr × Nat) := [(1194, .iload_n 3, 1), (1195, .iconst 2, 1), (1196, .iadd, 1), (1197, .iaload, 1), (1198, .invokevirtual 139, 3), (1201, .aload_n 2, 1), (1202, .aload_n 0, 1), (1203, .iload_n 3, 1), (1204, .iconst 1, 1), (1205, .iadd, 1), (1206, .iaload, 1), (1207, .aload_n 0, 1), (1208, .iload_n 3, 1), (1209, .iconst 2, 1), (1210, .iadd, 1), (1211, .iaload, 1), (1212, .invokevirtual 142, 3), (1215, .if_icmp .eq 945, 3), (1218, .iconst 0, 1), (1219, .ireturn, 1), (1220, .aload_n 1, 1), (1221, .aload_n 0, 1), (1222, .iload_n 3, 1), (1223, .iconst 1, 1), (1224, .iadd, 1), (1225, .iaload, 1), (1226, .aload_n 0, 1), (1227, .iload_n 3, 1), (1228, .iconst 2, 1), (1229, .iadd, 1), (1230, .iaload, 1), (1231, .invokevirtual 143, 3), (1234, .aload_n 2, 1), (1235, .aload_n 0, 1), (1236, .iload_n 3, 1), (1237, .iconst 1, 1), (1238, .iadd, 1), (1239, .iaload, 1), (1240, .aload_n 0, 1), (1241, .iload_n 3, 1), (1242, .iconst 2, 1), (1243, .iadd, 1), (1244, .iaload, 1), (1245, .invokevirtual 146, 3), (1248, .if_icmp .eq 912, 3), (1251, .iconst 0, 1), (1252, .ireturn, 1), (1253, .aload_n 1, 1), (1254, .aload_n 0, 1), (1255, .iload_n 3, 1), (1256, .iconst 1, 1), (1257, .iadd, 1), (1258, .iaload, 1), (1259, .aload_n 0, 1), (1260, .iload_n 3, 1), (1261, .iconst 2, 1), (1262, .iadd, 1), (1263, .iaload, 1), (1264, .invokevirtual 147, 3), (1267, .aload_n 2, 1), (1268, .aload_n 0, 1), (1269, .iload_n 3, 1), (1270, .iconst 1, 1), (1271, .iadd, 1), (1272, .iaload, 1), (1273, .aload_n 0, 1), (1274, .iload_n 3, 1), (1275, .iconst 2, 1), (1276, .iadd, 1), (1277, .iaload, 1), (1278, .invokevirtual 150, 3), (1281, .if_icmp .eq 879, 3), (1284, .iconst 0, 1), (1285, .ireturn, 1), (1286, .aload_n 1, 1), (1287, .aload_n 0, 1), (1288, .iload_n 3, 1), (1289, .iconst 1, 1), (1290, .iadd, 1), (1291, .iaload, 1), (1292, .aload_n 0, 1), (1293, .iload_n 3, 1), (1294, .iconst 2, 1), (1295, .iadd, 1), (1296, .iaload, 1), (1297, .aload_n 0, 1), (1298, .iload_n 3, 1), (1299, .iconst 3, 1), (1300, .iadd, 1), (1301, .iaload, 1), (1302, .invokevirtual 151, 3), (1305, .aload_n 2, 1), (1306, .aload_n 0, 1), (1307, .iload_n 3, 1), (1308, .iconst 1, 1), (1309, .iadd, 1), (1310, .iaload, 1), (1311, .aload_n 0, 1), (1312, .iload_n 3, 1), (1313, .iconst 2, 1), (1314, .iadd, 1), (1315, .iaload, 1), (1316, .aload_n 0, 1), (1317, .iload_n 3, 1), (1318, .iconst 3, 1), (1319, .iadd, 1), (1320, .iaload, 1), (1321, .invokevirtual 154, 3), (1324, .if_icmp .eq 836, 3), (1327, .iconst 0, 1), (1328, .ireturn, 1), (1329, .aload_n 1, 1), (1330, .aload_n 0, 1), (1331, .iload_n 3, 1), (1332, .iconst 1, 1), (1333, .iadd, 1), (1334, .iaload, 1), (1335, .aload_n 0, 1), (1336, .iload_n 3, 1), (1337, .iconst 2, 1), (1338, .iadd, 1), (1339, .iaload, 1), (1340, .invokevirtual 155, 3), (1343, .aload_n 2, 1), (1344, .aload_n 0, 1), (1345, .iload_n 3, 1), (1346, .iconst 1, 1), (1347, .iadd, 1), (1348, .iaload, 1), (1349, .aload_n 0, 1), (1350, .iload_n 3, 1), (1351, .iconst 2, 1), (1352, .iadd, 1), (1353, .iaload, 1), (1354, .invokevirtual 158, 3), (1357, .if_icmp .eq 803, 3), (1360, .iconst 0, 1), (1361, .ireturn, 1), (1362, .aload_n 1, 1), (1363, .aload_n 0, 1), (1364, .iload_n 3, 1), (1365, .iconst 1, 1), (1366, .iadd, 1), (1367, .iaload, 1), (1368, .aload_n 0, 1), (1369, .iload_n 3, 1), (1370, .iconst 2, 1), (1371, .iadd, 1), (1372, .iaload, 1), (1373, .invokevirtual 159, 3)]
def gk_lw6 : List (Nat × Instr × Nat) := [(1376, .aload_n 2, 1), (1377, .aload_n 0, 1), (1378, .iload_n 3, 1), (1379, .iconst 1, 1), (1380, .iadd, 1), (1381, .iaload, 1), (1382, .aload_n 0, 1), (1383, .iload_n 3, 1), (1384, .iconst 2, 1), (1385, .iadd, 1), (1386, .iaload, 1), (1387, .invokevirtual 162, 3), (1390, .if_icmp .eq 770, 3), (1393, .iconst 0, 1), (1394, .ireturn, 1), (1395, .aload_n 1, 1), (1396, .aload_n 0, 1), (1397, .iload_n 3, 1), (1398, .iconst 1, 1), (1399, .iadd, 1), (1400, .iaload, 1), (1401, .aload_n 0, 1), (1402, .iload_n 3, 1), (1403, .iconst 2, 1), (1404, .iadd, 1), (1405, .iaload, 1), (1406, .aload_n 0, 1), (1407, .iload_n 3, 1), (1408, .iconst 3, 1), (1409, .iadd, 1), (1410, .iaload, 1), (1411, .invokevirtual 163, 3), (1414, .aload_n 2, 1), (1415, .aload_n 0, 1), (1416, .iload_n 3, 1), (1417, .iconst 1, 1), (1418, .iadd, 1), (1419, .iaload, 1), (1420, .aload_n 0, 1), (1421, .iload_n 3, 1), (1422, .iconst 2, 1), (1423, .iadd, 1), (1424, .iaload, 1), (1425, .aload_n 0, 1), (1426, .iload_n 3, 1), (1427, .iconst 3, 1), (1428, .iadd, 1), (1429, .iaload, 1), (1430, .invokevirtual 166, 3), (1433, .if_icmp .eq 727, 3), (1436, .iconst 0, 1), (1437, .ireturn, 1), (1438, .aload_n 1, 1), (1439, .aload_n 0, 1), (1440, .iload_n 3, 1), (1441, .iconst 1, 1), (1442, .iadd, 1), (1443, .iaload, 1), (1444, .invokevirtual 167, 3), (1447, .aload_n 2, 1), (1448, .aload_n 0, 1), (1449, .iload_n 3, 1), (1450, .iconst 1, 1), (1451, .iadd, 1), (1452, .iaload, 1), (1453, .invokevirtual 170, 3), (1456, .if_icmp .eq 704, 3), (1459, .iconst 0, 1), (1460, .ireturn, 1), (1461, .aload_n 1, 1), (1462, .aload_n 0, 1), (1463, .iload_n 3, 1), (1464, .iconst 1, 1), (1465, .iadd, 1), (1466, .iaload, 1), (1467, .aload_n 0, 1), (1468, .iload_n 3, 1), (1469, .iconst 2, 1), (1470, .iadd, 1), (1471, .iaload, 1), (1472, .invokevirtual 171, 3), (1475, .aload_n 2, 1), (1476, .aload_n 0, 1), (1477, .iload_n 3, 1), (1478, .iconst 1, 1), (1479, .iadd, 1), (1480, .iaload, 1), (1481, .aload_n 0, 1), (1482, .iload_n 3, 1), (1483, .iconst 2, 1), (1484, .iadd, 1), (1485, .iaload, 1), (1486, .invokevirtual 174, 3), (1489, .if_icmp .eq 671, 3), (1492, .iconst 0, 1), (1493, .ireturn, 1), (1494, .aload_n 1, 1), (1495, .aload_n 0, 1), (1496, .iload_n 3, 1), (1497, .iconst 1, 1), (1498, .iadd, 1), (1499, .iaload, 1), (1500, .aload_n 0, 1), (1501, .iload_n 3, 1), (1502, .iconst 2, 1), (1503, .iadd, 1), (1504, .iaload, 1), (1505, .invokevirtual 175, 3), (1508, .aload_n 2, 1), (1509, .aload_n 0, 1), (1510, .iload_n 3, 1), (1511, .iconst 1, 1), (1512, .iadd, 1), (1513, .iaload, 1), (1514, .aload_n 0, 1), (1515, .iload_n 3, 1), (1516, .iconst 2, 1), (1517, .iadd, 1), (1518, .iaload, 1), (1519, .invokevirtual 178, 3), (1522, .if_icmp .eq 638, 3), (1525, .iconst 0, 1), (1526, .ireturn, 1), (1527, .aload_n 1, 1), (1528, .aload_n 0, 1), (1529, .iload_n 3, 1), (1530, .iconst 1, 1), (1531, .iadd, 1), (1532, .iaload, 1), (1533, .invokevirtual 179, 3), (1536, .aload_n 2, 1), (1537, .aload_n 0, 1), (1538, .iload_n 3, 1), (1539, .iconst 1, 1), (1540, .iadd, 1), (1541, .iaload, 1), (1542, .invokevirtual 182, 3), (1545, .if_icmp .eq 615, 3), (1548, .iconst 0, 1), (1549, .ireturn, 1), (1550, .aload_n 1, 1), (1551, .invokevirtual 183, 3), (1554, .aload_n 2, 1), (1555, .invokevirtual 186, 3), (1558, .if_icmp .eq 602, 3), (1561, .iconst 0, 1), (1562, .ireturn, 1), (1563, .aload_n 1, 1), (1564, .aload_n 0, 1), (1565, .iload_n 3, 1)]
def gk_lw7 : List (Nat × Instr × Nat) := [(1566, .iconst 1, 1), (1567, .iadd, 1), (1568, .iaload, 1), (1569, .invokevirtual 187, 3), (1572, .aload_n 2, 1), (1573, .aload_n 0, 1), (1574, .iload_n 3, 1), (1575, .iconst 1, 1), (1576, .iadd, 1), (1577, .iaload, 1), (1578, .invokevirtual 190, 3), (1581, .if_icmp .eq 579, 3), (1584, .iconst 0, 1), (1585, .ireturn, 1), (1586, .aload_n 1, 1), (1587, .aload_n 0, 1), (1588, .iload_n 3, 1), (1589, .iconst 1, 1), (1590, .iadd, 1), (1591, .iaload, 1), (1592, .aload_n 0, 1), (1593, .iload_n 3, 1), (1594, .iconst 2, 1), (1595, .iadd, 1), (1596, .iaload, 1), (1597, .invokevirtual 191, 3), (1600, .aload_n 2, 1), (1601, .aload_n 0, 1), (1602, .iload_n 3, 1), (1603, .iconst 1, 1), (1604, .iadd, 1), (1605, .iaload, 1), (1606, .aload_n 0, 1), (1607, .iload_n 3, 1), (1608, .iconst 2, 1), (1609, .iadd, 1), (1610, .iaload, 1), (1611, .invokevirtual 194, 3), (1614, .if_icmp .eq 546, 3), (1617, .iconst 0, 1), (1618, .ireturn, 1), (1619, .aload_n 1, 1), (1620, .aload_n 0, 1), (1621, .iload_n 3, 1), (1622, .iconst 1, 1), (1623, .iadd, 1), (1624, .iaload, 1), (1625, .aload_n 0, 1), (1626, .iload_n 3, 1), (1627, .iconst 2, 1), (1628, .iadd, 1), (1629, .iaload, 1), (1630, .aload_n 0, 1), (1631, .iload_n 3, 1), (1632, .iconst 3, 1), (1633, .iadd, 1), (1634, .iaload, 1), (1635, .invokevirtual 195, 3), (1638, .aload_n 2, 1), (1639, .aload_n 0, 1), (1640, .iload_n 3, 1), (1641, .iconst 1, 1), (1642, .iadd, 1), (1643, .iaload, 1), (1644, .aload_n 0, 1), (1645, .iload_n 3, 1), (1646, .iconst 2, 1), (1647, .iadd, 1), (1648, .iaload, 1), (1649, .aload_n 0, 1), (1650, .iload_n 3, 1), (1651, .iconst 3, 1), (1652, .iadd, 1), (1653, .iaload, 1), (1654, .invokevirtual 198, 3), (1657, .if_icmp .eq 503, 3), (1660, .iconst 0, 1), (1661, .ireturn, 1), (1662, .aload_n 1, 1), (1663, .aload_n 0, 1), (1664, .iload_n 3, 1), (1665, .iconst 1, 1), (1666, .iadd, 1), (1667, .iaload, 1), (1668, .aload_n 0, 1), (1669, .iload_n 3, 1), (1670, .iconst 2, 1), (1671, .iadd, 1), (1672, .iaload, 1), (1673, .invokevirtual 199, 3), (1676, .aload_n 2, 1), (1677, .aload_n 0, 1), (1678, .iload_n 3, 1), (1679, .iconst 1, 1), (1680, .iadd, 1), (1681, .iaload, 1), (1682, .aload_n 0, 1), (1683, .iload_n 3, 1), (1684, .iconst 2, 1), (1685, .iadd, 1), (1686, .iaload, 1), (1687, .invokevirtual 202, 3), (1690, .if_icmp .eq 470, 3), (1693, .iconst 0, 1), (1694, .ireturn, 1), (1695, .aload_n 1, 1), (1696, .invokevirtual 203, 3), (1699, .aload_n 2, 1), (1700, .invokevirtual 206, 3), (1703, .if_icmp .eq 457, 3), (1706, .iconst 0, 1), (1707, .ireturn, 1), (1708, .aload_n 1, 1), (1709, .aload_n 0, 1), (1710, .iload_n 3, 1), (1711, .iconst 1, 1), (1712, .iadd, 1), (1713, .iaload, 1), (1714, .invokevirtual 207, 3), (1717, .aload_n 2, 1), (1718, .aload_n 0, 1), (1719, .iload_n 3, 1), (1720, .iconst 1, 1), (1721, .iadd, 1), (1722, .iaload, 1), (1723, .invokevirtual 210, 3), (1726, .if_icmp .eq 434, 3), (1729, .iconst 0, 1), (1730, .ireturn, 1), (1731, .aload_n 1, 1), (1732, .aload_n 0, 1), (1733, .iload_n 3, 1), (1734, .iconst 1, 1), (1735, .iadd, 1), (1736, .iaload, 1), (1737, .invokevirtual 211, 3), (1740, .aload_n 2, 1), (1741, .aload_n 0, 1), (1742, .iload_n 3, 1), (1743, .iconst 1, 1), (1744, .iadd, 1), (1745, .iaload, 1), (1746, .invokevirtual 214, 3), (1749, .if_icmp .eq 411, 3), (1752, .iconst 0, 1), (1753, .ireturn, 1), (1754, .aload_n 1, 1), (1755, .aload_n 0, 1), (1756, .iload_n 3, 1), (1757, .iconst 1, 1)]
def gk_lw8 : List (Nat × Instr × Nat) := [(1758, .iadd, 1), (1759, .iaload, 1), (1760, .aload_n 0, 1), (1761, .iload_n 3, 1), (1762, .iconst 2, 1), (1763, .iadd, 1), (1764, .iaload, 1), (1765, .invokevirtual 215, 3), (1768, .aload_n 2, 1), (1769, .aload_n 0, 1), (1770, .iload_n 3, 1), (1771, .iconst 1, 1), (1772, .iadd, 1), (1773, .iaload, 1), (1774, .aload_n 0, 1), (1775, .iload_n 3, 1), (1776, .iconst 2, 1), (1777, .iadd, 1), (1778, .iaload, 1), (1779, .invokevirtual 218, 3), (1782, .if_icmp .eq 378, 3), (1785, .iconst 0, 1), (1786, .ireturn, 1), (1787, .aload_n 1, 1), (1788, .aload_n 0, 1), (1789, .iload_n 3, 1), (1790, .iconst 1, 1), (1791, .iadd, 1), (1792, .iaload, 1), (1793, .aload_n 0, 1), (1794, .iload_n 3, 1), (1795, .iconst 2, 1), (1796, .iadd, 1), (1797, .iaload, 1), (1798, .invokevirtual 219, 3), (1801, .aload_n 2, 1), (1802, .aload_n 0, 1), (1803, .iload_n 3, 1), (1804, .iconst 1, 1), (1805, .iadd, 1), (1806, .iaload, 1), (1807, .aload_n 0, 1), (1808, .iload_n 3, 1), (1809, .iconst 2, 1), (1810, .iadd, 1), (1811, .iaload, 1), (1812, .invokevirtual 222, 3), (1815, .if_icmp .eq 345, 3), (1818, .iconst 0, 1), (1819, .ireturn, 1), (1820, .aload_n 1, 1), (1821, .aload_n 0, 1), (1822, .iload_n 3, 1), (1823, .iconst 1, 1), (1824, .iadd, 1), (1825, .iaload, 1), (1826, .aload_n 0, 1), (1827, .iload_n 3, 1), (1828, .iconst 2, 1), (1829, .iadd, 1), (1830, .iaload, 1), (1831, .invokevirtual 223, 3), (1834, .aload_n 2, 1), (1835, .aload_n 0, 1), (1836, .iload_n 3, 1), (1837, .iconst 1, 1), (1838, .iadd, 1), (1839, .iaload, 1), (1840, .aload_n 0, 1), (1841, .iload_n 3, 1), (1842, .iconst 2, 1), (1843, .iadd, 1), (1844, .iaload, 1), (1845, .invokevirtual 226, 3), (1848, .if_icmp .eq 312, 3), (1851, .iconst 0, 1), (1852, .ireturn, 1), (1853, .aload_n 1, 1), (1854, .aload_n 0, 1), (1855, .iload_n 3, 1), (1856, .iconst 1, 1), (1857, .iadd, 1), (1858, .iaload, 1), (1859, .invokevirtual 227, 3), (1862, .aload_n 2, 1), (1863, .aload_n 0, 1), (1864, .iload_n 3, 1), (1865, .iconst 1, 1), (1866, .iadd, 1), (1867, .iaload, 1), (1868, .invokevirtual 230, 3), (1871, .if_icmp .eq 289, 3), (1874, .iconst 0, 1), (1875, .ireturn, 1), (1876, .aload_n 1, 1), (1877, .aload_n 0, 1), (1878, .iload_n 3, 1), (1879, .iconst 1, 1), (1880, .iadd, 1), (1881, .iaload, 1), (1882, .aload_n 0, 1), (1883, .iload_n 3, 1), (1884, .iconst 2, 1), (1885, .iadd, 1), (1886, .iaload, 1), (1887, .aload_n 0, 1), (1888, .iload_n 3, 1), (1889, .iconst 3, 1), (1890, .iadd, 1), (1891, .iaload, 1), (1892, .aload_n 0, 1), (1893, .iload_n 3, 1), (1894, .iconst 4, 1), (1895, .iadd, 1), (1896, .iaload, 1), (1897, .aload_n 0, 1), (1898, .iload_n 3, 1), (1899, .iconst 5, 1), (1900, .iadd, 1), (1901, .iaload, 1), (1902, .invokevirtual 231, 3), (1905, .aload_n 2, 1), (1906, .aload_n 0, 1), (1907, .iload_n 3, 1), (1908, .iconst 1, 1), (1909, .iadd, 1), (1910, .iaload, 1), (1911, .aload_n 0, 1), (1912, .iload_n 3, 1), (1913, .iconst 2, 1), (1914, .iadd, 1), (1915, .iaload, 1), (1916, .aload_n 0, 1), (1917, .iload_n 3, 1), (1918, .iconst 3, 1), (1919, .iadd, 1), (1920, .iaload, 1), (1921, .aload_n 0, 1), (1922, .iload_n 3, 1), (1923, .iconst 4, 1), (1924, .iadd, 1), (1925, .iaload, 1), (1926, .aload_n 0, 1), (1927, .iload_n 3, 1), (1928, .iconst 5, 1), (1929, .iadd, 1), (1930, .iaload, 1), (1931, .invokevirtual 234, 3), (1934, .if_icmp .eq 226, 3), (1937, .iconst 0, 1)]
def gk_lw9 : List (Nat × Instr × Nat) := [(1938, .ireturn, 1), (1939, .aload_n 1, 1), (1940, .aload_n 0, 1), (1941, .iload_n 3, 1), (1942, .iconst 1, 1), (1943, .iadd, 1), (1944, .iaload, 1), (1945, .aload_n 0, 1), (1946, .iload_n 3, 1), (1947, .iconst 2, 1), (1948, .iadd, 1), (1949, .iaload, 1), (1950, .aload_n 0, 1), (1951, .iload_n 3, 1), (1952, .iconst 3, 1), (1953, .iadd, 1), (1954, .iaload, 1), (1955, .aload_n 0, 1), (1956, .iload_n 3, 1), (1957, .iconst 4, 1), (1958, .iadd, 1), (1959, .iaload, 1), (1960, .aload_n 0, 1), (1961, .iload_n 3, 1), (1962, .iconst 5, 1), (1963, .iadd, 1), (1964, .iaload, 1), (1965, .invokevirtual 235, 3), (1968, .aload_n 2, 1), (1969, .aload_n 0, 1), (1970, .iload_n 3, 1), (1971, .iconst 1, 1), (1972, .iadd, 1), (1973, .iaload, 1), (1974, .aload_n 0, 1), (1975, .iload_n 3, 1), (1976, .iconst 2, 1), (1977, .iadd, 1), (1978, .iaload, 1), (1979, .aload_n 0, 1), (1980, .iload_n 3, 1), (1981, .iconst 3, 1), (1982, .iadd, 1), (1983, .iaload, 1), (1984, .aload_n 0, 1), (1985, .iload_n 3, 1), (1986, .iconst 4, 1), (1987, .iadd, 1), (1988, .iaload, 1), (1989, .aload_n 0, 1), (1990, .iload_n 3, 1), (1991, .iconst 5, 1), (1992, .iadd, 1), (1993, .iaload, 1), (1994, .invokevirtual 238, 3), (1997, .if_icmp .eq 163, 3), (2000, .iconst 0, 1), (2001, .ireturn, 1), (2002, .aload_n 1, 1), (2003, .aload_n 0, 1), (2004, .iload_n 3, 1), (2005, .iconst 1, 1), (2006, .iadd, 1), (2007, .iaload, 1), (2008, .aload_n 0, 1), (2009, .iload_n 3, 1), (2010, .iconst 2, 1), (2011, .iadd, 1), (2012, .iaload, 1), (2013, .aload_n 0, 1), (2014, .iload_n 3, 1), (2015, .iconst 3, 1), (2016, .iadd, 1), (2017, .iaload, 1), (2018, .aload_n 0, 1), (2019, .iload_n 3, 1), (2020, .iconst 4, 1), (2021, .iadd, 1), (2022, .iaload, 1), (2023, .invokevirtual 239, 3), (2026, .aload_n 2, 1), (2027, .aload_n 0, 1), (2028, .iload_n 3, 1), (2029, .iconst 1, 1), (2030, .iadd, 1), (2031, .iaload, 1), (2032, .aload_n 0, 1), (2033, .iload_n 3, 1), (2034, .iconst 2, 1), (2035, .iadd, 1), (2036, .iaload, 1), (2037, .aload_n 0, 1), (2038, .iload_n 3, 1), (2039, .iconst 3, 1), (2040, .iadd, 1), (2041, .iaload, 1), (2042, .aload_n 0, 1), (2043, .iload_n 3, 1), (2044, .iconst 4, 1), (2045, .iadd, 1), (2046, .iaload, 1), (2047, .invokevirtual 243, 3), (2050, .if_icmp .eq 110, 3), (2053, .iconst 0, 1), (2054, .ireturn, 1), (2055, .aload_n 1, 1), (2056, .aload_n 0, 1), (2057, .iload_n 3, 1), (2058, .iconst 1, 1), (2059, .iadd, 1), (2060, .iaload, 1), (2061, .invokevirtual 244, 3), (2064, .aload_n 2, 1), (2065, .aload_n 0, 1), (2066, .iload_n 3, 1), (2067, .iconst 1, 1), (2068, .iadd, 1), (2069, .iaload, 1), (2070, .invokevirtual 247, 3), (2073, .if_icmp .eq 87, 3), (2076, .iconst 0, 1), (2077, .ireturn, 1), (2078, .aload_n 1, 1), (2079, .aload_n 0, 1), (2080, .iload_n 3, 1), (2081, .iconst 1, 1), (2082, .iadd, 1), (2083, .iaload, 1), (2084, .invokevirtual 248, 3), (2087, .aload_n 2, 1), (2088, .aload_n 0, 1), (2089, .iload_n 3, 1), (2090, .iconst 1, 1), (2091, .iadd, 1), (2092, .iaload, 1), (2093, .invokevirtual 251, 3), (2096, .if_icmp .eq 64, 3), (2099, .iconst 0, 1), (2100, .ireturn, 1), (2101, .aload_n 1, 1), (2102, .aload_n 0, 1), (2103, .iload_n 3, 1), (2104, .iconst 1, 1), (2105, .iadd, 1), (2106, .iaload, 1), (2107, .aload_n 0, 1), (2108, .iload_n 3, 1), (2109, .iconst 2, 1), (2110, .iadd, 1), (2111, .iaload, 1)]
def gk_lw10 : List (Nat × Instr × Nat) := [(2112, .invokevirtual 252, 3), (2115, .aload_n 2, 1), (2116, .aload_n 0, 1), (2117, .iload_n 3, 1), (2118, .iconst 1, 1), (2119, .iadd, 1), (2120, .iaload, 1), (2121, .aload_n 0, 1), (2122, .iload_n 3, 1), (2123, .iconst 2, 1), (2124, .iadd, 1), (2125, .iaload, 1), (2126, .invokevirtual 255, 3), (2129, .if_icmp .eq 31, 3), (2132, .iconst 0, 1), (2133, .ireturn, 1), (2134, .aload_n 1, 1), (2135, .invokevirtual 256, 3), (2138, .aload_n 2, 1), (2139, .invokevirtual 259, 3), (2142, .if_icmp .eq 18, 3), (2145, .iconst 0, 1), (2146, .ireturn, 1), (2147, .aload_n 1, 1), (2148, .invokevirtual 260, 3), (2151, .aload_n 2, 1), (2152, .invokevirtual 263, 3), (2155, .if_icmp .eq 5, 3), (2158, .iconst 0, 1), (2159, .ireturn, 1), (2160, .iinc 3 6, 3), (2163, .goto (-2145), 3), (2166, .iconst 1, 1), (2167, .ireturn, 1)]
def gk_law : rk_M2 := (gk_lw0 ++ (gk_lw1 ++ (gk_lw2 ++ (gk_lw3 ++ (gk_lw4 ++ (gk_lw5 ++ (gk_lw6 ++ (gk_lw7 ++ (gk_lw8 ++ (gk_lw9 ++ (gk_lw10)))))))))), 4, [(7, 3, 11, 0), (9, 9, 126, 0), (10, 3, 12, 0), (12, 9, 201, 0), (13, 5, 127, 0), (17, 5, 203, 0), (18, 5, 128, 0), (22, 5, 204, 0), (23, 5, 129, 0), (26, 5, 205, 0), (27, 5, 130, 3), (31, 5, 213, 3), (34, 5, 131, 3), (38, 5, 215, 3), (39, 5, 132, 2), (43, 5, 216, 2), (44, 5, 133, 5), (48, 5, 217, 5), (49, 5, 134, 5), (53, 5, 219, 5), (54, 5, 135, 1), (58, 5, 246, 1), (59, 5, 136, 1), (62, 5, 252, 1), (63, 5, 137, 1), (66, 5, 235, 1), (67, 5, 138, 1), (70, 5, 274, 1), (71, 5, 139, 2), (75, 5, 275, 2), (76, 5, 140, 2), (79, 5, 276, 2), (80, 5, 141, 2), (83, 5, 277, 2), (84, 5, 142, 2), (87, 5, 279, 2), (88, 5, 143, 2), (91, 5, 280, 2), (92, 5, 144, 1), (95, 5, 281, 1), (96, 5, 145, 3), (100, 5, 289, 3), (101, 5, 146, 2), (104, 5, 291, 2), (105, 5, 147, 1), (108, 5, 292, 1), (109, 5, 148, 1), (112, 5, 293, 1), (113, 5, 149, 1), (116, 5, 296, 1), (117, 5, 150, 1), (120, 5, 297, 1), (121, 5, 151, 1), (124, 5, 298, 1), (125, 5, 152, 1), (128, 5, 299, 1), (129, 5, 153, 2), (133, 5, 300, 2), (134, 5, 154, 3), (138, 5, 301, 3), (139, 5, 155, 2), (142, 5, 308, 2), (143, 5, 156, 2), (146, 5, 309, 2), (147, 5, 157, 2), (150, 5, 310, 2), (151, 5, 158, 3), (154, 5, 311, 3), (155, 5, 159, 2), (158, 5, 315, 2), (159, 5, 160, 2), (162, 5, 316, 2), (163, 5, 161, 3), (166, 5, 317, 3), (167, 5, 162, 1), (170, 5, 318, 1), (171, 5, 163, 2), (174, 5, 320, 2), (175, 5, 164, 2), (178, 5, 321, 2), (179, 5, 165, 1), (182, 5, 322, 1), (183, 5, 166, 0), (186, 5, 323, 0), (187, 5, 167, 1), (190, 5, 324, 1), (191, 5, 168, 2), (194, 5, 328, 2), (195, 5, 169, 3), (198, 5, 334, 3), (199, 5, 170, 2), (202, 5, 335, 2), (203, 5, 171, 0), (206, 5, 336, 0), (207, 5, 172, 1), (210, 5, 341, 1), (211, 5, 173, 1), (214, 5, 342, 1), (215, 5, 174, 2), (218, 5, 343, 2), (219, 5, 175, 2), (222, 5, 347, 2), (223, 5, 176, 2), (226, 5, 348, 2), (227, 5, 177, 1), (230, 5, 350, 1), (231, 5, 178, 5), (234, 5, 355, 5), (235, 5, 179, 5), (238, 5, 356, 5), (239, 5, 180, 4), (243, 5, 357, 4), (244, 5, 181, 1), (247, 5, 366, 1), (248, 5, 182, 1), (251, 5, 367, 1), (252, 5, 183, 2), (255, 5, 368, 2), (256, 5, 184, 0), (259, 5, 370, 0), (260, 5, 185, 0), (263, 5, 371, 0)], [], some .boolean, 999)
def gk_y_0 : MethodName := ⟨"GooseIce$Crew", "<init>", "()V"⟩
def gk_N0 : rk_N := ("GooseIce$Crew", gk_y_0, prog_2_method_1_code)
def gk_y_1 : MethodName := ⟨"GooseIce$Crew", "clear", "()V"⟩
def gk_N1 : rk_N := ("GooseIce$Crew", gk_y_1, prog_2_method_2_code)
def gk_y_2 : MethodName := ⟨"GooseIce$Crew", "copyFrom", "(LGooseIce$Crew;)V"⟩
def gk_N2 : rk_N := ("GooseIce$Crew", gk_y_2, prog_2_method_3_code)
def gk_y_3 : MethodName := ⟨"GooseIce$Crew", "has", "(I)Z"⟩
def gk_N3 : rk_N := ("GooseIce$Crew", gk_y_3, prog_2_method_4_code)
def gk_y_4 : MethodName := ⟨"GooseIce$Crew", "hasSet", "(I)Z"⟩
def gk_N4 : rk_N := ("GooseIce$Crew", gk_y_4, prog_2_method_5_code)
def gk_y_5 : MethodName := ⟨"GooseIce$Crew", "named", "(J)I"⟩
def gk_N5 : rk_N := ("GooseIce$Crew", gk_y_5, prog_2_method_6_code)
def gk_y_6 : MethodName := ⟨"GooseIce$Crew", "isBusy", "(I)Z"⟩
def gk_N6 : rk_N := ("GooseIce$Crew", gk_y_6, prog_2_method_7_code)
def gk_y_7 : MethodName := ⟨"GooseIce$Crew", "weightOf", "(I)I"⟩
def gk_N7 : rk_N := ("GooseIce$Crew", gk_y_7, prog_2_method_8_code)
def gk_y_8 : MethodName := ⟨"GooseIce$Crew", "aim", "(I[II)V"⟩
def gk_N8 : rk_N := ("GooseIce$Crew", gk_y_8, prog_2_method_9_code)
def gk_y_9 : MethodName := ⟨"GooseIce$Crew", "ahead", "(II)I"⟩
def gk_N9 : rk_N := ("GooseIce$Crew", gk_y_9, prog_2_method_10_code)
def gk_y_10 : MethodName := ⟨"GooseIce$Crew", "advance", "(II)V"⟩
def gk_N10 : rk_N := ("GooseIce$Crew", gk_y_10, prog_2_method_11_code)
def gk_y_11 : MethodName := ⟨"GooseIce$Crew", "remaining", "(I)I"⟩
def gk_N11 : rk_N := ("GooseIce$Crew", gk_y_11, prog_2_method_12_code)
def gk_y_12 : MethodName := ⟨"GooseIce$Crew", "soak", "(I)V"⟩
def gk_N12 : rk_N := ("GooseIce$Crew", gk_y_12, prog_2_method_13_code)
def gk_y_13 : MethodName := ⟨"GooseIce$Crew", "evenPart", "(I)I"⟩
def gk_N13 : rk_N := ("GooseIce$Crew", gk_y_13, prog_2_method_14_code)
def gk_y_14 : MethodName := ⟨"GooseIce$Crew", "fewestGroups", "(II[I)I"⟩
def gk_N14 : rk_N := ("GooseIce$Crew", gk_y_14, prog_2_method_15_code)
def gk_y_15 : MethodName := ⟨"GooseIce$Crew", "bestLast", "(II[I)I"⟩
def gk_N15 : rk_N := ("GooseIce$Crew", gk_y_15, prog_2_method_16_code)
def gk_y_16 : MethodName := ⟨"GooseIce$Days", "<init>", "()V"⟩
def gk_N16 : rk_N := ("GooseIce$Days", gk_y_16, prog_3_method_1_code)
def gk_y_17 : MethodName := ⟨"GooseIce$Days", "canBe", "(III)Z"⟩
def gk_N17 : rk_N := ("GooseIce$Days", gk_y_17, prog_3_method_2_code)
def gk_y_18 : MethodName := ⟨"GooseIce$Days", "whole", "(I)J"⟩
def gk_N18 : rk_N := ("GooseIce$Days", gk_y_18, prog_3_method_3_code)
def gk_y_19 : MethodName := ⟨"GooseIce$Days", "spread", "(IIII)V"⟩
def gk_N19 : rk_N := ("GooseIce$Days", gk_y_19, prog_3_method_4_code)
def gk_y_20 : MethodName := ⟨"GooseIce$Days", "valueAt", "(I)I"⟩
def gk_N20 : rk_N := ("GooseIce$Days", gk_y_20, prog_3_method_5_code)
def gk_y_21 : MethodName := ⟨"GooseIce$Days", "atLeast", "(I)J"⟩
def gk_N21 : rk_N := ("GooseIce$Days", gk_y_21, prog_3_method_6_code)
def gk_y_22 : MethodName := ⟨"GooseIce$Days", "sum", "()J"⟩
def gk_N22 : rk_N := ("GooseIce$Days", gk_y_22, prog_3_method_7_code)
def gk_y_23 : MethodName := ⟨"GooseIce$Ice", "<init>", "()V"⟩
def gk_N23 : rk_N := ("GooseIce$Ice", gk_y_23, prog_4_method_1_code)
def gk_y_24 : MethodName := ⟨"GooseIce$Ice", "clear", "()V"⟩
def gk_N24 : rk_N := ("GooseIce$Ice", gk_y_24, prog_4_method_2_code)
def gk_y_25 : MethodName := ⟨"GooseIce$Ice", "copyFrom", "(LGooseIce$Ice;)V"⟩
def gk_N25 : rk_N := ("GooseIce$Ice", gk_y_25, prog_4_method_3_code)
def gk_y_26 : MethodName := ⟨"GooseIce$Ice", "enter", "(II)V"⟩
def gk_N26 : rk_N := ("GooseIce$Ice", gk_y_26, prog_4_method_4_code)
def gk_y_27 : MethodName := ⟨"GooseIce$Ice", "heal", "(II)V"⟩
def gk_N27 : rk_N := ("GooseIce$Ice", gk_y_27, prog_4_method_5_code)
def gk_y_28 : MethodName := ⟨"GooseIce$Ice", "shatter", "(I)V"⟩
def gk_N28 : rk_N := ("GooseIce$Ice", gk_y_28, prog_4_method_6_code)
def gk_y_29 : MethodName := ⟨"GooseIce$Lake", "<init>", "()V"⟩
def gk_N29 : rk_N := ("GooseIce$Lake", gk_y_29, prog_5_method_1_code)
def gk_y_30 : MethodName := ⟨"GooseIce$Lake", "clear", "()V"⟩
def gk_N30 : rk_N := ("GooseIce$Lake", gk_y_30, prog_5_method_2_code)
def gk_y_31 : MethodName := ⟨"GooseIce$Lake", "copyFrom", "(LGooseIce$Lake;)V"⟩
def gk_N31 : rk_N := ("GooseIce$Lake", gk_y_31, prog_5_method_3_code)
def gk_y_32 : MethodName := ⟨"GooseIce$Lake", "addCell", "(JZI)V"⟩
def gk_N32 : rk_N := ("GooseIce$Lake", gk_y_32, prog_5_method_4_code)
def gk_y_33 : MethodName := ⟨"GooseIce$Lake", "addWalker", "(JII)V"⟩
def gk_N33 : rk_N := ("GooseIce$Lake", gk_y_33, prog_5_method_5_code)
def gk_y_34 : MethodName := ⟨"GooseIce$Lake", "isCell", "(I)Z"⟩
def gk_N34 : rk_N := ("GooseIce$Lake", gk_y_34, prog_5_method_6_code)
def gk_y_35 : MethodName := ⟨"GooseIce$Lake", "isShore", "(I)Z"⟩
def gk_N35 : rk_N := ("GooseIce$Lake", gk_y_35, prog_5_method_7_code)
def gk_y_36 : MethodName := ⟨"GooseIce$Lake", "isIce", "(I)Z"⟩
def gk_N36 : rk_N := ("GooseIce$Lake", gk_y_36, prog_5_method_8_code)
def gk_y_37 : MethodName := ⟨"GooseIce$Lake", "isPair", "(II)Z"⟩
def gk_N37 : rk_N := ("GooseIce$Lake", gk_y_37, prog_5_method_9_code)
def gk_y_38 : MethodName := ⟨"GooseIce$Lake", "named", "(J)I"⟩
def gk_N38 : rk_N := ("GooseIce$Lake", gk_y_38, prog_5_method_10_code)
def gk_y_39 : MethodName := ⟨"GooseIce$Lake", "whole", "()I"⟩
def gk_N39 : rk_N := ("GooseIce$Lake", gk_y_39, prog_5_method_11_code)
def gk_y_40 : MethodName := ⟨"GooseIce$Lake", "strength", "(I)I"⟩
def gk_N40 : rk_N := ("GooseIce$Lake", gk_y_40, prog_5_method_12_code)
def gk_y_41 : MethodName := ⟨"GooseIce$Lake", "load", "(II)I"⟩
def gk_N41 : rk_N := ("GooseIce$Lake", gk_y_41, prog_5_method_13_code)
def gk_y_42 : MethodName := ⟨"GooseIce$Lake", "spare", "(II)I"⟩
def gk_N42 : rk_N := ("GooseIce$Lake", gk_y_42, prog_5_method_14_code)
def gk_y_43 : MethodName := ⟨"GooseIce$Lake", "carrying", "(I)I"⟩
def gk_N43 : rk_N := ("GooseIce$Lake", gk_y_43, prog_5_method_15_code)
def gk_y_44 : MethodName := ⟨"GooseIce$Lake", "notCarried", "(I)I"⟩
def gk_N44 : rk_N := ("GooseIce$Lake", gk_y_44, prog_5_method_16_code)
def gk_y_45 : MethodName := ⟨"GooseIce$Lake", "leads", "(I[II)Z"⟩
def gk_N45 : rk_N := ("GooseIce$Lake", gk_y_45, prog_5_method_17_code)
def gk_y_46 : MethodName := ⟨"GooseIce$Lake", "around", "(I)I"⟩
def gk_N46 : rk_N := ("GooseIce$Lake", gk_y_46, prog_5_method_18_code)
def gk_y_47 : MethodName := ⟨"GooseIce$Lake", "flood", "(II)I"⟩
def gk_N47 : rk_N := ("GooseIce$Lake", gk_y_47, prog_5_method_19_code)
def gk_y_48 : MethodName := ⟨"GooseIce$Lake", "sharedShore", "(I)I"⟩
def gk_N48 : rk_N := ("GooseIce$Lake", gk_y_48, prog_5_method_20_code)
def gk_y_49 : MethodName := ⟨"GooseIce$Lake", "walkOn", "(I)I"⟩
def gk_N49 : rk_N := ("GooseIce$Lake", gk_y_49, prog_5_method_21_code)
def gk_y_50 : MethodName := ⟨"GooseIce$Lake", "walkOnce", "()I"⟩
def gk_N50 : rk_N := ("GooseIce$Lake", gk_y_50, prog_5_method_22_code)
def gk_y_51 : MethodName := ⟨"GooseIce$Lake", "moveOne", "(II)V"⟩
def gk_N51 : rk_N := ("GooseIce$Lake", gk_y_51, prog_5_method_23_code)
def gk_y_52 : MethodName := ⟨"GooseIce$Lake", "weighAll", "()V"⟩
def gk_N52 : rk_N := ("GooseIce$Lake", gk_y_52, prog_5_method_24_code)
def gk_y_53 : MethodName := ⟨"GooseIce$Lake", "overloaded", "()I"⟩
def gk_N53 : rk_N := ("GooseIce$Lake", gk_y_53, prog_5_method_25_code)
def gk_y_54 : MethodName := ⟨"GooseIce$Lake", "crack", "(I)V"⟩
def gk_N54 : rk_N := ("GooseIce$Lake", gk_y_54, prog_5_method_26_code)
def gk_y_55 : MethodName := ⟨"GooseIce$Lake", "noteLoads", "()V"⟩
def gk_N55 : rk_N := ("GooseIce$Lake", gk_y_55, prog_5_method_27_code)
def gk_y_56 : MethodName := ⟨"GooseIce$Lake", "freeze", "(I)I"⟩
def gk_N56 : rk_N := ("GooseIce$Lake", gk_y_56, prog_5_method_28_code)
def gk_y_57 : MethodName := ⟨"GooseIce$Lake", "soften", "(I)V"⟩
def gk_N57 : rk_N := ("GooseIce$Lake", gk_y_57, prog_5_method_29_code)
def gk_y_58 : MethodName := ⟨"GooseIce$Lake", "countSpent", "()I"⟩
def gk_N58 : rk_N := ("GooseIce$Lake", gk_y_58, prog_5_method_30_code)
def gk_y_59 : MethodName := ⟨"GooseIce$Lake", "bringAshore", "(I)V"⟩
def gk_N59 : rk_N := ("GooseIce$Lake", gk_y_59, prog_5_method_31_code)
def gk_y_60 : MethodName := ⟨"GooseIce$Lake", "leastOnRoute", "(I)I"⟩
def gk_N60 : rk_N := ("GooseIce$Lake", gk_y_60, prog_5_method_32_code)
def gk_y_61 : MethodName := ⟨"GooseIce$Lake", "frailest", "()I"⟩
def gk_N61 : rk_N := ("GooseIce$Lake", gk_y_61, prog_5_method_33_code)
def gk_y_62 : MethodName := ⟨"GooseIce$Lake", "stepsTillStrong", "(II)I"⟩
def gk_N62 : rk_N := ("GooseIce$Lake", gk_y_62, prog_5_method_34_code)
def gk_y_63 : MethodName := ⟨"GooseIce$LakeText", "<init>", "(LGooseIce$Reader;)V"⟩
def gk_N63 : rk_N := ("GooseIce$LakeText", gk_y_63, prog_6_method_1_code)
def gk_y_64 : MethodName := ⟨"GooseIce$LakeText", "parse", "(LGooseIce$Lake;)V"⟩
def gk_N64 : rk_N := ("GooseIce$LakeText", gk_y_64, prog_6_method_2_code)
def gk_y_65 : MethodName := ⟨"GooseIce$LakeText", "readPart", "(LGooseIce$Lake;)V"⟩
def gk_N65 : rk_N := ("GooseIce$LakeText", gk_y_65, prog_6_method_3_code)
def gk_y_66 : MethodName := ⟨"GooseIce$LakeText", "readNewName", "(LGooseIce$Lake;)J"⟩
def gk_N66 : rk_N := ("GooseIce$LakeText", gk_y_66, prog_6_method_4_code)
def gk_y_67 : MethodName := ⟨"GooseIce$LakeText", "readCell", "(LGooseIce$Lake;Z)V"⟩
def gk_N67 : rk_N := ("GooseIce$LakeText", gk_y_67, prog_6_method_5_code)
def gk_y_68 : MethodName := ⟨"GooseIce$LakeText", "readPair", "(LGooseIce$Lake;Z)V"⟩
def gk_N68 : rk_N := ("GooseIce$LakeText", gk_y_68, prog_6_method_6_code)
def gk_y_69 : MethodName := ⟨"GooseIce$LakeText", "readWalker", "(LGooseIce$Lake;)V"⟩
def gk_N69 : rk_N := ("GooseIce$LakeText", gk_y_69, prog_6_method_7_code)
def gk_y_70 : MethodName := ⟨"GooseIce$LakeText", "readSetting", "(II)I"⟩
def gk_N70 : rk_N := ("GooseIce$LakeText", gk_y_70, prog_6_method_8_code)
def gk_y_71 : MethodName := ⟨"GooseIce$Life", "<init>", "(LGooseIce$Paths;)V"⟩
def gk_N71 : rk_N := ("GooseIce$Life", gk_y_71, prog_7_method_1_code)
def gk_y_72 : MethodName := ⟨"GooseIce$Life", "run", "(LGooseIce$Lake;LGooseIce$Tales;I)I"⟩
def gk_N72 : rk_N := ("GooseIce$Life", gk_y_72, prog_7_method_2_code)
def gk_y_73 : MethodName := ⟨"GooseIce$Life", "act", "(LGooseIce$Lake;LGooseIce$Tales;I)I"⟩
def gk_N73 : rk_N := ("GooseIce$Life", gk_y_73, prog_7_method_3_code)
def gk_y_74 : MethodName := ⟨"GooseIce$Life", "beginLoop", "(LGooseIce$Tales;I)V"⟩
def gk_N74 : rk_N := ("GooseIce$Life", gk_y_74, prog_7_method_4_code)
def gk_y_75 : MethodName := ⟨"GooseIce$Life", "backToLoop", "(LGooseIce$Tales;I)I"⟩
def gk_N75 : rk_N := ("GooseIce$Life", gk_y_75, prog_7_method_5_code)
def gk_y_76 : MethodName := ⟨"GooseIce$Life", "trySend", "(LGooseIce$Lake;II)V"⟩
def gk_N76 : rk_N := ("GooseIce$Life", gk_y_76, prog_7_method_6_code)
def gk_y_77 : MethodName := ⟨"GooseIce$Life", "draw", "(I)I"⟩
def gk_N77 : rk_N := ("GooseIce$Life", gk_y_77, prog_7_method_7_code)
def gk_y_78 : MethodName := ⟨"GooseIce$Life", "isSo", "(LGooseIce$Lake;LGooseIce$Tales;I)Z"⟩
def gk_N78 : rk_N := ("GooseIce$Life", gk_y_78, prog_7_method_8_code)
def gk_y_79 : MethodName := ⟨"GooseIce$Paths", "<init>", "()V"⟩
def gk_N79 : rk_N := ("GooseIce$Paths", gk_y_79, prog_8_method_1_code)
def gk_y_80 : MethodName := ⟨"GooseIce$Paths", "has", "(I)Z"⟩
def gk_N80 : rk_N := ("GooseIce$Paths", gk_y_80, prog_8_method_2_code)
def gk_y_81 : MethodName := ⟨"GooseIce$Paths", "find", "(LGooseIce$Lake;III)Z"⟩
def gk_N81 : rk_N := ("GooseIce$Paths", gk_y_81, prog_8_method_3_code)
def gk_y_82 : MethodName := ⟨"GooseIce$Paths", "layersFrom", "(LGooseIce$Lake;III)I"⟩
def gk_N82 : rk_N := ("GooseIce$Paths", gk_y_82, prog_8_method_4_code)
def gk_y_83 : MethodName := ⟨"GooseIce$Paths", "findSurest", "(LGooseIce$Lake;II)Z"⟩
def gk_N83 : rk_N := ("GooseIce$Paths", gk_y_83, prog_8_method_5_code)
def gk_y_84 : MethodName := ⟨"GooseIce$Paths", "sparing", "(LGooseIce$Lake;I)I"⟩
def gk_N84 : rk_N := ("GooseIce$Paths", gk_y_84, prog_8_method_6_code)
def gk_y_85 : MethodName := ⟨"GooseIce$Paths", "fewestWithout", "(LGooseIce$Lake;II)I"⟩
def gk_N85 : rk_N := ("GooseIce$Paths", gk_y_85, prog_8_method_7_code)
def gk_y_86 : MethodName := ⟨"GooseIce$Paths", "whoMayHaveCracked", "(LGooseIce$Lake;I)I"⟩
def gk_N86 : rk_N := ("GooseIce$Paths", gk_y_86, prog_8_method_8_code)
def gk_y_87 : MethodName := ⟨"GooseIce$Paths", "holdingFor", "(LGooseIce$Lake;I)I"⟩
def gk_N87 : rk_N := ("GooseIce$Paths", gk_y_87, prog_8_method_9_code)
def gk_y_88 : MethodName := ⟨"GooseIce$Paths", "crosses", "(LGooseIce$Lake;II)Z"⟩
def gk_N88 : rk_N := ("GooseIce$Paths", gk_y_88, prog_8_method_10_code)
def gk_y_89 : MethodName := ⟨"GooseIce$Paths", "crossesFrom", "(LGooseIce$Lake;III)Z"⟩
def gk_N89 : rk_N := ("GooseIce$Paths", gk_y_89, prog_8_method_11_code)
def gk_y_90 : MethodName := ⟨"GooseIce$Paths", "lastOf", "(LGooseIce$Lake;II)I"⟩
def gk_N90 : rk_N := ("GooseIce$Paths", gk_y_90, prog_8_method_12_code)
def gk_y_91 : MethodName := ⟨"GooseIce$Queue", "<init>", "()V"⟩
def gk_N91 : rk_N := ("GooseIce$Queue", gk_y_91, prog_9_method_1_code)
def gk_y_92 : MethodName := ⟨"GooseIce$Queue", "soonest", "(LGooseIce$Lake;I[II)I"⟩
def gk_N92 : rk_N := ("GooseIce$Queue", gk_y_92, prog_9_method_2_code)
def gk_y_93 : MethodName := ⟨"GooseIce$Queue", "meetsBroken", "(LGooseIce$Lake;[II)Z"⟩
def gk_N93 : rk_N := ("GooseIce$Queue", gk_y_93, prog_9_method_3_code)
def gk_y_94 : MethodName := ⟨"GooseIce$Queue", "gather", "(I)V"⟩
def gk_N94 : rk_N := ("GooseIce$Queue", gk_y_94, prog_9_method_4_code)
def gk_y_95 : MethodName := ⟨"GooseIce$Queue", "arrange", "(I)Z"⟩
def gk_N95 : rk_N := ("GooseIce$Queue", gk_y_95, prog_9_method_5_code)
def gk_y_96 : MethodName := ⟨"GooseIce$Queue", "startFirst", "(LGooseIce$Lake;)V"⟩
def gk_N96 : rk_N := ("GooseIce$Queue", gk_y_96, prog_9_method_6_code)
def gk_y_97 : MethodName := ⟨"GooseIce$Queue", "tryGaps", "(II)V"⟩
def gk_N97 : rk_N := ("GooseIce$Queue", gk_y_97, prog_9_method_7_code)
def gk_y_98 : MethodName := ⟨"GooseIce$Queue", "finish", "(LGooseIce$Lake;I)V"⟩
def gk_N98 : rk_N := ("GooseIce$Queue", gk_y_98, prog_9_method_8_code)
def gk_y_99 : MethodName := ⟨"GooseIce$Reader", "<init>", "()V"⟩
def gk_N99 : rk_N := ("GooseIce$Reader", gk_y_99, prog_10_method_1_code)
def gk_y_100 : MethodName := ⟨"GooseIce$Reader", "hasRoom", "()Z"⟩
def gk_N100 : rk_N := ("GooseIce$Reader", gk_y_100, prog_10_method_2_code)
def gk_y_101 : MethodName := ⟨"GooseIce$Reader", "take", "(I)V"⟩
def gk_N101 : rk_N := ("GooseIce$Reader", gk_y_101, prog_10_method_3_code)
def gk_y_102 : MethodName := ⟨"GooseIce$Reader", "open", "(I)V"⟩
def gk_N102 : rk_N := ("GooseIce$Reader", gk_y_102, prog_10_method_4_code)
def gk_y_103 : MethodName := ⟨"GooseIce$Reader", "signAt", "(I)I"⟩
def gk_N103 : rk_N := ("GooseIce$Reader", gk_y_103, prog_10_method_5_code)
def gk_y_104 : MethodName := ⟨"GooseIce$Reader", "scan", "()V"⟩
def gk_N104 : rk_N := ("GooseIce$Reader", gk_y_104, prog_10_method_6_code)
def gk_y_105 : MethodName := ⟨"GooseIce$Reader", "scanWord", "()V"⟩
def gk_N105 : rk_N := ("GooseIce$Reader", gk_y_105, prog_10_method_7_code)
def gk_y_106 : MethodName := ⟨"GooseIce$Reader", "scanNumber", "()V"⟩
def gk_N106 : rk_N := ("GooseIce$Reader", gk_y_106, prog_10_method_8_code)
def gk_y_107 : MethodName := ⟨"GooseIce$Reader", "fail", "(I)V"⟩
def gk_N107 : rk_N := ("GooseIce$Reader", gk_y_107, prog_10_method_9_code)
def gk_y_108 : MethodName := ⟨"GooseIce$Reader", "misfit", "()V"⟩
def gk_N108 : rk_N := ("GooseIce$Reader", gk_y_108, prog_10_method_10_code)
def gk_y_109 : MethodName := ⟨"GooseIce$Reader", "passWord", "(I)V"⟩
def gk_N109 : rk_N := ("GooseIce$Reader", gk_y_109, prog_10_method_11_code)
def gk_y_110 : MethodName := ⟨"GooseIce$Reader", "passSign", "(I)Z"⟩
def gk_N110 : rk_N := ("GooseIce$Reader", gk_y_110, prog_10_method_12_code)
def gk_y_111 : MethodName := ⟨"GooseIce$Reader", "passNumber", "(II)I"⟩
def gk_N111 : rk_N := ("GooseIce$Reader", gk_y_111, prog_10_method_13_code)
def gk_y_112 : MethodName := ⟨"GooseIce$Reader", "nameHere", "()J"⟩
def gk_N112 : rk_N := ("GooseIce$Reader", gk_y_112, prog_10_method_14_code)
def gk_y_113 : MethodName := ⟨"GooseIce$Reader", "cellHere", "(LGooseIce$Lake;)I"⟩
def gk_N113 : rk_N := ("GooseIce$Reader", gk_y_113, prog_10_method_15_code)
def gk_y_114 : MethodName := ⟨"GooseIce$Reader", "walkerHere", "(LGooseIce$Lake;)I"⟩
def gk_N114 : rk_N := ("GooseIce$Reader", gk_y_114, prog_10_method_16_code)
def gk_y_115 : MethodName := ⟨"GooseIce$Tales", "<init>", "()V"⟩
def gk_N115 : rk_N := ("GooseIce$Tales", gk_y_115, prog_11_method_1_code)
def gk_y_116 : MethodName := ⟨"GooseIce$Tales", "clear", "()V"⟩
def gk_N116 : rk_N := ("GooseIce$Tales", gk_y_116, prog_11_method_2_code)
def gk_y_117 : MethodName := ⟨"GooseIce$Tales", "copyFrom", "(LGooseIce$Tales;)V"⟩
def gk_N117 : rk_N := ("GooseIce$Tales", gk_y_117, prog_11_method_3_code)
def gk_y_118 : MethodName := ⟨"GooseIce$TalesText", "<init>", "(LGooseIce$Reader;)V"⟩
def gk_N118 : rk_N := ("GooseIce$TalesText", gk_y_118, prog_12_method_1_code)
def gk_y_119 : MethodName := ⟨"GooseIce$TalesText", "parse", "(LGooseIce$Lake;LGooseIce$Tales;)V"⟩
def gk_N119 : rk_N := ("GooseIce$TalesText", gk_y_119, prog_12_method_2_code)
def gk_y_120 : MethodName := ⟨"GooseIce$TalesText", "readEnd", "(LGooseIce$Tales;)V"⟩
def gk_N120 : rk_N := ("GooseIce$TalesText", gk_y_120, prog_12_method_3_code)
def gk_y_121 : MethodName := ⟨"GooseIce$TalesText", "isStep", "(I)Z"⟩
def gk_N121 : rk_N := ("GooseIce$TalesText", gk_y_121, prog_12_method_4_code)
def gk_y_122 : MethodName := ⟨"GooseIce$TalesText", "readStep", "(LGooseIce$Lake;LGooseIce$Tales;)V"⟩
def gk_N122 : rk_N := ("GooseIce$TalesText", gk_y_122, prog_12_method_5_code)
def gk_y_123 : MethodName := ⟨"GooseIce$TalesText", "readRest", "(LGooseIce$Lake;LGooseIce$Tales;II)V"⟩
def gk_N123 : rk_N := ("GooseIce$TalesText", gk_y_123, prog_12_method_6_code)
def gk_y_124 : MethodName := ⟨"GooseIce$TalesText", "readTest", "(LGooseIce$Lake;LGooseIce$Tales;I)V"⟩
def gk_N124 : rk_N := ("GooseIce$TalesText", gk_y_124, prog_12_method_7_code)
def gk_y_125 : MethodName := ⟨"GooseIce$TalesText", "readCompares", "()I"⟩
def gk_N125 : rk_N := ("GooseIce$TalesText", gk_y_125, prog_12_method_8_code)
def gk_y_126 : MethodName := ⟨"GooseIce", "<init>", "()V"⟩
def gk_N126 : rk_N := ("GooseIce", gk_y_126, prog_1_method_1_code)
def gk_y_127 : MethodName := ⟨"GooseIce", "status", "()I"⟩
def gk_N127 : rk_N := ("GooseIce", gk_y_127, prog_1_method_2_code)
def gk_y_128 : MethodName := ⟨"GooseIce", "top", "()J"⟩
def gk_N128 : rk_N := ("GooseIce", gk_y_128, prog_1_method_3_code)
def gk_y_129 : MethodName := ⟨"GooseIce", "bottom", "()J"⟩
def gk_N129 : rk_N := ("GooseIce", gk_y_129, prog_1_method_4_code)
def gk_y_130 : MethodName := ⟨"GooseIce", "tray", "(III)Z"⟩
def gk_N130 : rk_N := ("GooseIce", gk_y_130, prog_1_method_5_code)
def gk_y_131 : MethodName := ⟨"GooseIce", "write", "(IIJ)Z"⟩
def gk_N131 : rk_N := ("GooseIce", gk_y_131, prog_1_method_6_code)
def gk_y_132 : MethodName := ⟨"GooseIce", "read", "(II)J"⟩
def gk_N132 : rk_N := ("GooseIce", gk_y_132, prog_1_method_7_code)
def gk_y_133 : MethodName := ⟨"GooseIce", "pour", "(IIIII)Z"⟩
def gk_N133 : rk_N := ("GooseIce", gk_y_133, prog_1_method_8_code)
def gk_y_134 : MethodName := ⟨"GooseIce", "feed", "(IIIII)I"⟩
def gk_N134 : rk_N := ("GooseIce", gk_y_134, prog_1_method_9_code)
def gk_y_135 : MethodName := ⟨"GooseIce", "lake", "(I)I"⟩
def gk_N135 : rk_N := ("GooseIce", gk_y_135, prog_1_method_10_code)
def gk_y_136 : MethodName := ⟨"GooseIce", "tales", "(I)I"⟩
def gk_N136 : rk_N := ("GooseIce", gk_y_136, prog_1_method_11_code)
def gk_y_137 : MethodName := ⟨"GooseIce", "fault", "(I)I"⟩
def gk_N137 : rk_N := ("GooseIce", gk_y_137, prog_1_method_12_code)
def gk_y_138 : MethodName := ⟨"GooseIce", "told", "(I)I"⟩
def gk_N138 : rk_N := ("GooseIce", gk_y_138, prog_1_method_13_code)
def gk_y_139 : MethodName := ⟨"GooseIce", "ice", "(II)I"⟩
def gk_N139 : rk_N := ("GooseIce", gk_y_139, prog_1_method_14_code)
def gk_y_140 : MethodName := ⟨"GooseIce", "walker", "(II)I"⟩
def gk_N140 : rk_N := ("GooseIce", gk_y_140, prog_1_method_15_code)
def gk_y_141 : MethodName := ⟨"GooseIce", "routeAt", "(II)I"⟩
def gk_N141 : rk_N := ("GooseIce", gk_y_141, prog_1_method_16_code)
def gk_y_142 : MethodName := ⟨"GooseIce", "way", "(II)I"⟩
def gk_N142 : rk_N := ("GooseIce", gk_y_142, prog_1_method_17_code)
def gk_y_143 : MethodName := ⟨"GooseIce", "beside", "(II)I"⟩
def gk_N143 : rk_N := ("GooseIce", gk_y_143, prog_1_method_18_code)
def gk_y_144 : MethodName := ⟨"GooseIce", "within", "(I)I"⟩
def gk_N144 : rk_N := ("GooseIce", gk_y_144, prog_1_method_19_code)
def gk_y_145 : MethodName := ⟨"GooseIce", "send", "(III)I"⟩
def gk_N145 : rk_N := ("GooseIce", gk_y_145, prog_1_method_20_code)
def gk_y_146 : MethodName := ⟨"GooseIce", "sendTo", "(II)I"⟩
def gk_N146 : rk_N := ("GooseIce", gk_y_146, prog_1_method_21_code)
def gk_y_147 : MethodName := ⟨"GooseIce", "halt", "(I)I"⟩
def gk_N147 : rk_N := ("GooseIce", gk_y_147, prog_1_method_22_code)
def gk_y_148 : MethodName := ⟨"GooseIce", "step", "(I)I"⟩
def gk_N148 : rk_N := ("GooseIce", gk_y_148, prog_1_method_23_code)
def gk_y_149 : MethodName := ⟨"GooseIce", "frost", "(I)I"⟩
def gk_N149 : rk_N := ("GooseIce", gk_y_149, prog_1_method_24_code)
def gk_y_150 : MethodName := ⟨"GooseIce", "thaw", "(I)I"⟩
def gk_N150 : rk_N := ("GooseIce", gk_y_150, prog_1_method_25_code)
def gk_y_151 : MethodName := ⟨"GooseIce", "rescue", "(I)I"⟩
def gk_N151 : rk_N := ("GooseIce", gk_y_151, prog_1_method_26_code)
def gk_y_152 : MethodName := ⟨"GooseIce", "melt", "(I)I"⟩
def gk_N152 : rk_N := ("GooseIce", gk_y_152, prog_1_method_27_code)
def gk_y_153 : MethodName := ⟨"GooseIce", "weigh", "(II)Z"⟩
def gk_N153 : rk_N := ("GooseIce", gk_y_153, prog_1_method_28_code)
def gk_y_154 : MethodName := ⟨"GooseIce", "hew", "(IIZ)Z"⟩
def gk_N154 : rk_N := ("GooseIce", gk_y_154, prog_1_method_29_code)
def gk_y_155 : MethodName := ⟨"GooseIce", "bears", "(II)I"⟩
def gk_N155 : rk_N := ("GooseIce", gk_y_155, prog_1_method_30_code)
def gk_y_156 : MethodName := ⟨"GooseIce", "margin", "(II)I"⟩
def gk_N156 : rk_N := ("GooseIce", gk_y_156, prog_1_method_31_code)
def gk_y_157 : MethodName := ⟨"GooseIce", "far", "(II)I"⟩
def gk_N157 : rk_N := ("GooseIce", gk_y_157, prog_1_method_32_code)
def gk_y_158 : MethodName := ⟨"GooseIce", "wayAt", "(III)I"⟩
def gk_N158 : rk_N := ("GooseIce", gk_y_158, prog_1_method_33_code)
def gk_y_159 : MethodName := ⟨"GooseIce", "surest", "(II)I"⟩
def gk_N159 : rk_N := ("GooseIce", gk_y_159, prog_1_method_34_code)
def gk_y_160 : MethodName := ⟨"GooseIce", "surestFar", "(II)I"⟩
def gk_N160 : rk_N := ("GooseIce", gk_y_160, prog_1_method_35_code)
def gk_y_161 : MethodName := ⟨"GooseIce", "surestAt", "(III)I"⟩
def gk_N161 : rk_N := ("GooseIce", gk_y_161, prog_1_method_36_code)
def gk_y_162 : MethodName := ⟨"GooseIce", "reach", "(I)I"⟩
def gk_N162 : rk_N := ("GooseIce", gk_y_162, prog_1_method_37_code)
def gk_y_163 : MethodName := ⟨"GooseIce", "cut", "(II)I"⟩
def gk_N163 : rk_N := ("GooseIce", gk_y_163, prog_1_method_38_code)
def gk_y_164 : MethodName := ⟨"GooseIce", "cutSet", "(II)I"⟩
def gk_N164 : rk_N := ("GooseIce", gk_y_164, prog_1_method_39_code)
def gk_y_165 : MethodName := ⟨"GooseIce", "heaviest", "(I)I"⟩
def gk_N165 : rk_N := ("GooseIce", gk_y_165, prog_1_method_40_code)
def gk_y_166 : MethodName := ⟨"GooseIce", "weakest", "()I"⟩
def gk_N166 : rk_N := ("GooseIce", gk_y_166, prog_1_method_41_code)
def gk_y_167 : MethodName := ⟨"GooseIce", "tooHeavy", "(I)I"⟩
def gk_N167 : rk_N := ("GooseIce", gk_y_167, prog_1_method_42_code)
def gk_y_168 : MethodName := ⟨"GooseIce", "ready", "(II)I"⟩
def gk_N168 : rk_N := ("GooseIce", gk_y_168, prog_1_method_43_code)
def gk_y_169 : MethodName := ⟨"GooseIce", "queue", "(III)I"⟩
def gk_N169 : rk_N := ("GooseIce", gk_y_169, prog_1_method_44_code)
def gk_y_170 : MethodName := ⟨"GooseIce", "queueAt", "(II)I"⟩
def gk_N170 : rk_N := ("GooseIce", gk_y_170, prog_1_method_45_code)
def gk_y_171 : MethodName := ⟨"GooseIce", "holds", "()I"⟩
def gk_N171 : rk_N := ("GooseIce", gk_y_171, prog_1_method_46_code)
def gk_y_172 : MethodName := ⟨"GooseIce", "halves", "(I)I"⟩
def gk_N172 : rk_N := ("GooseIce", gk_y_172, prog_1_method_47_code)
def gk_y_173 : MethodName := ⟨"GooseIce", "half", "(I)I"⟩
def gk_N173 : rk_N := ("GooseIce", gk_y_173, prog_1_method_48_code)
def gk_y_174 : MethodName := ⟨"GooseIce", "groups", "(II)I"⟩
def gk_N174 : rk_N := ("GooseIce", gk_y_174, prog_1_method_49_code)
def gk_y_175 : MethodName := ⟨"GooseIce", "trials", "(II)I"⟩
def gk_N175 : rk_N := ("GooseIce", gk_y_175, prog_1_method_50_code)
def gk_y_176 : MethodName := ⟨"GooseIce", "tryFirst", "(II)I"⟩
def gk_N176 : rk_N := ("GooseIce", gk_y_176, prog_1_method_51_code)
def gk_y_177 : MethodName := ⟨"GooseIce", "suspects", "(I)I"⟩
def gk_N177 : rk_N := ("GooseIce", gk_y_177, prog_1_method_52_code)
def gk_y_178 : MethodName := ⟨"GooseIce", "odds", "(IIIII)Z"⟩
def gk_N178 : rk_N := ("GooseIce", gk_y_178, prog_1_method_53_code)
def gk_y_179 : MethodName := ⟨"GooseIce", "bestDay", "(IIIII)I"⟩
def gk_N179 : rk_N := ("GooseIce", gk_y_179, prog_1_method_54_code)
def gk_y_180 : MethodName := ⟨"GooseIce", "meanIn", "(IIII)Z"⟩
def gk_N180 : rk_N := ("GooseIce", gk_y_180, prog_1_method_55_code)
def gk_y_181 : MethodName := ⟨"GooseIce", "live", "(I)I"⟩
def gk_N181 : rk_N := ("GooseIce", gk_y_181, prog_1_method_56_code)
def gk_y_182 : MethodName := ⟨"GooseIce", "lived", "(I)I"⟩
def gk_N182 : rk_N := ("GooseIce", gk_y_182, prog_1_method_57_code)
def gk_y_183 : MethodName := ⟨"GooseIce", "mean", "(II)Z"⟩
def gk_N183 : rk_N := ("GooseIce", gk_y_183, prog_1_method_58_code)
def gk_y_184 : MethodName := ⟨"GooseIce", "mark", "()I"⟩
def gk_N184 : rk_N := ("GooseIce", gk_y_184, prog_1_method_59_code)
def gk_y_185 : MethodName := ⟨"GooseIce", "undo", "()I"⟩
def gk_N185 : rk_N := ("GooseIce", gk_y_185, prog_1_method_60_code)
def gk_y_186 : MethodName := ⟨"GooseIce", "answer", "(I)I"⟩
def gk_N186 : rk_N := ("GooseIce", gk_y_186, prog_1_method_61_code)
def gk_y_187 : MethodName := ⟨"GooseIce", "refuse", "(I)I"⟩
def gk_N187 : rk_N := ("GooseIce", gk_y_187, prog_1_method_62_code)
def gk_y_188 : MethodName := ⟨"GooseIce", "agree", "()Z"⟩
def gk_N188 : rk_N := ("GooseIce", gk_y_188, prog_1_method_63_code)
def gk_y_189 : MethodName := ⟨"GooseIce", "deny", "(I)Z"⟩
def gk_N189 : rk_N := ("GooseIce", gk_y_189, prog_1_method_64_code)
def gk_y_190 : MethodName := ⟨"GooseIce", "tell", "(JJ)V"⟩
def gk_N190 : rk_N := ("GooseIce", gk_y_190, prog_1_method_65_code)
def gk_y_191 : MethodName := ⟨"GooseIce", "isTray", "(I)Z"⟩
def gk_N191 : rk_N := ("GooseIce", gk_y_191, prog_1_method_66_code)
def gk_y_192 : MethodName := ⟨"GooseIce", "placeTrouble", "(II)I"⟩
def gk_N192 : rk_N := ("GooseIce", gk_y_192, prog_1_method_67_code)
def gk_y_193 : MethodName := ⟨"GooseIce", "cutTo", "(IJ)J"⟩
def gk_N193 : rk_N := ("GooseIce", gk_y_193, prog_1_method_68_code)
def gk_y_194 : MethodName := ⟨"GooseIce", "takePath", "(II)I"⟩
def gk_N194 : rk_N := ("GooseIce", gk_y_194, prog_1_method_69_code)
def gk_y_195 : MethodName := ⟨"GooseIce", "findWay", "(II)Z"⟩
def gk_N195 : rk_N := ("GooseIce", gk_y_195, prog_1_method_70_code)
def gk_y_196 : MethodName := ⟨"GooseIce", "isElsewhere", "(II)Z"⟩
def gk_N196 : rk_N := ("GooseIce", gk_y_196, prog_1_method_71_code)
def gk_y_197 : MethodName := ⟨"GooseIce", "canTry", "(II)Z"⟩
def gk_N197 : rk_N := ("GooseIce", gk_y_197, prog_1_method_72_code)
def gk_y_198 : MethodName := ⟨"GooseIce", "fewestTrials", "(II)I"⟩
def gk_N198 : rk_N := ("GooseIce", gk_y_198, prog_1_method_73_code)
def gk_y_199 : MethodName := ⟨"GooseIce", "toldApart", "(II)J"⟩
def gk_N199 : rk_N := ("GooseIce", gk_y_199, prog_1_method_74_code)
def gk_y_200 : MethodName := ⟨"GooseIce", "firstOf", "(I)I"⟩
def gk_N200 : rk_N := ("GooseIce", gk_y_200, prog_1_method_75_code)
def gk_y_201 : MethodName := ⟨"GooseIceModel", "<init>", "()V"⟩
def gk_N201 : rk_N := ("GooseIceModel", gk_y_201, prog_14_method_1_code)
def gk_y_202 : MethodName := ⟨"GooseIceModel", "plain", "(I)V"⟩
def gk_N202 : rk_N := ("GooseIceModel", gk_y_202, prog_14_method_2_code)
def gk_y_203 : MethodName := ⟨"GooseIceModel", "status", "()I"⟩
def gk_N203 : rk_N := ("GooseIceModel", gk_y_203, prog_14_method_3_code)
def gk_y_204 : MethodName := ⟨"GooseIceModel", "top", "()J"⟩
def gk_N204 : rk_N := ("GooseIceModel", gk_y_204, prog_14_method_4_code)
def gk_y_205 : MethodName := ⟨"GooseIceModel", "bottom", "()J"⟩
def gk_N205 : rk_N := ("GooseIceModel", gk_y_205, prog_14_method_5_code)
def gk_y_206 : MethodName := ⟨"GooseIceModel", "is", "(I)Z"⟩
def gk_N206 : rk_N := ("GooseIceModel", gk_y_206, prog_14_method_6_code)
def gk_y_207 : MethodName := ⟨"GooseIceModel", "refuse", "(I)I"⟩
def gk_N207 : rk_N := ("GooseIceModel", gk_y_207, prog_14_method_7_code)
def gk_y_208 : MethodName := ⟨"GooseIceModel", "gives", "(I)I"⟩
def gk_N208 : rk_N := ("GooseIceModel", gk_y_208, prog_14_method_8_code)
def gk_y_209 : MethodName := ⟨"GooseIceModel", "orNone", "(I)I"⟩
def gk_N209 : rk_N := ("GooseIceModel", gk_y_209, prog_14_method_9_code)
def gk_y_210 : MethodName := ⟨"GooseIceModel", "tellsBy", "(JJ)Z"⟩
def gk_N210 : rk_N := ("GooseIceModel", gk_y_210, prog_14_method_10_code)
def gk_y_211 : MethodName := ⟨"GooseIceModel", "isTray", "(I)Z"⟩
def gk_N211 : rk_N := ("GooseIceModel", gk_y_211, prog_14_method_11_code)
def gk_y_212 : MethodName := ⟨"GooseIceModel", "narrowed", "(JI)J"⟩
def gk_N212 : rk_N := ("GooseIceModel", gk_y_212, prog_14_method_12_code)
def gk_y_213 : MethodName := ⟨"GooseIceModel", "tray", "(III)Z"⟩
def gk_N213 : rk_N := ("GooseIceModel", gk_y_213, prog_14_method_13_code)
def gk_y_214 : MethodName := ⟨"GooseIceModel", "wrongPlace", "(II)I"⟩
def gk_N214 : rk_N := ("GooseIceModel", gk_y_214, prog_14_method_14_code)
def gk_y_215 : MethodName := ⟨"GooseIceModel", "write", "(IIJ)Z"⟩
def gk_N215 : rk_N := ("GooseIceModel", gk_y_215, prog_14_method_15_code)
def gk_y_216 : MethodName := ⟨"GooseIceModel", "read", "(II)J"⟩
def gk_N216 : rk_N := ("GooseIceModel", gk_y_216, prog_14_method_16_code)
def gk_y_217 : MethodName := ⟨"GooseIceModel", "pour", "(IIIII)Z"⟩
def gk_N217 : rk_N := ("GooseIceModel", gk_y_217, prog_14_method_17_code)
def gk_y_218 : MethodName := ⟨"GooseIceModel", "isFrom", "(JJJ)Z"⟩
def gk_N218 : rk_N := ("GooseIceModel", gk_y_218, prog_14_method_18_code)
def gk_y_219 : MethodName := ⟨"GooseIceModel", "feed", "(IIIII)I"⟩
def gk_N219 : rk_N := ("GooseIceModel", gk_y_219, prog_14_method_19_code)
def gk_y_220 : MethodName := ⟨"GooseIceModel", "four", "(I)V"⟩
def gk_N220 : rk_N := ("GooseIceModel", gk_y_220, prog_14_method_20_code)
def gk_y_221 : MethodName := ⟨"GooseIceModel", "byteAt", "(I)I"⟩
def gk_N221 : rk_N := ("GooseIceModel", gk_y_221, prog_14_method_21_code)
def gk_y_222 : MethodName := ⟨"GooseIceModel", "isSmall", "(I)Z"⟩
def gk_N222 : rk_N := ("GooseIceModel", gk_y_222, prog_14_method_22_code)
def gk_y_223 : MethodName := ⟨"GooseIceModel", "isDigit", "(I)Z"⟩
def gk_N223 : rk_N := ("GooseIceModel", gk_y_223, prog_14_method_23_code)
def gk_y_224 : MethodName := ⟨"GooseIceModel", "ahead", "()V"⟩
def gk_N224 : rk_N := ("GooseIceModel", gk_y_224, prog_14_method_24_code)
def gk_y_225 : MethodName := ⟨"GooseIceModel", "isSign", "(I)Z"⟩
def gk_N225 : rk_N := ("GooseIceModel", gk_y_225, prog_14_method_25_code)
def gk_y_226 : MethodName := ⟨"GooseIceModel", "inWords", "(Ljava/lang/String;)I"⟩
def gk_N226 : rk_N := ("GooseIceModel", gk_y_226, prog_14_method_26_code)
def gk_y_227 : MethodName := ⟨"GooseIceModel", "fails", "(I)Z"⟩
def gk_N227 : rk_N := ("GooseIceModel", gk_y_227, prog_14_method_27_code)
def gk_y_228 : MethodName := ⟨"GooseIceModel", "begins", "(II)Z"⟩
def gk_N228 : rk_N := ("GooseIceModel", gk_y_228, prog_14_method_28_code)
def gk_y_229 : MethodName := ⟨"GooseIceModel", "wantSign", "(I)Z"⟩
def gk_N229 : rk_N := ("GooseIceModel", gk_y_229, prog_14_method_29_code)
def gk_y_230 : MethodName := ⟨"GooseIceModel", "wantWord", "(Ljava/lang/String;I)Z"⟩
def gk_N230 : rk_N := ("GooseIceModel", gk_y_230, prog_14_method_30_code)
def gk_y_231 : MethodName := ⟨"GooseIceModel", "number", "(III)Z"⟩
def gk_N231 : rk_N := ("GooseIceModel", gk_y_231, prog_14_method_31_code)
def gk_y_232 : MethodName := ⟨"GooseIceModel", "isName", "(Ljava/lang/String;)Z"⟩
def gk_N232 : rk_N := ("GooseIceModel", gk_y_232, prog_14_method_32_code)
def gk_y_233 : MethodName := ⟨"GooseIceModel", "nameHere", "()J"⟩
def gk_N233 : rk_N := ("GooseIceModel", gk_y_233, prog_14_method_33_code)
def gk_y_234 : MethodName := ⟨"GooseIceModel", "findHere", "(II)I"⟩
def gk_N234 : rk_N := ("GooseIceModel", gk_y_234, prog_14_method_34_code)
def gk_y_235 : MethodName := ⟨"GooseIceModel", "fault", "(I)I"⟩
def gk_N235 : rk_N := ("GooseIceModel", gk_y_235, prog_14_method_35_code)
def gk_y_236 : MethodName := ⟨"GooseIceModel", "taken", "(I)I"⟩
def gk_N236 : rk_N := ("GooseIceModel", gk_y_236, prog_14_method_36_code)
def gk_y_237 : MethodName := ⟨"GooseIceModel", "newOne", "(III)Z"⟩
def gk_N237 : rk_N := ("GooseIceModel", gk_y_237, prog_14_method_37_code)
def gk_y_238 : MethodName := ⟨"GooseIceModel", "oldOne", "(III)Z"⟩
def gk_N238 : rk_N := ("GooseIceModel", gk_y_238, prog_14_method_38_code)
def gk_y_239 : MethodName := ⟨"GooseIceModel", "aCell", "(Z)Z"⟩
def gk_N239 : rk_N := ("GooseIceModel", gk_y_239, prog_14_method_39_code)
def gk_y_240 : MethodName := ⟨"GooseIceModel", "cellHere", "()I"⟩
def gk_N240 : rk_N := ("GooseIceModel", gk_y_240, prog_14_method_40_code)
def gk_y_241 : MethodName := ⟨"GooseIceModel", "isNewShore", "(I)Z"⟩
def gk_N241 : rk_N := ("GooseIceModel", gk_y_241, prog_14_method_41_code)
def gk_y_242 : MethodName := ⟨"GooseIceModel", "aCouple", "(I)Z"⟩
def gk_N242 : rk_N := ("GooseIceModel", gk_y_242, prog_14_method_42_code)
def gk_y_243 : MethodName := ⟨"GooseIceModel", "aWalker", "()Z"⟩
def gk_N243 : rk_N := ("GooseIceModel", gk_y_243, prog_14_method_43_code)
def gk_y_244 : MethodName := ⟨"GooseIceModel", "once", "(I)Z"⟩
def gk_N244 : rk_N := ("GooseIceModel", gk_y_244, prog_14_method_44_code)
def gk_y_245 : MethodName := ⟨"GooseIceModel", "lakePart", "()Z"⟩
def gk_N245 : rk_N := ("GooseIceModel", gk_y_245, prog_14_method_45_code)
def gk_y_246 : MethodName := ⟨"GooseIceModel", "lake", "(I)I"⟩
def gk_N246 : rk_N := ("GooseIceModel", gk_y_246, prog_14_method_46_code)
def gk_y_247 : MethodName := ⟨"GooseIceModel", "cellTo", "(I)Z"⟩
def gk_N247 : rk_N := ("GooseIceModel", gk_y_247, prog_14_method_47_code)
def gk_y_248 : MethodName := ⟨"GooseIceModel", "walkerTo", "(I)Z"⟩
def gk_N248 : rk_N := ("GooseIceModel", gk_y_248, prog_14_method_48_code)
def gk_y_249 : MethodName := ⟨"GooseIceModel", "test", "(I)Z"⟩
def gk_N249 : rk_N := ("GooseIceModel", gk_y_249, prog_14_method_49_code)
def gk_y_250 : MethodName := ⟨"GooseIceModel", "taleOrder", "(II)Z"⟩
def gk_N250 : rk_N := ("GooseIceModel", gk_y_250, prog_14_method_50_code)
def gk_y_251 : MethodName := ⟨"GooseIceModel", "taleStep", "()Z"⟩
def gk_N251 : rk_N := ("GooseIceModel", gk_y_251, prog_14_method_51_code)
def gk_y_252 : MethodName := ⟨"GooseIceModel", "tales", "(I)I"⟩
def gk_N252 : rk_N := ("GooseIceModel", gk_y_252, prog_14_method_52_code)
def gk_y_253 : MethodName := ⟨"GooseIceModel", "cellRow", "(I)I"⟩
def gk_N253 : rk_N := ("GooseIceModel", gk_y_253, prog_14_method_53_code)
def gk_y_254 : MethodName := ⟨"GooseIceModel", "walkerRow", "(I)I"⟩
def gk_N254 : rk_N := ("GooseIceModel", gk_y_254, prog_14_method_54_code)
def gk_y_255 : MethodName := ⟨"GooseIceModel", "isCell", "(J)Z"⟩
def gk_N255 : rk_N := ("GooseIceModel", gk_y_255, prog_14_method_55_code)
def gk_y_256 : MethodName := ⟨"GooseIceModel", "isShore", "(I)Z"⟩
def gk_N256 : rk_N := ("GooseIceModel", gk_y_256, prog_14_method_56_code)
def gk_y_257 : MethodName := ⟨"GooseIceModel", "isIce", "(I)Z"⟩
def gk_N257 : rk_N := ("GooseIceModel", gk_y_257, prog_14_method_57_code)
def gk_y_258 : MethodName := ⟨"GooseIceModel", "isWalker", "(I)Z"⟩
def gk_N258 : rk_N := ("GooseIceModel", gk_y_258, prog_14_method_58_code)
def gk_y_259 : MethodName := ⟨"GooseIceModel", "areBoth", "(II)Z"⟩
def gk_N259 : rk_N := ("GooseIceModel", gk_y_259, prog_14_method_59_code)
def gk_y_260 : MethodName := ⟨"GooseIceModel", "isIn", "(II)Z"⟩
def gk_N260 : rk_N := ("GooseIceModel", gk_y_260, prog_14_method_60_code)
def gk_y_261 : MethodName := ⟨"GooseIceModel", "bits", "(I)I"⟩
def gk_N261 : rk_N := ("GooseIceModel", gk_y_261, prog_14_method_61_code)
def gk_y_262 : MethodName := ⟨"GooseIceModel", "isWay", "(II)Z"⟩
def gk_N262 : rk_N := ("GooseIceModel", gk_y_262, prog_14_method_62_code)
def gk_y_263 : MethodName := ⟨"GooseIceModel", "isBroken", "(I)Z"⟩
def gk_N263 : rk_N := ("GooseIceModel", gk_y_263, prog_14_method_63_code)
def gk_y_264 : MethodName := ⟨"GooseIceModel", "weightOf", "(I)I"⟩
def gk_N264 : rk_N := ("GooseIceModel", gk_y_264, prog_14_method_64_code)
def gk_y_265 : MethodName := ⟨"GooseIceModel", "whereOf", "(I)I"⟩
def gk_N265 : rk_N := ("GooseIceModel", gk_y_265, prog_14_method_65_code)
def gk_y_266 : MethodName := ⟨"GooseIceModel", "isWet", "(I)Z"⟩
def gk_N266 : rk_N := ("GooseIceModel", gk_y_266, prog_14_method_66_code)
def gk_y_267 : MethodName := ⟨"GooseIceModel", "leftOf", "(I)I"⟩
def gk_N267 : rk_N := ("GooseIceModel", gk_y_267, prog_14_method_67_code)
def gk_y_268 : MethodName := ⟨"GooseIceModel", "routeOf", "(II)I"⟩
def gk_N268 : rk_N := ("GooseIceModel", gk_y_268, prog_14_method_68_code)
def gk_y_269 : MethodName := ⟨"GooseIceModel", "cameAgo", "(II)I"⟩
def gk_N269 : rk_N := ("GooseIceModel", gk_y_269, prog_14_method_69_code)
def gk_y_270 : MethodName := ⟨"GooseIceModel", "cameLately", "(I)I"⟩
def gk_N270 : rk_N := ("GooseIceModel", gk_y_270, prog_14_method_70_code)
def gk_y_271 : MethodName := ⟨"GooseIceModel", "strengthOf", "(I)I"⟩
def gk_N271 : rk_N := ("GooseIceModel", gk_y_271, prog_14_method_71_code)
def gk_y_272 : MethodName := ⟨"GooseIceModel", "loadBut", "(II)I"⟩
def gk_N272 : rk_N := ("GooseIceModel", gk_y_272, prog_14_method_72_code)
def gk_y_273 : MethodName := ⟨"GooseIceModel", "setOf", "(I)I"⟩
def gk_N273 : rk_N := ("GooseIceModel", gk_y_273, prog_14_method_73_code)
def gk_y_274 : MethodName := ⟨"GooseIceModel", "told", "(I)I"⟩
def gk_N274 : rk_N := ("GooseIceModel", gk_y_274, prog_14_method_74_code)
def gk_y_275 : MethodName := ⟨"GooseIceModel", "ice", "(II)I"⟩
def gk_N275 : rk_N := ("GooseIceModel", gk_y_275, prog_14_method_75_code)
def gk_y_276 : MethodName := ⟨"GooseIceModel", "walker", "(II)I"⟩
def gk_N276 : rk_N := ("GooseIceModel", gk_y_276, prog_14_method_76_code)
def gk_y_277 : MethodName := ⟨"GooseIceModel", "routeAt", "(II)I"⟩
def gk_N277 : rk_N := ("GooseIceModel", gk_y_277, prog_14_method_77_code)
def gk_y_278 : MethodName := ⟨"GooseIceModel", "areTwo", "(II)Z"⟩
def gk_N278 : rk_N := ("GooseIceModel", gk_y_278, prog_14_method_78_code)
def gk_y_279 : MethodName := ⟨"GooseIceModel", "way", "(II)I"⟩
def gk_N279 : rk_N := ("GooseIceModel", gk_y_279, prog_14_method_79_code)
def gk_y_280 : MethodName := ⟨"GooseIceModel", "beside", "(II)I"⟩
def gk_N280 : rk_N := ("GooseIceModel", gk_y_280, prog_14_method_80_code)
def gk_y_281 : MethodName := ⟨"GooseIceModel", "within", "(I)I"⟩
def gk_N281 : rk_N := ("GooseIceModel", gk_y_281, prog_14_method_81_code)
def gk_y_282 : MethodName := ⟨"GooseIceModel", "breaks", "(I)V"⟩
def gk_N282 : rk_N := ("GooseIceModel", gk_y_282, prog_14_method_82_code)
def gk_y_283 : MethodName := ⟨"GooseIceModel", "soaks", "(I)V"⟩
def gk_N283 : rk_N := ("GooseIceModel", gk_y_283, prog_14_method_83_code)
def gk_y_284 : MethodName := ⟨"GooseIceModel", "walks", "(I)V"⟩
def gk_N284 : rk_N := ("GooseIceModel", gk_y_284, prog_14_method_84_code)
def gk_y_285 : MethodName := ⟨"GooseIceModel", "goes", "()I"⟩
def gk_N285 : rk_N := ("GooseIceModel", gk_y_285, prog_14_method_85_code)
def gk_y_286 : MethodName := ⟨"GooseIceModel", "isRoute", "(III)Z"⟩
def gk_N286 : rk_N := ("GooseIceModel", gk_y_286, prog_14_method_86_code)
def gk_y_287 : MethodName := ⟨"GooseIceModel", "wrongTray", "(III)I"⟩
def gk_N287 : rk_N := ("GooseIceModel", gk_y_287, prog_14_method_87_code)
def gk_y_288 : MethodName := ⟨"GooseIceModel", "sets", "(III)V"⟩
def gk_N288 : rk_N := ("GooseIceModel", gk_y_288, prog_14_method_88_code)
def gk_y_289 : MethodName := ⟨"GooseIceModel", "send", "(III)I"⟩
def gk_N289 : rk_N := ("GooseIceModel", gk_y_289, prog_14_method_89_code)
def gk_y_290 : MethodName := ⟨"GooseIceModel", "sends", "(II)I"⟩
def gk_N290 : rk_N := ("GooseIceModel", gk_y_290, prog_14_method_90_code)
def gk_y_291 : MethodName := ⟨"GooseIceModel", "sendTo", "(II)I"⟩
def gk_N291 : rk_N := ("GooseIceModel", gk_y_291, prog_14_method_91_code)
def gk_y_292 : MethodName := ⟨"GooseIceModel", "halt", "(I)I"⟩
def gk_N292 : rk_N := ("GooseIceModel", gk_y_292, prog_14_method_92_code)
def gk_y_293 : MethodName := ⟨"GooseIceModel", "step", "(I)I"⟩
def gk_N293 : rk_N := ("GooseIceModel", gk_y_293, prog_14_method_93_code)
def gk_y_294 : MethodName := ⟨"GooseIceModel", "freezes", "(I)I"⟩
def gk_N294 : rk_N := ("GooseIceModel", gk_y_294, prog_14_method_94_code)
def gk_y_295 : MethodName := ⟨"GooseIceModel", "thaws", "(I)I"⟩
def gk_N295 : rk_N := ("GooseIceModel", gk_y_295, prog_14_method_95_code)
def gk_y_296 : MethodName := ⟨"GooseIceModel", "frost", "(I)I"⟩
def gk_N296 : rk_N := ("GooseIceModel", gk_y_296, prog_14_method_96_code)
def gk_y_297 : MethodName := ⟨"GooseIceModel", "thaw", "(I)I"⟩
def gk_N297 : rk_N := ("GooseIceModel", gk_y_297, prog_14_method_97_code)
def gk_y_298 : MethodName := ⟨"GooseIceModel", "rescue", "(I)I"⟩
def gk_N298 : rk_N := ("GooseIceModel", gk_y_298, prog_14_method_98_code)
def gk_y_299 : MethodName := ⟨"GooseIceModel", "melt", "(I)I"⟩
def gk_N299 : rk_N := ("GooseIceModel", gk_y_299, prog_14_method_99_code)
def gk_y_300 : MethodName := ⟨"GooseIceModel", "weigh", "(II)Z"⟩
def gk_N300 : rk_N := ("GooseIceModel", gk_y_300, prog_14_method_100_code)
def gk_y_301 : MethodName := ⟨"GooseIceModel", "hew", "(IIZ)Z"⟩
def gk_N301 : rk_N := ("GooseIceModel", gk_y_301, prog_14_method_101_code)
def gk_y_302 : MethodName := ⟨"GooseIceModel", "marginOf", "(II)I"⟩
def gk_N302 : rk_N := ("GooseIceModel", gk_y_302, prog_14_method_102_code)
def gk_y_303 : MethodName := ⟨"GooseIceModel", "doesBear", "(II)Z"⟩
def gk_N303 : rk_N := ("GooseIceModel", gk_y_303, prog_14_method_103_code)
def gk_y_304 : MethodName := ⟨"GooseIceModel", "bearers", "(I)I"⟩
def gk_N304 : rk_N := ("GooseIceModel", gk_y_304, prog_14_method_104_code)
def gk_y_305 : MethodName := ⟨"GooseIceModel", "laysFar", "(III)I"⟩
def gk_N305 : rk_N := ("GooseIceModel", gk_y_305, prog_14_method_105_code)
def gk_y_306 : MethodName := ⟨"GooseIceModel", "nextOn", "(I)I"⟩
def gk_N306 : rk_N := ("GooseIceModel", gk_y_306, prog_14_method_106_code)
def gk_y_307 : MethodName := ⟨"GooseIceModel", "onWay", "(II)I"⟩
def gk_N307 : rk_N := ("GooseIceModel", gk_y_307, prog_14_method_107_code)
def gk_y_308 : MethodName := ⟨"GooseIceModel", "bears", "(II)I"⟩
def gk_N308 : rk_N := ("GooseIceModel", gk_y_308, prog_14_method_108_code)
def gk_y_309 : MethodName := ⟨"GooseIceModel", "margin", "(II)I"⟩
def gk_N309 : rk_N := ("GooseIceModel", gk_y_309, prog_14_method_109_code)
def gk_y_310 : MethodName := ⟨"GooseIceModel", "far", "(II)I"⟩
def gk_N310 : rk_N := ("GooseIceModel", gk_y_310, prog_14_method_110_code)
def gk_y_311 : MethodName := ⟨"GooseIceModel", "wayAt", "(III)I"⟩
def gk_N311 : rk_N := ("GooseIceModel", gk_y_311, prog_14_method_111_code)
def gk_y_312 : MethodName := ⟨"GooseIceModel", "laysSurest", "(II)Z"⟩
def gk_N312 : rk_N := ("GooseIceModel", gk_y_312, prog_14_method_112_code)
def gk_y_313 : MethodName := ⟨"GooseIceModel", "above", "(II)I"⟩
def gk_N313 : rk_N := ("GooseIceModel", gk_y_313, prog_14_method_113_code)
def gk_y_314 : MethodName := ⟨"GooseIceModel", "isAway", "(II)Z"⟩
def gk_N314 : rk_N := ("GooseIceModel", gk_y_314, prog_14_method_114_code)
def gk_y_315 : MethodName := ⟨"GooseIceModel", "surest", "(II)I"⟩
def gk_N315 : rk_N := ("GooseIceModel", gk_y_315, prog_14_method_115_code)
def gk_y_316 : MethodName := ⟨"GooseIceModel", "surestFar", "(II)I"⟩
def gk_N316 : rk_N := ("GooseIceModel", gk_y_316, prog_14_method_116_code)
def gk_y_317 : MethodName := ⟨"GooseIceModel", "surestAt", "(III)I"⟩
def gk_N317 : rk_N := ("GooseIceModel", gk_y_317, prog_14_method_117_code)
def gk_y_318 : MethodName := ⟨"GooseIceModel", "reach", "(I)I"⟩
def gk_N318 : rk_N := ("GooseIceModel", gk_y_318, prog_14_method_118_code)
def gk_y_319 : MethodName := ⟨"GooseIceModel", "cutOf", "(II)I"⟩
def gk_N319 : rk_N := ("GooseIceModel", gk_y_319, prog_14_method_119_code)
def gk_y_320 : MethodName := ⟨"GooseIceModel", "cut", "(II)I"⟩
def gk_N320 : rk_N := ("GooseIceModel", gk_y_320, prog_14_method_120_code)
def gk_y_321 : MethodName := ⟨"GooseIceModel", "cutSet", "(II)I"⟩
def gk_N321 : rk_N := ("GooseIceModel", gk_y_321, prog_14_method_121_code)
def gk_y_322 : MethodName := ⟨"GooseIceModel", "heaviest", "(I)I"⟩
def gk_N322 : rk_N := ("GooseIceModel", gk_y_322, prog_14_method_122_code)
def gk_y_323 : MethodName := ⟨"GooseIceModel", "weakest", "()I"⟩
def gk_N323 : rk_N := ("GooseIceModel", gk_y_323, prog_14_method_123_code)
def gk_y_324 : MethodName := ⟨"GooseIceModel", "tooHeavy", "(I)I"⟩
def gk_N324 : rk_N := ("GooseIceModel", gk_y_324, prog_14_method_124_code)
def gk_y_325 : MethodName := ⟨"GooseIceModel", "keeps", "(I)V"⟩
def gk_N325 : rk_N := ("GooseIceModel", gk_y_325, prog_14_method_125_code)
def gk_y_326 : MethodName := ⟨"GooseIceModel", "restores", "(I)V"⟩
def gk_N326 : rk_N := ("GooseIceModel", gk_y_326, prog_14_method_126_code)
def gk_y_327 : MethodName := ⟨"GooseIceModel", "stills", "()V"⟩
def gk_N327 : rk_N := ("GooseIceModel", gk_y_327, prog_14_method_127_code)
def gk_y_328 : MethodName := ⟨"GooseIceModel", "ready", "(II)I"⟩
def gk_N328 : rk_N := ("GooseIceModel", gk_y_328, prog_14_method_128_code)
def gk_y_329 : MethodName := ⟨"GooseIceModel", "queued", "(III)I"⟩
def gk_N329 : rk_N := ("GooseIceModel", gk_y_329, prog_14_method_129_code)
def gk_y_330 : MethodName := ⟨"GooseIceModel", "gapsOn", "(I)Z"⟩
def gk_N330 : rk_N := ("GooseIceModel", gk_y_330, prog_14_method_130_code)
def gk_y_331 : MethodName := ⟨"GooseIceModel", "turnsOn", "(I)Z"⟩
def gk_N331 : rk_N := ("GooseIceModel", gk_y_331, prog_14_method_131_code)
def gk_y_332 : MethodName := ⟨"GooseIceModel", "swaps", "(II)V"⟩
def gk_N332 : rk_N := ("GooseIceModel", gk_y_332, prog_14_method_132_code)
def gk_y_333 : MethodName := ⟨"GooseIceModel", "wrongQueue", "(III)I"⟩
def gk_N333 : rk_N := ("GooseIceModel", gk_y_333, prog_14_method_133_code)
def gk_y_334 : MethodName := ⟨"GooseIceModel", "queue", "(III)I"⟩
def gk_N334 : rk_N := ("GooseIceModel", gk_y_334, prog_14_method_134_code)
def gk_y_335 : MethodName := ⟨"GooseIceModel", "queueAt", "(II)I"⟩
def gk_N335 : rk_N := ("GooseIceModel", gk_y_335, prog_14_method_135_code)
def gk_y_336 : MethodName := ⟨"GooseIceModel", "holds", "()I"⟩
def gk_N336 : rk_N := ("GooseIceModel", gk_y_336, prog_14_method_136_code)
def gk_y_337 : MethodName := ⟨"GooseIceModel", "weightOfAll", "(I)I"⟩
def gk_N337 : rk_N := ("GooseIceModel", gk_y_337, prog_14_method_137_code)
def gk_y_338 : MethodName := ⟨"GooseIceModel", "isGroup", "(I)Z"⟩
def gk_N338 : rk_N := ("GooseIceModel", gk_y_338, prog_14_method_138_code)
def gk_y_339 : MethodName := ⟨"GooseIceModel", "apart", "(II)I"⟩
def gk_N339 : rk_N := ("GooseIceModel", gk_y_339, prog_14_method_139_code)
def gk_y_340 : MethodName := ⟨"GooseIceModel", "halfOf", "(I)I"⟩
def gk_N340 : rk_N := ("GooseIceModel", gk_y_340, prog_14_method_140_code)
def gk_y_341 : MethodName := ⟨"GooseIceModel", "halves", "(I)I"⟩
def gk_N341 : rk_N := ("GooseIceModel", gk_y_341, prog_14_method_141_code)
def gk_y_342 : MethodName := ⟨"GooseIceModel", "half", "(I)I"⟩
def gk_N342 : rk_N := ("GooseIceModel", gk_y_342, prog_14_method_142_code)
def gk_y_343 : MethodName := ⟨"GooseIceModel", "groups", "(II)I"⟩
def gk_N343 : rk_N := ("GooseIceModel", gk_y_343, prog_14_method_143_code)
def gk_y_344 : MethodName := ⟨"GooseIceModel", "trialsOf", "(II)I"⟩
def gk_N344 : rk_N := ("GooseIceModel", gk_y_344, prog_14_method_144_code)
def gk_y_345 : MethodName := ⟨"GooseIceModel", "triedAt", "(III)I"⟩
def gk_N345 : rk_N := ("GooseIceModel", gk_y_345, prog_14_method_145_code)
def gk_y_346 : MethodName := ⟨"GooseIceModel", "isTrial", "(II)Z"⟩
def gk_N346 : rk_N := ("GooseIceModel", gk_y_346, prog_14_method_146_code)
def gk_y_347 : MethodName := ⟨"GooseIceModel", "trials", "(II)I"⟩
def gk_N347 : rk_N := ("GooseIceModel", gk_y_347, prog_14_method_147_code)
def gk_y_348 : MethodName := ⟨"GooseIceModel", "tryFirst", "(II)I"⟩
def gk_N348 : rk_N := ("GooseIceModel", gk_y_348, prog_14_method_148_code)
def gk_y_349 : MethodName := ⟨"GooseIceModel", "isSuspect", "(II)Z"⟩
def gk_N349 : rk_N := ("GooseIceModel", gk_y_349, prog_14_method_149_code)
def gk_y_350 : MethodName := ⟨"GooseIceModel", "suspects", "(I)I"⟩
def gk_N350 : rk_N := ("GooseIceModel", gk_y_350, prog_14_method_150_code)
def gk_y_351 : MethodName := ⟨"GooseIceModel", "bearsNow", "(I)I"⟩
def gk_N351 : rk_N := ("GooseIceModel", gk_y_351, prog_14_method_151_code)
def gk_y_352 : MethodName := ⟨"GooseIceModel", "laysDays", "(IIII)J"⟩
def gk_N352 : rk_N := ("GooseIceModel", gk_y_352, prog_14_method_152_code)
def gk_y_353 : MethodName := ⟨"GooseIceModel", "waysTo", "(II)J"⟩
def gk_N353 : rk_N := ("GooseIceModel", gk_y_353, prog_14_method_153_code)
def gk_y_354 : MethodName := ⟨"GooseIceModel", "areDays", "(IIII)Z"⟩
def gk_N354 : rk_N := ("GooseIceModel", gk_y_354, prog_14_method_154_code)
def gk_y_355 : MethodName := ⟨"GooseIceModel", "odds", "(IIIII)Z"⟩
def gk_N355 : rk_N := ("GooseIceModel", gk_y_355, prog_14_method_155_code)
def gk_y_356 : MethodName := ⟨"GooseIceModel", "bestDay", "(IIIII)I"⟩
def gk_N356 : rk_N := ("GooseIceModel", gk_y_356, prog_14_method_156_code)
def gk_y_357 : MethodName := ⟨"GooseIceModel", "meanIn", "(IIII)Z"⟩
def gk_N357 : rk_N := ("GooseIceModel", gk_y_357, prog_14_method_157_code)
def gk_y_358 : MethodName := ⟨"GooseIceModel", "draw", "(I)I"⟩
def gk_N358 : rk_N := ("GooseIceModel", gk_y_358, prog_14_method_158_code)
def gk_y_359 : MethodName := ⟨"GooseIceModel", "sendsBy", "(II)Z"⟩
def gk_N359 : rk_N := ("GooseIceModel", gk_y_359, prog_14_method_159_code)
def gk_y_360 : MethodName := ⟨"GooseIceModel", "sendsAny", "()Z"⟩
def gk_N360 : rk_N := ("GooseIceModel", gk_y_360, prog_14_method_160_code)
def gk_y_361 : MethodName := ⟨"GooseIceModel", "stepsOn", "(I)Z"⟩
def gk_N361 : rk_N := ("GooseIceModel", gk_y_361, prog_14_method_161_code)
def gk_y_362 : MethodName := ⟨"GooseIceModel", "does", "(I)Z"⟩
def gk_N362 : rk_N := ("GooseIceModel", gk_y_362, prog_14_method_162_code)
def gk_y_363 : MethodName := ⟨"GooseIceModel", "isSo", "(I)Z"⟩
def gk_N363 : rk_N := ("GooseIceModel", gk_y_363, prog_14_method_163_code)
def gk_y_364 : MethodName := ⟨"GooseIceModel", "behindEnds", "(I)I"⟩
def gk_N364 : rk_N := ("GooseIceModel", gk_y_364, prog_14_method_164_code)
def gk_y_365 : MethodName := ⟨"GooseIceModel", "lives", "(I)V"⟩
def gk_N365 : rk_N := ("GooseIceModel", gk_y_365, prog_14_method_165_code)
def gk_y_366 : MethodName := ⟨"GooseIceModel", "live", "(I)I"⟩
def gk_N366 : rk_N := ("GooseIceModel", gk_y_366, prog_14_method_166_code)
def gk_y_367 : MethodName := ⟨"GooseIceModel", "lived", "(I)I"⟩
def gk_N367 : rk_N := ("GooseIceModel", gk_y_367, prog_14_method_167_code)
def gk_y_368 : MethodName := ⟨"GooseIceModel", "mean", "(II)Z"⟩
def gk_N368 : rk_N := ("GooseIceModel", gk_y_368, prog_14_method_168_code)
def gk_y_369 : MethodName := ⟨"GooseIceModel", "copies", "(II)V"⟩
def gk_N369 : rk_N := ("GooseIceModel", gk_y_369, prog_14_method_169_code)
def gk_y_370 : MethodName := ⟨"GooseIceModel", "mark", "()I"⟩
def gk_N370 : rk_N := ("GooseIceModel", gk_y_370, prog_14_method_170_code)
def gk_y_371 : MethodName := ⟨"GooseIceModel", "undo", "()I"⟩
def gk_N371 : rk_N := ("GooseIceModel", gk_y_371, prog_14_method_171_code)
def gk_y_372 : MethodName := ⟨"java/lang/Integer", "bitCount", "(I)I"⟩
def gk_N372 : rk_N := ("java/lang/Integer", gk_y_372, prog_15_method_49_code)
def gk_y_373 : MethodName := ⟨"java/lang/Math", "abs", "(I)I"⟩
def gk_N373 : rk_N := ("java/lang/Math", gk_y_373, prog_16_method_59_code)
def gk_y_374 : MethodName := ⟨"java/lang/Math", "max", "(II)I"⟩
def gk_N374 : rk_N := ("java/lang/Math", gk_y_374, prog_16_method_65_code)
def gk_y_375 : MethodName := ⟨"java/lang/Math", "max", "(JJ)J"⟩
def gk_N375 : rk_N := ("java/lang/Math", gk_y_375, prog_16_method_66_code)
def gk_y_376 : MethodName := ⟨"java/lang/Math", "min", "(II)I"⟩
def gk_N376 : rk_N := ("java/lang/Math", gk_y_376, prog_16_method_69_code)
def gk_y_377 : MethodName := ⟨"java/lang/String", "length", "()I"⟩
def gk_N377 : rk_N := ("java/lang/String", gk_y_377, prog_17_method_54_code)
def gk_y_378 : MethodName := ⟨"java/lang/String", "charAt", "(I)C"⟩
def gk_N378 : rk_N := ("java/lang/String", gk_y_378, prog_17_method_56_code)
def gk_y_379 : MethodName := ⟨"java/lang/String", "coder", "()B"⟩
def gk_N379 : rk_N := ("java/lang/String", gk_y_379, prog_17_method_152_code)
def gk_y_380 : MethodName := ⟨"java/lang/String", "isLatin1", "()Z"⟩
def gk_N380 : rk_N := ("java/lang/String", gk_y_380, prog_17_method_154_code)
def gk_y_381 : MethodName := ⟨"java/lang/String", "checkIndex", "(II)V"⟩
def gk_N381 : rk_N := ("java/lang/String", gk_y_381, prog_17_method_155_code)
def gk_y_382 : MethodName := ⟨"java/lang/StringLatin1", "charAt", "([BI)C"⟩
def gk_N382 : rk_N := ("java/lang/StringLatin1", gk_y_382, prog_18_method_2_code)
def gk_y_383 : MethodName := ⟨"java/lang/StringUTF16", "getChar", "([BI)C"⟩
def gk_N383 : rk_N := ("java/lang/StringUTF16", gk_y_383, prog_19_method_5_code)
def gk_y_384 : MethodName := ⟨"java/lang/StringUTF16", "length", "([B)I"⟩
def gk_N384 : rk_N := ("java/lang/StringUTF16", gk_y_384, prog_19_method_6_code)
def gk_y_385 : MethodName := ⟨"java/lang/StringUTF16", "charAt", "([BI)C"⟩
def gk_N385 : rk_N := ("java/lang/StringUTF16", gk_y_385, prog_19_method_83_code)
def gk_y_386 : MethodName := ⟨"java/lang/StringUTF16", "checkIndex", "(I[B)V"⟩
def gk_N386 : rk_N := ("java/lang/StringUTF16", gk_y_386, prog_19_method_91_code)
def gk_y_387 : MethodName := ⟨"java/util/Arrays", "fill", "([JJ)V"⟩
def gk_N387 : rk_N := ("java/util/Arrays", gk_y_387, prog_21_method_101_code)
def gk_y_388 : MethodName := ⟨"java/util/Arrays", "fill", "([II)V"⟩
def gk_N388 : rk_N := ("java/util/Arrays", gk_y_388, prog_21_method_103_code)
def gk_y_389 : MethodName := ⟨"jdk/internal/util/Preconditions", "checkIndex", "(IILjava/util/function/BiFunction;)I"⟩
def gk_N389 : rk_N := ("jdk/internal/util/Preconditions", gk_y_389, prog_22_method_11_code)
def gk_MN : List rk_N := [gk_N0, gk_N1, gk_N2, gk_N3, gk_N4, gk_N5, gk_N6, gk_N7, gk_N8, gk_N9, gk_N10, gk_N11, gk_N12, gk_N13, gk_N14, gk_N15, gk_N16, gk_N17, gk_N18, gk_N19, gk_N20, gk_N21, gk_N22, gk_N23, gk_N24, gk_N25, gk_N26, gk_N27, gk_N28, gk_N29, gk_N30, gk_N31, gk_N32, gk_N33, gk_N34, gk_N35, gk_N36, gk_N37, gk_N38, gk_N39, gk_N40, gk_N41, gk_N42, gk_N43, gk_N44, gk_N45, gk_N46, gk_N47, gk_N48, gk_N49, gk_N50, gk_N51, gk_N52, gk_N53, gk_N54, gk_N55, gk_N56, gk_N57, gk_N58, gk_N59, gk_N60, gk_N61, gk_N62, gk_N63, gk_N64, gk_N65, gk_N66, gk_N67, gk_N68, gk_N69, gk_N70, gk_N71, gk_N72, gk_N73, gk_N74, gk_N75, gk_N76, gk_N77, gk_N78, gk_N79, gk_N80, gk_N81, gk_N82, gk_N83, gk_N84, gk_N85, gk_N86, gk_N87, gk_N88, gk_N89, gk_N90, gk_N91, gk_N92, gk_N93, gk_N94, gk_N95, gk_N96, gk_N97, gk_N98, gk_N99, gk_N100, gk_N101, gk_N102, gk_N103, gk_N104, gk_N105, gk_N106, gk_N107, gk_N108, gk_N109, gk_N110, gk_N111, gk_N112, gk_N113, gk_N114, gk_N115, gk_N116, gk_N117, gk_N118, gk_N119, gk_N120, gk_N121, gk_N122, gk_N123, gk_N124, gk_N125, gk_N126, gk_N127, gk_N128, gk_N129, gk_N130, gk_N131, gk_N132, gk_N133, gk_N134, gk_N135, gk_N136, gk_N137, gk_N138, gk_N139, gk_N140, gk_N141, gk_N142, gk_N143, gk_N144, gk_N145, gk_N146, gk_N147, gk_N148, gk_N149, gk_N150, gk_N151, gk_N152, gk_N153, gk_N154, gk_N155, gk_N156, gk_N157, gk_N158, gk_N159, gk_N160, gk_N161, gk_N162, gk_N163, gk_N164, gk_N165, gk_N166, gk_N167, gk_N168, gk_N169, gk_N170, gk_N171, gk_N172, gk_N173, gk_N174, gk_N175, gk_N176, gk_N177, gk_N178, gk_N179, gk_N180, gk_N181, gk_N182, gk_N183, gk_N184, gk_N185, gk_N186, gk_N187, gk_N188, gk_N189, gk_N190, gk_N191, gk_N192, gk_N193, gk_N194, gk_N195, gk_N196, gk_N197, gk_N198, gk_N199, gk_N200, gk_N201, gk_N202, gk_N203, gk_N204, gk_N205, gk_N206, gk_N207, gk_N208, gk_N209, gk_N210, gk_N211, gk_N212, gk_N213, gk_N214, gk_N215, gk_N216, gk_N217, gk_N218, gk_N219, gk_N220, gk_N221, gk_N222, gk_N223, gk_N224, gk_N225, gk_N226, gk_N227, gk_N228, gk_N229, gk_N230, gk_N231, gk_N232, gk_N233, gk_N234, gk_N235, gk_N236, gk_N237, gk_N238, gk_N239, gk_N240, gk_N241, gk_N242, gk_N243, gk_N244, gk_N245, gk_N246, gk_N247, gk_N248, gk_N249, gk_N250, gk_N251, gk_N252, gk_N253, gk_N254, gk_N255, gk_N256, gk_N257, gk_N258, gk_N259, gk_N260, gk_N261, gk_N262, gk_N263, gk_N264, gk_N265, gk_N266, gk_N267, gk_N268, gk_N269, gk_N270, gk_N271, gk_N272, gk_N273, gk_N274, gk_N275, gk_N276, gk_N277, gk_N278, gk_N279, gk_N280, gk_N281, gk_N282, gk_N283, gk_N284, gk_N285, gk_N286, gk_N287, gk_N288, gk_N289, gk_N290, gk_N291, gk_N292, gk_N293, gk_N294, gk_N295, gk_N296, gk_N297, gk_N298, gk_N299, gk_N300, gk_N301, gk_N302, gk_N303, gk_N304, gk_N305, gk_N306, gk_N307, gk_N308, gk_N309, gk_N310, gk_N311, gk_N312, gk_N313, gk_N314, gk_N315, gk_N316, gk_N317, gk_N318, gk_N319, gk_N320, gk_N321, gk_N322, gk_N323, gk_N324, gk_N325, gk_N326, gk_N327, gk_N328, gk_N329, gk_N330, gk_N331, gk_N332, gk_N333, gk_N334, gk_N335, gk_N336, gk_N337, gk_N338, gk_N339, gk_N340, gk_N341, gk_N342, gk_N343, gk_N344, gk_N345, gk_N346, gk_N347, gk_N348, gk_N349, gk_N350, gk_N351, gk_N352, gk_N353, gk_N354, gk_N355, gk_N356, gk_N357, gk_N358, gk_N359, gk_N360, gk_N361, gk_N362, gk_N363, gk_N364, gk_N365, gk_N366, gk_N367, gk_N368, gk_N369, gk_N370, gk_N371, gk_N372, gk_N3, gk_N3, gk_N3, gk_N3, gk_N377, gk_N378, gk_N379, gk_N380, gk_N381, gk_N382, gk_N383, gk_N384, gk_N385, gk_N386, gk_N387, gk_N388, gk_N389]
def gk_P : List rk_M2 := [gk_m0, gk_m1, gk_m2, gk_m3, gk_m4, gk_m5, gk_m6, gk_m7, gk_m8, gk_m9, gk_m10, gk_m11, gk_m12, gk_m13, gk_m14, gk_m15, gk_m16, gk_m17, gk_m18, gk_m19, gk_m20, gk_m21, gk_m22, gk_m23, gk_m24, gk_m25, gk_m26, gk_m27, gk_m28, gk_m29, gk_m30, gk_m31, gk_m32, gk_m33, gk_m34, gk_m35, gk_m36, gk_m37, gk_m38, gk_m39, gk_m40, gk_m41, gk_m42, gk_m43, gk_m44, gk_m45, gk_m46, gk_m47, gk_m48, gk_m49, gk_m50, gk_m51, gk_m52, gk_m53, gk_m54, gk_m55, gk_m56, gk_m57, gk_m58, gk_m59, gk_m60, gk_m61, gk_m62, gk_m63, gk_m64, gk_m65, gk_m66, gk_m67, gk_m68, gk_m69, gk_m70, gk_m71, gk_m72, gk_m73, gk_m74, gk_m75, gk_m76, gk_m77, gk_m78, gk_m79, gk_m80, gk_m81, gk_m82, gk_m83, gk_m84, gk_m85, gk_m86, gk_m87, gk_m88, gk_m89, gk_m90, gk_m91, gk_m92, gk_m93, gk_m94, gk_m95, gk_m96, gk_m97, gk_m98, gk_m99, gk_m100, gk_m101, gk_m102, gk_m103, gk_m104, gk_m105, gk_m106, gk_m107, gk_m108, gk_m109, gk_m110, gk_m111, gk_m112, gk_m113, gk_m114, gk_m115, gk_m116, gk_m117, gk_m118, gk_m119, gk_m120, gk_m121, gk_m122, gk_m123, gk_m124, gk_m125, gk_m126, gk_m127, gk_m128, gk_m129, gk_m130, gk_m131, gk_m132, gk_m133, gk_m134, gk_m135, gk_m136, gk_m137, gk_m138, gk_m139, gk_m140, gk_m141, gk_m142, gk_m143, gk_m144, gk_m145, gk_m146, gk_m147, gk_m148, gk_m149, gk_m150, gk_m151, gk_m152, gk_m153, gk_m154, gk_m155, gk_m156, gk_m157, gk_m158, gk_m159, gk_m160, gk_m161, gk_m162, gk_m163, gk_m164, gk_m165, gk_m166, gk_m167, gk_m168, gk_m169, gk_m170, gk_m171, gk_m172, gk_m173, gk_m174, gk_m175, gk_m176, gk_m177, gk_m178, gk_m179, gk_m180, gk_m181, gk_m182, gk_m183, gk_m184, gk_m185, gk_m186, gk_m187, gk_m188, gk_m189, gk_m190, gk_m191, gk_m192, gk_m193, gk_m194, gk_m195, gk_m196, gk_m197, gk_m198, gk_m199, gk_m200, gk_m201, gk_m202, gk_m203, gk_m204, gk_m205, gk_m206, gk_m207, gk_m208, gk_m209, gk_m210, gk_m211, gk_m212, gk_m213, gk_m214, gk_m215, gk_m216, gk_m217, gk_m218, gk_m219, gk_m220, gk_m221, gk_m222, gk_m223, gk_m224, gk_m225, gk_m226, gk_m227, gk_m228, gk_m229, gk_m230, gk_m231, gk_m232, gk_m233, gk_m234, gk_m235, gk_m236, gk_m237, gk_m238, gk_m239, gk_m240, gk_m241, gk_m242, gk_m243, gk_m244, gk_m245, gk_m246, gk_m247, gk_m248, gk_m249, gk_m250, gk_m251, gk_m252, gk_m253, gk_m254, gk_m255, gk_m256, gk_m257, gk_m258, gk_m259, gk_m260, gk_m261, gk_m262, gk_m263, gk_m264, gk_m265, gk_m266, gk_m267, gk_m268, gk_m269, gk_m270, gk_m271, gk_m272, gk_m273, gk_m274, gk_m275, gk_m276, gk_m277, gk_m278, gk_m279, gk_m280, gk_m281, gk_m282, gk_m283, gk_m284, gk_m285, gk_m286, gk_m287, gk_m288, gk_m289, gk_m290, gk_m291, gk_m292, gk_m293, gk_m294, gk_m295, gk_m296, gk_m297, gk_m298, gk_m299, gk_m300, gk_m301, gk_m302, gk_m303, gk_m304, gk_m305, gk_m306, gk_m307, gk_m308, gk_m309, gk_m310, gk_m311, gk_m312, gk_m313, gk_m314, gk_m315, gk_m316, gk_m317, gk_m318, gk_m319, gk_m320, gk_m321, gk_m322, gk_m323, gk_m324, gk_m325, gk_m326, gk_m327, gk_m328, gk_m329, gk_m330, gk_m331, gk_m332, gk_m333, gk_m334, gk_m335, gk_m336, gk_m337, gk_m338, gk_m339, gk_m340, gk_m341, gk_m342, gk_m343, gk_m344, gk_m345, gk_m346, gk_m347, gk_m348, gk_m349, gk_m350, gk_m351, gk_m352, gk_m353, gk_m354, gk_m355, gk_m356, gk_m357, gk_m358, gk_m359, gk_m360, gk_m361, gk_m362, gk_m363, gk_m364, gk_m365, gk_m366, gk_m367, gk_m368, gk_m369, gk_m370, gk_m371, gk_m372, gk_m3, gk_m3, gk_m3, gk_m3, gk_m377, gk_m378, gk_m379, gk_m380, gk_m381, gk_m382, gk_m383, gk_m384, gk_m385, gk_m386, gk_m387, gk_m388, gk_m389]
def gk_mci : List Nat := [0, 0, 0, 0, 0, 0, 0, 0, 0, 0, 0, 0, 0, 0, 0, 0, 1, 1, 1, 1, 1, 1, 1, 2, 2, 2, 2, 2, 2, 3, 3, 3, 3, 3, 3, 3, 3, 3, 3, 3, 3, 3, 3, 3, 3, 3, 3, 3, 3, 3, 3, 3, 3, 3, 3, 3, 3, 3, 3, 3, 3, 3, 3, 4, 4, 4, 4, 4, 4, 4, 4, 5, 5, 5, 5, 5, 5, 5, 5, 6, 6, 6, 6, 6, 6, 6, 6, 6, 6, 6, 6, 7, 7, 7, 7, 7, 7, 7, 7, 8, 8, 8, 8, 8, 8, 8, 8, 8, 8, 8, 8, 8, 8, 8, 8, 9, 9, 9, 10, 10, 10, 10, 10, 10, 10, 10, 11, 11, 11, 11, 11, 11, 11, 11, 11, 11, 11, 11, 11, 11, 11, 11, 11, 11, 11, 11, 11, 11, 11, 11, 11, 11, 11, 11, 11, 11, 11, 11, 11, 11, 11, 11, 11, 11, 11, 11, 11, 11, 11, 11, 11, 11, 11, 11, 11, 11, 11, 11, 11, 11, 11, 11, 11, 11, 11, 11, 11, 11, 11, 11, 11, 11, 11, 11, 11, 11, 11, 11, 11, 11, 11, 12, 12, 12, 12, 12, 12, 12, 12, 12, 12, 12, 12, 12, 12, 12, 12, 12, 12, 12, 12, 12, 12, 12, 12, 12, 12, 12, 12, 12, 12, 12, 12, 12, 12, 12, 12, 12, 12, 12, 12, 12, 12, 12, 12, 12, 12, 12, 12, 12, 12, 12, 12, 12, 12, 12, 12, 12, 12, 12, 12, 12, 12, 12, 12, 12, 12, 12, 12, 12, 12, 12, 12, 12, 12, 12, 12, 12, 12, 12, 12, 12, 12, 12, 12, 12, 12, 12, 12, 12, 12, 12, 12, 12, 12, 12, 12, 12, 12, 12, 12, 12, 12, 12, 12, 12, 12, 12, 12, 12, 12, 12, 12, 12, 12, 12, 12, 12, 12, 12, 12, 12, 12, 12, 12, 12, 12, 12, 12, 12, 12, 12, 12, 12, 12, 12, 12, 12, 12, 12, 12, 12, 12, 12, 12, 12, 12, 12, 12, 12, 12, 12, 12, 12, 12, 12, 12, 12, 12, 12, 12, 12, 12, 12, 12, 12, 12, 12, 12, 12, 12, 12, 999, 0, 0, 0, 0, 999, 999, 999, 999, 999, 999, 999, 999, 999, 999, 999, 999, 999]
def gk_lk0 : List (Nat × Nat × Nat × Nat) := [(1, 11, 0, 0), (7, 0, 11, 2), (13, 13, 0, 0), (15, 0, 11, 3), (15, 2, 11, 3), (18, 0, 11, 4), (18, 2, 11, 4), (22, 0, 11, 5), (22, 2, 11, 5), (25, 0, 11, 6), (25, 2, 11, 6), (28, 3, 8, 0), (30, 10, 99, 0), (31, 0, 11, 7), (31, 2, 11, 7), (35, 3, 4, 0), (37, 10, 63, 1), (40, 0, 11, 8), (40, 2, 11, 8), (44, 3, 10, 0), (46, 10, 118, 1), (47, 0, 11, 9), (47, 2, 11, 9), (51, 3, 3, 0), (51, 4, 3, 0), (53, 10, 29, 0), (54, 0, 11, 10), (54, 2, 11, 10), (58, 0, 11, 11), (58, 2, 11, 11), (61, 0, 11, 12), (61, 2, 11, 12), (65, 3, 6, 0), (67, 10, 79, 0), (68, 0, 11, 14), (68, 2, 11, 14), (72, 3, 7, 0), (74, 10, 91, 0), (75, 0, 11, 15), (75, 2, 11, 15), (79, 3, 1, 0), (81, 10, 16, 0), (82, 0, 11, 16), (82, 2, 11, 16), (86, 3, 5, 0), (88, 10, 71, 1), (91, 0, 11, 17), (91, 2, 11, 17), (95, 0, 11, 18), (95, 2, 11, 18), (98, 7, 388, 2), (104, 0, 11, 0), (108, 0, 11, 1), (111, 7, 191, 1), (115, 5, 189, 1), (118, 7, 387, 2), (121, 5, 188, 0), (125, 5, 192, 2), (129, 7, 193, 2), (133, 5, 187, 1), (137, 12, 0, 0), (143, 6, 100, 0), (146, 6, 101, 1), (150, 1, 8, 2), (153, 6, 102, 1), (156, 6, 64, 1), (160, 1, 8, 10), (163, 6, 31, 1), (166, 1, 3, 7), (170, 6, 116, 0), (175, 1, 3, 8), (178, 5, 186, 1), (181, 6, 119, 2), (184, 6, 117, 1), (187, 1, 9, 6), (190, 1, 8, 11), (193, 1, 3, 6), (197, 1, 0, 7), (200, 1, 3, 10), (203, 1, 3, 11), (206, 1, 3, 12), (209, 1, 3, 13), (212, 1, 3, 9), (215, 1, 3, 5), (219, 1, 2, 5), (224, 1, 0, 8), (227, 1, 0, 9), (230, 6, 36, 1), (233, 1, 2, 0), (236, 6, 40, 1), (239, 1, 2, 2), (242, 6, 41, 2), (245, 1, 2, 1), (248, 6, 3, 1), (251, 1, 0, 1), (254, 1, 0, 2), (257, 6, 11, 1), (260, 1, 0, 3), (263, 6, 9, 2), (266, 6, 37, 2), (270, 1, 3, 1), (273, 1, 3, 2), (276, 6, 34, 1), (279, 1, 3, 3), (282, 5, 194, 2), (285, 6, 6, 1), (288, 6, 45, 3), (292, 6, 8, 3), (296, 5, 195, 2), (299, 1, 6, 0), (302, 1, 6, 4), (305, 6, 49, 1), (308, 6, 56, 1), (311, 6, 57, 1), (314, 6, 58, 0), (318, 6, 59, 1), (321, 7, 372, 1), (326, 6, 54, 1), (329, 6, 43, 1), (332, 6, 42, 2), (335, 6, 80, 1), (336, 5, 196, 2), (339, 6, 83, 3), (343, 1, 6, 5), (346, 6, 47, 2), (349, 6, 85, 3), (353, 6, 60, 1), (356, 6, 61, 0), (359, 6, 44, 1), (362, 6, 62, 2), (365, 6, 4, 1), (368, 6, 48, 1), (371, 6, 92, 4), (375, 1, 7, 7), (376, 1, 7, 4), (379, 1, 7, 5), (382, 6, 50, 0), (385, 6, 13, 1), (388, 6, 7, 1), (391, 17, 0, 0), (396, 1, 6, 3), (399, 6, 14, 3), (403, 7, 197, 2), (406, 7, 198, 2), (409, 7, 199, 2), (413, 16, 0, 0), (417, 6, 86, 2), (421, 8, 17, 3), (425, 6, 19, 4), (429, 6, 21, 1), (433, 8, 18, 1), (436, 5, 190, 2), (442, 6, 22, 0), (446, 1, 9, 7), (450, 6, 72, 3), (454, 1, 5, 6), (457, 1, 5, 7), (460, 1, 5, 8), (463, 1, 5, 9), (466, 1, 5, 10), (469, 0, 11, 19), (472, 1, 5, 5), (475, 0, 11, 13), (478, 6, 81, 4), (482, 14, 0, 0)]
def gk_lk1 : List (Nat × Nat × Nat × Nat) := [(3, 11, 0, 0), (9, 0, 0, 0), (9, 2, 0, 0), (15, 0, 0, 1), (15, 2, 0, 1), (19, 0, 0, 2), (19, 2, 0, 2), (22, 0, 0, 3), (22, 2, 0, 3), (25, 0, 0, 4), (25, 2, 0, 4), (28, 0, 0, 5), (28, 2, 0, 5), (31, 0, 0, 6), (31, 2, 0, 6), (34, 0, 0, 7), (38, 0, 0, 8), (41, 0, 0, 9), (44, 7, 388, 2), (50, 12, 0, 0), (56, 15, 0, 0), (62, 5, 7, 1), (66, 17, 0, 0), (69, 5, 15, 3)]
def gk_lk2 : List (Nat × Nat × Nat × Nat) := [(3, 11, 0, 0), (9, 0, 1, 0), (9, 2, 1, 0), (15, 0, 1, 1), (15, 2, 1, 1), (18, 0, 1, 2), (22, 7, 387, 2), (28, 5, 20, 1), (32, 12, 0, 0)]
def gk_lk3 : List (Nat × Nat × Nat × Nat) := [(3, 11, 0, 0), (9, 0, 2, 0), (9, 2, 2, 0), (15, 0, 2, 1), (15, 2, 2, 1), (18, 0, 2, 2), (18, 2, 2, 2), (21, 0, 2, 3), (21, 2, 2, 3), (24, 7, 388, 2), (30, 0, 2, 4), (34, 0, 2, 5), (37, 12, 0, 0), (43, 15, 0, 0)]
def gk_lk4 : List (Nat × Nat × Nat × Nat) := [(3, 11, 0, 0), (9, 0, 3, 0), (9, 2, 3, 0), (15, 0, 3, 1), (15, 2, 3, 1), (19, 0, 3, 2), (19, 2, 3, 2), (22, 0, 3, 3), (22, 2, 3, 3), (25, 0, 3, 4), (25, 2, 3, 4), (28, 3, 2, 0), (30, 10, 23, 0), (31, 0, 3, 5), (31, 2, 3, 5), (35, 3, 0, 0), (37, 10, 0, 0), (38, 0, 3, 6), (38, 2, 3, 6), (42, 3, 9, 0), (44, 10, 115, 0), (45, 0, 3, 7), (45, 2, 3, 7), (49, 0, 3, 10), (53, 0, 3, 11), (56, 0, 3, 12), (59, 7, 388, 2), (65, 6, 24, 0), (68, 6, 1, 0), (69, 0, 3, 8), (72, 0, 3, 9), (75, 0, 3, 13), (78, 12, 0, 0), (84, 6, 25, 1), (88, 6, 2, 1), (91, 1, 2, 0), (94, 1, 0, 7), (97, 5, 34, 1), (101, 1, 0, 0), (102, 1, 0, 1), (105, 1, 0, 2), (108, 1, 2, 5), (111, 1, 2, 2), (114, 14, 0, 0), (120, 1, 0, 8), (123, 5, 41, 2), (126, 5, 39, 0), (130, 5, 42, 2), (133, 5, 35, 1), (136, 5, 46, 1), (140, 8, 200, 1), (143, 1, 0, 9), (146, 5, 50, 0), (149, 1, 2, 4), (152, 6, 27, 2), (156, 5, 51, 2), (159, 5, 52, 0), (162, 5, 53, 0), (165, 5, 54, 1), (169, 5, 55, 0), (172, 6, 9, 2), (175, 6, 10, 2), (178, 6, 12, 1), (181, 6, 26, 2), (184, 5, 40, 1), (187, 6, 28, 1), (190, 1, 2, 1), (193, 7, 372, 1), (198, 5, 36, 1), (201, 15, 0, 0), (205, 6, 11, 1), (208, 1, 2, 3)]
def gk_lk5 : List (Nat × Nat × Nat × Nat) := [(3, 11, 0, 0), (9, 0, 4, 0), (9, 2, 4, 0), (15, 6, 30, 0), (20, 0, 4, 1), (24, 1, 8, 10), (29, 1, 8, 6), (32, 5, 65, 1), (36, 1, 8, 7), (39, 5, 67, 2), (43, 5, 68, 2), (46, 5, 69, 1), (49, 1, 3, 10), (52, 5, 70, 2), (56, 1, 3, 11), (59, 1, 3, 12), (62, 6, 108, 0), (65, 6, 112, 0), (69, 6, 38, 1), (73, 1, 3, 6), (77, 6, 5, 1), (80, 6, 107, 1), (84, 6, 104, 0), (87, 1, 3, 8), (90, 5, 66, 1), (94, 6, 109, 1), (97, 6, 111, 2), (100, 6, 110, 1), (104, 6, 32, 3), (108, 6, 113, 1), (112, 6, 35, 1), (115, 6, 37, 2), (119, 1, 3, 2), (123, 1, 3, 1), (126, 1, 0, 7), (129, 6, 33, 3)]
def gk_lk6 : List (Nat × Nat × Nat × Nat) := [(3, 11, 0, 0), (9, 0, 5, 1), (9, 2, 5, 1), (15, 0, 5, 2), (15, 2, 5, 2), (18, 0, 5, 0), (18, 2, 5, 0), (22, 0, 5, 3), (26, 0, 5, 4), (29, 0, 5, 5), (33, 0, 5, 6), (36, 0, 5, 7), (39, 0, 5, 8), (42, 0, 5, 9), (45, 1, 9, 6), (50, 5, 73, 3), (54, 5, 75, 2), (58, 0, 5, 10), (61, 1, 9, 0), (64, 1, 9, 2), (67, 1, 9, 3), (70, 5, 76, 3), (74, 1, 3, 13), (79, 6, 49, 1), (83, 7, 372, 1), (88, 6, 56, 1), (91, 6, 57, 1), (95, 1, 3, 6), (99, 1, 0, 7), (102, 1, 3, 8), (105, 5, 77, 1), (108, 7, 78, 3), (112, 1, 9, 5), (115, 5, 74, 2), (119, 6, 3, 1), (123, 6, 34, 1), (126, 6, 6, 1), (129, 1, 0, 2), (132, 6, 43, 1), (135, 6, 81, 4), (141, 1, 6, 0), (144, 1, 6, 4), (147, 6, 8, 3), (152, 1, 9, 1), (155, 6, 36, 1), (158, 6, 40, 1), (161, 1, 9, 4), (164, 1, 0, 8)]
def gk_lk7 : List (Nat × Nat × Nat × Nat) := [(3, 11, 0, 0), (9, 0, 6, 0), (9, 2, 6, 0), (15, 0, 6, 1), (15, 2, 6, 1), (18, 0, 6, 2), (18, 2, 6, 2), (21, 0, 6, 3), (21, 2, 6, 3), (24, 0, 6, 4), (28, 5, 82, 4), (32, 1, 3, 1), (37, 8, 200, 1), (41, 6, 34, 1), (45, 6, 46, 1), (48, 1, 3, 6), (52, 1, 0, 2), (57, 1, 3, 8), (60, 6, 42, 2), (64, 0, 6, 5), (67, 5, 84, 2), (71, 6, 47, 2), (74, 5, 81, 4), (78, 6, 43, 1), (81, 1, 3, 9), (84, 7, 372, 1), (89, 1, 0, 7), (92, 1, 0, 1), (95, 7, 87, 2), (98, 5, 88, 3), (102, 6, 36, 1), (105, 6, 40, 1), (108, 6, 35, 1), (111, 5, 89, 4), (114, 5, 90, 3)]
def gk_lk8 : List (Nat × Nat × Nat × Nat) := [(3, 11, 0, 0), (9, 3, 3, 0), (9, 4, 3, 0), (11, 0, 7, 0), (11, 2, 7, 0), (17, 0, 7, 1), (17, 2, 7, 1), (21, 0, 7, 2), (21, 2, 7, 2), (24, 0, 7, 3), (24, 2, 7, 3), (27, 0, 7, 4), (27, 2, 7, 4), (30, 0, 7, 5), (30, 2, 7, 5), (33, 0, 7, 6), (33, 2, 7, 6), (36, 10, 29, 0), (37, 7, 93, 3), (41, 12, 0, 0), (47, 0, 7, 10), (52, 0, 7, 8), (55, 5, 94, 1), (59, 0, 7, 9), (62, 5, 95, 1), (66, 5, 96, 1), (70, 1, 3, 5), (74, 1, 2, 5), (79, 6, 31, 1), (82, 1, 3, 6), (86, 1, 0, 9), (91, 6, 8, 3), (95, 6, 50, 0), (99, 5, 97, 2), (103, 5, 98, 2), (107, 0, 7, 7)]
def gk_lk9 : List (Nat × Nat × Nat × Nat) := [(3, 11, 0, 0), (9, 0, 8, 0), (9, 2, 8, 0), (15, 0, 8, 1), (15, 2, 8, 1), (19, 0, 8, 10), (23, 0, 8, 11), (28, 5, 377, 0), (34, 5, 378, 1), (40, 0, 8, 2), (43, 0, 8, 3), (45, 0, 8, 5), (48, 5, 104, 0), (51, 5, 103, 1), (55, 0, 8, 4), (58, 0, 8, 7), (61, 0, 8, 6), (64, 5, 105, 0), (67, 5, 106, 0), (70, 0, 8, 9), (73, 0, 8, 8), (77, 5, 107, 1), (81, 5, 108, 0), (84, 5, 112, 0), (88, 6, 38, 1), (94, 1, 3, 6), (98, 6, 5, 1)]
def gk_lk10 : List (Nat × Nat × Nat × Nat) := [(3, 11, 0, 0), (9, 0, 9, 0), (9, 2, 9, 0), (15, 0, 9, 1), (15, 2, 9, 1), (18, 0, 9, 2), (18, 2, 9, 2), (21, 0, 9, 3), (21, 2, 9, 3), (24, 0, 9, 4), (24, 2, 9, 4), (27, 0, 9, 5), (27, 2, 9, 5), (30, 0, 9, 6), (34, 0, 9, 7), (38, 12, 0, 0)]
def gk_lk11 : List (Nat × Nat × Nat × Nat) := [(3, 11, 0, 0), (9, 0, 10, 1), (9, 2, 10, 1), (15, 0, 10, 0), (15, 2, 10, 0), (19, 6, 116, 0), (24, 1, 9, 7), (28, 0, 10, 2), (32, 1, 8, 10), (37, 1, 8, 6), (40, 1, 8, 7), (43, 5, 120, 1), (47, 5, 122, 2), (51, 6, 108, 0), (54, 1, 9, 5), (57, 1, 9, 6), (60, 6, 104, 0), (63, 6, 110, 1), (67, 7, 121, 1), (70, 6, 107, 1), (74, 5, 124, 3), (78, 5, 123, 4), (82, 1, 9, 0), (85, 1, 9, 2), (88, 6, 114, 1), (92, 6, 109, 1), (95, 1, 9, 3), (98, 6, 113, 1), (101, 6, 111, 2), (105, 1, 9, 1), (108, 5, 125, 0), (112, 1, 9, 4), (115, 1, 8, 9)]
def gk_lk12 : List (Nat × Nat × Nat × Nat) := [(7, 3, 11, 0), (9, 9, 126, 0), (10, 3, 12, 0), (12, 9, 201, 0), (13, 5, 127, 0), (17, 5, 203, 0), (18, 5, 128, 0), (22, 5, 204, 0), (23, 5, 129, 0), (26, 5, 205, 0), (27, 5, 130, 3), (31, 5, 213, 3), (34, 5, 131, 3), (38, 5, 215, 3), (39, 5, 132, 2), (43, 5, 216, 2), (44, 5, 133, 5), (48, 5, 217, 5), (49, 5, 134, 5), (53, 5, 219, 5), (54, 5, 135, 1), (58, 5, 246, 1), (59, 5, 136, 1), (62, 5, 252, 1), (63, 5, 137, 1), (66, 5, 235, 1), (67, 5, 138, 1), (70, 5, 274, 1), (71, 5, 139, 2), (75, 5, 275, 2), (76, 5, 140, 2), (79, 5, 276, 2), (80, 5, 141, 2), (83, 5, 277, 2), (84, 5, 142, 2), (87, 5, 279, 2), (88, 5, 143, 2), (91, 5, 280, 2), (92, 5, 144, 1), (95, 5, 281, 1), (96, 5, 145, 3), (100, 5, 289, 3), (101, 5, 146, 2), (104, 5, 291, 2), (105, 5, 147, 1), (108, 5, 292, 1), (109, 5, 148, 1), (112, 5, 293, 1), (113, 5, 149, 1), (116, 5, 296, 1), (117, 5, 150, 1), (120, 5, 297, 1), (121, 5, 151, 1), (124, 5, 298, 1), (125, 5, 152, 1), (128, 5, 299, 1), (129, 5, 153, 2), (133, 5, 300, 2), (134, 5, 154, 3), (138, 5, 301, 3), (139, 5, 155, 2), (142, 5, 308, 2), (143, 5, 156, 2), (146, 5, 309, 2), (147, 5, 157, 2), (150, 5, 310, 2), (151, 5, 158, 3), (154, 5, 311, 3), (155, 5, 159, 2), (158, 5, 315, 2), (159, 5, 160, 2), (162, 5, 316, 2), (163, 5, 161, 3), (166, 5, 317, 3), (167, 5, 162, 1), (170, 5, 318, 1), (171, 5, 163, 2), (174, 5, 320, 2), (175, 5, 164, 2), (178, 5, 321, 2), (179, 5, 165, 1), (182, 5, 322, 1), (183, 5, 166, 0), (186, 5, 323, 0), (187, 5, 167, 1), (190, 5, 324, 1), (191, 5, 168, 2), (194, 5, 328, 2), (195, 5, 169, 3), (198, 5, 334, 3), (199, 5, 170, 2), (202, 5, 335, 2), (203, 5, 171, 0), (206, 5, 336, 0), (207, 5, 172, 1), (210, 5, 341, 1), (211, 5, 173, 1), (214, 5, 342, 1), (215, 5, 174, 2), (218, 5, 343, 2), (219, 5, 175, 2), (222, 5, 347, 2), (223, 5, 176, 2), (226, 5, 348, 2), (227, 5, 177, 1), (230, 5, 350, 1), (231, 5, 178, 5), (234, 5, 355, 5), (235, 5, 179, 5), (238, 5, 356, 5), (239, 5, 180, 4), (243, 5, 357, 4), (244, 5, 181, 1), (247, 5, 366, 1), (248, 5, 182, 1), (251, 5, 367, 1), (252, 5, 183, 2), (255, 5, 368, 2), (256, 5, 184, 0), (259, 5, 370, 0), (260, 5, 185, 0), (263, 5, 371, 0)]
def gk_lk13 : List (Nat × Nat × Nat × Nat) := [(1, 11, 0, 0), (7, 0, 12, 0), (7, 2, 12, 0), (13, 0, 12, 1), (13, 2, 12, 1), (17, 0, 12, 4), (21, 0, 12, 5), (21, 2, 12, 5), (24, 0, 12, 6), (24, 2, 12, 6), (27, 0, 12, 7), (27, 2, 12, 7), (30, 0, 12, 8), (30, 2, 12, 8), (34, 0, 12, 9), (34, 2, 12, 9), (37, 0, 12, 16), (41, 0, 12, 17), (44, 0, 12, 21), (44, 2, 12, 21), (47, 0, 12, 24), (47, 2, 12, 24), (50, 0, 12, 26), (50, 2, 12, 26), (53, 0, 12, 27), (53, 2, 12, 27), (56, 0, 12, 28), (56, 2, 12, 28), (59, 0, 12, 29), (59, 2, 12, 29), (62, 0, 12, 31), (62, 2, 12, 31), (65, 0, 12, 32), (65, 2, 12, 32), (68, 0, 12, 33), (68, 2, 12, 33), (71, 0, 12, 34), (71, 2, 12, 34), (74, 0, 12, 35), (74, 2, 12, 35), (77, 0, 12, 38), (77, 2, 12, 38), (80, 0, 12, 39), (80, 2, 12, 39), (83, 0, 12, 40), (83, 2, 12, 40), (86, 5, 202, 1), (90, 0, 12, 2), (93, 0, 12, 3), (96, 5, 207, 1), (100, 5, 208, 1), (103, 5, 206, 1), (107, 7, 211, 1), (110, 5, 214, 2), (114, 7, 212, 2), (120, 0, 12, 10), (123, 5, 220, 1), (126, 0, 12, 11), (129, 0, 12, 14), (132, 5, 221, 1), (135, 0, 12, 13), (138, 0, 12, 15), (141, 0, 12, 12), (144, 7, 222, 1), (147, 7, 223, 1), (151, 15, 0, 0), (156, 5, 377, 0), (162, 5, 378, 1), (166, 0, 12, 18), (169, 0, 12, 19), (172, 5, 224, 0), (175, 5, 225, 1), (178, 5, 227, 1), (181, 5, 226, 1), (185, 5, 233, 0), (191, 5, 232, 1), (195, 5, 234, 2), (198, 5, 237, 3), (202, 5, 230, 2), (206, 5, 231, 3), (209, 5, 240, 0), (212, 5, 241, 1), (215, 5, 238, 3), (218, 0, 12, 20), (221, 5, 239, 1), (225, 5, 242, 1), (228, 5, 243, 0), (232, 5, 244, 1), (235, 5, 229, 1), (238, 5, 228, 2), (242, 5, 245, 0), (245, 5, 236, 1), (248, 5, 248, 1), (251, 5, 247, 1), (254, 5, 249, 1), (257, 0, 12, 22), (260, 0, 12, 23), (263, 5, 250, 2), (266, 5, 251, 0), (269, 7, 253, 1), (272, 5, 255, 1), (276, 5, 256, 1), (279, 5, 258, 1), (282, 5, 260, 2), (285, 7, 254, 1), (288, 5, 269, 2), (291, 5, 263, 1), (294, 5, 270, 1), (297, 14, 0, 0), (300, 5, 266, 1), (303, 5, 265, 1), (306, 5, 264, 1), (309, 5, 267, 1), (312, 5, 273, 1), (315, 5, 257, 1), (318, 5, 271, 1), (321, 5, 272, 2), (324, 5, 268, 2), (327, 5, 278, 2), (330, 5, 262, 2), (333, 5, 283, 1), (336, 5, 284, 1), (339, 5, 282, 1), (342, 7, 218, 3), (346, 5, 287, 3), (350, 5, 286, 3), (353, 5, 288, 3), (357, 5, 304, 1), (360, 5, 305, 3), (364, 5, 306, 1), (367, 5, 259, 2), (370, 5, 290, 2), (375, 5, 285, 0), (378, 5, 294, 1), (381, 5, 295, 1), (384, 7, 261, 1), (389, 5, 302, 2), (392, 5, 303, 2), (395, 5, 307, 2), (398, 5, 209, 1), (402, 0, 12, 25), (405, 5, 313, 2), (408, 5, 314, 2), (411, 5, 312, 2), (414, 5, 319, 2), (419, 5, 325, 1), (422, 5, 327, 0), (425, 5, 326, 1), (428, 5, 332, 2), (432, 5, 333, 3), (435, 5, 329, 3), (438, 0, 12, 30), (441, 5, 330, 1), (444, 5, 331, 1), (447, 5, 337, 1), (450, 17, 0, 0), (453, 5, 339, 2), (456, 5, 338, 1), (459, 5, 340, 1), (462, 5, 345, 3), (469, 7, 346, 2), (472, 5, 344, 2), (475, 5, 349, 2), (478, 5, 351, 1), (485, 5, 354, 4), (489, 5, 352, 4), (493, 5, 353, 2), (497, 5, 210, 2), (501, 0, 12, 36), (505, 5, 358, 1), (508, 5, 359, 2), (511, 5, 361, 1), (514, 5, 360, 0), (517, 0, 12, 37), (520, 5, 362, 1), (523, 5, 363, 1), (526, 5, 364, 1), (531, 5, 365, 1), (534, 0, 12, 41), (538, 0, 12, 42), (541, 5, 369, 2)]
def gk_lk14 : List (Nat × Nat × Nat × Nat) := []
def gk_lk15 : List (Nat × Nat × Nat × Nat) := [(335, 5, 379, 0), (492, 5, 380, 0), (495, 7, 382, 2), (498, 7, 385, 2), (1059, 7, 389, 3)]
def gk_lk16 : List (Nat × Nat × Nat × Nat) := [(9, 7, 381, 2)]
def gk_lk17 : List (Nat × Nat × Nat × Nat) := [(48, 7, 384, 1), (67, 7, 386, 2), (71, 7, 383, 2), (414, 7, 381, 2)]
end
section
/-! ===== the law: its instructions, the state behind the constructors ===== -/
def sg_b : List Int32 := [105, 99, 101, 32, 98, 101, 97, 114, 115, 32, 115, 104, 111, 114, 101, 32, 119, 97, 121, 32, 98, 101, 115, 105, 100, 101, 32, 119, 97, 108, 107, 101, 114, 32, 119, 101, 105, 103, 104, 115, 32, 97, 116, 32, 119, 111, 114, 115, 101, 32, 104, 111, 117, 114, 32, 98, 101, 116, 116, 101, 114, 32, 115, 101, 110, 100, 32, 116, 111, 32, 115, 116, 101, 112, 32, 102, 114, 111, 115, 116, 32, 116, 104, 97, 119, 32, 97, 110, 121, 32, 119, 104, 101, 110, 32, 105, 110, 32, 119, 101, 116, 32, 108, 111, 111, 112, 32, 101, 110, 100, 32, 115, 116, 111, 112]
def sg_n : Nat := 115
def tg_G : List (List Nat) := [[0, 1000000, 1000000, 1000000, 1000000, 1000000, 1000000, 1000000, 1000000, 1000000, 1000000, 1000000, 1000000, 1000000, 1000000, 1000000, 1000000, 1000000, 1000000, 1000000, 1000000, 1000000, 1000000, 1000000, 1000000, 1000000, 1000000, 1000000, 1000000, 1000000, 1000000, 1000000, 1000000, 1000000, 1000000, 1000000, 1000000, 1000000, 1000000, 1000000, 1000000, 1000000, 1000000, 1000000, 1000000, 1000000, 1000000, 1000000, 1000000, 1000000, 1000000, 1000000, 1000000, 1000000, 1000000, 1000000, 1000000, 1000000, 1000000, 1000000, 1000000], [0, 1, 2, 3, 4, 5, 6, 7, 8, 9, 10, 11, 12, 13, 14, 15, 16, 17, 18, 19, 20, 21, 22, 23, 24, 25, 26, 27, 28, 29, 30, 31, 32, 33, 34, 35, 36, 37, 38, 39, 40, 41, 42, 43, 44, 45, 46, 47, 48, 49, 50, 51, 52, 53, 54, 55, 56, 57, 58, 59, 60], [0, 1, 2, 2, 3, 3, 3, 4, 4, 4, 4, 5, 5, 5, 5, 5, 6, 6, 6, 6, 6, 6, 7, 7, 7, 7, 7, 7, 7, 8, 8, 8, 8, 8, 8, 8, 8, 9, 9, 9, 9, 9, 9, 9, 9, 9, 10, 10, 10, 10, 10, 10, 10, 10, 10, 10, 11, 11, 11, 11, 11], [0, 1, 2, 2, 3, 3, 3, 3, 4, 4, 4, 4, 4, 4, 4, 5, 5, 5, 5, 5, 5, 5, 5, 5, 5, 5, 6, 6, 6, 6, 6, 6, 6, 6, 6, 6, 6, 6, 6, 6, 6, 6, 7, 7, 7, 7, 7, 7, 7, 7, 7, 7, 7, 7, 7, 7, 7, 7, 7, 7, 7], [0, 1, 2, 2, 3, 3, 3, 3, 4, 4, 4, 4, 4, 4, 4, 4, 5, 5, 5, 5, 5, 5, 5, 5, 5, 5, 5, 5, 5, 5, 5, 6, 6, 6, 6, 6, 6, 6, 6, 6, 6, 6, 6, 6, 6, 6, 6, 6, 6, 6, 6, 6, 6, 6, 6, 6, 6, 7, 7, 7, 7], [0, 1, 2, 2, 3, 3, 3, 3, 4, 4, 4, 4, 4, 4, 4, 4, 5, 5, 5, 5, 5, 5, 5, 5, 5, 5, 5, 5, 5, 5, 5, 5, 6, 6, 6, 6, 6, 6, 6, 6, 6, 6, 6, 6, 6, 6, 6, 6, 6, 6, 6, 6, 6, 6, 6, 6, 6, 6, 6, 6, 6], [0, 1, 2, 2, 3, 3, 3, 3, 4, 4, 4, 4, 4, 4, 4, 4, 5, 5, 5, 5, 5, 5, 5, 5, 5, 5, 5, 5, 5, 5, 5, 5, 6, 6, 6, 6, 6, 6, 6, 6, 6, 6, 6, 6, 6, 6, 6, 6, 6, 6, 6, 6, 6, 6, 6, 6, 6, 6, 6, 6, 6]]
def tg (k m : Nat) : Nat := (tg_G.getD k []).getD m 0
/-- the frame of the Reader's constructor: the loop over the text is jumped -/
def rd_lits : List Int64 := [9317, 2262611, 20201029, 23609, 72983685, 773205170, 777297171, 52, 24627813, 278194, 73027762, 628164, 655, 643248, 6897268, 663607, 1497, 762030, 302, 23732, 409072, 5572, 643568]
def rd_ov : List (Nat × rk_V) := [(0, .inl (.long 9317)), (1, .inl (.long 2262611)), (2, .inl (.long 20201029)), (3, .inl (.long 23609)), (4, .inl (.long 72983685)), (5, .inl (.long 773205170)), (6, .inl (.long 777297171)), (7, .inl (.long 52)), (8, .inl (.long 24627813)), (9, .inl (.long 278194)), (10, .inl (.long 73027762)), (11, .inl (.long 628164)), (12, .inl (.long 655)), (13, .inl (.long 643248)), (14, .inl (.long 6897268)), (15, .inl (.long 663607)), (16, .inl (.long 1497)), (17, .inl (.long 762030)), (18, .inl (.long 302)), (19, .inl (.long 23732)), (20, .inl (.long 409072)), (21, .inl (.long 5572)), (22, .inl (.long 643568))]
def rk_rdx : rk_Ext := fun pc ins st => if pc = 35 then (match st.1, st.2.1 with
  | [(2, .inl (.int x2)), (1, .inl (.int x1)), (0, .inr (.inl j))], [] => if x1 = 0 ∧ x2 = 0 then (match st.2.2.2.1[j]? with
    | some (.inl o) => if o.1 = 8 then (match (o.2[1]? : Option rk_V) with
      | some (.inr (.inl k)) => (match st.2.2.2.1[k]? with
        | some (.inr (.long, nn, dd, ov)) => if nn = 23 ∧ ov.isEmpty = true ∧ dd = .inl (.long 0) then some [(99, ([(0, .inr (.inl j))], [], st.2.2.1, st.2.2.2.1.set k (.inr (.long, 23, .inl (.long 0), rd_ov)), st.2.2.2.2.1, st.2.2.2.2.2))] else none
        | _ => none)
      | _ => none) else none
    | _ => none) else none
  | _, _ => none) else none
/-- the frame of the model's plain: its loop is jumped -/
def rk_plx : rk_Ext := fun pc ins st => if pc = 2 then (match st.1, st.2.1 with
  | [(2, .inl (.int x2)), (0, .inr (.inl j)), (1, .inl (.int sv))], [] => if x2 = 0 ∧ 0 ≤ sv.toInt ∧ sv.toInt + 842 ≤ 5894 then (match st.2.2.2.1[j]? with
    | some (.inl o) => if o.1 = 12 then (match (o.2[0]? : Option rk_V) with
      | some (.inr (.inl k)) => (match st.2.2.2.1[k]? with
        | some (.inr (.int, nn, dd, ov)) => if nn = 5894 ∧ dd = .inl (.int 0) then some [(24, ([(0, .inr (.inl j)), (1, .inl (.int sv))], [], st.2.2.1, st.2.2.2.1.set k (.inr (.int, 5894, .inl (.int 0), ov.filter (fun z => decide (z.1 < sv.toInt.toNat) || decide (sv.toInt.toNat + 842 ≤ z.1)))), st.2.2.2.2.1, st.2.2.2.2.2))] else none
        | _ => none)
      | _ => none) else none
    | _ => none) else none
  | _, _ => none) else none
/-- the table of trials, as places that are listed -/
def tg_ov (b n : Nat) : List (Nat × rk_V) := (List.range (b + 1)).flatMap (fun k => (List.range (n + 1)).map (fun t => (61 * k + t, .inl (.int (nI (tg k t))))))
def gk_tx (hp : List rk_H) (k : Nat) (dd : rk_V) (ov : List (Nat × rk_V)) (env : List rk_T) (an ab : rk_V) (lo1 lo2 : Int) (x y : Nat) : List rk_X := match (rk_cut env an (lo1 + x) (lo1 + x)).bind (fun e1 => rk_cut e1 ab (lo2 + y) (lo2 + y)) with
  | some e2 => [(some (.inl (.int (nI (tg (lo2 + y).toNat (lo1 + x).toNat)))), e2, hp.set k (.inr (.int, 427, dd, tg_ov (lo2 + y).toNat (lo1 + x).toNat ++ ov)), 0, 0)]
  | none => []
def gk_ts (as : List rk_V) (env : List rk_T) (hp : List rk_H) : Option rk_O := match as with
  | [.inr (.inl j), an, ab] => match hp[j]? with
    | some (.inl o) => if o.1 = 12 then (match (o.2[32]? : Option rk_V) with
      | some (.inr (.inl k)) => (match hp[k]? with
        | some (.inr (.int, nn, dd, ov)) => if nn = 427 then (match rk_iv env an, rk_iv env ab with
          | some I, some J => if (0 ≤ I.1 ∧ I.2 ≤ 60) ∧ 0 ≤ J.1 ∧ J.2 ≤ 6 then some (0, 0, (List.range (I.2 - I.1 + 1).toNat).flatMap (fun x => (List.range (J.2 - J.1 + 1).toNat).flatMap (fun y => gk_tx hp k dd ov env an ab I.1 J.1 x y))) else none
          | _, _ => none) else none
        | _ => none)
      | _ => none) else none
    | _ => none
  | _ => none
/-- the sums -/
def gk_sum (d f : Nat) (as : List rk_V) (env : List rk_T) (hp : List rk_H) : Option rk_O := if 4 ≤ d then (if f = 344 then gk_ts as env hp else if f = 99 then (if rk_sum env as ≤ gk_m99.2.1 then rk_loop gk_fty gk_cln gk_mci (fun _ _ _ _ => none) rk_rdx gk_m99 200 (0, (rk_args env 0 as, [], env, hp, 0, 0)) else none) else if f = 202 then (if rk_sum env as ≤ gk_m202.2.1 then rk_loop gk_fty gk_cln gk_mci (fun _ _ _ _ => none) rk_plx gk_m202 200 (0, (rk_args env 0 as, [], env, hp, 0, 0)) else none) else none) else none
def gk_la : List (Nat × Instr × Nat) := [(0, .new 7, 3), (3, .dup, 1), (4, .invokespecial 9, 3), (7, .astore_n 1, 1), (8, .new 10, 3), (11, .dup, 1), (12, .invokespecial 12, 3), (15, .astore_n 2, 1), (16, .iconst 0, 1), (17, .istore_n 3, 1)]
def gk_lb : List (Nat × Instr × Nat) := [(2160, .iinc 3 6, 3), (2163, .goto (-2145), 3), (2166, .iconst 1, 1), (2167, .ireturn, 1), (18, .iload_n 3, 1), (19, .aload_n 0, 1), (20, .arraylength, 1), (21, .bipush 6, 2), (23, .isub, 1), (24, .if_icmp .gt 2142, 3)]
def gk_ld : List (Nat × Instr × Nat) := [(27, .aload_n 0, 1), (28, .iload_n 3, 1), (29, .iaload, 1), (30, .bipush 63, 2), (32, .iand, 1), (33, .tableswitch 2127 0 58 #[251, 264, 278, 292, 335, 408, 442, 505, 568, 591, 614, 637, 660, 693, 726, 759, 792, 825, 848, 891, 924, 947, 970, 993, 1016, 1039, 1062, 1095, 1154, 1187, 1220, 1253, 1296, 1329, 1362, 1405, 1428, 1461, 1494, 1517, 1530, 1553, 1586, 1629, 1662, 1675, 1698, 1721, 1754, 1787, 1820, 1843, 1906, 1969, 2022, 2045, 2068, 2101, 2114], 251)]
def gk_lc0 : List (Nat × Instr × Nat) := [(284, .aload_n 1, 1), (285, .invokevirtual 13, 3), (288, .aload_n 2, 1), (289, .invokevirtual 17, 3), (292, .if_icmp .eq 1868, 3), (295, .iconst 0, 1), (296, .ireturn, 1)]
def gk_lc1 : List (Nat × Instr × Nat) := [(297, .aload_n 1, 1), (298, .invokevirtual 18, 3), (301, .aload_n 2, 1), (302, .invokevirtual 22, 3), (305, .lcmp, 1), (306, .ifCond .eq 1854, 3), (309, .iconst 0, 1), (310, .ireturn, 1)]
def gk_lc2 : List (Nat × Instr × Nat) := [(311, .aload_n 1, 1), (312, .invokevirtual 23, 3), (315, .aload_n 2, 1), (316, .invokevirtual 26, 3), (319, .lcmp, 1), (320, .ifCond .eq 1840, 3), (323, .iconst 0, 1), (324, .ireturn, 1)]
def gk_lc3 : List (Nat × Instr × Nat) := [(325, .aload_n 1, 1), (326, .aload_n 0, 1), (327, .iload_n 3, 1), (328, .iconst 1, 1), (329, .iadd, 1), (330, .iaload, 1), (331, .aload_n 0, 1), (332, .iload_n 3, 1), (333, .iconst 2, 1), (334, .iadd, 1), (335, .iaload, 1), (336, .aload_n 0, 1), (337, .iload_n 3, 1), (338, .iconst 3, 1), (339, .iadd, 1), (340, .iaload, 1), (341, .invokevirtual 27, 3), (344, .aload_n 2, 1), (345, .aload_n 0, 1), (346, .iload_n 3, 1), (347, .iconst 1, 1), (348, .iadd, 1), (349, .iaload, 1), (350, .aload_n 0, 1), (351, .iload_n 3, 1), (352, .iconst 2, 1), (353, .iadd, 1), (354, .iaload, 1), (355, .aload_n 0, 1), (356, .iload_n 3, 1), (357, .iconst 3, 1), (358, .iadd, 1), (359, .iaload, 1), (360, .invokevirtual 31, 3), (363, .if_icmp .eq 1797, 3), (366, .iconst 0, 1), (367, .ireturn, 1)]
def gk_lc4 : List (Nat × Instr × Nat) := [(368, .aload_n 1, 1), (369, .aload_n 0, 1), (370, .iload_n 3, 1), (371, .iconst 1, 1), (372, .iadd, 1), (373, .iaload, 1), (374, .aload_n 0, 1), (375, .iload_n 3, 1), (376, .iconst 2, 1), (377, .iadd, 1), (378, .iaload, 1), (379, .aload_n 0, 1), (380, .iload_n 3, 1), (381, .iconst 3, 1), (382, .iadd, 1), (383, .iaload, 1), (384, .i2l, 1), (385, .bipush 32, 2), (387, .lshl, 1), (388, .aload_n 0, 1), (389, .iload_n 3, 1), (390, .iconst 4, 1), (391, .iadd, 1), (392, .iaload, 1), (393, .i2l, 1), (394, .ldc2_w 32, 3), (397, .land, 1), (398, .lor, 1), (399, .invokevirtual 34, 3), (402, .aload_n 2, 1), (403, .aload_n 0, 1), (404, .iload_n 3, 1), (405, .iconst 1, 1), (406, .iadd, 1), (407, .iaload, 1), (408, .aload_n 0, 1), (409, .iload_n 3, 1), (410, .iconst 2, 1), (411, .iadd, 1), (412, .iaload, 1), (413, .aload_n 0, 1), (414, .iload_n 3, 1), (415, .iconst 3, 1), (416, .iadd, 1), (417, .iaload, 1), (418, .i2l, 1), (419, .bipush 32, 2), (421, .lshl, 1), (422, .aload_n 0, 1), (423, .iload_n 3, 1), (424, .iconst 4, 1), (425, .iadd, 1), (426, .iaload, 1), (427, .i2l, 1), (428, .ldc2_w 32, 3), (431, .land, 1), (432, .lor, 1), (433, .invokevirtual 38, 3), (436, .if_icmp .eq 1724, 3), (439, .iconst 0, 1), (440, .ireturn, 1)]
def gk_lc5 : List (Nat × Instr × Nat) := [(441, .aload_n 1, 1), (442, .aload_n 0, 1), (443, .iload_n 3, 1), (444, .iconst 1, 1), (445, .iadd, 1), (446, .iaload, 1), (447, .aload_n 0, 1), (448, .iload_n 3, 1), (449, .iconst 2, 1), (450, .iadd, 1), (451, .iaload, 1), (452, .invokevirtual 39, 3), (455, .aload_n 2, 1), (456, .aload_n 0, 1), (457, .iload_n 3, 1), (458, .iconst 1, 1), (459, .iadd, 1), (460, .iaload, 1), (461, .aload_n 0, 1), (462, .iload_n 3, 1), (463, .iconst 2, 1), (464, .iadd, 1), (465, .iaload, 1), (466, .invokevirtual 43, 3), (469, .lcmp, 1), (470, .ifCond .eq 1690, 3), (473, .iconst 0, 1), (474, .ireturn, 1)]
def gk_lc6 : List (Nat × Instr × Nat) := [(475, .aload_n 1, 1), (476, .aload_n 0, 1), (477, .iload_n 3, 1), (478, .iconst 1, 1), (479, .iadd, 1), (480, .iaload, 1), (481, .aload_n 0, 1), (482, .iload_n 3, 1), (483, .iconst 2, 1), (484, .iadd, 1), (485, .iaload, 1), (486, .aload_n 0, 1), (487, .iload_n 3, 1), (488, .iconst 3, 1), (489, .iadd, 1), (490, .iaload, 1), (491, .aload_n 0, 1), (492, .iload_n 3, 1), (493, .iconst 4, 1), (494, .iadd, 1), (495, .iaload, 1), (496, .aload_n 0, 1), (497, .iload_n 3, 1), (498, .iconst 5, 1), (499, .iadd, 1), (500, .iaload, 1), (501, .invokevirtual 44, 3), (504, .aload_n 2, 1), (505, .aload_n 0, 1), (506, .iload_n 3, 1), (507, .iconst 1, 1), (508, .iadd, 1), (509, .iaload, 1), (510, .aload_n 0, 1), (511, .iload_n 3, 1), (512, .iconst 2, 1), (513, .iadd, 1), (514, .iaload, 1), (515, .aload_n 0, 1), (516, .iload_n 3, 1), (517, .iconst 3, 1), (518, .iadd, 1), (519, .iaload, 1), (520, .aload_n 0, 1), (521, .iload_n 3, 1), (522, .iconst 4, 1), (523, .iadd, 1), (524, .iaload, 1), (525, .aload_n 0, 1), (526, .iload_n 3, 1), (527, .iconst 5, 1), (528, .iadd, 1), (529, .iaload, 1), (530, .invokevirtual 48, 3), (533, .if_icmp .eq 1627, 3), (536, .iconst 0, 1), (537, .ireturn, 1)]
def gk_lc7 : List (Nat × Instr × Nat) := [(538, .aload_n 1, 1), (539, .aload_n 0, 1), (540, .iload_n 3, 1), (541, .iconst 1, 1), (542, .iadd, 1), (543, .iaload, 1), (544, .aload_n 0, 1), (545, .iload_n 3, 1), (546, .iconst 2, 1), (547, .iadd, 1), (548, .iaload, 1), (549, .aload_n 0, 1), (550, .iload_n 3, 1), (551, .iconst 3, 1), (552, .iadd, 1), (553, .iaload, 1), (554, .aload_n 0, 1), (555, .iload_n 3, 1), (556, .iconst 4, 1), (557, .iadd, 1), (558, .iaload, 1), (559, .aload_n 0, 1), (560, .iload_n 3, 1), (561, .iconst 5, 1), (562, .iadd, 1), (563, .iaload, 1), (564, .invokevirtual 49, 3), (567, .aload_n 2, 1), (568, .aload_n 0, 1), (569, .iload_n 3, 1), (570, .iconst 1, 1), (571, .iadd, 1), (572, .iaload, 1), (573, .aload_n 0, 1), (574, .iload_n 3, 1), (575, .iconst 2, 1), (576, .iadd, 1), (577, .iaload, 1), (578, .aload_n 0, 1), (579, .iload_n 3, 1), (580, .iconst 3, 1), (581, .iadd, 1), (582, .iaload, 1), (583, .aload_n 0, 1), (584, .iload_n 3, 1), (585, .iconst 4, 1), (586, .iadd, 1), (587, .iaload, 1), (588, .aload_n 0, 1), (589, .iload_n 3, 1), (590, .iconst 5, 1), (591, .iadd, 1), (592, .iaload, 1), (593, .invokevirtual 53, 3), (596, .if_icmp .eq 1564, 3), (599, .iconst 0, 1), (600, .ireturn, 1)]
def gk_lc8 : List (Nat × Instr × Nat) := [(601, .aload_n 1, 1), (602, .aload_n 0, 1), (603, .iload_n 3, 1), (604, .iconst 1, 1), (605, .iadd, 1), (606, .iaload, 1), (607, .invokevirtual 54, 3), (610, .aload_n 2, 1), (611, .aload_n 0, 1), (612, .iload_n 3, 1), (613, .iconst 1, 1), (614, .iadd, 1), (615, .iaload, 1), (616, .invokevirtual 58, 3), (619, .if_icmp .eq 1541, 3), (622, .iconst 0, 1), (623, .ireturn, 1)]
def gk_lc9 : List (Nat × Instr × Nat) := [(624, .aload_n 1, 1), (625, .aload_n 0, 1), (626, .iload_n 3, 1), (627, .iconst 1, 1), (628, .iadd, 1), (629, .iaload, 1), (630, .invokevirtual 59, 3), (633, .aload_n 2, 1), (634, .aload_n 0, 1), (635, .iload_n 3, 1), (636, .iconst 1, 1), (637, .iadd, 1), (638, .iaload, 1), (639, .invokevirtual 62, 3), (642, .if_icmp .eq 1518, 3), (645, .iconst 0, 1), (646, .ireturn, 1)]
def gk_lc10 : List (Nat × Instr × Nat) := [(647, .aload_n 1, 1), (648, .aload_n 0, 1), (649, .iload_n 3, 1), (650, .iconst 1, 1), (651, .iadd, 1), (652, .iaload, 1), (653, .invokevirtual 63, 3), (656, .aload_n 2, 1), (657, .aload_n 0, 1), (658, .iload_n 3, 1), (659, .iconst 1, 1), (660, .iadd, 1), (661, .iaload, 1), (662, .invokevirtual 66, 3), (665, .if_icmp .eq 1495, 3), (668, .iconst 0, 1), (669, .ireturn, 1)]
def gk_lc11 : List (Nat × Instr × Nat) := [(670, .aload_n 1, 1), (671, .aload_n 0, 1), (672, .iload_n 3, 1), (673, .iconst 1, 1), (674, .iadd, 1), (675, .iaload, 1), (676, .invokevirtual 67, 3), (679, .aload_n 2, 1), (680, .aload_n 0, 1), (681, .iload_n 3, 1), (682, .iconst 1, 1), (683, .iadd, 1), (684, .iaload, 1), (685, .invokevirtual 70, 3), (688, .if_icmp .eq 1472, 3), (691, .iconst 0, 1), (692, .ireturn, 1)]
def gk_lc12 : List (Nat × Instr × Nat) := [(693, .aload_n 1, 1), (694, .aload_n 0, 1), (695, .iload_n 3, 1), (696, .iconst 1, 1), (697, .iadd, 1), (698, .iaload, 1), (699, .aload_n 0, 1), (700, .iload_n 3, 1), (701, .iconst 2, 1), (702, .iadd, 1), (703, .iaload, 1), (704, .invokevirtual 71, 3), (707, .aload_n 2, 1), (708, .aload_n 0, 1), (709, .iload_n 3, 1), (710, .iconst 1, 1), (711, .iadd, 1), (712, .iaload, 1), (713, .aload_n 0, 1), (714, .iload_n 3, 1), (715, .iconst 2, 1), (716, .iadd, 1), (717, .iaload, 1), (718, .invokevirtual 75, 3), (721, .if_icmp .eq 1439, 3), (724, .iconst 0, 1), (725, .ireturn, 1)]
def gk_lc13 : List (Nat × Instr × Nat) := [(726, .aload_n 1, 1), (727, .aload_n 0, 1), (728, .iload_n 3, 1), (729, .iconst 1, 1), (730, .iadd, 1), (731, .iaload, 1), (732, .aload_n 0, 1), (733, .iload_n 3, 1), (734, .iconst 2, 1), (735, .iadd, 1), (736, .iaload, 1), (737, .invokevirtual 76, 3), (740, .aload_n 2, 1), (741, .aload_n 0, 1), (742, .iload_n 3, 1), (743, .iconst 1, 1), (744, .iadd, 1), (745, .iaload, 1), (746, .aload_n 0, 1), (747, .iload_n 3, 1), (748, .iconst 2, 1), (749, .iadd, 1), (750, .iaload, 1), (751, .invokevirtual 79, 3), (754, .if_icmp .eq 1406, 3), (757, .iconst 0, 1), (758, .ireturn, 1)]
def gk_lc14 : List (Nat × Instr × Nat) := [(759, .aload_n 1, 1), (760, .aload_n 0, 1), (761, .iload_n 3, 1), (762, .iconst 1, 1), (763, .iadd, 1), (764, .iaload, 1), (765, .aload_n 0, 1), (766, .iload_n 3, 1), (767, .iconst 2, 1), (768, .iadd, 1), (769, .iaload, 1), (770, .invokevirtual 80, 3), (773, .aload_n 2, 1), (774, .aload_n 0, 1), (775, .iload_n 3, 1), (776, .iconst 1, 1), (777, .iadd, 1), (778, .iaload, 1), (779, .aload_n 0, 1), (780, .iload_n 3, 1), (781, .iconst 2, 1), (782, .iadd, 1), (783, .iaload, 1), (784, .invokevirtual 83, 3), (787, .if_icmp .eq 1373, 3), (790, .iconst 0, 1), (791, .ireturn, 1)]
def gk_lc15 : List (Nat × Instr × Nat) := [(792, .aload_n 1, 1), (793, .aload_n 0, 1), (794, .iload_n 3, 1), (795, .iconst 1, 1), (796, .iadd, 1), (797, .iaload, 1), (798, .aload_n 0, 1), (799, .iload_n 3, 1), (800, .iconst 2, 1), (801, .iadd, 1), (802, .iaload, 1), (803, .invokevirtual 84, 3), (806, .aload_n 2, 1), (807, .aload_n 0, 1), (808, .iload_n 3, 1), (809, .iconst 1, 1), (810, .iadd, 1), (811, .iaload, 1), (812, .aload_n 0, 1), (813, .iload_n 3, 1), (814, .iconst 2, 1), (815, .iadd, 1), (816, .iaload, 1), (817, .invokevirtual 87, 3), (820, .if_icmp .eq 1340, 3), (823, .iconst 0, 1), (824, .ireturn, 1)]
def gk_lc16 : List (Nat × Instr × Nat) := [(825, .aload_n 1, 1), (826, .aload_n 0, 1), (827, .iload_n 3, 1), (828, .iconst 1, 1), (829, .iadd, 1), (830, .iaload, 1), (831, .aload_n 0, 1), (832, .iload_n 3, 1), (833, .iconst 2, 1), (834, .iadd, 1), (835, .iaload, 1), (836, .invokevirtual 88, 3), (839, .aload_n 2, 1), (840, .aload_n 0, 1), (841, .iload_n 3, 1), (842, .iconst 1, 1), (843, .iadd, 1), (844, .iaload, 1), (845, .aload_n 0, 1), (846, .iload_n 3, 1), (847, .iconst 2, 1), (848, .iadd, 1), (849, .iaload, 1), (850, .invokevirtual 91, 3), (853, .if_icmp .eq 1307, 3), (856, .iconst 0, 1), (857, .ireturn, 1)]
def gk_lc17 : List (Nat × Instr × Nat) := [(858, .aload_n 1, 1), (859, .aload_n 0, 1), (860, .iload_n 3, 1), (861, .iconst 1, 1), (862, .iadd, 1), (863, .iaload, 1), (864, .invokevirtual 92, 3), (867, .aload_n 2, 1), (868, .aload_n 0, 1), (869, .iload_n 3, 1), (870, .iconst 1, 1), (871, .iadd, 1), (872, .iaload, 1), (873, .invokevirtual 95, 3), (876, .if_icmp .eq 1284, 3), (879, .iconst 0, 1), (880, .ireturn, 1)]
def gk_lc18 : List (Nat × Instr × Nat) := [(881, .aload_n 1, 1), (882, .aload_n 0, 1), (883, .iload_n 3, 1), (884, .iconst 1, 1), (885, .iadd, 1), (886, .iaload, 1), (887, .aload_n 0, 1), (888, .iload_n 3, 1), (889, .iconst 2, 1), (890, .iadd, 1), (891, .iaload, 1), (892, .aload_n 0, 1), (893, .iload_n 3, 1), (894, .iconst 3, 1), (895, .iadd, 1), (896, .iaload, 1), (897, .invokevirtual 96, 3), (900, .aload_n 2, 1), (901, .aload_n 0, 1), (902, .iload_n 3, 1), (903, .iconst 1, 1), (904, .iadd, 1), (905, .iaload, 1), (906, .aload_n 0, 1), (907, .iload_n 3, 1), (908, .iconst 2, 1), (909, .iadd, 1), (910, .iaload, 1), (911, .aload_n 0, 1), (912, .iload_n 3, 1), (913, .iconst 3, 1), (914, .iadd, 1), (915, .iaload, 1), (916, .invokevirtual 100, 3), (919, .if_icmp .eq 1241, 3), (922, .iconst 0, 1), (923, .ireturn, 1)]
def gk_lc19 : List (Nat × Instr × Nat) := [(924, .aload_n 1, 1), (925, .aload_n 0, 1), (926, .iload_n 3, 1), (927, .iconst 1, 1), (928, .iadd, 1), (929, .iaload, 1), (930, .aload_n 0, 1), (931, .iload_n 3, 1), (932, .iconst 2, 1), (933, .iadd, 1), (934, .iaload, 1), (935, .invokevirtual 101, 3), (938, .aload_n 2, 1), (939, .aload_n 0, 1), (940, .iload_n 3, 1), (941, .iconst 1, 1), (942, .iadd, 1), (943, .iaload, 1), (944, .aload_n 0, 1), (945, .iload_n 3, 1), (946, .iconst 2, 1), (947, .iadd, 1), (948, .iaload, 1), (949, .invokevirtual 104, 3), (952, .if_icmp .eq 1208, 3), (955, .iconst 0, 1), (956, .ireturn, 1)]
def gk_lc20 : List (Nat × Instr × Nat) := [(957, .aload_n 1, 1), (958, .aload_n 0, 1), (959, .iload_n 3, 1), (960, .iconst 1, 1), (961, .iadd, 1), (962, .iaload, 1), (963, .invokevirtual 105, 3), (966, .aload_n 2, 1), (967, .aload_n 0, 1), (968, .iload_n 3, 1), (969, .iconst 1, 1), (970, .iadd, 1), (971, .iaload, 1), (972, .invokevirtual 108, 3), (975, .if_icmp .eq 1185, 3), (978, .iconst 0, 1), (979, .ireturn, 1)]
def gk_lc21 : List (Nat × Instr × Nat) := [(980, .aload_n 1, 1), (981, .aload_n 0, 1), (982, .iload_n 3, 1), (983, .iconst 1, 1), (984, .iadd, 1), (985, .iaload, 1), (986, .invokevirtual 109, 3), (989, .aload_n 2, 1), (990, .aload_n 0, 1), (991, .iload_n 3, 1), (992, .iconst 1, 1), (993, .iadd, 1), (994, .iaload, 1), (995, .invokevirtual 112, 3), (998, .if_icmp .eq 1162, 3), (1001, .iconst 0, 1), (1002, .ireturn, 1)]
def gk_lc22 : List (Nat × Instr × Nat) := [(1003, .aload_n 1, 1), (1004, .aload_n 0, 1), (1005, .iload_n 3, 1), (1006, .iconst 1, 1), (1007, .iadd, 1), (1008, .iaload, 1), (1009, .invokevirtual 113, 3), (1012, .aload_n 2, 1), (1013, .aload_n 0, 1), (1014, .iload_n 3, 1), (1015, .iconst 1, 1), (1016, .iadd, 1), (1017, .iaload, 1), (1018, .invokevirtual 116, 3), (1021, .if_icmp .eq 1139, 3), (1024, .iconst 0, 1), (1025, .ireturn, 1)]
def gk_lc23 : List (Nat × Instr × Nat) := [(1026, .aload_n 1, 1), (1027, .aload_n 0, 1), (1028, .iload_n 3, 1), (1029, .iconst 1, 1), (1030, .iadd, 1), (1031, .iaload, 1), (1032, .invokevirtual 117, 3), (1035, .aload_n 2, 1), (1036, .aload_n 0, 1), (1037, .iload_n 3, 1), (1038, .iconst 1, 1), (1039, .iadd, 1), (1040, .iaload, 1), (1041, .invokevirtual 120, 3), (1044, .if_icmp .eq 1116, 3), (1047, .iconst 0, 1), (1048, .ireturn, 1)]
def gk_lc24 : List (Nat × Instr × Nat) := [(1049, .aload_n 1, 1), (1050, .aload_n 0, 1), (1051, .iload_n 3, 1), (1052, .iconst 1, 1), (1053, .iadd, 1), (1054, .iaload, 1), (1055, .invokevirtual 121, 3), (1058, .aload_n 2, 1), (1059, .aload_n 0, 1), (1060, .iload_n 3, 1), (1061, .iconst 1, 1), (1062, .iadd, 1), (1063, .iaload, 1), (1064, .invokevirtual 124, 3), (1067, .if_icmp .eq 1093, 3), (1070, .iconst 0, 1), (1071, .ireturn, 1)]
def gk_lc25 : List (Nat × Instr × Nat) := [(1072, .aload_n 1, 1), (1073, .aload_n 0, 1), (1074, .iload_n 3, 1), (1075, .iconst 1, 1), (1076, .iadd, 1), (1077, .iaload, 1), (1078, .invokevirtual 125, 3), (1081, .aload_n 2, 1), (1082, .aload_n 0, 1), (1083, .iload_n 3, 1), (1084, .iconst 1, 1), (1085, .iadd, 1), (1086, .iaload, 1), (1087, .invokevirtual 128, 3), (1090, .if_icmp .eq 1070, 3), (1093, .iconst 0, 1), (1094, .ireturn, 1)]
def gk_lc26 : List (Nat × Instr × Nat) := [(1095, .aload_n 1, 1), (1096, .aload_n 0, 1), (1097, .iload_n 3, 1), (1098, .iconst 1, 1), (1099, .iadd, 1), (1100, .iaload, 1), (1101, .aload_n 0, 1), (1102, .iload_n 3, 1), (1103, .iconst 2, 1), (1104, .iadd, 1), (1105, .iaload, 1), (1106, .invokevirtual 129, 3), (1109, .aload_n 2, 1), (1110, .aload_n 0, 1), (1111, .iload_n 3, 1), (1112, .iconst 1, 1), (1113, .iadd, 1), (1114, .iaload, 1), (1115, .aload_n 0, 1), (1116, .iload_n 3, 1), (1117, .iconst 2, 1), (1118, .iadd, 1), (1119, .iaload, 1), (1120, .invokevirtual 133, 3), (1123, .if_icmp .eq 1037, 3), (1126, .iconst 0, 1), (1127, .ireturn, 1)]
def gk_lc27 : List (Nat × Instr × Nat) := [(1128, .aload_n 1, 1), (1129, .aload_n 0, 1), (1130, .iload_n 3, 1), (1131, .iconst 1, 1), (1132, .iadd, 1), (1133, .iaload, 1), (1134, .aload_n 0, 1), (1135, .iload_n 3, 1), (1136, .iconst 2, 1), (1137, .iadd, 1), (1138, .iaload, 1), (1139, .aload_n 0, 1), (1140, .iload_n 3, 1), (1141, .iconst 3, 1), (1142, .iadd, 1), (1143, .iaload, 1), (1144, .ifCond .eq 7, 3), (1147, .iconst 1, 1), (1148, .goto 4, 3), (1151, .iconst 0, 1), (1152, .invokevirtual 134, 3), (1155, .aload_n 2, 1), (1156, .aload_n 0, 1), (1157, .iload_n 3, 1), (1158, .iconst 1, 1), (1159, .iadd, 1), (1160, .iaload, 1), (1161, .aload_n 0, 1), (1162, .iload_n 3, 1), (1163, .iconst 2, 1), (1164, .iadd, 1), (1165, .iaload, 1), (1166, .aload_n 0, 1), (1167, .iload_n 3, 1), (1168, .iconst 3, 1), (1169, .iadd, 1), (1170, .iaload, 1), (1171, .ifCond .eq 7, 3), (1174, .iconst 1, 1), (1175, .goto 4, 3), (1178, .iconst 0, 1), (1179, .invokevirtual 138, 3), (1182, .if_icmp .eq 978, 3), (1185, .iconst 0, 1), (1186, .ireturn, 1)]
def gk_lc28 : List (Nat × Instr × Nat) := [(1187, .aload_n 1, 1), (1188, .aload_n 0, 1), (1189, .iload_n 3, 1), (1190, .iconst 1, 1), (1191, .iadd, 1), (1192, .iaload, 1), (1193, .aload_n 0, 1), (1194, .iload_n 3, 1), (1195, .iconst 2, 1), (1196, .iadd, 1), (1197, .iaload, 1), (1198, .invokevirtual 139, 3), (1201, .aload_n 2, 1), (1202, .aload_n 0, 1), (1203, .iload_n 3, 1), (1204, .iconst 1, 1), (1205, .iadd, 1), (1206, .iaload, 1), (1207, .aload_n 0, 1), (1208, .iload_n 3, 1), (1209, .iconst 2, 1), (1210, .iadd, 1), (1211, .iaload, 1), (1212, .invokevirtual 142, 3), (1215, .if_icmp .eq 945, 3), (1218, .iconst 0, 1), (1219, .ireturn, 1)]
def gk_lc29 : List (Nat × Instr × Nat) := [(1220, .aload_n 1, 1), (1221, .aload_n 0, 1), (1222, .iload_n 3, 1), (1223, .iconst 1, 1), (1224, .iadd, 1), (1225, .iaload, 1), (1226, .aload_n 0, 1), (1227, .iload_n 3, 1), (1228, .iconst 2, 1), (1229, .iadd, 1), (1230, .iaload, 1), (1231, .invokevirtual 143, 3), (1234, .aload_n 2, 1), (1235, .aload_n 0, 1), (1236, .iload_n 3, 1), (1237, .iconst 1, 1), (1238, .iadd, 1), (1239, .iaload, 1), (1240, .aload_n 0, 1), (1241, .iload_n 3, 1), (1242, .iconst 2, 1), (1243, .iadd, 1), (1244, .iaload, 1), (1245, .invokevirtual 146, 3), (1248, .if_icmp .eq 912, 3), (1251, .iconst 0, 1), (1252, .ireturn, 1)]
def gk_lc30 : List (Nat × Instr × Nat) := [(1253, .aload_n 1, 1), (1254, .aload_n 0, 1), (1255, .iload_n 3, 1), (1256, .iconst 1, 1), (1257, .iadd, 1), (1258, .iaload, 1), (1259, .aload_n 0, 1), (1260, .iload_n 3, 1), (1261, .iconst 2, 1), (1262, .iadd, 1), (1263, .iaload, 1), (1264, .invokevirtual 147, 3), (1267, .aload_n 2, 1), (1268, .aload_n 0, 1), (1269, .iload_n 3, 1), (1270, .iconst 1, 1), (1271, .iadd, 1), (1272, .iaload, 1), (1273, .aload_n 0, 1), (1274, .iload_n 3, 1), (1275, .iconst 2, 1), (1276, .iadd, 1), (1277, .iaload, 1), (1278, .invokevirtual 150, 3), (1281, .if_icmp .eq 879, 3), (1284, .iconst 0, 1), (1285, .ireturn, 1)]
def gk_lc31 : List (Nat × Instr × Nat) := [(1286, .aload_n 1, 1), (1287, .aload_n 0, 1), (1288, .iload_n 3, 1), (1289, .iconst 1, 1), (1290, .iadd, 1), (1291, .iaload, 1), (1292, .aload_n 0, 1), (1293, .iload_n 3, 1), (1294, .iconst 2, 1), (1295, .iadd, 1), (1296, .iaload, 1), (1297, .aload_n 0, 1), (1298, .iload_n 3, 1), (1299, .iconst 3, 1), (1300, .iadd, 1), (1301, .iaload, 1), (1302, .invokevirtual 151, 3), (1305, .aload_n 2, 1), (1306, .aload_n 0, 1), (1307, .iload_n 3, 1), (1308, .iconst 1, 1), (1309, .iadd, 1), (1310, .iaload, 1), (1311, .aload_n 0, 1), (1312, .iload_n 3, 1), (1313, .iconst 2, 1), (1314, .iadd, 1), (1315, .iaload, 1), (1316, .aload_n 0, 1), (1317, .iload_n 3, 1), (1318, .iconst 3, 1), (1319, .iadd, 1), (1320, .iaload, 1), (1321, .invokevirtual 154, 3), (1324, .if_icmp .eq 836, 3), (1327, .iconst 0, 1), (1328, .ireturn, 1)]
def gk_lc32 : List (Nat × Instr × Nat) := [(1329, .aload_n 1, 1), (1330, .aload_n 0, 1), (1331, .iload_n 3, 1), (1332, .iconst 1, 1), (1333, .iadd, 1), (1334, .iaload, 1), (1335, .aload_n 0, 1), (1336, .iload_n 3, 1), (1337, .iconst 2, 1), (1338, .iadd, 1), (1339, .iaload, 1), (1340, .invokevirtual 155, 3), (1343, .aload_n 2, 1), (1344, .aload_n 0, 1), (1345, .iload_n 3, 1), (1346, .iconst 1, 1), (1347, .iadd, 1), (1348, .iaload, 1), (1349, .aload_n 0, 1), (1350, .iload_n 3, 1), (1351, .iconst 2, 1), (1352, .iadd, 1), (1353, .iaload, 1), (1354, .invokevirtual 158, 3), (1357, .if_icmp .eq 803, 3), (1360, .iconst 0, 1), (1361, .ireturn, 1)]
def gk_lc33 : List (Nat × Instr × Nat) := [(1362, .aload_n 1, 1), (1363, .aload_n 0, 1), (1364, .iload_n 3, 1), (1365, .iconst 1, 1), (1366, .iadd, 1), (1367, .iaload, 1), (1368, .aload_n 0, 1), (1369, .iload_n 3, 1), (1370, .iconst 2, 1), (1371, .iadd, 1), (1372, .iaload, 1), (1373, .invokevirtual 159, 3), (1376, .aload_n 2, 1), (1377, .aload_n 0, 1), (1378, .iload_n 3, 1), (1379, .iconst 1, 1), (1380, .iadd, 1), (1381, .iaload, 1), (1382, .aload_n 0, 1), (1383, .iload_n 3, 1), (1384, .iconst 2, 1), (1385, .iadd, 1), (1386, .iaload, 1), (1387, .invokevirtual 162, 3), (1390, .if_icmp .eq 770, 3), (1393, .iconst 0, 1), (1394, .ireturn, 1)]
def gk_lc34 : List (Nat × Instr × Nat) := [(1395, .aload_n 1, 1), (1396, .aload_n 0, 1), (1397, .iload_n 3, 1), (1398, .iconst 1, 1), (1399, .iadd, 1), (1400, .iaload, 1), (1401, .aload_n 0, 1), (1402, .iload_n 3, 1), (1403, .iconst 2, 1), (1404, .iadd, 1), (1405, .iaload, 1), (1406, .aload_n 0, 1), (1407, .iload_n 3, 1), (1408, .iconst 3, 1), (1409, .iadd, 1), (1410, .iaload, 1), (1411, .invokevirtual 163, 3), (1414, .aload_n 2, 1), (1415, .aload_n 0, 1), (1416, .iload_n 3, 1), (1417, .iconst 1, 1), (1418, .iadd, 1), (1419, .iaload, 1), (1420, .aload_n 0, 1), (1421, .iload_n 3, 1), (1422, .iconst 2, 1), (1423, .iadd, 1), (1424, .iaload, 1), (1425, .aload_n 0, 1), (1426, .iload_n 3, 1), (1427, .iconst 3, 1), (1428, .iadd, 1), (1429, .iaload, 1), (1430, .invokevirtual 166, 3), (1433, .if_icmp .eq 727, 3), (1436, .iconst 0, 1), (1437, .ireturn, 1)]
def gk_lc35 : List (Nat × Instr × Nat) := [(1438, .aload_n 1, 1), (1439, .aload_n 0, 1), (1440, .iload_n 3, 1), (1441, .iconst 1, 1), (1442, .iadd, 1), (1443, .iaload, 1), (1444, .invokevirtual 167, 3), (1447, .aload_n 2, 1), (1448, .aload_n 0, 1), (1449, .iload_n 3, 1), (1450, .iconst 1, 1), (1451, .iadd, 1), (1452, .iaload, 1), (1453, .invokevirtual 170, 3), (1456, .if_icmp .eq 704, 3), (1459, .iconst 0, 1), (1460, .ireturn, 1)]
def gk_lc36 : List (Nat × Instr × Nat) := [(1461, .aload_n 1, 1), (1462, .aload_n 0, 1), (1463, .iload_n 3, 1), (1464, .iconst 1, 1), (1465, .iadd, 1), (1466, .iaload, 1), (1467, .aload_n 0, 1), (1468, .iload_n 3, 1), (1469, .iconst 2, 1), (1470, .iadd, 1), (1471, .iaload, 1), (1472, .invokevirtual 171, 3), (1475, .aload_n 2, 1), (1476, .aload_n 0, 1), (1477, .iload_n 3, 1), (1478, .iconst 1, 1), (1479, .iadd, 1), (1480, .iaload, 1), (1481, .aload_n 0, 1), (1482, .iload_n 3, 1), (1483, .iconst 2, 1), (1484, .iadd, 1), (1485, .iaload, 1), (1486, .invokevirtual 174, 3), (1489, .if_icmp .eq 671, 3), (1492, .iconst 0, 1), (1493, .ireturn, 1)]
def gk_lc37 : List (Nat × Instr × Nat) := [(1494, .aload_n 1, 1), (1495, .aload_n 0, 1), (1496, .iload_n 3, 1), (1497, .iconst 1, 1), (1498, .iadd, 1), (1499, .iaload, 1), (1500, .aload_n 0, 1), (1501, .iload_n 3, 1), (1502, .iconst 2, 1), (1503, .iadd, 1), (1504, .iaload, 1), (1505, .invokevirtual 175, 3), (1508, .aload_n 2, 1), (1509, .aload_n 0, 1), (1510, .iload_n 3, 1), (1511, .iconst 1, 1), (1512, .iadd, 1), (1513, .iaload, 1), (1514, .aload_n 0, 1), (1515, .iload_n 3, 1), (1516, .iconst 2, 1), (1517, .iadd, 1), (1518, .iaload, 1), (1519, .invokevirtual 178, 3), (1522, .if_icmp .eq 638, 3), (1525, .iconst 0, 1), (1526, .ireturn, 1)]
def gk_lc38 : List (Nat × Instr × Nat) := [(1527, .aload_n 1, 1), (1528, .aload_n 0, 1), (1529, .iload_n 3, 1), (1530, .iconst 1, 1), (1531, .iadd, 1), (1532, .iaload, 1), (1533, .invokevirtual 179, 3), (1536, .aload_n 2, 1), (1537, .aload_n 0, 1), (1538, .iload_n 3, 1), (1539, .iconst 1, 1), (1540, .iadd, 1), (1541, .iaload, 1), (1542, .invokevirtual 182, 3), (1545, .if_icmp .eq 615, 3), (1548, .iconst 0, 1), (1549, .ireturn, 1)]
def gk_lc39 : List (Nat × Instr × Nat) := [(1550, .aload_n 1, 1), (1551, .invokevirtual 183, 3), (1554, .aload_n 2, 1), (1555, .invokevirtual 186, 3), (1558, .if_icmp .eq 602, 3), (1561, .iconst 0, 1), (1562, .ireturn, 1)]
def gk_lc40 : List (Nat × Instr × Nat) := [(1563, .aload_n 1, 1), (1564, .aload_n 0, 1), (1565, .iload_n 3, 1), (1566, .iconst 1, 1), (1567, .iadd, 1), (1568, .iaload, 1), (1569, .invokevirtual 187, 3), (1572, .aload_n 2, 1), (1573, .aload_n 0, 1), (1574, .iload_n 3, 1), (1575, .iconst 1, 1), (1576, .iadd, 1), (1577, .iaload, 1), (1578, .invokevirtual 190, 3), (1581, .if_icmp .eq 579, 3), (1584, .iconst 0, 1), (1585, .ireturn, 1)]
def gk_lc41 : List (Nat × Instr × Nat) := [(1586, .aload_n 1, 1), (1587, .aload_n 0, 1), (1588, .iload_n 3, 1), (1589, .iconst 1, 1), (1590, .iadd, 1), (1591, .iaload, 1), (1592, .aload_n 0, 1), (1593, .iload_n 3, 1), (1594, .iconst 2, 1), (1595, .iadd, 1), (1596, .iaload, 1), (1597, .invokevirtual 191, 3), (1600, .aload_n 2, 1), (1601, .aload_n 0, 1), (1602, .iload_n 3, 1), (1603, .iconst 1, 1), (1604, .iadd, 1), (1605, .iaload, 1), (1606, .aload_n 0, 1), (1607, .iload_n 3, 1), (1608, .iconst 2, 1), (1609, .iadd, 1), (1610, .iaload, 1), (1611, .invokevirtual 194, 3), (1614, .if_icmp .eq 546, 3), (1617, .iconst 0, 1), (1618, .ireturn, 1)]
def gk_lc42 : List (Nat × Instr × Nat) := [(1619, .aload_n 1, 1), (1620, .aload_n 0, 1), (1621, .iload_n 3, 1), (1622, .iconst 1, 1), (1623, .iadd, 1), (1624, .iaload, 1), (1625, .aload_n 0, 1), (1626, .iload_n 3, 1), (1627, .iconst 2, 1), (1628, .iadd, 1), (1629, .iaload, 1), (1630, .aload_n 0, 1), (1631, .iload_n 3, 1), (1632, .iconst 3, 1), (1633, .iadd, 1), (1634, .iaload, 1), (1635, .invokevirtual 195, 3), (1638, .aload_n 2, 1), (1639, .aload_n 0, 1), (1640, .iload_n 3, 1), (1641, .iconst 1, 1), (1642, .iadd, 1), (1643, .iaload, 1), (1644, .aload_n 0, 1), (1645, .iload_n 3, 1), (1646, .iconst 2, 1), (1647, .iadd, 1), (1648, .iaload, 1), (1649, .aload_n 0, 1), (1650, .iload_n 3, 1), (1651, .iconst 3, 1), (1652, .iadd, 1), (1653, .iaload, 1), (1654, .invokevirtual 198, 3), (1657, .if_icmp .eq 503, 3), (1660, .iconst 0, 1), (1661, .ireturn, 1)]
def gk_lc43 : List (Nat × Instr × Nat) := [(1662, .aload_n 1, 1), (1663, .aload_n 0, 1), (1664, .iload_n 3, 1), (1665, .iconst 1, 1), (1666, .iadd, 1), (1667, .iaload, 1), (1668, .aload_n 0, 1), (1669, .iload_n 3, 1), (1670, .iconst 2, 1), (1671, .iadd, 1), (1672, .iaload, 1), (1673, .invokevirtual 199, 3), (1676, .aload_n 2, 1), (1677, .aload_n 0, 1), (1678, .iload_n 3, 1), (1679, .iconst 1, 1), (1680, .iadd, 1), (1681, .iaload, 1), (1682, .aload_n 0, 1), (1683, .iload_n 3, 1), (1684, .iconst 2, 1), (1685, .iadd, 1), (1686, .iaload, 1), (1687, .invokevirtual 202, 3), (1690, .if_icmp .eq 470, 3), (1693, .iconst 0, 1), (1694, .ireturn, 1)]
def gk_lc44 : List (Nat × Instr × Nat) := [(1695, .aload_n 1, 1), (1696, .invokevirtual 203, 3), (1699, .aload_n 2, 1), (1700, .invokevirtual 206, 3), (1703, .if_icmp .eq 457, 3), (1706, .iconst 0, 1), (1707, .ireturn, 1)]
def gk_lc45 : List (Nat × Instr × Nat) := [(1708, .aload_n 1, 1), (1709, .aload_n 0, 1), (1710, .iload_n 3, 1), (1711, .iconst 1, 1), (1712, .iadd, 1), (1713, .iaload, 1), (1714, .invokevirtual 207, 3), (1717, .aload_n 2, 1), (1718, .aload_n 0, 1), (1719, .iload_n 3, 1), (1720, .iconst 1, 1), (1721, .iadd, 1), (1722, .iaload, 1), (1723, .invokevirtual 210, 3), (1726, .if_icmp .eq 434, 3), (1729, .iconst 0, 1), (1730, .ireturn, 1)]
def gk_lc46 : List (Nat × Instr × Nat) := [(1731, .aload_n 1, 1), (1732, .aload_n 0, 1), (1733, .iload_n 3, 1), (1734, .iconst 1, 1), (1735, .iadd, 1), (1736, .iaload, 1), (1737, .invokevirtual 211, 3), (1740, .aload_n 2, 1), (1741, .aload_n 0, 1), (1742, .iload_n 3, 1), (1743, .iconst 1, 1), (1744, .iadd, 1), (1745, .iaload, 1), (1746, .invokevirtual 214, 3), (1749, .if_icmp .eq 411, 3), (1752, .iconst 0, 1), (1753, .ireturn, 1)]
def gk_lc47 : List (Nat × Instr × Nat) := [(1754, .aload_n 1, 1), (1755, .aload_n 0, 1), (1756, .iload_n 3, 1), (1757, .iconst 1, 1), (1758, .iadd, 1), (1759, .iaload, 1), (1760, .aload_n 0, 1), (1761, .iload_n 3, 1), (1762, .iconst 2, 1), (1763, .iadd, 1), (1764, .iaload, 1), (1765, .invokevirtual 215, 3), (1768, .aload_n 2, 1), (1769, .aload_n 0, 1), (1770, .iload_n 3, 1), (1771, .iconst 1, 1), (1772, .iadd, 1), (1773, .iaload, 1), (1774, .aload_n 0, 1), (1775, .iload_n 3, 1), (1776, .iconst 2, 1), (1777, .iadd, 1), (1778, .iaload, 1), (1779, .invokevirtual 218, 3), (1782, .if_icmp .eq 378, 3), (1785, .iconst 0, 1), (1786, .ireturn, 1)]
def gk_lc48 : List (Nat × Instr × Nat) := [(1787, .aload_n 1, 1), (1788, .aload_n 0, 1), (1789, .iload_n 3, 1), (1790, .iconst 1, 1), (1791, .iadd, 1), (1792, .iaload, 1), (1793, .aload_n 0, 1), (1794, .iload_n 3, 1), (1795, .iconst 2, 1), (1796, .iadd, 1), (1797, .iaload, 1), (1798, .invokevirtual 219, 3), (1801, .aload_n 2, 1), (1802, .aload_n 0, 1), (1803, .iload_n 3, 1), (1804, .iconst 1, 1), (1805, .iadd, 1), (1806, .iaload, 1), (1807, .aload_n 0, 1), (1808, .iload_n 3, 1), (1809, .iconst 2, 1), (1810, .iadd, 1), (1811, .iaload, 1), (1812, .invokevirtual 222, 3), (1815, .if_icmp .eq 345, 3), (1818, .iconst 0, 1), (1819, .ireturn, 1)]
def gk_lc49 : List (Nat × Instr × Nat) := [(1820, .aload_n 1, 1), (1821, .aload_n 0, 1), (1822, .iload_n 3, 1), (1823, .iconst 1, 1), (1824, .iadd, 1), (1825, .iaload, 1), (1826, .aload_n 0, 1), (1827, .iload_n 3, 1), (1828, .iconst 2, 1), (1829, .iadd, 1), (1830, .iaload, 1), (1831, .invokevirtual 223, 3), (1834, .aload_n 2, 1), (1835, .aload_n 0, 1), (1836, .iload_n 3, 1), (1837, .iconst 1, 1), (1838, .iadd, 1), (1839, .iaload, 1), (1840, .aload_n 0, 1), (1841, .iload_n 3, 1), (1842, .iconst 2, 1), (1843, .iadd, 1), (1844, .iaload, 1), (1845, .invokevirtual 226, 3), (1848, .if_icmp .eq 312, 3), (1851, .iconst 0, 1), (1852, .ireturn, 1)]
def gk_lc50 : List (Nat × Instr × Nat) := [(1853, .aload_n 1, 1), (1854, .aload_n 0, 1), (1855, .iload_n 3, 1), (1856, .iconst 1, 1), (1857, .iadd, 1), (1858, .iaload, 1), (1859, .invokevirtual 227, 3), (1862, .aload_n 2, 1), (1863, .aload_n 0, 1), (1864, .iload_n 3, 1), (1865, .iconst 1, 1), (1866, .iadd, 1), (1867, .iaload, 1), (1868, .invokevirtual 230, 3), (1871, .if_icmp .eq 289, 3), (1874, .iconst 0, 1), (1875, .ireturn, 1)]
def gk_lc51 : List (Nat × Instr × Nat) := [(1876, .aload_n 1, 1), (1877, .aload_n 0, 1), (1878, .iload_n 3, 1), (1879, .iconst 1, 1), (1880, .iadd, 1), (1881, .iaload, 1), (1882, .aload_n 0, 1), (1883, .iload_n 3, 1), (1884, .iconst 2, 1), (1885, .iadd, 1), (1886, .iaload, 1), (1887, .aload_n 0, 1), (1888, .iload_n 3, 1), (1889, .iconst 3, 1), (1890, .iadd, 1), (1891, .iaload, 1), (1892, .aload_n 0, 1), (1893, .iload_n 3, 1), (1894, .iconst 4, 1), (1895, .iadd, 1), (1896, .iaload, 1), (1897, .aload_n 0, 1), (1898, .iload_n 3, 1), (1899, .iconst 5, 1), (1900, .iadd, 1), (1901, .iaload, 1), (1902, .invokevirtual 231, 3), (1905, .aload_n 2, 1), (1906, .aload_n 0, 1), (1907, .iload_n 3, 1), (1908, .iconst 1, 1), (1909, .iadd, 1), (1910, .iaload, 1), (1911, .aload_n 0, 1), (1912, .iload_n 3, 1), (1913, .iconst 2, 1), (1914, .iadd, 1), (1915, .iaload, 1), (1916, .aload_n 0, 1), (1917, .iload_n 3, 1), (1918, .iconst 3, 1), (1919, .iadd, 1), (1920, .iaload, 1), (1921, .aload_n 0, 1), (1922, .iload_n 3, 1), (1923, .iconst 4, 1), (1924, .iadd, 1), (1925, .iaload, 1), (1926, .aload_n 0, 1), (1927, .iload_n 3, 1), (1928, .iconst 5, 1), (1929, .iadd, 1), (1930, .iaload, 1), (1931, .invokevirtual 234, 3), (1934, .if_icmp .eq 226, 3), (1937, .iconst 0, 1), (1938, .ireturn, 1)]
def gk_lc52 : List (Nat × Instr × Nat) := [(1939, .aload_n 1, 1), (1940, .aload_n 0, 1), (1941, .iload_n 3, 1), (1942, .iconst 1, 1), (1943, .iadd, 1), (1944, .iaload, 1), (1945, .aload_n 0, 1), (1946, .iload_n 3, 1), (1947, .iconst 2, 1), (1948, .iadd, 1), (1949, .iaload, 1), (1950, .aload_n 0, 1), (1951, .iload_n 3, 1), (1952, .iconst 3, 1), (1953, .iadd, 1), (1954, .iaload, 1), (1955, .aload_n 0, 1), (1956, .iload_n 3, 1), (1957, .iconst 4, 1), (1958, .iadd, 1), (1959, .iaload, 1), (1960, .aload_n 0, 1), (1961, .iload_n 3, 1), (1962, .iconst 5, 1), (1963, .iadd, 1), (1964, .iaload, 1), (1965, .invokevirtual 235, 3), (1968, .aload_n 2, 1), (1969, .aload_n 0, 1), (1970, .iload_n 3, 1), (1971, .iconst 1, 1), (1972, .iadd, 1), (1973, .iaload, 1), (1974, .aload_n 0, 1), (1975, .iload_n 3, 1), (1976, .iconst 2, 1), (1977, .iadd, 1), (1978, .iaload, 1), (1979, .aload_n 0, 1), (1980, .iload_n 3, 1), (1981, .iconst 3, 1), (1982, .iadd, 1), (1983, .iaload, 1), (1984, .aload_n 0, 1), (1985, .iload_n 3, 1), (1986, .iconst 4, 1), (1987, .iadd, 1), (1988, .iaload, 1), (1989, .aload_n 0, 1), (1990, .iload_n 3, 1), (1991, .iconst 5, 1), (1992, .iadd, 1), (1993, .iaload, 1), (1994, .invokevirtual 238, 3), (1997, .if_icmp .eq 163, 3), (2000, .iconst 0, 1), (2001, .ireturn, 1)]
def gk_lc53 : List (Nat × Instr × Nat) := [(2002, .aload_n 1, 1), (2003, .aload_n 0, 1), (2004, .iload_n 3, 1), (2005, .iconst 1, 1), (2006, .iadd, 1), (2007, .iaload, 1), (2008, .aload_n 0, 1), (2009, .iload_n 3, 1), (2010, .iconst 2, 1), (2011, .iadd, 1), (2012, .iaload, 1), (2013, .aload_n 0, 1), (2014, .iload_n 3, 1), (2015, .iconst 3, 1), (2016, .iadd, 1), (2017, .iaload, 1), (2018, .aload_n 0, 1), (2019, .iload_n 3, 1), (2020, .iconst 4, 1), (2021, .iadd, 1), (2022, .iaload, 1), (2023, .invokevirtual 239, 3), (2026, .aload_n 2, 1), (2027, .aload_n 0, 1), (2028, .iload_n 3, 1), (2029, .iconst 1, 1), (2030, .iadd, 1), (2031, .iaload, 1), (2032, .aload_n 0, 1), (2033, .iload_n 3, 1), (2034, .iconst 2, 1), (2035, .iadd, 1), (2036, .iaload, 1), (2037, .aload_n 0, 1), (2038, .iload_n 3, 1), (2039, .iconst 3, 1), (2040, .iadd, 1), (2041, .iaload, 1), (2042, .aload_n 0, 1), (2043, .iload_n 3, 1), (2044, .iconst 4, 1), (2045, .iadd, 1), (2046, .iaload, 1), (2047, .invokevirtual 243, 3), (2050, .if_icmp .eq 110, 3), (2053, .iconst 0, 1), (2054, .ireturn, 1)]
def gk_lc54 : List (Nat × Instr × Nat) := [(2055, .aload_n 1, 1), (2056, .aload_n 0, 1), (2057, .iload_n 3, 1), (2058, .iconst 1, 1), (2059, .iadd, 1), (2060, .iaload, 1), (2061, .invokevirtual 244, 3), (2064, .aload_n 2, 1), (2065, .aload_n 0, 1), (2066, .iload_n 3, 1), (2067, .iconst 1, 1), (2068, .iadd, 1), (2069, .iaload, 1), (2070, .invokevirtual 247, 3), (2073, .if_icmp .eq 87, 3), (2076, .iconst 0, 1), (2077, .ireturn, 1)]
def gk_lc55 : List (Nat × Instr × Nat) := [(2078, .aload_n 1, 1), (2079, .aload_n 0, 1), (2080, .iload_n 3, 1), (2081, .iconst 1, 1), (2082, .iadd, 1), (2083, .iaload, 1), (2084, .invokevirtual 248, 3), (2087, .aload_n 2, 1), (2088, .aload_n 0, 1), (2089, .iload_n 3, 1), (2090, .iconst 1, 1), (2091, .iadd, 1), (2092, .iaload, 1), (2093, .invokevirtual 251, 3), (2096, .if_icmp .eq 64, 3), (2099, .iconst 0, 1), (2100, .ireturn, 1)]
def gk_lc56 : List (Nat × Instr × Nat) := [(2101, .aload_n 1, 1), (2102, .aload_n 0, 1), (2103, .iload_n 3, 1), (2104, .iconst 1, 1), (2105, .iadd, 1), (2106, .iaload, 1), (2107, .aload_n 0, 1), (2108, .iload_n 3, 1), (2109, .iconst 2, 1), (2110, .iadd, 1), (2111, .iaload, 1), (2112, .invokevirtual 252, 3), (2115, .aload_n 2, 1), (2116, .aload_n 0, 1), (2117, .iload_n 3, 1), (2118, .iconst 1, 1), (2119, .iadd, 1), (2120, .iaload, 1), (2121, .aload_n 0, 1), (2122, .iload_n 3, 1), (2123, .iconst 2, 1), (2124, .iadd, 1), (2125, .iaload, 1), (2126, .invokevirtual 255, 3), (2129, .if_icmp .eq 31, 3), (2132, .iconst 0, 1), (2133, .ireturn, 1)]
def gk_lc57 : List (Nat × Instr × Nat) := [(2134, .aload_n 1, 1), (2135, .invokevirtual 256, 3), (2138, .aload_n 2, 1), (2139, .invokevirtual 259, 3), (2142, .if_icmp .eq 18, 3), (2145, .iconst 0, 1), (2146, .ireturn, 1)]
def gk_lc58 : List (Nat × Instr × Nat) := [(2147, .aload_n 1, 1), (2148, .invokevirtual 260, 3), (2151, .aload_n 2, 1), (2152, .invokevirtual 263, 3), (2155, .if_icmp .eq 5, 3), (2158, .iconst 0, 1), (2159, .ireturn, 1)]
def gk_lcs : List (Nat × Value) := [(32, .long 4294967295)]
def gk_lM (l : List (Nat × Instr × Nat)) : rk_M2 := (l, 4, gk_lk12, gk_lcs, some .boolean, 999)
def gk_tgl : List Nat := [284, 297, 311, 325, 368, 441, 475, 538, 601, 624, 647, 670, 693, 726, 759, 792, 825, 858, 881, 924, 957, 980, 1003, 1026, 1049, 1072, 1095, 1128, 1187, 1220, 1253, 1286, 1329, 1362, 1395, 1438, 1461, 1494, 1527, 1550, 1563, 1586, 1619, 1662, 1695, 1708, 1731, 1754, 1787, 1820, 1853, 1876, 1939, 2002, 2055, 2078, 2101, 2134, 2147]
def gk_cpc : List (Nat × Nat) := [(284, 0), (297, 1), (311, 2), (325, 3), (368, 4), (441, 5), (475, 6), (538, 7), (601, 8), (624, 9), (647, 10), (670, 11), (693, 12), (726, 13), (759, 14), (792, 15), (825, 16), (858, 17), (881, 18), (924, 19), (957, 20), (980, 21), (1003, 22), (1026, 23), (1049, 24), (1072, 25), (1095, 26), (1128, 27), (1187, 28), (1220, 29), (1253, 30), (1286, 31), (1329, 32), (1362, 33), (1395, 34), (1438, 35), (1461, 36), (1494, 37), (1527, 38), (1550, 39), (1563, 40), (1586, 41), (1619, 42), (1662, 43), (1695, 44), (1708, 45), (1731, 46), (1754, 47), (1787, 48), (1820, 49), (1853, 50), (1876, 51), (1939, 52), (2002, 53), (2055, 54), (2078, 55), (2101, 56), (2134, 57), (2147, 58)]
def gk_atc : List (Nat × Nat) → Nat → Option Nat
  | [], _ => none
  | q :: r, pc => if q.1 = pc then some q.2 else gk_atc r pc
def gk_hp : List rk_H := [.inl (11, [.inl (.int 0), .inl (.long 0), .inl (.long 1), .inr (.inl 1), .inr (.inl 6), .inr (.inl 7), .inr (.inl 8), .inr (.inl 9), .inr (.inl 12), .inr (.inl 13), .inr (.inl 15), .inr (.inl 41), .inr (.inl 67), .inl (.int 0), .inr (.inl 68), .inr (.inl 73), .inr (.inl 185), .inr (.inl 188), .inr (.inl 191), .inl (.int 0)]),
  .inr ((.array .long), 4, .inl .null, [(3, .inr (.inl 5)), (2, .inr (.inl 4)), (1, .inr (.inl 3)), (0, .inr (.inl 2))]),
  .inr (.long, 60, .inl (.long 0), []),
  .inr (.long, 60, .inl (.long 0), []),
  .inr (.long, 60, .inl (.long 0), []),
  .inr (.long, 60, .inl (.long 0), []),
  .inr (.int, 4, .inl (.int 0), []),
  .inr (.int, 4, .inl (.int 0), [(3, .inl (.int (-1))), (2, .inl (.int (-1))), (1, .inl (.int (-1))), (0, .inl (.int (-1)))]),
  .inr (.int, 20, .inl (.int 0), []),
  .inl (8, [.inr (.inl 10), .inr (.inl 11), .inl (.int 0), .inl (.int 0), .inl (.int 0), .inl (.int 0), .inl (.int 0), .inl (.int 0), .inl (.long 0), .inl (.int 0), .inl (.int (-1)), .inl (.int (-1))]),
  .inr (.byte, 900, .inl (.int 0), []),
  .inr (.long, 23, .inl (.long 0), [(0, .inl (.long 9317)), (1, .inl (.long 2262611)), (2, .inl (.long 20201029)), (3, .inl (.long 23609)), (4, .inl (.long 72983685)), (5, .inl (.long 773205170)), (6, .inl (.long 777297171)), (7, .inl (.long 52)), (8, .inl (.long 24627813)), (9, .inl (.long 278194)), (10, .inl (.long 73027762)), (11, .inl (.long 628164)), (12, .inl (.long 655)), (13, .inl (.long 643248)), (14, .inl (.long 6897268)), (15, .inl (.long 663607)), (16, .inl (.long 1497)), (17, .inl (.long 762030)), (18, .inl (.long 302)), (19, .inl (.long 23732)), (20, .inl (.long 409072)), (21, .inl (.long 5572)), (22, .inl (.long 643568))]),
  .inl (4, [.inr (.inl 9), .inl (.int 0)]),
  .inl (10, [.inr (.inl 9), .inr (.inl 14), .inl (.int 0)]),
  .inr (.int, 3, .inl (.int 0), []),
  .inl (3, [.inr (.inl 16), .inr (.inl 17), .inr (.inl 18), .inr (.inl 19), .inr (.inl 20), .inr (.inl 21), .inr (.inl 26), .inr (.inl 34), .inl (.int 0), .inl (.int 0), .inl (.int 2), .inl (.int 4), .inl (.int 1), .inl (.int 0)]),
  .inr (.long, 10, .inl (.long 0), []),
  .inr (.int, 10, .inl (.int 0), []),
  .inr (.int, 10, .inl (.int 0), []),
  .inr (.int, 10, .inl (.int 0), []),
  .inr (.int, 10, .inl (.int 0), []),
  .inl (2, [.inr (.inl 22), .inr (.inl 23), .inr (.inl 24), .inr (.inl 25), .inl (.int 0), .inl (.int 0)]),
  .inr (.int, 10, .inl (.int 0), []),
  .inr (.int, 10, .inl (.int 0), []),
  .inr (.int, 10, .inl (.int 0), []),
  .inr (.int, 200, .inl (.int 0), []),
  .inl (0, [.inr (.inl 27), .inr (.inl 28), .inr (.inl 29), .inr (.inl 30), .inr (.inl 31), .inr (.inl 32), .inr (.inl 33), .inl (.int 0), .inl (.int 0), .inl (.int 0)]),
  .inr (.long, 8, .inl (.long 0), []),
  .inr (.int, 8, .inl (.int 0), []),
  .inr (.int, 8, .inl (.int 0), []),
  .inr (.int, 8, .inl (.int 0), []),
  .inr (.int, 8, .inl (.int 0), []),
  .inr (.int, 8, .inl (.int 0), []),
  .inr (.int, 160, .inl (.int 0), []),
  .inl (9, [.inr (.inl 35), .inr (.inl 36), .inr (.inl 37), .inr (.inl 38), .inr (.inl 39), .inr (.inl 40), .inl (.int 0), .inl (.int 0)]),
  .inr (.int, 30, .inl (.int 0), []),
  .inr (.int, 30, .inl (.int 0), []),
  .inr (.int, 30, .inl (.int 0), []),
  .inr (.int, 30, .inl (.int 0), []),
  .inr (.int, 30, .inl (.int 0), []),
  .inr (.int, 30, .inl (.int 0), []),
  .inl (3, [.inr (.inl 42), .inr (.inl 43), .inr (.inl 44), .inr (.inl 45), .inr (.inl 46), .inr (.inl 47), .inr (.inl 52), .inr (.inl 60), .inl (.int 0), .inl (.int 0), .inl (.int 2), .inl (.int 4), .inl (.int 1), .inl (.int 0)]),
  .inr (.long, 10, .inl (.long 0), []),
  .inr (.int, 10, .inl (.int 0), []),
  .inr (.int, 10, .inl (.int 0), []),
  .inr (.int, 10, .inl (.int 0), []),
  .inr (.int, 10, .inl (.int 0), []),
  .inl (2, [.inr (.inl 48), .inr (.inl 49), .inr (.inl 50), .inr (.inl 51), .inl (.int 0), .inl (.int 0)]),
  .inr (.int, 10, .inl (.int 0), []),
  .inr (.int, 10, .inl (.int 0), []),
  .inr (.int, 10, .inl (.int 0), []),
  .inr (.int, 200, .inl (.int 0), []),
  .inl (0, [.inr (.inl 53), .inr (.inl 54), .inr (.inl 55), .inr (.inl 56), .inr (.inl 57), .inr (.inl 58), .inr (.inl 59), .inl (.int 0), .inl (.int 0), .inl (.int 0)]),
  .inr (.long, 8, .inl (.long 0), []),
  .inr (.int, 8, .inl (.int 0), []),
  .inr (.int, 8, .inl (.int 0), []),
  .inr (.int, 8, .inl (.int 0), []),
  .inr (.int, 8, .inl (.int 0), []),
  .inr (.int, 8, .inl (.int 0), []),
  .inr (.int, 160, .inl (.int 0), []),
  .inl (9, [.inr (.inl 61), .inr (.inl 62), .inr (.inl 63), .inr (.inl 64), .inr (.inl 65), .inr (.inl 66), .inl (.int 0), .inl (.int 0)]),
  .inr (.int, 30, .inl (.int 0), []),
  .inr (.int, 30, .inl (.int 0), []),
  .inr (.int, 30, .inl (.int 0), []),
  .inr (.int, 30, .inl (.int 0), []),
  .inr (.int, 30, .inl (.int 0), []),
  .inr (.int, 30, .inl (.int 0), []),
  .inr ((.object "GooseIce$Lake"), 3, .inl .null, [(2, .inr (.inl 244)), (1, .inr (.inl 218)), (0, .inr (.inl 192))]),
  .inl (6, [.inr (.inl 69), .inr (.inl 70), .inr (.inl 71), .inr (.inl 72), .inl (.int 0), .inl (.int 0)]),
  .inr (.int, 10, .inl (.int 0), []),
  .inr (.int, 11, .inl (.int 0), []),
  .inr (.int, 10, .inl (.int 0), []),
  .inr (.int, 1024, .inl (.int 0), []),
  .inl (7, [.inr (.inl 74), .inr (.inl 75), .inr (.inl 76), .inr (.inl 77), .inr (.inl 78), .inr (.inl 79), .inr (.inl 80), .inl (.int 0), .inl (.int 0), .inl (.int 0), .inl (.int 0)]),
  .inr ((.object "GooseIce$Lake"), 4, .inl .null, [(3, .inr (.inl 159)), (2, .inr (.inl 133)), (1, .inr (.inl 107)), (0, .inr (.inl 81))]),
  .inr (.int, 4, .inl (.int 0), []),
  .inr (.int, 4, .inl (.int 0), []),
  .inr (.int, 4, .inl (.int 0), []),
  .inr (.int, 4, .inl (.int 0), []),
  .inr (.int, 4, .inl (.int 0), []),
  .inr (.int, 12, .inl (.int 0), []),
  .inl (3, [.inr (.inl 82), .inr (.inl 83), .inr (.inl 84), .inr (.inl 85), .inr (.inl 86), .inr (.inl 87), .inr (.inl 92), .inr (.inl 100), .inl (.int 0), .inl (.int 0), .inl (.int 2), .inl (.int 4), .inl (.int 1), .inl (.int 0)]),
  .inr (.long, 10, .inl (.long 0), []),
  .inr (.int, 10, .inl (.int 0), []),
  .inr (.int, 10, .inl (.int 0), []),
  .inr (.int, 10, .inl (.int 0), []),
  .inr (.int, 10, .inl (.int 0), []),
  .inl (2, [.inr (.inl 88), .inr (.inl 89), .inr (.inl 90), .inr (.inl 91), .inl (.int 0), .inl (.int 0)]),
  .inr (.int, 10, .inl (.int 0), []),
  .inr (.int, 10, .inl (.int 0), []),
  .inr (.int, 10, .inl (.int 0), []),
  .inr (.int, 200, .inl (.int 0), []),
  .inl (0, [.inr (.inl 93), .inr (.inl 94), .inr (.inl 95), .inr (.inl 96), .inr (.inl 97), .inr (.inl 98), .inr (.inl 99), .inl (.int 0), .inl (.int 0), .inl (.int 0)]),
  .inr (.long, 8, .inl (.long 0), []),
  .inr (.int, 8, .inl (.int 0), []),
  .inr (.int, 8, .inl (.int 0), []),
  .inr (.int, 8, .inl (.int 0), []),
  .inr (.int, 8, .inl (.int 0), []),
  .inr (.int, 8, .inl (.int 0), []),
  .inr (.int, 160, .inl (.int 0), []),
  .inl (9, [.inr (.inl 101), .inr (.inl 102), .inr (.inl 103), .inr (.inl 104), .inr (.inl 105), .inr (.inl 106), .inl (.int 0), .inl (.int 0)]),
  .inr (.int, 30, .inl (.int 0), []),
  .inr (.int, 30, .inl (.int 0), []),
  .inr (.int, 30, .inl (.int 0), []),
  .inr (.int, 30, .inl (.int 0), []),
  .inr (.int, 30, .inl (.int 0), []),
  .inr (.int, 30, .inl (.int 0), []),
  .inl (3, [.inr (.inl 108), .inr (.inl 109), .inr (.inl 110), .inr (.inl 111), .inr (.inl 112), .inr (.inl 113), .inr (.inl 118), .inr (.inl 126), .inl (.int 0), .inl (.int 0), .inl (.int 2), .inl (.int 4), .inl (.int 1), .inl (.int 0)]),
  .inr (.long, 10, .inl (.long 0), []),
  .inr (.int, 10, .inl (.int 0), []),
  .inr (.int, 10, .inl (.int 0), []),
  .inr (.int, 10, .inl (.int 0), []),
  .inr (.int, 10, .inl (.int 0), []),
  .inl (2, [.inr (.inl 114), .inr (.inl 115), .inr (.inl 116), .inr (.inl 117), .inl (.int 0), .inl (.int 0)]),
  .inr (.int, 10, .inl (.int 0), []),
  .inr (.int, 10, .inl (.int 0), []),
  .inr (.int, 10, .inl (.int 0), []),
  .inr (.int, 200, .inl (.int 0), []),
  .inl (0, [.inr (.inl 119), .inr (.inl 120), .inr (.inl 121), .inr (.inl 122), .inr (.inl 123), .inr (.inl 124), .inr (.inl 125), .inl (.int 0), .inl (.int 0), .inl (.int 0)]),
  .inr (.long, 8, .inl (.long 0), []),
  .inr (.int, 8, .inl (.int 0), []),
  .inr (.int, 8, .inl (.int 0), []),
  .inr (.int, 8, .inl (.int 0), []),
  .inr (.int, 8, .inl (.int 0), []),
  .inr (.int, 8, .inl (.int 0), []),
  .inr (.int, 160, .inl (.int 0), []),
  .inl (9, [.inr (.inl 127), .inr (.inl 128), .inr (.inl 129), .inr (.inl 130), .inr (.inl 131), .inr (.inl 132), .inl (.int 0), .inl (.int 0)]),
  .inr (.int, 30, .inl (.int 0), []),
  .inr (.int, 30, .inl (.int 0), []),
  .inr (.int, 30, .inl (.int 0), []),
  .inr (.int, 30, .inl (.int 0), []),
  .inr (.int, 30, .inl (.int 0), []),
  .inr (.int, 30, .inl (.int 0), []),
  .inl (3, [.inr (.inl 134), .inr (.inl 135), .inr (.inl 136), .inr (.inl 137), .inr (.inl 138), .inr (.inl 139), .inr (.inl 144), .inr (.inl 152), .inl (.int 0), .inl (.int 0), .inl (.int 2), .inl (.int 4), .inl (.int 1), .inl (.int 0)]),
  .inr (.long, 10, .inl (.long 0), []),
  .inr (.int, 10, .inl (.int 0), []),
  .inr (.int, 10, .inl (.int 0), []),
  .inr (.int, 10, .inl (.int 0), []),
  .inr (.int, 10, .inl (.int 0), []),
  .inl (2, [.inr (.inl 140), .inr (.inl 141), .inr (.inl 142), .inr (.inl 143), .inl (.int 0), .inl (.int 0)]),
  .inr (.int, 10, .inl (.int 0), []),
  .inr (.int, 10, .inl (.int 0), []),
  .inr (.int, 10, .inl (.int 0), []),
  .inr (.int, 200, .inl (.int 0), []),
  .inl (0, [.inr (.inl 145), .inr (.inl 146), .inr (.inl 147), .inr (.inl 148), .inr (.inl 149), .inr (.inl 150), .inr (.inl 151), .inl (.int 0), .inl (.int 0), .inl (.int 0)]),
  .inr (.long, 8, .inl (.long 0), []),
  .inr (.int, 8, .inl (.int 0), []),
  .inr (.int, 8, .inl (.int 0), []),
  .inr (.int, 8, .inl (.int 0), []),
  .inr (.int, 8, .inl (.int 0), []),
  .inr (.int, 8, .inl (.int 0), []),
  .inr (.int, 160, .inl (.int 0), []),
  .inl (9, [.inr (.inl 153), .inr (.inl 154), .inr (.inl 155), .inr (.inl 156), .inr (.inl 157), .inr (.inl 158), .inl (.int 0), .inl (.int 0)]),
  .inr (.int, 30, .inl (.int 0), []),
  .inr (.int, 30, .inl (.int 0), []),
  .inr (.int, 30, .inl (.int 0), []),
  .inr (.int, 30, .inl (.int 0), []),
  .inr (.int, 30, .inl (.int 0), []),
  .inr (.int, 30, .inl (.int 0), []),
  .inl (3, [.inr (.inl 160), .inr (.inl 161), .inr (.inl 162), .inr (.inl 163), .inr (.inl 164), .inr (.inl 165), .inr (.inl 170), .inr (.inl 178), .inl (.int 0), .inl (.int 0), .inl (.int 2), .inl (.int 4), .inl (.int 1), .inl (.int 0)]),
  .inr (.long, 10, .inl (.long 0), []),
  .inr (.int, 10, .inl (.int 0), []),
  .inr (.int, 10, .inl (.int 0), []),
  .inr (.int, 10, .inl (.int 0), []),
  .inr (.int, 10, .inl (.int 0), []),
  .inl (2, [.inr (.inl 166), .inr (.inl 167), .inr (.inl 168), .inr (.inl 169), .inl (.int 0), .inl (.int 0)]),
  .inr (.int, 10, .inl (.int 0), []),
  .inr (.int, 10, .inl (.int 0), []),
  .inr (.int, 10, .inl (.int 0), []),
  .inr (.int, 200, .inl (.int 0), []),
  .inl (0, [.inr (.inl 171), .inr (.inl 172), .inr (.inl 173), .inr (.inl 174), .inr (.inl 175), .inr (.inl 176), .inr (.inl 177), .inl (.int 0), .inl (.int 0), .inl (.int 0)]),
  .inr (.long, 8, .inl (.long 0), []),
  .inr (.int, 8, .inl (.int 0), []),
  .inr (.int, 8, .inl (.int 0), []),
  .inr (.int, 8, .inl (.int 0), []),
  .inr (.int, 8, .inl (.int 0), []),
  .inr (.int, 8, .inl (.int 0), []),
  .inr (.int, 160, .inl (.int 0), []),
  .inl (9, [.inr (.inl 179), .inr (.inl 180), .inr (.inl 181), .inr (.inl 182), .inr (.inl 183), .inr (.inl 184), .inl (.int 0), .inl (.int 0)]),
  .inr (.int, 30, .inl (.int 0), []),
  .inr (.int, 30, .inl (.int 0), []),
  .inr (.int, 30, .inl (.int 0), []),
  .inr (.int, 30, .inl (.int 0), []),
  .inr (.int, 30, .inl (.int 0), []),
  .inr (.int, 30, .inl (.int 0), []),
  .inl (1, [.inr (.inl 186), .inr (.inl 187), .inl (.int 0)]),
  .inr (.long, 21, .inl (.long 0), []),
  .inr (.long, 21, .inl (.long 0), []),
  .inl (5, [.inr (.inl 68), .inr (.inl 189), .inr (.inl 190), .inl (.int 0), .inl (.int 0), .inl (.int 0), .inl (.int 0), .inl (.int 0), .inl (.int 0), .inl (.int 0), .inl (.int 0)]),
  .inr (.int, 3, .inl (.int 0), []),
  .inr (.int, 3, .inl (.int 0), []),
  .inr (.int, 5, .inl (.int 0), []),
  .inl (3, [.inr (.inl 193), .inr (.inl 194), .inr (.inl 195), .inr (.inl 196), .inr (.inl 197), .inr (.inl 198), .inr (.inl 203), .inr (.inl 211), .inl (.int 0), .inl (.int 0), .inl (.int 2), .inl (.int 4), .inl (.int 1), .inl (.int 0)]),
  .inr (.long, 10, .inl (.long 0), []),
  .inr (.int, 10, .inl (.int 0), []),
  .inr (.int, 10, .inl (.int 0), []),
  .inr (.int, 10, .inl (.int 0), []),
  .inr (.int, 10, .inl (.int 0), []),
  .inl (2, [.inr (.inl 199), .inr (.inl 200), .inr (.inl 201), .inr (.inl 202), .inl (.int 0), .inl (.int 0)]),
  .inr (.int, 10, .inl (.int 0), []),
  .inr (.int, 10, .inl (.int 0), []),
  .inr (.int, 10, .inl (.int 0), []),
  .inr (.int, 200, .inl (.int 0), []),
  .inl (0, [.inr (.inl 204), .inr (.inl 205), .inr (.inl 206), .inr (.inl 207), .inr (.inl 208), .inr (.inl 209), .inr (.inl 210), .inl (.int 0), .inl (.int 0), .inl (.int 0)]),
  .inr (.long, 8, .inl (.long 0), []),
  .inr (.int, 8, .inl (.int 0), []),
  .inr (.int, 8, .inl (.int 0), []),
  .inr (.int, 8, .inl (.int 0), []),
  .inr (.int, 8, .inl (.int 0), []),
  .inr (.int, 8, .inl (.int 0), []),
  .inr (.int, 160, .inl (.int 0), []),
  .inl (9, [.inr (.inl 212), .inr (.inl 213), .inr (.inl 214), .inr (.inl 215), .inr (.inl 216), .inr (.inl 217), .inl (.int 0), .inl (.int 0)]),
  .inr (.int, 30, .inl (.int 0), []),
  .inr (.int, 30, .inl (.int 0), []),
  .inr (.int, 30, .inl (.int 0), []),
  .inr (.int, 30, .inl (.int 0), []),
  .inr (.int, 30, .inl (.int 0), []),
  .inr (.int, 30, .inl (.int 0), []),
  .inl (3, [.inr (.inl 219), .inr (.inl 220), .inr (.inl 221), .inr (.inl 222), .inr (.inl 223), .inr (.inl 224), .inr (.inl 229), .inr (.inl 237), .inl (.int 0), .inl (.int 0), .inl (.int 2), .inl (.int 4), .inl (.int 1), .inl (.int 0)]),
  .inr (.long, 10, .inl (.long 0), []),
  .inr (.int, 10, .inl (.int 0), []),
  .inr (.int, 10, .inl (.int 0), []),
  .inr (.int, 10, .inl (.int 0), []),
  .inr (.int, 10, .inl (.int 0), []),
  .inl (2, [.inr (.inl 225), .inr (.inl 226), .inr (.inl 227), .inr (.inl 228), .inl (.int 0), .inl (.int 0)]),
  .inr (.int, 10, .inl (.int 0), []),
  .inr (.int, 10, .inl (.int 0), []),
  .inr (.int, 10, .inl (.int 0), []),
  .inr (.int, 200, .inl (.int 0), []),
  .inl (0, [.inr (.inl 230), .inr (.inl 231), .inr (.inl 232), .inr (.inl 233), .inr (.inl 234), .inr (.inl 235), .inr (.inl 236), .inl (.int 0), .inl (.int 0), .inl (.int 0)]),
  .inr (.long, 8, .inl (.long 0), []),
  .inr (.int, 8, .inl (.int 0), []),
  .inr (.int, 8, .inl (.int 0), []),
  .inr (.int, 8, .inl (.int 0), []),
  .inr (.int, 8, .inl (.int 0), []),
  .inr (.int, 8, .inl (.int 0), []),
  .inr (.int, 160, .inl (.int 0), []),
  .inl (9, [.inr (.inl 238), .inr (.inl 239), .inr (.inl 240), .inr (.inl 241), .inr (.inl 242), .inr (.inl 243), .inl (.int 0), .inl (.int 0)]),
  .inr (.int, 30, .inl (.int 0), []),
  .inr (.int, 30, .inl (.int 0), []),
  .inr (.int, 30, .inl (.int 0), []),
  .inr (.int, 30, .inl (.int 0), []),
  .inr (.int, 30, .inl (.int 0), []),
  .inr (.int, 30, .inl (.int 0), []),
  .inl (3, [.inr (.inl 245), .inr (.inl 246), .inr (.inl 247), .inr (.inl 248), .inr (.inl 249), .inr (.inl 250), .inr (.inl 255), .inr (.inl 263), .inl (.int 0), .inl (.int 0), .inl (.int 2), .inl (.int 4), .inl (.int 1), .inl (.int 0)]),
  .inr (.long, 10, .inl (.long 0), []),
  .inr (.int, 10, .inl (.int 0), []),
  .inr (.int, 10, .inl (.int 0), []),
  .inr (.int, 10, .inl (.int 0), []),
  .inr (.int, 10, .inl (.int 0), []),
  .inl (2, [.inr (.inl 251), .inr (.inl 252), .inr (.inl 253), .inr (.inl 254), .inl (.int 0), .inl (.int 0)]),
  .inr (.int, 10, .inl (.int 0), []),
  .inr (.int, 10, .inl (.int 0), []),
  .inr (.int, 10, .inl (.int 0), []),
  .inr (.int, 200, .inl (.int 0), []),
  .inl (0, [.inr (.inl 256), .inr (.inl 257), .inr (.inl 258), .inr (.inl 259), .inr (.inl 260), .inr (.inl 261), .inr (.inl 262), .inl (.int 0), .inl (.int 0), .inl (.int 0)]),
  .inr (.long, 8, .inl (.long 0), []),
  .inr (.int, 8, .inl (.int 0), []),
  .inr (.int, 8, .inl (.int 0), []),
  .inr (.int, 8, .inl (.int 0), []),
  .inr (.int, 8, .inl (.int 0), []),
  .inr (.int, 8, .inl (.int 0), []),
  .inr (.int, 160, .inl (.int 0), []),
  .inl (9, [.inr (.inl 264), .inr (.inl 265), .inr (.inl 266), .inr (.inl 267), .inr (.inl 268), .inr (.inl 269), .inl (.int 0), .inl (.int 0)]),
  .inr (.int, 30, .inl (.int 0), []),
  .inr (.int, 30, .inl (.int 0), []),
  .inr (.int, 30, .inl (.int 0), []),
  .inr (.int, 30, .inl (.int 0), []),
  .inr (.int, 30, .inl (.int 0), []),
  .inr (.int, 30, .inl (.int 0), []),
  .inl (12, [.inr (.inl 271), .inr (.inl 272), .inl (.int 0), .inl (.long 0), .inl (.long 1), .inr (.inl 273), .inr (.inl 274), .inr (.inl 275), .inr (.inl 276), .inr (.inl 277), .inl (.int 0), .inl (.int 0), .inl (.int 0), .inl (.int 0), .inl (.int 0), .inl (.int 0), .inl (.int (-1)), .inl (.int (-1)), .inl (.int 0), .inl (.int 0), .inl (.int 0), .inr (.inl 278), .inl (.int 0), .inl (.int 0), .inr (.inl 279), .inl (.int 0), .inr (.inl 280), .inr (.inl 281), .inr (.inl 282), .inr (.inl 283), .inl (.int 0), .inr (.inl 284), .inr (.inl 285), .inr (.inl 286), .inr (.inl 287), .inr (.inl 288), .inl (.int 0), .inl (.int 0), .inr (.inl 289), .inr (.inl 290), .inr (.inl 291), .inl (.int 0), .inl (.int 0)]),
  .inr (.int, 5894, .inl (.int 0), [(6, .inl (.int (-1))), (4, .inl (.int 1)), (3, .inl (.int 4)), (2, .inl (.int 2))]),
  .inr (.long, 108, .inl (.long 0), []),
  .inr (.int, 4, .inl (.int 0), []),
  .inr (.int, 4, .inl (.int 0), [(3, .inl (.int (-1))), (2, .inl (.int (-1))), (1, .inl (.int (-1))), (0, .inl (.int (-1)))]),
  .inr (.long, 240, .inl (.long 0), []),
  .inr (.byte, 900, .inl (.int 0), []),
  .inr (.byte, 900, .inl (.int 0), []),
  .inr (.int, 3, .inl (.int 0), []),
  .inr (.int, 10, .inl (.int 0), []),
  .inr (.int, 4, .inl (.int 0), []),
  .inr (.int, 4, .inl (.int 0), []),
  .inr (.int, 4, .inl (.int 0), []),
  .inr (.int, 4, .inl (.int 0), []),
  .inr (.int, 256, .inl (.int 0), []),
  .inr (.int, 427, .inl (.int 0), []),
  .inr (.int, 10, .inl (.int 0), []),
  .inr (.long, 21, .inl (.long 0), []),
  .inr (.long, 21, .inl (.long 0), []),
  .inr (.int, 80, .inl (.int 0), []),
  .inr (.int, 5, .inl (.int 0), []),
  .inr (.int, 5, .inl (.int 0), [])]
def gk_env (lo hi : Int) : List rk_T := [(0, -2147483648, 2147483647), (0, -2147483648, 2147483647), (0, -2147483648, 2147483647), (0, -2147483648, 2147483647), (0, -2147483648, 2147483647), (0, -2147483648, 2147483647), (2, 0, 0), (0, lo, hi), (2, 0, 0)]
def gk_S (v : Nat) : rk_S := ([(3, .inl (.int 0)), (2, .inr (.inl 270)), (1, .inr (.inl 0)), (0, .inr (.inr (.inl 6)))], [], gk_env 6 6 ++ [(0, (v : Int), (v : Int))], gk_hp, 292, 17714)
def gk_S16 (lo hi : Int) : rk_S := ([(2, .inr (.inl 270)), (1, .inr (.inl 0)), (0, .inr (.inr (.inl 6)))], [], gk_env lo hi, gk_hp, 292, 17714)
def gk_S33 : rk_S := ([(3, .inl (.int 0)), (2, .inr (.inl 270)), (1, .inr (.inl 0)), (0, .inr (.inr (.inl 6)))], [.inr (.inr (.inl 9))], gk_env 6 6 ++ [(0, 0, 63)], gk_hp, 292, 17714)
def gk_Sd : rk_S := ([(3, .inl (.int 0)), (2, .inr (.inl 270)), (1, .inr (.inl 0)), (0, .inr (.inr (.inl 6)))], [], gk_env 6 6 ++ [(0, 0, 63)], gk_hp, 292, 17714)
def gk_h126 : List rk_H := [.inl (11, [.inl (.int 0), .inl (.long 0), .inl (.long 1), .inr (.inl 1), .inr (.inl 6), .inr (.inl 7), .inr (.inl 8), .inr (.inl 9), .inr (.inl 12), .inr (.inl 13), .inr (.inl 15), .inr (.inl 41), .inr (.inl 67), .inl (.int 0), .inr (.inl 68), .inr (.inl 73), .inr (.inl 185), .inr (.inl 188), .inr (.inl 191), .inl (.int 0)]),
  .inr ((.array .long), 4, .inl .null, [(3, .inr (.inl 5)), (2, .inr (.inl 4)), (1, .inr (.inl 3)), (0, .inr (.inl 2))]),
  .inr (.long, 60, .inl (.long 0), []),
  .inr (.long, 60, .inl (.long 0), []),
  .inr (.long, 60, .inl (.long 0), []),
  .inr (.long, 60, .inl (.long 0), []),
  .inr (.int, 4, .inl (.int 0), []),
  .inr (.int, 4, .inl (.int 0), [(3, .inl (.int (-1))), (2, .inl (.int (-1))), (1, .inl (.int (-1))), (0, .inl (.int (-1)))]),
  .inr (.int, 20, .inl (.int 0), []),
  .inl (8, [.inr (.inl 10), .inr (.inl 11), .inl (.int 0), .inl (.int 0), .inl (.int 0), .inl (.int 0), .inl (.int 0), .inl (.int 0), .inl (.long 0), .inl (.int 0), .inl (.int (-1)), .inl (.int (-1))]),
  .inr (.byte, 900, .inl (.int 0), []),
  .inr (.long, 23, .inl (.long 0), [(0, .inl (.long 9317)), (1, .inl (.long 2262611)), (2, .inl (.long 20201029)), (3, .inl (.long 23609)), (4, .inl (.long 72983685)), (5, .inl (.long 773205170)), (6, .inl (.long 777297171)), (7, .inl (.long 52)), (8, .inl (.long 24627813)), (9, .inl (.long 278194)), (10, .inl (.long 73027762)), (11, .inl (.long 628164)), (12, .inl (.long 655)), (13, .inl (.long 643248)), (14, .inl (.long 6897268)), (15, .inl (.long 663607)), (16, .inl (.long 1497)), (17, .inl (.long 762030)), (18, .inl (.long 302)), (19, .inl (.long 23732)), (20, .inl (.long 409072)), (21, .inl (.long 5572)), (22, .inl (.long 643568))]),
  .inl (4, [.inr (.inl 9), .inl (.int 0)]),
  .inl (10, [.inr (.inl 9), .inr (.inl 14), .inl (.int 0)]),
  .inr (.int, 3, .inl (.int 0), []),
  .inl (3, [.inr (.inl 16), .inr (.inl 17), .inr (.inl 18), .inr (.inl 19), .inr (.inl 20), .inr (.inl 21), .inr (.inl 26), .inr (.inl 34), .inl (.int 0), .inl (.int 0), .inl (.int 2), .inl (.int 4), .inl (.int 1), .inl (.int 0)]),
  .inr (.long, 10, .inl (.long 0), []),
  .inr (.int, 10, .inl (.int 0), []),
  .inr (.int, 10, .inl (.int 0), []),
  .inr (.int, 10, .inl (.int 0), []),
  .inr (.int, 10, .inl (.int 0), []),
  .inl (2, [.inr (.inl 22), .inr (.inl 23), .inr (.inl 24), .inr (.inl 25), .inl (.int 0), .inl (.int 0)]),
  .inr (.int, 10, .inl (.int 0), []),
  .inr (.int, 10, .inl (.int 0), []),
  .inr (.int, 10, .inl (.int 0), []),
  .inr (.int, 200, .inl (.int 0), []),
  .inl (0, [.inr (.inl 27), .inr (.inl 28), .inr (.inl 29), .inr (.inl 30), .inr (.inl 31), .inr (.inl 32), .inr (.inl 33), .inl (.int 0), .inl (.int 0), .inl (.int 0)]),
  .inr (.long, 8, .inl (.long 0), []),
  .inr (.int, 8, .inl (.int 0), []),
  .inr (.int, 8, .inl (.int 0), []),
  .inr (.int, 8, .inl (.int 0), []),
  .inr (.int, 8, .inl (.int 0), []),
  .inr (.int, 8, .inl (.int 0), []),
  .inr (.int, 160, .inl (.int 0), []),
  .inl (9, [.inr (.inl 35), .inr (.inl 36), .inr (.inl 37), .inr (.inl 38), .inr (.inl 39), .inr (.inl 40), .inl (.int 0), .inl (.int 0)]),
  .inr (.int, 30, .inl (.int 0), []),
  .inr (.int, 30, .inl (.int 0), []),
  .inr (.int, 30, .inl (.int 0), []),
  .inr (.int, 30, .inl (.int 0), []),
  .inr (.int, 30, .inl (.int 0), []),
  .inr (.int, 30, .inl (.int 0), []),
  .inl (3, [.inr (.inl 42), .inr (.inl 43), .inr (.inl 44), .inr (.inl 45), .inr (.inl 46), .inr (.inl 47), .inr (.inl 52), .inr (.inl 60), .inl (.int 0), .inl (.int 0), .inl (.int 2), .inl (.int 4), .inl (.int 1), .inl (.int 0)]),
  .inr (.long, 10, .inl (.long 0), []),
  .inr (.int, 10, .inl (.int 0), []),
  .inr (.int, 10, .inl (.int 0), []),
  .inr (.int, 10, .inl (.int 0), []),
  .inr (.int, 10, .inl (.int 0), []),
  .inl (2, [.inr (.inl 48), .inr (.inl 49), .inr (.inl 50), .inr (.inl 51), .inl (.int 0), .inl (.int 0)]),
  .inr (.int, 10, .inl (.int 0), []),
  .inr (.int, 10, .inl (.int 0), []),
  .inr (.int, 10, .inl (.int 0), []),
  .inr (.int, 200, .inl (.int 0), []),
  .inl (0, [.inr (.inl 53), .inr (.inl 54), .inr (.inl 55), .inr (.inl 56), .inr (.inl 57), .inr (.inl 58), .inr (.inl 59), .inl (.int 0), .inl (.int 0), .inl (.int 0)]),
  .inr (.long, 8, .inl (.long 0), []),
  .inr (.int, 8, .inl (.int 0), []),
  .inr (.int, 8, .inl (.int 0), []),
  .inr (.int, 8, .inl (.int 0), []),
  .inr (.int, 8, .inl (.int 0), []),
  .inr (.int, 8, .inl (.int 0), []),
  .inr (.int, 160, .inl (.int 0), []),
  .inl (9, [.inr (.inl 61), .inr (.inl 62), .inr (.inl 63), .inr (.inl 64), .inr (.inl 65), .inr (.inl 66), .inl (.int 0), .inl (.int 0)]),
  .inr (.int, 30, .inl (.int 0), []),
  .inr (.int, 30, .inl (.int 0), []),
  .inr (.int, 30, .inl (.int 0), []),
  .inr (.int, 30, .inl (.int 0), []),
  .inr (.int, 30, .inl (.int 0), []),
  .inr (.int, 30, .inl (.int 0), []),
  .inr ((.object "GooseIce$Lake"), 3, .inl .null, [(2, .inr (.inl 244)), (1, .inr (.inl 218)), (0, .inr (.inl 192))]),
  .inl (6, [.inr (.inl 69), .inr (.inl 70), .inr (.inl 71), .inr (.inl 72), .inl (.int 0), .inl (.int 0)]),
  .inr (.int, 10, .inl (.int 0), []),
  .inr (.int, 11, .inl (.int 0), []),
  .inr (.int, 10, .inl (.int 0), []),
  .inr (.int, 1024, .inl (.int 0), []),
  .inl (7, [.inr (.inl 74), .inr (.inl 75), .inr (.inl 76), .inr (.inl 77), .inr (.inl 78), .inr (.inl 79), .inr (.inl 80), .inl (.int 0), .inl (.int 0), .inl (.int 0), .inl (.int 0)]),
  .inr ((.object "GooseIce$Lake"), 4, .inl .null, [(3, .inr (.inl 159)), (2, .inr (.inl 133)), (1, .inr (.inl 107)), (0, .inr (.inl 81))]),
  .inr (.int, 4, .inl (.int 0), []),
  .inr (.int, 4, .inl (.int 0), []),
  .inr (.int, 4, .inl (.int 0), []),
  .inr (.int, 4, .inl (.int 0), []),
  .inr (.int, 4, .inl (.int 0), []),
  .inr (.int, 12, .inl (.int 0), []),
  .inl (3, [.inr (.inl 82), .inr (.inl 83), .inr (.inl 84), .inr (.inl 85), .inr (.inl 86), .inr (.inl 87), .inr (.inl 92), .inr (.inl 100), .inl (.int 0), .inl (.int 0), .inl (.int 2), .inl (.int 4), .inl (.int 1), .inl (.int 0)]),
  .inr (.long, 10, .inl (.long 0), []),
  .inr (.int, 10, .inl (.int 0), []),
  .inr (.int, 10, .inl (.int 0), []),
  .inr (.int, 10, .inl (.int 0), []),
  .inr (.int, 10, .inl (.int 0), []),
  .inl (2, [.inr (.inl 88), .inr (.inl 89), .inr (.inl 90), .inr (.inl 91), .inl (.int 0), .inl (.int 0)]),
  .inr (.int, 10, .inl (.int 0), []),
  .inr (.int, 10, .inl (.int 0), []),
  .inr (.int, 10, .inl (.int 0), []),
  .inr (.int, 200, .inl (.int 0), []),
  .inl (0, [.inr (.inl 93), .inr (.inl 94), .inr (.inl 95), .inr (.inl 96), .inr (.inl 97), .inr (.inl 98), .inr (.inl 99), .inl (.int 0), .inl (.int 0), .inl (.int 0)]),
  .inr (.long, 8, .inl (.long 0), []),
  .inr (.int, 8, .inl (.int 0), []),
  .inr (.int, 8, .inl (.int 0), []),
  .inr (.int, 8, .inl (.int 0), []),
  .inr (.int, 8, .inl (.int 0), []),
  .inr (.int, 8, .inl (.int 0), []),
  .inr (.int, 160, .inl (.int 0), []),
  .inl (9, [.inr (.inl 101), .inr (.inl 102), .inr (.inl 103), .inr (.inl 104), .inr (.inl 105), .inr (.inl 106), .inl (.int 0), .inl (.int 0)]),
  .inr (.int, 30, .inl (.int 0), []),
  .inr (.int, 30, .inl (.int 0), []),
  .inr (.int, 30, .inl (.int 0), []),
  .inr (.int, 30, .inl (.int 0), []),
  .inr (.int, 30, .inl (.int 0), []),
  .inr (.int, 30, .inl (.int 0), []),
  .inl (3, [.inr (.inl 108), .inr (.inl 109), .inr (.inl 110), .inr (.inl 111), .inr (.inl 112), .inr (.inl 113), .inr (.inl 118), .inr (.inl 126), .inl (.int 0), .inl (.int 0), .inl (.int 2), .inl (.int 4), .inl (.int 1), .inl (.int 0)]),
  .inr (.long, 10, .inl (.long 0), []),
  .inr (.int, 10, .inl (.int 0), []),
  .inr (.int, 10, .inl (.int 0), []),
  .inr (.int, 10, .inl (.int 0), []),
  .inr (.int, 10, .inl (.int 0), []),
  .inl (2, [.inr (.inl 114), .inr (.inl 115), .inr (.inl 116), .inr (.inl 117), .inl (.int 0), .inl (.int 0)]),
  .inr (.int, 10, .inl (.int 0), []),
  .inr (.int, 10, .inl (.int 0), []),
  .inr (.int, 10, .inl (.int 0), []),
  .inr (.int, 200, .inl (.int 0), []),
  .inl (0, [.inr (.inl 119), .inr (.inl 120), .inr (.inl 121), .inr (.inl 122), .inr (.inl 123), .inr (.inl 124), .inr (.inl 125), .inl (.int 0), .inl (.int 0), .inl (.int 0)]),
  .inr (.long, 8, .inl (.long 0), []),
  .inr (.int, 8, .inl (.int 0), []),
  .inr (.int, 8, .inl (.int 0), []),
  .inr (.int, 8, .inl (.int 0), []),
  .inr (.int, 8, .inl (.int 0), []),
  .inr (.int, 8, .inl (.int 0), []),
  .inr (.int, 160, .inl (.int 0), []),
  .inl (9, [.inr (.inl 127), .inr (.inl 128), .inr (.inl 129), .inr (.inl 130), .inr (.inl 131), .inr (.inl 132), .inl (.int 0), .inl (.int 0)]),
  .inr (.int, 30, .inl (.int 0), []),
  .inr (.int, 30, .inl (.int 0), []),
  .inr (.int, 30, .inl (.int 0), []),
  .inr (.int, 30, .inl (.int 0), []),
  .inr (.int, 30, .inl (.int 0), []),
  .inr (.int, 30, .inl (.int 0), []),
  .inl (3, [.inr (.inl 134), .inr (.inl 135), .inr (.inl 136), .inr (.inl 137), .inr (.inl 138), .inr (.inl 139), .inr (.inl 144), .inr (.inl 152), .inl (.int 0), .inl (.int 0), .inl (.int 2), .inl (.int 4), .inl (.int 1), .inl (.int 0)]),
  .inr (.long, 10, .inl (.long 0), []),
  .inr (.int, 10, .inl (.int 0), []),
  .inr (.int, 10, .inl (.int 0), []),
  .inr (.int, 10, .inl (.int 0), []),
  .inr (.int, 10, .inl (.int 0), []),
  .inl (2, [.inr (.inl 140), .inr (.inl 141), .inr (.inl 142), .inr (.inl 143), .inl (.int 0), .inl (.int 0)]),
  .inr (.int, 10, .inl (.int 0), []),
  .inr (.int, 10, .inl (.int 0), []),
  .inr (.int, 10, .inl (.int 0), []),
  .inr (.int, 200, .inl (.int 0), []),
  .inl (0, [.inr (.inl 145), .inr (.inl 146), .inr (.inl 147), .inr (.inl 148), .inr (.inl 149), .inr (.inl 150), .inr (.inl 151), .inl (.int 0), .inl (.int 0), .inl (.int 0)]),
  .inr (.long, 8, .inl (.long 0), []),
  .inr (.int, 8, .inl (.int 0), []),
  .inr (.int, 8, .inl (.int 0), []),
  .inr (.int, 8, .inl (.int 0), []),
  .inr (.int, 8, .inl (.int 0), []),
  .inr (.int, 8, .inl (.int 0), []),
  .inr (.int, 160, .inl (.int 0), []),
  .inl (9, [.inr (.inl 153), .inr (.inl 154), .inr (.inl 155), .inr (.inl 156), .inr (.inl 157), .inr (.inl 158), .inl (.int 0), .inl (.int 0)]),
  .inr (.int, 30, .inl (.int 0), []),
  .inr (.int, 30, .inl (.int 0), []),
  .inr (.int, 30, .inl (.int 0), []),
  .inr (.int, 30, .inl (.int 0), []),
  .inr (.int, 30, .inl (.int 0), []),
  .inr (.int, 30, .inl (.int 0), []),
  .inl (3, [.inr (.inl 160), .inr (.inl 161), .inr (.inl 162), .inr (.inl 163), .inr (.inl 164), .inr (.inl 165), .inr (.inl 170), .inr (.inl 178), .inl (.int 0), .inl (.int 0), .inl (.int 2), .inl (.int 4), .inl (.int 1), .inl (.int 0)]),
  .inr (.long, 10, .inl (.long 0), []),
  .inr (.int, 10, .inl (.int 0), []),
  .inr (.int, 10, .inl (.int 0), []),
  .inr (.int, 10, .inl (.int 0), []),
  .inr (.int, 10, .inl (.int 0), []),
  .inl (2, [.inr (.inl 166), .inr (.inl 167), .inr (.inl 168), .inr (.inl 169), .inl (.int 0), .inl (.int 0)]),
  .inr (.int, 10, .inl (.int 0), []),
  .inr (.int, 10, .inl (.int 0), []),
  .inr (.int, 10, .inl (.int 0), []),
  .inr (.int, 200, .inl (.int 0), []),
  .inl (0, [.inr (.inl 171), .inr (.inl 172), .inr (.inl 173), .inr (.inl 174), .inr (.inl 175), .inr (.inl 176), .inr (.inl 177), .inl (.int 0), .inl (.int 0), .inl (.int 0)]),
  .inr (.long, 8, .inl (.long 0), []),
  .inr (.int, 8, .inl (.int 0), []),
  .inr (.int, 8, .inl (.int 0), []),
  .inr (.int, 8, .inl (.int 0), []),
  .inr (.int, 8, .inl (.int 0), []),
  .inr (.int, 8, .inl (.int 0), []),
  .inr (.int, 160, .inl (.int 0), []),
  .inl (9, [.inr (.inl 179), .inr (.inl 180), .inr (.inl 181), .inr (.inl 182), .inr (.inl 183), .inr (.inl 184), .inl (.int 0), .inl (.int 0)]),
  .inr (.int, 30, .inl (.int 0), []),
  .inr (.int, 30, .inl (.int 0), []),
  .inr (.int, 30, .inl (.int 0), []),
  .inr (.int, 30, .inl (.int 0), []),
  .inr (.int, 30, .inl (.int 0), []),
  .inr (.int, 30, .inl (.int 0), []),
  .inl (1, [.inr (.inl 186), .inr (.inl 187), .inl (.int 0)]),
  .inr (.long, 21, .inl (.long 0), []),
  .inr (.long, 21, .inl (.long 0), []),
  .inl (5, [.inr (.inl 68), .inr (.inl 189), .inr (.inl 190), .inl (.int 0), .inl (.int 0), .inl (.int 0), .inl (.int 0), .inl (.int 0), .inl (.int 0), .inl (.int 0), .inl (.int 0)]),
  .inr (.int, 3, .inl (.int 0), []),
  .inr (.int, 3, .inl (.int 0), []),
  .inr (.int, 5, .inl (.int 0), []),
  .inl (3, [.inr (.inl 193), .inr (.inl 194), .inr (.inl 195), .inr (.inl 196), .inr (.inl 197), .inr (.inl 198), .inr (.inl 203), .inr (.inl 211), .inl (.int 0), .inl (.int 0), .inl (.int 2), .inl (.int 4), .inl (.int 1), .inl (.int 0)]),
  .inr (.long, 10, .inl (.long 0), []),
  .inr (.int, 10, .inl (.int 0), []),
  .inr (.int, 10, .inl (.int 0), []),
  .inr (.int, 10, .inl (.int 0), []),
  .inr (.int, 10, .inl (.int 0), []),
  .inl (2, [.inr (.inl 199), .inr (.inl 200), .inr (.inl 201), .inr (.inl 202), .inl (.int 0), .inl (.int 0)]),
  .inr (.int, 10, .inl (.int 0), []),
  .inr (.int, 10, .inl (.int 0), []),
  .inr (.int, 10, .inl (.int 0), []),
  .inr (.int, 200, .inl (.int 0), []),
  .inl (0, [.inr (.inl 204), .inr (.inl 205), .inr (.inl 206), .inr (.inl 207), .inr (.inl 208), .inr (.inl 209), .inr (.inl 210), .inl (.int 0), .inl (.int 0), .inl (.int 0)]),
  .inr (.long, 8, .inl (.long 0), []),
  .inr (.int, 8, .inl (.int 0), []),
  .inr (.int, 8, .inl (.int 0), []),
  .inr (.int, 8, .inl (.int 0), []),
  .inr (.int, 8, .inl (.int 0), []),
  .inr (.int, 8, .inl (.int 0), []),
  .inr (.int, 160, .inl (.int 0), []),
  .inl (9, [.inr (.inl 212), .inr (.inl 213), .inr (.inl 214), .inr (.inl 215), .inr (.inl 216), .inr (.inl 217), .inl (.int 0), .inl (.int 0)]),
  .inr (.int, 30, .inl (.int 0), []),
  .inr (.int, 30, .inl (.int 0), []),
  .inr (.int, 30, .inl (.int 0), []),
  .inr (.int, 30, .inl (.int 0), []),
  .inr (.int, 30, .inl (.int 0), []),
  .inr (.int, 30, .inl (.int 0), []),
  .inl (3, [.inr (.inl 219), .inr (.inl 220), .inr (.inl 221), .inr (.inl 222), .inr (.inl 223), .inr (.inl 224), .inr (.inl 229), .inr (.inl 237), .inl (.int 0), .inl (.int 0), .inl (.int 2), .inl (.int 4), .inl (.int 1), .inl (.int 0)]),
  .inr (.long, 10, .inl (.long 0), []),
  .inr (.int, 10, .inl (.int 0), []),
  .inr (.int, 10, .inl (.int 0), []),
  .inr (.int, 10, .inl (.int 0), []),
  .inr (.int, 10, .inl (.int 0), []),
  .inl (2, [.inr (.inl 225), .inr (.inl 226), .inr (.inl 227), .inr (.inl 228), .inl (.int 0), .inl (.int 0)]),
  .inr (.int, 10, .inl (.int 0), []),
  .inr (.int, 10, .inl (.int 0), []),
  .inr (.int, 10, .inl (.int 0), []),
  .inr (.int, 200, .inl (.int 0), []),
  .inl (0, [.inr (.inl 230), .inr (.inl 231), .inr (.inl 232), .inr (.inl 233), .inr (.inl 234), .inr (.inl 235), .inr (.inl 236), .inl (.int 0), .inl (.int 0), .inl (.int 0)]),
  .inr (.long, 8, .inl (.long 0), []),
  .inr (.int, 8, .inl (.int 0), []),
  .inr (.int, 8, .inl (.int 0), []),
  .inr (.int, 8, .inl (.int 0), []),
  .inr (.int, 8, .inl (.int 0), []),
  .inr (.int, 8, .inl (.int 0), []),
  .inr (.int, 160, .inl (.int 0), []),
  .inl (9, [.inr (.inl 238), .inr (.inl 239), .inr (.inl 240), .inr (.inl 241), .inr (.inl 242), .inr (.inl 243), .inl (.int 0), .inl (.int 0)]),
  .inr (.int, 30, .inl (.int 0), []),
  .inr (.int, 30, .inl (.int 0), []),
  .inr (.int, 30, .inl (.int 0), []),
  .inr (.int, 30, .inl (.int 0), []),
  .inr (.int, 30, .inl (.int 0), []),
  .inr (.int, 30, .inl (.int 0), []),
  .inl (3, [.inr (.inl 245), .inr (.inl 246), .inr (.inl 247), .inr (.inl 248), .inr (.inl 249), .inr (.inl 250), .inr (.inl 255), .inr (.inl 263), .inl (.int 0), .inl (.int 0), .inl (.int 2), .inl (.int 4), .inl (.int 1), .inl (.int 0)]),
  .inr (.long, 10, .inl (.long 0), []),
  .inr (.int, 10, .inl (.int 0), []),
  .inr (.int, 10, .inl (.int 0), []),
  .inr (.int, 10, .inl (.int 0), []),
  .inr (.int, 10, .inl (.int 0), []),
  .inl (2, [.inr (.inl 251), .inr (.inl 252), .inr (.inl 253), .inr (.inl 254), .inl (.int 0), .inl (.int 0)]),
  .inr (.int, 10, .inl (.int 0), []),
  .inr (.int, 10, .inl (.int 0), []),
  .inr (.int, 10, .inl (.int 0), []),
  .inr (.int, 200, .inl (.int 0), []),
  .inl (0, [.inr (.inl 256), .inr (.inl 257), .inr (.inl 258), .inr (.inl 259), .inr (.inl 260), .inr (.inl 261), .inr (.inl 262), .inl (.int 0), .inl (.int 0), .inl (.int 0)]),
  .inr (.long, 8, .inl (.long 0), []),
  .inr (.int, 8, .inl (.int 0), []),
  .inr (.int, 8, .inl (.int 0), []),
  .inr (.int, 8, .inl (.int 0), []),
  .inr (.int, 8, .inl (.int 0), []),
  .inr (.int, 8, .inl (.int 0), []),
  .inr (.int, 160, .inl (.int 0), []),
  .inl (9, [.inr (.inl 264), .inr (.inl 265), .inr (.inl 266), .inr (.inl 267), .inr (.inl 268), .inr (.inl 269), .inl (.int 0), .inl (.int 0)]),
  .inr (.int, 30, .inl (.int 0), []),
  .inr (.int, 30, .inl (.int 0), []),
  .inr (.int, 30, .inl (.int 0), []),
  .inr (.int, 30, .inl (.int 0), []),
  .inr (.int, 30, .inl (.int 0), []),
  .inr (.int, 30, .inl (.int 0), [])]
def gk_X126 : rk_O := (269, 8747, [(none, gk_env 0 6, gk_h126, 269, 8747)])
def gk_h201 : List rk_H := [.inl (12, [.inr (.inl 1), .inr (.inl 2), .inl (.int 0), .inl (.long 0), .inl (.long 1), .inr (.inl 3), .inr (.inl 4), .inr (.inl 5), .inr (.inl 6), .inr (.inl 7), .inl (.int 0), .inl (.int 0), .inl (.int 0), .inl (.int 0), .inl (.int 0), .inl (.int 0), .inl (.int (-1)), .inl (.int (-1)), .inl (.int 0), .inl (.int 0), .inl (.int 0), .inr (.inl 8), .inl (.int 0), .inl (.int 0), .inr (.inl 9), .inl (.int 0), .inr (.inl 10), .inr (.inl 11), .inr (.inl 12), .inr (.inl 13), .inl (.int 0), .inr (.inl 14), .inr (.inl 15), .inr (.inl 16), .inr (.inl 17), .inr (.inl 18), .inl (.int 0), .inl (.int 0), .inr (.inl 19), .inr (.inl 20), .inr (.inl 21), .inl (.int 0), .inl (.int 0)]),
  .inr (.int, 5894, .inl (.int 0), [(6, .inl (.int (-1))), (4, .inl (.int 1)), (3, .inl (.int 4)), (2, .inl (.int 2))]),
  .inr (.long, 108, .inl (.long 0), []),
  .inr (.int, 4, .inl (.int 0), []),
  .inr (.int, 4, .inl (.int 0), [(3, .inl (.int (-1))), (2, .inl (.int (-1))), (1, .inl (.int (-1))), (0, .inl (.int (-1)))]),
  .inr (.long, 240, .inl (.long 0), []),
  .inr (.byte, 900, .inl (.int 0), []),
  .inr (.byte, 900, .inl (.int 0), []),
  .inr (.int, 3, .inl (.int 0), []),
  .inr (.int, 10, .inl (.int 0), []),
  .inr (.int, 4, .inl (.int 0), []),
  .inr (.int, 4, .inl (.int 0), []),
  .inr (.int, 4, .inl (.int 0), []),
  .inr (.int, 4, .inl (.int 0), []),
  .inr (.int, 256, .inl (.int 0), []),
  .inr (.int, 427, .inl (.int 0), []),
  .inr (.int, 10, .inl (.int 0), []),
  .inr (.long, 21, .inl (.long 0), []),
  .inr (.long, 21, .inl (.long 0), []),
  .inr (.int, 80, .inl (.int 0), []),
  .inr (.int, 5, .inl (.int 0), []),
  .inr (.int, 5, .inl (.int 0), [])]
def gk_X201 : rk_O := (21, 8904, [(none, gk_env 0 6, gk_h201, 21, 8904)])
def gk_eq1 (a b : List (Nat × rk_V)) : Bool := decide (a = b)
def gk_eq2 (a b : List rk_V) : Bool := decide (a = b)
def gk_eq3 (a b : List rk_T) : Bool := decide (a = b)
def gk_eqD (a b : rk_D) : Bool := decide (a.1 = b.1) && (decide (a.2.1 = b.2.1) && (decide (a.2.2.1 = b.2.2.1) && gk_eq1 a.2.2.2 b.2.2.2))
def gk_eqH : rk_H → rk_H → Bool
  | .inl a, .inl b => decide (a.1 = b.1) && gk_eq2 a.2 b.2
  | .inr a, .inr b => gk_eqD a b
  | _, _ => false
def gk_eqL : List rk_H → List rk_H → Bool
  | [], [] => true
  | a :: l, b :: k => gk_eqH a b && gk_eqL l k
  | _, _ => false
def gk_eqS (a b : rk_S) : Bool := gk_eq1 a.1 b.1 && (gk_eq2 a.2.1 b.2.1 && (gk_eq3 a.2.2.1 b.2.2.1 && (gk_eqL a.2.2.2.1 b.2.2.2.1 && (decide (a.2.2.2.2.1 = b.2.2.2.2.1) && decide (a.2.2.2.2.2 = b.2.2.2.2.2)))))
theorem gk_eqD_ok {a b : rk_D} (h : gk_eqD a b = true) : a = b := by
  simp only [gk_eqD, gk_eq1, Bool.and_eq_true, decide_eq_true_eq] at h
  exact Prod.ext h.1 (Prod.ext h.2.1 (Prod.ext h.2.2.1 h.2.2.2))
theorem gk_eqH_ok {a b : rk_H} (h : gk_eqH a b = true) : a = b := by
  rcases a with a | a <;> rcases b with b | b
  · simp only [gk_eqH, gk_eq2, Bool.and_eq_true, decide_eq_true_eq] at h
    exact congrArg Sum.inl (Prod.ext h.1 h.2)
  · cases h
  · cases h
  · exact congrArg Sum.inr (gk_eqD_ok h)
theorem gk_eqL_ok : ∀ {a b : List rk_H}, gk_eqL a b = true → a = b := by
  intro a
  induction a with
  | nil => intro b h; cases b with
    | nil => rfl
    | cons y k => cases h
  | cons x l ih => intro b h; cases b with
    | nil => cases h
    | cons y k =>
      simp only [gk_eqL, Bool.and_eq_true] at h
      rw [gk_eqH_ok h.1, ih h.2]
theorem gk_eqS_ok {a b : rk_S} (h : gk_eqS a b = true) : a = b := by
  simp only [gk_eqS, gk_eq1, gk_eq2, gk_eq3, Bool.and_eq_true, decide_eq_true_eq] at h
  exact Prod.ext h.1 (Prod.ext h.2.1 (Prod.ext h.2.2.1 (Prod.ext (gk_eqL_ok h.2.2.2.1) (Prod.ext h.2.2.2.2.1 h.2.2.2.2.2))))
def gk_stop (at_ : Nat) (S : rk_S) : rk_Ext := fun pc ins st => if pc = at_ then (if gk_eqS st S = true then some [] else none) else rk_lawx pc ins st
def gk_eqX (a b : rk_X) : Bool := decide (a.1 = b.1) && (gk_eq3 a.2.1 b.2.1 && (gk_eqL a.2.2.1 b.2.2.1 && (decide (a.2.2.2.1 = b.2.2.2.1) && decide (a.2.2.2.2 = b.2.2.2.2))))
def gk_eqO (a : Option rk_O) (b : rk_O) : Bool := match a, b with
  | some (c, n, [x]), (c', n', [y]) => decide (c = c') && (decide (n = n') && gk_eqX x y)
  | _, _ => false
theorem gk_eqX_ok {a b : rk_X} (h : gk_eqX a b = true) : a = b := by
  simp only [gk_eqX, gk_eq3, Bool.and_eq_true, decide_eq_true_eq] at h
  exact Prod.ext h.1 (Prod.ext h.2.1 (Prod.ext (gk_eqL_ok h.2.2.1) (Prod.ext h.2.2.2.1 h.2.2.2.2)))
theorem gk_eqO_ok {a : Option rk_O} {b : rk_O} (h : gk_eqO a b = true) : a = some b := by
  unfold gk_eqO at h
  split at h
  · simp only [Bool.and_eq_true, decide_eq_true_eq] at h
    rw [h.1, h.2.1, gk_eqX_ok h.2.2]
  · cases h
def gk_newc (ci : Nat) : rk_H := .inl (ci, (gk_fty.getD ci []).map (fun t => .inl (defaultValue t.1)))
def gk_good1 (o : Option rk_O) : Bool := match o with
  | some o => decide (o.1 ≤ 600000) && (decide (o.2.1 ≤ 7302250) && o.2.2.all (fun x => decide (x.1 = some (.inl (.int 1)))))
  | none => false
def gk_call : Nat → List rk_V → List rk_T → List rk_H → Option rk_O := rk_run gk_P gk_fty gk_cln gk_mci gk_sum 30000 40
def gk_ctor (F ci : Nat) (X : rk_O) (f : Nat) (as : List rk_V) (env : List rk_T) (hp : List rk_H) : Option rk_O := if f = F ∧ gk_eq2 as [.inr (.inl 0)] = true ∧ gk_eq3 env (gk_env 0 6) = true ∧ gk_eqL hp [gk_newc ci] = true then some X else none
def gk_call2 (f : Nat) (as : List rk_V) (env : List rk_T) (hp : List rk_H) : Option rk_O := match as with
  | .inr (.inl j) :: _ => if f = 126 then gk_ctor 126 11 gk_X126 f as env hp else if f = 201 then rk_suf (gk_ctor 201 12 gk_X201) 270 f as env hp else if j = 270 then rk_suf gk_call 270 f as env hp else rk_pfx gk_call 270 f as env hp
  | _ => none
def gk_go (ext : rk_Ext) (l : List (Nat × Instr × Nat)) (q : Nat × rk_S) : Bool := gk_good1 (rk_loop gk_fty gk_cln gk_mci gk_call2 ext (gk_lM l) 30000 q)
def gk_q0 (lo hi : Int) : Nat × rk_S := (0, ([(0, .inr (.inr (.inl 6)))], [], gk_env lo hi, [], 0, 0))
def gk_cutS (v : Nat) (n1 n2 b1 b2 : Int) : rk_S := match (rk_cut (gk_S v).2.2.1 (.inr (.inr (.inl 1))) n1 n2).bind (fun e => rk_cut e (.inr (.inr (.inl 2))) b1 b2) with
  | some e => ((gk_S v).1, (gk_S v).2.1, e, (gk_S v).2.2.2)
  | none => gk_S v
end
section
/-! ===== the constructors and the loop's head, run ===== -/
set_option maxRecDepth 1000000 in
theorem gk_pre : gk_go (gk_stop 16 (gk_S16 0 6)) (gk_la ++ gk_lb) (gk_q0 0 6) = true := by decide +kernel
set_option maxRecDepth 1000000 in
theorem gk_pre5 : gk_go rk_lawx (gk_la ++ gk_lb) (16, gk_S16 0 5) = true := by decide +kernel
set_option maxRecDepth 1000000 in
theorem gk_pre6 : gk_go (gk_stop 33 gk_S33) (gk_la ++ (gk_lb ++ gk_ld)) (16, gk_S16 6 6) = true := by decide +kernel
set_option maxRecDepth 1000000 in
theorem gk_dflt : gk_go rk_lawx gk_lb (2160, gk_Sd) = true := by decide +kernel
end
section
/-! ===== a constructor, run ===== -/
set_option maxRecDepth 1000000 in
theorem gk_p126 : gk_eqO (gk_call 126 [.inr (.inl 0)] (gk_env 0 6) [gk_newc 11]) gk_X126 = true := by decide +kernel
end
section
/-! ===== a constructor, run ===== -/
set_option maxRecDepth 1000000 in
theorem gk_p201 : gk_eqO (gk_call 201 [.inr (.inl 0)] (gk_env 0 6) [gk_newc 12]) gk_X201 = true := by decide +kernel
end
section
/-! ===== the calls, run ===== -/
set_option maxRecDepth 1000000 in
theorem gk_case8 : gk_go rk_lawx (gk_lc8 ++ gk_lb) (601, gk_S 8) = true := by decide +kernel
end
