/-! ===== the class's Reader: the loop over the text ===== -/
def rd_step (z : Nat × List Int64) (c : Int32) : Nat × List Int64 := if c = 32 then (z.1 + 1, z.2) else if z.1 < 23 then (z.1, z.2.set z.1 (z.2.getD z.1 0 * 32 + (c - 97 + 1).toInt64)) else z
def rd : Nat → Nat × List Int64
  | 0 => (0, List.replicate 23 0)
  | k + 1 => rd_step (rd k) (sg_b.getD k 0)
theorem rd_len : ∀ k : Nat, (rd k).2.length = 23 := by
  intro k
  induction k with
  | zero => rfl
  | succ k ih =>
    show (rd_step (rd k) (sg_b.getD k 0)).2.length = 23
    unfold rd_step
    split
    · exact ih
    · split
      · rw [List.length_set]; exact ih
      · exact ih
theorem rd_at : ∀ k : Nat, (rd k).1 ≤ k := by
  intro k
  induction k with
  | zero => exact Nat.le_refl _
  | succ k ih =>
    show (rd_step (rd k) (sg_b.getD k 0)).1 ≤ k + 1
    unfold rd_step
    split
    · exact Nat.succ_le_succ ih
    · split
      · exact Nat.le_succ_of_le ih
      · exact Nat.le_succ_of_le ih
theorem rd_d35 : decode gk_N99.2.2 35 = .ok (.iload_n 2, 1) := by decide +kernel
theorem rd_d36 : decode gk_N99.2.2 36 = .ok (.ldc 26, 2) := by decide +kernel
theorem rd_d38 : decode gk_N99.2.2 38 = .ok (.invokevirtual 28, 3) := by decide +kernel
theorem rd_d41 : decode gk_N99.2.2 41 = .ok (.if_icmp .ge 58, 3) := by decide +kernel
theorem rd_d44 : decode gk_N99.2.2 44 = .ok (.ldc 26, 2) := by decide +kernel
theorem rd_d46 : decode gk_N99.2.2 46 = .ok (.iload_n 2, 1) := by decide +kernel
theorem rd_d47 : decode gk_N99.2.2 47 = .ok (.invokevirtual 34, 3) := by decide +kernel
theorem rd_d50 : decode gk_N99.2.2 50 = .ok (.istore_n 3, 1) := by decide +kernel
theorem rd_d51 : decode gk_N99.2.2 51 = .ok (.iload_n 3, 1) := by decide +kernel
theorem rd_d52 : decode gk_N99.2.2 52 = .ok (.bipush 32, 2) := by decide +kernel
theorem rd_d54 : decode gk_N99.2.2 54 = .ok (.if_icmp .ne 9, 3) := by decide +kernel
theorem rd_d57 : decode gk_N99.2.2 57 = .ok (.iinc 1 1, 3) := by decide +kernel
theorem rd_d60 : decode gk_N99.2.2 60 = .ok (.goto 33, 3) := by decide +kernel
theorem rd_d63 : decode gk_N99.2.2 63 = .ok (.iload_n 1, 1) := by decide +kernel
theorem rd_d64 : decode gk_N99.2.2 64 = .ok (.bipush 23, 2) := by decide +kernel
theorem rd_d66 : decode gk_N99.2.2 66 = .ok (.if_icmp .ge 27, 3) := by decide +kernel
theorem rd_d69 : decode gk_N99.2.2 69 = .ok (.aload_n 0, 1) := by decide +kernel
theorem rd_d70 : decode gk_N99.2.2 70 = .ok (.getfield 15, 3) := by decide +kernel
theorem rd_d73 : decode gk_N99.2.2 73 = .ok (.iload_n 1, 1) := by decide +kernel
theorem rd_d74 : decode gk_N99.2.2 74 = .ok (.aload_n 0, 1) := by decide +kernel
theorem rd_d75 : decode gk_N99.2.2 75 = .ok (.getfield 15, 3) := by decide +kernel
theorem rd_d78 : decode gk_N99.2.2 78 = .ok (.iload_n 1, 1) := by decide +kernel
theorem rd_d79 : decode gk_N99.2.2 79 = .ok (.laload, 1) := by decide +kernel
theorem rd_d80 : decode gk_N99.2.2 80 = .ok (.ldc2_w 38, 3) := by decide +kernel
theorem rd_d83 : decode gk_N99.2.2 83 = .ok (.lmul, 1) := by decide +kernel
theorem rd_d84 : decode gk_N99.2.2 84 = .ok (.iload_n 3, 1) := by decide +kernel
theorem rd_d85 : decode gk_N99.2.2 85 = .ok (.bipush 97, 2) := by decide +kernel
theorem rd_d87 : decode gk_N99.2.2 87 = .ok (.isub, 1) := by decide +kernel
theorem rd_d88 : decode gk_N99.2.2 88 = .ok (.iconst 1, 1) := by decide +kernel
theorem rd_d89 : decode gk_N99.2.2 89 = .ok (.iadd, 1) := by decide +kernel
theorem rd_d90 : decode gk_N99.2.2 90 = .ok (.i2l, 1) := by decide +kernel
theorem rd_d91 : decode gk_N99.2.2 91 = .ok (.ladd, 1) := by decide +kernel
theorem rd_d92 : decode gk_N99.2.2 92 = .ok (.lastore, 1) := by decide +kernel
theorem rd_d93 : decode gk_N99.2.2 93 = .ok (.iinc 2 1, 3) := by decide +kernel
theorem rd_d96 : decode gk_N99.2.2 96 = .ok (.goto (-61), 3) := by decide +kernel
theorem rd_d99 : decode gk_N99.2.2 99 = .ok (.return_, 1) := by decide +kernel
section RDB
variable {p : Program} {l : Launch} {e : Env} {R : Room} {s : State} {m : MethodId} {args : Array Value} {below : List Frame} {meth : Method} {c : Code} {Q : State → Prop} {D : va_G} {Ad : Nat → Prop}
set_option maxHeartbeats 4000000 in
theorem rd_body (hx : p.tables.exec = Jvm.exec) (hb : c.code = gk_N99.2.2) (hml : c.maxLocals = 4) (hts : ∀ w ∈ gk_tbl, w.before args s = true) (hown : s.vm.findClass "GooseIce$Reader" = some m.cls) {cA : ClassId} (hK : va_K D gk_cl [(cA, .long)] s) (hA : ∀ q, s.heap.size ≤ q → Ad q) {a v : Nat} {tx : String} (hX : sg_X a v Ad s s.heap) (hR : vk_R "GooseIce$Reader" 26 tx a s) (hfr : 5 ≤ R.frames) (hlo : 200 ≤ R.locals) {ws : va_W} {j kk h0 q nc ns : Nat} {vs : List Value} {f0 : Nat → Int64} (hnc : nc ≤ R.cells) (hns : ns ≤ R.slots) (hj : ws[j]? = some (h0, .inr (8, vs))) (hv : vs[1]? = some (.ref q)) (hk : ws[kk]? = some (q, .inl (cA, 23, .inr (.inl f0)))) (hf0 : ∀ i, f0 i = 0) {H : Heap} {locs : List Loc} {ls : Array Slot} (hP : va_P D gk_cl ws H) (hD : va_D Ad ws) (hS : va_S Ad s.heap H locs) (hl : lv_has ls 4 [(0, .ref h0), (1, .int (nI 0)), (2, .int (nI 0))])
    (kend : ∀ (H : Heap) (locs : List Loc) (ls : Array Slot) (f : Nat → Int64), va_P D gk_cl (ws.set kk (q, .inl (cA, 23, .inr (.inl f)))) H → va_D Ad (ws.set kk (q, .inl (cA, 23, .inr (.inl f)))) → va_S Ad s.heap H locs → (∀ i, f i = (rd 115).2.getD i 0) → lv_has ls 4 [(0, .ref h0)] → W p l e R s m args below meth c H locs nc ns Q (F0 m 99 ls [])) :
    W p l e R s m args below meth c H locs nc ns Q (F0 m 35 ls []) := by
  have hjk : kk ≠ j := by rintro rfl; rw [hj] at hk; cases hk
  have hkl : kk < ws.length := (List.getElem?_eq_some_iff.mp hk).1
  obtain ⟨Z, hZ⟩ : ∃ Z : (Nat → Int64) → va_W, ∀ f, Z f = ws.set kk (q, .inl (cA, 23, .inr (.inl f))) := ⟨_, fun _ => rfl⟩
  have hZj : ∀ f, (Z f)[j]? = some (h0, .inr (8, vs)) := fun f => by rw [hZ, List.getElem?_set_ne hjk]; exact hj
  have hZk : ∀ f, (Z f)[kk]? = some (q, .inl (cA, 23, .inr (.inl f))) := fun f => by rw [hZ, List.getElem?_set_self hkl]
  have hZs : ∀ f g, (Z f).set kk (q, .inl (cA, 23, .inr (.inl g))) = Z g := fun f g => by rw [hZ, hZ, List.set_set]
  have hZ0 : Z f0 = ws := by
    rw [hZ]
    apply List.ext_getElem?
    intro i
    rw [List.getElem?_set]
    split
    · next z => subst z; first | exact hk.symm | (rw [if_pos hkl]; exact hk.symm)
    · rfl
  have h115 : sg_n = 115 := by decide
  have loop : ∀ (r k : Nat), k + r = 115 → ∀ (H : Heap) (locs : List Loc) (ls : Array Slot) (f : Nat → Int64), (va_P D gk_cl (Z f) H ∧ va_D Ad (Z f) ∧ va_S Ad s.heap H locs) → (∀ i, f i = (rd k).2.getD i 0) → lv_has ls 4 [(0, .ref h0), (1, .int (nI (rd k).1)), (2, .int (nI k))] → W p l e R s m args below meth c H locs nc ns Q (F0 m 35 ls []) := by
    intro r
    induction r with
    | zero =>
      intro k hkr H locs ls f hI hf hl
      have hrec : ∃ cell : Cell, H[a]? = some cell ∧ cell.vm.isStatics = false ∧ s.vm.findClass "java/lang/String" = some cell.cls := by
        obtain ⟨cell, h1, h2, h3, -⟩ := hX.1.kept hI.2.2.2.1
        exact ⟨cell, h1, h2, h3⟩
      refine lv_iload_n hx hb rd_d35 rfl (lv_at hl 2 rfl) ?_
      refine va_ldcS hx hb hown hR rd_d36 ?_
      refine va_calli (va_runV (C := "java/lang/String") (As := []) (rest := [.int (nI k)]) ⟨hx, hb, hml, hown, hts⟩ (sg_length l a v H.size) ⟨callB_of 0 hts (rk_good gk_good (rk_mt 262 (by decide +kernel) rfl)) rfl rfl rfl (hts _ (rk_mt 223 (by decide +kernel) rfl)) (hts _ (rk_mt 259 (by decide +kernel) rfl)) ⟨(by decide +kernel), (by decide +kernel), (by decide +kernel)⟩ ⟨by show 2 + 1 ≤ R.frames; omega, by show 8 + (1 + 11) + 80 ≤ R.locals; omega⟩, hts _ (rk_mt 260 (by decide +kernel) rfl), hts _ (rk_mt 261 (by decide +kernel) rfl)⟩ ⟨sg_blind _ _ _ _, hrec, fun U hU hW => ⟨rfl, by rw [hU], sg_pre hX hI.2.2 hA hU hW⟩⟩ rfl rfl hl.1 rfl (lv_room (Nat.le_of_ble_eq_true rfl)) rd_d38 ⟨by omega, by omega⟩) hI.2.2 (fun q h1 h2 => absurd h2 (by omega)) (fun q h => hA q (Nat.le_trans hI.2.2.1 h)) (fun r0 u t H1 locs1 ht hvm hw hB hz1 hk1 hS1 => ?_)
      subst hw
      have hP1 : va_P D gk_cl (Z f) H1 := hI.1.kept (fun k9 x9 hx9 => hk1 _ (hI.1 k9 x9 hx9).lt (by have := (hI.1 k9 x9 hx9).lt; omega))
      refine lv_icmp_ge (tgt := 99) hx hb rd_d41 rfl (fun _ => ?_) (fun h => absurd (nI_le (a := sg_n) (b := k) (by omega) (by omega)) h)
      rw [hZ] at hP1 hI
      refine kend H1 locs1 ls f hP1 hI.2.1 hS1 (fun i => by rw [hf i, show k = 115 by omega]) (lv_sub hl [0] rfl)
    | succ r ih =>
      intro k hkr H locs ls f hI hf hl
      have hkn : k < sg_n := by omega
      have hrec : ∃ cell : Cell, H[a]? = some cell ∧ cell.vm.isStatics = false ∧ s.vm.findClass "java/lang/String" = some cell.cls := by
        obtain ⟨cell, h1, h2, h3, -⟩ := hX.1.kept hI.2.2.2.1
        exact ⟨cell, h1, h2, h3⟩
      refine lv_iload_n hx hb rd_d35 rfl (lv_at hl 2 rfl) ?_
      refine va_ldcS hx hb hown hR rd_d36 ?_
      refine va_calli (va_runV (C := "java/lang/String") (As := []) (rest := [.int (nI k)]) ⟨hx, hb, hml, hown, hts⟩ (sg_length l a v H.size) ⟨callB_of 0 hts (rk_good gk_good (rk_mt 262 (by decide +kernel) rfl)) rfl rfl rfl (hts _ (rk_mt 223 (by decide +kernel) rfl)) (hts _ (rk_mt 259 (by decide +kernel) rfl)) ⟨(by decide +kernel), (by decide +kernel), (by decide +kernel)⟩ ⟨by show 2 + 1 ≤ R.frames; omega, by show 8 + (1 + 11) + 80 ≤ R.locals; omega⟩, hts _ (rk_mt 260 (by decide +kernel) rfl), hts _ (rk_mt 261 (by decide +kernel) rfl)⟩ ⟨sg_blind _ _ _ _, hrec, fun U hU hW => ⟨rfl, by rw [hU], sg_pre hX hI.2.2 hA hU hW⟩⟩ rfl rfl hl.1 rfl (lv_room (Nat.le_of_ble_eq_true rfl)) rd_d38 ⟨by omega, by omega⟩) hI.2.2 (fun q h1 h2 => absurd h2 (by omega)) (fun q h => hA q (Nat.le_trans hI.2.2.1 h)) (fun r0 u t H1 locs1 ht hvm hw hB hz1 hk1 hS1 => ?_)
      subst hw
      have hP1 : va_P D gk_cl (Z f) H1 := hI.1.kept (fun k9 x9 hx9 => hk1 _ (hI.1 k9 x9 hx9).lt (by have := (hI.1 k9 x9 hx9).lt; omega))
      have hI : va_P D gk_cl (Z f) H1 ∧ va_D Ad (Z f) ∧ va_S Ad s.heap H1 locs1 := ⟨hP1, hI.2.1, hS1⟩
      have hrec : ∃ cell : Cell, H1[a]? = some cell ∧ cell.vm.isStatics = false ∧ s.vm.findClass "java/lang/String" = some cell.cls := by
        obtain ⟨cell, h1, h2, h3, -⟩ := hX.1.kept hI.2.2.2.1
        exact ⟨cell, h1, h2, h3⟩
      refine lv_icmp_ge (tgt := 99) hx hb rd_d41 rfl (fun h => absurd h (nI_ge (a := k) (b := sg_n) (by omega) (by omega))) (fun _ => ?_)
      refine va_ldcS hx hb hown hR rd_d44 ?_
      refine lv_iload_n hx hb rd_d46 rfl (lv_at hl 2 rfl) ?_
      refine va_calli (va_runV (C := "java/lang/String") (As := [.int (nI k)]) (rest := []) ⟨hx, hb, hml, hown, hts⟩ (sg_charAt l a v H1.size k hkn) ⟨callB_of 1 hts (rk_good gk_good (rk_mt 272 (by decide +kernel) rfl)) rfl rfl rfl (hts _ (rk_mt 223 (by decide +kernel) rfl)) (hts _ (rk_mt 269 (by decide +kernel) rfl)) ⟨(by decide +kernel), (by decide +kernel), (by decide +kernel)⟩ ⟨by show 4 + 1 ≤ R.frames; omega, by show 8 + (2 + 11) + 160 ≤ R.locals; omega⟩, hts _ (rk_mt 270 (by decide +kernel) rfl), hts _ (rk_mt 271 (by decide +kernel) rfl)⟩ ⟨sg_blind _ _ _ _, hrec, fun U hU hW => ⟨rfl, by rw [hU], sg_pre hX hI.2.2 hA hU hW⟩⟩ rfl rfl hl.1 rfl (lv_room (Nat.le_of_ble_eq_true rfl)) rd_d47 ⟨by omega, by omega⟩) hI.2.2 (fun q h1 h2 => absurd h2 (by omega)) (fun q h => hA q (Nat.le_trans hI.2.2.1 h)) (fun r1 u1 t1 H2 locs2 ht1 hvm1 hw1 hB1 hz2 hk2 hS2 => ?_)
      subst hw1
      have hP2 : va_P D gk_cl (Z f) H2 := hP1.kept (fun k9 x9 hx9 => hk2 _ (hP1 k9 x9 hx9).lt (by have := (hP1 k9 x9 hx9).lt; omega))
      have hI : va_P D gk_cl (Z f) H2 ∧ va_D Ad (Z f) ∧ va_S Ad s.heap H2 locs2 := ⟨hP2, hI.2.1, hS2⟩
      refine lv_istore_n hx hb rd_d50 rfl hl (by decide) rfl (fun ls2 hl2 => ?_)
      have hl2 : lv_has ls2 4 [(3, .int (sg_b.getD k 0)), (0, .ref h0), (1, .int (nI (rd k).1)), (2, .int (nI k))] := hl2
      have hat := rd_at k
      have nextk : ∀ (H3 : Heap) (locs3 : List Loc) (ls3 : Array Slot) (g : Nat → Int64), (va_P D gk_cl (Z g) H3 ∧ va_D Ad (Z g) ∧ va_S Ad s.heap H3 locs3) → (∀ i, g i = (rd (k + 1)).2.getD i 0) → lv_has ls3 4 [(0, .ref h0), (1, .int (nI (rd (k + 1)).1)), (2, .int (nI k))] → W p l e R s m args below meth c H3 locs3 nc ns Q (F0 m 93 ls3 []) := by
        intro H3 locs3 ls3 g hI3 hg hl3
        refine lv_iinc (v := nI (k + 1)) hx hb rd_d93 hl3 (k := 2) rfl (by rw [nI_succ k]; first | done | rfl) (by decide) rfl (fun ls4 hl4 => ?_)
        refine lv_goto (tgt := 35) hx hb rd_d96 rfl ?_
        exact ih (k + 1) (by omega) H3 locs3 ls4 g hI3 hg (lv_sub hl4 [1, 2, 0] rfl)
      refine lv_iload_n hx hb rd_d51 rfl (lv_at hl2 0 rfl) ?_
      refine lv_bipush (v := 32) hx hb rd_d52 (by decide +kernel) ?_
      refine lv_icmp_ne (tgt := 63) hx hb rd_d54 rfl (fun hne => ?_) (fun heq => ?_)
      · refine lv_iload_n hx hb rd_d63 rfl (lv_at hl2 2 rfl) ?_
        refine lv_bipush (v := nI 23) hx hb rd_d64 (by decide +kernel) ?_
        refine lv_icmp_ge (tgt := 93) hx hb rd_d66 rfl (fun hge => ?_) (fun hlt => ?_)
        · have h23 : ¬ (rd k).1 < 23 := fun h => absurd hge (nI_ge h (by omega))
          have e1 : rd (k + 1) = rd k := by
            show rd_step (rd k) (sg_b.getD k 0) = rd k
            unfold rd_step
            rw [if_neg hne, if_neg h23]
          exact nextk H2 locs2 ls2 f hI (by rw [e1]; exact hf) (by rw [e1]; exact lv_sub hl2 [1, 2, 3] rfl)
        · have h23 : (rd k).1 < 23 := Nat.lt_of_not_le (fun h => hlt (nI_le h (by omega)))
          have e1 : rd (k + 1) = ((rd k).1, (rd k).2.set (rd k).1 ((rd k).2.getD (rd k).1 0 * 32 + (sg_b.getD k 0 - 97 + 1).toInt64)) := by
            show rd_step (rd k) (sg_b.getD k 0) = _
            unfold rd_step
            rw [if_neg hne, if_pos h23]
          refine lv_aload_n hx hb rd_d69 rfl (lv_at hl2 1 rfl) ?_
          refine va_get (D := D) (ci := 8) (v := .ref q) (own := "GooseIce$Reader") (ref := "GooseIce$Reader") (index := 15) (C := gk_R8) (T := gk_T8) (N := 12) hx hb hts gk_u8 hown hK hI.1 j (hZj _) rfl 1 (by decide) (hts _ (rk_mt 309 (by decide +kernel) rfl)) (fun _ h9 => h9) hv rd_d70 ?_
          refine lv_iload_n hx hb rd_d73 rfl (lv_at hl2 2 rfl) ?_
          refine lv_aload_n hx hb rd_d74 rfl (lv_at hl2 1 rfl) ?_
          refine va_get (D := D) (ci := 8) (v := .ref q) (own := "GooseIce$Reader") (ref := "GooseIce$Reader") (index := 15) (C := gk_R8) (T := gk_T8) (N := 12) hx hb hts gk_u8 hown hK hI.1 j (hZj _) rfl 1 (by decide) (hts _ (rk_mt 309 (by decide +kernel) rfl)) (fun _ h9 => h9) hv rd_d75 ?_
          refine lv_iload_n hx hb rd_d78 rfl (lv_at hl2 2 rfl) ?_
          refine va_lald hx hb hK hI.1 kk 0 (hZk _) rfl (nI_in h23 (by decide)) rd_d79 ?_
          rw [nI_clamp (by omega), hf]
          refine W.ldc2 (v := 32) hx hb hown (hts _ (rk_mt 307 (by decide +kernel) rfl)) rfl rd_d80 ?_
          refine lv_lmul hx hb rd_d83 ?_
          refine lv_iload_n hx hb rd_d84 rfl (lv_at hl2 0 rfl) ?_
          refine lv_bipush (v := 97) hx hb rd_d85 (by decide +kernel) ?_
          refine lv_isub hx hb rd_d87 ?_
          refine lv_iconst (v := 1) hx hb rd_d88 (by decide +kernel) ?_
          refine lv_iadd hx hb rd_d89 ?_
          refine lv_i2l hx hb rd_d90 rfl ?_
          refine lv_ladd hx hb rd_d91 ?_
          refine va_last hx hb hK hI.1 hI.2.1 hI.2.2 kk 0 (hZk _) rfl (nI_in h23 (by decide)) rd_d92 (fun H3 locs3 hP3 hD3 hS3 => ?_)
          rw [hZs, nI_clamp (by omega)] at hP3 hD3
          refine nextk H3 locs3 ls2 _ ⟨hP3, hD3, hS3⟩ (fun i => ?_) (by rw [e1]; exact lv_sub hl2 [1, 2, 3] rfl)
          rw [e1]
          dsimp only
          by_cases hi : i = (rd k).1
          · subst hi
            rw [pk_uLs]
            generalize (rd k).2.getD (rd k).1 0 * 32 + (sg_b.getD k 0 - 97 + 1).toInt64 = V
            rw [List.getD_eq_getElem?_getD, List.getElem?_set_self (by rw [rd_len]; exact h23)]
            rfl
          · rw [pk_uLn hi, hf, List.getD_eq_getElem?_getD, List.getD_eq_getElem?_getD, List.getElem?_set_ne (Ne.symm hi)]
      · have heq : sg_b.getD k 0 = 32 := by
          first | exact heq | exact Decidable.not_not.mp heq
        have e1 : rd (k + 1) = ((rd k).1 + 1, (rd k).2) := by
          show rd_step (rd k) (sg_b.getD k 0) = _
          unfold rd_step
          rw [if_pos heq]
        refine lv_iinc (v := nI ((rd k).1 + 1)) hx hb rd_d57 hl2 (k := 2) rfl (by rw [nI_succ (rd k).1]; first | done | rfl) (by decide) rfl (fun ls3 hl3 => ?_)
        refine lv_goto (tgt := 93) hx hb rd_d60 rfl ?_
        exact nextk H2 locs2 ls3 f hI (by rw [e1]; exact hf) (by rw [e1]; exact lv_sub hl3 [2, 0, 3] rfl)
  exact loop 115 0 (by omega) H locs ls f0 (by rw [hZ0]; exact ⟨hP, hD, hS⟩) (fun i => by rw [hf0 i]; show (0 : Int64) = (List.replicate 23 (0 : Int64)).getD i 0; rw [List.getD_eq_getElem?_getD, List.getElem?_replicate]; split <;> rfl) hl
end RDB
