/-! ===== the model's plain(slot): its loop ===== -/
theorem pl_d2 : decode gk_N202.2.2 2 = .ok (.iload_n 2, 1) := by decide +kernel
theorem pl_d3 : decode gk_N202.2.2 3 = .ok (.sipush 842, 3) := by decide +kernel
theorem pl_d6 : decode gk_N202.2.2 6 = .ok (.if_icmp .ge 18, 3) := by decide +kernel
theorem pl_d9 : decode gk_N202.2.2 9 = .ok (.aload_n 0, 1) := by decide +kernel
theorem pl_d10 : decode gk_N202.2.2 10 = .ok (.getfield 7, 3) := by decide +kernel
theorem pl_d13 : decode gk_N202.2.2 13 = .ok (.iload_n 1, 1) := by decide +kernel
theorem pl_d14 : decode gk_N202.2.2 14 = .ok (.iload_n 2, 1) := by decide +kernel
theorem pl_d15 : decode gk_N202.2.2 15 = .ok (.iadd, 1) := by decide +kernel
theorem pl_d16 : decode gk_N202.2.2 16 = .ok (.iconst 0, 1) := by decide +kernel
theorem pl_d17 : decode gk_N202.2.2 17 = .ok (.iastore, 1) := by decide +kernel
theorem pl_d18 : decode gk_N202.2.2 18 = .ok (.iinc 2 1, 3) := by decide +kernel
theorem pl_d21 : decode gk_N202.2.2 21 = .ok (.goto (-19), 3) := by decide +kernel
theorem rk_look_filter (d : rk_V) (p : Nat → Bool) (j : Nat) : ∀ ov : List (Nat × rk_V), rk_look d (ov.filter (fun z => p z.1)) j = if p j = true then rk_look d ov j else d
  | [] => by
    show d = _
    split <;> rfl
  | q :: r => by
    by_cases hq : p q.1 = true
    · rw [List.filter_cons_of_pos (p := fun z : Nat × rk_V => p z.1) hq]
      show (if q.1 = j then q.2 else rk_look d (r.filter (fun z => p z.1)) j) = if p j = true then (if q.1 = j then q.2 else rk_look d r j) else d
      by_cases e : q.1 = j
      · rw [if_pos e, if_pos e, if_pos (e ▸ hq)]
      · rw [if_neg e, if_neg e]
        exact rk_look_filter d p j r
    · rw [List.filter_cons_of_neg (p := fun z : Nat × rk_V => p z.1) hq, rk_look_filter d p j r]
      show (if p j = true then rk_look d r j else d) = if p j = true then (if q.1 = j then q.2 else rk_look d r j) else d
      by_cases hj : p j = true
      · rw [if_pos hj, if_pos hj, if_neg (show ¬ q.1 = j from fun e => hq (by rw [e]; exact hj))]
      · rw [if_neg hj, if_neg hj]
section PLB
variable {p : Program} {l : Launch} {e : Env} {R : Room} {s : State} {m : MethodId} {args : Array Value} {below : List Frame} {meth : Method} {c : Code} {Q : State → Prop} {D : va_G} {Ad : Nat → Prop}
set_option maxHeartbeats 4000000 in
theorem pl_body (hx : p.tables.exec = Jvm.exec) (hb : c.code = gk_N202.2.2) (hts : ∀ w ∈ gk_tbl, w.before args s = true) (hown : s.vm.findClass "GooseIceModel" = some m.cls) {cA : ClassId} (hK : va_K D gk_cl [(cA, .int)] s) {ws : va_W} {j kk h0 a S nc ns : Nat} {vs : List Value} {f0 : Nat → Int32} (hj : ws[j]? = some (h0, .inr (12, vs))) (hv : vs[0]? = some (.ref a)) (hk : ws[kk]? = some (a, .inl (cA, 5894, .inl f0))) (hS842 : S + 842 ≤ 5894) {H : Heap} {locs : List Loc} {ls : Array Slot} (hP : va_P D gk_cl ws H) (hD : va_D Ad ws) (hS : va_S Ad s.heap H locs) (hl : lv_has ls 3 [(0, .ref h0), (1, .int (nI S)), (2, .int (nI 0))])
    (kend : ∀ (H : Heap) (locs : List Loc) (ls : Array Slot) (f : Nat → Int32), va_P D gk_cl (ws.set kk (a, .inl (cA, 5894, .inl f))) H → va_D Ad (ws.set kk (a, .inl (cA, 5894, .inl f))) → va_S Ad s.heap H locs → (∀ i, f i = if S ≤ i ∧ i < S + 842 then 0 else f0 i) → lv_has ls 3 [(0, .ref h0), (1, .int (nI S))] → W p l e R s m args below meth c H locs nc ns Q (F0 m 24 ls [])) :
    W p l e R s m args below meth c H locs nc ns Q (F0 m 2 ls []) := by
  have hjk : kk ≠ j := by rintro rfl; rw [hj] at hk; cases hk
  have hkl : kk < ws.length := (List.getElem?_eq_some_iff.mp hk).1
  obtain ⟨Z, hZ⟩ : ∃ Z : (Nat → Int32) → va_W, ∀ f, Z f = ws.set kk (a, .inl (cA, 5894, .inl f)) := ⟨_, fun _ => rfl⟩
  have hZj : ∀ f, (Z f)[j]? = some (h0, .inr (12, vs)) := fun f => by rw [hZ, List.getElem?_set_ne hjk]; exact hj
  have hZk : ∀ f, (Z f)[kk]? = some (a, .inl (cA, 5894, .inl f)) := fun f => by rw [hZ, List.getElem?_set_self hkl]
  have hZs : ∀ f g, (Z f).set kk (a, .inl (cA, 5894, .inl g)) = Z g := fun f g => by rw [hZ, hZ, List.set_set]
  have hZ0 : Z f0 = ws := by
    rw [hZ]
    apply List.ext_getElem?
    intro i
    rw [List.getElem?_set]
    split
    · next z => subst z; first | exact hk.symm | (rw [if_pos hkl]; exact hk.symm)
    · rfl
  have loop : ∀ (r k : Nat), k + r = 842 → ∀ (H : Heap) (locs : List Loc) (ls : Array Slot) (f : Nat → Int32), (va_P D gk_cl (Z f) H ∧ va_D Ad (Z f) ∧ va_S Ad s.heap H locs) → (∀ i, f i = if S ≤ i ∧ i < S + k then 0 else f0 i) → lv_has ls 3 [(0, .ref h0), (1, .int (nI S)), (2, .int (nI k))] → W p l e R s m args below meth c H locs nc ns Q (F0 m 2 ls []) := by
    intro r
    induction r with
    | zero =>
      intro k hkr H locs ls f hI hf hl
      refine lv_iload_n hx hb pl_d2 rfl (lv_at hl 2 rfl) ?_
      refine lv_sipush (v := nI 842) hx hb pl_d3 (by decide +kernel) ?_
      refine lv_icmp_ge (tgt := 24) hx hb pl_d6 rfl (fun _ => ?_) (fun h => absurd (nI_le (by omega) (by omega)) h)
      rw [hZ] at hI
      exact kend H locs ls f hI.1 hI.2.1 hI.2.2 (fun i => by rw [hf i, show k = 842 by omega]) (lv_sub hl [0, 1] rfl)
    | succ r ih =>
      intro k hkr H locs ls f hI hf hl
      refine lv_iload_n hx hb pl_d2 rfl (lv_at hl 2 rfl) ?_
      refine lv_sipush (v := nI 842) hx hb pl_d3 (by decide +kernel) ?_
      refine lv_icmp_ge (tgt := 24) hx hb pl_d6 rfl (fun h => absurd h (nI_ge (by omega) (by omega))) (fun _ => ?_)
      refine lv_aload_n hx hb pl_d9 rfl (lv_at hl 0 rfl) ?_
      refine va_get (D := D) (ci := 12) (v := .ref a) (own := "GooseIceModel") (ref := "GooseIceModel") (index := 7) (C := gk_R12) (T := gk_T12) (N := 43) hx hb hts gk_u12 hown hK hI.1 j (hZj _) rfl 0 (by decide) (hts _ (rk_mt 1659 (by decide +kernel) rfl)) (fun _ h9 => h9) hv pl_d10 ?_
      refine lv_iload_n hx hb pl_d13 rfl (lv_at hl 1 rfl) ?_
      refine lv_iload_n hx hb pl_d14 rfl (lv_at hl 2 rfl) ?_
      refine lv_iadd hx hb pl_d15 ?_
      rw [nI_add]
      refine lv_iconst (v := 0) hx hb pl_d16 (by decide +kernel) ?_
      refine va_iast hx hb hK hI.1 hI.2.1 hI.2.2 kk 0 (hZk f) rfl (nI_in (show S + k < 5894 by omega) (by decide)) pl_d17 (fun H2 locs2 hP2 hD2 hS2 => ?_)
      rw [hZs, nI_clamp (by omega)] at hP2 hD2
      refine lv_iinc (v := nI (k + 1)) hx hb pl_d18 hl (k := 2) rfl (by rw [nI_succ k]; first | done | rfl) (by decide) rfl (fun ls2 hl2 => ?_)
      refine lv_goto (tgt := 2) hx hb pl_d21 rfl ?_
      refine ih (k + 1) (by omega) H2 locs2 ls2 _ ⟨hP2, hD2, hS2⟩ (fun i => ?_) (lv_sub hl2 [1, 2, 0] rfl)
      by_cases hi : i = S + k
      · subst hi
        rw [pk_us, if_pos (by omega)]
      · rw [pk_un hi, hf i]
        by_cases h9 : S ≤ i ∧ i < S + k
        · rw [if_pos h9, if_pos (by omega)]
        · rw [if_neg h9, if_neg (by omega)]
  exact loop 842 0 (by omega) H locs ls f0 (by rw [hZ0]; exact ⟨hP, hD, hS⟩) (fun i => by rw [if_neg (by omega)]) hl
end PLB
