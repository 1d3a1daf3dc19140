/-! ===== tk: the first part of a world, the second part ===== -/
section TKLF
variable {l : Launch} {D : va_G} {cl : List vw_C} {tbl xw : List Jvm.Cond} {MN : List rk_N} {P : List rk_M2} {xt : tk_XT} {ro : Nat → Nat → Int → Prop} {ads1 ads2 tw1 tw2 : List Nat}
theorem tk_rg_sub {S : Nat → Bool} {TY TL : tk_TT} (hT : tk_sbT S TY TL) {t : Nat} (hS : S t = true) (i : Nat) : tk_rg TL t i = tk_rg TY t i := by
  unfold tk_rg
  rw [(hT.1 t hS).2]
theorem tk_all_of {S : Nat → Bool} {tw : List Nat} (h : ∀ (j t : Nat), tw[j]? = some t → S t = true) : tw.all S = true := List.all_eq_true.mpr (fun t ht => by
  obtain ⟨j, hj⟩ := List.getElem?_of_mem ht
  exact h j t hj)
set_option maxHeartbeats 4000000 in
theorem tk_KS_pfx {S : Nat → Bool} {TY TL : tk_TT} {X1 X2 XL : va_W → Prop} (hT : tk_sbT S TY TL) (hA : ∀ (j t : Nat), tw1[j]? = some t → S t = true) (hB : ∀ (j t : Nat), tw2[j]? = some t → S t = false) (hl : tw1.length = ads1.length) (hXL : ∀ wsA wsB : va_W, wsA.length = ads1.length → (XL (wsA ++ wsB) ↔ X1 wsA ∧ X2 wsB)) (hxt : tk_xtok xt) {d : Nat} {K : tk_K} (hK : K.2.2.2.1.all S = true) (h : tk_KS l D cl tbl xw xt MN P TY ro X1 ads1 tw1 d K) : tk_KS l D cl tbl xw xt MN P TL ro XL (ads1 ++ ads2) (tw1 ++ tw2) d K := by
  intro q hq
  obtain ⟨M, hM, hM21, hmet⟩ := h q hq
  refine ⟨M, hM, hM21, fun vals rads ws av sz hH h3 hA2 h4 h9 hob => rk_Met_case (fun a U hP => ?_)⟩
  obtain ⟨p1, p2, p3, p4, p5, p6, p7, p8, p10⟩ := hP
  have hty : ∀ t y, S t = true → (tk_ty (ads1 ++ ads2) (tw1 ++ tw2) t y ↔ tk_ty ads1 tw1 t y) := fun t y hS => tk_ty_sub hA hB hl hS
  -- the two parts
  obtain ⟨ws1, ws2, rfl, h41, h42⟩ : ∃ ws1 ws2 : va_W, ws = ws1 ++ ws2 ∧ ws1.map Prod.fst = ads1 ∧ ws2.map Prod.fst = ads2 := by
    refine ⟨ws.take ads1.length, ws.drop ads1.length, (List.take_append_drop _ _).symm, ?_, ?_⟩
    · rw [List.map_take, h4, List.take_left]
    · rw [List.map_drop, h4, List.drop_left]
  have hl1 : ws1.length = ads1.length := by rw [← h41, List.length_map]
  have hS1 := tk_all_of hA
  obtain ⟨c1, c2⟩ : rk_A2 (fun t (q : Nat × va_E) => tk_cl TL ro (ads1 ++ ads2) (tw1 ++ tw2) U t q.2) tw1 ws1 ∧ rk_A2 (fun t (q : Nat × va_E) => tk_cl TL ro (ads1 ++ ads2) (tw1 ++ tw2) U t q.2) tw2 ws2 := by
    have e1 := rk_A2.take tw1.length p6
    have e2 := rk_A2.drop tw1.length p6
    rw [List.take_left, show tw1.length = ws1.length by omega, List.take_left] at e1
    rw [List.drop_left, show tw1.length = ws1.length by omega, List.drop_left] at e2
    exact ⟨e1, e2⟩
  have ht1 : rk_A2 (fun t (q : Nat × va_E) => tk_cl TY ro ads1 tw1 U t q.2) tw1 ws1 := rk_A2.imp (fun t q hS hc => (tk_cl_sub hT hty hS).mp hc) hS1 c1
  have h3s : rk_A2 (fun t y => tk_ty ads1 tw1 t y) K.2.2.2.1 rads := rk_A2.imp (fun t y hS hc => (hty t y hS).mp hc) hK h3
  have h9s : ∀ z ∈ K.2.2.2.2.1, tk_fk vals rads ws1 z := by
    intro z hz
    obtain ⟨y, j, i, e, v, g1, g2, g3, g4, g5⟩ := h9 z hz
    obtain ⟨t, -, j1, hj1, -⟩ := h3s.getR g1
    rw [← h41, List.getElem?_map] at hj1
    obtain ⟨w1, hw1, ew1⟩ := Option.map_eq_some_iff.mp hj1
    have hlt := (List.getElem?_eq_some_iff.mp hw1).1
    have := p5.1 j j1 _ w1 g3 (by rw [List.getElem?_append_left hlt]; exact hw1) ew1.symm
    subst this
    rw [List.getElem?_append_left hlt] at g3
    exact ⟨y, j, i, e, v, g1, g2, g3, g4, g5⟩
  have hfree : ∀ q, va_A ws1 sz q → va_A (ws1 ++ ws2) sz q := by
    rintro q (⟨k, e1, hk⟩ | hq)
    · exact Or.inl ⟨k, e1, by rw [List.getElem?_append_left (List.getElem?_eq_some_iff.mp hk).1]; exact hk⟩
    · exact Or.inr hq
  have p31 : va_P D cl ws1 U.heap := by
    have := rk_P_take (D := D) (cl := cl) ws1.length p3
    rw [List.take_left] at this
    exact this
  have p32 : va_P D cl ws2 U.heap := by
    have := rk_P_drop (D := D) (cl := cl) ws1.length p3
    rw [List.drop_left] at this
    exact this
  have p51 : va_D (fun _ => True) ws1 := by
    have := rk_D_take ws1.length p5
    rw [List.take_left] at this
    exact this
  have p52 : va_D (fun _ => True) ws2 := by
    have := rk_D_drop ws1.length p5
    rw [List.drop_left] at this
    exact this
  obtain ⟨x1, x2⟩ := (hXL ws1 ws2 hl1).mp p10
  refine ⟨tk_Pre D cl xw xt TY ro X1 ads1 tw1 ws1 sz av, tk_Post D cl TY ro X1 ads1 tw1 K.2.2.2.2.2 vals rads ws1 (va_A ws1 sz), rk_Met_imp (hmet vals rads ws1 av sz hH h3s hA2 h41 h9s (tk_ob_of h41 ht1)) (fun _ _ z => z) (fun _ _ _ _ _ _ z => z) hfree, ⟨p1, p2, p31, p4, p51, ht1, p7, hxt.2.2 _ _ _ _ _ p8 (fun _ _ _ => rfl) hfree, x1⟩, ?_⟩
  rintro oc t hW ⟨⟨x, hx, vals', rads', ws', k1, k2, b3, b4, b5, b6, b7, b8, b9, b10, b11⟩, hF⟩
  have hlw : ws'.length = ads1.length := by rw [← b5, List.length_map]
  have hout : ∀ (k9 : Nat) (z : Nat × va_E), ws2[k9]? = some z → ¬ va_A ws1 sz z.1 := by
    rintro k9 z hz (⟨k8, e8, hk8⟩ | hq8)
    · have hlt := (List.getElem?_eq_some_iff.mp hk8).1
      have := p5.1 (ws1.length + k9) k8 z (z.1, e8) (by rw [List.getElem?_append_right (by omega), show ws1.length + k9 - ws1.length = k9 by omega]; exact hz) (by rw [List.getElem?_append_left hlt]; exact hk8) rfl
      omega
    · have := (p32 k9 z hz).lt
      rw [p2] at this
      omega
  have hin : ∀ t y, tk_ty ads1 tw1 t y → tk_ty (ads1 ++ ads2) (tw1 ++ tw2) t y := by
    rintro t y ⟨j, g1, g2⟩
    exact ⟨j, by rw [List.getElem?_append_left (List.getElem?_eq_some_iff.mp g1).1]; exact g1, by rw [List.getElem?_append_left (List.getElem?_eq_some_iff.mp g2).1]; exact g2⟩
  refine ⟨⟨x, hx, vals', rads', ws' ++ ws2, k1, k2, b3, b4.mono (fun t y hc => hin t y hc), by rw [List.map_append, b5, h42], ?_, ?_, ?_, fun z hz => ?_, ⟨?_, ?_⟩, b11⟩, hF.1, fun q9 h9 hn9 => hF.2 q9 h9 (fun z => hn9 (hfree q9 z))⟩
  · exact rk_A2.app (c2.mono (fun t q hc => tk_cl_moved hW.alike hc)) (rk_A2.imp (fun t q hS hc => (tk_cl_sub hT hty hS).mpr hc) hS1 b6)
  · exact b7.app (p32.kept (fun k9 z hz => hF.2 z.1 ((p32 k9 z hz).lt) (hout k9 z hz)))
  · refine va_D.app (b8.weaken (fun _ _ _ z => hfree _ z)) (p52.weaken (fun k9 z hz _ => Or.inl ⟨ws1.length + k9, z.2, by rw [List.getElem?_append_right (by omega), show ws1.length + k9 - ws1.length = k9 by omega]; exact hz⟩)) (fun i j a1 a2 hi hj e9 => ?_)
    exact hout j a2 hj (e9 ▸ b8.2 i a1 hi)
  · obtain ⟨y, j, i, e, v, g1, g2, g3, g4, g5⟩ := b9 z hz
    exact ⟨y, j, i, e, v, g1, g2, by rw [List.getElem?_append_left (List.getElem?_eq_some_iff.mp g3).1]; exact g3, g4, g5⟩
  · intro j y e hj
    by_cases hlt : j < ws1.length
    · rw [List.getElem?_append_left hlt] at hj
      obtain ⟨e', g1, g2, g3⟩ := b10.1 j y e hj
      have hj1 : j < tw1.length := by omega
      have htS : ∀ t, (tw1 ++ tw2)[j]? = some t → tw1[j]? = some t ∧ S t = true := fun t ht => by
        rw [List.getElem?_append_left hj1] at ht
        exact ⟨ht, hA j t ht⟩
      refine ⟨e', by rw [List.getElem?_append_left (by omega)]; exact g1, fun i t ht hn => ?_, fun t ht hn => ?_⟩
      · obtain ⟨a1, a2⟩ := htS t ht
        exact g2 i t a1 (by rw [tk_rg_sub hT a2] at hn; exact hn)
      · obtain ⟨a1, a2⟩ := htS t ht
        exact g3 t a1 (fun i => by
          have := hn i
          rw [tk_rg_sub hT a2] at this
          exact this)
    · rw [List.getElem?_append_right (by omega)] at hj
      exact ⟨e, by rw [List.getElem?_append_right (by omega), show j - ws'.length = j - ws1.length by omega]; exact hj, fun _ _ _ _ => rfl, fun _ _ _ => rfl⟩
  · exact (hXL ws' ws2 hlw).mpr ⟨b10.2, x2⟩
set_option maxHeartbeats 4000000 in
theorem tk_KS_sfx {S : Nat → Bool} {TY TL : tk_TT} {X1 X2 XL : va_W → Prop} (hT : tk_sbT S TY TL) (hA : ∀ (j t : Nat), tw1[j]? = some t → S t = false) (hB : ∀ (j t : Nat), tw2[j]? = some t → S t = true) (hl : tw1.length = ads1.length) (hXL : ∀ wsA wsB : va_W, wsA.length = ads1.length → (XL (wsA ++ wsB) ↔ X1 wsA ∧ X2 wsB)) (hxt : tk_xtok xt) {d : Nat} {K : tk_K} (hK : K.2.2.2.1.all S = true) (h : tk_KS l D cl tbl xw xt MN P TY ro X2 ads2 tw2 d K) : tk_KS l D cl tbl xw xt MN P TL ro XL (ads1 ++ ads2) (tw1 ++ tw2) d K := by
  intro q hq
  obtain ⟨M, hM, hM21, hmet⟩ := h q hq
  refine ⟨M, hM, hM21, fun vals rads ws av sz hH h3 hA2 h4 h9 hob => rk_Met_case (fun a U hP => ?_)⟩
  obtain ⟨p1, p2, p3, p4, p5, p6, p7, p8, p10⟩ := hP
  have hty : ∀ t y, S t = true → (tk_ty (ads1 ++ ads2) (tw1 ++ tw2) t y ↔ tk_ty ads2 tw2 t y) := fun t y hS => tk_ty_sub2 hA hB hl hS
  obtain ⟨ws1, ws2, rfl, h41, h42⟩ : ∃ ws1 ws2 : va_W, ws = ws1 ++ ws2 ∧ ws1.map Prod.fst = ads1 ∧ ws2.map Prod.fst = ads2 := by
    refine ⟨ws.take ads1.length, ws.drop ads1.length, (List.take_append_drop _ _).symm, ?_, ?_⟩
    · rw [List.map_take, h4, List.take_left]
    · rw [List.map_drop, h4, List.drop_left]
  have hl1 : ws1.length = ads1.length := by rw [← h41, List.length_map]
  have hS1 := tk_all_of hB
  obtain ⟨c1, c2⟩ : rk_A2 (fun t (q : Nat × va_E) => tk_cl TL ro (ads1 ++ ads2) (tw1 ++ tw2) U t q.2) tw1 ws1 ∧ rk_A2 (fun t (q : Nat × va_E) => tk_cl TL ro (ads1 ++ ads2) (tw1 ++ tw2) U t q.2) tw2 ws2 := by
    have e1 := rk_A2.take tw1.length p6
    have e2 := rk_A2.drop tw1.length p6
    rw [List.take_left, show tw1.length = ws1.length by omega, List.take_left] at e1
    rw [List.drop_left, show tw1.length = ws1.length by omega, List.drop_left] at e2
    exact ⟨e1, e2⟩
  have ht1 : rk_A2 (fun t (q : Nat × va_E) => tk_cl TY ro ads2 tw2 U t q.2) tw2 ws2 := rk_A2.imp (fun t q hS hc => (tk_cl_sub hT hty hS).mp hc) hS1 c2
  have h3s : rk_A2 (fun t y => tk_ty ads2 tw2 t y) K.2.2.2.1 rads := rk_A2.imp (fun t y hS hc => (hty t y hS).mp hc) hK h3
  have hget : ∀ (k : Nat), (ws1 ++ ws2)[ws1.length + k]? = ws2[k]? := fun k => by
    rw [List.getElem?_append_right (by omega), show ws1.length + k - ws1.length = k by omega]
  have h9s : ∀ z ∈ K.2.2.2.2.1, tk_fk vals rads ws2 z := by
    intro z hz
    obtain ⟨y, j, i, e, v, g1, g2, g3, g4, g5⟩ := h9 z hz
    obtain ⟨t, -, j1, hj1, -⟩ := h3s.getR g1
    rw [← h42, List.getElem?_map] at hj1
    obtain ⟨w1, hw1, ew1⟩ := Option.map_eq_some_iff.mp hj1
    have := p5.1 j (ws1.length + j1) _ w1 g3 (by rw [hget]; exact hw1) ew1.symm
    subst this
    rw [hget] at g3
    exact ⟨y, j1, i, e, v, g1, g2, g3, g4, g5⟩
  have hfree : ∀ q, va_A ws2 sz q → va_A (ws1 ++ ws2) sz q := by
    rintro q (⟨k, e1, hk⟩ | hq)
    · exact Or.inl ⟨ws1.length + k, e1, by rw [hget]; exact hk⟩
    · exact Or.inr hq
  have p31 : va_P D cl ws1 U.heap := by
    have := rk_P_take (D := D) (cl := cl) ws1.length p3
    rw [List.take_left] at this
    exact this
  have p32 : va_P D cl ws2 U.heap := by
    have := rk_P_drop (D := D) (cl := cl) ws1.length p3
    rw [List.drop_left] at this
    exact this
  have p51 : va_D (fun _ => True) ws1 := by
    have := rk_D_take ws1.length p5
    rw [List.take_left] at this
    exact this
  have p52 : va_D (fun _ => True) ws2 := by
    have := rk_D_drop ws1.length p5
    rw [List.drop_left] at this
    exact this
  obtain ⟨x1, x2⟩ := (hXL ws1 ws2 hl1).mp p10
  refine ⟨tk_Pre D cl xw xt TY ro X2 ads2 tw2 ws2 sz av, tk_Post D cl TY ro X2 ads2 tw2 K.2.2.2.2.2 vals rads ws2 (va_A ws2 sz), rk_Met_imp (hmet vals rads ws2 av sz hH h3s hA2 h42 h9s (tk_ob_of h42 ht1)) (fun _ _ z => z) (fun _ _ _ _ _ _ z => z) hfree, ⟨p1, p2, p32, p4, p52, ht1, p7, hxt.2.2 _ _ _ _ _ p8 (fun _ _ _ => rfl) hfree, x2⟩, ?_⟩
  rintro oc t hW ⟨⟨x, hx, vals', rads', ws', k1, k2, b3, b4, b5, b6, b7, b8, b9, b10, b11⟩, hF⟩
  have hlw : ws'.length = ws2.length := by rw [← List.length_map (f := Prod.fst) (as := ws'), b5, ← h42, List.length_map]
  have hout : ∀ (k9 : Nat) (z : Nat × va_E), ws1[k9]? = some z → ¬ va_A ws2 sz z.1 := by
    rintro k9 z hz (⟨k8, e8, hk8⟩ | hq8)
    · have hlt := (List.getElem?_eq_some_iff.mp hz).1
      have := p5.1 k9 (ws1.length + k8) z (z.1, e8) (by rw [List.getElem?_append_left hlt]; exact hz) (by rw [hget]; exact hk8) rfl
      omega
    · have := (p31 k9 z hz).lt
      rw [p2] at this
      omega
  have hin : ∀ t y, tk_ty ads2 tw2 t y → tk_ty (ads1 ++ ads2) (tw1 ++ tw2) t y := by
    rintro t y ⟨j, g1, g2⟩
    exact ⟨ads1.length + j, by rw [List.getElem?_append_right (by omega), show ads1.length + j - ads1.length = j by omega]; exact g1, by rw [List.getElem?_append_right (by omega), show ads1.length + j - tw1.length = j by omega]; exact g2⟩
  refine ⟨⟨x, hx, vals', rads', ws1 ++ ws', k1, k2, b3, b4.mono (fun t y hc => hin t y hc), by rw [List.map_append, b5, h41], ?_, ?_, ?_, fun z hz => ?_, ⟨?_, ?_⟩, b11⟩, hF.1, fun q9 h9 hn9 => hF.2 q9 h9 (fun z => hn9 (hfree q9 z))⟩
  · exact rk_A2.app (rk_A2.imp (fun t q hS hc => (tk_cl_sub hT hty hS).mpr hc) hS1 b6) (c1.mono (fun t q hc => tk_cl_moved hW.alike hc))
  · exact (p31.kept (fun k9 z hz => hF.2 z.1 ((p31 k9 z hz).lt) (hout k9 z hz))).app b7
  · refine va_D.app (p51.weaken (fun k9 z hz _ => Or.inl ⟨k9, z.2, by rw [List.getElem?_append_left (List.getElem?_eq_some_iff.mp hz).1]; exact hz⟩)) (b8.weaken (fun _ _ _ z => hfree _ z)) (fun i j a1 a2 hi hj e9 => ?_)
    exact hout i a1 hi (e9 ▸ b8.2 j a2 hj)
  · obtain ⟨y, j, i, e, v, g1, g2, g3, g4, g5⟩ := b9 z hz
    exact ⟨y, ws1.length + j, i, e, v, g1, g2, by rw [List.getElem?_append_right (by omega), show ws1.length + j - ws1.length = j by omega]; exact g3, g4, g5⟩
  · intro j y e hj
    by_cases hlt : j < ws1.length
    · rw [List.getElem?_append_left hlt] at hj
      exact ⟨e, by rw [List.getElem?_append_left hlt]; exact hj, fun _ _ _ _ => rfl, fun _ _ _ => rfl⟩
    · rw [List.getElem?_append_right (by omega)] at hj
      obtain ⟨e', g1, g2, g3⟩ := b10.1 _ y e hj
      have htS : ∀ t, (tw1 ++ tw2)[j]? = some t → tw2[j - ws1.length]? = some t ∧ S t = true := fun t ht => by
        rw [List.getElem?_append_right (by omega), show j - tw1.length = j - ws1.length by omega] at ht
        exact ⟨ht, hB _ t ht⟩
      refine ⟨e', by rw [List.getElem?_append_right (by omega)]; exact g1, fun i t ht hn => ?_, fun t ht hn => ?_⟩
      · obtain ⟨a1, a2⟩ := htS t ht
        exact g2 i t a1 (by rw [tk_rg_sub hT a2] at hn; exact hn)
      · obtain ⟨a1, a2⟩ := htS t ht
        exact g3 t a1 (fun i => by
          have := hn i
          rw [tk_rg_sub hT a2] at this
          exact this)
  · exact (hXL ws1 ws' hl1).mpr ⟨x1, b10.2⟩
end TKLF
