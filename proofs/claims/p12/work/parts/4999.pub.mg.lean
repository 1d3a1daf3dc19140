section MH11_0
/-! ===== the model: the public calls that were done by fx, as tk contracts ===== -/
section FMP
variable {g g' : Nat → Int32} {tp bt tp' bt' : Int64} {a a' : Nat → Nat → Int32} {b b' : Nat → Nat → Int64}
theorem fm_xsS {xs : List Int32} {n : Nat} (h : xs.length = n + 1) : ∃ x ys, xs = x :: ys ∧ ys.length = n := by
  cases xs with
  | nil => exact absurd h (by rw [List.length_nil]; omega)
  | cons x ys => exact ⟨x, ys, rfl, by rw [List.length_cons] at h; omega⟩
theorem fm_I_gb (hI : fm_I g a) : fm_gb g := ⟨hI.1 (2, 0, 9) (by decide), hI.1 (30, 0, 4) (by decide), hI.1 (37, 0, 300) (by decide), (hI.1 (41, 0, 1) (by decide)).1, (hI.1 (41, 0, 1) (by decide)).2⟩
theorem gm_ar_E : ∀ q ∈ gm_ar, fm_okE q.1 = false := by decide
theorem fm_I_EG (hI : fm_I g a) (hE : fm_Ew a a') (hG : fm_G g g') : fm_I g' a' := by
  refine ⟨fun q hq => ?_, hE.1, fun q hq i hi => ?_⟩
  · skip
    simp only [gm_gf, List.mem_cons, List.not_mem_nil, or_false] at hq
    rcases hq with rfl | rfl | rfl | rfl | rfl | rfl | rfl | rfl | rfl | rfl | rfl | rfl | rfl | rfl | rfl | rfl | rfl | rfl | rfl | rfl
    · show (0 : Int) ≤ (g' 2).toInt ∧ (g' 2).toInt ≤ 9
      exact hG.2.1
    · show (0 : Int) ≤ (g' 10).toInt ∧ (g' 10).toInt ≤ 900
      rw [hG.1 10 rfl]; exact hI.1 (10, 0, 900) (by decide)
    · show (0 : Int) ≤ (g' 11).toInt ∧ (g' 11).toInt ≤ 900
      rw [hG.1 11 rfl]; exact hI.1 (11, 0, 900) (by decide)
    · show (0 : Int) ≤ (g' 12).toInt ∧ (g' 12).toInt ≤ 4
      rw [hG.1 12 rfl]; exact hI.1 (12, 0, 4) (by decide)
    · show (0 : Int) ≤ (g' 13).toInt ∧ (g' 13).toInt ≤ 900
      rw [hG.1 13 rfl]; exact hI.1 (13, 0, 900) (by decide)
    · show (0 : Int) ≤ (g' 14).toInt ∧ (g' 14).toInt ≤ 900
      rw [hG.1 14 rfl]; exact hI.1 (14, 0, 900) (by decide)
    · show ((-2147483648) : Int) ≤ (g' 15).toInt ∧ (g' 15).toInt ≤ 1000000
      rw [hG.1 15 rfl]; exact hI.1 (15, (-2147483648), 1000000) (by decide)
    · show ((-1) : Int) ≤ (g' 16).toInt ∧ (g' 16).toInt ≤ 7
      rw [hG.1 16 rfl]; exact hI.1 (16, (-1), 7) (by decide)
    · show ((-1) : Int) ≤ (g' 17).toInt ∧ (g' 17).toInt ≤ 900
      rw [hG.1 17 rfl]; exact hI.1 (17, (-1), 900) (by decide)
    · show (0 : Int) ≤ (g' 18).toInt ∧ (g' 18).toInt ≤ 7
      rw [hG.1 18 rfl]; exact hI.1 (18, 0, 7) (by decide)
    · show (0 : Int) ≤ (g' 19).toInt ∧ (g' 19).toInt ≤ 0
      rw [hG.1 19 rfl]; exact hI.1 (19, 0, 0) (by decide)
    · show ((-2147483648) : Int) ≤ (g' 20).toInt ∧ (g' 20).toInt ≤ 2147483647
      rw [hG.1 20 rfl]; exact hI.1 (20, (-2147483648), 2147483647) (by decide)
    · show (0 : Int) ≤ (g' 22).toInt ∧ (g' 22).toInt ≤ 3
      rw [hG.1 22 rfl]; exact hI.1 (22, 0, 3) (by decide)
    · show (0 : Int) ≤ (g' 23).toInt ∧ (g' 23).toInt ≤ 30
      rw [hG.1 23 rfl]; exact hI.1 (23, 0, 30) (by decide)
    · show ((-2147483648) : Int) ≤ (g' 25).toInt ∧ (g' 25).toInt ≤ 2147483647
      exact fm_i32 _
    · show (0 : Int) ≤ (g' 30).toInt ∧ (g' 30).toInt ≤ 4
      exact hG.2.2.1
    · show ((-2147483648) : Int) ≤ (g' 36).toInt ∧ (g' 36).toInt ≤ 2147483647
      exact fm_i32 _
    · show (0 : Int) ≤ (g' 37).toInt ∧ (g' 37).toInt ≤ 300
      exact hG.2.2.2.1
    · show (0 : Int) ≤ (g' 41).toInt ∧ (g' 41).toInt ≤ 1
      exact hG.2.2.2.2
    · show (0 : Int) ≤ (g' 42).toInt ∧ (g' 42).toInt ≤ 3
      rw [hG.1 42 rfl]; exact hI.1 (42, 0, 3) (by decide)
  · rw [hE.2 q.1 (gm_ar_E q hq)]; exact hI.2.2 q hq i hi
theorem gn_Mg {k : Nat} (h : fm_okg k = true) : (0, k) ∈ gn_M0 := by
  have := of_decide_eq_true h
  rcases this with rfl | rfl | rfl | rfl | rfl | rfl
  all_goals exact List.mem_append_right _ (by decide)
theorem gn_ME {t : Nat} (h : fm_okE t = true) (h1 : t ≠ 1) : (t, 0) ∈ gn_M0 := by
  have := of_decide_eq_true h
  have : t = 9 ∨ t = 10 ∨ t = 11 ∨ t = 12 ∨ t = 13 ∨ t = 16 ∨ t = 19 ∨ t = 20 ∨ t = 21 := by omega
  rcases this with rfl | rfl | rfl | rfl | rfl | rfl | rfl | rfl | rfl
  all_goals exact List.mem_append_right _ (by decide)
theorem fm_ffr_EG (hE : fm_Ew a a') (hG : fm_G g g') (hb : ∀ t, t ≠ 17 → t ≠ 18 → b' t = b t) : fm_ffr gn_M0 g a b g' a' b' := by
  refine ⟨fun k => ?_, fun t ht => ?_, fun t => ?_⟩
  · cases hk : fm_okg k
    · exact Or.inr (hG.1 k hk)
    · exact Or.inl (gn_Mg hk)
  · cases hk : fm_okE t
    · exact Or.inr (hE.2 t hk)
    · exact Or.inl (gn_ME hk ht)
  · by_cases h1 : t = 17
    · subst h1; exact Or.inl (List.mem_append_right _ (by decide))
    · by_cases h2 : t = 18
      · subst h2; exact Or.inl (List.mem_append_right _ (by decide))
      · exact Or.inr (hb t h1 h2)
/-- what a public call gives -/
def fm_PP (mods : List (Nat × Nat)) (g : Nat → Int32) (a : Nat → Nat → Int32) (b : Nat → Nat → Int64) (R : Option Value × fx_M) : Prop := ∃ (v : Int32) (g' : Nat → Int32) (tp' bt' : Int64) (a' : Nat → Nat → Int32) (b' : Nat → Nat → Int64), R = (some (.int v), fm g' tp' bt' a' b') ∧ fm_I g' a' ∧ fm_ffr mods g a b g' a' b'
theorem fm_I_PO {R : Option Value × fx_M} (hI : fm_I g a) (h : fm_PO g tp bt a b R) : fm_PP gn_M0 g a b R := by
  obtain ⟨v, g', tp', bt', a', b', hE, hG, hb, rfl⟩ := h
  exact ⟨v, g', tp', bt', a', b', rfl, fm_I_EG hI (fm_E_w hE) hG, fm_ffr_EG (fm_E_w hE) hG hb⟩
theorem fm_I_PZ {R : Option Value × fx_M} (hI : fm_I g a) (h : fm_PZ g tp bt a b R) : fm_PP gn_M0 g a b R := by
  obtain ⟨v, g', tp', bt', a', b', -, hE, hG, hb, rfl⟩ := h
  exact ⟨v, g', tp', bt', a', b', rfl, fm_I_EG hI (fm_E_w hE) hG, fm_ffr_EG (fm_E_w hE) hG hb⟩
theorem fm_I_PW {R : Option Value × fx_M} (hI : fm_I g a) (h : fm_PW g tp bt a b R) : fm_PP gn_M0 g a b R := by
  obtain ⟨v, g', tp', bt', a', b', -, hE, hG, hb, rfl⟩ := h
  exact ⟨v, g', tp', bt', a', b', rfl, fm_I_EG hI hE hG, fm_ffr_EG hE hG hb⟩
theorem fm_I_a {a a' : Nat → Nat → Int32} (hI : fm_I g a) (hB : fm_B a') (h : ∀ q ∈ gm_ar, ∀ i, i < q.2.1 → q.2.2.1 ≤ (a' q.1 i).toInt ∧ (a' q.1 i).toInt ≤ q.2.2.2) : fm_I g a' := ⟨hI.1, hB, h⟩
theorem fm_I_PT {R : Option Value × fx_M} (hI : fm_I g a) (h : fm_PT g tp bt a b R) : fm_PP gn_M0 g a b R := by
  obtain ⟨v, g', a', hS, h15, hG, rfl⟩ := h
  have hB : fm_B a' := fm_B_eq hI.2.1 (fun i => by rw [hS 1 (by decide)]) (fun i hi => by rw [hS 9 (by decide)]; exact hI.2.1.2.2 i hi)
  have hI2 : fm_I g' a := fm_I_EG hI (fm_E_w (fm_E_rf hI.2.1)) hG
  refine ⟨v, g', tp, bt, a', b, rfl, fm_I_a hI2 hB (fun q hq i hi => ?_), ⟨(fm_ffr_EG (b := b) (fm_E_w (fm_E_rf hI.2.1)) hG (fun _ _ _ => rfl)).1, fun t ht => ?_, fun t => Or.inr rfl⟩⟩
  · by_cases hq5 : q.1 = 15
    · have : q = (15, 427, 0, 1000000) := by
        have : ∀ q ∈ gm_ar, q.1 = 15 → q = (15, 427, 0, 1000000) := by decide
        exact this q hq hq5
      subst this
      exact h15 i hi
    · rw [hS q.1 hq5]; exact hI.2.2 q hq i hi
  · by_cases h5 : t = 15
    · subst h5; exact Or.inl (List.mem_append_right _ (by decide))
    · exact Or.inr (hS t h5)
theorem gm_gf_42 : ∀ q ∈ gm_gf, q.1 = 42 → q.2 = (0, 3) := by decide
theorem gm_gf_2 : ∀ q ∈ gm_gf, q.1 = 2 → q.2 = (0, 9) := by decide
theorem fm_I_u2 {x : Int32} (hI : fm_I g a) (h : 0 ≤ x.toInt ∧ x.toInt ≤ 9) : fm_I (upd g 2 x) a := by
  refine ⟨fun q hq => ?_, hI.2⟩
  by_cases h2 : q.1 = 2
  · rw [gm_gf_2 q hq h2, h2, pk_us]; exact h
  · rw [pk_un h2]; exact hI.1 q hq
theorem fm_I_u42 {x : Int32} (hI : fm_I g a) (h : 0 ≤ x.toInt ∧ x.toInt ≤ 3) : fm_I (upd g 42 x) a := by
  refine ⟨fun q hq => ?_, hI.2⟩
  by_cases h2 : q.1 = 42
  · rw [gm_gf_42 q hq h2, h2, pk_us]; exact h
  · rw [pk_un h2]; exact hI.1 q hq
theorem fm_ffr_u2 {m : List (Nat × Nat)} (hm : (0, 2) ∈ m) {x : Int32} : fm_ffr m g a b (upd g 2 x) a b := ⟨fun k => by
  by_cases h : k = 2
  · subst h; exact Or.inl hm
  · exact Or.inr (pk_un h), fun _ _ => Or.inr rfl, fun _ => Or.inr rfl⟩
theorem fm_I_MU {m n : Nat} {x : Int32} {R : Option Value × fx_M} (hI : fm_I g a) (h0 : 0 ≤ x.toInt ∧ x.toInt ≤ 9) {p q : Prop} (hn : q → n ≤ 3) (h : ∃ (v : Int32) (g' : Nat → Int32) (a' : Nat → Nat → Int32) (b' : Nat → Nat → Int64), (p ∧ v = -1 ∧ g' = upd g 2 x ∧ a' = a ∧ b' = b ∨ q ∧ v = nI n ∧ g' = upd (upd g 42 (nI n)) 2 0 ∧ fm_B a' ∧ (∀ t, t ≠ 1 → a' t = a t) ∧ ∀ t, t ≠ 2 → b' t = b t) ∧ R = (some (.int v), fm g' tp bt a' b')) : fm_PP gn_M2 g a b R := by
  obtain ⟨v, g', a', b', hh, rfl⟩ := h
  rcases hh with ⟨-, -, rfl, rfl, rfl⟩ | ⟨hq, -, rfl, hB, ha, hb⟩
  · exact ⟨v, _, tp, bt, _, _, rfl, fm_I_u2 hI h0, fm_ffr_u2 (List.mem_append_right _ (by decide))⟩
  · have hn3 := hn hq
    refine ⟨v, _, tp, bt, _, _, rfl, fm_I_u2 ⟨(fm_I_u42 hI (by rw [nI_i32 (by omega)]; omega)).1, hB, fun q hq i hi => ?_⟩ (by decide), fun k => ?_, fun t ht => Or.inr (ha t ht), fun t => ?_⟩
    · have : ∀ q ∈ gm_ar, q.1 ≠ 1 := by decide
      rw [ha q.1 (this q hq)]; exact hI.2.2 q hq i hi
    · by_cases h2 : k = 2
      · subst h2; exact Or.inl (List.mem_append_right _ (by decide))
      · by_cases h4 : k = 42
        · subst h4; exact Or.inl (List.mem_append_right _ (by decide))
        · exact Or.inr (by rw [pk_un h2, pk_un h4])
    · by_cases h2 : t = 2
      · subst h2; exact Or.inl (List.mem_append_right _ (by decide))
      · exact Or.inr (hb t h2)
theorem fm_i8b (x : Int8) : (-128) ≤ x.toInt32.toInt ∧ x.toInt32.toInt ≤ 127 := by
  have h1 := Int8.le_toInt x
  have h2 := Int8.toInt_lt x
  rw [Int8.toInt_toInt32]
  omega
set_option maxHeartbeats 4000000 in
theorem fm_I_LK (hI : fm_I g a) (h : fm_LK1 g a b g' a' b') : fm_I g' a' ∧ fm_ffr gn_M1 g a b g' a' b' := by
  obtain ⟨eo, e10, e2, ⟨S, E, F, x1, x2, x3, x4, x5, x6, ⟨t7, x7b, x7⟩, x8, x9⟩, ⟨⟨n1, f0, f1⟩, f2⟩, e16, e19, at', a7, ax, aN, sN, hL, hb⟩ := h
  obtain ⟨hBd, ⟨hS, hR⟩, h9⟩ := hI.2.1
  have bd : ∀ i, i < 5894 → fm_bd a' i := fun i hi => by
    by_cases hi0 : i < 842
    · rcases hL with hL | ⟨hL, -⟩
      · exact fm_bd_eq (hBd i hi) (hL i hi0)
      · exact hL i hi0
    · by_cases hi4 : 3368 ≤ i ∧ i < 4210
      · exact aN i hi4.1 hi4.2
      · exact fm_bd_eq (hBd i hi) (ax i hi0 hi4)
  have hXA : fm_XA a' := by
    refine ⟨fun s hs => ?_, fun s hs n hn => ?_⟩
    · by_cases h4 : s = 4
      · subst h4; exact sN
      · by_cases h00 : s = 0
        · subst h00
          rcases hL with hL | ⟨-, hL, -⟩
          · intro c d hc hd
            rw [hL _ (by omega), hL _ (by omega)]; exact hS 0 (by omega) c d hc hd
          · exact hL
        · intro c d hc hd
          rw [ax _ (by omega) (by omega), ax _ (by omega) (by omega)]; exact hS s hs c d hc hd
    · have hn6 : (n : Int) < 60 := by
        have h1 := (bd (842 * s + 6) (by omega)).2
        have hg : ∀ s, s < 4 → (gm_at (842 * s + 6)).2 ≤ 60 := by decide
        have := hg s hs
        omega
      by_cases h00 : s = 0
      · subst h00
        rcases hL with hL | ⟨-, -, -, hL⟩
        · rw [hL _ (by omega)] at hn
          rw [hL _ (by omega), hL _ (by omega)]; exact hR 0 (by omega) n hn
        · rw [show 842 * 0 + 6 = 6 from rfl, hL, show (-1 : Int32).toInt = -1 from rfl] at hn
          omega
      · rw [ax _ (by omega) (by omega)] at hn
        rw [ax _ (by omega) (by omega), ax _ (by omega) (by omega)]; exact hR s hs n hn
  refine ⟨⟨fun q hq => ?_, ⟨bd, hXA, fun i hi => by rw [at' 9 (by decide) (by decide)]; exact h9 i hi⟩, fun q hq i hi => ?_⟩, fun k => ?_, fun t ht => ?_, fun t => ?_⟩
  · skip
    simp only [gm_gf, List.mem_cons, List.not_mem_nil, or_false] at hq
    rcases hq with rfl | rfl | rfl | rfl | rfl | rfl | rfl | rfl | rfl | rfl | rfl | rfl | rfl | rfl | rfl | rfl | rfl | rfl | rfl | rfl
    · show (0 : Int) ≤ (g' 2).toInt ∧ (g' 2).toInt ≤ 9
      rcases e2 with e2 | e2 <;> rw [e2] <;> decide
    · show (0 : Int) ≤ (g' 10).toInt ∧ (g' 10).toInt ≤ 900
      rw [e10]; decide
    · show (0 : Int) ≤ (g' 11).toInt ∧ (g' 11).toInt ≤ 900
      rw [x1, nI_i32 (by omega)]; omega
    · show (0 : Int) ≤ (g' 12).toInt ∧ (g' 12).toInt ≤ 4
      rw [x7, nI_i32 (by omega)]; omega
    · show (0 : Int) ≤ (g' 13).toInt ∧ (g' 13).toInt ≤ 900
      rw [x5, nI_i32 (by omega)]; omega
    · show (0 : Int) ≤ (g' 14).toInt ∧ (g' 14).toInt ≤ 900
      rw [x3, nI_i32 (by omega)]; omega
    · show ((-2147483648) : Int) ≤ (g' 15).toInt ∧ (g' 15).toInt ≤ 1000000
      omega
    · show ((-1) : Int) ≤ (g' 16).toInt ∧ (g' 16).toInt ≤ 7
      rw [e16, f1, nI_i32 (by omega)]; omega
    · show ((-1) : Int) ≤ (g' 17).toInt ∧ (g' 17).toInt ≤ 900
      exact f2
    · show (0 : Int) ≤ (g' 18).toInt ∧ (g' 18).toInt ≤ 7
      rw [f1, nI_i32 (by omega)]; omega
    · show (0 : Int) ≤ (g' 19).toInt ∧ (g' 19).toInt ≤ 0
      rw [e19]; decide
    · show ((-2147483648) : Int) ≤ (g' 20).toInt ∧ (g' 20).toInt ≤ 2147483647
      exact fm_i32 _
    · show (0 : Int) ≤ (g' 22).toInt ∧ (g' 22).toInt ≤ 3
      rw [eo 22 (by decide) (by decide)]; exact hI.1 (22, 0, 3) (by decide)
    · show (0 : Int) ≤ (g' 23).toInt ∧ (g' 23).toInt ≤ 30
      rw [eo 23 (by decide) (by decide)]; exact hI.1 (23, 0, 30) (by decide)
    · show ((-2147483648) : Int) ≤ (g' 25).toInt ∧ (g' 25).toInt ≤ 2147483647
      rw [eo 25 (by decide) (by decide)]; exact hI.1 (25, (-2147483648), 2147483647) (by decide)
    · show (0 : Int) ≤ (g' 30).toInt ∧ (g' 30).toInt ≤ 4
      rw [eo 30 (by decide) (by decide)]; exact hI.1 (30, 0, 4) (by decide)
    · show ((-2147483648) : Int) ≤ (g' 36).toInt ∧ (g' 36).toInt ≤ 2147483647
      rw [eo 36 (by decide) (by decide)]; exact hI.1 (36, (-2147483648), 2147483647) (by decide)
    · show (0 : Int) ≤ (g' 37).toInt ∧ (g' 37).toInt ≤ 300
      rw [eo 37 (by decide) (by decide)]; exact hI.1 (37, 0, 300) (by decide)
    · show (0 : Int) ≤ (g' 41).toInt ∧ (g' 41).toInt ≤ 1
      rw [eo 41 (by decide) (by decide)]; exact hI.1 (41, 0, 1) (by decide)
    · show (0 : Int) ≤ (g' 42).toInt ∧ (g' 42).toInt ≤ 3
      rw [eo 42 (by decide) (by decide)]; exact hI.1 (42, 0, 3) (by decide)
  · skip
    simp only [gm_ar, List.mem_cons, List.not_mem_nil, or_false] at hq
    rcases hq with rfl | rfl | rfl | rfl | rfl | rfl | rfl
    · show (0 : Int) ≤ (a' 3 i).toInt ∧ (a' 3 i).toInt ≤ 3
      rw [at' 3 (by decide) (by decide)]; exact hI.2.2 (3, 4, 0, 3) (by decide) i hi
    · show ((-1) : Int) ≤ (a' 4 i).toInt ∧ (a' 4 i).toInt ≤ 60
      rw [at' 4 (by decide) (by decide)]; exact hI.2.2 (4, 4, (-1), 60) (by decide) i hi
    · show ((-128) : Int) ≤ (a' 6 i).toInt ∧ (a' 6 i).toInt ≤ 127
      rw [at' 6 (by decide) (by decide)]; exact hI.2.2 (6, 900, (-128), 127) (by decide) i hi
    · show ((-128) : Int) ≤ (a' 7 i).toInt ∧ (a' 7 i).toInt ≤ 127
      rcases a7 i with e | ⟨x, e⟩
      · rw [e]; exact hI.2.2 (7, 900, (-128), 127) (by decide) i hi
      · rw [e]; exact fm_i8b _
    · show (0 : Int) ≤ (a' 8 i).toInt ∧ (a' 8 i).toInt ≤ 59
      rw [at' 8 (by decide) (by decide)]; exact hI.2.2 (8, 3, 0, 59) (by decide) i hi
    · show (0 : Int) ≤ (a' 14 i).toInt ∧ (a' 14 i).toInt ≤ 1000000
      rw [at' 14 (by decide) (by decide)]; exact hI.2.2 (14, 256, 0, 1000000) (by decide) i hi
    · show (0 : Int) ≤ (a' 15 i).toInt ∧ (a' 15 i).toInt ≤ 1000000
      rw [at' 15 (by decide) (by decide)]; exact hI.2.2 (15, 427, 0, 1000000) (by decide) i hi
  · by_cases hk : k = 2 ∨ k = 10 ∨ k = 11 ∨ k = 12 ∨ k = 13 ∨ k = 14 ∨ k = 15 ∨ k = 16 ∨ k = 17 ∨ k = 18 ∨ k = 19 ∨ k = 20
    · refine Or.inl ?_
      rcases hk with rfl | rfl | rfl | rfl | rfl | rfl | rfl | rfl | rfl | rfl | rfl | rfl
      all_goals exact List.mem_append_right _ (by decide)
    · exact Or.inr (eo k (by omega) (by omega))
  · by_cases hk : t = 7
    · refine Or.inl ?_
      rcases hk with rfl
      all_goals exact List.mem_append_right _ (by decide)
    · exact Or.inr (at' t ht (by omega))
  · by_cases h2 : t = 2
    · subst h2; exact Or.inl (List.mem_append_right _ (by decide))
    · exact Or.inr (hb t h2)
set_option maxHeartbeats 4000000 in
theorem fm_I_TK (hI : fm_I g a) (h : fm_TK1 g a g' a') : fm_I g' a' ∧ fm_ffr gn_M1 g a b g' a' b := by
  obtain ⟨eo, e10, e2, ⟨S, E, F, x1, x2, x3, x4, x5, x6, ⟨t7, x7b, x7⟩, x8, x9⟩, ⟨⟨n1, f0, f1⟩, f2⟩, e16, e19, ⟨D, hD, eD⟩, ⟨K, hK, eK⟩, at', a7, a8, ax, aN, sN, hL⟩ := h
  obtain ⟨hBd, ⟨hS, hR⟩, h9⟩ := hI.2.1
  have bd : ∀ i, i < 5894 → fm_bd a' i := fun i hi => by
    by_cases hi0 : i = 6 ∨ 478 ≤ i ∧ i < 838
    · rcases hL with hL | ⟨hL, -⟩
      · exact fm_bd_eq (hBd i hi) (hL i hi0)
      · exact hL i hi0
    · by_cases hi4 : 3368 ≤ i ∧ i < 4210
      · exact aN i hi4.1 hi4.2
      · exact fm_bd_eq (hBd i hi) (ax i (by omega) (by omega) hi4)
  have hXA : fm_XA a' := by
    refine ⟨fun s hs => ?_, fun s hs n hn => ?_⟩
    · by_cases h4 : s = 4
      · subst h4; exact sN
      · intro c d hc hd
        have key : ∀ c, c < 10 → 842 * s + 10 + 6 * c ≠ 6 ∧ ¬ (478 ≤ 842 * s + 10 + 6 * c ∧ 842 * s + 10 + 6 * c < 838) ∧ ¬ (3368 ≤ 842 * s + 10 + 6 * c ∧ 842 * s + 10 + 6 * c < 4210) := fun c hc => by
          rcases (by omega : s = 0 ∨ 1 ≤ s) with h | h
          · subst h; omega
          · omega
        rw [ax _ (key c hc).1 (key c hc).2.1 (key c hc).2.2, ax _ (key d hd).1 (key d hd).2.1 (key d hd).2.2]; exact hS s hs c d hc hd
    · have hn6 : (n : Int) < 60 := by
        have h1 := (bd (842 * s + 6) (by omega)).2
        have hg : ∀ s, s < 4 → (gm_at (842 * s + 6)).2 ≤ 60 := by decide
        have := hg s hs
        omega
      by_cases h00 : s = 0
      · subst h00
        rcases hL with hL | ⟨-, n2, hn2, e6, hL⟩
        · rw [hL _ (by omega)] at hn
          rw [hL _ (by omega), hL _ (by omega)]; exact hR 0 (by omega) n hn
        · rw [show 842 * 0 + 6 = 6 from rfl, e6, nI_i32 (by omega)] at hn
          have := hL n (by omega)
          rw [show 842 * 0 + 478 + 6 * n = 478 + 6 * n by omega, show 842 * 0 + 479 + 6 * n = 479 + 6 * n by omega]
          exact this
      · rw [ax _ (by omega) (by omega) (by omega)] at hn
        rw [ax _ (by omega) (by omega) (by omega), ax _ (by omega) (by omega) (by omega)]; exact hR s hs n hn
  refine ⟨⟨fun q hq => ?_, ⟨bd, hXA, fun i hi => by rw [at' 9 (by decide) (by decide) (by decide)]; exact h9 i hi⟩, fun q hq i hi => ?_⟩, fun k => ?_, fun t ht => ?_, fun t => Or.inr rfl⟩
  · skip
    simp only [gm_gf, List.mem_cons, List.not_mem_nil, or_false] at hq
    rcases hq with rfl | rfl | rfl | rfl | rfl | rfl | rfl | rfl | rfl | rfl | rfl | rfl | rfl | rfl | rfl | rfl | rfl | rfl | rfl | rfl
    · show (0 : Int) ≤ (g' 2).toInt ∧ (g' 2).toInt ≤ 9
      rcases e2 with e2 | e2 <;> rw [e2] <;> decide
    · show (0 : Int) ≤ (g' 10).toInt ∧ (g' 10).toInt ≤ 900
      rw [e10]; decide
    · show (0 : Int) ≤ (g' 11).toInt ∧ (g' 11).toInt ≤ 900
      rw [x1, nI_i32 (by omega)]; omega
    · show (0 : Int) ≤ (g' 12).toInt ∧ (g' 12).toInt ≤ 4
      rw [x7, nI_i32 (by omega)]; omega
    · show (0 : Int) ≤ (g' 13).toInt ∧ (g' 13).toInt ≤ 900
      rw [x5, nI_i32 (by omega)]; omega
    · show (0 : Int) ≤ (g' 14).toInt ∧ (g' 14).toInt ≤ 900
      rw [x3, nI_i32 (by omega)]; omega
    · show ((-2147483648) : Int) ≤ (g' 15).toInt ∧ (g' 15).toInt ≤ 1000000
      omega
    · show ((-1) : Int) ≤ (g' 16).toInt ∧ (g' 16).toInt ≤ 7
      rw [e16, f1, nI_i32 (by omega)]; omega
    · show ((-1) : Int) ≤ (g' 17).toInt ∧ (g' 17).toInt ≤ 900
      exact f2
    · show (0 : Int) ≤ (g' 18).toInt ∧ (g' 18).toInt ≤ 7
      rw [f1, nI_i32 (by omega)]; omega
    · show (0 : Int) ≤ (g' 19).toInt ∧ (g' 19).toInt ≤ 0
      rw [e19]; decide
    · show ((-2147483648) : Int) ≤ (g' 20).toInt ∧ (g' 20).toInt ≤ 2147483647
      exact fm_i32 _
    · show (0 : Int) ≤ (g' 22).toInt ∧ (g' 22).toInt ≤ 3
      rw [eD, nI_i32 (by omega)]; omega
    · show (0 : Int) ≤ (g' 23).toInt ∧ (g' 23).toInt ≤ 30
      rw [eK, nI_i32 (by omega)]; omega
    · show ((-2147483648) : Int) ≤ (g' 25).toInt ∧ (g' 25).toInt ≤ 2147483647
      rw [eo 25 (by decide) (by decide) (by decide) (by decide)]; exact hI.1 (25, (-2147483648), 2147483647) (by decide)
    · show (0 : Int) ≤ (g' 30).toInt ∧ (g' 30).toInt ≤ 4
      rw [eo 30 (by decide) (by decide) (by decide) (by decide)]; exact hI.1 (30, 0, 4) (by decide)
    · show ((-2147483648) : Int) ≤ (g' 36).toInt ∧ (g' 36).toInt ≤ 2147483647
      rw [eo 36 (by decide) (by decide) (by decide) (by decide)]; exact hI.1 (36, (-2147483648), 2147483647) (by decide)
    · show (0 : Int) ≤ (g' 37).toInt ∧ (g' 37).toInt ≤ 300
      rw [eo 37 (by decide) (by decide) (by decide) (by decide)]; exact hI.1 (37, 0, 300) (by decide)
    · show (0 : Int) ≤ (g' 41).toInt ∧ (g' 41).toInt ≤ 1
      rw [eo 41 (by decide) (by decide) (by decide) (by decide)]; exact hI.1 (41, 0, 1) (by decide)
    · show (0 : Int) ≤ (g' 42).toInt ∧ (g' 42).toInt ≤ 3
      rw [eo 42 (by decide) (by decide) (by decide) (by decide)]; exact hI.1 (42, 0, 3) (by decide)
  · skip
    simp only [gm_ar, List.mem_cons, List.not_mem_nil, or_false] at hq
    rcases hq with rfl | rfl | rfl | rfl | rfl | rfl | rfl
    · show (0 : Int) ≤ (a' 3 i).toInt ∧ (a' 3 i).toInt ≤ 3
      rw [at' 3 (by decide) (by decide) (by decide)]; exact hI.2.2 (3, 4, 0, 3) (by decide) i hi
    · show ((-1) : Int) ≤ (a' 4 i).toInt ∧ (a' 4 i).toInt ≤ 60
      rw [at' 4 (by decide) (by decide) (by decide)]; exact hI.2.2 (4, 4, (-1), 60) (by decide) i hi
    · show ((-128) : Int) ≤ (a' 6 i).toInt ∧ (a' 6 i).toInt ≤ 127
      rw [at' 6 (by decide) (by decide) (by decide)]; exact hI.2.2 (6, 900, (-128), 127) (by decide) i hi
    · show ((-128) : Int) ≤ (a' 7 i).toInt ∧ (a' 7 i).toInt ≤ 127
      rcases a7 i with e | ⟨x, e⟩
      · rw [e]; exact hI.2.2 (7, 900, (-128), 127) (by decide) i hi
      · rw [e]; exact fm_i8b _
    · show (0 : Int) ≤ (a' 8 i).toInt ∧ (a' 8 i).toInt ≤ 59
      obtain ⟨z, hz, e⟩ := a8 i hi
      rw [e, nI_i32 (by omega)]; omega
    · show (0 : Int) ≤ (a' 14 i).toInt ∧ (a' 14 i).toInt ≤ 1000000
      rw [at' 14 (by decide) (by decide) (by decide)]; exact hI.2.2 (14, 256, 0, 1000000) (by decide) i hi
    · show (0 : Int) ≤ (a' 15 i).toInt ∧ (a' 15 i).toInt ≤ 1000000
      rw [at' 15 (by decide) (by decide) (by decide)]; exact hI.2.2 (15, 427, 0, 1000000) (by decide) i hi
  · by_cases hk : k = 2 ∨ k = 10 ∨ k = 11 ∨ k = 12 ∨ k = 13 ∨ k = 14 ∨ k = 15 ∨ k = 16 ∨ k = 17 ∨ k = 18 ∨ k = 19 ∨ k = 22 ∨ k = 23
    · refine Or.inl ?_
      rcases hk with rfl | rfl | rfl | rfl | rfl | rfl | rfl | rfl | rfl | rfl | rfl | rfl | rfl
      all_goals exact List.mem_append_right _ (by decide)
    · exact Or.inr (eo k (by omega) (by omega) (by omega) (by omega))
  · by_cases hk : t = 7 ∨ t = 8
    · refine Or.inl ?_
      rcases hk with rfl | rfl
      all_goals exact List.mem_append_right _ (by decide)
    · exact Or.inr (at' t ht (by omega) (by omega))
theorem fm_I_FL {n : Int32} {R : Option Value × fx_M} (hI : fm_I g a) (h : fm_FL g tp bt a b n R) : fm_PP gn_M1 g a b R := by
  obtain ⟨v, g', a', b', rfl, hh⟩ := h
  rcases hh with ⟨-, -, rfl, rfl, rfl⟩ | ⟨-, h⟩
  · exact ⟨v, _, tp, bt, _, _, rfl, fm_I_u2 hI (by decide), fm_ffr_u2 (List.mem_append_right _ (by decide))⟩
  · exact ⟨v, _, tp, bt, _, _, rfl, fm_I_LK hI h⟩
theorem fm_I_FTA {n : Int32} {R : Option Value × fx_M} (hI : fm_I g a) (h : fm_FTA g tp bt a b n R) : fm_PP gn_M1 g a b R := by
  obtain ⟨v, g', a', rfl, hh⟩ := h
  rcases hh with ⟨-, -, rfl, rfl⟩ | ⟨-, h⟩
  · exact ⟨v, _, tp, bt, _, _, rfl, fm_I_u2 hI (by decide), fm_ffr_u2 (List.mem_append_right _ (by decide))⟩
  · exact ⟨v, _, tp, bt, _, _, rfl, fm_I_TK hI h⟩
theorem fm_I_10 (hI : fm_I g a) : ∃ T, T ≤ 900 ∧ g 10 = nI T := by
  obtain ⟨h1, h2⟩ := hI.1 (10, 0, 900) (by decide)
  exact nI_bd h1 h2
theorem fm_I_42 (hI : fm_I g a) : ∃ T, T ≤ 3 ∧ g 42 = nI T := by
  obtain ⟨h1, h2⟩ := hI.1 (42, 0, 3) (by decide)
  exact nI_bd h1 h2
theorem fm_I_TH (hI : fm_I g a) : fm_TH g a := by
  obtain ⟨C, hC, eC⟩ := fm_B_0 hI.2.1 (i := 0) (n := 10) (by decide) rfl
  obtain ⟨W, hW, eW⟩ := fm_B_0 hI.2.1 (i := 1) (n := 8) (by decide) rfl
  refine ⟨fm_I_10 hI, ⟨C, W, eC, hC, eW, hW⟩, fun i h1 h2 => hI.2.1.1 i (by omega), hI.2.1.2.1.1 4 (by decide), fun d hd => ?_⟩
  obtain ⟨h1, h2⟩ := hI.2.2 (8, 3, 0, 59) (by decide) d hd
  exact nI_bd h1 h2
end FMP
section GP
variable {l : Launch} {D : va_G} {xt : tk_XT} {TY : tk_TT} {ro : Nat → Nat → Int → Prop} {ads tw : List Nat}
/-- step -/
theorem gp_step (hst : ∀ (Ad : Nat → Prop) (U : State) (H : Heap), xt Ad U H → ∃ pl v tx, sk_X pl v Ad U H ∧ vk_R "GooseIceModel" 189 tx pl U) (hT : fm_Ty TY) : tk_KS l D gk_cl gk_tbl gk_xw xt gk_MN gk_P TY ro (gn_X tw) ads tw 12 (gn_K 293 1 gn_M0) := by
  refine fm_pub hst hT (k := 8) gn_M0_ms (fun g tp bt a b xs hx hI => ?_)
  obtain ⟨x0, xs0, rfl, hx0⟩ := fm_xsS hx
  obtain rfl := List.length_eq_zero_iff.mp hx0
  obtain ⟨v, mem', hP, hf⟩ := fr_step (g := g) (tp := tp) (bt := bt) (a := a) (b := b) (n := x0) hI.2.1 (fm_I_gb hI)
  obtain ⟨v, g', tp', bt', a', b', e, h1, h2⟩ := fm_I_PO hI hP
  cases e
  exact ⟨v, g', tp', bt', a', b', hf, h1, h2⟩
/-- ready -/
theorem gp_ready (hst : ∀ (Ad : Nat → Prop) (U : State) (H : Heap), xt Ad U H → ∃ pl v tx, sk_X pl v Ad U H ∧ vk_R "GooseIceModel" 189 tx pl U) (hT : fm_Ty TY) : tk_KS l D gk_cl gk_tbl gk_xw xt gk_MN gk_P TY ro (gn_X tw) ads tw 13 (gn_K 328 2 gn_M0) := by
  refine fm_pub hst hT (k := 9) gn_M0_ms (fun g tp bt a b xs hx hI => ?_)
  obtain ⟨x0, xs0, rfl, hx0⟩ := fm_xsS hx
  obtain ⟨x1, xs1, rfl, hx1⟩ := fm_xsS hx0
  obtain rfl := List.length_eq_zero_iff.mp hx1
  obtain ⟨v, mem', hP, hf⟩ := fr_ready (g := g) (tp := tp) (bt := bt) (a := a) (b := b) (c := x0) (m := x1) hI.2.1 (fm_I_gb hI)
  obtain ⟨v, g', tp', bt', a', b', e, h1, h2⟩ := fm_I_PO hI hP
  cases e
  exact ⟨v, g', tp', bt', a', b', hf, h1, h2⟩
/-- holds -/
theorem gp_holds (hst : ∀ (Ad : Nat → Prop) (U : State) (H : Heap), xt Ad U H → ∃ pl v tx, sk_X pl v Ad U H ∧ vk_R "GooseIceModel" 189 tx pl U) (hT : fm_Ty TY) : tk_KS l D gk_cl gk_tbl gk_xw xt gk_MN gk_P TY ro (gn_X tw) ads tw 13 (gn_K 336 0 gn_M0) := by
  refine fm_pub hst hT (k := 9) gn_M0_ms (fun g tp bt a b xs hx hI => ?_)
  obtain rfl := List.length_eq_zero_iff.mp hx
  obtain ⟨v, mem', hP, hf⟩ := fr_holds (g := g) (tp := tp) (bt := bt) (a := a) (b := b)  hI.2.1 (fm_I_gb hI)
  obtain ⟨v, g', tp', bt', a', b', e, h1, h2⟩ := fm_I_PO hI hP
  cases e
  exact ⟨v, g', tp', bt', a', b', hf, h1, h2⟩
/-- wayAt -/
theorem gp_wayAt (hst : ∀ (Ad : Nat → Prop) (U : State) (H : Heap), xt Ad U H → ∃ pl v tx, sk_X pl v Ad U H ∧ vk_R "GooseIceModel" 189 tx pl U) (hT : fm_Ty TY) : tk_KS l D gk_cl gk_tbl gk_xw xt gk_MN gk_P TY ro (gn_X tw) ads tw 12 (gn_K 311 3 gn_M0) := by
  refine fm_pub hst hT (k := 8) gn_M0_ms (fun g tp bt a b xs hx hI => ?_)
  obtain ⟨x0, xs0, rfl, hx0⟩ := fm_xsS hx
  obtain ⟨x1, xs1, rfl, hx1⟩ := fm_xsS hx0
  obtain ⟨x2, xs2, rfl, hx2⟩ := fm_xsS hx1
  obtain rfl := List.length_eq_zero_iff.mp hx2
  obtain ⟨v, mem', hP, hf⟩ := fr_wayAtP (g := g) (tp := tp) (bt := bt) (a := a) (b := b) (w := x0) (c := x1) (k := x2) hI.2.1 (fm_I_gb hI)
  obtain ⟨v, g', tp', bt', a', b', e, h1, h2⟩ := fm_I_PO hI hP
  cases e
  exact ⟨v, g', tp', bt', a', b', hf, h1, h2⟩
/-- surestAt -/
theorem gp_surestAt (hst : ∀ (Ad : Nat → Prop) (U : State) (H : Heap), xt Ad U H → ∃ pl v tx, sk_X pl v Ad U H ∧ vk_R "GooseIceModel" 189 tx pl U) (hT : fm_Ty TY) : tk_KS l D gk_cl gk_tbl gk_xw xt gk_MN gk_P TY ro (gn_X tw) ads tw 13 (gn_K 317 3 gn_M0) := by
  refine fm_pub hst hT (k := 9) gn_M0_ms (fun g tp bt a b xs hx hI => ?_)
  obtain ⟨x0, xs0, rfl, hx0⟩ := fm_xsS hx
  obtain ⟨x1, xs1, rfl, hx1⟩ := fm_xsS hx0
  obtain ⟨x2, xs2, rfl, hx2⟩ := fm_xsS hx1
  obtain rfl := List.length_eq_zero_iff.mp hx2
  obtain ⟨v, mem', hP, hf⟩ := fr_surestAtP (g := g) (tp := tp) (bt := bt) (a := a) (b := b) (w := x0) (c := x1) (k := x2) hI.2.1 (fm_I_gb hI)
  obtain ⟨v, g', tp', bt', a', b', e, h1, h2⟩ := fm_I_PO hI hP
  cases e
  exact ⟨v, g', tp', bt', a', b', hf, h1, h2⟩
/-- send -/
theorem gp_send (hst : ∀ (Ad : Nat → Prop) (U : State) (H : Heap), xt Ad U H → ∃ pl v tx, sk_X pl v Ad U H ∧ vk_R "GooseIceModel" 189 tx pl U) (hT : fm_Ty TY) : tk_KS l D gk_cl gk_tbl gk_xw xt gk_MN gk_P TY ro (gn_X tw) ads tw 13 (gn_K 289 3 gn_M0) := by
  refine fm_pub hst hT (k := 9) gn_M0_ms (fun g tp bt a b xs hx hI => ?_)
  obtain ⟨x0, xs0, rfl, hx0⟩ := fm_xsS hx
  obtain ⟨x1, xs1, rfl, hx1⟩ := fm_xsS hx0
  obtain ⟨x2, xs2, rfl, hx2⟩ := fm_xsS hx1
  obtain rfl := List.length_eq_zero_iff.mp hx2
  obtain ⟨v, mem', hP, hf⟩ := fr_send (g := g) (tp := tp) (bt := bt) (a := a) (b := b) (w := x0) (t0 := x1) (n0 := x2) hI.2.1 (fm_I_gb hI)
  obtain ⟨v, g', tp', bt', a', b', e, h1, h2⟩ := fm_I_PO hI hP
  cases e
  exact ⟨v, g', tp', bt', a', b', hf, h1, h2⟩
/-- sendTo -/
theorem gp_sendTo (hst : ∀ (Ad : Nat → Prop) (U : State) (H : Heap), xt Ad U H → ∃ pl v tx, sk_X pl v Ad U H ∧ vk_R "GooseIceModel" 189 tx pl U) (hT : fm_Ty TY) : tk_KS l D gk_cl gk_tbl gk_xw xt gk_MN gk_P TY ro (gn_X tw) ads tw 14 (gn_K 291 2 gn_M0) := by
  refine fm_pub hst hT (k := 10) gn_M0_ms (fun g tp bt a b xs hx hI => ?_)
  obtain ⟨x0, xs0, rfl, hx0⟩ := fm_xsS hx
  obtain ⟨x1, xs1, rfl, hx1⟩ := fm_xsS hx0
  obtain rfl := List.length_eq_zero_iff.mp hx1
  obtain ⟨v, mem', hP, hf⟩ := fr_sendTo (g := g) (tp := tp) (bt := bt) (a := a) (b := b) (w := x0) (c := x1) hI.2.1 (fm_I_gb hI)
  obtain ⟨v, g', tp', bt', a', b', e, h1, h2⟩ := fm_I_PO hI hP
  cases e
  exact ⟨v, g', tp', bt', a', b', hf, h1, h2⟩
/-- far -/
theorem gp_far (hst : ∀ (Ad : Nat → Prop) (U : State) (H : Heap), xt Ad U H → ∃ pl v tx, sk_X pl v Ad U H ∧ vk_R "GooseIceModel" 189 tx pl U) (hT : fm_Ty TY) : tk_KS l D gk_cl gk_tbl gk_xw xt gk_MN gk_P TY ro (gn_X tw) ads tw 13 (gn_K 310 2 gn_M0) := by
  refine fm_pub hst hT (k := 9) gn_M0_ms (fun g tp bt a b xs hx hI => ?_)
  obtain ⟨x0, xs0, rfl, hx0⟩ := fm_xsS hx
  obtain ⟨x1, xs1, rfl, hx1⟩ := fm_xsS hx0
  obtain rfl := List.length_eq_zero_iff.mp hx1
  obtain ⟨v, mem', hP, hf⟩ := fr_far (g := g) (tp := tp) (bt := bt) (a := a) (b := b) (w := x0) (c := x1) hI.2.1 (fm_I_gb hI)
  obtain ⟨v, g', tp', bt', a', b', e, h1, h2⟩ := fm_I_PO hI hP
  cases e
  exact ⟨v, g', tp', bt', a', b', hf, h1, h2⟩
/-- surest -/
theorem gp_surest (hst : ∀ (Ad : Nat → Prop) (U : State) (H : Heap), xt Ad U H → ∃ pl v tx, sk_X pl v Ad U H ∧ vk_R "GooseIceModel" 189 tx pl U) (hT : fm_Ty TY) : tk_KS l D gk_cl gk_tbl gk_xw xt gk_MN gk_P TY ro (gn_X tw) ads tw 14 (gn_K 315 2 gn_M0) := by
  refine fm_pub hst hT (k := 10) gn_M0_ms (fun g tp bt a b xs hx hI => ?_)
  obtain ⟨x0, xs0, rfl, hx0⟩ := fm_xsS hx
  obtain ⟨x1, xs1, rfl, hx1⟩ := fm_xsS hx0
  obtain rfl := List.length_eq_zero_iff.mp hx1
  obtain ⟨v, mem', hP, hf⟩ := fr_surest (g := g) (tp := tp) (bt := bt) (a := a) (b := b) (w := x0) (c := x1) hI.2.1 (fm_I_gb hI)
  obtain ⟨v, g', tp', bt', a', b', e, h1, h2⟩ := fm_I_PO hI hP
  cases e
  exact ⟨v, g', tp', bt', a', b', hf, h1, h2⟩
/-- surestFar -/
theorem gp_surestFar (hst : ∀ (Ad : Nat → Prop) (U : State) (H : Heap), xt Ad U H → ∃ pl v tx, sk_X pl v Ad U H ∧ vk_R "GooseIceModel" 189 tx pl U) (hT : fm_Ty TY) : tk_KS l D gk_cl gk_tbl gk_xw xt gk_MN gk_P TY ro (gn_X tw) ads tw 14 (gn_K 316 2 gn_M0) := by
  refine fm_pub hst hT (k := 10) gn_M0_ms (fun g tp bt a b xs hx hI => ?_)
  obtain ⟨x0, xs0, rfl, hx0⟩ := fm_xsS hx
  obtain ⟨x1, xs1, rfl, hx1⟩ := fm_xsS hx0
  obtain rfl := List.length_eq_zero_iff.mp hx1
  obtain ⟨v, mem', hP, hf⟩ := fr_surestFar (g := g) (tp := tp) (bt := bt) (a := a) (b := b) (w := x0) (c := x1) hI.2.1 (fm_I_gb hI)
  obtain ⟨v, g', tp', bt', a', b', e, h1, h2⟩ := fm_I_PO hI hP
  cases e
  exact ⟨v, g', tp', bt', a', b', hf, h1, h2⟩
/-- reach -/
theorem gp_reach (hst : ∀ (Ad : Nat → Prop) (U : State) (H : Heap), xt Ad U H → ∃ pl v tx, sk_X pl v Ad U H ∧ vk_R "GooseIceModel" 189 tx pl U) (hT : fm_Ty TY) : tk_KS l D gk_cl gk_tbl gk_xw xt gk_MN gk_P TY ro (gn_X tw) ads tw 13 (gn_K 318 1 gn_M0) := by
  refine fm_pub hst hT (k := 9) gn_M0_ms (fun g tp bt a b xs hx hI => ?_)
  obtain ⟨x0, xs0, rfl, hx0⟩ := fm_xsS hx
  obtain rfl := List.length_eq_zero_iff.mp hx0
  obtain ⟨v, mem', hP, hf⟩ := fr_reach (g := g) (tp := tp) (bt := bt) (a := a) (b := b) (w := x0) hI.2.1 (fm_I_gb hI)
  obtain ⟨v, g', tp', bt', a', b', e, h1, h2⟩ := fm_I_PO hI hP
  cases e
  exact ⟨v, g', tp', bt', a', b', hf, h1, h2⟩
/-- cut -/
theorem gp_cut (hst : ∀ (Ad : Nat → Prop) (U : State) (H : Heap), xt Ad U H → ∃ pl v tx, sk_X pl v Ad U H ∧ vk_R "GooseIceModel" 189 tx pl U) (hT : fm_Ty TY) : tk_KS l D gk_cl gk_tbl gk_xw xt gk_MN gk_P TY ro (gn_X tw) ads tw 14 (gn_K 320 2 gn_M0) := by
  refine fm_pub hst hT (k := 10) gn_M0_ms (fun g tp bt a b xs hx hI => ?_)
  obtain ⟨x0, xs0, rfl, hx0⟩ := fm_xsS hx
  obtain ⟨x1, xs1, rfl, hx1⟩ := fm_xsS hx0
  obtain rfl := List.length_eq_zero_iff.mp hx1
  obtain ⟨v, mem', hP, hf⟩ := fr_cut (g := g) (tp := tp) (bt := bt) (a := a) (b := b) (w := x0) (c := x1) hI.2.1 (fm_I_gb hI)
  obtain ⟨v, g', tp', bt', a', b', e, h1, h2⟩ := fm_I_PO hI hP
  cases e
  exact ⟨v, g', tp', bt', a', b', hf, h1, h2⟩
/-- cutSet -/
theorem gp_cutSet (hst : ∀ (Ad : Nat → Prop) (U : State) (H : Heap), xt Ad U H → ∃ pl v tx, sk_X pl v Ad U H ∧ vk_R "GooseIceModel" 189 tx pl U) (hT : fm_Ty TY) : tk_KS l D gk_cl gk_tbl gk_xw xt gk_MN gk_P TY ro (gn_X tw) ads tw 14 (gn_K 321 2 gn_M0) := by
  refine fm_pub hst hT (k := 10) gn_M0_ms (fun g tp bt a b xs hx hI => ?_)
  obtain ⟨x0, xs0, rfl, hx0⟩ := fm_xsS hx
  obtain ⟨x1, xs1, rfl, hx1⟩ := fm_xsS hx0
  obtain rfl := List.length_eq_zero_iff.mp hx1
  obtain ⟨v, mem', hP, hf⟩ := fr_cutSet (g := g) (tp := tp) (bt := bt) (a := a) (b := b) (w := x0) (c := x1) hI.2.1 (fm_I_gb hI)
  obtain ⟨v, g', tp', bt', a', b', e, h1, h2⟩ := fm_I_PO hI hP
  cases e
  exact ⟨v, g', tp', bt', a', b', hf, h1, h2⟩
/-- hew -/
theorem gp_hew (hst : ∀ (Ad : Nat → Prop) (U : State) (H : Heap), xt Ad U H → ∃ pl v tx, sk_X pl v Ad U H ∧ vk_R "GooseIceModel" 189 tx pl U) (hT : fm_Ty TY) : tk_KS l D gk_cl gk_tbl gk_xw xt gk_MN gk_P TY ro (gn_X tw) ads tw 13 (gn_K 301 3 gn_M0) := by
  refine fm_pub hst hT (k := 9) gn_M0_ms (fun g tp bt a b xs hx hI => ?_)
  obtain ⟨x0, xs0, rfl, hx0⟩ := fm_xsS hx
  obtain ⟨x1, xs1, rfl, hx1⟩ := fm_xsS hx0
  obtain ⟨x2, xs2, rfl, hx2⟩ := fm_xsS hx1
  obtain rfl := List.length_eq_zero_iff.mp hx2
  obtain ⟨v, mem', hP, hf⟩ := fr_hew (g := g) (tp := tp) (bt := bt) (a := a) (b := b) (x := x0) (y := x1) (z := x2) hI.2.1 (fm_I_gb hI)
  obtain ⟨v, g', tp', bt', a', b', e, h1, h2⟩ := fm_I_PW hI hP
  cases e
  exact ⟨v, g', tp', bt', a', b', hf, h1, h2⟩
/-- live -/
theorem gp_live (hst : ∀ (Ad : Nat → Prop) (U : State) (H : Heap), xt Ad U H → ∃ pl v tx, sk_X pl v Ad U H ∧ vk_R "GooseIceModel" 189 tx pl U) (hT : fm_Ty TY) : tk_KS l D gk_cl gk_tbl gk_xw xt gk_MN gk_P TY ro (gn_X tw) ads tw 17 (gn_K 366 1 gn_M0) := by
  refine fm_pub hst hT (k := 13) gn_M0_ms (fun g tp bt a b xs hx hI => ?_)
  obtain ⟨x0, xs0, rfl, hx0⟩ := fm_xsS hx
  obtain rfl := List.length_eq_zero_iff.mp hx0
  obtain ⟨v, mem', hP, hf⟩ := fr_live (g := g) (tp := tp) (bt := bt) (a := a) (b := b) (sd := x0) hI.2.1 (fm_I_gb hI)
  obtain ⟨v, g', tp', bt', a', b', e, h1, h2⟩ := fm_I_PO hI hP
  cases e
  exact ⟨v, g', tp', bt', a', b', hf, h1, h2⟩
/-- mean -/
theorem gp_mean (hst : ∀ (Ad : Nat → Prop) (U : State) (H : Heap), xt Ad U H → ∃ pl v tx, sk_X pl v Ad U H ∧ vk_R "GooseIceModel" 189 tx pl U) (hT : fm_Ty TY) : tk_KS l D gk_cl gk_tbl gk_xw xt gk_MN gk_P TY ro (gn_X tw) ads tw 18 (gn_K 368 2 gn_M0) := by
  refine fm_pub hst hT (k := 14) gn_M0_ms (fun g tp bt a b xs hx hI => ?_)
  obtain ⟨x0, xs0, rfl, hx0⟩ := fm_xsS hx
  obtain ⟨x1, xs1, rfl, hx1⟩ := fm_xsS hx0
  obtain rfl := List.length_eq_zero_iff.mp hx1
  obtain ⟨v, mem', hP, hf⟩ := fr_mean (g := g) (tp := tp) (bt := bt) (a := a) (b := b) (sd := x0) (my := x1) hI.2.1 (fm_I_gb hI)
  obtain ⟨v, g', tp', bt', a', b', e, h1, h2⟩ := fm_I_PZ hI hP
  cases e
  exact ⟨v, g', tp', bt', a', b', hf, h1, h2⟩
/-- odds -/
theorem gp_odds (hst : ∀ (Ad : Nat → Prop) (U : State) (H : Heap), xt Ad U H → ∃ pl v tx, sk_X pl v Ad U H ∧ vk_R "GooseIceModel" 189 tx pl U) (hT : fm_Ty TY) : tk_KS l D gk_cl gk_tbl gk_xw xt gk_MN gk_P TY ro (gn_X tw) ads tw 13 (gn_K 355 5 gn_M0) := by
  refine fm_pub hst hT (k := 9) gn_M0_ms (fun g tp bt a b xs hx hI => ?_)
  obtain ⟨x0, xs0, rfl, hx0⟩ := fm_xsS hx
  obtain ⟨x1, xs1, rfl, hx1⟩ := fm_xsS hx0
  obtain ⟨x2, xs2, rfl, hx2⟩ := fm_xsS hx1
  obtain ⟨x3, xs3, rfl, hx3⟩ := fm_xsS hx2
  obtain ⟨x4, xs4, rfl, hx4⟩ := fm_xsS hx3
  obtain rfl := List.length_eq_zero_iff.mp hx4
  obtain ⟨v, mem', hP, hf⟩ := fr_odds (g := g) (tp := tp) (bt := bt) (a := a) (b := b) (c := x0) (m := x1) (dd := x2) (f := x3) (t := x4) hI.2.1 (fm_I_gb hI)
  obtain ⟨v, g', tp', bt', a', b', e, h1, h2⟩ := fm_I_PZ hI hP
  cases e
  exact ⟨v, g', tp', bt', a', b', hf, h1, h2⟩
/-- meanIn -/
theorem gp_meanIn (hst : ∀ (Ad : Nat → Prop) (U : State) (H : Heap), xt Ad U H → ∃ pl v tx, sk_X pl v Ad U H ∧ vk_R "GooseIceModel" 189 tx pl U) (hT : fm_Ty TY) : tk_KS l D gk_cl gk_tbl gk_xw xt gk_MN gk_P TY ro (gn_X tw) ads tw 13 (gn_K 357 4 gn_M0) := by
  refine fm_pub hst hT (k := 9) gn_M0_ms (fun g tp bt a b xs hx hI => ?_)
  obtain ⟨x0, xs0, rfl, hx0⟩ := fm_xsS hx
  obtain ⟨x1, xs1, rfl, hx1⟩ := fm_xsS hx0
  obtain ⟨x2, xs2, rfl, hx2⟩ := fm_xsS hx1
  obtain ⟨x3, xs3, rfl, hx3⟩ := fm_xsS hx2
  obtain rfl := List.length_eq_zero_iff.mp hx3
  obtain ⟨v, mem', hP, hf⟩ := fr_meanIn (g := g) (tp := tp) (bt := bt) (a := a) (b := b) (c := x0) (dd := x1) (f := x2) (t := x3) hI.2.1 (fm_I_gb hI)
  obtain ⟨v, g', tp', bt', a', b', e, h1, h2⟩ := fm_I_PZ hI hP
  cases e
  exact ⟨v, g', tp', bt', a', b', hf, h1, h2⟩
/-- bestDay -/
theorem gp_bestDay (hst : ∀ (Ad : Nat → Prop) (U : State) (H : Heap), xt Ad U H → ∃ pl v tx, sk_X pl v Ad U H ∧ vk_R "GooseIceModel" 189 tx pl U) (hT : fm_Ty TY) : tk_KS l D gk_cl gk_tbl gk_xw xt gk_MN gk_P TY ro (gn_X tw) ads tw 13 (gn_K 356 5 gn_M0) := by
  refine fm_pub hst hT (k := 9) gn_M0_ms (fun g tp bt a b xs hx hI => ?_)
  obtain ⟨x0, xs0, rfl, hx0⟩ := fm_xsS hx
  obtain ⟨x1, xs1, rfl, hx1⟩ := fm_xsS hx0
  obtain ⟨x2, xs2, rfl, hx2⟩ := fm_xsS hx1
  obtain ⟨x3, xs3, rfl, hx3⟩ := fm_xsS hx2
  obtain ⟨x4, xs4, rfl, hx4⟩ := fm_xsS hx3
  obtain rfl := List.length_eq_zero_iff.mp hx4
  obtain ⟨v, mem', hP, hf⟩ := fr_bestDay (g := g) (tp := tp) (bt := bt) (a := a) (b := b) (c := x0) (m := x1) (dd := x2) (f := x3) (t := x4) hI.2.1 (fm_I_gb hI)
  obtain ⟨v, g', tp', bt', a', b', e, h1, h2⟩ := fm_I_PO hI hP
  cases e
  exact ⟨v, g', tp', bt', a', b', hf, h1, h2⟩
/-- suspects -/
theorem gp_suspects (hst : ∀ (Ad : Nat → Prop) (U : State) (H : Heap), xt Ad U H → ∃ pl v tx, sk_X pl v Ad U H ∧ vk_R "GooseIceModel" 189 tx pl U) (hT : fm_Ty TY) : tk_KS l D gk_cl gk_tbl gk_xw xt gk_MN gk_P TY ro (gn_X tw) ads tw 14 (gn_K 350 1 gn_M0) := by
  refine fm_pub hst hT (k := 10) gn_M0_ms (fun g tp bt a b xs hx hI => ?_)
  obtain ⟨x0, xs0, rfl, hx0⟩ := fm_xsS hx
  obtain rfl := List.length_eq_zero_iff.mp hx0
  obtain ⟨v, mem', hP, hf⟩ := fr_suspects (g := g) (tp := tp) (bt := bt) (a := a) (b := b) (st := x0) hI.2.1 (fm_I_gb hI)
  obtain ⟨v, g', tp', bt', a', b', e, h1, h2⟩ := fm_I_PO hI hP
  cases e
  exact ⟨v, g', tp', bt', a', b', hf, h1, h2⟩
/-- queue -/
theorem gp_queue (hst : ∀ (Ad : Nat → Prop) (U : State) (H : Heap), xt Ad U H → ∃ pl v tx, sk_X pl v Ad U H ∧ vk_R "GooseIceModel" 189 tx pl U) (hT : fm_Ty TY) : tk_KS l D gk_cl gk_tbl gk_xw xt gk_MN gk_P TY ro (gn_X tw) ads tw 14 (gn_K 334 3 gn_M0) := by
  refine fm_pub hst hT (k := 10) gn_M0_ms (fun g tp bt a b xs hx hI => ?_)
  obtain ⟨x0, xs0, rfl, hx0⟩ := fm_xsS hx
  obtain ⟨x1, xs1, rfl, hx1⟩ := fm_xsS hx0
  obtain ⟨x2, xs2, rfl, hx2⟩ := fm_xsS hx1
  obtain rfl := List.length_eq_zero_iff.mp hx2
  obtain ⟨v, mem', hP, hf⟩ := fr_queue (g := g) (tp := tp) (bt := bt) (a := a) (b := b) (set := x0) (tray := x1) (nn := x2) hI.2.1 (fm_I_gb hI)
  obtain ⟨v, g', tp', bt', a', b', e, h1, h2⟩ := fm_I_PO hI hP
  cases e
  exact ⟨v, g', tp', bt', a', b', hf, h1, h2⟩
/-- tryFirst -/
theorem gp_tryFirst (hst : ∀ (Ad : Nat → Prop) (U : State) (H : Heap), xt Ad U H → ∃ pl v tx, sk_X pl v Ad U H ∧ vk_R "GooseIceModel" 189 tx pl U) (hT : fm_Ty TY) : tk_KS l D gk_cl gk_tbl gk_xw xt gk_MN gk_P TY ro (gn_X tw) ads tw 7 (gn_K 348 2 gn_M0) := by
  refine fm_pub hst hT (k := 3) gn_M0_ms (fun g tp bt a b xs hx hI => ?_)
  obtain ⟨x0, xs0, rfl, hx0⟩ := fm_xsS hx
  obtain ⟨x1, xs1, rfl, hx1⟩ := fm_xsS hx0
  obtain rfl := List.length_eq_zero_iff.mp hx1
  obtain ⟨v, mem', hP, hf⟩ := fr_tryFirst (g := g) (tp := tp) (bt := bt) (a := a) (b := b) (n := x0) (b2 := x1) hI.2.1 (fm_I_gb hI) (fun i hi => hI.2.2 (15, 427, 0, 1000000) (by decide) i hi)
  obtain ⟨v, g', tp', bt', a', b', e, h1, h2⟩ := fm_I_PT hI hP
  cases e
  exact ⟨v, g', tp', bt', a', b', hf, h1, h2⟩
/-- lake -/
theorem gp_lake (hst : ∀ (Ad : Nat → Prop) (U : State) (H : Heap), xt Ad U H → ∃ pl v tx, sk_X pl v Ad U H ∧ vk_R "GooseIceModel" 189 tx pl U) (hT : fm_Ty TY) : tk_KS l D gk_cl gk_tbl gk_xw xt gk_MN gk_P TY ro (gn_X tw) ads tw 14 (gn_K 246 1 gn_M1) := by
  refine fm_pub hst hT (k := 10) gn_M1_ms (fun g tp bt a b xs hx hI => ?_)
  obtain ⟨x0, xs0, rfl, hx0⟩ := fm_xsS hx
  obtain rfl := List.length_eq_zero_iff.mp hx0
  obtain ⟨v, mem', hP, hf⟩ := fr_lake (g := g) (tp := tp) (bt := bt) (a := a) (b := b) (n := x0) (fm_I_10 hI)
  obtain ⟨v, g', tp', bt', a', b', e, h1, h2⟩ := fm_I_FL hI hP
  cases e
  exact ⟨v, g', tp', bt', a', b', hf, h1, h2⟩
/-- tales -/
theorem gp_tales (hst : ∀ (Ad : Nat → Prop) (U : State) (H : Heap), xt Ad U H → ∃ pl v tx, sk_X pl v Ad U H ∧ vk_R "GooseIceModel" 189 tx pl U) (hT : fm_Ty TY) : tk_KS l D gk_cl gk_tbl gk_xw xt gk_MN gk_P TY ro (gn_X tw) ads tw 17 (gn_K 252 1 gn_M1) := by
  refine fm_pub hst hT (k := 13) gn_M1_ms (fun g tp bt a b xs hx hI => ?_)
  obtain ⟨x0, xs0, rfl, hx0⟩ := fm_xsS hx
  obtain rfl := List.length_eq_zero_iff.mp hx0
  obtain ⟨v, mem', hP, hf⟩ := fr_tales (g := g) (tp := tp) (bt := bt) (a := a) (b := b) (n := x0) (fm_I_TH hI)
  obtain ⟨v, g', tp', bt', a', b', e, h1, h2⟩ := fm_I_FTA hI hP
  cases e
  exact ⟨v, g', tp', bt', a', b', hf, h1, h2⟩
/-- mark -/
theorem gp_mark (hst : ∀ (Ad : Nat → Prop) (U : State) (H : Heap), xt Ad U H → ∃ pl v tx, sk_X pl v Ad U H ∧ vk_R "GooseIceModel" 189 tx pl U) (hT : fm_Ty TY) : tk_KS l D gk_cl gk_tbl gk_xw xt gk_MN gk_P TY ro (gn_X tw) ads tw 6 (gn_K 370 0 gn_M2) := by
  refine fm_pub hst hT (k := 2) gn_M2_ms (fun g tp bt a b xs hx hI => ?_)
  obtain rfl := List.length_eq_zero_iff.mp hx
  obtain ⟨m, hm, em⟩ := fm_I_42 hI
  obtain ⟨v, mem', hP, hf⟩ := fr_mark (g := g) (tp := tp) (bt := bt) (a := a) (b := b)  hI.2.1 em hm
  obtain ⟨v, g', tp', bt', a', b', e, h1, h2⟩ := fm_I_MU (m := m) (n := m + 1) hI (by decide) (fun h => by omega) hP
  cases e
  exact ⟨v, g', tp', bt', a', b', hf, h1, h2⟩
/-- undo -/
theorem gp_undo (hst : ∀ (Ad : Nat → Prop) (U : State) (H : Heap), xt Ad U H → ∃ pl v tx, sk_X pl v Ad U H ∧ vk_R "GooseIceModel" 189 tx pl U) (hT : fm_Ty TY) : tk_KS l D gk_cl gk_tbl gk_xw xt gk_MN gk_P TY ro (gn_X tw) ads tw 6 (gn_K 371 0 gn_M2) := by
  refine fm_pub hst hT (k := 2) gn_M2_ms (fun g tp bt a b xs hx hI => ?_)
  obtain rfl := List.length_eq_zero_iff.mp hx
  obtain ⟨m, hm, em⟩ := fm_I_42 hI
  obtain ⟨v, mem', hP, hf⟩ := fr_undo (g := g) (tp := tp) (bt := bt) (a := a) (b := b)  hI.2.1 em hm
  obtain ⟨v, g', tp', bt', a', b', e, h1, h2⟩ := fm_I_MU (m := m) (n := m - 1) hI (by decide) (fun h => by omega) hP
  cases e
  exact ⟨v, g', tp', bt', a', b', hf, h1, h2⟩
end GP
end MH11_0
section MH11_1
section GN0
variable {l : Launch} {D : va_G} {xt : tk_XT} {ro : Nat → Nat → Int → Prop} {ads tw : List Nat}
/-- GooseIceModel.status -/
def gn_K0 : tk_K := (203, [(2, 0, 0, 0)], ([], []), [0], [], ([(some (0, 1, 1, 0), ([(0, 9)], []), [0], [])], []))
def gn_H0 : List tk_Hd := []
theorem gn_0 (hU : gm_U tw) (hxt : tk_xtok xt) : tk_KS l D gk_cl gk_tbl gk_xw xt gk_MN gk_P gm_TY ro (gm_X tw) ads tw 1 gn_K0 := tk_contract (hk := tk_hk0) tk_hk0_ok (gm_xs hU) hxt gk_rok [] 20000 0 0 (Ks := []) (d := 0) (fun _ h => absurd h List.not_mem_nil) (Hs := gn_H0) (by decide +kernel) rfl
/-- GooseIceModel.top -/
def gn_K1 : tk_K := (204, [(2, 0, 0, 0)], ([], []), [0], [], ([(some (1, 1, 1, 0), ([((-9223372036854775808), 9223372036854775807)], []), [0], [])], []))
def gn_H1 : List tk_Hd := []
theorem gn_1 (hU : gm_U tw) (hxt : tk_xtok xt) : tk_KS l D gk_cl gk_tbl gk_xw xt gk_MN gk_P gm_TY ro (gm_X tw) ads tw 1 gn_K1 := tk_contract (hk := tk_hk0) tk_hk0_ok (gm_xs hU) hxt gk_rok [] 20000 0 0 (Ks := []) (d := 0) (fun _ h => absurd h List.not_mem_nil) (Hs := gn_H1) (by decide +kernel) rfl
/-- GooseIceModel.bottom -/
def gn_K2 : tk_K := (205, [(2, 0, 0, 0)], ([], []), [0], [], ([(some (1, 1, 1, 0), ([((-9223372036854775808), 9223372036854775807)], []), [0], [])], []))
def gn_H2 : List tk_Hd := []
theorem gn_2 (hU : gm_U tw) (hxt : tk_xtok xt) : tk_KS l D gk_cl gk_tbl gk_xw xt gk_MN gk_P gm_TY ro (gm_X tw) ads tw 1 gn_K2 := tk_contract (hk := tk_hk0) tk_hk0_ok (gm_xs hU) hxt gk_rok [] 20000 0 0 (Ks := []) (d := 0) (fun _ h => absurd h List.not_mem_nil) (Hs := gn_H2) (by decide +kernel) rfl
/-- GooseIceModel.tray -/
def gn_K3 : tk_K := (213, [(2, 0, 0, 0), (0, 1, 1, 0), (0, 2, 1, 0), (0, 3, 1, 0)], ([((-2147483648), 2147483647), ((-2147483648), 2147483647), ((-2147483648), 2147483647)], []), [0], [], ([(some (0, 0, 0, 0), ([((-2147483648), 2147483647), ((-2147483648), 2147483647), ((-2147483648), 2147483647)], []), [0], [(0, (0, 0, 0, 2), (0, 0, 0, 1))]), (some (0, 0, 0, 1), ([(0, 3), (0, 3), (0, 60)], []), [0], [(0, (0, 0, 0, 2), (0, 0, 0, 0))])], [(0, 2), (3, 0), (4, 0), (5, 0)]))
def gn_H3 : List tk_Hd := [(49, [(0, (2, 0, 0, 0)), (1, (0, 1, 1, 0)), (2, (0, 2, 1, 0)), (3, (0, 3, 1, 0)), (4, (0, 4, 1, 0))], ([(0, 3), (0, 3), (0, 60), (0, 60)], []), [0], [], [(0, 0, (0, 0, 0, 0)), (1, 60, (0, 4, 1, 0)), (0, 0, (0, 0, 0, 0))])]
theorem gn_3 (hU : gm_U tw) (hxt : tk_xtok xt) : tk_KS l D gk_cl gk_tbl gk_xw xt gk_MN gk_P gm_TY ro (gm_X tw) ads tw 2 gn_K3 := tk_contract (hk := tk_hk0) tk_hk0_ok (gm_xs hU) hxt gk_rok [206, 211] 20000 1 3 (Ks := []) (d := 0) (fun _ h => absurd h List.not_mem_nil) (Hs := gn_H3) (by decide +kernel) rfl
/-- GooseIceModel.wrongPlace -/
def gn_K4 : tk_K := (214, [(2, 0, 0, 0), (0, 1, 1, 0), (0, 2, 1, 0)], ([((-2147483648), 2147483647), ((-2147483648), 2147483647)], []), [0], [], ([(some (0, 0, 0, 0), ([(0, 3), (0, 59)], []), [0], []), (some (0, 0, 0, 1), ([((-2147483648), 2147483647), ((-2147483648), 2147483647)], []), [0], []), (some (0, 0, 0, 2), ([(0, 3), ((-2147483648), 2147483647)], []), [0], []), (some (0, 0, 0, 3), ([(0, 3), ((-2147483648), 2147483647)], []), [0], [])], []))
def gn_H4 : List tk_Hd := []
theorem gn_4 (hU : gm_U tw) (hxt : tk_xtok xt) : tk_KS l D gk_cl gk_tbl gk_xw xt gk_MN gk_P gm_TY ro (gm_X tw) ads tw 2 gn_K4 := tk_contract (hk := tk_hk0) tk_hk0_ok (gm_xs hU) hxt gk_rok [211] 20000 1 0 (Ks := []) (d := 0) (fun _ h => absurd h List.not_mem_nil) (Hs := gn_H4) (by decide +kernel) rfl
/-- GooseIceModel.narrowed -/
def gn_K5 : tk_K := (212, [(1, 1, 1, 0), (0, 2, 1, 0)], ([((-9223372036854775808), 9223372036854775807), (0, 3)], []), [], [], ([(some (1, 3, 1, 0), ([((-9223372036854775808), 9223372036854775807), (0, 3), ((-9223372036854775808), 9223372036854775807)], []), [], [])], []))
def gn_H5 : List tk_Hd := []
theorem gn_5 (hU : gm_U tw) (hxt : tk_xtok xt) : tk_KS l D gk_cl gk_tbl gk_xw xt gk_MN gk_P gm_TY ro (gm_X tw) ads tw 1 gn_K5 := tk_contract (hk := tk_hk0) tk_hk0_ok (gm_xs hU) hxt gk_rok [] 20000 0 0 (Ks := []) (d := 0) (fun _ h => absurd h List.not_mem_nil) (Hs := gn_H5) (by decide +kernel) rfl
/-- GooseIceModel.write -/
def gn_K6 : tk_K := (215, [(2, 0, 0, 0), (0, 1, 1, 0), (0, 2, 1, 0), (1, 3, 1, 0)], ([((-2147483648), 2147483647), ((-2147483648), 2147483647), ((-9223372036854775808), 9223372036854775807)], []), [0], [], ([(some (0, 0, 0, 0), ([((-2147483648), 2147483647), ((-2147483648), 2147483647), ((-9223372036854775808), 9223372036854775807), (1, 3)], []), [0], [(0, (0, 0, 0, 2), (0, 4, 1, 0))]), (some (0, 0, 0, 1), ([(0, 3), (0, 59), ((-9223372036854775808), 9223372036854775807)], []), [0], [(0, (0, 0, 0, 2), (0, 0, 0, 0))])], [(0, 2), (5, 0)]))
def gn_H6 : List tk_Hd := []
theorem gn_6 (hU : gm_U tw) (hxt : tk_xtok xt) : tk_KS l D gk_cl gk_tbl gk_xw xt gk_MN gk_P gm_TY ro (gm_X tw) ads tw 4 gn_K6 := tk_contract (hk := tk_hk0) tk_hk0_ok (gm_xs hU) hxt gk_rok [206] 20000 1 0 (Ks := [gn_K4, gn_K5]) (d := 2) (List.forall_mem_cons.mpr ⟨tk_KS_up (by decide) (gn_4 hU hxt), (List.forall_mem_cons.mpr ⟨tk_KS_up (by decide) (gn_5 hU hxt), (fun _ h => absurd h List.not_mem_nil)⟩)⟩) (Hs := gn_H6) (by decide +kernel) rfl
/-- GooseIceModel.read -/
def gn_K7 : tk_K := (216, [(2, 0, 0, 0), (0, 1, 1, 0), (0, 2, 1, 0)], ([((-2147483648), 2147483647), ((-2147483648), 2147483647)], []), [0], [], ([(some (1, 3, 1, 0), ([((-2147483648), 2147483647), ((-2147483648), 2147483647), ((-9223372036854775808), 9223372036854775807), (0, 3)], []), [0], [(0, (0, 0, 0, 2), (0, 4, 1, 0))])], [(0, 2)]))
def gn_H7 : List tk_Hd := []
theorem gn_7 (hU : gm_U tw) (hxt : tk_xtok xt) : tk_KS l D gk_cl gk_tbl gk_xw xt gk_MN gk_P gm_TY ro (gm_X tw) ads tw 3 gn_K7 := tk_contract (hk := tk_hk0) tk_hk0_ok (gm_xs hU) hxt gk_rok [] 20000 0 0 (Ks := [gn_K4]) (d := 2) (List.forall_mem_cons.mpr ⟨tk_KS_up (by decide) (gn_4 hU hxt), (fun _ h => absurd h List.not_mem_nil)⟩) (Hs := gn_H7) (by decide +kernel) rfl
end GN0
end MH11_1
section MH11_2
section GN2
variable {l : Launch} {D : va_G} {xt : tk_XT} {ro : Nat → Nat → Int → Prop} {ads tw : List Nat}
/-- GooseIceModel.four -/
def gn_K9 : tk_K := (220, [(2, 0, 0, 0), (0, 1, 1, 0)], ([((-2147483648), 2147483647), (0, 896)], []), [0], [(0, (0, 0, 0, 10), (0, 2, 1, 0))], ([(none, ([((-2147483648), 2147483647), (0, 896)], []), [0], [(0, (0, 0, 0, 10), (0, 2, 1, 4))])], [(0, 10), (6, 0)]))
def gn_H9 : List tk_Hd := []
theorem gn_9 (hU : gm_U tw) (hxt : tk_xtok xt) : tk_KS l D gk_cl gk_tbl gk_xw xt gk_MN gk_P gm_TY ro (gm_X tw) ads tw 1 gn_K9 := tk_contract (hk := tk_hk0) tk_hk0_ok (gm_xs hU) hxt gk_rok [] 20000 0 0 (Ks := []) (d := 0) (fun _ h => absurd h List.not_mem_nil) (Hs := gn_H9) (by decide +kernel) rfl
/-- GooseIceModel.feed -/
def gn_K10 : tk_K := (219, [(2, 0, 0, 0), (0, 1, 1, 0), (0, 2, 1, 0), (0, 3, 1, 0), (0, 4, 1, 0), (0, 5, 1, 0)], ([((-2147483648), 2147483647), ((-2147483648), 2147483647), ((-2147483648), 2147483647), ((-2147483648), 2147483647), ((-2147483648), 2147483647)], []), [0], [], ([(some (0, 6, 1, 0), ([((-2147483648), 2147483647), ((-2147483648), 2147483647), ((-2147483648), 2147483647), ((-2147483648), 2147483647), ((-2147483648), 2147483647), ((-1), 900)], []), [0], [])], [(0, 10), (6, 0)]))
def gn_H10 : List tk_Hd := []
theorem gn_10 (hU : gm_U tw) (hxt : tk_xtok xt) : tk_KS l D gk_cl gk_tbl gk_xw xt gk_MN gk_P gm_TY ro (gm_X tw) ads tw 2 gn_K10 := tk_contract (hk := tk_hk0) tk_hk0_ok (gm_xs hU) hxt gk_rok [] 20000 0 0 (Ks := [gn_K9]) (d := 1) (List.forall_mem_cons.mpr ⟨tk_KS_up (by decide) (gn_9 hU hxt), (fun _ h => absurd h List.not_mem_nil)⟩) (Hs := gn_H10) (by decide +kernel) rfl
/-- GooseIceModel.fault -/
def gn_K11 : tk_K := (235, [(2, 0, 0, 0), (0, 1, 1, 0)], ([((-2147483648), 2147483647)], []), [0], [], ([(some (0, 2, 1, 0), ([((-2147483648), 2147483647), ((-1), 900)], []), [0], [])], []))
def gn_H11 : List tk_Hd := []
theorem gn_11 (hU : gm_U tw) (hxt : tk_xtok xt) : tk_KS l D gk_cl gk_tbl gk_xw xt gk_MN gk_P gm_TY ro (gm_X tw) ads tw 1 gn_K11 := tk_contract (hk := tk_hk0) tk_hk0_ok (gm_xs hU) hxt gk_rok [] 20000 0 0 (Ks := []) (d := 0) (fun _ h => absurd h List.not_mem_nil) (Hs := gn_H11) (by decide +kernel) rfl
/-- GooseIceModel.setOf -/
def gn_K12 : tk_K := (273, [(2, 0, 0, 0), (0, 1, 1, 0)], ([(0, 3)], []), [0], [], ([(some (0, 2, 1, 0), ([(0, 3), (0, 1023)], []), [0], [])], []))
def gn_H12 : List tk_Hd := [(4, [(0, (2, 0, 0, 0)), (1, (0, 1, 1, 0)), (2, (0, 2, 1, 0)), (3, (0, 3, 1, 0))], ([(0, 3), (0, 1023), (0, 10)], []), [0], [], [(0, 1, (0, 0, 0, 0)), (1, 10, (0, 3, 1, 0)), (0, 0, (0, 0, 0, 0))]), (60, [(0, (2, 0, 0, 0)), (1, (0, 1, 1, 0)), (2, (0, 2, 1, 0)), (3, (0, 3, 1, 0))], ([(0, 3), (0, 1023), (0, 8)], []), [0], [], [(0, 0, (0, 0, 0, 0)), (1, 8, (0, 3, 1, 0)), (0, 0, (0, 0, 0, 0))])]
theorem gn_12 (hU : gm_U tw) (hxt : tk_xtok xt) : tk_KS l D gk_cl gk_tbl gk_xw xt gk_MN gk_P gm_TY ro (gm_X tw) ads tw 3 gn_K12 := tk_contract (hk := tk_hk0) tk_hk0_ok (gm_xs hU) hxt gk_rok [253, 254, 256, 263, 266, 267] 20000 2 3 (Ks := []) (d := 0) (fun _ h => absurd h List.not_mem_nil) (Hs := gn_H12) (by decide +kernel) rfl
/-- GooseIceModel.told -/
def gn_K13 : tk_K := (274, [(2, 0, 0, 0), (0, 1, 1, 0)], ([((-2147483648), 2147483647)], []), [0], [], ([(some (0, 2, 1, 0), ([((-2147483648), 2147483647), ((-1), 9999), (0, 1)], []), [0], [(0, (0, 0, 0, 2), (0, 3, 1, 0))])], [(0, 2)]))
def gn_H13 : List tk_Hd := []
theorem gn_13 (hU : gm_U tw) (hxt : tk_xtok xt) : tk_KS l D gk_cl gk_tbl gk_xw xt gk_MN gk_P gm_TY ro (gm_X tw) ads tw 5 gn_K13 := tk_contract (hk := tk_hk0) tk_hk0_ok (gm_xs hU) hxt gk_rok [207, 208] 20000 1 0 (Ks := [gn_K12]) (d := 3) (List.forall_mem_cons.mpr ⟨tk_KS_up (by decide) (gn_12 hU hxt), (fun _ h => absurd h List.not_mem_nil)⟩) (Hs := gn_H13) (by decide +kernel) rfl
/-- GooseIceModel.isCell -/
def gn_K14 : tk_K := (255, [(2, 0, 0, 0), (1, 1, 1, 0)], ([((-2147483648), 2147483647)], []), [0], [], ([(some (0, 0, 0, 0), ([((-2147483648), 2147483647)], []), [0], []), (some (0, 0, 0, 1), ([(0, 9)], []), [0], [])], []))
def gn_H14 : List tk_Hd := []
theorem gn_14 (hU : gm_U tw) (hxt : tk_xtok xt) : tk_KS l D gk_cl gk_tbl gk_xw xt gk_MN gk_P gm_TY ro (gm_X tw) ads tw 1 gn_K14 := tk_contract (hk := tk_hk0) tk_hk0_ok (gm_xs hU) hxt gk_rok [] 20000 0 0 (Ks := []) (d := 0) (fun _ h => absurd h List.not_mem_nil) (Hs := gn_H14) (by decide +kernel) rfl
/-- GooseIceModel.loadBut -/
def gn_K15 : tk_K := (272, [(2, 0, 0, 0), (0, 1, 1, 0), (0, 2, 1, 0)], ([(0, 9), ((-1), 7)], []), [0], [], ([(some (0, 3, 1, 0), ([(0, 9), ((-1), 7), ((-2147483648), 2147483647)], []), [0], [])], []))
def gn_H15 : List tk_Hd := [(5, [(0, (2, 0, 0, 0)), (1, (0, 1, 1, 0)), (2, (0, 2, 1, 0)), (3, (0, 3, 1, 0)), (4, (0, 4, 1, 0))], ([(0, 9), ((-1), 7), ((-2147483648), 2147483647), (0, 8)], []), [0], [], [(0, 0, (0, 0, 0, 0)), (1, 8, (0, 4, 1, 0)), (0, 0, (0, 0, 0, 0))])]
theorem gn_15 (hU : gm_U tw) (hxt : tk_xtok xt) : tk_KS l D gk_cl gk_tbl gk_xw xt gk_MN gk_P gm_TY ro (gm_X tw) ads tw 3 gn_K15 := tk_contract (hk := tk_hk0) tk_hk0_ok (gm_xs hU) hxt gk_rok [253, 254, 260, 264, 265, 266] 20000 2 3 (Ks := []) (d := 0) (fun _ h => absurd h List.not_mem_nil) (Hs := gn_H15) (by decide +kernel) rfl
/-- GooseIceModel.cameAgo -/
def gn_K16 : tk_K := (269, [(2, 0, 0, 0), (0, 1, 1, 0), (0, 2, 1, 0)], ([(0, 9), (0, 19)], []), [0], [], ([(some (0, 3, 1, 0), ([(0, 9), (0, 19), ((-2147483648), 2147483647)], []), [0], [])], []))
def gn_H16 : List tk_Hd := []
theorem gn_16 (hU : gm_U tw) (hxt : tk_xtok xt) : tk_KS l D gk_cl gk_tbl gk_xw xt gk_MN gk_P gm_TY ro (gm_X tw) ads tw 1 gn_K16 := tk_contract (hk := (tk_hkR [(0, [((0, 2), 0, 20, 0, [])])])) (tk_hkR_ok _) (gm_xs hU) hxt gk_rok [] 20000 0 0 (Ks := []) (d := 0) (fun _ h => absurd h List.not_mem_nil) (Hs := gn_H16) (by decide +kernel) rfl
/-- GooseIceModel.cameLately -/
def gn_K17 : tk_K := (270, [(2, 0, 0, 0), (0, 1, 1, 0)], ([(0, 9)], []), [0], [], ([(some (0, 2, 1, 0), ([(0, 9), ((-2147483648), 2147483647)], []), [0], [])], []))
def gn_H17 : List tk_Hd := [(4, [(0, (2, 0, 0, 0)), (1, (0, 1, 1, 0)), (2, (0, 2, 1, 0)), (3, (0, 3, 1, 0))], ([(0, 9), ((-2147483648), 2147483647), (0, 20)], []), [0], [], [(0, 0, (0, 0, 0, 0)), (1, 20, (0, 3, 1, 0)), (0, 0, (0, 0, 0, 0))])]
theorem gn_17 (hU : gm_U tw) (hxt : tk_xtok xt) : tk_KS l D gk_cl gk_tbl gk_xw xt gk_MN gk_P gm_TY ro (gm_X tw) ads tw 2 gn_K17 := tk_contract (hk := tk_hk0) tk_hk0_ok (gm_xs hU) hxt gk_rok [] 20000 0 3 (Ks := [gn_K16]) (d := 1) (List.forall_mem_cons.mpr ⟨tk_KS_up (by decide) (gn_16 hU hxt), (fun _ h => absurd h List.not_mem_nil)⟩) (Hs := gn_H17) (by decide +kernel) rfl
/-- GooseIceModel.strengthOf -/
def gn_K18 : tk_K := (271, [(2, 0, 0, 0), (0, 1, 1, 0)], ([(0, 9)], []), [0], [], ([(some (0, 2, 1, 0), ([(0, 9), (0, 2147483647)], []), [0], [])], []))
def gn_H18 : List tk_Hd := []
theorem gn_18 (hU : gm_U tw) (hxt : tk_xtok xt) : tk_KS l D gk_cl gk_tbl gk_xw xt gk_MN gk_P gm_TY ro (gm_X tw) ads tw 5 gn_K18 := tk_contract (hk := tk_hk0) tk_hk0_ok (gm_xs hU) hxt gk_rok [253, 256, 263] 20000 2 0 (Ks := [gn_K17]) (d := 2) (List.forall_mem_cons.mpr ⟨tk_KS_up (by decide) (gn_17 hU hxt), (fun _ h => absurd h List.not_mem_nil)⟩) (Hs := gn_H18) (by decide +kernel) rfl
/-- GooseIceModel.ice -/
def gn_K19 : tk_K := (275, [(2, 0, 0, 0), (0, 1, 1, 0), (0, 2, 1, 0)], ([((-2147483648), 2147483647), ((-2147483648), 2147483647)], []), [0], [], ([(some (0, 3, 1, 0), ([((-2147483648), 2147483647), ((-2147483648), 2147483647), ((-2147483648), 2147483647), (0, 1)], []), [0], [(0, (0, 0, 0, 2), (0, 4, 1, 0))])], [(0, 2)]))
def gn_H19 : List tk_Hd := []
theorem gn_19 (hU : gm_U tw) (hxt : tk_xtok xt) : tk_KS l D gk_cl gk_tbl gk_xw xt gk_MN gk_P gm_TY ro (gm_X tw) ads tw 9 gn_K19 := tk_contract (hk := tk_hk0) tk_hk0_ok (gm_xs hU) hxt gk_rok [207, 208, 253, 256, 257] 20000 3 0 (Ks := [gn_K14, gn_K15, gn_K17, gn_K18]) (d := 5) (List.forall_mem_cons.mpr ⟨tk_KS_up (by decide) (gn_14 hU hxt), (List.forall_mem_cons.mpr ⟨tk_KS_up (by decide) (gn_15 hU hxt), (List.forall_mem_cons.mpr ⟨tk_KS_up (by decide) (gn_17 hU hxt), (List.forall_mem_cons.mpr ⟨tk_KS_up (by decide) (gn_18 hU hxt), (fun _ h => absurd h List.not_mem_nil)⟩)⟩)⟩)⟩) (Hs := gn_H19) (by decide +kernel) rfl
/-- GooseIceModel.walker -/
def gn_K20 : tk_K := (276, [(2, 0, 0, 0), (0, 1, 1, 0), (0, 2, 1, 0)], ([((-2147483648), 2147483647), ((-2147483648), 2147483647)], []), [0], [], ([(some (0, 3, 1, 0), ([((-2147483648), 2147483647), ((-2147483648), 2147483647), ((-2147483648), 2147483647), (0, 1)], []), [0], [(0, (0, 0, 0, 2), (0, 4, 1, 0))])], [(0, 2)]))
def gn_H20 : List tk_Hd := []
theorem gn_20 (hU : gm_U tw) (hxt : tk_xtok xt) : tk_KS l D gk_cl gk_tbl gk_xw xt gk_MN gk_P gm_TY ro (gm_X tw) ads tw 3 gn_K20 := tk_contract (hk := tk_hk0) tk_hk0_ok (gm_xs hU) hxt gk_rok [207, 208, 254, 258, 264, 265, 267] 20000 2 0 (Ks := []) (d := 0) (fun _ h => absurd h List.not_mem_nil) (Hs := gn_H20) (by decide +kernel) rfl
/-- GooseIceModel.routeAt -/
def gn_K21 : tk_K := (277, [(2, 0, 0, 0), (0, 1, 1, 0), (0, 2, 1, 0)], ([((-2147483648), 2147483647), ((-2147483648), 2147483647)], []), [0], [], ([(some (0, 3, 1, 0), ([((-2147483648), 2147483647), ((-2147483648), 2147483647), ((-1), 9), (0, 6)], []), [0], [(0, (0, 0, 0, 2), (0, 4, 1, 0))])], [(0, 2)]))
def gn_H21 : List tk_Hd := []
theorem gn_21 (hU : gm_U tw) (hxt : tk_xtok xt) : tk_KS l D gk_cl gk_tbl gk_xw xt gk_MN gk_P gm_TY ro (gm_X tw) ads tw 3 gn_K21 := tk_contract (hk := tk_hk0) tk_hk0_ok (gm_xs hU) hxt gk_rok [207, 208, 254, 258, 267, 268] 20000 2 0 (Ks := []) (d := 0) (fun _ h => absurd h List.not_mem_nil) (Hs := gn_H21) (by decide +kernel) rfl
/-- GooseIceModel.way -/
def gn_K22 : tk_K := (279, [(2, 0, 0, 0), (0, 1, 1, 0), (0, 2, 1, 0)], ([((-2147483648), 2147483647), ((-2147483648), 2147483647)], []), [0], [], ([(some (0, 3, 1, 0), ([((-2147483648), 2147483647), ((-2147483648), 2147483647), ((-1), 1), (0, 1)], []), [0], [(0, (0, 0, 0, 2), (0, 4, 1, 0))])], [(0, 2)]))
def gn_H22 : List tk_Hd := []
theorem gn_22 (hU : gm_U tw) (hxt : tk_xtok xt) : tk_KS l D gk_cl gk_tbl gk_xw xt gk_MN gk_P gm_TY ro (gm_X tw) ads tw 4 gn_K22 := tk_contract (hk := tk_hk0) tk_hk0_ok (gm_xs hU) hxt gk_rok [207, 208, 253, 260, 262, 278] 20000 2 0 (Ks := [gn_K14]) (d := 1) (List.forall_mem_cons.mpr ⟨tk_KS_up (by decide) (gn_14 hU hxt), (fun _ h => absurd h List.not_mem_nil)⟩) (Hs := gn_H22) (by decide +kernel) rfl
end GN2
end MH11_2
section MH11_3
section GN3
variable {l : Launch} {D : va_G} {xt : tk_XT} {ro : Nat → Nat → Int → Prop} {ads tw : List Nat}
/-- GooseIceModel.beside -/
def gn_K23 : tk_K := (280, [(2, 0, 0, 0), (0, 1, 1, 0), (0, 2, 1, 0)], ([((-2147483648), 2147483647), ((-2147483648), 2147483647)], []), [0], [], ([(some (0, 3, 1, 0), ([((-2147483648), 2147483647), ((-2147483648), 2147483647), ((-1), 1), (0, 1)], []), [0], [(0, (0, 0, 0, 2), (0, 4, 1, 0))])], [(0, 2)]))
def gn_H23 : List tk_Hd := []
theorem gn_23 (hU : gm_U tw) (hxt : tk_xtok xt) : tk_KS l D gk_cl gk_tbl gk_xw xt gk_MN gk_P gm_TY ro (gm_X tw) ads tw 3 gn_K23 := tk_contract (hk := tk_hk0) tk_hk0_ok (gm_xs hU) hxt gk_rok [207, 208, 253, 260, 278] 20000 1 0 (Ks := [gn_K14]) (d := 1) (List.forall_mem_cons.mpr ⟨tk_KS_up (by decide) (gn_14 hU hxt), (fun _ h => absurd h List.not_mem_nil)⟩) (Hs := gn_H23) (by decide +kernel) rfl
/-- GooseIceModel.within -/
def gn_K24 : tk_K := (281, [(2, 0, 0, 0), (0, 1, 1, 0)], ([((-2147483648), 2147483647)], []), [0], [], ([(some (0, 2, 1, 0), ([((-2147483648), 2147483647), ((-1), 255), (0, 1)], []), [0], [(0, (0, 0, 0, 2), (0, 3, 1, 0))])], [(0, 2)]))
def gn_H24 : List tk_Hd := [(19, [(0, (2, 0, 0, 0)), (1, (0, 1, 1, 0)), (2, (0, 2, 1, 0)), (3, (0, 3, 1, 0))], ([(0, 9), (0, 255), (0, 8)], []), [0], [], [(0, 0, (0, 0, 0, 0)), (1, 8, (0, 3, 1, 0)), (0, 0, (0, 0, 0, 0))])]
theorem gn_24 (hU : gm_U tw) (hxt : tk_xtok xt) : tk_KS l D gk_cl gk_tbl gk_xw xt gk_MN gk_P gm_TY ro (gm_X tw) ads tw 4 gn_K24 := tk_contract (hk := tk_hk0) tk_hk0_ok (gm_xs hU) hxt gk_rok [207, 208, 254, 265] 20000 2 3 (Ks := [gn_K14]) (d := 1) (List.forall_mem_cons.mpr ⟨tk_KS_up (by decide) (gn_14 hU hxt), (fun _ h => absurd h List.not_mem_nil)⟩) (Hs := gn_H24) (by decide +kernel) rfl
/-- GooseIceModel.halt -/
def gn_K25 : tk_K := (292, [(2, 0, 0, 0), (0, 1, 1, 0)], ([((-2147483648), 2147483647)], []), [0], [], ([(some (0, 2, 1, 0), ([((-2147483648), 2147483647), ((-1), 20), (0, 7)], []), [0], [(0, (0, 0, 0, 2), (0, 3, 1, 0))])], [(0, 2), (1, 18)]))
def gn_H25 : List tk_Hd := []
theorem gn_25 (hU : gm_U tw) (hxt : tk_xtok xt) : tk_KS l D gk_cl gk_tbl gk_xw xt gk_MN gk_P gm_TY ro (gm_X tw) ads tw 3 gn_K25 := tk_contract (hk := tk_hk0) tk_hk0_ok (gm_xs hU) hxt gk_rok [207, 208, 254, 258, 267] 20000 2 0 (Ks := []) (d := 0) (fun _ h => absurd h List.not_mem_nil) (Hs := gn_H25) (by decide +kernel) rfl
/-- GooseIceModel.freezes -/
def gn_K26 : tk_K := (294, [(2, 0, 0, 0), (0, 1, 1, 0)], ([(1, 20)], []), [0], [], ([(some (0, 2, 1, 0), ([(1, 20), ((-2147483648), 2147483647)], []), [0], [])], [(1, 9), (1, 12)]))
def gn_H26 : List tk_Hd := [(4, [(0, (2, 0, 0, 0)), (1, (0, 1, 1, 0)), (2, (0, 2, 1, 0)), (3, (0, 3, 1, 0))], ([(1, 20), ((-2147483648), 2147483647), (0, 10)], []), [0], [], [(0, 0, (0, 0, 0, 0)), (1, 10, (0, 3, 1, 0)), (0, 0, (0, 0, 0, 0))])]
theorem gn_26 (hU : gm_U tw) (hxt : tk_xtok xt) : tk_KS l D gk_cl gk_tbl gk_xw xt gk_MN gk_P gm_TY ro (gm_X tw) ads tw 3 gn_K26 := tk_contract (hk := tk_hk0) tk_hk0_ok (gm_xs hU) hxt gk_rok [253, 256, 263] 20000 2 3 (Ks := []) (d := 0) (fun _ h => absurd h List.not_mem_nil) (Hs := gn_H26) (by decide +kernel) rfl
/-- GooseIceModel.frost -/
def gn_K27 : tk_K := (296, [(2, 0, 0, 0), (0, 1, 1, 0)], ([((-2147483648), 2147483647)], []), [0], [], ([(some (0, 2, 1, 0), ([((-2147483648), 2147483647), ((-2147483648), 2147483647), (0, 1)], []), [0], [(0, (0, 0, 0, 2), (0, 3, 1, 0))])], [(0, 2), (1, 9), (1, 12)]))
def gn_H27 : List tk_Hd := []
theorem gn_27 (hU : gm_U tw) (hxt : tk_xtok xt) : tk_KS l D gk_cl gk_tbl gk_xw xt gk_MN gk_P gm_TY ro (gm_X tw) ads tw 6 gn_K27 := tk_contract (hk := tk_hk0) tk_hk0_ok (gm_xs hU) hxt gk_rok [207, 208, 218, 253, 256, 263] 20000 2 0 (Ks := [gn_K26]) (d := 3) (List.forall_mem_cons.mpr ⟨tk_KS_up (by decide) (gn_26 hU hxt), (fun _ h => absurd h List.not_mem_nil)⟩) (Hs := gn_H27) (by decide +kernel) rfl
/-- GooseIceModel.thaws -/
def gn_K28 : tk_K := (295, [(2, 0, 0, 0), (0, 1, 1, 0)], ([(1, 20)], []), [0], [], ([(some (0, 2, 1, 0), ([(1, 20), ((-2147483648), 2147483647)], []), [0], [])], [(1, 9)]))
def gn_H28 : List tk_Hd := [(4, [(0, (2, 0, 0, 0)), (1, (0, 1, 1, 0)), (2, (0, 2, 1, 0)), (3, (0, 3, 1, 0))], ([(1, 20), ((-2147483648), 2147483647), (0, 10)], []), [0], [], [(0, 0, (0, 0, 0, 0)), (1, 10, (0, 3, 1, 0)), (0, 0, (0, 0, 0, 0))])]
theorem gn_28 (hU : gm_U tw) (hxt : tk_xtok xt) : tk_KS l D gk_cl gk_tbl gk_xw xt gk_MN gk_P gm_TY ro (gm_X tw) ads tw 8 gn_K28 := tk_contract (hk := tk_hk0) tk_hk0_ok (gm_xs hU) hxt gk_rok [253, 256] 20000 2 3 (Ks := [gn_K18]) (d := 5) (List.forall_mem_cons.mpr ⟨tk_KS_up (by decide) (gn_18 hU hxt), (fun _ h => absurd h List.not_mem_nil)⟩) (Hs := gn_H28) (by decide +kernel) rfl
/-- GooseIceModel.thaw -/
def gn_K29 : tk_K := (297, [(2, 0, 0, 0), (0, 1, 1, 0)], ([((-2147483648), 2147483647)], []), [0], [], ([(some (0, 2, 1, 0), ([((-2147483648), 2147483647), ((-2147483648), 2147483647), (0, 1)], []), [0], [(0, (0, 0, 0, 2), (0, 3, 1, 0))])], [(0, 2), (1, 9)]))
def gn_H29 : List tk_Hd := []
theorem gn_29 (hU : gm_U tw) (hxt : tk_xtok xt) : tk_KS l D gk_cl gk_tbl gk_xw xt gk_MN gk_P gm_TY ro (gm_X tw) ads tw 11 gn_K29 := tk_contract (hk := tk_hk0) tk_hk0_ok (gm_xs hU) hxt gk_rok [207, 208, 218, 253, 256] 20000 2 0 (Ks := [gn_K18, gn_K28]) (d := 8) (List.forall_mem_cons.mpr ⟨tk_KS_up (by decide) (gn_18 hU hxt), (List.forall_mem_cons.mpr ⟨tk_KS_up (by decide) (gn_28 hU hxt), (fun _ h => absurd h List.not_mem_nil)⟩)⟩) (Hs := gn_H29) (by decide +kernel) rfl
end GN3
end MH11_3
