/-! ===== the model: the public calls that were done by fx, as tk contracts ===== -/
section FMP
variable {g g' : Nat → Int32} {tp bt tp' bt' : Int64} {a a' : Nat → Nat → Int32} {b b' : Nat → Nat → Int64}
theorem fm_xsS {xs : List Int32} {n : Nat} (h : xs.length = n + 1) : ∃ x ys, xs = x :: ys ∧ ys.length = n := by
  cases xs with
  | nil => exact absurd h (by rw [List.length_nil]; omega)
  | cons x ys => exact ⟨x, ys, rfl, by rw [List.length_cons] at h; omega⟩
theorem fm_I_gb (hI : fm_I g a) : fm_gb g := ⟨hI.1 (2, 0, 9) (by decide), hI.1 (30, 0, 4) (by decide), hI.1 (37, 0, 300) (by decide), (hI.1 (41, 0, 1) (by decide)).1, (hI.1 (41, 0, 1) (by decide)).2⟩
theorem gm_ar_E : ∀ q ∈ gm_ar, fm_okE q.1 = false := by decide
theorem fm_I_EG (hI : fm_I g a) (hE : fm_E a a') (hG : fm_G g g') : fm_I g' a' := by
  refine ⟨fun q hq => ?_, hE.1, fun q hq i hi => ?_⟩
  · skip
    simp only [gm_gf, List.mem_cons, List.not_mem_nil, or_false] at hq
    rcases hq with rfl | rfl | rfl | rfl | rfl | rfl | rfl | rfl | rfl | rfl | rfl | rfl | rfl | rfl | rfl | rfl | rfl | rfl | rfl | rfl
    · show (0 : Int) ≤ (g' 2).toInt ∧ (g' 2).toInt ≤ 9
      exact hG.2.1
    · show (0 : Int) ≤ (g' 10).toInt ∧ (g' 10).toInt ≤ 900
      rw [hG.1 10 rfl]; exact hI.1 (10, 0, 900) (by decide)
    · show (0 : Int) ≤ (g' 11).toInt ∧ (g' 11).toInt ≤ 900
      rw [hG.1 11 rfl]; exact hI.1 (11, 0, 900) (by decide)
    · show (0 : Int) ≤ (g' 12).toInt ∧ (g' 12).toInt ≤ 4
      rw [hG.1 12 rfl]; exact hI.1 (12, 0, 4) (by decide)
    · show (0 : Int) ≤ (g' 13).toInt ∧ (g' 13).toInt ≤ 900
      rw [hG.1 13 rfl]; exact hI.1 (13, 0, 900) (by decide)
    · show (0 : Int) ≤ (g' 14).toInt ∧ (g' 14).toInt ≤ 900
      rw [hG.1 14 rfl]; exact hI.1 (14, 0, 900) (by decide)
    · show ((-2147483648) : Int) ≤ (g' 15).toInt ∧ (g' 15).toInt ≤ 1000000
      rw [hG.1 15 rfl]; exact hI.1 (15, (-2147483648), 1000000) (by decide)
    · show ((-1) : Int) ≤ (g' 16).toInt ∧ (g' 16).toInt ≤ 7
      rw [hG.1 16 rfl]; exact hI.1 (16, (-1), 7) (by decide)
    · show ((-1) : Int) ≤ (g' 17).toInt ∧ (g' 17).toInt ≤ 900
      rw [hG.1 17 rfl]; exact hI.1 (17, (-1), 900) (by decide)
    · show (0 : Int) ≤ (g' 18).toInt ∧ (g' 18).toInt ≤ 7
      rw [hG.1 18 rfl]; exact hI.1 (18, 0, 7) (by decide)
    · show (0 : Int) ≤ (g' 19).toInt ∧ (g' 19).toInt ≤ 0
      rw [hG.1 19 rfl]; exact hI.1 (19, 0, 0) (by decide)
    · show ((-2147483648) : Int) ≤ (g' 20).toInt ∧ (g' 20).toInt ≤ 2147483647
      rw [hG.1 20 rfl]; exact hI.1 (20, (-2147483648), 2147483647) (by decide)
    · show (0 : Int) ≤ (g' 22).toInt ∧ (g' 22).toInt ≤ 3
      rw [hG.1 22 rfl]; exact hI.1 (22, 0, 3) (by decide)
    · show (0 : Int) ≤ (g' 23).toInt ∧ (g' 23).toInt ≤ 30
      rw [hG.1 23 rfl]; exact hI.1 (23, 0, 30) (by decide)
    · show ((-2147483648) : Int) ≤ (g' 25).toInt ∧ (g' 25).toInt ≤ 2147483647
      exact fm_i32 _
    · show (0 : Int) ≤ (g' 30).toInt ∧ (g' 30).toInt ≤ 4
      exact hG.2.2.1
    · show ((-2147483648) : Int) ≤ (g' 36).toInt ∧ (g' 36).toInt ≤ 2147483647
      exact fm_i32 _
    · show (0 : Int) ≤ (g' 37).toInt ∧ (g' 37).toInt ≤ 300
      exact hG.2.2.2.1
    · show (0 : Int) ≤ (g' 41).toInt ∧ (g' 41).toInt ≤ 1
      exact hG.2.2.2.2
    · show (0 : Int) ≤ (g' 42).toInt ∧ (g' 42).toInt ≤ 3
      rw [hG.1 42 rfl]; exact hI.1 (42, 0, 3) (by decide)
  · rw [hE.2 q.1 (gm_ar_E q hq)]; exact hI.2.2 q hq i hi
theorem gn_Mg {k : Nat} (h : fm_okg k = true) : (0, k) ∈ gn_M0 := by
  have := of_decide_eq_true h
  rcases this with rfl | rfl | rfl | rfl | rfl | rfl
  all_goals exact List.mem_append_right _ (by decide)
theorem gn_ME {t : Nat} (h : fm_okE t = true) (h1 : t ≠ 1) : (t, 0) ∈ gn_M0 := by
  have := of_decide_eq_true h
  have : t = 9 ∨ t = 10 ∨ t = 11 ∨ t = 12 ∨ t = 13 ∨ t = 16 ∨ t = 19 ∨ t = 20 ∨ t = 21 := by omega
  rcases this with rfl | rfl | rfl | rfl | rfl | rfl | rfl | rfl | rfl
  all_goals exact List.mem_append_right _ (by decide)
theorem fm_ffr_EG (hE : fm_E a a') (hG : fm_G g g') (hb : ∀ t, t ≠ 17 → t ≠ 18 → b' t = b t) : fm_ffr gn_M0 g a b g' a' b' := by
  refine ⟨fun k => ?_, fun t ht => ?_, fun t => ?_⟩
  · cases hk : fm_okg k
    · exact Or.inr (hG.1 k hk)
    · exact Or.inl (gn_Mg hk)
  · cases hk : fm_okE t
    · exact Or.inr (hE.2 t hk)
    · exact Or.inl (gn_ME hk ht)
  · by_cases h1 : t = 17
    · subst h1; exact Or.inl (List.mem_append_right _ (by decide))
    · by_cases h2 : t = 18
      · subst h2; exact Or.inl (List.mem_append_right _ (by decide))
      · exact Or.inr (hb t h1 h2)
/-- what a public call gives -/
def fm_PP (mods : List (Nat × Nat)) (g : Nat → Int32) (a : Nat → Nat → Int32) (b : Nat → Nat → Int64) (R : Option Value × fx_M) : Prop := ∃ (v : Int32) (g' : Nat → Int32) (tp' bt' : Int64) (a' : Nat → Nat → Int32) (b' : Nat → Nat → Int64), R = (some (.int v), fm g' tp' bt' a' b') ∧ fm_I g' a' ∧ fm_ffr mods g a b g' a' b'
theorem fm_I_PO {R : Option Value × fx_M} (hI : fm_I g a) (h : fm_PO g tp bt a b R) : fm_PP gn_M0 g a b R := by
  obtain ⟨v, g', tp', bt', a', b', hE, hG, hb, rfl⟩ := h
  exact ⟨v, g', tp', bt', a', b', rfl, fm_I_EG hI hE hG, fm_ffr_EG hE hG hb⟩
theorem fm_I_PZ {R : Option Value × fx_M} (hI : fm_I g a) (h : fm_PZ g tp bt a b R) : fm_PP gn_M0 g a b R := by
  obtain ⟨v, g', tp', bt', a', b', -, hE, hG, hb, rfl⟩ := h
  exact ⟨v, g', tp', bt', a', b', rfl, fm_I_EG hI hE hG, fm_ffr_EG hE hG hb⟩
theorem fm_I_a {a a' : Nat → Nat → Int32} (hI : fm_I g a) (hB : fm_B a') (h : ∀ q ∈ gm_ar, ∀ i, i < q.2.1 → q.2.2.1 ≤ (a' q.1 i).toInt ∧ (a' q.1 i).toInt ≤ q.2.2.2) : fm_I g a' := ⟨hI.1, hB, h⟩
theorem fm_I_PT {R : Option Value × fx_M} (hI : fm_I g a) (h : fm_PT g tp bt a b R) : fm_PP gn_M0 g a b R := by
  obtain ⟨v, g', a', hS, h15, hG, rfl⟩ := h
  have hB : fm_B a' := fm_B_eq hI.2.1 (fun i => by rw [hS 1 (by decide)]) (fun i hi => by rw [hS 9 (by decide)]; exact hI.2.1.2.2 i hi)
  have hI2 : fm_I g' a := fm_I_EG hI (fm_E_rf hI.2.1) hG
  refine ⟨v, g', tp, bt, a', b, rfl, fm_I_a hI2 hB (fun q hq i hi => ?_), ⟨(fm_ffr_EG (b := b) (fm_E_rf hI.2.1) hG (fun _ _ _ => rfl)).1, fun t ht => ?_, fun t => Or.inr rfl⟩⟩
  · by_cases hq5 : q.1 = 15
    · have : q = (15, 427, 0, 1000000) := by
        have : ∀ q ∈ gm_ar, q.1 = 15 → q = (15, 427, 0, 1000000) := by decide
        exact this q hq hq5
      subst this
      exact h15 i hi
    · rw [hS q.1 hq5]; exact hI.2.2 q hq i hi
  · by_cases h5 : t = 15
    · subst h5; exact Or.inl (List.mem_append_right _ (by decide))
    · exact Or.inr (hS t h5)
theorem gm_gf_42 : ∀ q ∈ gm_gf, q.1 = 42 → q.2 = (0, 3) := by decide
theorem gm_gf_2 : ∀ q ∈ gm_gf, q.1 = 2 → q.2 = (0, 9) := by decide
theorem fm_I_u2 {x : Int32} (hI : fm_I g a) (h : 0 ≤ x.toInt ∧ x.toInt ≤ 9) : fm_I (upd g 2 x) a := by
  refine ⟨fun q hq => ?_, hI.2⟩
  by_cases h2 : q.1 = 2
  · rw [gm_gf_2 q hq h2, h2, pk_us]; exact h
  · rw [pk_un h2]; exact hI.1 q hq
theorem fm_I_u42 {x : Int32} (hI : fm_I g a) (h : 0 ≤ x.toInt ∧ x.toInt ≤ 3) : fm_I (upd g 42 x) a := by
  refine ⟨fun q hq => ?_, hI.2⟩
  by_cases h2 : q.1 = 42
  · rw [gm_gf_42 q hq h2, h2, pk_us]; exact h
  · rw [pk_un h2]; exact hI.1 q hq
theorem fm_ffr_u2 {m : List (Nat × Nat)} (hm : (0, 2) ∈ m) {x : Int32} : fm_ffr m g a b (upd g 2 x) a b := ⟨fun k => by
  by_cases h : k = 2
  · subst h; exact Or.inl hm
  · exact Or.inr (pk_un h), fun _ _ => Or.inr rfl, fun _ => Or.inr rfl⟩
theorem fm_I_MU {m n : Nat} {x : Int32} {R : Option Value × fx_M} (hI : fm_I g a) (h0 : 0 ≤ x.toInt ∧ x.toInt ≤ 9) {p q : Prop} (hn : q → n ≤ 3) (h : ∃ (v : Int32) (g' : Nat → Int32) (a' : Nat → Nat → Int32) (b' : Nat → Nat → Int64), (p ∧ v = -1 ∧ g' = upd g 2 x ∧ a' = a ∧ b' = b ∨ q ∧ v = nI n ∧ g' = upd (upd g 42 (nI n)) 2 0 ∧ fm_B a' ∧ (∀ t, t ≠ 1 → a' t = a t) ∧ ∀ t, t ≠ 2 → b' t = b t) ∧ R = (some (.int v), fm g' tp bt a' b')) : fm_PP gn_M2 g a b R := by
  obtain ⟨v, g', a', b', hh, rfl⟩ := h
  rcases hh with ⟨-, -, rfl, rfl, rfl⟩ | ⟨hq, -, rfl, hB, ha, hb⟩
  · exact ⟨v, _, tp, bt, _, _, rfl, fm_I_u2 hI h0, fm_ffr_u2 (List.mem_append_right _ (by decide))⟩
  · have hn3 := hn hq
    refine ⟨v, _, tp, bt, _, _, rfl, fm_I_u2 ⟨(fm_I_u42 hI (by rw [nI_i32 (by omega)]; omega)).1, hB, fun q hq i hi => ?_⟩ (by decide), fun k => ?_, fun t ht => Or.inr (ha t ht), fun t => ?_⟩
    · have : ∀ q ∈ gm_ar, q.1 ≠ 1 := by decide
      rw [ha q.1 (this q hq)]; exact hI.2.2 q hq i hi
    · by_cases h2 : k = 2
      · subst h2; exact Or.inl (List.mem_append_right _ (by decide))
      · by_cases h4 : k = 42
        · subst h4; exact Or.inl (List.mem_append_right _ (by decide))
        · exact Or.inr (by rw [pk_un h2, pk_un h4])
    · by_cases h2 : t = 2
      · subst h2; exact Or.inl (List.mem_append_right _ (by decide))
      · exact Or.inr (hb t h2)
theorem fm_i8b (x : Int8) : (-128) ≤ x.toInt32.toInt ∧ x.toInt32.toInt ≤ 127 := by
  have h1 := Int8.le_toInt x
  have h2 := Int8.toInt_lt x
  rw [Int8.toInt_toInt32]
  omega
set_option maxHeartbeats 4000000 in
theorem fm_I_LK (hI : fm_I g a) (h : fm_LK1 g a b g' a' b') : fm_I g' a' ∧ fm_ffr gn_M1 g a b g' a' b' := by
  obtain ⟨eo, e10, e2, ⟨S, E, F, x1, x2, x3, x4, x5, x6, ⟨t7, x7b, x7⟩, x8, x9⟩, ⟨⟨n1, f0, f1⟩, f2⟩, e16, e19, at', a7, ax, aN, sN, hL, hb⟩ := h
  obtain ⟨hBd, ⟨hS, hR⟩, h9⟩ := hI.2.1
  have bd : ∀ i, i < 5894 → fm_bd a' i := fun i hi => by
    by_cases hi0 : i < 842
    · rcases hL with hL | ⟨hL, -⟩
      · exact fm_bd_eq (hBd i hi) (hL i hi0)
      · exact hL i hi0
    · by_cases hi4 : 3368 ≤ i ∧ i < 4210
      · exact aN i hi4.1 hi4.2
      · exact fm_bd_eq (hBd i hi) (ax i hi0 hi4)
  have hXA : fm_XA a' := by
    refine ⟨fun s hs => ?_, fun s hs n hn => ?_⟩
    · by_cases h4 : s = 4
      · subst h4; exact sN
      · by_cases h00 : s = 0
        · subst h00
          rcases hL with hL | ⟨-, hL, -⟩
          · intro c d hc hd
            rw [hL _ (by omega), hL _ (by omega)]; exact hS 0 (by omega) c d hc hd
          · exact hL
        · intro c d hc hd
          rw [ax _ (by omega) (by omega), ax _ (by omega) (by omega)]; exact hS s hs c d hc hd
    · have hn6 : (n : Int) < 60 := by
        have h1 := (bd (842 * s + 6) (by omega)).2
        have hg : ∀ s, s < 4 → (gm_at (842 * s + 6)).2 ≤ 60 := by decide
        have := hg s hs
        omega
      by_cases h00 : s = 0
      · subst h00
        rcases hL with hL | ⟨-, -, -, hL⟩
        · rw [hL _ (by omega)] at hn
          rw [hL _ (by omega), hL _ (by omega)]; exact hR 0 (by omega) n hn
        · rw [show 842 * 0 + 6 = 6 from rfl, hL, show (-1 : Int32).toInt = -1 from rfl] at hn
          omega
      · rw [ax _ (by omega) (by omega)] at hn
        rw [ax _ (by omega) (by omega), ax _ (by omega) (by omega)]; exact hR s hs n hn
  refine ⟨⟨fun q hq => ?_, ⟨bd, hXA, fun i hi => by rw [at' 9 (by decide) (by decide)]; exact h9 i hi⟩, fun q hq i hi => ?_⟩, fun k => ?_, fun t ht => ?_, fun t => ?_⟩
  · skip
    simp only [gm_gf, List.mem_cons, List.not_mem_nil, or_false] at hq
    rcases hq with rfl | rfl | rfl | rfl | rfl | rfl | rfl | rfl | rfl | rfl | rfl | rfl | rfl | rfl | rfl | rfl | rfl | rfl | rfl | rfl
    · show (0 : Int) ≤ (g' 2).toInt ∧ (g' 2).toInt ≤ 9
      rcases e2 with e2 | e2 <;> rw [e2] <;> decide
    · show (0 : Int) ≤ (g' 10).toInt ∧ (g' 10).toInt ≤ 900
      rw [e10]; decide
    · show (0 : Int) ≤ (g' 11).toInt ∧ (g' 11).toInt ≤ 900
      rw [x1, nI_i32 (by omega)]; omega
    · show (0 : Int) ≤ (g' 12).toInt ∧ (g' 12).toInt ≤ 4
      rw [x7, nI_i32 (by omega)]; omega
    · show (0 : Int) ≤ (g' 13).toInt ∧ (g' 13).toInt ≤ 900
      rw [x5, nI_i32 (by omega)]; omega
    · show (0 : Int) ≤ (g' 14).toInt ∧ (g' 14).toInt ≤ 900
      rw [x3, nI_i32 (by omega)]; omega
    · show ((-2147483648) : Int) ≤ (g' 15).toInt ∧ (g' 15).toInt ≤ 1000000
      omega
    · show ((-1) : Int) ≤ (g' 16).toInt ∧ (g' 16).toInt ≤ 7
      rw [e16, f1, nI_i32 (by omega)]; omega
    · show ((-1) : Int) ≤ (g' 17).toInt ∧ (g' 17).toInt ≤ 900
      exact f2
    · show (0 : Int) ≤ (g' 18).toInt ∧ (g' 18).toInt ≤ 7
      rw [f1, nI_i32 (by omega)]; omega
    · show (0 : Int) ≤ (g' 19).toInt ∧ (g' 19).toInt ≤ 0
      rw [e19]; decide
    · show ((-2147483648) : Int) ≤ (g' 20).toInt ∧ (g' 20).toInt ≤ 2147483647
      exact fm_i32 _
    · show (0 : Int) ≤ (g' 22).toInt ∧ (g' 22).toInt ≤ 3
      rw [eo 22 (by decide) (by decide)]; exact hI.1 (22, 0, 3) (by decide)
    · show (0 : Int) ≤ (g' 23).toInt ∧ (g' 23).toInt ≤ 30
      rw [eo 23 (by decide) (by decide)]; exact hI.1 (23, 0, 30) (by decide)
    · show ((-2147483648) : Int) ≤ (g' 25).toInt ∧ (g' 25).toInt ≤ 2147483647
      rw [eo 25 (by decide) (by decide)]; exact hI.1 (25, (-2147483648), 2147483647) (by decide)
    · show (0 : Int) ≤ (g' 30).toInt ∧ (g' 30).toInt ≤ 4
      rw [eo 30 (by decide) (by decide)]; exact hI.1 (30, 0, 4) (by decide)
    · show ((-2147483648) : Int) ≤ (g' 36).toInt ∧ (g' 36).toInt ≤ 2147483647
      rw [eo 36 (by decide) (by decide)]; exact hI.1 (36, (-2147483648), 2147483647) (by decide)
    · show (0 : Int) ≤ (g' 37).toInt ∧ (g' 37).toInt ≤ 300
      rw [eo 37 (by decide) (by decide)]; exact hI.1 (37, 0, 300) (by decide)
    · show (0 : Int) ≤ (g' 41).toInt ∧ (g' 41).toInt ≤ 1
      rw [eo 41 (by decide) (by decide)]; exact hI.1 (41, 0, 1) (by decide)
    · show (0 : Int) ≤ (g' 42).toInt ∧ (g' 42).toInt ≤ 3
      rw [eo 42 (by decide) (by decide)]; exact hI.1 (42, 0, 3) (by decide)
  · skip
    simp only [gm_ar, List.mem_cons, List.not_mem_nil, or_false] at hq
    rcases hq with rfl | rfl | rfl | rfl | rfl | rfl | rfl
    · show (0 : Int) ≤ (a' 3 i).toInt ∧ (a' 3 i).toInt ≤ 3
      rw [at' 3 (by decide) (by decide)]; exact hI.2.2 (3, 4, 0, 3) (by decide) i hi
    · show ((-1) : Int) ≤ (a' 4 i).toInt ∧ (a' 4 i).toInt ≤ 60
      rw [at' 4 (by decide) (by decide)]; exact hI.2.2 (4, 4, (-1), 60) (by decide) i hi
    · show ((-128) : Int) ≤ (a' 6 i).toInt ∧ (a' 6 i).toInt ≤ 127
      rw [at' 6 (by decide) (by decide)]; exact hI.2.2 (6, 900, (-128), 127) (by decide) i hi
    · show ((-128) : Int) ≤ (a' 7 i).toInt ∧ (a' 7 i).toInt ≤ 127
      rcases a7 i with e | ⟨x, e⟩
      · rw [e]; exact hI.2.2 (7, 900, (-128), 127) (by decide) i hi
      · rw [e]; exact fm_i8b _
    · show (0 : Int) ≤ (a' 8 i).toInt ∧ (a' 8 i).toInt ≤ 59
      rw [at' 8 (by decide) (by decide)]; exact hI.2.2 (8, 3, 0, 59) (by decide) i hi
    · show (0 : Int) ≤ (a' 14 i).toInt ∧ (a' 14 i).toInt ≤ 1000000
      rw [at' 14 (by decide) (by decide)]; exact hI.2.2 (14, 256, 0, 1000000) (by decide) i hi
    · show (0 : Int) ≤ (a' 15 i).toInt ∧ (a' 15 i).toInt ≤ 1000000
      rw [at' 15 (by decide) (by decide)]; exact hI.2.2 (15, 427, 0, 1000000) (by decide) i hi
  · by_cases hk : k = 2 ∨ k = 10 ∨ k = 11 ∨ k = 12 ∨ k = 13 ∨ k = 14 ∨ k = 15 ∨ k = 16 ∨ k = 17 ∨ k = 18 ∨ k = 19 ∨ k = 20
    · refine Or.inl ?_
      rcases hk with rfl | rfl | rfl | rfl | rfl | rfl | rfl | rfl | rfl | rfl | rfl | rfl
      all_goals exact List.mem_append_right _ (by decide)
    · exact Or.inr (eo k (by omega) (by omega))
  · by_cases hk : t = 7
    · refine Or.inl ?_
      rcases hk with rfl
      all_goals exact List.mem_append_right _ (by decide)
    · exact Or.inr (at' t ht (by omega))
  · by_cases h2 : t = 2
    · subst h2; exact Or.inl (List.mem_append_right _ (by decide))
    · exact Or.inr (hb t h2)
set_option maxHeartbeats 4000000 in
theorem fm_I_TK (hI : fm_I g a) (h : fm_TK1 g a g' a') : fm_I g' a' ∧ fm_ffr gn_M1 g a b g' a' b := by
  obtain ⟨eo, e10, e2, ⟨S, E, F, x1, x2, x3, x4, x5, x6, ⟨t7, x7b, x7⟩, x8, x9⟩, ⟨⟨n1, f0, f1⟩, f2⟩, e16, e19, ⟨D, hD, eD⟩, ⟨K, hK, eK⟩, at', a7, a8, ax, aN, sN, hL⟩ := h
  obtain ⟨hBd, ⟨hS, hR⟩, h9⟩ := hI.2.1
  have bd : ∀ i, i < 5894 → fm_bd a' i := fun i hi => by
    by_cases hi0 : i = 6 ∨ 478 ≤ i ∧ i < 838
    · rcases hL with hL | ⟨hL, -⟩
      · exact fm_bd_eq (hBd i hi) (hL i hi0)
      · exact hL i hi0
    · by_cases hi4 : 3368 ≤ i ∧ i < 4210
      · exact aN i hi4.1 hi4.2
      · exact fm_bd_eq (hBd i hi) (ax i (by omega) (by omega) hi4)
  have hXA : fm_XA a' := by
    refine ⟨fun s hs => ?_, fun s hs n hn => ?_⟩
    · by_cases h4 : s = 4
      · subst h4; exact sN
      · intro c d hc hd
        have key : ∀ c, c < 10 → 842 * s + 10 + 6 * c ≠ 6 ∧ ¬ (478 ≤ 842 * s + 10 + 6 * c ∧ 842 * s + 10 + 6 * c < 838) ∧ ¬ (3368 ≤ 842 * s + 10 + 6 * c ∧ 842 * s + 10 + 6 * c < 4210) := fun c hc => by
          rcases (by omega : s = 0 ∨ 1 ≤ s) with h | h
          · subst h; omega
          · omega
        rw [ax _ (key c hc).1 (key c hc).2.1 (key c hc).2.2, ax _ (key d hd).1 (key d hd).2.1 (key d hd).2.2]; exact hS s hs c d hc hd
    · have hn6 : (n : Int) < 60 := by
        have h1 := (bd (842 * s + 6) (by omega)).2
        have hg : ∀ s, s < 4 → (gm_at (842 * s + 6)).2 ≤ 60 := by decide
        have := hg s hs
        omega
      by_cases h00 : s = 0
      · subst h00
        rcases hL with hL | ⟨-, n2, hn2, e6, hL⟩
        · rw [hL _ (by omega)] at hn
          rw [hL _ (by omega), hL _ (by omega)]; exact hR 0 (by omega) n hn
        · rw [show 842 * 0 + 6 = 6 from rfl, e6, nI_i32 (by omega)] at hn
          have := hL n (by omega)
          rw [show 842 * 0 + 478 + 6 * n = 478 + 6 * n by omega, show 842 * 0 + 479 + 6 * n = 479 + 6 * n by omega]
          exact this
      · rw [ax _ (by omega) (by omega) (by omega)] at hn
        rw [ax _ (by omega) (by omega) (by omega), ax _ (by omega) (by omega) (by omega)]; exact hR s hs n hn
  refine ⟨⟨fun q hq => ?_, ⟨bd, hXA, fun i hi => by rw [at' 9 (by decide) (by decide) (by decide)]; exact h9 i hi⟩, fun q hq i hi => ?_⟩, fun k => ?_, fun t ht => ?_, fun t => Or.inr rfl⟩
  · skip
    simp only [gm_gf, List.mem_cons, List.not_mem_nil, or_false] at hq
    rcases hq with rfl | rfl | rfl | rfl | rfl | rfl | rfl | rfl | rfl | rfl | rfl | rfl | rfl | rfl | rfl | rfl | rfl | rfl | rfl | rfl
    · show (0 : Int) ≤ (g' 2).toInt ∧ (g' 2).toInt ≤ 9
      rcases e2 with e2 | e2 <;> rw [e2] <;> decide
    · show (0 : Int) ≤ (g' 10).toInt ∧ (g' 10).toInt ≤ 900
      rw [e10]; decide
    · show (0 : Int) ≤ (g' 11).toInt ∧ (g' 11).toInt ≤ 900
      rw [x1, nI_i32 (by omega)]; omega
    · show (0 : Int) ≤ (g' 12).toInt ∧ (g' 12).toInt ≤ 4
      rw [x7, nI_i32 (by omega)]; omega
    · show (0 : Int) ≤ (g' 13).toInt ∧ (g' 13).toInt ≤ 900
      rw [x5, nI_i32 (by omega)]; omega
    · show (0 : Int) ≤ (g' 14).toInt ∧ (g' 14).toInt ≤ 900
      rw [x3, nI_i32 (by omega)]; omega
    · show ((-2147483648) : Int) ≤ (g' 15).toInt ∧ (g' 15).toInt ≤ 1000000
      omega
    · show ((-1) : Int) ≤ (g' 16).toInt ∧ (g' 16).toInt ≤ 7
      rw [e16, f1, nI_i32 (by omega)]; omega
    · show ((-1) : Int) ≤ (g' 17).toInt ∧ (g' 17).toInt ≤ 900
      exact f2
    · show (0 : Int) ≤ (g' 18).toInt ∧ (g' 18).toInt ≤ 7
      rw [f1, nI_i32 (by omega)]; omega
    · show (0 : Int) ≤ (g' 19).toInt ∧ (g' 19).toInt ≤ 0
      rw [e19]; decide
    · show ((-2147483648) : Int) ≤ (g' 20).toInt ∧ (g' 20).toInt ≤ 2147483647
      exact fm_i32 _
    · show (0 : Int) ≤ (g' 22).toInt ∧ (g' 22).toInt ≤ 3
      rw [eD, nI_i32 (by omega)]; omega
    · show (0 : Int) ≤ (g' 23).toInt ∧ (g' 23).toInt ≤ 30
      rw [eK, nI_i32 (by omega)]; omega
    · show ((-2147483648) : Int) ≤ (g' 25).toInt ∧ (g' 25).toInt ≤ 2147483647
      rw [eo 25 (by decide) (by decide) (by decide) (by decide)]; exact hI.1 (25, (-2147483648), 2147483647) (by decide)
    · show (0 : Int) ≤ (g' 30).toInt ∧ (g' 30).toInt ≤ 4
      rw [eo 30 (by decide) (by decide) (by decide) (by decide)]; exact hI.1 (30, 0, 4) (by decide)
    · show ((-2147483648) : Int) ≤ (g' 36).toInt ∧ (g' 36).toInt ≤ 2147483647
      rw [eo 36 (by decide) (by decide) (by decide) (by decide)]; exact hI.1 (36, (-2147483648), 2147483647) (by decide)
    · show (0 : Int) ≤ (g' 37).toInt ∧ (g' 37).toInt ≤ 300
      rw [eo 37 (by decide) (by decide) (by decide) (by decide)]; exact hI.1 (37, 0, 300) (by decide)
    · show (0 : Int) ≤ (g' 41).toInt ∧ (g' 41).toInt ≤ 1
      rw [eo 41 (by decide) (by decide) (by decide) (by decide)]; exact hI.1 (41, 0, 1) (by decide)
    · show (0 : Int) ≤ (g' 42).toInt ∧ (g' 42).toInt ≤ 3
      rw [eo 42 (by decide) (by decide) (by decide) (by decide)]; exact hI.1 (42, 0, 3) (by decide)
  · skip
    simp only [gm_ar, List.mem_cons, List.not_mem_nil, or_false] at hq
    rcases hq with rfl | rfl | rfl | rfl | rfl | rfl | rfl
    · show (0 : Int) ≤ (a' 3 i).toInt ∧ (a' 3 i).toInt ≤ 3
      rw [at' 3 (by decide) (by decide) (by decide)]; exact hI.2.2 (3, 4, 0, 3) (by decide) i hi
    · show ((-1) : Int) ≤ (a' 4 i).toInt ∧ (a' 4 i).toInt ≤ 60
      rw [at' 4 (by decide) (by decide) (by decide)]; exact hI.2.2 (4, 4, (-1), 60) (by decide) i hi
    · show ((-128) : Int) ≤ (a' 6 i).toInt ∧ (a' 6 i).toInt ≤ 127
      rw [at' 6 (by decide) (by decide) (by decide)]; exact hI.2.2 (6, 900, (-128), 127) (by decide) i hi
    · show ((-128) : Int) ≤ (a' 7 i).toInt ∧ (a' 7 i).toInt ≤ 127
      rcases a7 i with e | ⟨x, e⟩
      · rw [e]; exact hI.2.2 (7, 900, (-128), 127) (by decide) i hi
      · rw [e]; exact fm_i8b _
    · show (0 : Int) ≤ (a' 8 i).toInt ∧ (a' 8 i).toInt ≤ 59
      obtain ⟨z, hz, e⟩ := a8 i hi
      rw [e, nI_i32 (by omega)]; omega
    · show (0 : Int) ≤ (a' 14 i).toInt ∧ (a' 14 i).toInt ≤ 1000000
      rw [at' 14 (by decide) (by decide) (by decide)]; exact hI.2.2 (14, 256, 0, 1000000) (by decide) i hi
    · show (0 : Int) ≤ (a' 15 i).toInt ∧ (a' 15 i).toInt ≤ 1000000
      rw [at' 15 (by decide) (by decide) (by decide)]; exact hI.2.2 (15, 427, 0, 1000000) (by decide) i hi
  · by_cases hk : k = 2 ∨ k = 10 ∨ k = 11 ∨ k = 12 ∨ k = 13 ∨ k = 14 ∨ k = 15 ∨ k = 16 ∨ k = 17 ∨ k = 18 ∨ k = 19 ∨ k = 22 ∨ k = 23
    · refine Or.inl ?_
      rcases hk with rfl | rfl | rfl | rfl | rfl | rfl | rfl | rfl | rfl | rfl | rfl | rfl | rfl
      all_goals exact List.mem_append_right _ (by decide)
    · exact Or.inr (eo k (by omega) (by omega) (by omega) (by omega))
  · by_cases hk : t = 7 ∨ t = 8
    · refine Or.inl ?_
      rcases hk with rfl | rfl
      all_goals exact List.mem_append_right _ (by decide)
    · exact Or.inr (at' t ht (by omega) (by omega))
theorem fm_I_FL {n : Int32} {R : Option Value × fx_M} (hI : fm_I g a) (h : fm_FL g tp bt a b n R) : fm_PP gn_M1 g a b R := by
  obtain ⟨v, g', a', b', rfl, hh⟩ := h
  rcases hh with ⟨-, -, rfl, rfl, rfl⟩ | ⟨-, h⟩
  · exact ⟨v, _, tp, bt, _, _, rfl, fm_I_u2 hI (by decide), fm_ffr_u2 (List.mem_append_right _ (by decide))⟩
  · exact ⟨v, _, tp, bt, _, _, rfl, fm_I_LK hI h⟩
theorem fm_I_FTA {n : Int32} {R : Option Value × fx_M} (hI : fm_I g a) (h : fm_FTA g tp bt a b n R) : fm_PP gn_M1 g a b R := by
  obtain ⟨v, g', a', rfl, hh⟩ := h
  rcases hh with ⟨-, -, rfl, rfl⟩ | ⟨-, h⟩
  · exact ⟨v, _, tp, bt, _, _, rfl, fm_I_u2 hI (by decide), fm_ffr_u2 (List.mem_append_right _ (by decide))⟩
  · exact ⟨v, _, tp, bt, _, _, rfl, fm_I_TK hI h⟩
theorem fm_I_10 (hI : fm_I g a) : ∃ T, T ≤ 900 ∧ g 10 = nI T := by
  obtain ⟨h1, h2⟩ := hI.1 (10, 0, 900) (by decide)
  exact nI_bd h1 h2
theorem fm_I_42 (hI : fm_I g a) : ∃ T, T ≤ 3 ∧ g 42 = nI T := by
  obtain ⟨h1, h2⟩ := hI.1 (42, 0, 3) (by decide)
  exact nI_bd h1 h2
theorem fm_I_TH (hI : fm_I g a) : fm_TH g a := by
  obtain ⟨C, hC, eC⟩ := fm_B_0 hI.2.1 (i := 0) (n := 10) (by decide) rfl
  obtain ⟨W, hW, eW⟩ := fm_B_0 hI.2.1 (i := 1) (n := 8) (by decide) rfl
  refine ⟨fm_I_10 hI, ⟨C, W, eC, hC, eW, hW⟩, fun i h1 h2 => hI.2.1.1 i (by omega), hI.2.1.2.1.1 4 (by decide), fun d hd => ?_⟩
  obtain ⟨h1, h2⟩ := hI.2.2 (8, 3, 0, 59) (by decide) d hd
  exact nI_bd h1 h2
end FMP
section GP
variable {l : Launch} {D : va_G} {xt : tk_XT} {TY : tk_TT} {ro : Nat → Nat → Int → Prop} {ads tw : List Nat}
/-- step -/
theorem gp_step (hst : ∀ (Ad : Nat → Prop) (U : State) (H : Heap), xt Ad U H → ∃ pl v tx, sk_X pl v Ad U H ∧ vk_R "GooseIceModel" 189 tx pl U) (hT : fm_Ty TY) : tk_KS l D gk_cl gk_tbl gk_xw xt gk_MN gk_P TY ro (gn_X tw) ads tw 12 (gn_K 293 1 gn_M0) := by
  refine fm_pub hst hT (k := 8) gn_M0_ms (fun g tp bt a b xs hx hI => ?_)
  obtain ⟨x0, xs0, rfl, hx0⟩ := fm_xsS hx
  obtain rfl := List.length_eq_zero_iff.mp hx0
  obtain ⟨v, mem', hP, hf⟩ := fr_step (g := g) (tp := tp) (bt := bt) (a := a) (b := b) (n := x0) hI.2.1 (fm_I_gb hI)
  obtain ⟨v, g', tp', bt', a', b', e, h1, h2⟩ := fm_I_PO hI hP
  cases e
  exact ⟨v, g', tp', bt', a', b', hf, h1, h2⟩
/-- ready -/
theorem gp_ready (hst : ∀ (Ad : Nat → Prop) (U : State) (H : Heap), xt Ad U H → ∃ pl v tx, sk_X pl v Ad U H ∧ vk_R "GooseIceModel" 189 tx pl U) (hT : fm_Ty TY) : tk_KS l D gk_cl gk_tbl gk_xw xt gk_MN gk_P TY ro (gn_X tw) ads tw 13 (gn_K 328 2 gn_M0) := by
  refine fm_pub hst hT (k := 9) gn_M0_ms (fun g tp bt a b xs hx hI => ?_)
  obtain ⟨x0, xs0, rfl, hx0⟩ := fm_xsS hx
  obtain ⟨x1, xs1, rfl, hx1⟩ := fm_xsS hx0
  obtain rfl := List.length_eq_zero_iff.mp hx1
  obtain ⟨v, mem', hP, hf⟩ := fr_ready (g := g) (tp := tp) (bt := bt) (a := a) (b := b) (c := x0) (m := x1) hI.2.1 (fm_I_gb hI)
  obtain ⟨v, g', tp', bt', a', b', e, h1, h2⟩ := fm_I_PO hI hP
  cases e
  exact ⟨v, g', tp', bt', a', b', hf, h1, h2⟩
/-- holds -/
theorem gp_holds (hst : ∀ (Ad : Nat → Prop) (U : State) (H : Heap), xt Ad U H → ∃ pl v tx, sk_X pl v Ad U H ∧ vk_R "GooseIceModel" 189 tx pl U) (hT : fm_Ty TY) : tk_KS l D gk_cl gk_tbl gk_xw xt gk_MN gk_P TY ro (gn_X tw) ads tw 13 (gn_K 336 0 gn_M0) := by
  refine fm_pub hst hT (k := 9) gn_M0_ms (fun g tp bt a b xs hx hI => ?_)
  obtain rfl := List.length_eq_zero_iff.mp hx
  obtain ⟨v, mem', hP, hf⟩ := fr_holds (g := g) (tp := tp) (bt := bt) (a := a) (b := b)  hI.2.1 (fm_I_gb hI)
  obtain ⟨v, g', tp', bt', a', b', e, h1, h2⟩ := fm_I_PO hI hP
  cases e
  exact ⟨v, g', tp', bt', a', b', hf, h1, h2⟩
/-- wayAt -/
theorem gp_wayAt (hst : ∀ (Ad : Nat → Prop) (U : State) (H : Heap), xt Ad U H → ∃ pl v tx, sk_X pl v Ad U H ∧ vk_R "GooseIceModel" 189 tx pl U) (hT : fm_Ty TY) : tk_KS l D gk_cl gk_tbl gk_xw xt gk_MN gk_P TY ro (gn_X tw) ads tw 12 (gn_K 311 3 gn_M0) := by
  refine fm_pub hst hT (k := 8) gn_M0_ms (fun g tp bt a b xs hx hI => ?_)
  obtain ⟨x0, xs0, rfl, hx0⟩ := fm_xsS hx
  obtain ⟨x1, xs1, rfl, hx1⟩ := fm_xsS hx0
  obtain ⟨x2, xs2, rfl, hx2⟩ := fm_xsS hx1
  obtain rfl := List.length_eq_zero_iff.mp hx2
  obtain ⟨v, mem', hP, hf⟩ := fr_wayAtP (g := g) (tp := tp) (bt := bt) (a := a) (b := b) (w := x0) (c := x1) (k := x2) hI.2.1 (fm_I_gb hI)
  obtain ⟨v, g', tp', bt', a', b', e, h1, h2⟩ := fm_I_PO hI hP
  cases e
  exact ⟨v, g', tp', bt', a', b', hf, h1, h2⟩
/-- surestAt -/
theorem gp_surestAt (hst : ∀ (Ad : Nat → Prop) (U : State) (H : Heap), xt Ad U H → ∃ pl v tx, sk_X pl v Ad U H ∧ vk_R "GooseIceModel" 189 tx pl U) (hT : fm_Ty TY) : tk_KS l D gk_cl gk_tbl gk_xw xt gk_MN gk_P TY ro (gn_X tw) ads tw 13 (gn_K 317 3 gn_M0) := by
  refine fm_pub hst hT (k := 9) gn_M0_ms (fun g tp bt a b xs hx hI => ?_)
  obtain ⟨x0, xs0, rfl, hx0⟩ := fm_xsS hx
  obtain ⟨x1, xs1, rfl, hx1⟩ := fm_xsS hx0
  obtain ⟨x2, xs2, rfl, hx2⟩ := fm_xsS hx1
  obtain rfl := List.length_eq_zero_iff.mp hx2
  obtain ⟨v, mem', hP, hf⟩ := fr_surestAtP (g := g) (tp := tp) (bt := bt) (a := a) (b := b) (w := x0) (c := x1) (k := x2) hI.2.1 (fm_I_gb hI)
  obtain ⟨v, g', tp', bt', a', b', e, h1, h2⟩ := fm_I_PO hI hP
  cases e
  exact ⟨v, g', tp', bt', a', b', hf, h1, h2⟩
/-- send -/
theorem gp_send (hst : ∀ (Ad : Nat → Prop) (U : State) (H : Heap), xt Ad U H → ∃ pl v tx, sk_X pl v Ad U H ∧ vk_R "GooseIceModel" 189 tx pl U) (hT : fm_Ty TY) : tk_KS l D gk_cl gk_tbl gk_xw xt gk_MN gk_P TY ro (gn_X tw) ads tw 13 (gn_K 289 3 gn_M0) := by
  refine fm_pub hst hT (k := 9) gn_M0_ms (fun g tp bt a b xs hx hI => ?_)
  obtain ⟨x0, xs0, rfl, hx0⟩ := fm_xsS hx
  obtain ⟨x1, xs1, rfl, hx1⟩ := fm_xsS hx0
  obtain ⟨x2, xs2, rfl, hx2⟩ := fm_xsS hx1
  obtain rfl := List.length_eq_zero_iff.mp hx2
  obtain ⟨v, mem', hP, hf⟩ := fr_send (g := g) (tp := tp) (bt := bt) (a := a) (b := b) (w := x0) (t0 := x1) (n0 := x2) hI.2.1 (fm_I_gb hI)
  obtain ⟨v, g', tp', bt', a', b', e, h1, h2⟩ := fm_I_PO hI hP
  cases e
  exact ⟨v, g', tp', bt', a', b', hf, h1, h2⟩
/-- sendTo -/
theorem gp_sendTo (hst : ∀ (Ad : Nat → Prop) (U : State) (H : Heap), xt Ad U H → ∃ pl v tx, sk_X pl v Ad U H ∧ vk_R "GooseIceModel" 189 tx pl U) (hT : fm_Ty TY) : tk_KS l D gk_cl gk_tbl gk_xw xt gk_MN gk_P TY ro (gn_X tw) ads tw 14 (gn_K 291 2 gn_M0) := by
  refine fm_pub hst hT (k := 10) gn_M0_ms (fun g tp bt a b xs hx hI => ?_)
  obtain ⟨x0, xs0, rfl, hx0⟩ := fm_xsS hx
  obtain ⟨x1, xs1, rfl, hx1⟩ := fm_xsS hx0
  obtain rfl := List.length_eq_zero_iff.mp hx1
  obtain ⟨v, mem', hP, hf⟩ := fr_sendTo (g := g) (tp := tp) (bt := bt) (a := a) (b := b) (w := x0) (c := x1) hI.2.1 (fm_I_gb hI)
  obtain ⟨v, g', tp', bt', a', b', e, h1, h2⟩ := fm_I_PO hI hP
  cases e
  exact ⟨v, g', tp', bt', a', b', hf, h1, h2⟩
/-- far -/
theorem gp_far (hst : ∀ (Ad : Nat → Prop) (U : State) (H : Heap), xt Ad U H → ∃ pl v tx, sk_X pl v Ad U H ∧ vk_R "GooseIceModel" 189 tx pl U) (hT : fm_Ty TY) : tk_KS l D gk_cl gk_tbl gk_xw xt gk_MN gk_P TY ro (gn_X tw) ads tw 13 (gn_K 310 2 gn_M0) := by
  refine fm_pub hst hT (k := 9) gn_M0_ms (fun g tp bt a b xs hx hI => ?_)
  obtain ⟨x0, xs0, rfl, hx0⟩ := fm_xsS hx
  obtain ⟨x1, xs1, rfl, hx1⟩ := fm_xsS hx0
  obtain rfl := List.length_eq_zero_iff.mp hx1
  obtain ⟨v, mem', hP, hf⟩ := fr_far (g := g) (tp := tp) (bt := bt) (a := a) (b := b) (w := x0) (c := x1) hI.2.1 (fm_I_gb hI)
  obtain ⟨v, g', tp', bt', a', b', e, h1, h2⟩ := fm_I_PO hI hP
  cases e
  exact ⟨v, g', tp', bt', a', b', hf, h1, h2⟩
/-- surest -/
theorem gp_surest (hst : ∀ (Ad : Nat → Prop) (U : State) (H : Heap), xt Ad U H → ∃ pl v tx, sk_X pl v Ad U H ∧ vk_R "GooseIceModel" 189 tx pl U) (hT : fm_Ty TY) : tk_KS l D gk_cl gk_tbl gk_xw xt gk_MN gk_P TY ro (gn_X tw) ads tw 14 (gn_K 315 2 gn_M0) := by
  refine fm_pub hst hT (k := 10) gn_M0_ms (fun g tp bt a b xs hx hI => ?_)
  obtain ⟨x0, xs0, rfl, hx0⟩ := fm_xsS hx
  obtain ⟨x1, xs1, rfl, hx1⟩ := fm_xsS hx0
  obtain rfl := List.length_eq_zero_iff.mp hx1
  obtain ⟨v, mem', hP, hf⟩ := fr_surest (g := g) (tp := tp) (bt := bt) (a := a) (b := b) (w := x0) (c := x1) hI.2.1 (fm_I_gb hI)
  obtain ⟨v, g', tp', bt', a', b', e, h1, h2⟩ := fm_I_PO hI hP
  cases e
  exact ⟨v, g', tp', bt', a', b', hf, h1, h2⟩
/-- surestFar -/
theorem gp_surestFar (hst : ∀ (Ad : Nat → Prop) (U : State) (H : Heap), xt Ad U H → ∃ pl v tx, sk_X pl v Ad U H ∧ vk_R "GooseIceModel" 189 tx pl U) (hT : fm_Ty TY) : tk_KS l D gk_cl gk_tbl gk_xw xt gk_MN gk_P TY ro (gn_X tw) ads tw 14 (gn_K 316 2 gn_M0) := by
  refine fm_pub hst hT (k := 10) gn_M0_ms (fun g tp bt a b xs hx hI => ?_)
  obtain ⟨x0, xs0, rfl, hx0⟩ := fm_xsS hx
  obtain ⟨x1, xs1, rfl, hx1⟩ := fm_xsS hx0
  obtain rfl := List.length_eq_zero_iff.mp hx1
  obtain ⟨v, mem', hP, hf⟩ := fr_surestFar (g := g) (tp := tp) (bt := bt) (a := a) (b := b) (w := x0) (c := x1) hI.2.1 (fm_I_gb hI)
  obtain ⟨v, g', tp', bt', a', b', e, h1, h2⟩ := fm_I_PO hI hP
  cases e
  exact ⟨v, g', tp', bt', a', b', hf, h1, h2⟩
/-- reach -/
theorem gp_reach (hst : ∀ (Ad : Nat → Prop) (U : State) (H : Heap), xt Ad U H → ∃ pl v tx, sk_X pl v Ad U H ∧ vk_R "GooseIceModel" 189 tx pl U) (hT : fm_Ty TY) : tk_KS l D gk_cl gk_tbl gk_xw xt gk_MN gk_P TY ro (gn_X tw) ads tw 13 (gn_K 318 1 gn_M0) := by
  refine fm_pub hst hT (k := 9) gn_M0_ms (fun g tp bt a b xs hx hI => ?_)
  obtain ⟨x0, xs0, rfl, hx0⟩ := fm_xsS hx
  obtain rfl := List.length_eq_zero_iff.mp hx0
  obtain ⟨v, mem', hP, hf⟩ := fr_reach (g := g) (tp := tp) (bt := bt) (a := a) (b := b) (w := x0) hI.2.1 (fm_I_gb hI)
  obtain ⟨v, g', tp', bt', a', b', e, h1, h2⟩ := fm_I_PO hI hP
  cases e
  exact ⟨v, g', tp', bt', a', b', hf, h1, h2⟩
/-- cut -/
theorem gp_cut (hst : ∀ (Ad : Nat → Prop) (U : State) (H : Heap), xt Ad U H → ∃ pl v tx, sk_X pl v Ad U H ∧ vk_R "GooseIceModel" 189 tx pl U) (hT : fm_Ty TY) : tk_KS l D gk_cl gk_tbl gk_xw xt gk_MN gk_P TY ro (gn_X tw) ads tw 14 (gn_K 320 2 gn_M0) := by
  refine fm_pub hst hT (k := 10) gn_M0_ms (fun g tp bt a b xs hx hI => ?_)
  obtain ⟨x0, xs0, rfl, hx0⟩ := fm_xsS hx
  obtain ⟨x1, xs1, rfl, hx1⟩ := fm_xsS hx0
  obtain rfl := List.length_eq_zero_iff.mp hx1
  obtain ⟨v, mem', hP, hf⟩ := fr_cut (g := g) (tp := tp) (bt := bt) (a := a) (b := b) (w := x0) (c := x1) hI.2.1 (fm_I_gb hI)
  obtain ⟨v, g', tp', bt', a', b', e, h1, h2⟩ := fm_I_PO hI hP
  cases e
  exact ⟨v, g', tp', bt', a', b', hf, h1, h2⟩
/-- cutSet -/
theorem gp_cutSet (hst : ∀ (Ad : Nat → Prop) (U : State) (H : Heap), xt Ad U H → ∃ pl v tx, sk_X pl v Ad U H ∧ vk_R "GooseIceModel" 189 tx pl U) (hT : fm_Ty TY) : tk_KS l D gk_cl gk_tbl gk_xw xt gk_MN gk_P TY ro (gn_X tw) ads tw 14 (gn_K 321 2 gn_M0) := by
  refine fm_pub hst hT (k := 10) gn_M0_ms (fun g tp bt a b xs hx hI => ?_)
  obtain ⟨x0, xs0, rfl, hx0⟩ := fm_xsS hx
  obtain ⟨x1, xs1, rfl, hx1⟩ := fm_xsS hx0
  obtain rfl := List.length_eq_zero_iff.mp hx1
  obtain ⟨v, mem', hP, hf⟩ := fr_cutSet (g := g) (tp := tp) (bt := bt) (a := a) (b := b) (w := x0) (c := x1) hI.2.1 (fm_I_gb hI)
  obtain ⟨v, g', tp', bt', a', b', e, h1, h2⟩ := fm_I_PO hI hP
  cases e
  exact ⟨v, g', tp', bt', a', b', hf, h1, h2⟩
/-- hew -/
theorem gp_hew (hst : ∀ (Ad : Nat → Prop) (U : State) (H : Heap), xt Ad U H → ∃ pl v tx, sk_X pl v Ad U H ∧ vk_R "GooseIceModel" 189 tx pl U) (hT : fm_Ty TY) : tk_KS l D gk_cl gk_tbl gk_xw xt gk_MN gk_P TY ro (gn_X tw) ads tw 13 (gn_K 301 3 gn_M0) := by
  refine fm_pub hst hT (k := 9) gn_M0_ms (fun g tp bt a b xs hx hI => ?_)
  obtain ⟨x0, xs0, rfl, hx0⟩ := fm_xsS hx
  obtain ⟨x1, xs1, rfl, hx1⟩ := fm_xsS hx0
  obtain ⟨x2, xs2, rfl, hx2⟩ := fm_xsS hx1
  obtain rfl := List.length_eq_zero_iff.mp hx2
  obtain ⟨v, mem', hP, hf⟩ := fr_hew (g := g) (tp := tp) (bt := bt) (a := a) (b := b) (x := x0) (y := x1) (z := x2) hI.2.1 (fm_I_gb hI)
  obtain ⟨v, g', tp', bt', a', b', e, h1, h2⟩ := fm_I_PZ hI hP
  cases e
  exact ⟨v, g', tp', bt', a', b', hf, h1, h2⟩
/-- live -/
theorem gp_live (hst : ∀ (Ad : Nat → Prop) (U : State) (H : Heap), xt Ad U H → ∃ pl v tx, sk_X pl v Ad U H ∧ vk_R "GooseIceModel" 189 tx pl U) (hT : fm_Ty TY) : tk_KS l D gk_cl gk_tbl gk_xw xt gk_MN gk_P TY ro (gn_X tw) ads tw 17 (gn_K 366 1 gn_M0) := by
  refine fm_pub hst hT (k := 13) gn_M0_ms (fun g tp bt a b xs hx hI => ?_)
  obtain ⟨x0, xs0, rfl, hx0⟩ := fm_xsS hx
  obtain rfl := List.length_eq_zero_iff.mp hx0
  obtain ⟨v, mem', hP, hf⟩ := fr_live (g := g) (tp := tp) (bt := bt) (a := a) (b := b) (sd := x0) hI.2.1 (fm_I_gb hI)
  obtain ⟨v, g', tp', bt', a', b', e, h1, h2⟩ := fm_I_PO hI hP
  cases e
  exact ⟨v, g', tp', bt', a', b', hf, h1, h2⟩
/-- mean -/
theorem gp_mean (hst : ∀ (Ad : Nat → Prop) (U : State) (H : Heap), xt Ad U H → ∃ pl v tx, sk_X pl v Ad U H ∧ vk_R "GooseIceModel" 189 tx pl U) (hT : fm_Ty TY) : tk_KS l D gk_cl gk_tbl gk_xw xt gk_MN gk_P TY ro (gn_X tw) ads tw 18 (gn_K 368 2 gn_M0) := by
  refine fm_pub hst hT (k := 14) gn_M0_ms (fun g tp bt a b xs hx hI => ?_)
  obtain ⟨x0, xs0, rfl, hx0⟩ := fm_xsS hx
  obtain ⟨x1, xs1, rfl, hx1⟩ := fm_xsS hx0
  obtain rfl := List.length_eq_zero_iff.mp hx1
  obtain ⟨v, mem', hP, hf⟩ := fr_mean (g := g) (tp := tp) (bt := bt) (a := a) (b := b) (sd := x0) (my := x1) hI.2.1 (fm_I_gb hI)
  obtain ⟨v, g', tp', bt', a', b', e, h1, h2⟩ := fm_I_PZ hI hP
  cases e
  exact ⟨v, g', tp', bt', a', b', hf, h1, h2⟩
/-- odds -/
theorem gp_odds (hst : ∀ (Ad : Nat → Prop) (U : State) (H : Heap), xt Ad U H → ∃ pl v tx, sk_X pl v Ad U H ∧ vk_R "GooseIceModel" 189 tx pl U) (hT : fm_Ty TY) : tk_KS l D gk_cl gk_tbl gk_xw xt gk_MN gk_P TY ro (gn_X tw) ads tw 13 (gn_K 355 5 gn_M0) := by
  refine fm_pub hst hT (k := 9) gn_M0_ms (fun g tp bt a b xs hx hI => ?_)
  obtain ⟨x0, xs0, rfl, hx0⟩ := fm_xsS hx
  obtain ⟨x1, xs1, rfl, hx1⟩ := fm_xsS hx0
  obtain ⟨x2, xs2, rfl, hx2⟩ := fm_xsS hx1
  obtain ⟨x3, xs3, rfl, hx3⟩ := fm_xsS hx2
  obtain ⟨x4, xs4, rfl, hx4⟩ := fm_xsS hx3
  obtain rfl := List.length_eq_zero_iff.mp hx4
  obtain ⟨v, mem', hP, hf⟩ := fr_odds (g := g) (tp := tp) (bt := bt) (a := a) (b := b) (c := x0) (m := x1) (dd := x2) (f := x3) (t := x4) hI.2.1 (fm_I_gb hI)
  obtain ⟨v, g', tp', bt', a', b', e, h1, h2⟩ := fm_I_PZ hI hP
  cases e
  exact ⟨v, g', tp', bt', a', b', hf, h1, h2⟩
/-- meanIn -/
theorem gp_meanIn (hst : ∀ (Ad : Nat → Prop) (U : State) (H : Heap), xt Ad U H → ∃ pl v tx, sk_X pl v Ad U H ∧ vk_R "GooseIceModel" 189 tx pl U) (hT : fm_Ty TY) : tk_KS l D gk_cl gk_tbl gk_xw xt gk_MN gk_P TY ro (gn_X tw) ads tw 13 (gn_K 357 4 gn_M0) := by
  refine fm_pub hst hT (k := 9) gn_M0_ms (fun g tp bt a b xs hx hI => ?_)
  obtain ⟨x0, xs0, rfl, hx0⟩ := fm_xsS hx
  obtain ⟨x1, xs1, rfl, hx1⟩ := fm_xsS hx0
  obtain ⟨x2, xs2, rfl, hx2⟩ := fm_xsS hx1
  obtain ⟨x3, xs3, rfl, hx3⟩ := fm_xsS hx2
  obtain rfl := List.length_eq_zero_iff.mp hx3
  obtain ⟨v, mem', hP, hf⟩ := fr_meanIn (g := g) (tp := tp) (bt := bt) (a := a) (b := b) (c := x0) (dd := x1) (f := x2) (t := x3) hI.2.1 (fm_I_gb hI)
  obtain ⟨v, g', tp', bt', a', b', e, h1, h2⟩ := fm_I_PZ hI hP
  cases e
  exact ⟨v, g', tp', bt', a', b', hf, h1, h2⟩
/-- bestDay -/
theorem gp_bestDay (hst : ∀ (Ad : Nat → Prop) (U : State) (H : Heap), xt Ad U H → ∃ pl v tx, sk_X pl v Ad U H ∧ vk_R "GooseIceModel" 189 tx pl U) (hT : fm_Ty TY) : tk_KS l D gk_cl gk_tbl gk_xw xt gk_MN gk_P TY ro (gn_X tw) ads tw 13 (gn_K 356 5 gn_M0) := by
  refine fm_pub hst hT (k := 9) gn_M0_ms (fun g tp bt a b xs hx hI => ?_)
  obtain ⟨x0, xs0, rfl, hx0⟩ := fm_xsS hx
  obtain ⟨x1, xs1, rfl, hx1⟩ := fm_xsS hx0
  obtain ⟨x2, xs2, rfl, hx2⟩ := fm_xsS hx1
  obtain ⟨x3, xs3, rfl, hx3⟩ := fm_xsS hx2
  obtain ⟨x4, xs4, rfl, hx4⟩ := fm_xsS hx3
  obtain rfl := List.length_eq_zero_iff.mp hx4
  obtain ⟨v, mem', hP, hf⟩ := fr_bestDay (g := g) (tp := tp) (bt := bt) (a := a) (b := b) (c := x0) (m := x1) (dd := x2) (f := x3) (t := x4) hI.2.1 (fm_I_gb hI)
  obtain ⟨v, g', tp', bt', a', b', e, h1, h2⟩ := fm_I_PO hI hP
  cases e
  exact ⟨v, g', tp', bt', a', b', hf, h1, h2⟩
/-- suspects -/
theorem gp_suspects (hst : ∀ (Ad : Nat → Prop) (U : State) (H : Heap), xt Ad U H → ∃ pl v tx, sk_X pl v Ad U H ∧ vk_R "GooseIceModel" 189 tx pl U) (hT : fm_Ty TY) : tk_KS l D gk_cl gk_tbl gk_xw xt gk_MN gk_P TY ro (gn_X tw) ads tw 14 (gn_K 350 1 gn_M0) := by
  refine fm_pub hst hT (k := 10) gn_M0_ms (fun g tp bt a b xs hx hI => ?_)
  obtain ⟨x0, xs0, rfl, hx0⟩ := fm_xsS hx
  obtain rfl := List.length_eq_zero_iff.mp hx0
  obtain ⟨v, mem', hP, hf⟩ := fr_suspects (g := g) (tp := tp) (bt := bt) (a := a) (b := b) (st := x0) hI.2.1 (fm_I_gb hI)
  obtain ⟨v, g', tp', bt', a', b', e, h1, h2⟩ := fm_I_PO hI hP
  cases e
  exact ⟨v, g', tp', bt', a', b', hf, h1, h2⟩
/-- queue -/
theorem gp_queue (hst : ∀ (Ad : Nat → Prop) (U : State) (H : Heap), xt Ad U H → ∃ pl v tx, sk_X pl v Ad U H ∧ vk_R "GooseIceModel" 189 tx pl U) (hT : fm_Ty TY) : tk_KS l D gk_cl gk_tbl gk_xw xt gk_MN gk_P TY ro (gn_X tw) ads tw 14 (gn_K 334 3 gn_M0) := by
  refine fm_pub hst hT (k := 10) gn_M0_ms (fun g tp bt a b xs hx hI => ?_)
  obtain ⟨x0, xs0, rfl, hx0⟩ := fm_xsS hx
  obtain ⟨x1, xs1, rfl, hx1⟩ := fm_xsS hx0
  obtain ⟨x2, xs2, rfl, hx2⟩ := fm_xsS hx1
  obtain rfl := List.length_eq_zero_iff.mp hx2
  obtain ⟨v, mem', hP, hf⟩ := fr_queue (g := g) (tp := tp) (bt := bt) (a := a) (b := b) (set := x0) (tray := x1) (nn := x2) hI.2.1 (fm_I_gb hI)
  obtain ⟨v, g', tp', bt', a', b', e, h1, h2⟩ := fm_I_PO hI hP
  cases e
  exact ⟨v, g', tp', bt', a', b', hf, h1, h2⟩
/-- tryFirst -/
theorem gp_tryFirst (hst : ∀ (Ad : Nat → Prop) (U : State) (H : Heap), xt Ad U H → ∃ pl v tx, sk_X pl v Ad U H ∧ vk_R "GooseIceModel" 189 tx pl U) (hT : fm_Ty TY) : tk_KS l D gk_cl gk_tbl gk_xw xt gk_MN gk_P TY ro (gn_X tw) ads tw 7 (gn_K 348 2 gn_M0) := by
  refine fm_pub hst hT (k := 3) gn_M0_ms (fun g tp bt a b xs hx hI => ?_)
  obtain ⟨x0, xs0, rfl, hx0⟩ := fm_xsS hx
  obtain ⟨x1, xs1, rfl, hx1⟩ := fm_xsS hx0
  obtain rfl := List.length_eq_zero_iff.mp hx1
  obtain ⟨v, mem', hP, hf⟩ := fr_tryFirst (g := g) (tp := tp) (bt := bt) (a := a) (b := b) (n := x0) (b2 := x1) hI.2.1 (fm_I_gb hI) (fun i hi => hI.2.2 (15, 427, 0, 1000000) (by decide) i hi)
  obtain ⟨v, g', tp', bt', a', b', e, h1, h2⟩ := fm_I_PT hI hP
  cases e
  exact ⟨v, g', tp', bt', a', b', hf, h1, h2⟩
/-- lake -/
theorem gp_lake (hst : ∀ (Ad : Nat → Prop) (U : State) (H : Heap), xt Ad U H → ∃ pl v tx, sk_X pl v Ad U H ∧ vk_R "GooseIceModel" 189 tx pl U) (hT : fm_Ty TY) : tk_KS l D gk_cl gk_tbl gk_xw xt gk_MN gk_P TY ro (gn_X tw) ads tw 14 (gn_K 246 1 gn_M1) := by
  refine fm_pub hst hT (k := 10) gn_M1_ms (fun g tp bt a b xs hx hI => ?_)
  obtain ⟨x0, xs0, rfl, hx0⟩ := fm_xsS hx
  obtain rfl := List.length_eq_zero_iff.mp hx0
  obtain ⟨v, mem', hP, hf⟩ := fr_lake (g := g) (tp := tp) (bt := bt) (a := a) (b := b) (n := x0) (fm_I_10 hI)
  obtain ⟨v, g', tp', bt', a', b', e, h1, h2⟩ := fm_I_FL hI hP
  cases e
  exact ⟨v, g', tp', bt', a', b', hf, h1, h2⟩
/-- tales -/
theorem gp_tales (hst : ∀ (Ad : Nat → Prop) (U : State) (H : Heap), xt Ad U H → ∃ pl v tx, sk_X pl v Ad U H ∧ vk_R "GooseIceModel" 189 tx pl U) (hT : fm_Ty TY) : tk_KS l D gk_cl gk_tbl gk_xw xt gk_MN gk_P TY ro (gn_X tw) ads tw 17 (gn_K 252 1 gn_M1) := by
  refine fm_pub hst hT (k := 13) gn_M1_ms (fun g tp bt a b xs hx hI => ?_)
  obtain ⟨x0, xs0, rfl, hx0⟩ := fm_xsS hx
  obtain rfl := List.length_eq_zero_iff.mp hx0
  obtain ⟨v, mem', hP, hf⟩ := fr_tales (g := g) (tp := tp) (bt := bt) (a := a) (b := b) (n := x0) (fm_I_TH hI)
  obtain ⟨v, g', tp', bt', a', b', e, h1, h2⟩ := fm_I_FTA hI hP
  cases e
  exact ⟨v, g', tp', bt', a', b', hf, h1, h2⟩
/-- mark -/
theorem gp_mark (hst : ∀ (Ad : Nat → Prop) (U : State) (H : Heap), xt Ad U H → ∃ pl v tx, sk_X pl v Ad U H ∧ vk_R "GooseIceModel" 189 tx pl U) (hT : fm_Ty TY) : tk_KS l D gk_cl gk_tbl gk_xw xt gk_MN gk_P TY ro (gn_X tw) ads tw 6 (gn_K 370 0 gn_M2) := by
  refine fm_pub hst hT (k := 2) gn_M2_ms (fun g tp bt a b xs hx hI => ?_)
  obtain rfl := List.length_eq_zero_iff.mp hx
  obtain ⟨m, hm, em⟩ := fm_I_42 hI
  obtain ⟨v, mem', hP, hf⟩ := fr_mark (g := g) (tp := tp) (bt := bt) (a := a) (b := b)  hI.2.1 em hm
  obtain ⟨v, g', tp', bt', a', b', e, h1, h2⟩ := fm_I_MU (m := m) (n := m + 1) hI (by decide) (fun h => by omega) hP
  cases e
  exact ⟨v, g', tp', bt', a', b', hf, h1, h2⟩
/-- undo -/
theorem gp_undo (hst : ∀ (Ad : Nat → Prop) (U : State) (H : Heap), xt Ad U H → ∃ pl v tx, sk_X pl v Ad U H ∧ vk_R "GooseIceModel" 189 tx pl U) (hT : fm_Ty TY) : tk_KS l D gk_cl gk_tbl gk_xw xt gk_MN gk_P TY ro (gn_X tw) ads tw 6 (gn_K 371 0 gn_M2) := by
  refine fm_pub hst hT (k := 2) gn_M2_ms (fun g tp bt a b xs hx hI => ?_)
  obtain rfl := List.length_eq_zero_iff.mp hx
  obtain ⟨m, hm, em⟩ := fm_I_42 hI
  obtain ⟨v, mem', hP, hf⟩ := fr_undo (g := g) (tp := tp) (bt := bt) (a := a) (b := b)  hI.2.1 em hm
  obtain ⟨v, g', tp', bt', a', b', e, h1, h2⟩ := fm_I_MU (m := m) (n := m - 1) hI (by decide) (fun h => by omega) hP
  cases e
  exact ⟨v, g', tp', bt', a', b', hf, h1, h2⟩
end GP
