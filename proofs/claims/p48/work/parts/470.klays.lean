/-! ===== the model: laysFar's contract, by fx ===== -/
theorem fm_chg9 {TY : tk_TT} {ro : Nat → Nat → Int → Prop} {ads tw : List Nat} {ps : fx_P} {g : Nat → Int32} {tp bt : Int64} {a p : Nat → Nat → Int32} {b : Nat → Nat → Int64} {mods : List (Nat × Nat)} (hT : fm_Ty TY) (hm : (9, 0) ∈ mods) (hp : ∀ t, t ≠ 9 → p t = a t) (hb : ∀ i, i < 10 → 0 ≤ (p 9 i).toInt ∧ (p 9 i).toInt ≤ 1000000) : ∀ (t : Nat) (e e' : fx_E), (fm g tp bt a b)[t]? = some e → (fm g tp bt p b)[t]? = some e' → fm_chg TY ro ads tw mods ps t e e' := by
  have hp2 : p = fun t => if t = 9 then p 9 else a t := funext (fun t => by
    split
    · next h => rw [h]
    · next h => exact hp t h)
  generalize hq : p 9 = q at hp2 hb
  rw [hp2]
  intro t e e' h h'
  match t, h, h' with
  | 9, h, h' =>
    cases h
    cases h'
    refine Or.inr (Or.inl ⟨10, a 9, q, (3, 9, 0), rfl, rfl, by rw [hT.1]; rfl, fun i hi => ?_, fun i hi => absurd ?_ hi, 0, ?_⟩)
    · show ∃ x : Int32, Value.int (q i) = .int x ∧ (TY.2.1 9 i).1 ≤ x.toInt ∧ x.toInt ≤ (TY.2.1 9 i).2
      refine ⟨q i, rfl, ?_⟩
      rw [hT.2.1]
      exact hb i hi
    · unfold tk_rg; rw [hT.2.2]; exact hm
    · unfold tk_rg; rw [hT.2.2]; exact hm
  | 0, h, h' => cases h; cases h'; exact Or.inl rfl
  | 1, h, h' => cases h; cases h'; exact Or.inl rfl
  | 2, h, h' => cases h; cases h'; exact Or.inl rfl
  | 3, h, h' => cases h; cases h'; exact Or.inl rfl
  | 4, h, h' => cases h; cases h'; exact Or.inl rfl
  | 5, h, h' => cases h; cases h'; exact Or.inl rfl
  | 6, h, h' => cases h; cases h'; exact Or.inl rfl
  | 7, h, h' => cases h; cases h'; exact Or.inl rfl
  | 8, h, h' => cases h; cases h'; exact Or.inl rfl
  | 10, h, h' => cases h; cases h'; exact Or.inl rfl
  | 11, h, h' => cases h; cases h'; exact Or.inl rfl
  | 12, h, h' => cases h; cases h'; exact Or.inl rfl
  | 13, h, h' => cases h; cases h'; exact Or.inl rfl
  | 14, h, h' => cases h; cases h'; exact Or.inl rfl
  | 15, h, h' => cases h; cases h'; exact Or.inl rfl
  | 16, h, h' => cases h; cases h'; exact Or.inl rfl
  | 17, h, h' => cases h; cases h'; exact Or.inl rfl
  | 18, h, h' => cases h; cases h'; exact Or.inl rfl
  | 19, h, h' => cases h; cases h'; exact Or.inl rfl
  | 20, h, h' => cases h; cases h'; exact Or.inl rfl
  | 21, h, h' => cases h; cases h'; exact Or.inl rfl
  | n + 22, h, h' => cases h
theorem nI_i32 {n : Nat} (h : n < 2147483648) : (nI n).toInt = (n : Int) := nI_toInt (by omega)
theorem fm_bfs_bd {p : Nat → Nat → Int32} (h : fm_bfs p) : ∀ i, i < 10 → 0 ≤ (p 9 i).toInt ∧ (p 9 i).toInt ≤ 1000000 := fun i hi => by
  rcases h i hi with e | ⟨v, hv, e, -⟩
  · rw [e]; decide
  · rw [e, nI_i32 (by omega)]; omega
def gq_w : tk_W := ([(0, 7), (-2147483648, 2147483647), (-2147483648, 2147483647)], [])
def gq_w1 : tk_W := ([(0, 7), (-2147483648, 2147483647), (-2147483648, 2147483647), (0, 10)], [])
/-- laysFar -/
def gq_305 : tk_K := (305, [(2, 0, 0, 0), (0, 1, 1, 0), (0, 2, 1, 0), (0, 3, 1, 0)], gq_w, [0], [], [(some (0, 0, 0, 1000000), gq_w, [0], []), (some (0, 4, 1, 0), gq_w1, [0], [])], [(9, 0)])
theorem gk_305 {l : Launch} {D : va_G} {xt : tk_XT} {ro : Nat → Nat → Int → Prop} {ads tw : List Nat} (hst : ∀ (Ad : Nat → Prop) (U : State) (H : Heap), xt Ad U H → ∃ pl v tx, sk_X pl v Ad U H ∧ vk_R "GooseIceModel" 189 tx pl U) {TY : tk_TT} (hT : fm_Ty TY) : tk_KS l D gk_cl gk_tbl gk_xw xt gk_MN gk_P TY ro (fun _ => True) ads tw 9 gq_305 := by
  refine tk_KS2_1 (fm_KS2 (k := 5) hst hT rfl (fun U vals rest ws h0 ps σ g tp bt a b hH hrest hty hfst hD hfa hat _ => ?_))
  obtain ⟨vw, r1, rfl, gW, hr1⟩ := hrest.cons
  obtain ⟨vt, r2, rfl, gt, hr2⟩ := hr1.cons
  obtain ⟨vb, r3, rfl, gb, hr3⟩ := hr2.cons
  have := hr3.nil
  subst this
  obtain ⟨xw, rfl, w1, w2, -⟩ := fm_arg hH.1 gW rfl
  obtain ⟨to, rfl, -, -, -⟩ := fm_arg hH.1 gt rfl
  obtain ⟨bby, rfl, -, -, -⟩ := fm_arg hH.1 gb rfl
  obtain ⟨W, hW, rfl⟩ := nI_bd (n := 7) w1 w2
  obtain ⟨⟨NC, hNC, eNC⟩, -, -, -, hw⟩ := fm_tyt hT hty hat
  obtain ⟨X, hX, eX⟩ := hw W (by omega)
  obtain ⟨v, mem', ⟨p, hp, hR⟩, hfr⟩ := fr_laysFar (g := g) (tp := tp) (bt := bt) (b := b) (to := to) (bby := bby) (W := W) (by omega) eX hX eNC hNC
  cases hR
  refine ⟨_, _, hfr, fm_chg9 hT (List.mem_singleton.mpr rfl) hp.1 (fm_bfs_bd hp.2), trivial, ?_⟩
  rcases hp.2 X hX with e | ⟨n, hn, e, -⟩
  · refine ⟨_, List.mem_cons_self, vals, ⟨[], by simp⟩, hH, rfl, fun q hq => absurd hq List.not_mem_nil, .int (p 9 X), ⟨p 9 X, rfl, by rw [e]; rfl⟩, rfl⟩
  · have hl : vals.length = 3 := hH.1.len.symm
    refine ⟨_, List.mem_cons_of_mem _ List.mem_cons_self, vals ++ [(n : Int)], ⟨[(n : Int)], rfl⟩, ⟨?_, fun q hq => absurd hq List.not_mem_nil⟩, rfl, fun q hq => absurd hq List.not_mem_nil, .int (p 9 X), ⟨p 9 X, rfl, ?_⟩, rfl⟩
    · exact hH.1.push ⟨by show (0 : Int) ≤ (n : Int); omega, by show (n : Int) ≤ 10; omega⟩
    · unfold tk_num
      dsimp only
      rw [List.getElem?_append_right (by omega), hl, e, nI_i32 (by omega)]
      show some (1 * (n : Int) + 0) = _
      congr 1
      omega
