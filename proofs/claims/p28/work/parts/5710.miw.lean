/-! ===== the model's words, names, signs, numbers (mw_s .. mw_one stand in 4770) ===== -/
/-- the class's number of each -/
def mw_i : List Nat := [0, 2, 3, 4, 5, 8, 9, 10, 1, 6, 7, 11, 13, 14, 15, 16, 12, 18, 17, 20, 21, 22, 19]
theorem mw_ok : ∀ j, j < 23 → mw_s.getD j 0 < mw_s.getD (j + 1) 0 - 1 ∧ mw_s.getD (j + 1) 0 ≤ 117 ∧ sk_b.getD (mw_s.getD (j + 1) 0 - 1) 0 = 32 ∧ mw_i.getD j 0 < 23 ∧ sp_pm.getD (mw_i.getD j 0) 0 = j := by decide +kernel
theorem mw_wd : ∀ j, j < 23 → sp_KW[mw_i.getD j 0]? = some ((List.range (mw_s.getD (j + 1) 0 - 1 - mw_s.getD j 0)).map (fun i => (sk_b.getD (mw_s.getD j 0 + i) 0).toInt.toNat)) := by decide +kernel
theorem mw_let : ∀ i, i < 117 → sk_b.getD i 0 = nI (sk_b.getD i 0).toInt.toNat ∧ (sk_b.getD i 0).toInt.toNat < 128 := by decide +kernel
theorem mw_all : ∀ k, k < 23 → sp_pm.getD k 0 < 23 ∧ mw_i.getD (sp_pm.getD k 0) 0 = k := by decide +kernel
/-- the model's number of the word behind p -/
def sp_mw (T : Nat → Nat) (n p : Nat) : Int32 := if sp_k T n p = 1 ∧ sp_kw (sp_wd T n p) < 23 then nI (sp_pm.getD (sp_kw (sp_wd T n p)) 0) else -1
section MIW
variable {g : Nat → Int32} {tp bt : Int64} {a : Nat → Nat → Int32} {b : Nat → Nat → Int64} {T : Nat → Nat} {n p : Nat}
theorem mw_word (hT : mT a T n) (hp : p ≤ n) (hk : sp_k T n p = 1) {j : Nat} (hj : j < 23) : (mw_s.getD (j + 1) 0 - 1 - mw_s.getD j 0 = sp_n T n p - sp_s T n p ∧ mw_eq a n (sp_s T n p) (mw_s.getD j 0) (mw_s.getD (j + 1) 0 - 1)) ↔ sp_KW[mw_i.getD j 0]? = some (sp_wd T n p) := by
  obtain ⟨o1, o2, o3, o4, o5⟩ := mw_ok j hj
  have hl := sp_n_lt (T := T) hp (Or.inl hk)
  have hle := sp_n_le (T := T) hp
  rw [mw_wd j hj]
  constructor
  · rintro ⟨h1, h2⟩
    unfold sp_wd sp_L
    rw [h1]
    congr 1
    refine List.map_congr_left (fun i hi => ?_)
    have hi := List.mem_range.mp hi
    have h3 := h2 i (by omega)
    rw [mb_in hT (by omega)] at h3
    rw [h3, nI_i32 (by have := (hT.2 (sp_s T n p + i) (by omega)).1; omega)]
    rfl
  · intro h
    have h := Option.some.inj h
    have h1 := congrArg List.length h
    rw [sp_wd_len, List.length_map, List.length_range] at h1
    refine ⟨h1, fun i hi => ?_⟩
    rw [mb_in hT (by omega), (mw_let _ (by omega)).1]
    congr 1
    unfold sp_wd sp_L at h
    have h2 := congrArg (fun l : List Nat => l[i]?) h
    rw [List.getElem?_map, List.getElem?_map, List.getElem?_range (by omega), List.getElem?_range (by omega)] at h2
    exact Option.some.inj h2
/-- inWords(KEYS) -/
theorem mr_inWords (hT : mT a T n) (hp : p ≤ n) (h : mtk g T n p) : fr_T 2 226 [.ref 0, .ref 22] (fm g tp bt a b) (some (.int (sp_mw T n p))) (fm g tp bt a b) := by
  suffices h : ∃ (v : Option Value) (mem' : fx_M), (fun R => R = (some (.int (sp_mw T n p)), fm g tp bt a b)) (v, mem') ∧ fr_T 2 226 [.ref 0, .ref 22] (fm g tp bt a b) v mem' by
    obtain ⟨v, mem', h1, h2⟩ := h
    cases h1
    exact h2
  obtain ⟨h11, h13, ⟨z, h14, hsz, hzn, hz⟩, h12, -, -, -, -⟩ := h
  have hk4 := sp_k4 (T := T) (n := n) (p := p)
  refine fe_meth (f := 226) (as := [.ref 0, .ref 22]) (F := fun R => R = (some (.int (sp_mw T n p)), fm g tp bt a b)) (M := gk_m226) (by rfl) (by rfl) ?_
  refine fe_s 3 (pc' := 5) (lc' := [(0, .ref 0), (1, .ref 22)]) (stk' := [.int 2, .int (g 12)]) (mem' := fm g tp bt a b) (by intro _ _ _; eq_refl) ?_
  rw [h12]
  refine fe_s 1 (pc' := cond (fx_cb .eq (nI (mkd (sp_k T n p))) 2) 10 8) (lc' := [(0, .ref 0), (1, .ref 22)]) (stk' := []) (mem' := fm g tp bt a b) (by intro _ _ _; eq_refl) ?_
  by_cases hk : sp_k T n p = 1
  · rw [hk, show fx_cb .eq (nI (mkd 1)) 2 = true from by decide]
    dsimp only [cond]
    refine fe_s 4 (pc' := 14) (lc' := [(3, .int (nI 1)), (2, .int (nI 0)), (0, .ref 0), (1, .ref 22)]) (stk' := []) (mem' := fm g tp bt a b) (by intro _ _ _; eq_refl) ?_
    have hz1 := hz (by omega)
    have main : ∀ (r j : Nat), j + r = 23 → (∀ i, i < j → sp_KW[mw_i.getD i 0]? ≠ some (sp_wd T n p)) → fe_R 1 gk_m226 14 [(3, .int (nI (mw_s.getD j 0))), (2, .int (nI j)), (0, .ref 0), (1, .ref 22)] [] (fm g tp bt a b) (fun R => R = (some (.int (sp_mw T n p)), fm g tp bt a b)) := by
      intro r
      induction r with
      | zero =>
        intro j hj hno
        obtain rfl : j = 23 := by omega
        refine fe_s 2 (pc' := 16) (lc' := [(3, .int (nI 117)), (2, .int (nI 23)), (0, .ref 0), (1, .ref 22)]) (stk' := [.ref 22, .int (nI 117)]) (mem' := fm g tp bt a b) (by intro _ _ _; eq_refl) ?_
        refine fe_s 1 (pc' := 19) (lc' := [(3, .int (nI 117)), (2, .int (nI 23)), (0, .ref 0), (1, .ref 22)]) (stk' := [.int 117, .int (nI 117)]) (mem' := fm g tp bt a b) (by intro _ _ _; eq_refl) ?_
        refine fe_s 1 (pc' := cond (fx_cb .ge (nI 117) 117) 133 22) (lc' := [(3, .int (nI 117)), (2, .int (nI 23)), (0, .ref 0), (1, .ref 22)]) (stk' := []) (mem' := fm g tp bt a b) (by intro _ _ _; eq_refl) ?_
        rw [show fx_cb .ge (nI 117) 117 = true from by decide]
        dsimp only [cond]
        refine fe_s 1 (pc' := 134) (lc' := [(3, .int (nI 117)), (2, .int (nI 23)), (0, .ref 0), (1, .ref 22)]) (stk' := [.int (-1)]) (mem' := fm g tp bt a b) (by intro _ _ _; eq_refl) ?_
        have hk23 : ¬ (sp_k T n p = 1 ∧ sp_kw (sp_wd T n p) < 23) := fun y => by
          obtain ⟨m1, m2⟩ := mw_all _ y.2
          exact hno _ m1 (by rw [m2]; exact sp_kw_get y.2)
        exact fe_ret (by show _ = (some (Value.int (if _ then _ else _)), _); rw [if_neg hk23]) (by rfl) (by rfl) (by rfl)
      | succ r ih =>
        intro j hj hno
        obtain ⟨o1, o2, o3, o4, o5⟩ := mw_ok j (by omega)
        have hw := mw_word (a := a) hT hp hk (j := j) (by omega)
        refine mw_one h11 hT.1 h13 h14 hsz hzn o1 (by omega) (by omega) o3 (mw_sp j (by omega)) (fun e1 e2 => ?_) (fun e1 => ?_)
        · rw [hz1] at e1
          have hkw := sp_kw_of (hw.mp ⟨e1, e2⟩)
          show _ = (some (Value.int (if _ then _ else _)), _)
          rw [if_pos ⟨hk, by rw [hkw]; exact o4⟩, hkw, o5]
        · rw [hz1] at e1
          have := ih (j + 1) (by omega) (fun i hi => by
            by_cases ei : i = j
            · rw [ei]; exact fun y => e1 (hw.mpr y)
            · exact hno i (by omega))
          rw [show mw_s.getD (j + 1) 0 - 1 + 1 = mw_s.getD (j + 1) 0 by omega]
          exact this
    exact main 23 0 rfl (fun i hi => absurd hi (by omega))
  · rw [show fx_cb .eq (nI (mkd (sp_k T n p))) 2 = false from cb_eqF (a := mkd (sp_k T n p)) (b := 2) (by unfold mkd; split; omega; split <;> omega) (by omega) (by unfold mkd; split; omega; split <;> omega)]
    dsimp only [cond]
    refine fe_s 1 (pc' := 9) (lc' := [(0, .ref 0), (1, .ref 22)]) (stk' := [.int (-1)]) (mem' := fm g tp bt a b) (by intro _ _ _; eq_refl) ?_
    exact fe_ret (by show _ = (some (Value.int (if _ then _ else _)), _); rw [if_neg (fun y => hk y.1)]) (by rfl) (by rfl) (by rfl)
end MIW
