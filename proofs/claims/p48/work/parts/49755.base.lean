/-! ===== fx: remainders, a switch that is missed, sums, rows ===== -/
theorem fm_lrem_abs {x y : Int64} (hy : ¬ y = 0) : (x - x / y * y).toInt.natAbs < y.toInt.natAbs := by
  have hY : y.toInt ≠ 0 := fun z => hy (Int64.toInt_inj.mp (by rw [z]; rfl))
  have h2 : (x.toInt.tmod y.toInt).natAbs < y.toInt.natAbs := by
    rw [Int.natAbs_tmod]
    exact Nat.mod_lt _ (by omega)
  have b1 := Int64.toInt_lt y
  have b2 := Int64.le_toInt y
  have h1 := Int.mul_tdiv_add_tmod x.toInt y.toInt
  have e : (x - x / y * y).toInt = x.toInt.tmod y.toInt := by
    rw [Int64.toInt_sub, Int64.toInt_mul, Int64.toInt_div, Int.bmod_mul_bmod, Int.sub_bmod_bmod]
    have h3 : x.toInt - x.toInt.tdiv y.toInt * y.toInt = x.toInt.tmod y.toInt := by
      rw [Int.mul_comm]
      generalize y.toInt * x.toInt.tdiv y.toInt = z at *
      omega
    rw [h3]
    generalize x.toInt.tmod y.toInt = z at *
    rcases Int.natAbs_eq z with e1 | e1 <;> rcases Int.natAbs_eq y.toInt with e2 | e2 <;> apply Int.bmod_eq_of_le <;> omega
  rw [e]
  exact h2
theorem fe_irem {k : Nat} {M : rk_M2} {pc : Nat} {x y : Int32} {lc : fx_L} {r : List Value} {mem : fx_M} {F : Option Value × fx_M → Prop} (hat : tk_at M.1 pc = some (pc, .irem, 1)) (hy : ¬ y = 0) (kk : fe_R k M (pc + 1) lc (.int (x - x / y * y) :: r) mem F) : fe_R k M pc lc (.int y :: .int x :: r) mem F := by
  refine fe_s 1 (pc' := pc + 1) (lc' := lc) (stk' := .int (x - x / y * y) :: r) (mem' := mem) (fun N d n => ?_) kk
  refine fx_one (z := (pc + 1, lc, .int (x - x / y * y) :: r, mem)) hat rfl rfl ?_
  show (match (if y = 0 then none else some (pc + 1, lc, Value.int (x - x / y * y) :: r) : fx_R) with
    | some z => some (z.1, z.2.1, z.2.2, mem)
    | none => none) = _
  rw [if_neg hy]
theorem fe_tbd {k : Nat} {M : rk_M2} {pc pc' len : Nat} {d lo hi : Int} {offs : Array Int} {x : Int32} {lc : fx_L} {r : List Value} {mem : fx_M} {F : Option Value × fx_M → Prop} (hat : tk_at M.1 pc = some (pc, .tableswitch d lo hi offs, len)) (hl : rk_len (.tableswitch d lo hi offs) len = true) (h1 : (offs.toList.length : Int) = hi - lo + 1) (hx : x.toInt < lo ∨ hi < x.toInt) (hd : 0 ≤ (pc : Int) + d) (hp : fx_to pc d = pc') (kk : fe_R k M pc' lc r mem F) : fe_R k M pc lc (.int x :: r) mem F := by
  subst hp
  refine fe_s 1 (pc' := fx_to pc d) (lc' := lc) (stk' := r) (mem' := mem) (fun N d2 n => ?_) kk
  refine fx_one (z := (fx_to pc d, lc, r, mem)) hat hl rfl ?_
  show fx_tb pc d lo hi offs.toList lc (.int x :: r) mem = _
  have e : Op.lookupswitch.offset (tk_tp lo offs.toList) d x.toInt = d := by
    rcases tk_tp_ok d x.toInt offs.toList lo with ⟨-, e⟩ | ⟨i, e1, e2⟩
    · exact e
    · have := (List.getElem?_eq_some_iff.mp e2).1
      omega
  show cond (decide ((offs.toList.length : Int) = hi - lo + 1) && decide (0 ≤ (pc : Int) + Op.lookupswitch.offset (tk_tp lo offs.toList) d x.toInt)) (some (fx_to pc (Op.lookupswitch.offset (tk_tp lo offs.toList) d x.toInt), lc, r, mem)) none = _
  rw [e, decide_eq_true h1, decide_eq_true hd]
  rfl
def fm_sum (f : Nat → Int32) : Nat → Nat
  | 0 => 0
  | n + 1 => fm_sum f n + (f n).toInt.toNat
theorem fm_sum_out {f : Nat → Int32} {o : Nat} {v : Int32} : ∀ n, n ≤ o → fm_sum (upd f o v) n = fm_sum f n := by
  intro n
  induction n with
  | zero => intro _; rfl
  | succ n ih =>
    intro h
    show fm_sum (upd f o v) n + (upd f o v n).toInt.toNat = fm_sum f n + (f n).toInt.toNat
    rw [ih (by omega), pk_un (by omega)]
theorem fm_sum_upd {f : Nat → Int32} {o : Nat} {v : Int32} : ∀ n, o < n → fm_sum (upd f o v) n + (f o).toInt.toNat = fm_sum f n + v.toInt.toNat := by
  intro n
  induction n with
  | zero => intro h; exact absurd h (Nat.not_lt_zero _)
  | succ n ih =>
    intro h
    show fm_sum (upd f o v) n + (upd f o v n).toInt.toNat + (f o).toInt.toNat = fm_sum f n + (f n).toInt.toNat + v.toInt.toNat
    by_cases e : n = o
    · subst e
      rw [fm_sum_out n (Nat.le_refl _), pk_us]
      omega
    · rw [pk_un e]
      have := ih (by omega)
      omega
theorem fm_pos1 {x : Int32} (h : fx_cb .le x 0 = false) : 0 < x.toInt ∧ (x - 1).toInt.toNat + 1 = x.toInt.toNat := by
  have h1 : ¬ x ≤ 0 := of_decide_eq_false h
  have h2 : 0 < x.toInt := by
    rw [Int32.le_iff_toInt_le, show ((0 : Int32).toInt) = 0 from rfl] at h1
    omega
  have h3 := x.toInt_lt
  have e : (x - 1).toInt = x.toInt - 1 := by
    rw [Int32.toInt_sub, show ((1 : Int32).toInt) = 1 from rfl]
    apply Int.bmod_eq_of_le <;> omega
  rw [e]
  omega
theorem fm_sub0 (x : Int32) : x - 0 = x := by
  apply Int32.toInt_inj.mp
  rw [Int32.toInt_sub, show ((0 : Int32).toInt) = 0 from rfl, Int.sub_zero]
  have h1 := x.le_toInt
  have h2 := x.toInt_lt
  apply Int.bmod_eq_of_le <;> omega
/-- a row of TALES: its numbers -/
theorem fm_row_m {a0 : Nat → Nat → Int32} (hB : fm_B a0) {k : Nat} (hk : k < 60) : ∃ m, m ≤ 1922 ∧ a0 1 (478 + 6 * k) = nI m := by
  have hg : ∀ k, k < 60 → gm_at (478 + 6 * k) = (0, 1922) := by decide
  exact fm_B_0 hB (n := 1922) (by omega) (hg k hk)
theorem fm_row_o {a0 : Nat → Nat → Int32} (hB : fm_B a0) {k : Nat} (hk : k < 60) : ∃ m, m ≤ 59 ∧ a0 1 (482 + 6 * k) = nI m := by
  have hg : ∀ k, k < 60 → gm_at (482 + 6 * k) = (0, 59) := by decide
  exact fm_B_0 hB (n := 59) (by omega) (hg k hk)
theorem fm_row_ro {a0 : Nat → Nat → Int32} (hB : fm_B a0) {k N : Nat} (hN : a0 1 6 = nI N) (hN6 : N ≤ 60) (hk : k < N) : fm_ro (a0 1 (478 + 6 * k)) (a0 1 (479 + 6 * k)) := by
  have := hB.2.1.2 0 (by omega) k
  rw [show 842 * 0 + 6 = 6 from rfl, hN, nI_i32 (by omega), show 842 * 0 + 478 + 6 * k = 478 + 6 * k by omega, show 842 * 0 + 479 + 6 * k = 479 + 6 * k by omega] at this
  exact this (by omega)
theorem fm_dyn_hi {i : Nat} (h : 478 ≤ i) : fm_dyn i = false := by
  cases hd : fm_dyn i
  · rfl
  · have := fm_dyn_lt hd; omega
theorem fm_D_hi {a0 a : Nat → Nat → Int32} {T i : Nat} (hD : fm_D a0 a T) (h : 478 ≤ i) : a 1 i = a0 1 i := fm_D_h hD (by omega) (fm_dyn_hi h)
theorem fm_ro_7 {x y : Int32} (h : fm_ro x y) (hx : x = 11 ∨ x = 1810 ∨ x = 1822) : ∃ w, w < 8 ∧ y = nI w := by
  obtain ⟨h1, h2⟩ := h.1 hx
  obtain ⟨w, h3, h4⟩ := nI_bd (n := 7) h1 h2
  exact ⟨w, by omega, h4⟩
theorem fm_ro_9 {x y : Int32} (h : fm_ro x y) (hx : 1800 ≤ x.toInt) : ∃ w, w < 10 ∧ y = nI w := by
  obtain ⟨h1, h2⟩ := h.2.1 hx
  obtain ⟨w, h3, h4⟩ := nI_bd (n := 9) h1 h2
  exact ⟨w, by omega, h4⟩
theorem fm_ro_20 {x y : Int32} (h : fm_ro x y) (hx : x = 12) : ∃ w, w ≤ 20 ∧ y = nI w := by
  obtain ⟨h1, h2⟩ := h.2.2 hx
  exact nI_bd (n := 20) h1 h2
/-- taken back: the LAKE is as it was kept -/
theorem fm_restD {a a0 a1 a9 : Nat → Nat → Int32} {to T T1 : Nat} (ht : to = 4210 ∨ to = 5052) (h : fm_K a a0 to) (hB : fm_B a0) (h0 : fm_D a0 a0 T) (hD : fm_D a0 a1 T1) (hr : fm_Rs a1 a9 to) : fm_D a0 a9 T := by
  obtain ⟨k1, k2, k3⟩ := h
  obtain ⟨r1, r2, r3⟩ := hr
  have he : ∀ i, a9 1 i = a0 1 i := fun i => by
    rcases Nat.lt_or_ge i 478 with hi | hi
    · rw [r3 i hi, fm_D_hi hD (by omega), k3 i hi, k2 i (by omega)]
    · rw [r2 i hi, fm_D_hi hD hi]
  refine ⟨fun t ht2 => ?_, fun i _ _ => he i, fun i hi => fm_bd_eq (h0.2.2.1 i hi) (he i), by rw [he]; exact h0.2.2.2.1, h0.2.2.2.2.1, fun i hi => by rw [r1 9 (by decide)]; exact hD.2.2.2.2.2 i hi⟩
  rw [r1 t (fun e => by subst e; exact absurd ht2 (by decide))]
  exact hD.1 t ht2
section FTW
variable {g : Nat → Int32} {tp bt : Int64} {a : Nat → Nat → Int32} {b : Nat → Nat → Int64}
theorem fr_tellsByX {n d : Int64} (hd : ¬ d = 0) : ∃ (v : Option Value) (mem' : fx_M), (fun R => ∃ t u : Int64, R = (some (.int 1), fm (upd g 2 0) t u a b)) (v, mem') ∧ fr_T 3 210 [.ref 0, .long n, .long d] (fm g tp bt a b) v mem' := by
  refine fe_meth (F := fun R => ∃ t u : Int64, R = (some (.int 1), fm (upd g 2 0) t u a b)) (M := gk_m210) (by rfl) (by rfl) ?_
  have h0 : (0 : Int64).toInt = 0 := rfl
  have loop : ∀ (r : Nat) (x y : Int64), y.toInt.natAbs < r → (¬ x = 0 ∨ ¬ y = 0) → fe_R 2 gk_m210 6 [(7, .long y), (5, .long x), (0, .ref 0), (1, .long n), (3, .long d)] [] (fm g tp bt a b) (fun R => ∃ t u : Int64, R = (some (.int 1), fm (upd g 2 0) t u a b)) := by
    intro r
    induction r with
    | zero => intro x y h; exact absurd h (Nat.not_lt_zero _)
    | succ r ih =>
      intro x y hr hxy
      refine fe_s 3 (pc' := 10) (lc' := [(7, .long y), (5, .long x), (0, .ref 0), (1, .long n), (3, .long d)]) (stk' := [.int (lg_cmp y 0)]) (mem' := fm g tp bt a b) (fun _ _ _ => rfl) ?_
      refine fe_s 1 (pc' := cond (fx_cb .eq (lg_cmp y 0) 0) 31 13) (lc' := [(7, .long y), (5, .long x), (0, .ref 0), (1, .long n), (3, .long d)]) (stk' := []) (mem' := fm g tp bt a b) (fun _ _ _ => rfl) ?_
      cases h1 : fx_cb .eq (lg_cmp y 0) 0
      · refine fe_s 2 (pc' := 17) (lc' := [(7, .long y), (5, .long x), (0, .ref 0), (1, .long n), (3, .long d)]) (stk' := [.long y, .long x]) (mem' := fm g tp bt a b) (fun _ _ _ => rfl) ?_
        have hy0 := fm_i64 h1
        have hm := fm_lrem_abs (x := x) (y := y) hy0
        refine fe_lrem (by rfl) hy0 ?_
        refine fe_s 6 (pc' := 6) (lc' := [(7, .long (x - x / y * y)), (5, .long y), (9, .long (x - x / y * y)), (0, .ref 0), (1, .long n), (3, .long d)]) (stk' := []) (mem' := fm g tp bt a b) (fun _ _ _ => rfl) ?_
        refine fe_w (lc' := [(7, .long (x - x / y * y)), (5, .long y), (0, .ref 0), (1, .long n), (3, .long d)]) ⟨rfl, rfl, rfl, rfl, rfl, trivial⟩ (by show List.Nodup [7, 5, 0, 1, 3]; decide) (by show List.Nodup [7, 5, 9, 0, 1, 3]; decide) ?_
        exact ih y (x - x / y * y) (by omega) (Or.inl hy0)
      · obtain rfl := fm_i64e h1
        have hx0 : ¬ x = 0 := hxy.elim id (fun z => absurd rfl z)
        refine fe_s 3 (pc' := 35) (lc' := [(7, .long 0), (5, .long x), (0, .ref 0), (1, .long n), (3, .long d)]) (stk' := [.long x, .long n, .ref 0]) (mem' := fm g tp bt a b) (fun _ _ _ => rfl) ?_
        refine fe_ldiv (by rfl) hx0 ?_
        refine fe_s 4 (pc' := 43) (lc' := [(7, .long 0), (5, .long x), (0, .ref 0), (1, .long n), (3, .long d)]) (stk' := [.long x, .long d, .ref 0]) (mem' := fm g (n / x) bt a b) (fun _ _ _ => rfl) ?_
        refine fe_ldiv (by rfl) hx0 ?_
        refine fe_s 3 (pc' := 49) (lc' := [(7, .long 0), (5, .long x), (0, .ref 0), (1, .long n), (3, .long d)]) (stk' := [.int 0, .ref 0]) (mem' := fm g (n / x) (d / x) a b) (fun _ _ _ => rfl) ?_
        refine fe_ivV fr_is0 (by omega) (by rfl) (by rfl) (by rfl) (by rfl) (by rfl) (by rfl) ?_
        exact fe_ret ⟨n / x, d / x, rfl⟩ (by rfl) (by rfl) (by rfl)
  refine fe_s 4 (pc' := 6) (lc' := [(7, .long d), (5, .long n), (0, .ref 0), (1, .long n), (3, .long d)]) (stk' := []) (mem' := fm g tp bt a b) (fun _ _ _ => rfl) ?_
  exact loop (d.toInt.natAbs + 1) n d (by omega) (Or.inr hd)
end FTW
