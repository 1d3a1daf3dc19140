section MH19_0
/-! ===== the text of a lake ===== -/
/-- its cells by name, shore or not; its walkers by name, with their weights; its ways, its cells beside each other -/
abbrev sp_A : Type := (List (List Nat × Bool) × List (List Nat × Nat)) × (Nat → Int32) × (Nat → Int32)
def sp_A0 : sp_A := (([], []), (fun _ => 0), (fun _ => 0))
/-- the place of a name in a list, or its length -/
def sp_iC (l : List (List Nat × Bool)) (L : List Nat) : Nat := l.findIdx (fun c => decide (c.1 = L))
def sp_iW (l : List (List Nat × Nat)) (L : List Nat) : Nat := l.findIdx (fun c => decide (c.1 = L))
def sp_sh (A : sp_A) (c : Nat) : Bool := match A.1.1[c]? with
  | some q => q.2
  | none => false
/-- what a search in a row of numbers gives -/
def sp_is (f : Nat → Int64) (N : Nat) (x : Int64) (v : Int32) : Prop := (v = -1 ∧ ∀ k, k < N → ¬ f k = x) ∨ ∃ k, k < N ∧ v = nI k ∧ f k = x ∧ ∀ j, j < k → ¬ f j = x
/-- names as the class holds them, and as the model does -/
def sp_nC (f : Nat → Int64) (l : List (List Nat)) : Prop := (∀ i L, l[i]? = some L → f i = Int64.ofNat (sp_cd L)) ∧ ∀ L ∈ l, sp_lo L ∧ L.length ≤ 8
def sp_nM (f : Nat → Int64) (l : List (List Nat)) : Prop := (∀ i L, l[i]? = some L → f i = Int64.ofNat (sp_c8 L)) ∧ ∀ L ∈ l, sp_lo L ∧ L.length ≤ 8
theorem sp_c8_63 {L : List Nat} (h : sp_lo L) (h8 : L.length ≤ 8) : sp_c8 L < 2 ^ 63 := by
  revert h h8
  refine sp_rev (Q := fun L => sp_lo L → L.length ≤ 8 → sp_c8 L < 2 ^ 63) (fun _ _ => by decide) (fun L c _ h h8 => ?_) L
  obtain ⟨h1, h2, h3⟩ := sp_lo_app h
  rw [List.length_append, show ([c] : List Nat).length = 1 from rfl] at h8
  by_cases h7 : L.length = 7
  · -- the first letter is at most 122
    have key : ∀ M : List Nat, sp_lo M → M ≠ [] → sp_c8 M < 123 * 256 ^ (M.length - 1) := by
      refine sp_rev (fun _ z => absurd rfl z) (fun M d ih hM _ => ?_)
      obtain ⟨k1, k2, k3⟩ := sp_lo_app hM
      rw [sp_c8_s, List.length_append, show ([d] : List Nat).length = 1 from rfl]
      cases M with
      | nil => show 0 * 256 + d < _; rw [show ([] : List Nat).length + 1 - 1 = 0 from rfl]; omega
      | cons x M =>
        have := ih k1 (fun z => nomatch z)
        rw [show (x :: M).length + 1 - 1 = ((x :: M).length - 1) + 1 from rfl, Nat.pow_succ]
        omega
    have h9 := key L h1 (fun z => by rw [z] at h7; cases h7)
    rw [h7] at h9
    rw [sp_c8_s]
    have e1 : (256 : Nat) ^ (7 - 1) = 281474976710656 := by decide
    have e2 : (2 : Nat) ^ 63 = 9223372036854775808 := by decide
    omega
  · have h9 := sp_c8_lt L h1
    have h4 : (256 : Nat) ^ L.length ≤ 256 ^ 6 := Nat.pow_le_pow_right (by decide) (by omega)
    have e1 : (256 : Nat) ^ 6 = 281474976710656 := by decide
    have e2 : (2 : Nat) ^ 63 = 9223372036854775808 := by decide
    rw [sp_c8_s]
    omega
theorem sp_fx {l : List (List Nat)} {L : List Nat} {f : Nat → Int64} {x : Int64} {v : Int32} (hf : ∀ i M, l[i]? = some M → (f i = x ↔ M = L)) (hv : sp_is f l.length x v) : (l.findIdx (fun c => decide (c = L)) = l.length ∧ v = -1) ∨ (l.findIdx (fun c => decide (c = L)) < l.length ∧ v = nI (l.findIdx (fun c => decide (c = L)))) := by
  rcases hv with ⟨rfl, h⟩ | ⟨k, hk, rfl, h1, h2⟩
  · refine Or.inl ⟨?_, rfl⟩
    rw [List.findIdx_eq_length]
    intro M hM
    obtain ⟨i, hi⟩ := List.getElem?_of_mem hM
    exact decide_eq_false (fun e => h i (List.getElem?_eq_some_iff.mp hi).1 ((hf i M hi).mpr e))
  · have e : l.findIdx (fun c => decide (c = L)) = k := by
      rw [List.findIdx_eq hk]
      refine ⟨decide_eq_true ((hf k _ (List.getElem?_eq_getElem hk)).mp h1), fun j hj => decide_eq_false (fun e => h2 j hj ((hf j _ (List.getElem?_eq_getElem (by omega))).mpr e))⟩
    rw [e]
    exact Or.inr ⟨hk, rfl⟩
theorem sp_fxC {l : List (List Nat)} {L : List Nat} {f : Nat → Int64} {v : Int32} (hf : sp_nC f l) (hL : sp_lo L) (h8 : L.length ≤ 8) (hv : sp_is f l.length (Int64.ofNat (sp_cd L)) v) : (l.findIdx (fun c => decide (c = L)) = l.length ∧ v = -1) ∨ (l.findIdx (fun c => decide (c = L)) < l.length ∧ v = nI (l.findIdx (fun c => decide (c = L)))) := by
  refine sp_fx (fun i M hi => ?_) hv
  rw [hf.1 i M hi]
  obtain ⟨k1, k2⟩ := hf.2 M (List.mem_of_getElem? hi)
  exact ⟨fun e => sp_cdI k1 k2 hL h8 e, fun e => by rw [e]⟩
theorem sp_fxM {l : List (List Nat)} {L : List Nat} {f : Nat → Int64} {v : Int32} (hf : sp_nM f l) (hL : sp_lo L) (h8 : L.length ≤ 8) (hv : sp_is f l.length (Int64.ofNat (sp_c8 L)) v) : (l.findIdx (fun c => decide (c = L)) = l.length ∧ v = -1) ∨ (l.findIdx (fun c => decide (c = L)) < l.length ∧ v = nI (l.findIdx (fun c => decide (c = L)))) := by
  refine sp_fx (fun i M hi => ?_) hv
  rw [hf.1 i M hi]
  obtain ⟨k1, k2⟩ := hf.2 M (List.mem_of_getElem? hi)
  exact ⟨fun e => sp_c8_inj M k1 L hL (sp_i64 (sp_c8_63 k1 k2) (sp_c8_63 hL h8) e), fun e => by rw [e]⟩
theorem sp_iC_map (l : List (List Nat × Bool)) (L : List Nat) : (l.map Prod.fst).findIdx (fun c => decide (c = L)) = sp_iC l L := by
  unfold sp_iC
  rw [List.findIdx_map]
  rfl
theorem sp_iW_map (l : List (List Nat × Nat)) (L : List Nat) : (l.map Prod.fst).findIdx (fun c => decide (c = L)) = sp_iW l L := by
  unfold sp_iW
  rw [List.findIdx_map]
  rfl
/-- a fault and its place, or what was read, what was settled, where the last token ended -/
abbrev sp_R : Type := (Int32 × Nat) ⊕ (sp_A × Nat × Nat)
section SPP
variable (T : Nat → Nat) (n : Nat)
def sp_mis (p : Nat) : sp_R := .inl (sp_m T n p, sp_s T n p)
/-- a word that must stand there -/
def sp_word (w p : Nat) (c : Nat → sp_R) : sp_R := if sp_k T n p = 1 ∧ sp_kw (sp_wd T n p) = w then c (sp_n T n p) else sp_mis T n p
def sp_sign (w p : Nat) (c : Nat → sp_R) : sp_R := if sp_k T n p = 3 ∧ T (sp_s T n p) = w then c (sp_n T n p) else sp_mis T n p
def sp_num (lo hi p : Nat) (c : Nat → sp_R) : sp_R := if sp_k T n p = 2 then (if lo ≤ sp_v T n p ∧ sp_v T n p ≤ hi then c (sp_n T n p) else .inl (4, sp_s T n p)) else sp_mis T n p
/-- a name (not yet passed) -/
def sp_name (p : Nat) (c : sp_R) : sp_R := if sp_k T n p = 1 ∧ sp_n T n p ≤ sp_s T n p + 8 ∧ sp_kw (sp_wd T n p) = 23 then c else sp_mis T n p
/-- a new name -/
def sp_new (A : sp_A) (p : Nat) (c : Nat → sp_R) : sp_R := sp_name T n p (if sp_iC A.1.1 (sp_wd T n p) < A.1.1.length ∨ sp_iW A.1.2 (sp_wd T n p) < A.1.2.length then .inl (3, sp_s T n p) else c (sp_n T n p))
/-- a cell told ahead (not yet passed) -/
def sp_cell (A : sp_A) (p : Nat) (c : Nat → sp_R) : sp_R := sp_name T n p (if sp_iC A.1.1 (sp_wd T n p) < A.1.1.length then c (sp_iC A.1.1 (sp_wd T n p)) else .inl (3, sp_s T n p))
def sp_fin (A : sp_A) (st p : Nat) : sp_R := sp_sign T n 59 p (fun q => .inr (A, st, q))
def sp_addC (A : sp_A) (L : List Nat) (s : Bool) : sp_A := ((A.1.1 ++ [(L, s)], A.1.2), A.2)
def sp_addW (A : sp_A) (L : List Nat) (w : Nat) : sp_A := ((A.1.1, A.1.2 ++ [(L, w)]), A.2)
def sp_pr (f : Nat → Int32) (i j : Nat) : Nat → Int32 := upd (upd f i (f i ||| ((1 : Int32) <<< (nI j &&& 31)))) j ((upd f i (f i ||| ((1 : Int32) <<< (nI j &&& 31)))) j ||| ((1 : Int32) <<< (nI i &&& 31)))
def sp_pCell (A : sp_A) (st p : Nat) (sh : Bool) : sp_R := if 10 ≤ A.1.1.length then .inl (6, sp_s T n p) else sp_new T n A (sp_n T n p) (fun q => if sh = true then sp_fin T n (sp_addC A (sp_wd T n (sp_n T n p)) true) st q else sp_word T n 1 q (fun q2 => sp_num T n 0 200 q2 (fun q3 => sp_fin T n (sp_addC A (sp_wd T n (sp_n T n p)) false) st q3)))
def sp_pPair (A : sp_A) (st p : Nat) (be : Bool) : sp_R := sp_cell T n A (sp_n T n p) (fun i => if be = true ∧ sp_sh A i = true then .inl (5, sp_s T n (sp_n T n p)) else sp_cell T n A (sp_n T n (sp_n T n p)) (fun j => if i = j ∨ be = true ∧ sp_sh A j = true then .inl (5, sp_s T n (sp_n T n (sp_n T n p))) else sp_fin T n (if be = true then (A.1, A.2.1, sp_pr A.2.2 i j) else (A.1, sp_pr A.2.1 i j, A.2.2)) st (sp_n T n (sp_n T n (sp_n T n p)))))
def sp_pWalk (A : sp_A) (st p : Nat) : sp_R := if 8 ≤ A.1.2.length then .inl (6, sp_s T n p) else sp_new T n A (sp_n T n p) (fun q => sp_word T n 6 q (fun q2 => sp_num T n 1 99 q2 (fun q3 => sp_word T n 7 q3 (fun q4 => sp_cell T n A q4 (fun i => if sp_sh A i = true then sp_fin T n (sp_addW A (sp_wd T n (sp_n T n p)) (sp_v T n q2)) st (sp_n T n q4) else .inl (5, sp_s T n q4))))))
def sp_pSet (A : sp_A) (st p k lo : Nat) : sp_R := if st / 2 ^ k % 2 = 1 then .inl (5, sp_s T n p) else sp_num T n lo 20 (sp_n T n p) (fun q => sp_fin T n A (st + 2 ^ k) q)
def sp_pk (A : sp_A) (st p : Nat) (k : Nat) : sp_R := match k with
  | 0 => sp_pCell T n A st p false
  | 2 => sp_pCell T n A st p true
  | 3 => sp_pPair T n A st p false
  | 4 => sp_pPair T n A st p true
  | 5 => sp_pWalk T n A st p
  | 8 => sp_pSet T n A st p 0 0
  | 9 => sp_pSet T n A st p 1 1
  | 10 => sp_pSet T n A st p 2 0
  | _ => sp_mis T n p
def sp_part (A : sp_A) (st p : Nat) : sp_R := if sp_k T n p = 1 then sp_pk T n A st p (sp_kw (sp_wd T n p)) else sp_mis T n p
/-- all parts, at most f -/
def sp_all : Nat → sp_A → Nat → Nat → sp_R
  | 0, A, st, p => .inr (A, st, p)
  | f + 1, A, st, p => if sp_k T n p = 0 then .inr (A, st, p) else match sp_part T n A st p with
    | .inl z => .inl z
    | .inr z => sp_all f z.1 z.2.1 z.2.2
def sp_lake : sp_R := sp_all T n 901 sp_A0 0 0
end SPP
section SPQ
variable {T : Nat → Nat} {n p : Nat}
theorem sp_word_t {w : Nat} {c : Nat → sp_R} (h : sp_k T n p = 1 ∧ sp_kw (sp_wd T n p) = w) : sp_word T n w p c = c (sp_n T n p) := if_pos h
theorem sp_word_f {w : Nat} {c : Nat → sp_R} (h : ¬ (sp_k T n p = 1 ∧ sp_kw (sp_wd T n p) = w)) : sp_word T n w p c = .inl (sp_m T n p, sp_s T n p) := if_neg h
theorem sp_sign_t {w : Nat} {c : Nat → sp_R} (h : sp_k T n p = 3 ∧ T (sp_s T n p) = w) : sp_sign T n w p c = c (sp_n T n p) := if_pos h
theorem sp_sign_f {w : Nat} {c : Nat → sp_R} (h : ¬ (sp_k T n p = 3 ∧ T (sp_s T n p) = w)) : sp_sign T n w p c = .inl (sp_m T n p, sp_s T n p) := if_neg h
theorem sp_num_t {lo hi : Nat} {c : Nat → sp_R} (h : sp_k T n p = 2) (h2 : lo ≤ sp_v T n p ∧ sp_v T n p ≤ hi) : sp_num T n lo hi p c = c (sp_n T n p) := by
  unfold sp_num
  rw [if_pos h, if_pos h2]
theorem sp_num_4 {lo hi : Nat} {c : Nat → sp_R} (h : sp_k T n p = 2) (h2 : ¬ (lo ≤ sp_v T n p ∧ sp_v T n p ≤ hi)) : sp_num T n lo hi p c = .inl (4, sp_s T n p) := by
  unfold sp_num
  rw [if_pos h, if_neg h2]
theorem sp_num_f {lo hi : Nat} {c : Nat → sp_R} (h : ¬ sp_k T n p = 2) : sp_num T n lo hi p c = .inl (sp_m T n p, sp_s T n p) := if_neg h
theorem sp_name_t {c : sp_R} (h : sp_nm T n p) : sp_name T n p c = c := if_pos h
theorem sp_name_f {c : sp_R} (h : ¬ sp_nm T n p) : sp_name T n p c = .inl (sp_m T n p, sp_s T n p) := if_neg h
theorem sp_new_t {A : sp_A} {c : Nat → sp_R} (h : sp_nm T n p) (h2 : ¬ (sp_iC A.1.1 (sp_wd T n p) < A.1.1.length ∨ sp_iW A.1.2 (sp_wd T n p) < A.1.2.length)) : sp_new T n A p c = c (sp_n T n p) := (sp_name_t h).trans (if_neg h2)
theorem sp_new_3 {A : sp_A} {c : Nat → sp_R} (h : sp_nm T n p) (h2 : sp_iC A.1.1 (sp_wd T n p) < A.1.1.length ∨ sp_iW A.1.2 (sp_wd T n p) < A.1.2.length) : sp_new T n A p c = .inl (3, sp_s T n p) := (sp_name_t h).trans (if_pos h2)
theorem sp_new_f {A : sp_A} {c : Nat → sp_R} (h : ¬ sp_nm T n p) : sp_new T n A p c = .inl (sp_m T n p, sp_s T n p) := sp_name_f h
theorem sp_cell_t {A : sp_A} {c : Nat → sp_R} (h : sp_nm T n p) (h2 : sp_iC A.1.1 (sp_wd T n p) < A.1.1.length) : sp_cell T n A p c = c (sp_iC A.1.1 (sp_wd T n p)) := (sp_name_t h).trans (if_pos h2)
theorem sp_cell_3 {A : sp_A} {c : Nat → sp_R} (h : sp_nm T n p) (h2 : ¬ sp_iC A.1.1 (sp_wd T n p) < A.1.1.length) : sp_cell T n A p c = .inl (3, sp_s T n p) := (sp_name_t h).trans (if_neg h2)
theorem sp_cell_f {A : sp_A} {c : Nat → sp_R} (h : ¬ sp_nm T n p) : sp_cell T n A p c = .inl (sp_m T n p, sp_s T n p) := sp_name_f h
theorem sp_nm_lt (hp : p ≤ n) (h : sp_nm T n p) : sp_lo (sp_wd T n p) ∧ (sp_wd T n p).length ≤ 8 := ⟨sp_wd_lo hp h.1, by
  rw [sp_wd_len]
  have := h.2.1
  omega⟩
end SPQ
end MH19_0
section MH19_1
/-! ===== the class's tokens, exactly ===== -/
/-- a byte as the class holds it -/
def sp_x (x : Int32) (c : Nat) : Prop := c < 128 ∧ x = nI c ∨ 128 ≤ c ∧ c ≤ 255 ∧ x < 0
def ct (f : Nat → Int32) (T : Nat → Nat) (n : Nat) : Prop := n ≤ 900 ∧ ∀ k, k < n → sp_x (f k) (T k)
/-- the words that are no names stand there -/
def cr (f : Nat → Int64) : Prop := ∀ (k : Nat) (w : List Nat), sp_KW[k]? = some w → f k = Int64.ofNat (sp_cd w)
section CBN
variable {x y : Int32}
theorem cb_neg_lt (hx : x < 0) (hy : 0 ≤ y) : fx_cb .lt x y = true := decide_eq_true (Int32.lt_of_lt_of_le hx hy)
theorem cb_neg_le (hx : x < 0) (hy : 0 ≤ y) : fx_cb .le x y = true := decide_eq_true (Int32.le_of_lt (Int32.lt_of_lt_of_le hx hy))
theorem cb_neg_ge (hx : x < 0) (hy : 0 ≤ y) : fx_cb .ge x y = false := decide_eq_false (Int32.not_le.mpr (Int32.lt_of_lt_of_le hx hy))
theorem cb_neg_gt (hx : x < 0) (hy : 0 ≤ y) : fx_cb .gt x y = false := decide_eq_false (Int32.not_lt.mpr (Int32.le_of_lt (Int32.lt_of_lt_of_le hx hy)))
theorem cb_neg_n (hx : x < 0) (hy : 0 ≤ y) : ¬ x = y := fun z => by
  subst z
  exact absurd hx (Int32.not_lt.mpr hy)
theorem cb_neg_eq (hx : x < 0) (hy : 0 ≤ y) : fx_cb .eq x y = false := decide_eq_false (cb_neg_n hx hy)
theorem cb_neg_ne (hx : x < 0) (hy : 0 ≤ y) : fx_cb .ne x y = true := by
  show (!decide (x = y)) = true
  rw [decide_eq_false (cb_neg_n hx hy)]
  rfl
end CBN
/-- the reader at the token behind p -/
def ck (g : Nat → Nat → Int32) (l : Nat → Nat → Int64) (T : Nat → Nat) (n p : Nat) : Prop := g 9 3 = nI n ∧ g 9 4 = nI (sp_s T n p) ∧ g 9 5 = nI (sp_n T n p) ∧ g 9 6 = nI (sp_k T n p) ∧ g 9 7 = sp_cw T n p ∧ (sp_k T n p = 1 → l 9 8 = sp_cn T n p) ∧ (sp_k T n p = 2 → g 9 9 = nI (sp_v T n p)) ∧ (sp_k T n p = 3 → g 9 9 = nI (T (sp_s T n p)))
/-- nothing but the reader's token (and fault) changes -/
def cfr (g : Nat → Nat → Int32) (l : Nat → Nat → Int64) (g' : Nat → Nat → Int32) (l' : Nat → Nat → Int64) : Prop := (∀ j, j ≠ 9 → g' j = g j) ∧ (∀ k, k < 4 → g' 9 k = g 9 k) ∧ ∀ j, j ≠ 9 → l' j = l j
/-- and not the fault -/
def cff (g : Nat → Nat → Int32) (l : Nat → Nat → Int64) (g' : Nat → Nat → Int32) (l' : Nat → Nat → Int64) : Prop := cfr g l g' l' ∧ g' 9 10 = g 9 10 ∧ g' 9 11 = g 9 11
section CKF
variable {g g1 g2 : Nat → Nat → Int32} {l l1 l2 : Nat → Nat → Int64}
theorem cfr_rf : cfr g l g l := ⟨fun _ _ => rfl, fun _ _ => rfl, fun _ _ => rfl⟩
theorem cfr_tr (h : cfr g l g1 l1) (h2 : cfr g1 l1 g2 l2) : cfr g l g2 l2 := ⟨fun j hj => (h2.1 j hj).trans (h.1 j hj), fun j hj => (h2.2.1 j hj).trans (h.2.1 j hj), fun j hj => (h2.2.2 j hj).trans (h.2.2 j hj)⟩
theorem cff_rf : cff g l g l := ⟨cfr_rf, rfl, rfl⟩
theorem cff_tr (h : cff g l g1 l1) (h2 : cff g1 l1 g2 l2) : cff g l g2 l2 := ⟨cfr_tr h.1 h2.1, h2.2.1.trans h.2.1, h2.2.2.trans h.2.2⟩
theorem fm_un {j j2 k : Nat} {x : Int32} (h : j2 ≠ j) : (fm_u g j k x) j2 = g j2 := if_neg h
theorem fm_uo {j k k2 : Nat} {x : Int32} (h : k2 ≠ k) : (fm_u g j k x) j k2 = g j k2 := by
  unfold fm_u
  rw [if_pos rfl, pk_un h]
theorem fm_ue {j k : Nat} {x : Int32} : (fm_u g j k x) j k = x := by
  unfold fm_u
  rw [if_pos rfl, pk_us]
theorem cfr_u (h : cfr g l g1 l1) {k : Nat} {x : Int32} (hk : 4 ≤ k) : cfr g l (fm_u g1 9 k x) l1 := ⟨fun j hj => (fm_un hj).trans (h.1 j hj), fun j hj => (fm_uo (by omega)).trans (h.2.1 j hj), h.2.2⟩
theorem cff_u (h : cff g l g1 l1) {k : Nat} {x : Int32} (hk : 4 ≤ k) (hk2 : k ≤ 9) : cff g l (fm_u g1 9 k x) l1 := ⟨cfr_u h.1 hk, (fm_uo (by omega)).trans h.2.1, (fm_uo (by omega)).trans h.2.2⟩
theorem fm_ul_n {l : Nat → Nat → Int64} {j k j2 : Nat} {v : Int64} (h : j2 ≠ j) : (fm_ul l j k v) j2 = l j2 := if_neg h
theorem cff_ul (h : cff g l g1 l1) {k : Nat} {v : Int64} : cff g l g1 (fm_ul l1 9 k v) := ⟨⟨h.1.1, h.1.2.1, fun j hj => (fm_ul_n hj).trans (h.1.2.2 j hj)⟩, h.2⟩
end CKF
theorem sp_nI64 {m : Nat} (h : m < 2147483648) : (nI m).toInt64 = Int64.ofNat m := by
  apply Int64.toInt_inj.mp
  rw [Int32.toInt_toInt64, nI_i32 h, Int64.toInt_ofNat_of_lt (Nat.lt_trans h (by decide))]
theorem sp_cdstep {v c : Nat} (h1 : 97 ≤ c) (h2 : c ≤ 122) : Int64.ofNat v * 32 + (nI c - 97 + 1).toInt64 = Int64.ofNat (v * 32 + (c - 96)) := by
  rw [show (97 : Int32) = nI 97 from rfl, tg_sub2 (x := c) (y := 97) (by omega), show (1 : Int32) = nI 1 from rfl, nI_add, sp_nI64 (by omega), show c - 97 + 1 = c - 96 by omega, Int64.ofNat_add, Int64.ofNat_mul]
  rfl
section CTK
variable {g : Nat → Nat → Int32} {l : Nat → Nat → Int64} {a : Nat → Nat → Int32} {b : Nat → Nat → Int64} {R : fx_M} {T : Nat → Nat} {n p : Nat}
theorem ha_signAt {k : Nat} (h3 : g 9 3 = nI n) (hn : n ≤ 900) (hk : k < 2147483648) : hr_T 1 103 [.ref 9, .int (nI k)] (cm g l a b R) (some (.int (if k < n then a 10 k else -1))) (cm g l a b R) := by
  suffices h : ∃ (v : Option Value) (mem' : fx_M), (fun R1 => R1 = (some (.int (if k < n then a 10 k else -1)), cm g l a b R)) (v, mem') ∧ hr_T 1 103 [.ref 9, .int (nI k)] (cm g l a b R) v mem' by
    obtain ⟨v, mem', h1, h2⟩ := h
    cases h1
    exact h2
  refine he_meth (F := fun R1 => R1 = (some (.int (if k < n then a 10 k else -1)), cm g l a b R)) (M := gk_m103) (by rfl) (by rfl) ?_
  refine he_s 1 (pc' := 1) (lc' := [(0, .ref 9), (1, .int (nI k))]) (stk' := [.int (nI k)]) (mem' := cm g l a b R) (by intro _ _ _; eq_refl) ?_
  refine he_s 1 (pc' := cond (fx_cb .lt (nI k) 0) 28 4) (lc' := [(0, .ref 9), (1, .int (nI k))]) (stk' := []) (mem' := cm g l a b R) (by intro _ _ _; eq_refl) ?_
  rw [show (fx_cb .lt (nI k) 0) = false from cb_ltF (a := k) (b := 0) (by omega) (by omega) (by omega)]
  dsimp only [cond]
  refine he_s 3 (pc' := 9) (lc' := [(0, .ref 9), (1, .int (nI k))]) (stk' := [.int (g 9 3), .int (nI k)]) (mem' := cm g l a b R) (by intro _ _ _; eq_refl) ?_
  try rw [h3]
  refine he_s 1 (pc' := cond (fx_cb .ge (nI k) (nI n)) 28 12) (lc' := [(0, .ref 9), (1, .int (nI k))]) (stk' := []) (mem' := cm g l a b R) (by intro _ _ _; eq_refl) ?_
  by_cases y1 : n ≤ k
  · rw [show (fx_cb .ge (nI k) (nI n)) = true from cb_geT (a := k) (b := n) (by omega) (by omega) (by omega)]
    dsimp only [cond]
    refine he_s 1 (pc' := 29) (lc' := [(0, .ref 9), (1, .int (nI k))]) (stk' := [.int (-1)]) (mem' := cm g l a b R) (by intro _ _ _; eq_refl) ?_
    exact he_ret (by rw [if_neg (by omega)]) (by rfl) (by rfl) (by rfl)
  · rw [show (fx_cb .ge (nI k) (nI n)) = false from cb_geF (a := k) (b := n) (by omega) (by omega) (by omega)]
    dsimp only [cond]
    refine he_s 2 (pc' := 16) (lc' := [(0, .ref 9), (1, .int (nI k))]) (stk' := [.int 900, .int (nI k)]) (mem' := cm g l a b R) (by intro _ _ _; eq_refl) ?_
    refine he_s 1 (pc' := cond (fx_cb .ge (nI k) 900) 28 19) (lc' := [(0, .ref 9), (1, .int (nI k))]) (stk' := []) (mem' := cm g l a b R) (by intro _ _ _; eq_refl) ?_
    by_cases y2 : 900 ≤ k
    · rw [show (fx_cb .ge (nI k) 900) = true from cb_geT (a := k) (b := 900) (by omega) (by omega) (by omega)]
      dsimp only [cond]
      refine he_s 1 (pc' := 29) (lc' := [(0, .ref 9), (1, .int (nI k))]) (stk' := [.int (-1)]) (mem' := cm g l a b R) (by intro _ _ _; eq_refl) ?_
      exact he_ret (by rw [if_neg (by omega)]) (by rfl) (by rfl) (by rfl)
    · rw [show (fx_cb .ge (nI k) 900) = false from cb_geF (a := k) (b := 900) (by omega) (by omega) (by omega)]
      dsimp only [cond]
      refine he_s 3 (pc' := 24) (lc' := [(0, .ref 9), (1, .int (nI k))]) (stk' := [.int (nI k), .ref 10]) (mem' := cm g l a b R) (by intro _ _ _; eq_refl) ?_
      refine he_ldB (by rfl) (by rfl) (fx_inN (i := k) (by omega) (by omega)) ?_
      rw [show Int32.toNatClampNeg (nI k) = k from nI_clamp (by omega)]
      refine he_s 1 (pc' := 29) (lc' := [(0, .ref 9), (1, .int (nI k))]) (stk' := [.int (a 10 k)]) (mem' := cm g l a b R) (by intro _ _ _; eq_refl) ?_
      exact he_ret (by rw [if_pos (by omega)]) (by rfl) (by rfl) (by rfl)
/-- the number told of a word, as far as the words are asked -/
def cw_at (nm : Int64) (f : Nat → Int64) : Nat → Int32
  | 0 => -1
  | k + 1 => if f k = nm then nI k else cw_at nm f k
theorem cw_at_no {nm : Int64} {f : Nat → Int64} : ∀ k, (∀ j, j < k → ¬ f j = nm) → cw_at nm f k = -1 := by
  intro k
  induction k with
  | zero => intro _; rfl
  | succ k ih =>
    intro h
    show (if f k = nm then nI k else cw_at nm f k) = -1
    rw [if_neg (h k (by omega)), ih (fun j hj => h j (by omega))]
theorem cw_at_one {nm : Int64} {f : Nat → Int64} {i : Nat} (hi : f i = nm) : ∀ k, i < k → (∀ j, j < k → j ≠ i → ¬ f j = nm) → cw_at nm f k = nI i := by
  intro k
  induction k with
  | zero => intro h _; omega
  | succ k ih =>
    intro h h2
    show (if f k = nm then nI k else cw_at nm f k) = nI i
    by_cases e : k = i
    · rw [e, if_pos hi]
    · rw [if_neg (h2 k (by omega) e), ih (by omega) (fun j hj hne => h2 j (by omega) hne)]
/-- it is the word's number -/
theorem cw_at_kw {f : Nat → Int64} (hR : cr f) {L : List Nat} (hL : sp_lo L) : cw_at (if L.length ≤ 8 then Int64.ofNat (sp_cd L) else 0) f 23 = if sp_kw L < 23 then nI (sp_kw L) else -1 := by
  have key : ∀ j, j < 23 → f j = (if L.length ≤ 8 then Int64.ofNat (sp_cd L) else 0) → sp_KW[j]? = some L := by
    intro j hj e
    obtain ⟨w, hw⟩ : ∃ w, sp_KW[j]? = some w := ⟨_, List.getElem?_eq_getElem (show j < sp_KW.length from hj)⟩
    obtain ⟨w1, w2, w3⟩ := sp_KW_lo w (List.mem_of_getElem? hw)
    rw [hR j w hw] at e
    by_cases h8 : L.length ≤ 8
    · rw [if_pos h8] at e
      rw [hw, sp_cdI w1 w2 hL h8 e]
    · rw [if_neg h8] at e
      have := sp_i64 (sp_cd_63 w1 w2) (by decide) (show Int64.ofNat (sp_cd w) = Int64.ofNat 0 from e)
      omega
  by_cases h : sp_kw L < 23
  · rw [if_pos h]
    have hg := sp_kw_get h
    have h8 := (sp_KW_lo L (List.mem_of_getElem? hg)).2.1
    refine cw_at_one ?_ 23 h (fun j hj hne e => hne (sp_kw_of (key j hj e)).symm)
    rw [hR _ _ hg, if_pos h8]
  · rw [if_neg h]
    exact cw_at_no 23 (fun j hj e => h (by rw [sp_kw_of (key j hj e)]; exact hj))
theorem lg_cmp0' {x y : Int64} (h : fx_cb .ne (lg_cmp x y) 0 = false) : x = y := lg_cmp0 h
theorem ha_words {s : Nat} {nm c0 : Int64} (hn : n ≤ 900) {g2 : Nat → Nat → Int32} {l2 : Nat → Nat → Int64} (h8 : l2 9 8 = nm) : ∀ (r k : Nat), k + r = 23 → ∀ (g3 : Nat → Nat → Int32), cff g2 l2 g3 l2 → (∀ j, j ≠ 7 → g3 9 j = g2 9 j) → g3 9 7 = cw_at nm (b 11) k → he_R 1 gk_m105 103 [(3, .int (nI k)), (0, .ref 9), (1, .long c0)] [] (cm g3 l2 a b R) (fun R1 => ∃ g4 : Nat → Nat → Int32, cff g2 l2 g4 l2 ∧ (∀ j, j ≠ 7 → g4 9 j = g2 9 j) ∧ g4 9 7 = cw_at nm (b 11) 23 ∧ R1 = (none, cm g4 l2 a b R)) := by
  intro r
  induction r with
  | zero =>
    intro k hk g3 hf hj h7
    obtain rfl : k = 23 := by omega
    refine he_s 3 (pc' := cond (fx_cb .ge (nI 23) 23) 134 109) (lc' := [(3, .int (nI 23)), (0, .ref 9), (1, .long c0)]) (stk' := []) (mem' := cm g3 l2 a b R) (by intro _ _ _; eq_refl) ?_
    rw [show (fx_cb .ge (nI 23) 23) = true from by decide]
    exact he_ret ⟨g3, hf, hj, h7, rfl⟩ (by rfl) (by rfl) (by rfl)
  | succ r ih =>
    intro k hk g3 hf hj h7
    refine he_s 3 (pc' := cond (fx_cb .ge (nI k) 23) 134 109) (lc' := [(3, .int (nI k)), (0, .ref 9), (1, .long c0)]) (stk' := []) (mem' := cm g3 l2 a b R) (by intro _ _ _; eq_refl) ?_
    rw [show (fx_cb .ge (nI k) 23) = false from cb_geF (a := k) (b := 23) (by omega) (by omega) (by omega)]
    dsimp only [cond]
    refine he_s 3 (pc' := 114) (lc' := [(3, .int (nI k)), (0, .ref 9), (1, .long c0)]) (stk' := [.int (nI k), .ref 11]) (mem' := cm g3 l2 a b R) (by intro _ _ _; eq_refl) ?_
    refine he_ldL (by rfl) (by rfl) (fx_inN (i := k) (by omega) (by omega)) ?_
    rw [nI_clamp (by omega)]
    refine he_s 3 (pc' := 120) (lc' := [(3, .int (nI k)), (0, .ref 9), (1, .long c0)]) (stk' := [.int (lg_cmp (b 11 k) (l2 9 8))]) (mem' := cm g3 l2 a b R) (by intro _ _ _; eq_refl) ?_
    rw [h8]
    refine he_s 1 (pc' := cond (fx_cb .ne (lg_cmp (b 11 k) nm) 0) 128 123) (lc' := [(3, .int (nI k)), (0, .ref 9), (1, .long c0)]) (stk' := []) (mem' := cm g3 l2 a b R) (by intro _ _ _; eq_refl) ?_
    cases h : fx_cb .ne (lg_cmp (b 11 k) nm) 0
    · dsimp only [cond]
      refine he_s 5 (pc' := 103) (lc' := [(3, .int (nI k + 1)), (0, .ref 9), (1, .long c0)]) (stk' := []) (mem' := cm (fm_u g3 9 7 (nI k)) l2 a b R) (by intro _ _ _; eq_refl) ?_
      rw [show nI k + 1 = nI (k + 1) from nI_add k 1]
      refine ih (k + 1) (by omega) _ (cff_u hf (by decide) (by decide)) (fun j hj7 => (fm_uo hj7).trans (hj j hj7)) ?_
      rw [fm_ue]
      show _ = (if b 11 k = nm then nI k else cw_at nm (b 11) k)
      rw [if_pos (lg_cmp0 h)]
    · dsimp only [cond]
      refine he_s 2 (pc' := 103) (lc' := [(3, .int (nI k + 1)), (0, .ref 9), (1, .long c0)]) (stk' := []) (mem' := cm g3 l2 a b R) (by intro _ _ _; eq_refl) ?_
      rw [show nI k + 1 = nI (k + 1) from nI_add k 1]
      refine ih (k + 1) (by omega) g3 hf hj ?_
      rw [h7]
      show _ = (if b 11 k = nm then nI k else cw_at nm (b 11) k)
      rw [if_neg (lg_cmp1 h)]
theorem he_imp {k pc : Nat} {M : rk_M2} {lc : fx_L} {stk : List Value} {mem : fx_M} {F F' : Option Value × fx_M → Prop} (h : he_R k M pc lc stk mem F) (hi : ∀ R, F R → F' R) : he_R k M pc lc stk mem F' := by
  obtain ⟨R, h1, h2⟩ := h
  exact ⟨R, hi R h1, h2⟩
theorem fm_ul_e {l : Nat → Nat → Int64} {j k : Nat} {v : Int64} : (fm_ul l j k v) j k = v := by
  unfold fm_ul vp_updL
  rw [if_pos rfl, if_pos rfl]
theorem ha_word {s e : Nat} (hn : n ≤ 900) (hT : ct (a 10) T n) (hR : cr (b 11)) (hes : sp_e sp_sm T n s = e) : ∀ (r i : Nat), n - (s + i) = r → s + i ≤ n → ∀ (g2 : Nat → Nat → Int32), cff g l g2 l → g2 9 3 = nI n → g2 9 4 = nI s → g2 9 5 = nI (s + i) → g2 9 7 = -1 → (∀ j, s ≤ j → j < s + i → sp_sm (T j) = true) → sp_e sp_sm T n (s + i) = e → he_R 1 gk_m105 2 [(1, .long (Int64.ofNat (sp_cd (sp_L T s i)))), (0, .ref 9)] [] (cm g2 l a b R) (fun R1 => ∃ (g' : Nat → Nat → Int32) (l' : Nat → Nat → Int64), cff g l g' l' ∧ g' 9 4 = nI s ∧ g' 9 5 = nI (sp_e sp_sm T n s) ∧ g' 9 6 = 1 ∧ g' 9 7 = (if sp_kw (sp_L T s (sp_e sp_sm T n s - s)) < 23 then nI (sp_kw (sp_L T s (sp_e sp_sm T n s - s))) else -1) ∧ l' 9 8 = (if sp_e sp_sm T n s ≤ s + 8 then Int64.ofNat (sp_cd (sp_L T s (sp_e sp_sm T n s - s))) else 0) ∧ R1 = (none, cm g' l' a b R)) := by
  intro r
  induction r with
  | zero =>
    intro i hr hi g2 hf h3 h4 h5 h7 hall he
    refine he_s 4 (pc' := 10) (lc' := [(1, .long (Int64.ofNat (sp_cd (sp_L T s i)))), (0, .ref 9)]) (stk' := [.int (g2 9 3), .int (g2 9 5)]) (mem' := cm g2 l a b R) (by intro _ _ _; eq_refl) ?_
    try rw [h5]
    try rw [h3]
    refine he_s 1 (pc' := cond (fx_cb .ge (nI (s + i)) (nI n)) 73 13) (lc' := [(1, .long (Int64.ofNat (sp_cd (sp_L T s i)))), (0, .ref 9)]) (stk' := []) (mem' := cm g2 l a b R) (by intro _ _ _; eq_refl) ?_
    rw [show (fx_cb .ge (nI (s + i)) (nI n)) = true from cb_geT (a := s + i) (b := n) (by omega) (by omega) (by omega)]
    dsimp only [cond]
    refine he_s 10 (pc' := 90) (lc' := [(1, .long (Int64.ofNat (sp_cd (sp_L T s i)))), (0, .ref 9)]) (stk' := [.int 8, .int ((g2 9 5) - (g2 9 4)), .ref 9]) (mem' := cm (fm_u g2 9 6 1) l a b R) (by intro _ _ _; eq_refl) ?_
    try rw [h5]
    try rw [h4]
    rw [show ((nI (s + i)) - (nI s) : Int32) = nI ((s + i) - s) from by simp only [tg_sub2 (x := s + i) (y := s) (by omega), nI_add, fm_mul]]
    refine he_s 1 (pc' := cond (fx_cb .le (nI ((s + i) - s)) 8) 97 93) (lc' := [(1, .long (Int64.ofNat (sp_cd (sp_L T s i)))), (0, .ref 9)]) (stk' := [.ref 9]) (mem' := cm (fm_u g2 9 6 1) l a b R) (by intro _ _ _; eq_refl) ?_
    by_cases y1 : ((s + i) - s) ≤ 8
    · rw [show (fx_cb .le (nI ((s + i) - s)) 8) = true from cb_leT (a := (s + i) - s) (b := 8) (by omega) (by omega) (by omega)]
      dsimp only [cond]
      refine he_s 4 (pc' := 103) (lc' := [(3, .int 0), (1, .long (Int64.ofNat (sp_cd (sp_L T s i)))), (0, .ref 9)]) (stk' := []) (mem' := cm (fm_u g2 9 6 1) (fm_ul l 9 8 (Int64.ofNat (sp_cd (sp_L T s i)))) a b R) (by intro _ _ _; eq_refl) ?_
      have hno : ¬ (s + i < n ∧ sp_sm (T (s + i)) = true) := fun z => by have z2 := sp_sm_i.mp z.2; omega
      obtain rfl : e = s + i := by rw [← he]; exact sp_e_f hno
      have hL : sp_lo (sp_L T s i) := fun c hc => by
        obtain ⟨j, j1, rfl⟩ := sp_L_mem hc
        exact sp_sm_i.mp (hall _ (by omega) (by omega))
      refine he_w (lc' := [(3, .int (nI 0)), (0, .ref 9), (1, .long (Int64.ofNat (sp_cd (sp_L T s i))))]) ⟨rfl, rfl, rfl, trivial⟩ (by show List.Nodup [3, 0, 1]; decide) (by show List.Nodup [3, 1, 0]; decide) ?_
      refine he_imp (ha_words (l2 := (fm_ul l 9 8 (Int64.ofNat (sp_cd (sp_L T s i))))) (s := 0) (nm := Int64.ofNat (sp_cd (sp_L T s i))) hn fm_ul_e 23 0 rfl (fm_u g2 9 6 1) cff_rf (fun _ _ => rfl) h7) ?_
      rintro _ ⟨g4, k1, k2, k3, rfl⟩
      have e2 : sp_e sp_sm T n s - s = i := by omega
      refine ⟨g4, _, cff_tr (cff_ul (cff_u hf (by decide) (by decide))) k1, (k2 4 (by decide)).trans h4, (k2 5 (by decide)).trans (h5.trans (by rw [hes])), (k2 6 (by decide)).trans fm_ue, ?_, ?_, rfl⟩
      · rw [k3, e2, ← cw_at_kw hR hL, sp_L_len]
        rw [if_pos (by omega)]
      · rw [fm_ul_e, e2]
        rw [if_pos (by omega)]
    · rw [show (fx_cb .le (nI ((s + i) - s)) 8) = false from cb_leF (a := (s + i) - s) (b := 8) (by omega) (by omega) (by omega)]
      dsimp only [cond]
      refine he_s 5 (pc' := 103) (lc' := [(3, .int 0), (1, .long (Int64.ofNat (sp_cd (sp_L T s i)))), (0, .ref 9)]) (stk' := []) (mem' := cm (fm_u g2 9 6 1) (fm_ul l 9 8 0) a b R) (by intro _ _ _; eq_refl) ?_
      have hno : ¬ (s + i < n ∧ sp_sm (T (s + i)) = true) := fun z => by have z2 := sp_sm_i.mp z.2; omega
      obtain rfl : e = s + i := by rw [← he]; exact sp_e_f hno
      have hL : sp_lo (sp_L T s i) := fun c hc => by
        obtain ⟨j, j1, rfl⟩ := sp_L_mem hc
        exact sp_sm_i.mp (hall _ (by omega) (by omega))
      refine he_w (lc' := [(3, .int (nI 0)), (0, .ref 9), (1, .long (Int64.ofNat (sp_cd (sp_L T s i))))]) ⟨rfl, rfl, rfl, trivial⟩ (by show List.Nodup [3, 0, 1]; decide) (by show List.Nodup [3, 1, 0]; decide) ?_
      refine he_imp (ha_words (l2 := (fm_ul l 9 8 0)) (s := 0) (nm := 0) hn fm_ul_e 23 0 rfl (fm_u g2 9 6 1) cff_rf (fun _ _ => rfl) h7) ?_
      rintro _ ⟨g4, k1, k2, k3, rfl⟩
      have e2 : sp_e sp_sm T n s - s = i := by omega
      refine ⟨g4, _, cff_tr (cff_ul (cff_u hf (by decide) (by decide))) k1, (k2 4 (by decide)).trans h4, (k2 5 (by decide)).trans (h5.trans (by rw [hes])), (k2 6 (by decide)).trans fm_ue, ?_, ?_, rfl⟩
      · rw [k3, e2, ← cw_at_kw hR hL, sp_L_len]
        rw [if_neg (by omega)]
      · rw [fm_ul_e, e2]
        rw [if_neg (by omega)]
  | succ r ih =>
    intro i hr hi g2 hf h3 h4 h5 h7 hall he
    refine he_s 4 (pc' := 10) (lc' := [(1, .long (Int64.ofNat (sp_cd (sp_L T s i)))), (0, .ref 9)]) (stk' := [.int (g2 9 3), .int (g2 9 5)]) (mem' := cm g2 l a b R) (by intro _ _ _; eq_refl) ?_
    try rw [h5]
    try rw [h3]
    refine he_s 1 (pc' := cond (fx_cb .ge (nI (s + i)) (nI n)) 73 13) (lc' := [(1, .long (Int64.ofNat (sp_cd (sp_L T s i)))), (0, .ref 9)]) (stk' := []) (mem' := cm g2 l a b R) (by intro _ _ _; eq_refl) ?_
    by_cases y2 : n ≤ (s + i)
    · rw [show (fx_cb .ge (nI (s + i)) (nI n)) = true from cb_geT (a := s + i) (b := n) (by omega) (by omega) (by omega)]
      dsimp only [cond]
      refine he_s 10 (pc' := 90) (lc' := [(1, .long (Int64.ofNat (sp_cd (sp_L T s i)))), (0, .ref 9)]) (stk' := [.int 8, .int ((g2 9 5) - (g2 9 4)), .ref 9]) (mem' := cm (fm_u g2 9 6 1) l a b R) (by intro _ _ _; eq_refl) ?_
      try rw [h5]
      try rw [h4]
      rw [show ((nI (s + i)) - (nI s) : Int32) = nI ((s + i) - s) from by simp only [tg_sub2 (x := s + i) (y := s) (by omega), nI_add, fm_mul]]
      refine he_s 1 (pc' := cond (fx_cb .le (nI ((s + i) - s)) 8) 97 93) (lc' := [(1, .long (Int64.ofNat (sp_cd (sp_L T s i)))), (0, .ref 9)]) (stk' := [.ref 9]) (mem' := cm (fm_u g2 9 6 1) l a b R) (by intro _ _ _; eq_refl) ?_
      by_cases y3 : ((s + i) - s) ≤ 8
      · rw [show (fx_cb .le (nI ((s + i) - s)) 8) = true from cb_leT (a := (s + i) - s) (b := 8) (by omega) (by omega) (by omega)]
        dsimp only [cond]
        refine he_s 4 (pc' := 103) (lc' := [(3, .int 0), (1, .long (Int64.ofNat (sp_cd (sp_L T s i)))), (0, .ref 9)]) (stk' := []) (mem' := cm (fm_u g2 9 6 1) (fm_ul l 9 8 (Int64.ofNat (sp_cd (sp_L T s i)))) a b R) (by intro _ _ _; eq_refl) ?_
        have hno : ¬ (s + i < n ∧ sp_sm (T (s + i)) = true) := fun z => by have z2 := sp_sm_i.mp z.2; omega
        obtain rfl : e = s + i := by rw [← he]; exact sp_e_f hno
        have hL : sp_lo (sp_L T s i) := fun c hc => by
          obtain ⟨j, j1, rfl⟩ := sp_L_mem hc
          exact sp_sm_i.mp (hall _ (by omega) (by omega))
        refine he_w (lc' := [(3, .int (nI 0)), (0, .ref 9), (1, .long (Int64.ofNat (sp_cd (sp_L T s i))))]) ⟨rfl, rfl, rfl, trivial⟩ (by show List.Nodup [3, 0, 1]; decide) (by show List.Nodup [3, 1, 0]; decide) ?_
        refine he_imp (ha_words (l2 := (fm_ul l 9 8 (Int64.ofNat (sp_cd (sp_L T s i))))) (s := 0) (nm := Int64.ofNat (sp_cd (sp_L T s i))) hn fm_ul_e 23 0 rfl (fm_u g2 9 6 1) cff_rf (fun _ _ => rfl) h7) ?_
        rintro _ ⟨g4, k1, k2, k3, rfl⟩
        have e2 : sp_e sp_sm T n s - s = i := by omega
        refine ⟨g4, _, cff_tr (cff_ul (cff_u hf (by decide) (by decide))) k1, (k2 4 (by decide)).trans h4, (k2 5 (by decide)).trans (h5.trans (by rw [hes])), (k2 6 (by decide)).trans fm_ue, ?_, ?_, rfl⟩
        · rw [k3, e2, ← cw_at_kw hR hL, sp_L_len]
          rw [if_pos (by omega)]
        · rw [fm_ul_e, e2]
          rw [if_pos (by omega)]
      · rw [show (fx_cb .le (nI ((s + i) - s)) 8) = false from cb_leF (a := (s + i) - s) (b := 8) (by omega) (by omega) (by omega)]
        dsimp only [cond]
        refine he_s 5 (pc' := 103) (lc' := [(3, .int 0), (1, .long (Int64.ofNat (sp_cd (sp_L T s i)))), (0, .ref 9)]) (stk' := []) (mem' := cm (fm_u g2 9 6 1) (fm_ul l 9 8 0) a b R) (by intro _ _ _; eq_refl) ?_
        have hno : ¬ (s + i < n ∧ sp_sm (T (s + i)) = true) := fun z => by have z2 := sp_sm_i.mp z.2; omega
        obtain rfl : e = s + i := by rw [← he]; exact sp_e_f hno
        have hL : sp_lo (sp_L T s i) := fun c hc => by
          obtain ⟨j, j1, rfl⟩ := sp_L_mem hc
          exact sp_sm_i.mp (hall _ (by omega) (by omega))
        refine he_w (lc' := [(3, .int (nI 0)), (0, .ref 9), (1, .long (Int64.ofNat (sp_cd (sp_L T s i))))]) ⟨rfl, rfl, rfl, trivial⟩ (by show List.Nodup [3, 0, 1]; decide) (by show List.Nodup [3, 1, 0]; decide) ?_
        refine he_imp (ha_words (l2 := (fm_ul l 9 8 0)) (s := 0) (nm := 0) hn fm_ul_e 23 0 rfl (fm_u g2 9 6 1) cff_rf (fun _ _ => rfl) h7) ?_
        rintro _ ⟨g4, k1, k2, k3, rfl⟩
        have e2 : sp_e sp_sm T n s - s = i := by omega
        refine ⟨g4, _, cff_tr (cff_ul (cff_u hf (by decide) (by decide))) k1, (k2 4 (by decide)).trans h4, (k2 5 (by decide)).trans (h5.trans (by rw [hes])), (k2 6 (by decide)).trans fm_ue, ?_, ?_, rfl⟩
        · rw [k3, e2, ← cw_at_kw hR hL, sp_L_len]
          rw [if_neg (by omega)]
        · rw [fm_ul_e, e2]
          rw [if_neg (by omega)]
    · rw [show (fx_cb .ge (nI (s + i)) (nI n)) = false from cb_geF (a := s + i) (b := n) (by omega) (by omega) (by omega)]
      dsimp only [cond]
      refine he_s 3 (pc' := 18) (lc' := [(1, .long (Int64.ofNat (sp_cd (sp_L T s i)))), (0, .ref 9)]) (stk' := [.int (g2 9 5), .ref 9]) (mem' := cm g2 l a b R) (by intro _ _ _; eq_refl) ?_
      try rw [h5]
      refine he_ivV (ha_signAt (k := s + i) (show g2 9 3 = nI n from h3) hn (by omega)) (by omega) (by rfl) (by rfl) (by rfl) (by rfl) (by rfl) (by rfl) ?_
      rw [if_pos (show s + i < n from (by omega))]
      rcases hT.2 (s + i) (by omega) with ⟨uc4, ec4⟩ | ⟨uc4, wc4, ec4⟩
      · rw [ec4]
        refine he_s 1 (pc' := 23) (lc' := [(1, .long (Int64.ofNat (sp_cd (sp_L T s i)))), (0, .ref 9)]) (stk' := [.int 97, .int (nI (T (s + i)))]) (mem' := cm g2 l a b R) (by intro _ _ _; eq_refl) ?_
        refine he_s 1 (pc' := cond (fx_cb .lt (nI (T (s + i))) 97) 73 26) (lc' := [(1, .long (Int64.ofNat (sp_cd (sp_L T s i)))), (0, .ref 9)]) (stk' := []) (mem' := cm g2 l a b R) (by intro _ _ _; eq_refl) ?_
        by_cases y5 : (T (s + i)) < 97
        · rw [show (fx_cb .lt (nI (T (s + i))) 97) = true from cb_ltT (a := (T (s + i))) (b := 97) (by omega) (by omega) (by omega)]
          dsimp only [cond]
          refine he_s 10 (pc' := 90) (lc' := [(1, .long (Int64.ofNat (sp_cd (sp_L T s i)))), (0, .ref 9)]) (stk' := [.int 8, .int ((g2 9 5) - (g2 9 4)), .ref 9]) (mem' := cm (fm_u g2 9 6 1) l a b R) (by intro _ _ _; eq_refl) ?_
          try rw [h5]
          try rw [h4]
          rw [show ((nI (s + i)) - (nI s) : Int32) = nI ((s + i) - s) from by simp only [tg_sub2 (x := s + i) (y := s) (by omega), nI_add, fm_mul]]
          refine he_s 1 (pc' := cond (fx_cb .le (nI ((s + i) - s)) 8) 97 93) (lc' := [(1, .long (Int64.ofNat (sp_cd (sp_L T s i)))), (0, .ref 9)]) (stk' := [.ref 9]) (mem' := cm (fm_u g2 9 6 1) l a b R) (by intro _ _ _; eq_refl) ?_
          by_cases y6 : ((s + i) - s) ≤ 8
          · rw [show (fx_cb .le (nI ((s + i) - s)) 8) = true from cb_leT (a := (s + i) - s) (b := 8) (by omega) (by omega) (by omega)]
            dsimp only [cond]
            refine he_s 4 (pc' := 103) (lc' := [(3, .int 0), (1, .long (Int64.ofNat (sp_cd (sp_L T s i)))), (0, .ref 9)]) (stk' := []) (mem' := cm (fm_u g2 9 6 1) (fm_ul l 9 8 (Int64.ofNat (sp_cd (sp_L T s i)))) a b R) (by intro _ _ _; eq_refl) ?_
            have hno : ¬ (s + i < n ∧ sp_sm (T (s + i)) = true) := fun z => by have z2 := sp_sm_i.mp z.2; omega
            obtain rfl : e = s + i := by rw [← he]; exact sp_e_f hno
            have hL : sp_lo (sp_L T s i) := fun c hc => by
              obtain ⟨j, j1, rfl⟩ := sp_L_mem hc
              exact sp_sm_i.mp (hall _ (by omega) (by omega))
            refine he_w (lc' := [(3, .int (nI 0)), (0, .ref 9), (1, .long (Int64.ofNat (sp_cd (sp_L T s i))))]) ⟨rfl, rfl, rfl, trivial⟩ (by show List.Nodup [3, 0, 1]; decide) (by show List.Nodup [3, 1, 0]; decide) ?_
            refine he_imp (ha_words (l2 := (fm_ul l 9 8 (Int64.ofNat (sp_cd (sp_L T s i))))) (s := 0) (nm := Int64.ofNat (sp_cd (sp_L T s i))) hn fm_ul_e 23 0 rfl (fm_u g2 9 6 1) cff_rf (fun _ _ => rfl) h7) ?_
            rintro _ ⟨g4, k1, k2, k3, rfl⟩
            have e2 : sp_e sp_sm T n s - s = i := by omega
            refine ⟨g4, _, cff_tr (cff_ul (cff_u hf (by decide) (by decide))) k1, (k2 4 (by decide)).trans h4, (k2 5 (by decide)).trans (h5.trans (by rw [hes])), (k2 6 (by decide)).trans fm_ue, ?_, ?_, rfl⟩
            · rw [k3, e2, ← cw_at_kw hR hL, sp_L_len]
              rw [if_pos (by omega)]
            · rw [fm_ul_e, e2]
              rw [if_pos (by omega)]
          · rw [show (fx_cb .le (nI ((s + i) - s)) 8) = false from cb_leF (a := (s + i) - s) (b := 8) (by omega) (by omega) (by omega)]
            dsimp only [cond]
            refine he_s 5 (pc' := 103) (lc' := [(3, .int 0), (1, .long (Int64.ofNat (sp_cd (sp_L T s i)))), (0, .ref 9)]) (stk' := []) (mem' := cm (fm_u g2 9 6 1) (fm_ul l 9 8 0) a b R) (by intro _ _ _; eq_refl) ?_
            have hno : ¬ (s + i < n ∧ sp_sm (T (s + i)) = true) := fun z => by have z2 := sp_sm_i.mp z.2; omega
            obtain rfl : e = s + i := by rw [← he]; exact sp_e_f hno
            have hL : sp_lo (sp_L T s i) := fun c hc => by
              obtain ⟨j, j1, rfl⟩ := sp_L_mem hc
              exact sp_sm_i.mp (hall _ (by omega) (by omega))
            refine he_w (lc' := [(3, .int (nI 0)), (0, .ref 9), (1, .long (Int64.ofNat (sp_cd (sp_L T s i))))]) ⟨rfl, rfl, rfl, trivial⟩ (by show List.Nodup [3, 0, 1]; decide) (by show List.Nodup [3, 1, 0]; decide) ?_
            refine he_imp (ha_words (l2 := (fm_ul l 9 8 0)) (s := 0) (nm := 0) hn fm_ul_e 23 0 rfl (fm_u g2 9 6 1) cff_rf (fun _ _ => rfl) h7) ?_
            rintro _ ⟨g4, k1, k2, k3, rfl⟩
            have e2 : sp_e sp_sm T n s - s = i := by omega
            refine ⟨g4, _, cff_tr (cff_ul (cff_u hf (by decide) (by decide))) k1, (k2 4 (by decide)).trans h4, (k2 5 (by decide)).trans (h5.trans (by rw [hes])), (k2 6 (by decide)).trans fm_ue, ?_, ?_, rfl⟩
            · rw [k3, e2, ← cw_at_kw hR hL, sp_L_len]
              rw [if_neg (by omega)]
            · rw [fm_ul_e, e2]
              rw [if_neg (by omega)]
        · rw [show (fx_cb .lt (nI (T (s + i))) 97) = false from cb_ltF (a := (T (s + i))) (b := 97) (by omega) (by omega) (by omega)]
          dsimp only [cond]
          refine he_s 3 (pc' := 31) (lc' := [(1, .long (Int64.ofNat (sp_cd (sp_L T s i)))), (0, .ref 9)]) (stk' := [.int (g2 9 5), .ref 9]) (mem' := cm g2 l a b R) (by intro _ _ _; eq_refl) ?_
          try rw [h5]
          refine he_ivV (ha_signAt (k := s + i) (show g2 9 3 = nI n from h3) hn (by omega)) (by omega) (by rfl) (by rfl) (by rfl) (by rfl) (by rfl) (by rfl) ?_
          rw [if_pos (show s + i < n from (by omega)), ec4]
          refine he_s 1 (pc' := 36) (lc' := [(1, .long (Int64.ofNat (sp_cd (sp_L T s i)))), (0, .ref 9)]) (stk' := [.int 122, .int (nI (T (s + i)))]) (mem' := cm g2 l a b R) (by intro _ _ _; eq_refl) ?_
          refine he_s 1 (pc' := cond (fx_cb .gt (nI (T (s + i))) 122) 73 39) (lc' := [(1, .long (Int64.ofNat (sp_cd (sp_L T s i)))), (0, .ref 9)]) (stk' := []) (mem' := cm g2 l a b R) (by intro _ _ _; eq_refl) ?_
          by_cases y8 : 122 < (T (s + i))
          · rw [show (fx_cb .gt (nI (T (s + i))) 122) = true from cb_gtT (a := (T (s + i))) (b := 122) (by omega) (by omega) (by omega)]
            dsimp only [cond]
            refine he_s 10 (pc' := 90) (lc' := [(1, .long (Int64.ofNat (sp_cd (sp_L T s i)))), (0, .ref 9)]) (stk' := [.int 8, .int ((g2 9 5) - (g2 9 4)), .ref 9]) (mem' := cm (fm_u g2 9 6 1) l a b R) (by intro _ _ _; eq_refl) ?_
            try rw [h5]
            try rw [h4]
            rw [show ((nI (s + i)) - (nI s) : Int32) = nI ((s + i) - s) from by simp only [tg_sub2 (x := s + i) (y := s) (by omega), nI_add, fm_mul]]
            refine he_s 1 (pc' := cond (fx_cb .le (nI ((s + i) - s)) 8) 97 93) (lc' := [(1, .long (Int64.ofNat (sp_cd (sp_L T s i)))), (0, .ref 9)]) (stk' := [.ref 9]) (mem' := cm (fm_u g2 9 6 1) l a b R) (by intro _ _ _; eq_refl) ?_
            by_cases y9 : ((s + i) - s) ≤ 8
            · rw [show (fx_cb .le (nI ((s + i) - s)) 8) = true from cb_leT (a := (s + i) - s) (b := 8) (by omega) (by omega) (by omega)]
              dsimp only [cond]
              refine he_s 4 (pc' := 103) (lc' := [(3, .int 0), (1, .long (Int64.ofNat (sp_cd (sp_L T s i)))), (0, .ref 9)]) (stk' := []) (mem' := cm (fm_u g2 9 6 1) (fm_ul l 9 8 (Int64.ofNat (sp_cd (sp_L T s i)))) a b R) (by intro _ _ _; eq_refl) ?_
              have hno : ¬ (s + i < n ∧ sp_sm (T (s + i)) = true) := fun z => by have z2 := sp_sm_i.mp z.2; omega
              obtain rfl : e = s + i := by rw [← he]; exact sp_e_f hno
              have hL : sp_lo (sp_L T s i) := fun c hc => by
                obtain ⟨j, j1, rfl⟩ := sp_L_mem hc
                exact sp_sm_i.mp (hall _ (by omega) (by omega))
              refine he_w (lc' := [(3, .int (nI 0)), (0, .ref 9), (1, .long (Int64.ofNat (sp_cd (sp_L T s i))))]) ⟨rfl, rfl, rfl, trivial⟩ (by show List.Nodup [3, 0, 1]; decide) (by show List.Nodup [3, 1, 0]; decide) ?_
              refine he_imp (ha_words (l2 := (fm_ul l 9 8 (Int64.ofNat (sp_cd (sp_L T s i))))) (s := 0) (nm := Int64.ofNat (sp_cd (sp_L T s i))) hn fm_ul_e 23 0 rfl (fm_u g2 9 6 1) cff_rf (fun _ _ => rfl) h7) ?_
              rintro _ ⟨g4, k1, k2, k3, rfl⟩
              have e2 : sp_e sp_sm T n s - s = i := by omega
              refine ⟨g4, _, cff_tr (cff_ul (cff_u hf (by decide) (by decide))) k1, (k2 4 (by decide)).trans h4, (k2 5 (by decide)).trans (h5.trans (by rw [hes])), (k2 6 (by decide)).trans fm_ue, ?_, ?_, rfl⟩
              · rw [k3, e2, ← cw_at_kw hR hL, sp_L_len]
                rw [if_pos (by omega)]
              · rw [fm_ul_e, e2]
                rw [if_pos (by omega)]
            · rw [show (fx_cb .le (nI ((s + i) - s)) 8) = false from cb_leF (a := (s + i) - s) (b := 8) (by omega) (by omega) (by omega)]
              dsimp only [cond]
              refine he_s 5 (pc' := 103) (lc' := [(3, .int 0), (1, .long (Int64.ofNat (sp_cd (sp_L T s i)))), (0, .ref 9)]) (stk' := []) (mem' := cm (fm_u g2 9 6 1) (fm_ul l 9 8 0) a b R) (by intro _ _ _; eq_refl) ?_
              have hno : ¬ (s + i < n ∧ sp_sm (T (s + i)) = true) := fun z => by have z2 := sp_sm_i.mp z.2; omega
              obtain rfl : e = s + i := by rw [← he]; exact sp_e_f hno
              have hL : sp_lo (sp_L T s i) := fun c hc => by
                obtain ⟨j, j1, rfl⟩ := sp_L_mem hc
                exact sp_sm_i.mp (hall _ (by omega) (by omega))
              refine he_w (lc' := [(3, .int (nI 0)), (0, .ref 9), (1, .long (Int64.ofNat (sp_cd (sp_L T s i))))]) ⟨rfl, rfl, rfl, trivial⟩ (by show List.Nodup [3, 0, 1]; decide) (by show List.Nodup [3, 1, 0]; decide) ?_
              refine he_imp (ha_words (l2 := (fm_ul l 9 8 0)) (s := 0) (nm := 0) hn fm_ul_e 23 0 rfl (fm_u g2 9 6 1) cff_rf (fun _ _ => rfl) h7) ?_
              rintro _ ⟨g4, k1, k2, k3, rfl⟩
              have e2 : sp_e sp_sm T n s - s = i := by omega
              refine ⟨g4, _, cff_tr (cff_ul (cff_u hf (by decide) (by decide))) k1, (k2 4 (by decide)).trans h4, (k2 5 (by decide)).trans (h5.trans (by rw [hes])), (k2 6 (by decide)).trans fm_ue, ?_, ?_, rfl⟩
              · rw [k3, e2, ← cw_at_kw hR hL, sp_L_len]
                rw [if_neg (by omega)]
              · rw [fm_ul_e, e2]
                rw [if_neg (by omega)]
          · rw [show (fx_cb .gt (nI (T (s + i))) 122) = false from cb_gtF (a := (T (s + i))) (b := 122) (by omega) (by omega) (by omega)]
            dsimp only [cond]
            refine he_s 6 (pc' := 49) (lc' := [(1, .long (Int64.ofNat (sp_cd (sp_L T s i)))), (0, .ref 9)]) (stk' := [.int (g2 9 5), .ref 9, .long ((Int64.ofNat (sp_cd (sp_L T s i))) * 32)]) (mem' := cm g2 l a b R) (by intro _ _ _; eq_refl) ?_
            try rw [h5]
            refine he_ivV (ha_signAt (k := s + i) (show g2 9 3 = nI n from h3) hn (by omega)) (by omega) (by rfl) (by rfl) (by rfl) (by rfl) (by rfl) (by rfl) ?_
            rw [if_pos (show s + i < n from (by omega)), ec4]
            refine he_s 13 (pc' := 70) (lc' := [(1, .long (((Int64.ofNat (sp_cd (sp_L T s i))) * 32) + ((((nI (T (s + i))) - 97) + 1).toInt64))), (0, .ref 9)]) (stk' := []) (mem' := cm (fm_u g2 9 5 ((g2 9 5) + 1)) l a b R) (by intro _ _ _; eq_refl) ?_
            try rw [h5]
            rw [show ((nI (s + i)) + 1 : Int32) = nI ((s + i) + 1) from by simp only [show (1 : Int32) = nI 1 from rfl, nI_add, fm_mul]]
            refine he_s 1 (pc' := fx_to 70 (-68)) (lc' := [(1, .long (((Int64.ofNat (sp_cd (sp_L T s i))) * 32) + ((((nI (T (s + i))) - 97) + 1).toInt64))), (0, .ref 9)]) (stk' := []) (mem' := cm (fm_u g2 9 5 (nI ((s + i) + 1))) l a b R) (by intro _ _ _; eq_refl) ?_
            rw [show fx_to 70 (-68) = 2 from by decide]
            rw [show (((Int64.ofNat (sp_cd (sp_L T s i))) * 32) + ((((nI (T (s + i))) - 97) + 1).toInt64) : Int64) = Int64.ofNat (sp_cd (sp_L T s (i + 1))) from by rw [sp_L_s, sp_cd_s]; exact sp_cdstep (by omega) (by omega)]
            refine he_w (lc' := [(1, .long (Int64.ofNat (sp_cd (sp_L T s (i + 1))))), (0, .ref 9)]) ⟨rfl, rfl, trivial⟩ (by show List.Nodup [1, 0]; decide) (by show List.Nodup [1, 0]; decide) ?_
            have hsm : sp_sm (T (s + i)) = true := sp_sm_i.mpr ⟨by omega, by omega⟩
            refine ih (i + 1) (by omega) (by omega) _ (cff_u hf (by decide) (by decide)) h3 h4 rfl h7 (fun j j1 j2 => ?_) ?_
            · by_cases e1 : j = s + i
              · rw [e1]; exact hsm
              · exact hall j j1 (by omega)
            · rw [← he]; exact (sp_e_t (by omega) hsm).symm
      · refine he_s 1 (pc' := 23) (lc' := [(1, .long (Int64.ofNat (sp_cd (sp_L T s i)))), (0, .ref 9)]) (stk' := [.int 97, .int (a 10 (s + i))]) (mem' := cm g2 l a b R) (by intro _ _ _; eq_refl) ?_
        refine he_s 1 (pc' := cond (fx_cb .lt (a 10 (s + i)) 97) 73 26) (lc' := [(1, .long (Int64.ofNat (sp_cd (sp_L T s i)))), (0, .ref 9)]) (stk' := []) (mem' := cm g2 l a b R) (by intro _ _ _; eq_refl) ?_
        rw [show (fx_cb .lt (a 10 (s + i)) 97) = true from cb_neg_lt ec4 (by decide)]
        dsimp only [cond]
        refine he_s 10 (pc' := 90) (lc' := [(1, .long (Int64.ofNat (sp_cd (sp_L T s i)))), (0, .ref 9)]) (stk' := [.int 8, .int ((g2 9 5) - (g2 9 4)), .ref 9]) (mem' := cm (fm_u g2 9 6 1) l a b R) (by intro _ _ _; eq_refl) ?_
        try rw [h5]
        try rw [h4]
        rw [show ((nI (s + i)) - (nI s) : Int32) = nI ((s + i) - s) from by simp only [tg_sub2 (x := s + i) (y := s) (by omega), nI_add, fm_mul]]
        refine he_s 1 (pc' := cond (fx_cb .le (nI ((s + i) - s)) 8) 97 93) (lc' := [(1, .long (Int64.ofNat (sp_cd (sp_L T s i)))), (0, .ref 9)]) (stk' := [.ref 9]) (mem' := cm (fm_u g2 9 6 1) l a b R) (by intro _ _ _; eq_refl) ?_
        by_cases y11 : ((s + i) - s) ≤ 8
        · rw [show (fx_cb .le (nI ((s + i) - s)) 8) = true from cb_leT (a := (s + i) - s) (b := 8) (by omega) (by omega) (by omega)]
          dsimp only [cond]
          refine he_s 4 (pc' := 103) (lc' := [(3, .int 0), (1, .long (Int64.ofNat (sp_cd (sp_L T s i)))), (0, .ref 9)]) (stk' := []) (mem' := cm (fm_u g2 9 6 1) (fm_ul l 9 8 (Int64.ofNat (sp_cd (sp_L T s i)))) a b R) (by intro _ _ _; eq_refl) ?_
          have hno : ¬ (s + i < n ∧ sp_sm (T (s + i)) = true) := fun z => by have z2 := sp_sm_i.mp z.2; omega
          obtain rfl : e = s + i := by rw [← he]; exact sp_e_f hno
          have hL : sp_lo (sp_L T s i) := fun c hc => by
            obtain ⟨j, j1, rfl⟩ := sp_L_mem hc
            exact sp_sm_i.mp (hall _ (by omega) (by omega))
          refine he_w (lc' := [(3, .int (nI 0)), (0, .ref 9), (1, .long (Int64.ofNat (sp_cd (sp_L T s i))))]) ⟨rfl, rfl, rfl, trivial⟩ (by show List.Nodup [3, 0, 1]; decide) (by show List.Nodup [3, 1, 0]; decide) ?_
          refine he_imp (ha_words (l2 := (fm_ul l 9 8 (Int64.ofNat (sp_cd (sp_L T s i))))) (s := 0) (nm := Int64.ofNat (sp_cd (sp_L T s i))) hn fm_ul_e 23 0 rfl (fm_u g2 9 6 1) cff_rf (fun _ _ => rfl) h7) ?_
          rintro _ ⟨g4, k1, k2, k3, rfl⟩
          have e2 : sp_e sp_sm T n s - s = i := by omega
          refine ⟨g4, _, cff_tr (cff_ul (cff_u hf (by decide) (by decide))) k1, (k2 4 (by decide)).trans h4, (k2 5 (by decide)).trans (h5.trans (by rw [hes])), (k2 6 (by decide)).trans fm_ue, ?_, ?_, rfl⟩
          · rw [k3, e2, ← cw_at_kw hR hL, sp_L_len]
            rw [if_pos (by omega)]
          · rw [fm_ul_e, e2]
            rw [if_pos (by omega)]
        · rw [show (fx_cb .le (nI ((s + i) - s)) 8) = false from cb_leF (a := (s + i) - s) (b := 8) (by omega) (by omega) (by omega)]
          dsimp only [cond]
          refine he_s 5 (pc' := 103) (lc' := [(3, .int 0), (1, .long (Int64.ofNat (sp_cd (sp_L T s i)))), (0, .ref 9)]) (stk' := []) (mem' := cm (fm_u g2 9 6 1) (fm_ul l 9 8 0) a b R) (by intro _ _ _; eq_refl) ?_
          have hno : ¬ (s + i < n ∧ sp_sm (T (s + i)) = true) := fun z => by have z2 := sp_sm_i.mp z.2; omega
          obtain rfl : e = s + i := by rw [← he]; exact sp_e_f hno
          have hL : sp_lo (sp_L T s i) := fun c hc => by
            obtain ⟨j, j1, rfl⟩ := sp_L_mem hc
            exact sp_sm_i.mp (hall _ (by omega) (by omega))
          refine he_w (lc' := [(3, .int (nI 0)), (0, .ref 9), (1, .long (Int64.ofNat (sp_cd (sp_L T s i))))]) ⟨rfl, rfl, rfl, trivial⟩ (by show List.Nodup [3, 0, 1]; decide) (by show List.Nodup [3, 1, 0]; decide) ?_
          refine he_imp (ha_words (l2 := (fm_ul l 9 8 0)) (s := 0) (nm := 0) hn fm_ul_e 23 0 rfl (fm_u g2 9 6 1) cff_rf (fun _ _ => rfl) h7) ?_
          rintro _ ⟨g4, k1, k2, k3, rfl⟩
          have e2 : sp_e sp_sm T n s - s = i := by omega
          refine ⟨g4, _, cff_tr (cff_ul (cff_u hf (by decide) (by decide))) k1, (k2 4 (by decide)).trans h4, (k2 5 (by decide)).trans (h5.trans (by rw [hes])), (k2 6 (by decide)).trans fm_ue, ?_, ?_, rfl⟩
          · rw [k3, e2, ← cw_at_kw hR hL, sp_L_len]
            rw [if_neg (by omega)]
          · rw [fm_ul_e, e2]
            rw [if_neg (by omega)]
theorem ha_scanWord {s : Nat} (hn : n ≤ 900) (hT : ct (a 10) T n) (hR : cr (b 11)) (hs : s ≤ n) (h3 : g 9 3 = nI n) (h4 : g 9 4 = nI s) (h5 : g 9 5 = nI s) (h7 : g 9 7 = -1) : ∃ (v : Option Value) (mem' : fx_M), (fun R1 => ∃ (g' : Nat → Nat → Int32) (l' : Nat → Nat → Int64), cff g l g' l' ∧ g' 9 4 = nI s ∧ g' 9 5 = nI (sp_e sp_sm T n s) ∧ g' 9 6 = 1 ∧ g' 9 7 = (if sp_kw (sp_L T s (sp_e sp_sm T n s - s)) < 23 then nI (sp_kw (sp_L T s (sp_e sp_sm T n s - s))) else -1) ∧ l' 9 8 = (if sp_e sp_sm T n s ≤ s + 8 then Int64.ofNat (sp_cd (sp_L T s (sp_e sp_sm T n s - s))) else 0) ∧ R1 = (none, cm g' l' a b R)) (v, mem') ∧ hr_T 2 105 [.ref 9] (cm g l a b R) v mem' := by
  refine he_meth (F := fun R1 => ∃ (g' : Nat → Nat → Int32) (l' : Nat → Nat → Int64), cff g l g' l' ∧ g' 9 4 = nI s ∧ g' 9 5 = nI (sp_e sp_sm T n s) ∧ g' 9 6 = 1 ∧ g' 9 7 = (if sp_kw (sp_L T s (sp_e sp_sm T n s - s)) < 23 then nI (sp_kw (sp_L T s (sp_e sp_sm T n s - s))) else -1) ∧ l' 9 8 = (if sp_e sp_sm T n s ≤ s + 8 then Int64.ofNat (sp_cd (sp_L T s (sp_e sp_sm T n s - s))) else 0) ∧ R1 = (none, cm g' l' a b R)) (M := gk_m105) (by rfl) (by rfl) ?_
  refine he_s 2 (pc' := 2) (lc' := [(1, .long 0), (0, .ref 9)]) (stk' := []) (mem' := cm g l a b R) (by intro _ _ _; eq_refl) ?_
  exact ha_word hn hT hR rfl (n - s) 0 rfl hs g cff_rf h3 h4 h5 h7 (fun j j1 j2 => absurd j2 (by omega)) rfl
theorem ha_num {s e : Nat} (hn : n ≤ 900) (hT : ct (a 10) T n) (hes : sp_e sp_dg T n s = e) : ∀ (r i : Nat), n - (s + i) = r → s + i ≤ n → ∀ (g2 : Nat → Nat → Int32), cff g l g2 l → g2 9 3 = nI n → g2 9 4 = nI s → g2 9 5 = nI (s + i) → g2 9 7 = -1 → g2 9 9 = nI (sp_nb T s i) → sp_e sp_dg T n (s + i) = e → he_R 1 gk_m106 5 [(0, .ref 9)] [] (cm g2 l a b R) (fun R1 => ∃ (g' : Nat → Nat → Int32), cff g l g' l ∧ g' 9 4 = nI s ∧ g' 9 5 = nI (sp_e sp_dg T n s) ∧ g' 9 6 = (if sp_e sp_dg T n s ≤ s + 4 then 2 else 4) ∧ g' 9 7 = -1 ∧ g' 9 9 = nI (sp_nb T s (sp_e sp_dg T n s - s)) ∧ R1 = (none, cm g' l a b R)) := by
  intro r
  induction r with
  | zero =>
    intro i hr hi g2 hf h3 h4 h5 h7 h9 he
    refine he_s 4 (pc' := 13) (lc' := [(0, .ref 9)]) (stk' := [.int (g2 9 3), .int (g2 9 5)]) (mem' := cm g2 l a b R) (by intro _ _ _; eq_refl) ?_
    try rw [h5]
    try rw [h3]
    refine he_s 1 (pc' := cond (fx_cb .ge (nI (s + i)) (nI n)) 78 16) (lc' := [(0, .ref 9)]) (stk' := []) (mem' := cm g2 l a b R) (by intro _ _ _; eq_refl) ?_
    rw [show (fx_cb .ge (nI (s + i)) (nI n)) = true from cb_geT (a := s + i) (b := n) (by omega) (by omega) (by omega)]
    dsimp only [cond]
    refine he_s 7 (pc' := 89) (lc' := [(0, .ref 9)]) (stk' := [.int 4, .int ((g2 9 5) - (g2 9 4)), .ref 9]) (mem' := cm g2 l a b R) (by intro _ _ _; eq_refl) ?_
    try rw [h5]
    try rw [h4]
    rw [show ((nI (s + i)) - (nI s) : Int32) = nI ((s + i) - s) from by simp only [tg_sub2 (x := s + i) (y := s) (by omega), nI_add, fm_mul]]
    refine he_s 1 (pc' := cond (fx_cb .le (nI ((s + i) - s)) 4) 96 92) (lc' := [(0, .ref 9)]) (stk' := [.ref 9]) (mem' := cm g2 l a b R) (by intro _ _ _; eq_refl) ?_
    by_cases y1 : ((s + i) - s) ≤ 4
    · rw [show (fx_cb .le (nI ((s + i) - s)) 4) = true from cb_leT (a := (s + i) - s) (b := 4) (by omega) (by omega) (by omega)]
      dsimp only [cond]
      refine he_s 2 (pc' := 100) (lc' := [(0, .ref 9)]) (stk' := []) (mem' := cm (fm_u g2 9 6 2) l a b R) (by intro _ _ _; eq_refl) ?_
      have hno : ¬ (s + i < n ∧ sp_dg (T (s + i)) = true) := fun z => by have z2 := sp_dg_i.mp z.2; omega
      obtain rfl : e = s + i := by rw [← he]; exact sp_e_f hno
      have e2 : sp_e sp_dg T n s - s = i := by omega
      refine he_ret ⟨_, cff_u hf (by decide) (by decide), (by exact h4), (by exact h5.trans (by rw [hes])), ?_, (by exact h7), ?_, rfl⟩ (by rfl) (by rfl) (by rfl)
      · rw [fm_ue, if_pos (by omega)]
      · rw [e2]; exact h9
    · rw [show (fx_cb .le (nI ((s + i) - s)) 4) = false from cb_leF (a := (s + i) - s) (b := 4) (by omega) (by omega) (by omega)]
      dsimp only [cond]
      refine he_s 3 (pc' := 100) (lc' := [(0, .ref 9)]) (stk' := []) (mem' := cm (fm_u g2 9 6 4) l a b R) (by intro _ _ _; eq_refl) ?_
      have hno : ¬ (s + i < n ∧ sp_dg (T (s + i)) = true) := fun z => by have z2 := sp_dg_i.mp z.2; omega
      obtain rfl : e = s + i := by rw [← he]; exact sp_e_f hno
      have e2 : sp_e sp_dg T n s - s = i := by omega
      refine he_ret ⟨_, cff_u hf (by decide) (by decide), (by exact h4), (by exact h5.trans (by rw [hes])), ?_, (by exact h7), ?_, rfl⟩ (by rfl) (by rfl) (by rfl)
      · rw [fm_ue, if_neg (by omega)]
      · rw [e2]; exact h9
  | succ r ih =>
    intro i hr hi g2 hf h3 h4 h5 h7 h9 he
    refine he_s 4 (pc' := 13) (lc' := [(0, .ref 9)]) (stk' := [.int (g2 9 3), .int (g2 9 5)]) (mem' := cm g2 l a b R) (by intro _ _ _; eq_refl) ?_
    try rw [h5]
    try rw [h3]
    refine he_s 1 (pc' := cond (fx_cb .ge (nI (s + i)) (nI n)) 78 16) (lc' := [(0, .ref 9)]) (stk' := []) (mem' := cm g2 l a b R) (by intro _ _ _; eq_refl) ?_
    by_cases y2 : n ≤ (s + i)
    · rw [show (fx_cb .ge (nI (s + i)) (nI n)) = true from cb_geT (a := s + i) (b := n) (by omega) (by omega) (by omega)]
      dsimp only [cond]
      refine he_s 7 (pc' := 89) (lc' := [(0, .ref 9)]) (stk' := [.int 4, .int ((g2 9 5) - (g2 9 4)), .ref 9]) (mem' := cm g2 l a b R) (by intro _ _ _; eq_refl) ?_
      try rw [h5]
      try rw [h4]
      rw [show ((nI (s + i)) - (nI s) : Int32) = nI ((s + i) - s) from by simp only [tg_sub2 (x := s + i) (y := s) (by omega), nI_add, fm_mul]]
      refine he_s 1 (pc' := cond (fx_cb .le (nI ((s + i) - s)) 4) 96 92) (lc' := [(0, .ref 9)]) (stk' := [.ref 9]) (mem' := cm g2 l a b R) (by intro _ _ _; eq_refl) ?_
      by_cases y3 : ((s + i) - s) ≤ 4
      · rw [show (fx_cb .le (nI ((s + i) - s)) 4) = true from cb_leT (a := (s + i) - s) (b := 4) (by omega) (by omega) (by omega)]
        dsimp only [cond]
        refine he_s 2 (pc' := 100) (lc' := [(0, .ref 9)]) (stk' := []) (mem' := cm (fm_u g2 9 6 2) l a b R) (by intro _ _ _; eq_refl) ?_
        have hno : ¬ (s + i < n ∧ sp_dg (T (s + i)) = true) := fun z => by have z2 := sp_dg_i.mp z.2; omega
        obtain rfl : e = s + i := by rw [← he]; exact sp_e_f hno
        have e2 : sp_e sp_dg T n s - s = i := by omega
        refine he_ret ⟨_, cff_u hf (by decide) (by decide), (by exact h4), (by exact h5.trans (by rw [hes])), ?_, (by exact h7), ?_, rfl⟩ (by rfl) (by rfl) (by rfl)
        · rw [fm_ue, if_pos (by omega)]
        · rw [e2]; exact h9
      · rw [show (fx_cb .le (nI ((s + i) - s)) 4) = false from cb_leF (a := (s + i) - s) (b := 4) (by omega) (by omega) (by omega)]
        dsimp only [cond]
        refine he_s 3 (pc' := 100) (lc' := [(0, .ref 9)]) (stk' := []) (mem' := cm (fm_u g2 9 6 4) l a b R) (by intro _ _ _; eq_refl) ?_
        have hno : ¬ (s + i < n ∧ sp_dg (T (s + i)) = true) := fun z => by have z2 := sp_dg_i.mp z.2; omega
        obtain rfl : e = s + i := by rw [← he]; exact sp_e_f hno
        have e2 : sp_e sp_dg T n s - s = i := by omega
        refine he_ret ⟨_, cff_u hf (by decide) (by decide), (by exact h4), (by exact h5.trans (by rw [hes])), ?_, (by exact h7), ?_, rfl⟩ (by rfl) (by rfl) (by rfl)
        · rw [fm_ue, if_neg (by omega)]
        · rw [e2]; exact h9
    · rw [show (fx_cb .ge (nI (s + i)) (nI n)) = false from cb_geF (a := s + i) (b := n) (by omega) (by omega) (by omega)]
      dsimp only [cond]
      refine he_s 3 (pc' := 21) (lc' := [(0, .ref 9)]) (stk' := [.int (g2 9 5), .ref 9]) (mem' := cm g2 l a b R) (by intro _ _ _; eq_refl) ?_
      try rw [h5]
      refine he_ivV (ha_signAt (k := s + i) (show g2 9 3 = nI n from h3) hn (by omega)) (by omega) (by rfl) (by rfl) (by rfl) (by rfl) (by rfl) (by rfl) ?_
      rw [if_pos (show s + i < n from (by omega))]
      rcases hT.2 (s + i) (by omega) with ⟨uc4, ec4⟩ | ⟨uc4, wc4, ec4⟩
      · rw [ec4]
        refine he_s 1 (pc' := 26) (lc' := [(0, .ref 9)]) (stk' := [.int 48, .int (nI (T (s + i)))]) (mem' := cm g2 l a b R) (by intro _ _ _; eq_refl) ?_
        refine he_s 1 (pc' := cond (fx_cb .lt (nI (T (s + i))) 48) 78 29) (lc' := [(0, .ref 9)]) (stk' := []) (mem' := cm g2 l a b R) (by intro _ _ _; eq_refl) ?_
        by_cases y5 : (T (s + i)) < 48
        · rw [show (fx_cb .lt (nI (T (s + i))) 48) = true from cb_ltT (a := (T (s + i))) (b := 48) (by omega) (by omega) (by omega)]
          dsimp only [cond]
          refine he_s 7 (pc' := 89) (lc' := [(0, .ref 9)]) (stk' := [.int 4, .int ((g2 9 5) - (g2 9 4)), .ref 9]) (mem' := cm g2 l a b R) (by intro _ _ _; eq_refl) ?_
          try rw [h5]
          try rw [h4]
          rw [show ((nI (s + i)) - (nI s) : Int32) = nI ((s + i) - s) from by simp only [tg_sub2 (x := s + i) (y := s) (by omega), nI_add, fm_mul]]
          refine he_s 1 (pc' := cond (fx_cb .le (nI ((s + i) - s)) 4) 96 92) (lc' := [(0, .ref 9)]) (stk' := [.ref 9]) (mem' := cm g2 l a b R) (by intro _ _ _; eq_refl) ?_
          by_cases y6 : ((s + i) - s) ≤ 4
          · rw [show (fx_cb .le (nI ((s + i) - s)) 4) = true from cb_leT (a := (s + i) - s) (b := 4) (by omega) (by omega) (by omega)]
            dsimp only [cond]
            refine he_s 2 (pc' := 100) (lc' := [(0, .ref 9)]) (stk' := []) (mem' := cm (fm_u g2 9 6 2) l a b R) (by intro _ _ _; eq_refl) ?_
            have hno : ¬ (s + i < n ∧ sp_dg (T (s + i)) = true) := fun z => by have z2 := sp_dg_i.mp z.2; omega
            obtain rfl : e = s + i := by rw [← he]; exact sp_e_f hno
            have e2 : sp_e sp_dg T n s - s = i := by omega
            refine he_ret ⟨_, cff_u hf (by decide) (by decide), (by exact h4), (by exact h5.trans (by rw [hes])), ?_, (by exact h7), ?_, rfl⟩ (by rfl) (by rfl) (by rfl)
            · rw [fm_ue, if_pos (by omega)]
            · rw [e2]; exact h9
          · rw [show (fx_cb .le (nI ((s + i) - s)) 4) = false from cb_leF (a := (s + i) - s) (b := 4) (by omega) (by omega) (by omega)]
            dsimp only [cond]
            refine he_s 3 (pc' := 100) (lc' := [(0, .ref 9)]) (stk' := []) (mem' := cm (fm_u g2 9 6 4) l a b R) (by intro _ _ _; eq_refl) ?_
            have hno : ¬ (s + i < n ∧ sp_dg (T (s + i)) = true) := fun z => by have z2 := sp_dg_i.mp z.2; omega
            obtain rfl : e = s + i := by rw [← he]; exact sp_e_f hno
            have e2 : sp_e sp_dg T n s - s = i := by omega
            refine he_ret ⟨_, cff_u hf (by decide) (by decide), (by exact h4), (by exact h5.trans (by rw [hes])), ?_, (by exact h7), ?_, rfl⟩ (by rfl) (by rfl) (by rfl)
            · rw [fm_ue, if_neg (by omega)]
            · rw [e2]; exact h9
        · rw [show (fx_cb .lt (nI (T (s + i))) 48) = false from cb_ltF (a := (T (s + i))) (b := 48) (by omega) (by omega) (by omega)]
          dsimp only [cond]
          refine he_s 3 (pc' := 34) (lc' := [(0, .ref 9)]) (stk' := [.int (g2 9 5), .ref 9]) (mem' := cm g2 l a b R) (by intro _ _ _; eq_refl) ?_
          try rw [h5]
          refine he_ivV (ha_signAt (k := s + i) (show g2 9 3 = nI n from h3) hn (by omega)) (by omega) (by rfl) (by rfl) (by rfl) (by rfl) (by rfl) (by rfl) ?_
          rw [if_pos (show s + i < n from (by omega)), ec4]
          refine he_s 1 (pc' := 39) (lc' := [(0, .ref 9)]) (stk' := [.int 57, .int (nI (T (s + i)))]) (mem' := cm g2 l a b R) (by intro _ _ _; eq_refl) ?_
          refine he_s 1 (pc' := cond (fx_cb .gt (nI (T (s + i))) 57) 78 42) (lc' := [(0, .ref 9)]) (stk' := []) (mem' := cm g2 l a b R) (by intro _ _ _; eq_refl) ?_
          by_cases y8 : 57 < (T (s + i))
          · rw [show (fx_cb .gt (nI (T (s + i))) 57) = true from cb_gtT (a := (T (s + i))) (b := 57) (by omega) (by omega) (by omega)]
            dsimp only [cond]
            refine he_s 7 (pc' := 89) (lc' := [(0, .ref 9)]) (stk' := [.int 4, .int ((g2 9 5) - (g2 9 4)), .ref 9]) (mem' := cm g2 l a b R) (by intro _ _ _; eq_refl) ?_
            try rw [h5]
            try rw [h4]
            rw [show ((nI (s + i)) - (nI s) : Int32) = nI ((s + i) - s) from by simp only [tg_sub2 (x := s + i) (y := s) (by omega), nI_add, fm_mul]]
            refine he_s 1 (pc' := cond (fx_cb .le (nI ((s + i) - s)) 4) 96 92) (lc' := [(0, .ref 9)]) (stk' := [.ref 9]) (mem' := cm g2 l a b R) (by intro _ _ _; eq_refl) ?_
            by_cases y9 : ((s + i) - s) ≤ 4
            · rw [show (fx_cb .le (nI ((s + i) - s)) 4) = true from cb_leT (a := (s + i) - s) (b := 4) (by omega) (by omega) (by omega)]
              dsimp only [cond]
              refine he_s 2 (pc' := 100) (lc' := [(0, .ref 9)]) (stk' := []) (mem' := cm (fm_u g2 9 6 2) l a b R) (by intro _ _ _; eq_refl) ?_
              have hno : ¬ (s + i < n ∧ sp_dg (T (s + i)) = true) := fun z => by have z2 := sp_dg_i.mp z.2; omega
              obtain rfl : e = s + i := by rw [← he]; exact sp_e_f hno
              have e2 : sp_e sp_dg T n s - s = i := by omega
              refine he_ret ⟨_, cff_u hf (by decide) (by decide), (by exact h4), (by exact h5.trans (by rw [hes])), ?_, (by exact h7), ?_, rfl⟩ (by rfl) (by rfl) (by rfl)
              · rw [fm_ue, if_pos (by omega)]
              · rw [e2]; exact h9
            · rw [show (fx_cb .le (nI ((s + i) - s)) 4) = false from cb_leF (a := (s + i) - s) (b := 4) (by omega) (by omega) (by omega)]
              dsimp only [cond]
              refine he_s 3 (pc' := 100) (lc' := [(0, .ref 9)]) (stk' := []) (mem' := cm (fm_u g2 9 6 4) l a b R) (by intro _ _ _; eq_refl) ?_
              have hno : ¬ (s + i < n ∧ sp_dg (T (s + i)) = true) := fun z => by have z2 := sp_dg_i.mp z.2; omega
              obtain rfl : e = s + i := by rw [← he]; exact sp_e_f hno
              have e2 : sp_e sp_dg T n s - s = i := by omega
              refine he_ret ⟨_, cff_u hf (by decide) (by decide), (by exact h4), (by exact h5.trans (by rw [hes])), ?_, (by exact h7), ?_, rfl⟩ (by rfl) (by rfl) (by rfl)
              · rw [fm_ue, if_neg (by omega)]
              · rw [e2]; exact h9
          · rw [show (fx_cb .gt (nI (T (s + i))) 57) = false from cb_gtF (a := (T (s + i))) (b := 57) (by omega) (by omega) (by omega)]
            dsimp only [cond]
            refine he_s 8 (pc' := 55) (lc' := [(0, .ref 9)]) (stk' := [.int (g2 9 5), .ref 9, .int ((g2 9 9) * 10), .ref 9]) (mem' := cm g2 l a b R) (by intro _ _ _; eq_refl) ?_
            try rw [h9]
            try rw [h5]
            rw [show ((nI (sp_nb T s i)) * 10 : Int32) = nI ((sp_nb T s i) * 10) from by simp only [show (10 : Int32) = nI 10 from rfl, nI_add, fm_mul]]
            refine he_ivV (ha_signAt (k := s + i) (show g2 9 3 = nI n from h3) hn (by omega)) (by omega) (by rfl) (by rfl) (by rfl) (by rfl) (by rfl) (by rfl) ?_
            rw [if_pos (show s + i < n from (by omega)), ec4]
            refine he_s 10 (pc' := 75) (lc' := [(0, .ref 9)]) (stk' := []) (mem' := cm (fm_u (fm_u g2 9 9 ((nI ((sp_nb T s i) * 10)) + ((nI (T (s + i))) - 48))) 9 5 ((g2 9 5) + 1)) l a b R) (by intro _ _ _; eq_refl) ?_
            try rw [h5]
            rw [show ((nI (s + i)) + 1 : Int32) = nI ((s + i) + 1) from by simp only [show (1 : Int32) = nI 1 from rfl, nI_add, fm_mul]]
            rw [show ((nI ((sp_nb T s i) * 10)) + ((nI (T (s + i))) - 48) : Int32) = nI (((sp_nb T s i) * 10) + ((T (s + i)) - 48)) from by simp only [show (48 : Int32) = nI 48 from rfl, tg_sub2 (x := (T (s + i))) (y := 48) (by omega), nI_add, fm_mul]]
            refine he_s 1 (pc' := fx_to 75 (-70)) (lc' := [(0, .ref 9)]) (stk' := []) (mem' := cm (fm_u (fm_u g2 9 9 (nI (((sp_nb T s i) * 10) + ((T (s + i)) - 48)))) 9 5 (nI ((s + i) + 1))) l a b R) (by intro _ _ _; eq_refl) ?_
            rw [show fx_to 75 (-70) = 5 from by decide]
            have hsm : sp_dg (T (s + i)) = true := sp_dg_i.mpr ⟨by omega, by omega⟩
            refine ih (i + 1) (by omega) (by omega) _ (cff_u (cff_u hf (by decide) (by decide)) (by decide) (by decide)) h3 h4 rfl h7 rfl ?_
            rw [← he]; exact (sp_e_t (by omega) hsm).symm
      · refine he_s 1 (pc' := 26) (lc' := [(0, .ref 9)]) (stk' := [.int 48, .int (a 10 (s + i))]) (mem' := cm g2 l a b R) (by intro _ _ _; eq_refl) ?_
        refine he_s 1 (pc' := cond (fx_cb .lt (a 10 (s + i)) 48) 78 29) (lc' := [(0, .ref 9)]) (stk' := []) (mem' := cm g2 l a b R) (by intro _ _ _; eq_refl) ?_
        rw [show (fx_cb .lt (a 10 (s + i)) 48) = true from cb_neg_lt ec4 (by decide)]
        dsimp only [cond]
        refine he_s 7 (pc' := 89) (lc' := [(0, .ref 9)]) (stk' := [.int 4, .int ((g2 9 5) - (g2 9 4)), .ref 9]) (mem' := cm g2 l a b R) (by intro _ _ _; eq_refl) ?_
        try rw [h5]
        try rw [h4]
        rw [show ((nI (s + i)) - (nI s) : Int32) = nI ((s + i) - s) from by simp only [tg_sub2 (x := s + i) (y := s) (by omega), nI_add, fm_mul]]
        refine he_s 1 (pc' := cond (fx_cb .le (nI ((s + i) - s)) 4) 96 92) (lc' := [(0, .ref 9)]) (stk' := [.ref 9]) (mem' := cm g2 l a b R) (by intro _ _ _; eq_refl) ?_
        by_cases y11 : ((s + i) - s) ≤ 4
        · rw [show (fx_cb .le (nI ((s + i) - s)) 4) = true from cb_leT (a := (s + i) - s) (b := 4) (by omega) (by omega) (by omega)]
          dsimp only [cond]
          refine he_s 2 (pc' := 100) (lc' := [(0, .ref 9)]) (stk' := []) (mem' := cm (fm_u g2 9 6 2) l a b R) (by intro _ _ _; eq_refl) ?_
          have hno : ¬ (s + i < n ∧ sp_dg (T (s + i)) = true) := fun z => by have z2 := sp_dg_i.mp z.2; omega
          obtain rfl : e = s + i := by rw [← he]; exact sp_e_f hno
          have e2 : sp_e sp_dg T n s - s = i := by omega
          refine he_ret ⟨_, cff_u hf (by decide) (by decide), (by exact h4), (by exact h5.trans (by rw [hes])), ?_, (by exact h7), ?_, rfl⟩ (by rfl) (by rfl) (by rfl)
          · rw [fm_ue, if_pos (by omega)]
          · rw [e2]; exact h9
        · rw [show (fx_cb .le (nI ((s + i) - s)) 4) = false from cb_leF (a := (s + i) - s) (b := 4) (by omega) (by omega) (by omega)]
          dsimp only [cond]
          refine he_s 3 (pc' := 100) (lc' := [(0, .ref 9)]) (stk' := []) (mem' := cm (fm_u g2 9 6 4) l a b R) (by intro _ _ _; eq_refl) ?_
          have hno : ¬ (s + i < n ∧ sp_dg (T (s + i)) = true) := fun z => by have z2 := sp_dg_i.mp z.2; omega
          obtain rfl : e = s + i := by rw [← he]; exact sp_e_f hno
          have e2 : sp_e sp_dg T n s - s = i := by omega
          refine he_ret ⟨_, cff_u hf (by decide) (by decide), (by exact h4), (by exact h5.trans (by rw [hes])), ?_, (by exact h7), ?_, rfl⟩ (by rfl) (by rfl) (by rfl)
          · rw [fm_ue, if_neg (by omega)]
          · rw [e2]; exact h9
theorem ha_scanNumber {s : Nat} (hn : n ≤ 900) (hT : ct (a 10) T n) (hs : s ≤ n) (h3 : g 9 3 = nI n) (h4 : g 9 4 = nI s) (h5 : g 9 5 = nI s) (h7 : g 9 7 = -1) : ∃ (v : Option Value) (mem' : fx_M), (fun R1 => ∃ (g' : Nat → Nat → Int32), cff g l g' l ∧ g' 9 4 = nI s ∧ g' 9 5 = nI (sp_e sp_dg T n s) ∧ g' 9 6 = (if sp_e sp_dg T n s ≤ s + 4 then 2 else 4) ∧ g' 9 7 = -1 ∧ g' 9 9 = nI (sp_nb T s (sp_e sp_dg T n s - s)) ∧ R1 = (none, cm g' l a b R)) (v, mem') ∧ hr_T 2 106 [.ref 9] (cm g l a b R) v mem' := by
  refine he_meth (F := fun R1 => ∃ (g' : Nat → Nat → Int32), cff g l g' l ∧ g' 9 4 = nI s ∧ g' 9 5 = nI (sp_e sp_dg T n s) ∧ g' 9 6 = (if sp_e sp_dg T n s ≤ s + 4 then 2 else 4) ∧ g' 9 7 = -1 ∧ g' 9 9 = nI (sp_nb T s (sp_e sp_dg T n s - s)) ∧ R1 = (none, cm g' l a b R)) (M := gk_m106) (by rfl) (by rfl) ?_
  refine he_s 3 (pc' := 5) (lc' := [(0, .ref 9)]) (stk' := []) (mem' := cm (fm_u g 9 9 0) l a b R) (by intro _ _ _; eq_refl) ?_
  exact ha_num hn hT rfl (n - s) 0 rfl hs _ (cff_u cff_rf (by decide) (by decide)) h3 h4 h5 h7 fm_ue rfl
theorem ck_of {g : Nat → Nat → Int32} {l : Nat → Nat → Int64} {s e k : Nat} {w : Int32} (h3 : g 9 3 = nI n) (h4 : g 9 4 = nI s) (h5 : g 9 5 = nI e) (h6 : g 9 6 = nI k) (h7 : g 9 7 = w) (es : s = sp_s T n p) (ee : e = sp_n T n p) (ek : k = sp_k T n p) (ew : w = sp_cw T n p) (h1 : sp_k T n p = 1 → l 9 8 = sp_cn T n p) (h2 : sp_k T n p = 2 → g 9 9 = nI (sp_v T n p)) (h9 : sp_k T n p = 3 → g 9 9 = nI (T (sp_s T n p))) : ck g l T n p := by
  subst es ee ek ew
  exact ⟨h3, h4, h5, h6, h7, h1, h2, h9⟩
theorem ha_sp {s : Nat} (hn : n ≤ 900) (hT : ct (a 10) T n) (hR : cr (b 11)) (hs : sp_s T n p = s) : ∀ (r k : Nat), n - k = r → p ≤ k → k ≤ n → ∀ (g2 : Nat → Nat → Int32), cff g l g2 l → g2 9 3 = nI n → g2 9 5 = nI k → sp_e sp_ws T n k = s → he_R 2 gk_m104 0 [(0, .ref 9)] [] (cm g2 l a b R) (fun R1 => ∃ (g' : Nat → Nat → Int32) (l' : Nat → Nat → Int64), cff g l g' l' ∧ ck g' l' T n p ∧ R1 = (none, cm g' l' a b R)) := by
  intro r
  induction r with
  | zero =>
    intro k hr hpk hk g2 hf h3 h5 he
    refine he_s 4 (pc' := 8) (lc' := [(0, .ref 9)]) (stk' := [.int (g2 9 3), .int (g2 9 5)]) (mem' := cm g2 l a b R) (by intro _ _ _; eq_refl) ?_
    try rw [h5]
    try rw [h3]
    refine he_s 1 (pc' := cond (fx_cb .ge (nI k) (nI n)) 50 11) (lc' := [(0, .ref 9)]) (stk' := []) (mem' := cm g2 l a b R) (by intro _ _ _; eq_refl) ?_
    rw [show (fx_cb .ge (nI k) (nI n)) = true from cb_geT (a := k) (b := n) (by omega) (by omega) (by omega)]
    dsimp only [cond]
    refine he_s 10 (pc' := 68) (lc' := [(0, .ref 9)]) (stk' := [.int (g2 9 5), .ref 9]) (mem' := cm (fm_u (fm_u g2 9 4 (g2 9 5)) 9 7 (-1)) l a b R) (by intro _ _ _; eq_refl) ?_
    try rw [h5]
    refine he_ivV (ha_signAt (k := k) (show (fm_u (fm_u g2 9 4 (nI k)) 9 7 (-1)) 9 3 = nI n from h3) hn (by omega)) (by omega) (by rfl) (by rfl) (by rfl) (by rfl) (by rfl) (by rfl) ?_
    by_cases y2 : k < n
    · rw [if_pos y2]
      rcases hT.2 k y2 with ⟨uc1, ec1⟩ | ⟨uc1, wc1, ec1⟩
      · rw [ec1]
        refine he_s 5 (pc' := 80) (lc' := [(1, .int (nI (T k))), (0, .ref 9)]) (stk' := [.int (g2 9 3), .int (g2 9 5)]) (mem' := cm (fm_u (fm_u g2 9 4 (nI k)) 9 7 (-1)) l a b R) (by intro _ _ _; eq_refl) ?_
        try rw [h5]
        try rw [h3]
        refine he_s 1 (pc' := cond (fx_cb .lt (nI k) (nI n)) 91 83) (lc' := [(1, .int (nI (T k))), (0, .ref 9)]) (stk' := []) (mem' := cm (fm_u (fm_u g2 9 4 (nI k)) 9 7 (-1)) l a b R) (by intro _ _ _; eq_refl) ?_
        rw [show (fx_cb .lt (nI k) (nI n)) = false from cb_ltF (a := k) (b := n) (by omega) (by omega) (by omega)]
        dsimp only [cond]
        refine he_s 4 (pc' := 181) (lc' := [(1, .int (nI (T k))), (0, .ref 9)]) (stk' := []) (mem' := cm (fm_u (fm_u (fm_u g2 9 4 (nI k)) 9 7 (-1)) 9 6 0) l a b R) (by intro _ _ _; eq_refl) ?_
        have hno : ¬ (k < n ∧ sp_ws (T k) = true) := fun z => by have z2 := sp_ws_i.mp z.2; omega
        obtain rfl : s = k := by rw [← he]; exact sp_e_f hno
        have es : s = sp_s T n p := hs.symm
        obtain ⟨t1, t2⟩ := sp_t0 (T := T) (n := n) (p := p) (by omega)
        exact he_ret ⟨_, _, cff_u (cff_u (cff_u hf (by decide) (by decide)) (by decide) (by decide)) (by decide) (by decide), ck_of (s := s) (e := s) (k := 0) (by exact h3) (by rfl) (by exact h5) (by rfl) (by rfl) es (by omega) t1.symm (sp_cw0 (by omega)).symm (fun z => absurd z (by omega)) (fun z => absurd z (by omega)) (fun z => absurd z (by omega)), rfl⟩ (by rfl) (by rfl) (by rfl)
      · refine he_s 5 (pc' := 80) (lc' := [(1, .int (a 10 k)), (0, .ref 9)]) (stk' := [.int (g2 9 3), .int (g2 9 5)]) (mem' := cm (fm_u (fm_u g2 9 4 (nI k)) 9 7 (-1)) l a b R) (by intro _ _ _; eq_refl) ?_
        try rw [h5]
        try rw [h3]
        refine he_s 1 (pc' := cond (fx_cb .lt (nI k) (nI n)) 91 83) (lc' := [(1, .int (a 10 k)), (0, .ref 9)]) (stk' := []) (mem' := cm (fm_u (fm_u g2 9 4 (nI k)) 9 7 (-1)) l a b R) (by intro _ _ _; eq_refl) ?_
        rw [show (fx_cb .lt (nI k) (nI n)) = false from cb_ltF (a := k) (b := n) (by omega) (by omega) (by omega)]
        dsimp only [cond]
        refine he_s 4 (pc' := 181) (lc' := [(1, .int (a 10 k)), (0, .ref 9)]) (stk' := []) (mem' := cm (fm_u (fm_u (fm_u g2 9 4 (nI k)) 9 7 (-1)) 9 6 0) l a b R) (by intro _ _ _; eq_refl) ?_
        have hno : ¬ (k < n ∧ sp_ws (T k) = true) := fun z => by have z2 := sp_ws_i.mp z.2; omega
        obtain rfl : s = k := by rw [← he]; exact sp_e_f hno
        have es : s = sp_s T n p := hs.symm
        obtain ⟨t1, t2⟩ := sp_t0 (T := T) (n := n) (p := p) (by omega)
        exact he_ret ⟨_, _, cff_u (cff_u (cff_u hf (by decide) (by decide)) (by decide) (by decide)) (by decide) (by decide), ck_of (s := s) (e := s) (k := 0) (by exact h3) (by rfl) (by exact h5) (by rfl) (by rfl) es (by omega) t1.symm (sp_cw0 (by omega)).symm (fun z => absurd z (by omega)) (fun z => absurd z (by omega)) (fun z => absurd z (by omega)), rfl⟩ (by rfl) (by rfl) (by rfl)
    · rw [if_neg y2]
      refine he_s 5 (pc' := 80) (lc' := [(1, .int (-1)), (0, .ref 9)]) (stk' := [.int (g2 9 3), .int (g2 9 5)]) (mem' := cm (fm_u (fm_u g2 9 4 (nI k)) 9 7 (-1)) l a b R) (by intro _ _ _; eq_refl) ?_
      try rw [h5]
      try rw [h3]
      refine he_s 1 (pc' := cond (fx_cb .lt (nI k) (nI n)) 91 83) (lc' := [(1, .int (-1)), (0, .ref 9)]) (stk' := []) (mem' := cm (fm_u (fm_u g2 9 4 (nI k)) 9 7 (-1)) l a b R) (by intro _ _ _; eq_refl) ?_
      rw [show (fx_cb .lt (nI k) (nI n)) = false from cb_ltF (a := k) (b := n) (by omega) (by omega) (by omega)]
      dsimp only [cond]
      refine he_s 4 (pc' := 181) (lc' := [(1, .int (-1)), (0, .ref 9)]) (stk' := []) (mem' := cm (fm_u (fm_u (fm_u g2 9 4 (nI k)) 9 7 (-1)) 9 6 0) l a b R) (by intro _ _ _; eq_refl) ?_
      have hno : ¬ (k < n ∧ sp_ws (T k) = true) := fun z => by have z2 := sp_ws_i.mp z.2; omega
      obtain rfl : s = k := by rw [← he]; exact sp_e_f hno
      have es : s = sp_s T n p := hs.symm
      obtain ⟨t1, t2⟩ := sp_t0 (T := T) (n := n) (p := p) (by omega)
      exact he_ret ⟨_, _, cff_u (cff_u (cff_u hf (by decide) (by decide)) (by decide) (by decide)) (by decide) (by decide), ck_of (s := s) (e := s) (k := 0) (by exact h3) (by rfl) (by exact h5) (by rfl) (by rfl) es (by omega) t1.symm (sp_cw0 (by omega)).symm (fun z => absurd z (by omega)) (fun z => absurd z (by omega)) (fun z => absurd z (by omega)), rfl⟩ (by rfl) (by rfl) (by rfl)
  | succ r ih =>
    intro k hr hpk hk g2 hf h3 h5 he
    refine he_s 4 (pc' := 8) (lc' := [(0, .ref 9)]) (stk' := [.int (g2 9 3), .int (g2 9 5)]) (mem' := cm g2 l a b R) (by intro _ _ _; eq_refl) ?_
    try rw [h5]
    try rw [h3]
    refine he_s 1 (pc' := cond (fx_cb .ge (nI k) (nI n)) 50 11) (lc' := [(0, .ref 9)]) (stk' := []) (mem' := cm g2 l a b R) (by intro _ _ _; eq_refl) ?_
    by_cases y3 : n ≤ k
    · rw [show (fx_cb .ge (nI k) (nI n)) = true from cb_geT (a := k) (b := n) (by omega) (by omega) (by omega)]
      dsimp only [cond]
      refine he_s 10 (pc' := 68) (lc' := [(0, .ref 9)]) (stk' := [.int (g2 9 5), .ref 9]) (mem' := cm (fm_u (fm_u g2 9 4 (g2 9 5)) 9 7 (-1)) l a b R) (by intro _ _ _; eq_refl) ?_
      try rw [h5]
      refine he_ivV (ha_signAt (k := k) (show (fm_u (fm_u g2 9 4 (nI k)) 9 7 (-1)) 9 3 = nI n from h3) hn (by omega)) (by omega) (by rfl) (by rfl) (by rfl) (by rfl) (by rfl) (by rfl) ?_
      rw [if_neg (show ¬ k < n from (by omega))]
      refine he_s 5 (pc' := 80) (lc' := [(1, .int (-1)), (0, .ref 9)]) (stk' := [.int (g2 9 3), .int (g2 9 5)]) (mem' := cm (fm_u (fm_u g2 9 4 (nI k)) 9 7 (-1)) l a b R) (by intro _ _ _; eq_refl) ?_
      try rw [h5]
      try rw [h3]
      refine he_s 1 (pc' := cond (fx_cb .lt (nI k) (nI n)) 91 83) (lc' := [(1, .int (-1)), (0, .ref 9)]) (stk' := []) (mem' := cm (fm_u (fm_u g2 9 4 (nI k)) 9 7 (-1)) l a b R) (by intro _ _ _; eq_refl) ?_
      by_cases y5 : k < n
      · rw [show (fx_cb .lt (nI k) (nI n)) = true from cb_ltT (a := k) (b := n) (by omega) (by omega) (by omega)]
        dsimp only [cond]
        refine he_s 2 (pc' := 94) (lc' := [(1, .int (-1)), (0, .ref 9)]) (stk' := [.int 97, .int (-1)]) (mem' := cm (fm_u (fm_u g2 9 4 (nI k)) 9 7 (-1)) l a b R) (by intro _ _ _; eq_refl) ?_
        refine he_s 1 (pc' := cond (fx_cb .lt (-1) 97) 110 97) (lc' := [(1, .int (-1)), (0, .ref 9)]) (stk' := []) (mem' := cm (fm_u (fm_u g2 9 4 (nI k)) 9 7 (-1)) l a b R) (by intro _ _ _; eq_refl) ?_
        rw [show (fx_cb .lt (-1) 97) = true from by decide]
        dsimp only [cond]
        refine he_s 2 (pc' := 113) (lc' := [(1, .int (-1)), (0, .ref 9)]) (stk' := [.int 48, .int (-1)]) (mem' := cm (fm_u (fm_u g2 9 4 (nI k)) 9 7 (-1)) l a b R) (by intro _ _ _; eq_refl) ?_
        refine he_s 1 (pc' := cond (fx_cb .lt (-1) 48) 129 116) (lc' := [(1, .int (-1)), (0, .ref 9)]) (stk' := []) (mem' := cm (fm_u (fm_u g2 9 4 (nI k)) 9 7 (-1)) l a b R) (by intro _ _ _; eq_refl) ?_
        rw [show (fx_cb .lt (-1) 48) = true from by decide]
        dsimp only [cond]
        refine he_s 2 (pc' := 132) (lc' := [(1, .int (-1)), (0, .ref 9)]) (stk' := [.int 59, .int (-1)]) (mem' := cm (fm_u (fm_u g2 9 4 (nI k)) 9 7 (-1)) l a b R) (by intro _ _ _; eq_refl) ?_
        refine he_s 1 (pc' := cond (fx_cb .eq (-1) 59) 153 135) (lc' := [(1, .int (-1)), (0, .ref 9)]) (stk' := []) (mem' := cm (fm_u (fm_u g2 9 4 (nI k)) 9 7 (-1)) l a b R) (by intro _ _ _; eq_refl) ?_
        rw [show (fx_cb .eq (-1) 59) = false from by decide]
        dsimp only [cond]
        refine he_s 2 (pc' := 138) (lc' := [(1, .int (-1)), (0, .ref 9)]) (stk' := [.int 60, .int (-1)]) (mem' := cm (fm_u (fm_u g2 9 4 (nI k)) 9 7 (-1)) l a b R) (by intro _ _ _; eq_refl) ?_
        refine he_s 1 (pc' := cond (fx_cb .eq (-1) 60) 153 141) (lc' := [(1, .int (-1)), (0, .ref 9)]) (stk' := []) (mem' := cm (fm_u (fm_u g2 9 4 (nI k)) 9 7 (-1)) l a b R) (by intro _ _ _; eq_refl) ?_
        rw [show (fx_cb .eq (-1) 60) = false from by decide]
        dsimp only [cond]
        refine he_s 2 (pc' := 144) (lc' := [(1, .int (-1)), (0, .ref 9)]) (stk' := [.int 62, .int (-1)]) (mem' := cm (fm_u (fm_u g2 9 4 (nI k)) 9 7 (-1)) l a b R) (by intro _ _ _; eq_refl) ?_
        refine he_s 1 (pc' := cond (fx_cb .eq (-1) 62) 153 147) (lc' := [(1, .int (-1)), (0, .ref 9)]) (stk' := []) (mem' := cm (fm_u (fm_u g2 9 4 (nI k)) 9 7 (-1)) l a b R) (by intro _ _ _; eq_refl) ?_
        rw [show (fx_cb .eq (-1) 62) = false from by decide]
        dsimp only [cond]
        refine he_s 2 (pc' := 150) (lc' := [(1, .int (-1)), (0, .ref 9)]) (stk' := [.int 61, .int (-1)]) (mem' := cm (fm_u (fm_u g2 9 4 (nI k)) 9 7 (-1)) l a b R) (by intro _ _ _; eq_refl) ?_
        refine he_s 1 (pc' := cond (fx_cb .ne (-1) 61) 176 153) (lc' := [(1, .int (-1)), (0, .ref 9)]) (stk' := []) (mem' := cm (fm_u (fm_u g2 9 4 (nI k)) 9 7 (-1)) l a b R) (by intro _ _ _; eq_refl) ?_
        rw [show (fx_cb .ne (-1) 61) = true from by decide]
        dsimp only [cond]
        refine he_s 3 (pc' := 181) (lc' := [(1, .int (-1)), (0, .ref 9)]) (stk' := []) (mem' := cm (fm_u (fm_u (fm_u g2 9 4 (nI k)) 9 7 (-1)) 9 6 4) l a b R) (by intro _ _ _; eq_refl) ?_
        have hno : ¬ (k < n ∧ sp_ws (T k) = true) := fun z => by have z2 := sp_ws_i.mp z.2; omega
        obtain rfl : s = k := by rw [← he]; exact sp_e_f hno
        have es : s = sp_s T n p := hs.symm
        obtain ⟨t1, t2⟩ := sp_t4 (T := T) (n := n) (p := p) (by omega) (fun z => by have z2 := sp_sm_i.mp z; rw [← es] at z2; omega) (fun z => by have z2 := sp_dg_i.mp z; rw [← es] at z2; omega) (fun z => by have z2 := sp_sg_i.mp z; rw [← es] at z2; omega)
        exact he_ret ⟨_, _, cff_u (cff_u (cff_u hf (by decide) (by decide)) (by decide) (by decide)) (by decide) (by decide), ck_of (s := s) (e := s) (k := 4) (by exact h3) (by rfl) (by exact h5) (by rfl) (by rfl) es (by omega) t1.symm (sp_cw0 (by omega)).symm (fun z => absurd z (by omega)) (fun z => absurd z (by omega)) (fun z => absurd z (by omega)), rfl⟩ (by rfl) (by rfl) (by rfl)
      · rw [show (fx_cb .lt (nI k) (nI n)) = false from cb_ltF (a := k) (b := n) (by omega) (by omega) (by omega)]
        dsimp only [cond]
        refine he_s 4 (pc' := 181) (lc' := [(1, .int (-1)), (0, .ref 9)]) (stk' := []) (mem' := cm (fm_u (fm_u (fm_u g2 9 4 (nI k)) 9 7 (-1)) 9 6 0) l a b R) (by intro _ _ _; eq_refl) ?_
        have hno : ¬ (k < n ∧ sp_ws (T k) = true) := fun z => by have z2 := sp_ws_i.mp z.2; omega
        obtain rfl : s = k := by rw [← he]; exact sp_e_f hno
        have es : s = sp_s T n p := hs.symm
        obtain ⟨t1, t2⟩ := sp_t0 (T := T) (n := n) (p := p) (by omega)
        exact he_ret ⟨_, _, cff_u (cff_u (cff_u hf (by decide) (by decide)) (by decide) (by decide)) (by decide) (by decide), ck_of (s := s) (e := s) (k := 0) (by exact h3) (by rfl) (by exact h5) (by rfl) (by rfl) es (by omega) t1.symm (sp_cw0 (by omega)).symm (fun z => absurd z (by omega)) (fun z => absurd z (by omega)) (fun z => absurd z (by omega)), rfl⟩ (by rfl) (by rfl) (by rfl)
    · rw [show (fx_cb .ge (nI k) (nI n)) = false from cb_geF (a := k) (b := n) (by omega) (by omega) (by omega)]
      dsimp only [cond]
      refine he_s 3 (pc' := 16) (lc' := [(0, .ref 9)]) (stk' := [.int (g2 9 5), .ref 9]) (mem' := cm g2 l a b R) (by intro _ _ _; eq_refl) ?_
      try rw [h5]
      refine he_ivV (ha_signAt (k := k) (show g2 9 3 = nI n from h3) hn (by omega)) (by omega) (by rfl) (by rfl) (by rfl) (by rfl) (by rfl) (by rfl) ?_
      rw [if_pos (show k < n from (by omega))]
      rcases hT.2 k (by omega) with ⟨uc6, ec6⟩ | ⟨uc6, wc6, ec6⟩
      · rw [ec6]
        refine he_s 1 (pc' := 21) (lc' := [(0, .ref 9)]) (stk' := [.int 10, .int (nI (T k))]) (mem' := cm g2 l a b R) (by intro _ _ _; eq_refl) ?_
        refine he_s 1 (pc' := cond (fx_cb .eq (nI (T k)) 10) 37 24) (lc' := [(0, .ref 9)]) (stk' := []) (mem' := cm g2 l a b R) (by intro _ _ _; eq_refl) ?_
        by_cases y7 : (T k) = 10
        · rw [show (fx_cb .eq (nI (T k)) 10) = true from cb_eqT (a := (T k)) (b := 10) (by omega) (by omega) (by omega)]
          dsimp only [cond]
          refine he_s 7 (pc' := 0) (lc' := [(0, .ref 9)]) (stk' := []) (mem' := cm (fm_u g2 9 5 ((g2 9 5) + 1)) l a b R) (by intro _ _ _; eq_refl) ?_
          try rw [h5]
          rw [show ((nI k) + 1 : Int32) = nI (k + 1) from by simp only [show (1 : Int32) = nI 1 from rfl, nI_add, fm_mul]]
          have hsm : sp_ws (T k) = true := sp_ws_i.mpr (by omega)
          refine ih (k + 1) (by omega) (by omega) (by omega) _ (cff_u hf (by decide) (by decide)) h3 rfl ?_
          rw [← he]; exact (sp_e_t (by omega) hsm).symm
        · rw [show (fx_cb .eq (nI (T k)) 10) = false from cb_eqF (a := (T k)) (b := 10) (by omega) (by omega) (by omega)]
          dsimp only [cond]
          refine he_s 3 (pc' := 29) (lc' := [(0, .ref 9)]) (stk' := [.int (g2 9 5), .ref 9]) (mem' := cm g2 l a b R) (by intro _ _ _; eq_refl) ?_
          try rw [h5]
          refine he_ivV (ha_signAt (k := k) (show g2 9 3 = nI n from h3) hn (by omega)) (by omega) (by rfl) (by rfl) (by rfl) (by rfl) (by rfl) (by rfl) ?_
          rw [if_pos (show k < n from (by omega)), ec6]
          refine he_s 1 (pc' := 34) (lc' := [(0, .ref 9)]) (stk' := [.int 32, .int (nI (T k))]) (mem' := cm g2 l a b R) (by intro _ _ _; eq_refl) ?_
          refine he_s 1 (pc' := cond (fx_cb .ne (nI (T k)) 32) 50 37) (lc' := [(0, .ref 9)]) (stk' := []) (mem' := cm g2 l a b R) (by intro _ _ _; eq_refl) ?_
          by_cases y9 : (T k) = 32
          · rw [show (fx_cb .ne (nI (T k)) 32) = false from cb_neF (a := (T k)) (b := 32) (by omega) (by omega) (by omega)]
            dsimp only [cond]
            refine he_s 7 (pc' := 0) (lc' := [(0, .ref 9)]) (stk' := []) (mem' := cm (fm_u g2 9 5 ((g2 9 5) + 1)) l a b R) (by intro _ _ _; eq_refl) ?_
            try rw [h5]
            rw [show ((nI k) + 1 : Int32) = nI (k + 1) from by simp only [show (1 : Int32) = nI 1 from rfl, nI_add, fm_mul]]
            have hsm : sp_ws (T k) = true := sp_ws_i.mpr (by omega)
            refine ih (k + 1) (by omega) (by omega) (by omega) _ (cff_u hf (by decide) (by decide)) h3 rfl ?_
            rw [← he]; exact (sp_e_t (by omega) hsm).symm
          · rw [show (fx_cb .ne (nI (T k)) 32) = true from cb_neT (a := (T k)) (b := 32) (by omega) (by omega) (by omega)]
            dsimp only [cond]
            refine he_s 10 (pc' := 68) (lc' := [(0, .ref 9)]) (stk' := [.int (g2 9 5), .ref 9]) (mem' := cm (fm_u (fm_u g2 9 4 (g2 9 5)) 9 7 (-1)) l a b R) (by intro _ _ _; eq_refl) ?_
            try rw [h5]
            refine he_ivV (ha_signAt (k := k) (show (fm_u (fm_u g2 9 4 (nI k)) 9 7 (-1)) 9 3 = nI n from h3) hn (by omega)) (by omega) (by rfl) (by rfl) (by rfl) (by rfl) (by rfl) (by rfl) ?_
            rw [if_pos (show k < n from (by omega)), ec6]
            refine he_s 5 (pc' := 80) (lc' := [(1, .int (nI (T k))), (0, .ref 9)]) (stk' := [.int (g2 9 3), .int (g2 9 5)]) (mem' := cm (fm_u (fm_u g2 9 4 (nI k)) 9 7 (-1)) l a b R) (by intro _ _ _; eq_refl) ?_
            try rw [h5]
            try rw [h3]
            refine he_s 1 (pc' := cond (fx_cb .lt (nI k) (nI n)) 91 83) (lc' := [(1, .int (nI (T k))), (0, .ref 9)]) (stk' := []) (mem' := cm (fm_u (fm_u g2 9 4 (nI k)) 9 7 (-1)) l a b R) (by intro _ _ _; eq_refl) ?_
            by_cases y11 : k < n
            · rw [show (fx_cb .lt (nI k) (nI n)) = true from cb_ltT (a := k) (b := n) (by omega) (by omega) (by omega)]
              dsimp only [cond]
              refine he_s 2 (pc' := 94) (lc' := [(1, .int (nI (T k))), (0, .ref 9)]) (stk' := [.int 97, .int (nI (T k))]) (mem' := cm (fm_u (fm_u g2 9 4 (nI k)) 9 7 (-1)) l a b R) (by intro _ _ _; eq_refl) ?_
              refine he_s 1 (pc' := cond (fx_cb .lt (nI (T k)) 97) 110 97) (lc' := [(1, .int (nI (T k))), (0, .ref 9)]) (stk' := []) (mem' := cm (fm_u (fm_u g2 9 4 (nI k)) 9 7 (-1)) l a b R) (by intro _ _ _; eq_refl) ?_
              by_cases y12 : (T k) < 97
              · rw [show (fx_cb .lt (nI (T k)) 97) = true from cb_ltT (a := (T k)) (b := 97) (by omega) (by omega) (by omega)]
                dsimp only [cond]
                refine he_s 2 (pc' := 113) (lc' := [(1, .int (nI (T k))), (0, .ref 9)]) (stk' := [.int 48, .int (nI (T k))]) (mem' := cm (fm_u (fm_u g2 9 4 (nI k)) 9 7 (-1)) l a b R) (by intro _ _ _; eq_refl) ?_
                refine he_s 1 (pc' := cond (fx_cb .lt (nI (T k)) 48) 129 116) (lc' := [(1, .int (nI (T k))), (0, .ref 9)]) (stk' := []) (mem' := cm (fm_u (fm_u g2 9 4 (nI k)) 9 7 (-1)) l a b R) (by intro _ _ _; eq_refl) ?_
                by_cases y13 : (T k) < 48
                · rw [show (fx_cb .lt (nI (T k)) 48) = true from cb_ltT (a := (T k)) (b := 48) (by omega) (by omega) (by omega)]
                  dsimp only [cond]
                  refine he_s 2 (pc' := 132) (lc' := [(1, .int (nI (T k))), (0, .ref 9)]) (stk' := [.int 59, .int (nI (T k))]) (mem' := cm (fm_u (fm_u g2 9 4 (nI k)) 9 7 (-1)) l a b R) (by intro _ _ _; eq_refl) ?_
                  refine he_s 1 (pc' := cond (fx_cb .eq (nI (T k)) 59) 153 135) (lc' := [(1, .int (nI (T k))), (0, .ref 9)]) (stk' := []) (mem' := cm (fm_u (fm_u g2 9 4 (nI k)) 9 7 (-1)) l a b R) (by intro _ _ _; eq_refl) ?_
                  rw [show (fx_cb .eq (nI (T k)) 59) = false from cb_eqF (a := (T k)) (b := 59) (by omega) (by omega) (by omega)]
                  dsimp only [cond]
                  refine he_s 2 (pc' := 138) (lc' := [(1, .int (nI (T k))), (0, .ref 9)]) (stk' := [.int 60, .int (nI (T k))]) (mem' := cm (fm_u (fm_u g2 9 4 (nI k)) 9 7 (-1)) l a b R) (by intro _ _ _; eq_refl) ?_
                  refine he_s 1 (pc' := cond (fx_cb .eq (nI (T k)) 60) 153 141) (lc' := [(1, .int (nI (T k))), (0, .ref 9)]) (stk' := []) (mem' := cm (fm_u (fm_u g2 9 4 (nI k)) 9 7 (-1)) l a b R) (by intro _ _ _; eq_refl) ?_
                  rw [show (fx_cb .eq (nI (T k)) 60) = false from cb_eqF (a := (T k)) (b := 60) (by omega) (by omega) (by omega)]
                  dsimp only [cond]
                  refine he_s 2 (pc' := 144) (lc' := [(1, .int (nI (T k))), (0, .ref 9)]) (stk' := [.int 62, .int (nI (T k))]) (mem' := cm (fm_u (fm_u g2 9 4 (nI k)) 9 7 (-1)) l a b R) (by intro _ _ _; eq_refl) ?_
                  refine he_s 1 (pc' := cond (fx_cb .eq (nI (T k)) 62) 153 147) (lc' := [(1, .int (nI (T k))), (0, .ref 9)]) (stk' := []) (mem' := cm (fm_u (fm_u g2 9 4 (nI k)) 9 7 (-1)) l a b R) (by intro _ _ _; eq_refl) ?_
                  rw [show (fx_cb .eq (nI (T k)) 62) = false from cb_eqF (a := (T k)) (b := 62) (by omega) (by omega) (by omega)]
                  dsimp only [cond]
                  refine he_s 2 (pc' := 150) (lc' := [(1, .int (nI (T k))), (0, .ref 9)]) (stk' := [.int 61, .int (nI (T k))]) (mem' := cm (fm_u (fm_u g2 9 4 (nI k)) 9 7 (-1)) l a b R) (by intro _ _ _; eq_refl) ?_
                  refine he_s 1 (pc' := cond (fx_cb .ne (nI (T k)) 61) 176 153) (lc' := [(1, .int (nI (T k))), (0, .ref 9)]) (stk' := []) (mem' := cm (fm_u (fm_u g2 9 4 (nI k)) 9 7 (-1)) l a b R) (by intro _ _ _; eq_refl) ?_
                  rw [show (fx_cb .ne (nI (T k)) 61) = true from cb_neT (a := (T k)) (b := 61) (by omega) (by omega) (by omega)]
                  dsimp only [cond]
                  refine he_s 3 (pc' := 181) (lc' := [(1, .int (nI (T k))), (0, .ref 9)]) (stk' := []) (mem' := cm (fm_u (fm_u (fm_u g2 9 4 (nI k)) 9 7 (-1)) 9 6 4) l a b R) (by intro _ _ _; eq_refl) ?_
                  have hno : ¬ (k < n ∧ sp_ws (T k) = true) := fun z => by have z2 := sp_ws_i.mp z.2; omega
                  obtain rfl : s = k := by rw [← he]; exact sp_e_f hno
                  have es : s = sp_s T n p := hs.symm
                  obtain ⟨t1, t2⟩ := sp_t4 (T := T) (n := n) (p := p) (by omega) (fun z => by have z2 := sp_sm_i.mp z; rw [← es] at z2; omega) (fun z => by have z2 := sp_dg_i.mp z; rw [← es] at z2; omega) (fun z => by have z2 := sp_sg_i.mp z; rw [← es] at z2; omega)
                  exact he_ret ⟨_, _, cff_u (cff_u (cff_u hf (by decide) (by decide)) (by decide) (by decide)) (by decide) (by decide), ck_of (s := s) (e := s) (k := 4) (by exact h3) (by rfl) (by exact h5) (by rfl) (by rfl) es (by omega) t1.symm (sp_cw0 (by omega)).symm (fun z => absurd z (by omega)) (fun z => absurd z (by omega)) (fun z => absurd z (by omega)), rfl⟩ (by rfl) (by rfl) (by rfl)
                · rw [show (fx_cb .lt (nI (T k)) 48) = false from cb_ltF (a := (T k)) (b := 48) (by omega) (by omega) (by omega)]
                  dsimp only [cond]
                  refine he_s 2 (pc' := 119) (lc' := [(1, .int (nI (T k))), (0, .ref 9)]) (stk' := [.int 57, .int (nI (T k))]) (mem' := cm (fm_u (fm_u g2 9 4 (nI k)) 9 7 (-1)) l a b R) (by intro _ _ _; eq_refl) ?_
                  refine he_s 1 (pc' := cond (fx_cb .gt (nI (T k)) 57) 129 122) (lc' := [(1, .int (nI (T k))), (0, .ref 9)]) (stk' := []) (mem' := cm (fm_u (fm_u g2 9 4 (nI k)) 9 7 (-1)) l a b R) (by intro _ _ _; eq_refl) ?_
                  by_cases y14 : 57 < (T k)
                  · rw [show (fx_cb .gt (nI (T k)) 57) = true from cb_gtT (a := (T k)) (b := 57) (by omega) (by omega) (by omega)]
                    dsimp only [cond]
                    refine he_s 2 (pc' := 132) (lc' := [(1, .int (nI (T k))), (0, .ref 9)]) (stk' := [.int 59, .int (nI (T k))]) (mem' := cm (fm_u (fm_u g2 9 4 (nI k)) 9 7 (-1)) l a b R) (by intro _ _ _; eq_refl) ?_
                    refine he_s 1 (pc' := cond (fx_cb .eq (nI (T k)) 59) 153 135) (lc' := [(1, .int (nI (T k))), (0, .ref 9)]) (stk' := []) (mem' := cm (fm_u (fm_u g2 9 4 (nI k)) 9 7 (-1)) l a b R) (by intro _ _ _; eq_refl) ?_
                    by_cases y15 : (T k) = 59
                    · rw [show (fx_cb .eq (nI (T k)) 59) = true from cb_eqT (a := (T k)) (b := 59) (by omega) (by omega) (by omega)]
                      dsimp only [cond]
                      refine he_s 13 (pc' := 181) (lc' := [(1, .int (nI (T k))), (0, .ref 9)]) (stk' := []) (mem' := cm (fm_u (fm_u (fm_u (fm_u (fm_u g2 9 4 (nI k)) 9 7 (-1)) 9 6 3) 9 9 (nI (T k))) 9 5 ((g2 9 5) + 1)) l a b R) (by intro _ _ _; eq_refl) ?_
                      try rw [h5]
                      rw [show ((nI k) + 1 : Int32) = nI (k + 1) from by simp only [show (1 : Int32) = nI 1 from rfl, nI_add, fm_mul]]
                      have hno : ¬ (k < n ∧ sp_ws (T k) = true) := fun z => by have z2 := sp_ws_i.mp z.2; omega
                      obtain rfl : s = k := by rw [← he]; exact sp_e_f hno
                      have es : s = sp_s T n p := hs.symm
                      obtain ⟨t1, t2⟩ := sp_t3 (T := T) (n := n) (p := p) (by omega) (by rw [← es]; exact sp_sg_i.mpr ⟨by omega, by omega⟩)
                      exact he_ret ⟨_, _, cff_u (cff_u (cff_u (cff_u (cff_u hf (by decide) (by decide)) (by decide) (by decide)) (by decide) (by decide)) (by decide) (by decide)) (by decide) (by decide), ck_of (s := s) (e := s + 1) (k := 3) (by exact h3) (by rfl) (by rfl) (by rfl) (by rfl) es (by omega) t1.symm (sp_cw0 (by omega)).symm (fun z => absurd z (by omega)) (fun z => absurd z (by omega)) (fun _ => by rw [← es]; rfl), rfl⟩ (by rfl) (by rfl) (by rfl)
                    · rw [show (fx_cb .eq (nI (T k)) 59) = false from cb_eqF (a := (T k)) (b := 59) (by omega) (by omega) (by omega)]
                      dsimp only [cond]
                      refine he_s 2 (pc' := 138) (lc' := [(1, .int (nI (T k))), (0, .ref 9)]) (stk' := [.int 60, .int (nI (T k))]) (mem' := cm (fm_u (fm_u g2 9 4 (nI k)) 9 7 (-1)) l a b R) (by intro _ _ _; eq_refl) ?_
                      refine he_s 1 (pc' := cond (fx_cb .eq (nI (T k)) 60) 153 141) (lc' := [(1, .int (nI (T k))), (0, .ref 9)]) (stk' := []) (mem' := cm (fm_u (fm_u g2 9 4 (nI k)) 9 7 (-1)) l a b R) (by intro _ _ _; eq_refl) ?_
                      by_cases y16 : (T k) = 60
                      · rw [show (fx_cb .eq (nI (T k)) 60) = true from cb_eqT (a := (T k)) (b := 60) (by omega) (by omega) (by omega)]
                        dsimp only [cond]
                        refine he_s 13 (pc' := 181) (lc' := [(1, .int (nI (T k))), (0, .ref 9)]) (stk' := []) (mem' := cm (fm_u (fm_u (fm_u (fm_u (fm_u g2 9 4 (nI k)) 9 7 (-1)) 9 6 3) 9 9 (nI (T k))) 9 5 ((g2 9 5) + 1)) l a b R) (by intro _ _ _; eq_refl) ?_
                        try rw [h5]
                        rw [show ((nI k) + 1 : Int32) = nI (k + 1) from by simp only [show (1 : Int32) = nI 1 from rfl, nI_add, fm_mul]]
                        have hno : ¬ (k < n ∧ sp_ws (T k) = true) := fun z => by have z2 := sp_ws_i.mp z.2; omega
                        obtain rfl : s = k := by rw [← he]; exact sp_e_f hno
                        have es : s = sp_s T n p := hs.symm
                        obtain ⟨t1, t2⟩ := sp_t3 (T := T) (n := n) (p := p) (by omega) (by rw [← es]; exact sp_sg_i.mpr ⟨by omega, by omega⟩)
                        exact he_ret ⟨_, _, cff_u (cff_u (cff_u (cff_u (cff_u hf (by decide) (by decide)) (by decide) (by decide)) (by decide) (by decide)) (by decide) (by decide)) (by decide) (by decide), ck_of (s := s) (e := s + 1) (k := 3) (by exact h3) (by rfl) (by rfl) (by rfl) (by rfl) es (by omega) t1.symm (sp_cw0 (by omega)).symm (fun z => absurd z (by omega)) (fun z => absurd z (by omega)) (fun _ => by rw [← es]; rfl), rfl⟩ (by rfl) (by rfl) (by rfl)
                      · rw [show (fx_cb .eq (nI (T k)) 60) = false from cb_eqF (a := (T k)) (b := 60) (by omega) (by omega) (by omega)]
                        dsimp only [cond]
                        refine he_s 2 (pc' := 144) (lc' := [(1, .int (nI (T k))), (0, .ref 9)]) (stk' := [.int 62, .int (nI (T k))]) (mem' := cm (fm_u (fm_u g2 9 4 (nI k)) 9 7 (-1)) l a b R) (by intro _ _ _; eq_refl) ?_
                        refine he_s 1 (pc' := cond (fx_cb .eq (nI (T k)) 62) 153 147) (lc' := [(1, .int (nI (T k))), (0, .ref 9)]) (stk' := []) (mem' := cm (fm_u (fm_u g2 9 4 (nI k)) 9 7 (-1)) l a b R) (by intro _ _ _; eq_refl) ?_
                        by_cases y17 : (T k) = 62
                        · rw [show (fx_cb .eq (nI (T k)) 62) = true from cb_eqT (a := (T k)) (b := 62) (by omega) (by omega) (by omega)]
                          dsimp only [cond]
                          refine he_s 13 (pc' := 181) (lc' := [(1, .int (nI (T k))), (0, .ref 9)]) (stk' := []) (mem' := cm (fm_u (fm_u (fm_u (fm_u (fm_u g2 9 4 (nI k)) 9 7 (-1)) 9 6 3) 9 9 (nI (T k))) 9 5 ((g2 9 5) + 1)) l a b R) (by intro _ _ _; eq_refl) ?_
                          try rw [h5]
                          rw [show ((nI k) + 1 : Int32) = nI (k + 1) from by simp only [show (1 : Int32) = nI 1 from rfl, nI_add, fm_mul]]
                          have hno : ¬ (k < n ∧ sp_ws (T k) = true) := fun z => by have z2 := sp_ws_i.mp z.2; omega
                          obtain rfl : s = k := by rw [← he]; exact sp_e_f hno
                          have es : s = sp_s T n p := hs.symm
                          obtain ⟨t1, t2⟩ := sp_t3 (T := T) (n := n) (p := p) (by omega) (by rw [← es]; exact sp_sg_i.mpr ⟨by omega, by omega⟩)
                          exact he_ret ⟨_, _, cff_u (cff_u (cff_u (cff_u (cff_u hf (by decide) (by decide)) (by decide) (by decide)) (by decide) (by decide)) (by decide) (by decide)) (by decide) (by decide), ck_of (s := s) (e := s + 1) (k := 3) (by exact h3) (by rfl) (by rfl) (by rfl) (by rfl) es (by omega) t1.symm (sp_cw0 (by omega)).symm (fun z => absurd z (by omega)) (fun z => absurd z (by omega)) (fun _ => by rw [← es]; rfl), rfl⟩ (by rfl) (by rfl) (by rfl)
                        · rw [show (fx_cb .eq (nI (T k)) 62) = false from cb_eqF (a := (T k)) (b := 62) (by omega) (by omega) (by omega)]
                          dsimp only [cond]
                          refine he_s 2 (pc' := 150) (lc' := [(1, .int (nI (T k))), (0, .ref 9)]) (stk' := [.int 61, .int (nI (T k))]) (mem' := cm (fm_u (fm_u g2 9 4 (nI k)) 9 7 (-1)) l a b R) (by intro _ _ _; eq_refl) ?_
                          refine he_s 1 (pc' := cond (fx_cb .ne (nI (T k)) 61) 176 153) (lc' := [(1, .int (nI (T k))), (0, .ref 9)]) (stk' := []) (mem' := cm (fm_u (fm_u g2 9 4 (nI k)) 9 7 (-1)) l a b R) (by intro _ _ _; eq_refl) ?_
                          by_cases y18 : (T k) = 61
                          · rw [show (fx_cb .ne (nI (T k)) 61) = false from cb_neF (a := (T k)) (b := 61) (by omega) (by omega) (by omega)]
                            dsimp only [cond]
                            refine he_s 13 (pc' := 181) (lc' := [(1, .int (nI (T k))), (0, .ref 9)]) (stk' := []) (mem' := cm (fm_u (fm_u (fm_u (fm_u (fm_u g2 9 4 (nI k)) 9 7 (-1)) 9 6 3) 9 9 (nI (T k))) 9 5 ((g2 9 5) + 1)) l a b R) (by intro _ _ _; eq_refl) ?_
                            try rw [h5]
                            rw [show ((nI k) + 1 : Int32) = nI (k + 1) from by simp only [show (1 : Int32) = nI 1 from rfl, nI_add, fm_mul]]
                            have hno : ¬ (k < n ∧ sp_ws (T k) = true) := fun z => by have z2 := sp_ws_i.mp z.2; omega
                            obtain rfl : s = k := by rw [← he]; exact sp_e_f hno
                            have es : s = sp_s T n p := hs.symm
                            obtain ⟨t1, t2⟩ := sp_t3 (T := T) (n := n) (p := p) (by omega) (by rw [← es]; exact sp_sg_i.mpr ⟨by omega, by omega⟩)
                            exact he_ret ⟨_, _, cff_u (cff_u (cff_u (cff_u (cff_u hf (by decide) (by decide)) (by decide) (by decide)) (by decide) (by decide)) (by decide) (by decide)) (by decide) (by decide), ck_of (s := s) (e := s + 1) (k := 3) (by exact h3) (by rfl) (by rfl) (by rfl) (by rfl) es (by omega) t1.symm (sp_cw0 (by omega)).symm (fun z => absurd z (by omega)) (fun z => absurd z (by omega)) (fun _ => by rw [← es]; rfl), rfl⟩ (by rfl) (by rfl) (by rfl)
                          · rw [show (fx_cb .ne (nI (T k)) 61) = true from cb_neT (a := (T k)) (b := 61) (by omega) (by omega) (by omega)]
                            dsimp only [cond]
                            refine he_s 3 (pc' := 181) (lc' := [(1, .int (nI (T k))), (0, .ref 9)]) (stk' := []) (mem' := cm (fm_u (fm_u (fm_u g2 9 4 (nI k)) 9 7 (-1)) 9 6 4) l a b R) (by intro _ _ _; eq_refl) ?_
                            have hno : ¬ (k < n ∧ sp_ws (T k) = true) := fun z => by have z2 := sp_ws_i.mp z.2; omega
                            obtain rfl : s = k := by rw [← he]; exact sp_e_f hno
                            have es : s = sp_s T n p := hs.symm
                            obtain ⟨t1, t2⟩ := sp_t4 (T := T) (n := n) (p := p) (by omega) (fun z => by have z2 := sp_sm_i.mp z; rw [← es] at z2; omega) (fun z => by have z2 := sp_dg_i.mp z; rw [← es] at z2; omega) (fun z => by have z2 := sp_sg_i.mp z; rw [← es] at z2; omega)
                            exact he_ret ⟨_, _, cff_u (cff_u (cff_u hf (by decide) (by decide)) (by decide) (by decide)) (by decide) (by decide), ck_of (s := s) (e := s) (k := 4) (by exact h3) (by rfl) (by exact h5) (by rfl) (by rfl) es (by omega) t1.symm (sp_cw0 (by omega)).symm (fun z => absurd z (by omega)) (fun z => absurd z (by omega)) (fun z => absurd z (by omega)), rfl⟩ (by rfl) (by rfl) (by rfl)
                  · rw [show (fx_cb .gt (nI (T k)) 57) = false from cb_gtF (a := (T k)) (b := 57) (by omega) (by omega) (by omega)]
                    dsimp only [cond]
                    refine he_s 1 (pc' := 123) (lc' := [(1, .int (nI (T k))), (0, .ref 9)]) (stk' := [.ref 9]) (mem' := cm (fm_u (fm_u g2 9 4 (nI k)) 9 7 (-1)) l a b R) (by intro _ _ _; eq_refl) ?_
                    obtain ⟨v0, mem0, ⟨g3, k1, k2, k3, k4, k5, k6, hR3⟩, hr3⟩ := ha_scanNumber (g := (fm_u (fm_u g2 9 4 (nI k)) 9 7 (-1))) (l := l) (b := b) (R := R) (s := k) hn hT hk h3 rfl h5 rfl
                    cases hR3
                    refine he_ivV hr3 (by omega) (by rfl) (by rfl) (by rfl) (by rfl) (by rfl) (by rfl) ?_
                    refine he_s 1 (pc' := 181) (lc' := [(1, .int (nI (T k))), (0, .ref 9)]) (stk' := []) (mem' := cm g3 l a b R) (by intro _ _ _; eq_refl) ?_
                    have hno : ¬ (k < n ∧ sp_ws (T k) = true) := fun z => by have z2 := sp_ws_i.mp z.2; omega
                    obtain rfl : s = k := by rw [← he]; exact sp_e_f hno
                    have es : s = sp_s T n p := hs.symm
                    obtain ⟨t1, t2⟩ := sp_t2 (T := T) (n := n) (p := p) (by omega) (by rw [← es]; exact sp_dg_i.mpr ⟨by omega, by omega⟩)
                    have t3 : sp_k T n p ≠ 1 ∧ sp_k T n p ≠ 3 := by rw [t1]; split <;> decide
                    refine he_ret ⟨g3, _, cff_tr (cff_u (cff_u hf (by decide) (by decide)) (by decide) (by decide)) k1, ck_of ((k1.1.2.1 3 (by decide)).trans h3) k2 k3 (show g3 9 6 = nI (if sp_n T n p ≤ sp_s T n p + 4 then 2 else 4) from ?_) k5 es (by rw [t2, es]) t1.symm (sp_cw0 t3.1).symm (fun z => absurd z t3.1) (fun _ => ?_) (fun z => absurd z t3.2), rfl⟩ (by rfl) (by rfl) (by rfl)
                    · rw [k4, t2, ← es]
                      split <;> rfl
                    · unfold sp_v
                      rw [k6, t2, ← es]
              · rw [show (fx_cb .lt (nI (T k)) 97) = false from cb_ltF (a := (T k)) (b := 97) (by omega) (by omega) (by omega)]
                dsimp only [cond]
                refine he_s 2 (pc' := 100) (lc' := [(1, .int (nI (T k))), (0, .ref 9)]) (stk' := [.int 122, .int (nI (T k))]) (mem' := cm (fm_u (fm_u g2 9 4 (nI k)) 9 7 (-1)) l a b R) (by intro _ _ _; eq_refl) ?_
                refine he_s 1 (pc' := cond (fx_cb .gt (nI (T k)) 122) 110 103) (lc' := [(1, .int (nI (T k))), (0, .ref 9)]) (stk' := []) (mem' := cm (fm_u (fm_u g2 9 4 (nI k)) 9 7 (-1)) l a b R) (by intro _ _ _; eq_refl) ?_
                by_cases y19 : 122 < (T k)
                · rw [show (fx_cb .gt (nI (T k)) 122) = true from cb_gtT (a := (T k)) (b := 122) (by omega) (by omega) (by omega)]
                  dsimp only [cond]
                  refine he_s 2 (pc' := 113) (lc' := [(1, .int (nI (T k))), (0, .ref 9)]) (stk' := [.int 48, .int (nI (T k))]) (mem' := cm (fm_u (fm_u g2 9 4 (nI k)) 9 7 (-1)) l a b R) (by intro _ _ _; eq_refl) ?_
                  refine he_s 1 (pc' := cond (fx_cb .lt (nI (T k)) 48) 129 116) (lc' := [(1, .int (nI (T k))), (0, .ref 9)]) (stk' := []) (mem' := cm (fm_u (fm_u g2 9 4 (nI k)) 9 7 (-1)) l a b R) (by intro _ _ _; eq_refl) ?_
                  rw [show (fx_cb .lt (nI (T k)) 48) = false from cb_ltF (a := (T k)) (b := 48) (by omega) (by omega) (by omega)]
                  dsimp only [cond]
                  refine he_s 2 (pc' := 119) (lc' := [(1, .int (nI (T k))), (0, .ref 9)]) (stk' := [.int 57, .int (nI (T k))]) (mem' := cm (fm_u (fm_u g2 9 4 (nI k)) 9 7 (-1)) l a b R) (by intro _ _ _; eq_refl) ?_
                  refine he_s 1 (pc' := cond (fx_cb .gt (nI (T k)) 57) 129 122) (lc' := [(1, .int (nI (T k))), (0, .ref 9)]) (stk' := []) (mem' := cm (fm_u (fm_u g2 9 4 (nI k)) 9 7 (-1)) l a b R) (by intro _ _ _; eq_refl) ?_
                  rw [show (fx_cb .gt (nI (T k)) 57) = true from cb_gtT (a := (T k)) (b := 57) (by omega) (by omega) (by omega)]
                  dsimp only [cond]
                  refine he_s 2 (pc' := 132) (lc' := [(1, .int (nI (T k))), (0, .ref 9)]) (stk' := [.int 59, .int (nI (T k))]) (mem' := cm (fm_u (fm_u g2 9 4 (nI k)) 9 7 (-1)) l a b R) (by intro _ _ _; eq_refl) ?_
                  refine he_s 1 (pc' := cond (fx_cb .eq (nI (T k)) 59) 153 135) (lc' := [(1, .int (nI (T k))), (0, .ref 9)]) (stk' := []) (mem' := cm (fm_u (fm_u g2 9 4 (nI k)) 9 7 (-1)) l a b R) (by intro _ _ _; eq_refl) ?_
                  rw [show (fx_cb .eq (nI (T k)) 59) = false from cb_eqF (a := (T k)) (b := 59) (by omega) (by omega) (by omega)]
                  dsimp only [cond]
                  refine he_s 2 (pc' := 138) (lc' := [(1, .int (nI (T k))), (0, .ref 9)]) (stk' := [.int 60, .int (nI (T k))]) (mem' := cm (fm_u (fm_u g2 9 4 (nI k)) 9 7 (-1)) l a b R) (by intro _ _ _; eq_refl) ?_
                  refine he_s 1 (pc' := cond (fx_cb .eq (nI (T k)) 60) 153 141) (lc' := [(1, .int (nI (T k))), (0, .ref 9)]) (stk' := []) (mem' := cm (fm_u (fm_u g2 9 4 (nI k)) 9 7 (-1)) l a b R) (by intro _ _ _; eq_refl) ?_
                  rw [show (fx_cb .eq (nI (T k)) 60) = false from cb_eqF (a := (T k)) (b := 60) (by omega) (by omega) (by omega)]
                  dsimp only [cond]
                  refine he_s 2 (pc' := 144) (lc' := [(1, .int (nI (T k))), (0, .ref 9)]) (stk' := [.int 62, .int (nI (T k))]) (mem' := cm (fm_u (fm_u g2 9 4 (nI k)) 9 7 (-1)) l a b R) (by intro _ _ _; eq_refl) ?_
                  refine he_s 1 (pc' := cond (fx_cb .eq (nI (T k)) 62) 153 147) (lc' := [(1, .int (nI (T k))), (0, .ref 9)]) (stk' := []) (mem' := cm (fm_u (fm_u g2 9 4 (nI k)) 9 7 (-1)) l a b R) (by intro _ _ _; eq_refl) ?_
                  rw [show (fx_cb .eq (nI (T k)) 62) = false from cb_eqF (a := (T k)) (b := 62) (by omega) (by omega) (by omega)]
                  dsimp only [cond]
                  refine he_s 2 (pc' := 150) (lc' := [(1, .int (nI (T k))), (0, .ref 9)]) (stk' := [.int 61, .int (nI (T k))]) (mem' := cm (fm_u (fm_u g2 9 4 (nI k)) 9 7 (-1)) l a b R) (by intro _ _ _; eq_refl) ?_
                  refine he_s 1 (pc' := cond (fx_cb .ne (nI (T k)) 61) 176 153) (lc' := [(1, .int (nI (T k))), (0, .ref 9)]) (stk' := []) (mem' := cm (fm_u (fm_u g2 9 4 (nI k)) 9 7 (-1)) l a b R) (by intro _ _ _; eq_refl) ?_
                  rw [show (fx_cb .ne (nI (T k)) 61) = true from cb_neT (a := (T k)) (b := 61) (by omega) (by omega) (by omega)]
                  dsimp only [cond]
                  refine he_s 3 (pc' := 181) (lc' := [(1, .int (nI (T k))), (0, .ref 9)]) (stk' := []) (mem' := cm (fm_u (fm_u (fm_u g2 9 4 (nI k)) 9 7 (-1)) 9 6 4) l a b R) (by intro _ _ _; eq_refl) ?_
                  have hno : ¬ (k < n ∧ sp_ws (T k) = true) := fun z => by have z2 := sp_ws_i.mp z.2; omega
                  obtain rfl : s = k := by rw [← he]; exact sp_e_f hno
                  have es : s = sp_s T n p := hs.symm
                  obtain ⟨t1, t2⟩ := sp_t4 (T := T) (n := n) (p := p) (by omega) (fun z => by have z2 := sp_sm_i.mp z; rw [← es] at z2; omega) (fun z => by have z2 := sp_dg_i.mp z; rw [← es] at z2; omega) (fun z => by have z2 := sp_sg_i.mp z; rw [← es] at z2; omega)
                  exact he_ret ⟨_, _, cff_u (cff_u (cff_u hf (by decide) (by decide)) (by decide) (by decide)) (by decide) (by decide), ck_of (s := s) (e := s) (k := 4) (by exact h3) (by rfl) (by exact h5) (by rfl) (by rfl) es (by omega) t1.symm (sp_cw0 (by omega)).symm (fun z => absurd z (by omega)) (fun z => absurd z (by omega)) (fun z => absurd z (by omega)), rfl⟩ (by rfl) (by rfl) (by rfl)
                · rw [show (fx_cb .gt (nI (T k)) 122) = false from cb_gtF (a := (T k)) (b := 122) (by omega) (by omega) (by omega)]
                  dsimp only [cond]
                  refine he_s 1 (pc' := 104) (lc' := [(1, .int (nI (T k))), (0, .ref 9)]) (stk' := [.ref 9]) (mem' := cm (fm_u (fm_u g2 9 4 (nI k)) 9 7 (-1)) l a b R) (by intro _ _ _; eq_refl) ?_
                  obtain ⟨v0, mem0, ⟨g3, l3, k1, k2, k3, k4, k5, k6, hR3⟩, hr3⟩ := ha_scanWord (g := (fm_u (fm_u g2 9 4 (nI k)) 9 7 (-1))) (l := l) (b := b) (R := R) (s := k) hn hT hR hk h3 rfl h5 rfl
                  cases hR3
                  refine he_ivV hr3 (by omega) (by rfl) (by rfl) (by rfl) (by rfl) (by rfl) (by rfl) ?_
                  refine he_s 1 (pc' := 181) (lc' := [(1, .int (nI (T k))), (0, .ref 9)]) (stk' := []) (mem' := cm g3 l3 a b R) (by intro _ _ _; eq_refl) ?_
                  have hno : ¬ (k < n ∧ sp_ws (T k) = true) := fun z => by have z2 := sp_ws_i.mp z.2; omega
                  obtain rfl : s = k := by rw [← he]; exact sp_e_f hno
                  have es : s = sp_s T n p := hs.symm
                  obtain ⟨t1, t2⟩ := sp_t1 (T := T) (n := n) (p := p) (by omega) (by rw [← es]; exact sp_sm_i.mpr ⟨by omega, by omega⟩)
                  refine he_ret ⟨g3, l3, cff_tr (cff_u (cff_u hf (by decide) (by decide)) (by decide) (by decide)) k1, ck_of ((k1.1.2.1 3 (by decide)).trans h3) k2 k3 k4 k5 es (by rw [t2, es]) t1.symm ?_ (fun _ => ?_) (fun z => absurd z (by omega)) (fun z => absurd z (by omega)), rfl⟩ (by rfl) (by rfl) (by rfl)
                  · unfold sp_cw sp_wd
                    rw [t1, t2, ← es]
                    by_cases e9 : sp_kw (sp_L T s (sp_e sp_sm T n s - s)) < 23
                    · rw [if_pos e9, if_pos ⟨rfl, e9⟩]
                    · rw [if_neg e9, if_neg (fun z => e9 z.2)]
                  · unfold sp_cn sp_wd
                    rw [k6, t2, ← es]
            · rw [show (fx_cb .lt (nI k) (nI n)) = false from cb_ltF (a := k) (b := n) (by omega) (by omega) (by omega)]
              dsimp only [cond]
              refine he_s 4 (pc' := 181) (lc' := [(1, .int (nI (T k))), (0, .ref 9)]) (stk' := []) (mem' := cm (fm_u (fm_u (fm_u g2 9 4 (nI k)) 9 7 (-1)) 9 6 0) l a b R) (by intro _ _ _; eq_refl) ?_
              have hno : ¬ (k < n ∧ sp_ws (T k) = true) := fun z => by have z2 := sp_ws_i.mp z.2; omega
              obtain rfl : s = k := by rw [← he]; exact sp_e_f hno
              have es : s = sp_s T n p := hs.symm
              obtain ⟨t1, t2⟩ := sp_t0 (T := T) (n := n) (p := p) (by omega)
              exact he_ret ⟨_, _, cff_u (cff_u (cff_u hf (by decide) (by decide)) (by decide) (by decide)) (by decide) (by decide), ck_of (s := s) (e := s) (k := 0) (by exact h3) (by rfl) (by exact h5) (by rfl) (by rfl) es (by omega) t1.symm (sp_cw0 (by omega)).symm (fun z => absurd z (by omega)) (fun z => absurd z (by omega)) (fun z => absurd z (by omega)), rfl⟩ (by rfl) (by rfl) (by rfl)
      · refine he_s 1 (pc' := 21) (lc' := [(0, .ref 9)]) (stk' := [.int 10, .int (a 10 k)]) (mem' := cm g2 l a b R) (by intro _ _ _; eq_refl) ?_
        refine he_s 1 (pc' := cond (fx_cb .eq (a 10 k) 10) 37 24) (lc' := [(0, .ref 9)]) (stk' := []) (mem' := cm g2 l a b R) (by intro _ _ _; eq_refl) ?_
        rw [show (fx_cb .eq (a 10 k) 10) = false from cb_neg_eq ec6 (by decide)]
        dsimp only [cond]
        refine he_s 3 (pc' := 29) (lc' := [(0, .ref 9)]) (stk' := [.int (g2 9 5), .ref 9]) (mem' := cm g2 l a b R) (by intro _ _ _; eq_refl) ?_
        try rw [h5]
        refine he_ivV (ha_signAt (k := k) (show g2 9 3 = nI n from h3) hn (by omega)) (by omega) (by rfl) (by rfl) (by rfl) (by rfl) (by rfl) (by rfl) ?_
        rw [if_pos (show k < n from (by omega))]
        refine he_s 1 (pc' := 34) (lc' := [(0, .ref 9)]) (stk' := [.int 32, .int (a 10 k)]) (mem' := cm g2 l a b R) (by intro _ _ _; eq_refl) ?_
        refine he_s 1 (pc' := cond (fx_cb .ne (a 10 k) 32) 50 37) (lc' := [(0, .ref 9)]) (stk' := []) (mem' := cm g2 l a b R) (by intro _ _ _; eq_refl) ?_
        rw [show (fx_cb .ne (a 10 k) 32) = true from cb_neg_ne ec6 (by decide)]
        dsimp only [cond]
        refine he_s 10 (pc' := 68) (lc' := [(0, .ref 9)]) (stk' := [.int (g2 9 5), .ref 9]) (mem' := cm (fm_u (fm_u g2 9 4 (g2 9 5)) 9 7 (-1)) l a b R) (by intro _ _ _; eq_refl) ?_
        try rw [h5]
        refine he_ivV (ha_signAt (k := k) (show (fm_u (fm_u g2 9 4 (nI k)) 9 7 (-1)) 9 3 = nI n from h3) hn (by omega)) (by omega) (by rfl) (by rfl) (by rfl) (by rfl) (by rfl) (by rfl) ?_
        rw [if_pos (show k < n from (by omega))]
        refine he_s 5 (pc' := 80) (lc' := [(1, .int (a 10 k)), (0, .ref 9)]) (stk' := [.int (g2 9 3), .int (g2 9 5)]) (mem' := cm (fm_u (fm_u g2 9 4 (nI k)) 9 7 (-1)) l a b R) (by intro _ _ _; eq_refl) ?_
        try rw [h5]
        try rw [h3]
        refine he_s 1 (pc' := cond (fx_cb .lt (nI k) (nI n)) 91 83) (lc' := [(1, .int (a 10 k)), (0, .ref 9)]) (stk' := []) (mem' := cm (fm_u (fm_u g2 9 4 (nI k)) 9 7 (-1)) l a b R) (by intro _ _ _; eq_refl) ?_
        by_cases y22 : k < n
        · rw [show (fx_cb .lt (nI k) (nI n)) = true from cb_ltT (a := k) (b := n) (by omega) (by omega) (by omega)]
          dsimp only [cond]
          refine he_s 2 (pc' := 94) (lc' := [(1, .int (a 10 k)), (0, .ref 9)]) (stk' := [.int 97, .int (a 10 k)]) (mem' := cm (fm_u (fm_u g2 9 4 (nI k)) 9 7 (-1)) l a b R) (by intro _ _ _; eq_refl) ?_
          refine he_s 1 (pc' := cond (fx_cb .lt (a 10 k) 97) 110 97) (lc' := [(1, .int (a 10 k)), (0, .ref 9)]) (stk' := []) (mem' := cm (fm_u (fm_u g2 9 4 (nI k)) 9 7 (-1)) l a b R) (by intro _ _ _; eq_refl) ?_
          rw [show (fx_cb .lt (a 10 k) 97) = true from cb_neg_lt ec6 (by decide)]
          dsimp only [cond]
          refine he_s 2 (pc' := 113) (lc' := [(1, .int (a 10 k)), (0, .ref 9)]) (stk' := [.int 48, .int (a 10 k)]) (mem' := cm (fm_u (fm_u g2 9 4 (nI k)) 9 7 (-1)) l a b R) (by intro _ _ _; eq_refl) ?_
          refine he_s 1 (pc' := cond (fx_cb .lt (a 10 k) 48) 129 116) (lc' := [(1, .int (a 10 k)), (0, .ref 9)]) (stk' := []) (mem' := cm (fm_u (fm_u g2 9 4 (nI k)) 9 7 (-1)) l a b R) (by intro _ _ _; eq_refl) ?_
          rw [show (fx_cb .lt (a 10 k) 48) = true from cb_neg_lt ec6 (by decide)]
          dsimp only [cond]
          refine he_s 2 (pc' := 132) (lc' := [(1, .int (a 10 k)), (0, .ref 9)]) (stk' := [.int 59, .int (a 10 k)]) (mem' := cm (fm_u (fm_u g2 9 4 (nI k)) 9 7 (-1)) l a b R) (by intro _ _ _; eq_refl) ?_
          refine he_s 1 (pc' := cond (fx_cb .eq (a 10 k) 59) 153 135) (lc' := [(1, .int (a 10 k)), (0, .ref 9)]) (stk' := []) (mem' := cm (fm_u (fm_u g2 9 4 (nI k)) 9 7 (-1)) l a b R) (by intro _ _ _; eq_refl) ?_
          rw [show (fx_cb .eq (a 10 k) 59) = false from cb_neg_eq ec6 (by decide)]
          dsimp only [cond]
          refine he_s 2 (pc' := 138) (lc' := [(1, .int (a 10 k)), (0, .ref 9)]) (stk' := [.int 60, .int (a 10 k)]) (mem' := cm (fm_u (fm_u g2 9 4 (nI k)) 9 7 (-1)) l a b R) (by intro _ _ _; eq_refl) ?_
          refine he_s 1 (pc' := cond (fx_cb .eq (a 10 k) 60) 153 141) (lc' := [(1, .int (a 10 k)), (0, .ref 9)]) (stk' := []) (mem' := cm (fm_u (fm_u g2 9 4 (nI k)) 9 7 (-1)) l a b R) (by intro _ _ _; eq_refl) ?_
          rw [show (fx_cb .eq (a 10 k) 60) = false from cb_neg_eq ec6 (by decide)]
          dsimp only [cond]
          refine he_s 2 (pc' := 144) (lc' := [(1, .int (a 10 k)), (0, .ref 9)]) (stk' := [.int 62, .int (a 10 k)]) (mem' := cm (fm_u (fm_u g2 9 4 (nI k)) 9 7 (-1)) l a b R) (by intro _ _ _; eq_refl) ?_
          refine he_s 1 (pc' := cond (fx_cb .eq (a 10 k) 62) 153 147) (lc' := [(1, .int (a 10 k)), (0, .ref 9)]) (stk' := []) (mem' := cm (fm_u (fm_u g2 9 4 (nI k)) 9 7 (-1)) l a b R) (by intro _ _ _; eq_refl) ?_
          rw [show (fx_cb .eq (a 10 k) 62) = false from cb_neg_eq ec6 (by decide)]
          dsimp only [cond]
          refine he_s 2 (pc' := 150) (lc' := [(1, .int (a 10 k)), (0, .ref 9)]) (stk' := [.int 61, .int (a 10 k)]) (mem' := cm (fm_u (fm_u g2 9 4 (nI k)) 9 7 (-1)) l a b R) (by intro _ _ _; eq_refl) ?_
          refine he_s 1 (pc' := cond (fx_cb .ne (a 10 k) 61) 176 153) (lc' := [(1, .int (a 10 k)), (0, .ref 9)]) (stk' := []) (mem' := cm (fm_u (fm_u g2 9 4 (nI k)) 9 7 (-1)) l a b R) (by intro _ _ _; eq_refl) ?_
          rw [show (fx_cb .ne (a 10 k) 61) = true from cb_neg_ne ec6 (by decide)]
          dsimp only [cond]
          refine he_s 3 (pc' := 181) (lc' := [(1, .int (a 10 k)), (0, .ref 9)]) (stk' := []) (mem' := cm (fm_u (fm_u (fm_u g2 9 4 (nI k)) 9 7 (-1)) 9 6 4) l a b R) (by intro _ _ _; eq_refl) ?_
          have hno : ¬ (k < n ∧ sp_ws (T k) = true) := fun z => by have z2 := sp_ws_i.mp z.2; omega
          obtain rfl : s = k := by rw [← he]; exact sp_e_f hno
          have es : s = sp_s T n p := hs.symm
          obtain ⟨t1, t2⟩ := sp_t4 (T := T) (n := n) (p := p) (by omega) (fun z => by have z2 := sp_sm_i.mp z; rw [← es] at z2; omega) (fun z => by have z2 := sp_dg_i.mp z; rw [← es] at z2; omega) (fun z => by have z2 := sp_sg_i.mp z; rw [← es] at z2; omega)
          exact he_ret ⟨_, _, cff_u (cff_u (cff_u hf (by decide) (by decide)) (by decide) (by decide)) (by decide) (by decide), ck_of (s := s) (e := s) (k := 4) (by exact h3) (by rfl) (by exact h5) (by rfl) (by rfl) es (by omega) t1.symm (sp_cw0 (by omega)).symm (fun z => absurd z (by omega)) (fun z => absurd z (by omega)) (fun z => absurd z (by omega)), rfl⟩ (by rfl) (by rfl) (by rfl)
        · rw [show (fx_cb .lt (nI k) (nI n)) = false from cb_ltF (a := k) (b := n) (by omega) (by omega) (by omega)]
          dsimp only [cond]
          refine he_s 4 (pc' := 181) (lc' := [(1, .int (a 10 k)), (0, .ref 9)]) (stk' := []) (mem' := cm (fm_u (fm_u (fm_u g2 9 4 (nI k)) 9 7 (-1)) 9 6 0) l a b R) (by intro _ _ _; eq_refl) ?_
          have hno : ¬ (k < n ∧ sp_ws (T k) = true) := fun z => by have z2 := sp_ws_i.mp z.2; omega
          obtain rfl : s = k := by rw [← he]; exact sp_e_f hno
          have es : s = sp_s T n p := hs.symm
          obtain ⟨t1, t2⟩ := sp_t0 (T := T) (n := n) (p := p) (by omega)
          exact he_ret ⟨_, _, cff_u (cff_u (cff_u hf (by decide) (by decide)) (by decide) (by decide)) (by decide) (by decide), ck_of (s := s) (e := s) (k := 0) (by exact h3) (by rfl) (by exact h5) (by rfl) (by rfl) es (by omega) t1.symm (sp_cw0 (by omega)).symm (fun z => absurd z (by omega)) (fun z => absurd z (by omega)) (fun z => absurd z (by omega)), rfl⟩ (by rfl) (by rfl) (by rfl)
theorem ha_scan0 (hn : n ≤ 900) (hT : ct (a 10) T n) (hR : cr (b 11)) (hp : p ≤ n) (h3 : g 9 3 = nI n) (h5 : g 9 5 = nI p) : ∃ (g' : Nat → Nat → Int32) (l' : Nat → Nat → Int64), hr_T 3 104 [.ref 9] (cm g l a b R) none (cm g' l' a b R) ∧ ck g' l' T n p ∧ cff g l g' l' := by
  obtain ⟨v, mem', ⟨g', l', h1, h2, hR1⟩, hr⟩ := he_meth (k := 2) (f := 104) (as := [.ref 9]) (F := fun R1 => ∃ (g' : Nat → Nat → Int32) (l' : Nat → Nat → Int64), cff g l g' l' ∧ ck g' l' T n p ∧ R1 = (none, cm g' l' a b R)) (M := gk_m104) (by rfl) (by rfl) (ha_sp hn hT hR rfl (n - p) p rfl (Nat.le_refl _) hp g cff_rf h3 h5 rfl)
  cases hR1
  exact ⟨g', l', hr, h2, h1⟩
theorem ha_scan (hn : n ≤ 900) (hT : ct (a 10) T n) (hR : cr (b 11)) (hp : p ≤ n) (h : ck g l T n p) : ∃ (g' : Nat → Nat → Int32) (l' : Nat → Nat → Int64), hr_T 3 104 [.ref 9] (cm g l a b R) none (cm g' l' a b R) ∧ ck g' l' T n (sp_n T n p) ∧ cff g l g' l' := ha_scan0 hn hT hR (sp_n_le hp) h.1 h.2.2.1
end CTK
end MH19_1
section MH19_2
/-! ===== the class's reader: faults, words, signs, numbers, names ===== -/
/-- all is well at p -/
def co (g : Nat → Nat → Int32) (l : Nat → Nat → Int64) (T : Nat → Nat) (n p : Nat) : Prop := p ≤ n ∧ ck g l T n p ∧ g 9 10 = 0 ∧ g 9 11 = -1
/-- there is a fault -/
def cq (g : Nat → Nat → Int32) (l : Nat → Nat → Int64) (T : Nat → Nat) (n : Nat) (F : Int32) (P : Nat) : Prop := F ≠ 0 ∧ (∃ p, p ≤ n ∧ ck g l T n p) ∧ g 9 10 = F ∧ g 9 11 = nI P
def ctx (a : Nat → Nat → Int32) (b : Nat → Nat → Int64) (T : Nat → Nat) (n : Nat) : Prop := n ≤ 900 ∧ ct (a 10) T n ∧ cr (b 11)
theorem cb_nz_ne {x : Int32} (h : x ≠ 0) : fx_cb .ne x 0 = true := by
  show (!decide (x = 0)) = true
  rw [decide_eq_false h]
  rfl
theorem cb_nz_eq {x : Int32} (h : x ≠ 0) : fx_cb .eq x 0 = false := decide_eq_false h
section CRD
variable {g : Nat → Nat → Int32} {l : Nat → Nat → Int64} {a : Nat → Nat → Int32} {b : Nat → Nat → Int64} {R : fx_M} {T : Nat → Nat} {n p : Nat}
variable {F : Int32} {P : Nat}
theorem ck_f {g' : Nat → Nat → Int32} (h : ck g l T n p) (hg : ∀ k, k < 10 → g' 9 k = g 9 k) : ck g' l T n p := ⟨(hg 3 (by decide)).trans h.1, (hg 4 (by decide)).trans h.2.1, (hg 5 (by decide)).trans h.2.2.1, (hg 6 (by decide)).trans h.2.2.2.1, (hg 7 (by decide)).trans h.2.2.2.2.1, h.2.2.2.2.2.1, fun z => (hg 9 (by decide)).trans (h.2.2.2.2.2.2.1 z), fun z => (hg 9 (by decide)).trans (h.2.2.2.2.2.2.2 z)⟩
theorem ha_fail0 {x : Int32} (h0 : g 9 10 = 0) : hr_T 1 107 [.ref 9, .int x] (cm g l a b R) none (cm (fm_u (fm_u g 9 10 x) 9 11 (g 9 4)) l a b R) := by
  refine hr_meth (by rfl) (by rfl) ?_
  refine hr_s 2 (pc' := 4) (lc' := [(0, .ref 9), (1, .int x)]) (stk' := [.int (g 9 10)]) (mem' := cm g l a b R) (by intro _ _ _; eq_refl) ?_
  rw [h0]
  refine hr_s 8 (pc' := 20) (lc' := [(0, .ref 9), (1, .int x)]) (stk' := []) (mem' := cm (fm_u (fm_u g 9 10 x) 9 11 (g 9 4)) l a b R) (by intro _ _ _; eq_refl) ?_
  exact hr_ret (by rfl) (by rfl) (by rfl)
theorem ha_fail1 {x : Int32} (h0 : g 9 10 ≠ 0) : hr_T 1 107 [.ref 9, .int x] (cm g l a b R) none (cm g l a b R) := by
  refine hr_meth (by rfl) (by rfl) ?_
  refine hr_s 2 (pc' := 4) (lc' := [(0, .ref 9), (1, .int x)]) (stk' := [.int (g 9 10)]) (mem' := cm g l a b R) (by intro _ _ _; eq_refl) ?_
  refine hr_s 1 (pc' := cond (fx_cb .ne (g 9 10) 0) 20 7) (lc' := [(0, .ref 9), (1, .int x)]) (stk' := []) (mem' := cm g l a b R) (by intro _ _ _; eq_refl) ?_
  rw [show fx_cb .ne (g 9 10) 0 = true from by show (!decide (g 9 10 = 0)) = true; rw [decide_eq_false h0]; rfl]
  exact hr_ret (by rfl) (by rfl) (by rfl)
theorem ha_fail {x : Int32} (h : co g l T n p) (hx : x ≠ 0) : ∃ g' : Nat → Nat → Int32, hr_T 1 107 [.ref 9, .int x] (cm g l a b R) none (cm g' l a b R) ∧ cq g' l T n x (sp_s T n p) ∧ cfr g l g' l :=
  ⟨_, ha_fail0 h.2.2.1, ⟨hx, ⟨p, h.1, ck_f h.2.1 (fun k hk => (fm_uo (by omega)).trans (fm_uo (by omega)))⟩, (fm_uo (by decide)).trans fm_ue, fm_ue.trans h.2.1.2.1⟩, cfr_u (cfr_u cfr_rf (by decide)) (by decide)⟩
theorem ha_failq {x : Int32} (h : cq g l T n F P) : hr_T 1 107 [.ref 9, .int x] (cm g l a b R) none (cm g l a b R) := ha_fail1 (by rw [h.2.2.1]; exact h.1)
theorem ha_misfit (h : co g l T n p) : ∃ g' : Nat → Nat → Int32, hr_T 2 108 [.ref 9] (cm g l a b R) none (cm g' l a b R) ∧ cq g' l T n (sp_m T n p) (sp_s T n p) ∧ cfr g l g' l := by
  obtain ⟨g', k1, k2, k3⟩ := ha_fail (a := a) (b := b) (R := R) h (sp_m0 (T := T) (n := n) (p := p))
  refine ⟨g', hr_meth (by rfl) (by rfl) ?_, k2, k3⟩
  refine hr_s 4 (pc' := 6) (lc' := [(0, .ref 9)]) (stk' := [.int 4, .int (g 9 6), .ref 9]) (mem' := cm g l a b R) (by intro _ _ _; eq_refl) ?_
  refine hr_s 1 (pc' := cond (fx_cb .ne (g 9 6) 4) 13 9) (lc' := [(0, .ref 9)]) (stk' := [.ref 9]) (mem' := cm g l a b R) (by intro _ _ _; eq_refl) ?_
  have hm := h.2.1.2.2.2.1
  have h4 := sp_k4 (T := T) (n := n) (p := p)
  rw [hm]
  by_cases e : sp_k T n p = 4
  · rw [show sp_m T n p = 1 from if_pos e] at k1
    rw [show fx_cb .ne (nI (sp_k T n p)) 4 = false from cb_neF (a := sp_k T n p) (b := 4) (by omega) (by omega) e]
    refine hr_s 2 (pc' := 14) (lc' := [(0, .ref 9)]) (stk' := [.int 1, .ref 9]) (mem' := cm g l a b R) (by intro _ _ _; eq_refl) ?_
    refine hr_ivV k1 (by omega) (by rfl) (by rfl) (by rfl) (by rfl) (by rfl) (by rfl) ?_
    exact hr_ret (by rfl) (by rfl) (by rfl)
  · rw [show sp_m T n p = 2 from if_neg e] at k1
    rw [show fx_cb .ne (nI (sp_k T n p)) 4 = true from cb_neT (a := sp_k T n p) (b := 4) (by omega) (by omega) e]
    refine hr_s 1 (pc' := 14) (lc' := [(0, .ref 9)]) (stk' := [.int 2, .ref 9]) (mem' := cm g l a b R) (by intro _ _ _; eq_refl) ?_
    refine hr_ivV k1 (by omega) (by rfl) (by rfl) (by rfl) (by rfl) (by rfl) (by rfl) ?_
    exact hr_ret (by rfl) (by rfl) (by rfl)
theorem ha_misfitq (h : cq g l T n F P) : hr_T 2 108 [.ref 9] (cm g l a b R) none (cm g l a b R) := by
  refine hr_meth (by rfl) (by rfl) ?_
  refine hr_s 4 (pc' := 6) (lc' := [(0, .ref 9)]) (stk' := [.int 4, .int (g 9 6), .ref 9]) (mem' := cm g l a b R) (by intro _ _ _; eq_refl) ?_
  refine hr_s 1 (pc' := cond (fx_cb .ne (g 9 6) 4) 13 9) (lc' := [(0, .ref 9)]) (stk' := [.ref 9]) (mem' := cm g l a b R) (by intro _ _ _; eq_refl) ?_
  cases fx_cb .ne (g 9 6) 4
  · refine hr_s 2 (pc' := 14) (lc' := [(0, .ref 9)]) (stk' := [.int 1, .ref 9]) (mem' := cm g l a b R) (by intro _ _ _; eq_refl) ?_
    refine hr_ivV (ha_failq (x := 1) h) (by omega) (by rfl) (by rfl) (by rfl) (by rfl) (by rfl) (by rfl) ?_
    exact hr_ret (by rfl) (by rfl) (by rfl)
  · refine hr_s 1 (pc' := 14) (lc' := [(0, .ref 9)]) (stk' := [.int 2, .ref 9]) (mem' := cm g l a b R) (by intro _ _ _; eq_refl) ?_
    refine hr_ivV (ha_failq (x := 2) h) (by omega) (by rfl) (by rfl) (by rfl) (by rfl) (by rfl) (by rfl) ?_
    exact hr_ret (by rfl) (by rfl) (by rfl)
theorem ha_scano (hg : ctx a b T n) (h : co g l T n p) : ∃ (g' : Nat → Nat → Int32) (l' : Nat → Nat → Int64), hr_T 3 104 [.ref 9] (cm g l a b R) none (cm g' l' a b R) ∧ co g' l' T n (sp_n T n p) ∧ cfr g l g' l' := by
  obtain ⟨g', l', k1, k2, k3⟩ := ha_scan (R := R) hg.1 hg.2.1 hg.2.2 h.1 h.2.1
  exact ⟨g', l', k1, ⟨sp_n_le h.1, k2, k3.2.1.trans h.2.2.1, k3.2.2.trans h.2.2.2⟩, k3.1⟩
theorem ha_scanq (hg : ctx a b T n) (h : cq g l T n F P) : ∃ (g' : Nat → Nat → Int32) (l' : Nat → Nat → Int64), hr_T 3 104 [.ref 9] (cm g l a b R) none (cm g' l' a b R) ∧ cq g' l' T n F P ∧ cfr g l g' l' := by
  obtain ⟨p, h0, h1⟩ := h.2.1
  obtain ⟨g', l', k1, k2, k3⟩ := ha_scan (R := R) hg.1 hg.2.1 hg.2.2 h0 h1
  exact ⟨g', l', k1, ⟨h.1, ⟨_, sp_n_le h0, k2⟩, k3.2.1.trans h.2.2.1, k3.2.2.trans h.2.2.2⟩, k3.1⟩
theorem sp_cw_eq {w : Nat} (hw : w < 23) : sp_cw T n p = nI w ↔ sp_k T n p = 1 ∧ sp_kw (sp_wd T n p) = w := by
  unfold sp_cw
  by_cases h : sp_k T n p = 1 ∧ sp_kw (sp_wd T n p) < 23
  · rw [if_pos h, nI_eq (by omega) (by omega)]
    exact ⟨fun e => ⟨h.1, e⟩, fun e => e.2⟩
  · rw [if_neg h]
    refine ⟨fun e => ?_, fun e => absurd ⟨e.1, by omega⟩ h⟩
    have h1 : (-1 : Int32).toInt = (nI w).toInt := by rw [e]
    rw [nI_i32 (by omega), show (-1 : Int32).toInt = -1 from by decide] at h1
    omega
theorem sp_cw_ne {w : Nat} (hw : w < 23) : fx_cb .ne (sp_cw T n p) (nI w) = !decide (sp_k T n p = 1 ∧ sp_kw (sp_wd T n p) = w) := by
  show (!decide (sp_cw T n p = nI w)) = _
  congr 1
  exact decide_eq_decide.mpr (sp_cw_eq hw)
theorem sp_cw_neF {w : Nat} (hw : w < 23) (h : fx_cb .ne (sp_cw T n p) (nI w) = false) : sp_k T n p = 1 ∧ sp_kw (sp_wd T n p) = w := by
  rw [sp_cw_ne hw] at h
  exact of_decide_eq_true (by revert h; cases decide (sp_k T n p = 1 ∧ sp_kw (sp_wd T n p) = w) <;> simp)
theorem sp_cw_neT {w : Nat} (hw : w < 23) (h : fx_cb .ne (sp_cw T n p) (nI w) = true) : ¬ (sp_k T n p = 1 ∧ sp_kw (sp_wd T n p) = w) := by
  rw [sp_cw_ne hw] at h
  exact of_decide_eq_false (by revert h; cases decide (sp_k T n p = 1 ∧ sp_kw (sp_wd T n p) = w) <;> simp)
theorem sp_cw_n1 : fx_cb .ne (sp_cw T n p) (-1) = decide (sp_k T n p = 1 ∧ sp_kw (sp_wd T n p) < 23) := by
  show (!decide (sp_cw T n p = -1)) = _
  unfold sp_cw
  by_cases h : sp_k T n p = 1 ∧ sp_kw (sp_wd T n p) < 23
  · rw [if_pos h, decide_eq_true h, decide_eq_false]
    · rfl
    · intro e
      have h1 : (-1 : Int32).toInt = (nI (sp_kw (sp_wd T n p))).toInt := by rw [e]
      rw [nI_i32 (by omega), show (-1 : Int32).toInt = -1 from by decide] at h1
      omega
  · rw [if_neg h, decide_eq_false h, decide_eq_true rfl]
    rfl
theorem ha_pw0 {w : Nat} (hg : ctx a b T n) (hw : w < 23) (h : co g l T n p) : ∃ (v : Option Value) (mem' : fx_M), (fun R1 => ∃ (g' : Nat → Nat → Int32) (l' : Nat → Nat → Int64), cfr g l g' l' ∧ ((sp_k T n p = 1 ∧ sp_kw (sp_wd T n p) = w) ∧ co g' l' T n (sp_n T n p) ∨ ¬ (sp_k T n p = 1 ∧ sp_kw (sp_wd T n p) = w) ∧ cq g' l' T n (sp_m T n p) (sp_s T n p)) ∧ R1 = (none, cm g' l' a b R)) (v, mem') ∧ hr_T 4 109 [.ref 9, .int (nI w)] (cm g l a b R) v mem' := by
  refine he_meth (F := fun R1 => ∃ (g' : Nat → Nat → Int32) (l' : Nat → Nat → Int64), cfr g l g' l' ∧ ((sp_k T n p = 1 ∧ sp_kw (sp_wd T n p) = w) ∧ co g' l' T n (sp_n T n p) ∨ ¬ (sp_k T n p = 1 ∧ sp_kw (sp_wd T n p) = w) ∧ cq g' l' T n (sp_m T n p) (sp_s T n p)) ∧ R1 = (none, cm g' l' a b R)) (M := gk_m109) (by rfl) (by rfl) ?_
  obtain ⟨-, -, -, h6, h7, -⟩ := h.2.1
  have hk4 := sp_k4 (T := T) (n := n) (p := p)
  refine he_s 3 (pc' := 5) (lc' := [(0, .ref 9), (1, .int (nI w))]) (stk' := [.int 1, .int (g 9 6)]) (mem' := cm g l a b R) (by intro _ _ _; eq_refl) ?_
  try rw [h6]
  refine he_s 1 (pc' := cond (fx_cb .ne (nI (sp_k T n p)) 1) 23 8) (lc' := [(0, .ref 9), (1, .int (nI w))]) (stk' := []) (mem' := cm g l a b R) (by intro _ _ _; eq_refl) ?_
  by_cases y1 : (sp_k T n p) = 1
  · rw [show (fx_cb .ne (nI (sp_k T n p)) 1) = false from cb_neF (a := (sp_k T n p)) (b := 1) (by omega) (by omega) (by omega)]
    dsimp only [cond]
    refine he_s 3 (pc' := 13) (lc' := [(0, .ref 9), (1, .int (nI w))]) (stk' := [.int (nI w), .int (g 9 7)]) (mem' := cm g l a b R) (by intro _ _ _; eq_refl) ?_
    try rw [h7]
    refine he_s 1 (pc' := cond (fx_cb .ne (sp_cw T n p) (nI w)) 23 16) (lc' := [(0, .ref 9), (1, .int (nI w))]) (stk' := []) (mem' := cm g l a b R) (by intro _ _ _; eq_refl) ?_
    cases y2 : fx_cb .ne (sp_cw T n p) (nI w)
    · refine he_s 1 (pc' := 17) (lc' := [(0, .ref 9), (1, .int (nI w))]) (stk' := [.ref 9]) (mem' := cm g l a b R) (by intro _ _ _; eq_refl) ?_
      obtain ⟨gc3, lc3, hrc3, hmc3, frc3⟩ := ha_scano (R := R) hg h
      refine he_ivV hrc3 (by omega) (by rfl) (by rfl) (by rfl) (by rfl) (by rfl) (by rfl) ?_
      have hfc3 := cfr_tr cfr_rf frc3
      refine he_s 1 (pc' := 27) (lc' := [(0, .ref 9), (1, .int (nI w))]) (stk' := []) (mem' := cm gc3 lc3 a b R) (by intro _ _ _; eq_refl) ?_
      exact he_ret ⟨_, _, hfc3, Or.inl ⟨sp_cw_neF hw y2, hmc3⟩, rfl⟩ (by rfl) (by rfl) (by rfl)
    · refine he_s 1 (pc' := 24) (lc' := [(0, .ref 9), (1, .int (nI w))]) (stk' := [.ref 9]) (mem' := cm g l a b R) (by intro _ _ _; eq_refl) ?_
      obtain ⟨gc4, hrc4, hmc4, frc4⟩ := ha_misfit (a := a) (b := b) (R := R) h
      refine he_ivV hrc4 (by omega) (by rfl) (by rfl) (by rfl) (by rfl) (by rfl) (by rfl) ?_
      have hfc4 := cfr_tr cfr_rf frc4
      exact he_ret ⟨_, _, hfc4, Or.inr ⟨sp_cw_neT hw y2, hmc4⟩, rfl⟩ (by rfl) (by rfl) (by rfl)
  · rw [show (fx_cb .ne (nI (sp_k T n p)) 1) = true from cb_neT (a := (sp_k T n p)) (b := 1) (by omega) (by omega) (by omega)]
    dsimp only [cond]
    refine he_s 1 (pc' := 24) (lc' := [(0, .ref 9), (1, .int (nI w))]) (stk' := [.ref 9]) (mem' := cm g l a b R) (by intro _ _ _; eq_refl) ?_
    obtain ⟨gc5, hrc5, hmc5, frc5⟩ := ha_misfit (a := a) (b := b) (R := R) h
    refine he_ivV hrc5 (by omega) (by rfl) (by rfl) (by rfl) (by rfl) (by rfl) (by rfl) ?_
    have hfc5 := cfr_tr cfr_rf frc5
    exact he_ret ⟨_, _, hfc5, Or.inr ⟨fun z => by omega, hmc5⟩, rfl⟩ (by rfl) (by rfl) (by rfl)
theorem ha_pwq0 {x : Int32} (hg : ctx a b T n) (h : cq g l T n F P) : ∃ (v : Option Value) (mem' : fx_M), (fun R1 => ∃ (g' : Nat → Nat → Int32) (l' : Nat → Nat → Int64), cfr g l g' l' ∧ cq g' l' T n F P ∧ R1 = (none, cm g' l' a b R)) (v, mem') ∧ hr_T 4 109 [.ref 9, .int x] (cm g l a b R) v mem' := by
  refine he_meth (F := fun R1 => ∃ (g' : Nat → Nat → Int32) (l' : Nat → Nat → Int64), cfr g l g' l' ∧ cq g' l' T n F P ∧ R1 = (none, cm g' l' a b R)) (M := gk_m109) (by rfl) (by rfl) ?_
  refine he_s 3 (pc' := 5) (lc' := [(0, .ref 9), (1, .int x)]) (stk' := [.int 1, .int (g 9 6)]) (mem' := cm g l a b R) (by intro _ _ _; eq_refl) ?_
  refine he_s 1 (pc' := cond (fx_cb .ne (g 9 6) 1) 23 8) (lc' := [(0, .ref 9), (1, .int x)]) (stk' := []) (mem' := cm g l a b R) (by intro _ _ _; eq_refl) ?_
  cases y1 : fx_cb .ne (g 9 6) 1
  · refine he_s 3 (pc' := 13) (lc' := [(0, .ref 9), (1, .int x)]) (stk' := [.int x, .int (g 9 7)]) (mem' := cm g l a b R) (by intro _ _ _; eq_refl) ?_
    refine he_s 1 (pc' := cond (fx_cb .ne (g 9 7) x) 23 16) (lc' := [(0, .ref 9), (1, .int x)]) (stk' := []) (mem' := cm g l a b R) (by intro _ _ _; eq_refl) ?_
    cases y2 : fx_cb .ne (g 9 7) x
    · refine he_s 1 (pc' := 17) (lc' := [(0, .ref 9), (1, .int x)]) (stk' := [.ref 9]) (mem' := cm g l a b R) (by intro _ _ _; eq_refl) ?_
      obtain ⟨gc3, lc3, hrc3, hmc3, frc3⟩ := ha_scanq (R := R) hg h
      refine he_ivV hrc3 (by omega) (by rfl) (by rfl) (by rfl) (by rfl) (by rfl) (by rfl) ?_
      have hfc3 := cfr_tr cfr_rf frc3
      refine he_s 1 (pc' := 27) (lc' := [(0, .ref 9), (1, .int x)]) (stk' := []) (mem' := cm gc3 lc3 a b R) (by intro _ _ _; eq_refl) ?_
      exact he_ret ⟨_, _, hfc3, hmc3, rfl⟩ (by rfl) (by rfl) (by rfl)
    · refine he_s 1 (pc' := 24) (lc' := [(0, .ref 9), (1, .int x)]) (stk' := [.ref 9]) (mem' := cm g l a b R) (by intro _ _ _; eq_refl) ?_
      refine he_ivV (ha_misfitq (a := a) (b := b) (R := R) h) (by omega) (by rfl) (by rfl) (by rfl) (by rfl) (by rfl) (by rfl) ?_
      exact he_ret ⟨_, _, cfr_rf, h, rfl⟩ (by rfl) (by rfl) (by rfl)
  · refine he_s 1 (pc' := 24) (lc' := [(0, .ref 9), (1, .int x)]) (stk' := [.ref 9]) (mem' := cm g l a b R) (by intro _ _ _; eq_refl) ?_
    refine he_ivV (ha_misfitq (a := a) (b := b) (R := R) h) (by omega) (by rfl) (by rfl) (by rfl) (by rfl) (by rfl) (by rfl) ?_
    exact he_ret ⟨_, _, cfr_rf, h, rfl⟩ (by rfl) (by rfl) (by rfl)
theorem ha_ps0 {w : Nat} (hg : ctx a b T n) (hw : w < 128) (h : co g l T n p) : ∃ (v : Option Value) (mem' : fx_M), (fun R1 => ∃ (v : Int32) (g' : Nat → Nat → Int32) (l' : Nat → Nat → Int64), cfr g l g' l' ∧ ((sp_k T n p = 3 ∧ T (sp_s T n p) = w) ∧ v = 1 ∧ co g' l' T n (sp_n T n p) ∨ ¬ (sp_k T n p = 3 ∧ T (sp_s T n p) = w) ∧ v = 0 ∧ cq g' l' T n (sp_m T n p) (sp_s T n p)) ∧ R1 = (some (.int v), cm g' l' a b R)) (v, mem') ∧ hr_T 4 110 [.ref 9, .int (nI w)] (cm g l a b R) v mem' := by
  refine he_meth (F := fun R1 => ∃ (v : Int32) (g' : Nat → Nat → Int32) (l' : Nat → Nat → Int64), cfr g l g' l' ∧ ((sp_k T n p = 3 ∧ T (sp_s T n p) = w) ∧ v = 1 ∧ co g' l' T n (sp_n T n p) ∨ ¬ (sp_k T n p = 3 ∧ T (sp_s T n p) = w) ∧ v = 0 ∧ cq g' l' T n (sp_m T n p) (sp_s T n p)) ∧ R1 = (some (.int v), cm g' l' a b R)) (M := gk_m110) (by rfl) (by rfl) ?_
  obtain ⟨-, -, -, h6, -, -, -, h9⟩ := h.2.1
  have hk4 := sp_k4 (T := T) (n := n) (p := p)
  have hsg : sp_k T n p = 3 → T (sp_s T n p) < 128 := fun z => by
    rcases sp_cs (T := T) h.1 with h2 | h2 | h2 | h2 | h2
    · omega
    · omega
    · omega
    · have := sp_sg_i.mp h2.2.1; omega
    · omega
  by_cases hk : sp_k T n p = 3
  · have h6a : g 9 6 = 3 := h6.trans (by rw [hk]; rfl)
    have hsg1 := hsg hk
    refine he_s 3 (pc' := 5) (lc' := [(0, .ref 9), (1, .int (nI w))]) (stk' := [.int 3, .int (g 9 6)]) (mem' := cm g l a b R) (by intro _ _ _; eq_refl) ?_
    try rw [h6a]
    refine he_s 1 (pc' := cond (fx_cb .ne 3 3) 23 8) (lc' := [(0, .ref 9), (1, .int (nI w))]) (stk' := []) (mem' := cm g l a b R) (by intro _ _ _; eq_refl) ?_
    rw [show (fx_cb .ne 3 3) = false from by decide]
    dsimp only [cond]
    refine he_s 3 (pc' := 13) (lc' := [(0, .ref 9), (1, .int (nI w))]) (stk' := [.int (nI w), .int (g 9 9)]) (mem' := cm g l a b R) (by intro _ _ _; eq_refl) ?_
    try rw [(h9 hk)]
    refine he_s 1 (pc' := cond (fx_cb .ne (nI (T (sp_s T n p))) (nI w)) 23 16) (lc' := [(0, .ref 9), (1, .int (nI w))]) (stk' := []) (mem' := cm g l a b R) (by intro _ _ _; eq_refl) ?_
    by_cases y1 : (T (sp_s T n p)) = w
    · rw [show (fx_cb .ne (nI (T (sp_s T n p))) (nI w)) = false from cb_neF (a := (T (sp_s T n p))) (b := w) (by omega) (by omega) (by omega)]
      dsimp only [cond]
      refine he_s 1 (pc' := 17) (lc' := [(0, .ref 9), (1, .int (nI w))]) (stk' := [.ref 9]) (mem' := cm g l a b R) (by intro _ _ _; eq_refl) ?_
      obtain ⟨gc2, lc2, hrc2, hmc2, frc2⟩ := ha_scano (R := R) hg h
      refine he_ivV hrc2 (by omega) (by rfl) (by rfl) (by rfl) (by rfl) (by rfl) (by rfl) ?_
      have hfc2 := cfr_tr cfr_rf frc2
      refine he_s 3 (pc' := 31) (lc' := [(0, .ref 9), (1, .int (nI w))]) (stk' := [.int (gc2 9 10)]) (mem' := cm gc2 lc2 a b R) (by intro _ _ _; eq_refl) ?_
      try rw [hmc2.2.2.1]
      refine he_s 1 (pc' := cond (fx_cb .ne 0 0) 38 34) (lc' := [(0, .ref 9), (1, .int (nI w))]) (stk' := []) (mem' := cm gc2 lc2 a b R) (by intro _ _ _; eq_refl) ?_
      rw [show (fx_cb .ne 0 0) = false from by decide]
      dsimp only [cond]
      refine he_s 2 (pc' := 39) (lc' := [(0, .ref 9), (1, .int (nI w))]) (stk' := [.int 1]) (mem' := cm gc2 lc2 a b R) (by intro _ _ _; eq_refl) ?_
      exact he_ret ⟨1, _, _, hfc2, Or.inl ⟨⟨by omega, by omega⟩, rfl, hmc2⟩, rfl⟩ (by rfl) (by rfl) (by rfl)
    · rw [show (fx_cb .ne (nI (T (sp_s T n p))) (nI w)) = true from cb_neT (a := (T (sp_s T n p))) (b := w) (by omega) (by omega) (by omega)]
      dsimp only [cond]
      refine he_s 1 (pc' := 24) (lc' := [(0, .ref 9), (1, .int (nI w))]) (stk' := [.ref 9]) (mem' := cm g l a b R) (by intro _ _ _; eq_refl) ?_
      obtain ⟨gc3, hrc3, hmc3, frc3⟩ := ha_misfit (a := a) (b := b) (R := R) h
      refine he_ivV hrc3 (by omega) (by rfl) (by rfl) (by rfl) (by rfl) (by rfl) (by rfl) ?_
      have hfc3 := cfr_tr cfr_rf frc3
      refine he_s 2 (pc' := 31) (lc' := [(0, .ref 9), (1, .int (nI w))]) (stk' := [.int (gc3 9 10)]) (mem' := cm gc3 l a b R) (by intro _ _ _; eq_refl) ?_
      try rw [hmc3.2.2.1]
      refine he_s 1 (pc' := cond (fx_cb .ne (sp_m T n p) 0) 38 34) (lc' := [(0, .ref 9), (1, .int (nI w))]) (stk' := []) (mem' := cm gc3 l a b R) (by intro _ _ _; eq_refl) ?_
      rw [show (fx_cb .ne (sp_m T n p) 0) = true from cb_nz_ne hmc3.1]
      dsimp only [cond]
      refine he_s 1 (pc' := 39) (lc' := [(0, .ref 9), (1, .int (nI w))]) (stk' := [.int 0]) (mem' := cm gc3 l a b R) (by intro _ _ _; eq_refl) ?_
      exact he_ret ⟨0, _, _, hfc3, Or.inr ⟨fun z => by omega, rfl, hmc3⟩, rfl⟩ (by rfl) (by rfl) (by rfl)
  · refine he_s 3 (pc' := 5) (lc' := [(0, .ref 9), (1, .int (nI w))]) (stk' := [.int 3, .int (g 9 6)]) (mem' := cm g l a b R) (by intro _ _ _; eq_refl) ?_
    try rw [h6]
    refine he_s 1 (pc' := cond (fx_cb .ne (nI (sp_k T n p)) 3) 23 8) (lc' := [(0, .ref 9), (1, .int (nI w))]) (stk' := []) (mem' := cm g l a b R) (by intro _ _ _; eq_refl) ?_
    rw [show (fx_cb .ne (nI (sp_k T n p)) 3) = true from cb_neT (a := (sp_k T n p)) (b := 3) (by omega) (by omega) (by omega)]
    dsimp only [cond]
    refine he_s 1 (pc' := 24) (lc' := [(0, .ref 9), (1, .int (nI w))]) (stk' := [.ref 9]) (mem' := cm g l a b R) (by intro _ _ _; eq_refl) ?_
    obtain ⟨gc4, hrc4, hmc4, frc4⟩ := ha_misfit (a := a) (b := b) (R := R) h
    refine he_ivV hrc4 (by omega) (by rfl) (by rfl) (by rfl) (by rfl) (by rfl) (by rfl) ?_
    have hfc4 := cfr_tr cfr_rf frc4
    refine he_s 2 (pc' := 31) (lc' := [(0, .ref 9), (1, .int (nI w))]) (stk' := [.int (gc4 9 10)]) (mem' := cm gc4 l a b R) (by intro _ _ _; eq_refl) ?_
    try rw [hmc4.2.2.1]
    refine he_s 1 (pc' := cond (fx_cb .ne (sp_m T n p) 0) 38 34) (lc' := [(0, .ref 9), (1, .int (nI w))]) (stk' := []) (mem' := cm gc4 l a b R) (by intro _ _ _; eq_refl) ?_
    rw [show (fx_cb .ne (sp_m T n p) 0) = true from cb_nz_ne hmc4.1]
    dsimp only [cond]
    refine he_s 1 (pc' := 39) (lc' := [(0, .ref 9), (1, .int (nI w))]) (stk' := [.int 0]) (mem' := cm gc4 l a b R) (by intro _ _ _; eq_refl) ?_
    exact he_ret ⟨0, _, _, hfc4, Or.inr ⟨fun z => by omega, rfl, hmc4⟩, rfl⟩ (by rfl) (by rfl) (by rfl)
theorem ha_psq0 {x : Int32} (hg : ctx a b T n) (h : cq g l T n F P) : ∃ (v : Option Value) (mem' : fx_M), (fun R1 => ∃ (g' : Nat → Nat → Int32) (l' : Nat → Nat → Int64), cfr g l g' l' ∧ cq g' l' T n F P ∧ R1 = (some (.int 0), cm g' l' a b R)) (v, mem') ∧ hr_T 4 110 [.ref 9, .int x] (cm g l a b R) v mem' := by
  refine he_meth (F := fun R1 => ∃ (g' : Nat → Nat → Int32) (l' : Nat → Nat → Int64), cfr g l g' l' ∧ cq g' l' T n F P ∧ R1 = (some (.int 0), cm g' l' a b R)) (M := gk_m110) (by rfl) (by rfl) ?_
  refine he_s 3 (pc' := 5) (lc' := [(0, .ref 9), (1, .int x)]) (stk' := [.int 3, .int (g 9 6)]) (mem' := cm g l a b R) (by intro _ _ _; eq_refl) ?_
  refine he_s 1 (pc' := cond (fx_cb .ne (g 9 6) 3) 23 8) (lc' := [(0, .ref 9), (1, .int x)]) (stk' := []) (mem' := cm g l a b R) (by intro _ _ _; eq_refl) ?_
  cases y1 : fx_cb .ne (g 9 6) 3
  · refine he_s 3 (pc' := 13) (lc' := [(0, .ref 9), (1, .int x)]) (stk' := [.int x, .int (g 9 9)]) (mem' := cm g l a b R) (by intro _ _ _; eq_refl) ?_
    refine he_s 1 (pc' := cond (fx_cb .ne (g 9 9) x) 23 16) (lc' := [(0, .ref 9), (1, .int x)]) (stk' := []) (mem' := cm g l a b R) (by intro _ _ _; eq_refl) ?_
    cases y2 : fx_cb .ne (g 9 9) x
    · refine he_s 1 (pc' := 17) (lc' := [(0, .ref 9), (1, .int x)]) (stk' := [.ref 9]) (mem' := cm g l a b R) (by intro _ _ _; eq_refl) ?_
      obtain ⟨gc3, lc3, hrc3, hmc3, frc3⟩ := ha_scanq (R := R) hg h
      refine he_ivV hrc3 (by omega) (by rfl) (by rfl) (by rfl) (by rfl) (by rfl) (by rfl) ?_
      have hfc3 := cfr_tr cfr_rf frc3
      refine he_s 3 (pc' := 31) (lc' := [(0, .ref 9), (1, .int x)]) (stk' := [.int (gc3 9 10)]) (mem' := cm gc3 lc3 a b R) (by intro _ _ _; eq_refl) ?_
      try rw [hmc3.2.2.1]
      refine he_s 1 (pc' := cond (fx_cb .ne F 0) 38 34) (lc' := [(0, .ref 9), (1, .int x)]) (stk' := []) (mem' := cm gc3 lc3 a b R) (by intro _ _ _; eq_refl) ?_
      rw [show (fx_cb .ne F 0) = true from cb_nz_ne hmc3.1]
      dsimp only [cond]
      refine he_s 1 (pc' := 39) (lc' := [(0, .ref 9), (1, .int x)]) (stk' := [.int 0]) (mem' := cm gc3 lc3 a b R) (by intro _ _ _; eq_refl) ?_
      exact he_ret ⟨_, _, hfc3, hmc3, rfl⟩ (by rfl) (by rfl) (by rfl)
    · refine he_s 1 (pc' := 24) (lc' := [(0, .ref 9), (1, .int x)]) (stk' := [.ref 9]) (mem' := cm g l a b R) (by intro _ _ _; eq_refl) ?_
      refine he_ivV (ha_misfitq (a := a) (b := b) (R := R) h) (by omega) (by rfl) (by rfl) (by rfl) (by rfl) (by rfl) (by rfl) ?_
      refine he_s 2 (pc' := 31) (lc' := [(0, .ref 9), (1, .int x)]) (stk' := [.int (g 9 10)]) (mem' := cm g l a b R) (by intro _ _ _; eq_refl) ?_
      try rw [h.2.2.1]
      refine he_s 1 (pc' := cond (fx_cb .ne F 0) 38 34) (lc' := [(0, .ref 9), (1, .int x)]) (stk' := []) (mem' := cm g l a b R) (by intro _ _ _; eq_refl) ?_
      rw [show (fx_cb .ne F 0) = true from cb_nz_ne h.1]
      dsimp only [cond]
      refine he_s 1 (pc' := 39) (lc' := [(0, .ref 9), (1, .int x)]) (stk' := [.int 0]) (mem' := cm g l a b R) (by intro _ _ _; eq_refl) ?_
      exact he_ret ⟨_, _, cfr_rf, h, rfl⟩ (by rfl) (by rfl) (by rfl)
  · refine he_s 1 (pc' := 24) (lc' := [(0, .ref 9), (1, .int x)]) (stk' := [.ref 9]) (mem' := cm g l a b R) (by intro _ _ _; eq_refl) ?_
    refine he_ivV (ha_misfitq (a := a) (b := b) (R := R) h) (by omega) (by rfl) (by rfl) (by rfl) (by rfl) (by rfl) (by rfl) ?_
    refine he_s 2 (pc' := 31) (lc' := [(0, .ref 9), (1, .int x)]) (stk' := [.int (g 9 10)]) (mem' := cm g l a b R) (by intro _ _ _; eq_refl) ?_
    try rw [h.2.2.1]
    refine he_s 1 (pc' := cond (fx_cb .ne F 0) 38 34) (lc' := [(0, .ref 9), (1, .int x)]) (stk' := []) (mem' := cm g l a b R) (by intro _ _ _; eq_refl) ?_
    rw [show (fx_cb .ne F 0) = true from cb_nz_ne h.1]
    dsimp only [cond]
    refine he_s 1 (pc' := 39) (lc' := [(0, .ref 9), (1, .int x)]) (stk' := [.int 0]) (mem' := cm g l a b R) (by intro _ _ _; eq_refl) ?_
    exact he_ret ⟨_, _, cfr_rf, h, rfl⟩ (by rfl) (by rfl) (by rfl)
theorem ha_pn0 {lo hi : Nat} (hg : ctx a b T n) (hlo : lo < 10000) (hhi : hi < 10000) (h : co g l T n p) : ∃ (v : Option Value) (mem' : fx_M), (fun R1 => ∃ (v : Int32) (g' : Nat → Nat → Int32) (l' : Nat → Nat → Int64), cfr g l g' l' ∧ ((sp_k T n p = 2 ∧ (lo ≤ sp_v T n p ∧ sp_v T n p ≤ hi) ∧ v = nI (sp_v T n p) ∧ co g' l' T n (sp_n T n p)) ∨ (sp_k T n p = 2 ∧ ¬ (lo ≤ sp_v T n p ∧ sp_v T n p ≤ hi) ∧ cq g' l' T n 4 (sp_s T n p)) ∨ (¬ sp_k T n p = 2 ∧ cq g' l' T n (sp_m T n p) (sp_s T n p))) ∧ R1 = (some (.int v), cm g' l' a b R)) (v, mem') ∧ hr_T 4 111 [.ref 9, .int (nI lo), .int (nI hi)] (cm g l a b R) v mem' := by
  refine he_meth (F := fun R1 => ∃ (v : Int32) (g' : Nat → Nat → Int32) (l' : Nat → Nat → Int64), cfr g l g' l' ∧ ((sp_k T n p = 2 ∧ (lo ≤ sp_v T n p ∧ sp_v T n p ≤ hi) ∧ v = nI (sp_v T n p) ∧ co g' l' T n (sp_n T n p)) ∨ (sp_k T n p = 2 ∧ ¬ (lo ≤ sp_v T n p ∧ sp_v T n p ≤ hi) ∧ cq g' l' T n 4 (sp_s T n p)) ∨ (¬ sp_k T n p = 2 ∧ cq g' l' T n (sp_m T n p) (sp_s T n p))) ∧ R1 = (some (.int v), cm g' l' a b R)) (M := gk_m111) (by rfl) (by rfl) ?_
  obtain ⟨-, -, -, h6, -, -, h9, -⟩ := h.2.1
  have hk4 := sp_k4 (T := T) (n := n) (p := p)
  by_cases hk : sp_k T n p = 2
  · have h6a : g 9 6 = 2 := h6.trans (by rw [hk]; rfl)
    have hv1 := sp_v_lt h.1 hk
    refine he_s 6 (pc' := 10) (lc' := [(3, .int (g 9 9)), (0, .ref 9), (1, .int (nI lo)), (2, .int (nI hi))]) (stk' := [.int 2, .int (g 9 6)]) (mem' := cm g l a b R) (by intro _ _ _; eq_refl) ?_
    try rw [(h9 hk)]
    try rw [h6a]
    refine he_s 1 (pc' := cond (fx_cb .eq 2 2) 20 13) (lc' := [(3, .int (nI (sp_v T n p))), (0, .ref 9), (1, .int (nI lo)), (2, .int (nI hi))]) (stk' := []) (mem' := cm g l a b R) (by intro _ _ _; eq_refl) ?_
    rw [show (fx_cb .eq 2 2) = true from by decide]
    dsimp only [cond]
    refine he_s 2 (pc' := 22) (lc' := [(3, .int (nI (sp_v T n p))), (0, .ref 9), (1, .int (nI lo)), (2, .int (nI hi))]) (stk' := [.int (nI lo), .int (nI (sp_v T n p))]) (mem' := cm g l a b R) (by intro _ _ _; eq_refl) ?_
    refine he_s 1 (pc' := cond (fx_cb .lt (nI (sp_v T n p)) (nI lo)) 30 25) (lc' := [(3, .int (nI (sp_v T n p))), (0, .ref 9), (1, .int (nI lo)), (2, .int (nI hi))]) (stk' := []) (mem' := cm g l a b R) (by intro _ _ _; eq_refl) ?_
    by_cases y1 : (sp_v T n p) < lo
    · rw [show (fx_cb .lt (nI (sp_v T n p)) (nI lo)) = true from cb_ltT (a := (sp_v T n p)) (b := lo) (by omega) (by omega) (by omega)]
      dsimp only [cond]
      refine he_s 2 (pc' := 32) (lc' := [(3, .int (nI (sp_v T n p))), (0, .ref 9), (1, .int (nI lo)), (2, .int (nI hi))]) (stk' := [.int 4, .ref 9]) (mem' := cm g l a b R) (by intro _ _ _; eq_refl) ?_
      obtain ⟨gc2, hrc2, hmc2, frc2⟩ := ha_fail (a := a) (b := b) (R := R) (x := 4) h (by decide)
      refine he_ivV hrc2 (by omega) (by rfl) (by rfl) (by rfl) (by rfl) (by rfl) (by rfl) ?_
      have hfc2 := cfr_tr cfr_rf frc2
      refine he_s 2 (pc' := 43) (lc' := [(3, .int (nI (sp_v T n p))), (0, .ref 9), (1, .int (nI lo)), (2, .int (nI hi))]) (stk' := [.int (nI (sp_v T n p))]) (mem' := cm gc2 l a b R) (by intro _ _ _; eq_refl) ?_
      exact he_ret ⟨_, _, _, hfc2, Or.inr (Or.inl ⟨by omega, fun z => by omega, hmc2⟩), rfl⟩ (by rfl) (by rfl) (by rfl)
    · rw [show (fx_cb .lt (nI (sp_v T n p)) (nI lo)) = false from cb_ltF (a := (sp_v T n p)) (b := lo) (by omega) (by omega) (by omega)]
      dsimp only [cond]
      refine he_s 2 (pc' := 27) (lc' := [(3, .int (nI (sp_v T n p))), (0, .ref 9), (1, .int (nI lo)), (2, .int (nI hi))]) (stk' := [.int (nI hi), .int (nI (sp_v T n p))]) (mem' := cm g l a b R) (by intro _ _ _; eq_refl) ?_
      refine he_s 1 (pc' := cond (fx_cb .le (nI (sp_v T n p)) (nI hi)) 38 30) (lc' := [(3, .int (nI (sp_v T n p))), (0, .ref 9), (1, .int (nI lo)), (2, .int (nI hi))]) (stk' := []) (mem' := cm g l a b R) (by intro _ _ _; eq_refl) ?_
      by_cases y3 : (sp_v T n p) ≤ hi
      · rw [show (fx_cb .le (nI (sp_v T n p)) (nI hi)) = true from cb_leT (a := (sp_v T n p)) (b := hi) (by omega) (by omega) (by omega)]
        dsimp only [cond]
        refine he_s 1 (pc' := 39) (lc' := [(3, .int (nI (sp_v T n p))), (0, .ref 9), (1, .int (nI lo)), (2, .int (nI hi))]) (stk' := [.ref 9]) (mem' := cm g l a b R) (by intro _ _ _; eq_refl) ?_
        obtain ⟨gc4, lc4, hrc4, hmc4, frc4⟩ := ha_scano (R := R) hg h
        refine he_ivV hrc4 (by omega) (by rfl) (by rfl) (by rfl) (by rfl) (by rfl) (by rfl) ?_
        have hfc4 := cfr_tr cfr_rf frc4
        refine he_s 1 (pc' := 43) (lc' := [(3, .int (nI (sp_v T n p))), (0, .ref 9), (1, .int (nI lo)), (2, .int (nI hi))]) (stk' := [.int (nI (sp_v T n p))]) (mem' := cm gc4 lc4 a b R) (by intro _ _ _; eq_refl) ?_
        exact he_ret ⟨_, _, _, hfc4, Or.inl ⟨by omega, ⟨by omega, by omega⟩, rfl, hmc4⟩, rfl⟩ (by rfl) (by rfl) (by rfl)
      · rw [show (fx_cb .le (nI (sp_v T n p)) (nI hi)) = false from cb_leF (a := (sp_v T n p)) (b := hi) (by omega) (by omega) (by omega)]
        dsimp only [cond]
        refine he_s 2 (pc' := 32) (lc' := [(3, .int (nI (sp_v T n p))), (0, .ref 9), (1, .int (nI lo)), (2, .int (nI hi))]) (stk' := [.int 4, .ref 9]) (mem' := cm g l a b R) (by intro _ _ _; eq_refl) ?_
        obtain ⟨gc5, hrc5, hmc5, frc5⟩ := ha_fail (a := a) (b := b) (R := R) (x := 4) h (by decide)
        refine he_ivV hrc5 (by omega) (by rfl) (by rfl) (by rfl) (by rfl) (by rfl) (by rfl) ?_
        have hfc5 := cfr_tr cfr_rf frc5
        refine he_s 2 (pc' := 43) (lc' := [(3, .int (nI (sp_v T n p))), (0, .ref 9), (1, .int (nI lo)), (2, .int (nI hi))]) (stk' := [.int (nI (sp_v T n p))]) (mem' := cm gc5 l a b R) (by intro _ _ _; eq_refl) ?_
        exact he_ret ⟨_, _, _, hfc5, Or.inr (Or.inl ⟨by omega, fun z => by omega, hmc5⟩), rfl⟩ (by rfl) (by rfl) (by rfl)
  · refine he_s 6 (pc' := 10) (lc' := [(3, .int (g 9 9)), (0, .ref 9), (1, .int (nI lo)), (2, .int (nI hi))]) (stk' := [.int 2, .int (g 9 6)]) (mem' := cm g l a b R) (by intro _ _ _; eq_refl) ?_
    try rw [h6]
    refine he_s 1 (pc' := cond (fx_cb .eq (nI (sp_k T n p)) 2) 20 13) (lc' := [(3, .int (g 9 9)), (0, .ref 9), (1, .int (nI lo)), (2, .int (nI hi))]) (stk' := []) (mem' := cm g l a b R) (by intro _ _ _; eq_refl) ?_
    rw [show (fx_cb .eq (nI (sp_k T n p)) 2) = false from cb_eqF (a := (sp_k T n p)) (b := 2) (by omega) (by omega) (by omega)]
    dsimp only [cond]
    refine he_s 1 (pc' := 14) (lc' := [(3, .int (g 9 9)), (0, .ref 9), (1, .int (nI lo)), (2, .int (nI hi))]) (stk' := [.ref 9]) (mem' := cm g l a b R) (by intro _ _ _; eq_refl) ?_
    obtain ⟨gc6, hrc6, hmc6, frc6⟩ := ha_misfit (a := a) (b := b) (R := R) h
    refine he_ivV hrc6 (by omega) (by rfl) (by rfl) (by rfl) (by rfl) (by rfl) (by rfl) ?_
    have hfc6 := cfr_tr cfr_rf frc6
    refine he_s 2 (pc' := 43) (lc' := [(3, .int (g 9 9)), (0, .ref 9), (1, .int (nI lo)), (2, .int (nI hi))]) (stk' := [.int (g 9 9)]) (mem' := cm gc6 l a b R) (by intro _ _ _; eq_refl) ?_
    exact he_ret ⟨_, _, _, hfc6, Or.inr (Or.inr ⟨by omega, hmc6⟩), rfl⟩ (by rfl) (by rfl) (by rfl)
theorem ha_pnq0 {x y : Int32} (hg : ctx a b T n) (h : cq g l T n F P) : ∃ (v : Option Value) (mem' : fx_M), (fun R1 => ∃ (g' : Nat → Nat → Int32) (l' : Nat → Nat → Int64) (v : Int32), cfr g l g' l' ∧ cq g' l' T n F P ∧ R1 = (some (.int v), cm g' l' a b R)) (v, mem') ∧ hr_T 4 111 [.ref 9, .int x, .int y] (cm g l a b R) v mem' := by
  refine he_meth (F := fun R1 => ∃ (g' : Nat → Nat → Int32) (l' : Nat → Nat → Int64) (v : Int32), cfr g l g' l' ∧ cq g' l' T n F P ∧ R1 = (some (.int v), cm g' l' a b R)) (M := gk_m111) (by rfl) (by rfl) ?_
  refine he_s 6 (pc' := 10) (lc' := [(3, .int (g 9 9)), (0, .ref 9), (1, .int x), (2, .int y)]) (stk' := [.int 2, .int (g 9 6)]) (mem' := cm g l a b R) (by intro _ _ _; eq_refl) ?_
  refine he_s 1 (pc' := cond (fx_cb .eq (g 9 6) 2) 20 13) (lc' := [(3, .int (g 9 9)), (0, .ref 9), (1, .int x), (2, .int y)]) (stk' := []) (mem' := cm g l a b R) (by intro _ _ _; eq_refl) ?_
  cases y1 : fx_cb .eq (g 9 6) 2
  · refine he_s 1 (pc' := 14) (lc' := [(3, .int (g 9 9)), (0, .ref 9), (1, .int x), (2, .int y)]) (stk' := [.ref 9]) (mem' := cm g l a b R) (by intro _ _ _; eq_refl) ?_
    refine he_ivV (ha_misfitq (a := a) (b := b) (R := R) h) (by omega) (by rfl) (by rfl) (by rfl) (by rfl) (by rfl) (by rfl) ?_
    refine he_s 2 (pc' := 43) (lc' := [(3, .int (g 9 9)), (0, .ref 9), (1, .int x), (2, .int y)]) (stk' := [.int (g 9 9)]) (mem' := cm g l a b R) (by intro _ _ _; eq_refl) ?_
    exact he_ret ⟨_, _, _, cfr_rf, h, rfl⟩ (by rfl) (by rfl) (by rfl)
  · refine he_s 2 (pc' := 22) (lc' := [(3, .int (g 9 9)), (0, .ref 9), (1, .int x), (2, .int y)]) (stk' := [.int x, .int (g 9 9)]) (mem' := cm g l a b R) (by intro _ _ _; eq_refl) ?_
    refine he_s 1 (pc' := cond (fx_cb .lt (g 9 9) x) 30 25) (lc' := [(3, .int (g 9 9)), (0, .ref 9), (1, .int x), (2, .int y)]) (stk' := []) (mem' := cm g l a b R) (by intro _ _ _; eq_refl) ?_
    cases y3 : fx_cb .lt (g 9 9) x
    · refine he_s 2 (pc' := 27) (lc' := [(3, .int (g 9 9)), (0, .ref 9), (1, .int x), (2, .int y)]) (stk' := [.int y, .int (g 9 9)]) (mem' := cm g l a b R) (by intro _ _ _; eq_refl) ?_
      refine he_s 1 (pc' := cond (fx_cb .le (g 9 9) y) 38 30) (lc' := [(3, .int (g 9 9)), (0, .ref 9), (1, .int x), (2, .int y)]) (stk' := []) (mem' := cm g l a b R) (by intro _ _ _; eq_refl) ?_
      cases y4 : fx_cb .le (g 9 9) y
      · refine he_s 2 (pc' := 32) (lc' := [(3, .int (g 9 9)), (0, .ref 9), (1, .int x), (2, .int y)]) (stk' := [.int 4, .ref 9]) (mem' := cm g l a b R) (by intro _ _ _; eq_refl) ?_
        refine he_ivV (ha_failq (a := a) (b := b) (R := R) (x := 4) h) (by omega) (by rfl) (by rfl) (by rfl) (by rfl) (by rfl) (by rfl) ?_
        refine he_s 2 (pc' := 43) (lc' := [(3, .int (g 9 9)), (0, .ref 9), (1, .int x), (2, .int y)]) (stk' := [.int (g 9 9)]) (mem' := cm g l a b R) (by intro _ _ _; eq_refl) ?_
        exact he_ret ⟨_, _, _, cfr_rf, h, rfl⟩ (by rfl) (by rfl) (by rfl)
      · refine he_s 1 (pc' := 39) (lc' := [(3, .int (g 9 9)), (0, .ref 9), (1, .int x), (2, .int y)]) (stk' := [.ref 9]) (mem' := cm g l a b R) (by intro _ _ _; eq_refl) ?_
        obtain ⟨gc6, lc6, hrc6, hmc6, frc6⟩ := ha_scanq (R := R) hg h
        refine he_ivV hrc6 (by omega) (by rfl) (by rfl) (by rfl) (by rfl) (by rfl) (by rfl) ?_
        have hfc6 := cfr_tr cfr_rf frc6
        refine he_s 1 (pc' := 43) (lc' := [(3, .int (g 9 9)), (0, .ref 9), (1, .int x), (2, .int y)]) (stk' := [.int (g 9 9)]) (mem' := cm gc6 lc6 a b R) (by intro _ _ _; eq_refl) ?_
        exact he_ret ⟨_, _, _, hfc6, hmc6, rfl⟩ (by rfl) (by rfl) (by rfl)
    · refine he_s 2 (pc' := 32) (lc' := [(3, .int (g 9 9)), (0, .ref 9), (1, .int x), (2, .int y)]) (stk' := [.int 4, .ref 9]) (mem' := cm g l a b R) (by intro _ _ _; eq_refl) ?_
      refine he_ivV (ha_failq (a := a) (b := b) (R := R) (x := 4) h) (by omega) (by rfl) (by rfl) (by rfl) (by rfl) (by rfl) (by rfl) ?_
      refine he_s 2 (pc' := 43) (lc' := [(3, .int (g 9 9)), (0, .ref 9), (1, .int x), (2, .int y)]) (stk' := [.int (g 9 9)]) (mem' := cm g l a b R) (by intro _ _ _; eq_refl) ?_
      exact he_ret ⟨_, _, _, cfr_rf, h, rfl⟩ (by rfl) (by rfl) (by rfl)
theorem sp_cw_n1F (h : fx_cb .ne (sp_cw T n p) (-1) = false) : ¬ (sp_k T n p = 1 ∧ sp_kw (sp_wd T n p) < 23) := by
  rw [sp_cw_n1] at h
  exact of_decide_eq_false h
theorem sp_cw_n1T (h : fx_cb .ne (sp_cw T n p) (-1) = true) : sp_k T n p = 1 ∧ sp_kw (sp_wd T n p) < 23 := by
  rw [sp_cw_n1] at h
  exact of_decide_eq_true h
theorem lg_cmp_eT {x y : Int64} (h : fx_cb .eq (lg_cmp x y) 0 = true) : x = y := lg_cmp0 (by
  show (!decide (lg_cmp x y = 0)) = false
  rw [show decide (lg_cmp x y = 0) = true from h]
  rfl)
theorem lg_cmp_eF {x y : Int64} (h : fx_cb .eq (lg_cmp x y) 0 = false) : ¬ x = y := lg_cmp1 (by
  show (!decide (lg_cmp x y = 0)) = true
  rw [show decide (lg_cmp x y = 0) = false from h]
  rfl)
theorem ha_nh0 (hg : ctx a b T n) (h : co g l T n p) : ∃ (v : Option Value) (mem' : fx_M), (fun R1 => ∃ (v : Int64) (g' : Nat → Nat → Int32), cfr g l g' l ∧ ((sp_nm T n p ∧ v = Int64.ofNat (sp_cd (sp_wd T n p)) ∧ co g' l T n p) ∨ (¬ sp_nm T n p ∧ v = 0 ∧ cq g' l T n (sp_m T n p) (sp_s T n p))) ∧ R1 = (some (.long v), cm g' l a b R)) (v, mem') ∧ hr_T 3 112 [.ref 9] (cm g l a b R) v mem' := by
  refine he_meth (F := fun R1 => ∃ (v : Int64) (g' : Nat → Nat → Int32), cfr g l g' l ∧ ((sp_nm T n p ∧ v = Int64.ofNat (sp_cd (sp_wd T n p)) ∧ co g' l T n p) ∨ (¬ sp_nm T n p ∧ v = 0 ∧ cq g' l T n (sp_m T n p) (sp_s T n p))) ∧ R1 = (some (.long v), cm g' l a b R)) (M := gk_m112) (by rfl) (by rfl) ?_
  obtain ⟨-, -, -, h6, h7, h8, -, -⟩ := h.2.1
  have hk4 := sp_k4 (T := T) (n := n) (p := p)
  have hnz : sp_k T n p = 1 → sp_cn T n p = 0 → ¬ sp_n T n p ≤ sp_s T n p + 8 := fun z e q => by
    unfold sp_cn at e
    rw [if_pos q] at e
    have hl := sp_n_lt h.1 (Or.inl z)
    have h1 := sp_cd_pos (sp_wd_lo h.1 z) (fun y => by have := sp_wd_len (T := T) (n := n) (p := p); rw [y] at this; have : 0 = _ := this; omega)
    have := sp_i64 (sp_cd_63 (sp_wd_lo h.1 z) (by rw [sp_wd_len]; omega)) (by decide) (show Int64.ofNat (sp_cd (sp_wd T n p)) = Int64.ofNat 0 from e)
    omega
  have hw1 := sp_kw_le (sp_wd T n p)
  by_cases hk : sp_k T n p = 1
  · have h6a : g 9 6 = 1 := h6.trans (by rw [hk]; rfl)
    refine he_s 3 (pc' := 5) (lc' := [(0, .ref 9)]) (stk' := [.int 1, .int (g 9 6)]) (mem' := cm g l a b R) (by intro _ _ _; eq_refl) ?_
    try rw [h6a]
    refine he_s 1 (pc' := cond (fx_cb .ne 1 1) 30 8) (lc' := [(0, .ref 9)]) (stk' := []) (mem' := cm g l a b R) (by intro _ _ _; eq_refl) ?_
    rw [show (fx_cb .ne 1 1) = false from by decide]
    dsimp only [cond]
    refine he_s 3 (pc' := 13) (lc' := [(0, .ref 9)]) (stk' := [.int (-1), .int (g 9 7)]) (mem' := cm g l a b R) (by intro _ _ _; eq_refl) ?_
    try rw [h7]
    refine he_s 1 (pc' := cond (fx_cb .ne (sp_cw T n p) (-1)) 30 16) (lc' := [(0, .ref 9)]) (stk' := []) (mem' := cm g l a b R) (by intro _ _ _; eq_refl) ?_
    cases y1 : fx_cb .ne (sp_cw T n p) (-1)
    · refine he_s 4 (pc' := 22) (lc' := [(0, .ref 9)]) (stk' := [.int (lg_cmp (l 9 8) 0)]) (mem' := cm g l a b R) (by intro _ _ _; eq_refl) ?_
      try rw [(h8 hk)]
      refine he_s 1 (pc' := cond (fx_cb .eq (lg_cmp (sp_cn T n p) 0) 0) 30 25) (lc' := [(0, .ref 9)]) (stk' := []) (mem' := cm g l a b R) (by intro _ _ _; eq_refl) ?_
      cases y2 : fx_cb .eq (lg_cmp (sp_cn T n p) 0) 0
      · refine he_s 2 (pc' := 29) (lc' := [(0, .ref 9)]) (stk' := [.long (l 9 8)]) (mem' := cm g l a b R) (by intro _ _ _; eq_refl) ?_
        try rw [(h8 hk)]
        have w1 := sp_cw_n1F y1
        have w2 : ¬ sp_cn T n p = 0 := lg_cmp_eF y2
        have w3 : sp_n T n p ≤ sp_s T n p + 8 := Classical.byContradiction (fun z => w2 (if_neg z))
        exact he_ret ⟨_, _, cfr_rf, Or.inl ⟨⟨hk, w3, by omega⟩, if_pos w3, h⟩, rfl⟩ (by rfl) (by rfl) (by rfl)
      · refine he_s 1 (pc' := 31) (lc' := [(0, .ref 9)]) (stk' := [.ref 9]) (mem' := cm g l a b R) (by intro _ _ _; eq_refl) ?_
        obtain ⟨gc3, hrc3, hmc3, frc3⟩ := ha_misfit (a := a) (b := b) (R := R) h
        refine he_ivV hrc3 (by omega) (by rfl) (by rfl) (by rfl) (by rfl) (by rfl) (by rfl) ?_
        have hfc3 := cfr_tr cfr_rf frc3
        refine he_s 1 (pc' := 35) (lc' := [(0, .ref 9)]) (stk' := [.long 0]) (mem' := cm gc3 l a b R) (by intro _ _ _; eq_refl) ?_
        have w : ¬ sp_nm T n p := fun z => hnz hk (lg_cmp_eT y2) z.2.1
        exact he_ret ⟨_, _, hfc3, Or.inr ⟨w, rfl, hmc3⟩, rfl⟩ (by rfl) (by rfl) (by rfl)
    · refine he_s 1 (pc' := 31) (lc' := [(0, .ref 9)]) (stk' := [.ref 9]) (mem' := cm g l a b R) (by intro _ _ _; eq_refl) ?_
      obtain ⟨gc4, hrc4, hmc4, frc4⟩ := ha_misfit (a := a) (b := b) (R := R) h
      refine he_ivV hrc4 (by omega) (by rfl) (by rfl) (by rfl) (by rfl) (by rfl) (by rfl) ?_
      have hfc4 := cfr_tr cfr_rf frc4
      refine he_s 1 (pc' := 35) (lc' := [(0, .ref 9)]) (stk' := [.long 0]) (mem' := cm gc4 l a b R) (by intro _ _ _; eq_refl) ?_
      have w : ¬ sp_nm T n p := fun z => by have := sp_cw_n1T y1; have := z.2.2; omega
      exact he_ret ⟨_, _, hfc4, Or.inr ⟨w, rfl, hmc4⟩, rfl⟩ (by rfl) (by rfl) (by rfl)
  · refine he_s 3 (pc' := 5) (lc' := [(0, .ref 9)]) (stk' := [.int 1, .int (g 9 6)]) (mem' := cm g l a b R) (by intro _ _ _; eq_refl) ?_
    try rw [h6]
    refine he_s 1 (pc' := cond (fx_cb .ne (nI (sp_k T n p)) 1) 30 8) (lc' := [(0, .ref 9)]) (stk' := []) (mem' := cm g l a b R) (by intro _ _ _; eq_refl) ?_
    rw [show (fx_cb .ne (nI (sp_k T n p)) 1) = true from cb_neT (a := (sp_k T n p)) (b := 1) (by omega) (by omega) (by omega)]
    dsimp only [cond]
    refine he_s 1 (pc' := 31) (lc' := [(0, .ref 9)]) (stk' := [.ref 9]) (mem' := cm g l a b R) (by intro _ _ _; eq_refl) ?_
    obtain ⟨gc5, hrc5, hmc5, frc5⟩ := ha_misfit (a := a) (b := b) (R := R) h
    refine he_ivV hrc5 (by omega) (by rfl) (by rfl) (by rfl) (by rfl) (by rfl) (by rfl) ?_
    have hfc5 := cfr_tr cfr_rf frc5
    refine he_s 1 (pc' := 35) (lc' := [(0, .ref 9)]) (stk' := [.long 0]) (mem' := cm gc5 l a b R) (by intro _ _ _; eq_refl) ?_
    have w : ¬ sp_nm T n p := fun z => hk z.1
    exact he_ret ⟨_, _, hfc5, Or.inr ⟨w, rfl, hmc5⟩, rfl⟩ (by rfl) (by rfl) (by rfl)
theorem ha_nhq0 (hg : ctx a b T n) (h : cq g l T n F P) : ∃ (v : Option Value) (mem' : fx_M), (fun R1 => ∃ (g' : Nat → Nat → Int32) (l' : Nat → Nat → Int64) (v : Int64), cfr g l g' l' ∧ cq g' l' T n F P ∧ R1 = (some (.long v), cm g' l' a b R)) (v, mem') ∧ hr_T 3 112 [.ref 9] (cm g l a b R) v mem' := by
  refine he_meth (F := fun R1 => ∃ (g' : Nat → Nat → Int32) (l' : Nat → Nat → Int64) (v : Int64), cfr g l g' l' ∧ cq g' l' T n F P ∧ R1 = (some (.long v), cm g' l' a b R)) (M := gk_m112) (by rfl) (by rfl) ?_
  refine he_s 3 (pc' := 5) (lc' := [(0, .ref 9)]) (stk' := [.int 1, .int (g 9 6)]) (mem' := cm g l a b R) (by intro _ _ _; eq_refl) ?_
  refine he_s 1 (pc' := cond (fx_cb .ne (g 9 6) 1) 30 8) (lc' := [(0, .ref 9)]) (stk' := []) (mem' := cm g l a b R) (by intro _ _ _; eq_refl) ?_
  cases y1 : fx_cb .ne (g 9 6) 1
  · refine he_s 3 (pc' := 13) (lc' := [(0, .ref 9)]) (stk' := [.int (-1), .int (g 9 7)]) (mem' := cm g l a b R) (by intro _ _ _; eq_refl) ?_
    refine he_s 1 (pc' := cond (fx_cb .ne (g 9 7) (-1)) 30 16) (lc' := [(0, .ref 9)]) (stk' := []) (mem' := cm g l a b R) (by intro _ _ _; eq_refl) ?_
    cases y2 : fx_cb .ne (g 9 7) (-1)
    · refine he_s 4 (pc' := 22) (lc' := [(0, .ref 9)]) (stk' := [.int (lg_cmp (l 9 8) 0)]) (mem' := cm g l a b R) (by intro _ _ _; eq_refl) ?_
      refine he_s 1 (pc' := cond (fx_cb .eq (lg_cmp (l 9 8) 0) 0) 30 25) (lc' := [(0, .ref 9)]) (stk' := []) (mem' := cm g l a b R) (by intro _ _ _; eq_refl) ?_
      cases y3 : fx_cb .eq (lg_cmp (l 9 8) 0) 0
      · refine he_s 2 (pc' := 29) (lc' := [(0, .ref 9)]) (stk' := [.long (l 9 8)]) (mem' := cm g l a b R) (by intro _ _ _; eq_refl) ?_
        exact he_ret ⟨_, _, _, cfr_rf, h, rfl⟩ (by rfl) (by rfl) (by rfl)
      · refine he_s 1 (pc' := 31) (lc' := [(0, .ref 9)]) (stk' := [.ref 9]) (mem' := cm g l a b R) (by intro _ _ _; eq_refl) ?_
        refine he_ivV (ha_misfitq (a := a) (b := b) (R := R) h) (by omega) (by rfl) (by rfl) (by rfl) (by rfl) (by rfl) (by rfl) ?_
        refine he_s 1 (pc' := 35) (lc' := [(0, .ref 9)]) (stk' := [.long 0]) (mem' := cm g l a b R) (by intro _ _ _; eq_refl) ?_
        exact he_ret ⟨_, _, _, cfr_rf, h, rfl⟩ (by rfl) (by rfl) (by rfl)
    · refine he_s 1 (pc' := 31) (lc' := [(0, .ref 9)]) (stk' := [.ref 9]) (mem' := cm g l a b R) (by intro _ _ _; eq_refl) ?_
      refine he_ivV (ha_misfitq (a := a) (b := b) (R := R) h) (by omega) (by rfl) (by rfl) (by rfl) (by rfl) (by rfl) (by rfl) ?_
      refine he_s 1 (pc' := 35) (lc' := [(0, .ref 9)]) (stk' := [.long 0]) (mem' := cm g l a b R) (by intro _ _ _; eq_refl) ?_
      exact he_ret ⟨_, _, _, cfr_rf, h, rfl⟩ (by rfl) (by rfl) (by rfl)
  · refine he_s 1 (pc' := 31) (lc' := [(0, .ref 9)]) (stk' := [.ref 9]) (mem' := cm g l a b R) (by intro _ _ _; eq_refl) ?_
    refine he_ivV (ha_misfitq (a := a) (b := b) (R := R) h) (by omega) (by rfl) (by rfl) (by rfl) (by rfl) (by rfl) (by rfl) ?_
    refine he_s 1 (pc' := 35) (lc' := [(0, .ref 9)]) (stk' := [.long 0]) (mem' := cm g l a b R) (by intro _ _ _; eq_refl) ?_
    exact he_ret ⟨_, _, _, cfr_rf, h, rfl⟩ (by rfl) (by rfl) (by rfl)
end CRD
end MH19_2
section MH19_3
/-! ===== the class's names looked up ===== -/
theorem lg_neT {x y : Int64} (h : ¬ x = y) : fx_cb .ne (lg_cmp x y) 0 = true := by
  cases e : fx_cb .ne (lg_cmp x y) 0
  · exact absurd (lg_cmp0 e) h
  · rfl
theorem lg_eqF {x y : Int64} (h : ¬ x = y) : fx_cb .eq (lg_cmp x y) 0 = false := by
  cases e : fx_cb .eq (lg_cmp x y) 0
  · rfl
  · exact absurd (lg_cmp_eT e) h
section CNM
variable {g : Nat → Nat → Int32} {l : Nat → Nat → Int64} {a : Nat → Nat → Int32} {b : Nat → Nat → Int64} {R : fx_M} {T : Nat → Nat} {n p : Nat}
variable {F : Int32} {P : Nat}
theorem ha_nam41 {x : Int64} {N : Nat} (h8 : g 41 8 = nI N) (hN : N ≤ 10) : ∃ v : Int32, hr_T 1 38 [.ref 41, .long x] (cm g l a b R) (some (.int v)) (cm g l a b R) ∧ sp_is (b 42) N x v := by
  have loop : ∀ (r k : Nat), k + r = N → (∀ j, j < k → ¬ b 42 j = x) → he_R 0 gk_m38 2 [(3, .int (nI k)), (0, .ref 41), (1, .long x)] [] (cm g l a b R) (fun R1 => ∃ v : Int32, sp_is (b 42) N x v ∧ R1 = (some (.int v), cm g l a b R)) := by
    intro r
    induction r with
    | zero =>
      intro k hk hno
      obtain rfl : k = N := by omega
      refine he_s 3 (pc' := 7) (lc' := [(3, .int (nI k)), (0, .ref 41), (1, .long x)]) (stk' := [.int (g 41 8), .int (nI k)]) (mem' := cm g l a b R) (by intro _ _ _; eq_refl) ?_
      rw [h8]
      refine he_s 1 (pc' := cond (fx_cb .ge (nI k) (nI k)) 29 10) (lc' := [(3, .int (nI k)), (0, .ref 41), (1, .long x)]) (stk' := []) (mem' := cm g l a b R) (by intro _ _ _; eq_refl) ?_
      rw [show (fx_cb .ge (nI k) (nI k)) = true from cb_geT (a := k) (b := k) (by omega) (by omega) (by omega)]
      dsimp only [cond]
      refine he_s 1 (pc' := 30) (lc' := [(3, .int (nI k)), (0, .ref 41), (1, .long x)]) (stk' := [.int (-1)]) (mem' := cm g l a b R) (by intro _ _ _; eq_refl) ?_
      exact he_ret ⟨-1, Or.inl ⟨rfl, hno⟩, rfl⟩ (by rfl) (by rfl) (by rfl)
    | succ r ih =>
      intro k hk hno
      refine he_s 3 (pc' := 7) (lc' := [(3, .int (nI k)), (0, .ref 41), (1, .long x)]) (stk' := [.int (g 41 8), .int (nI k)]) (mem' := cm g l a b R) (by intro _ _ _; eq_refl) ?_
      rw [h8]
      refine he_s 1 (pc' := cond (fx_cb .ge (nI k) (nI N)) 29 10) (lc' := [(3, .int (nI k)), (0, .ref 41), (1, .long x)]) (stk' := []) (mem' := cm g l a b R) (by intro _ _ _; eq_refl) ?_
      rw [show (fx_cb .ge (nI k) (nI N)) = false from cb_geF (a := k) (b := N) (by omega) (by omega) (by omega)]
      dsimp only [cond]
      refine he_s 3 (pc' := 15) (lc' := [(3, .int (nI k)), (0, .ref 41), (1, .long x)]) (stk' := [.int (nI k), .ref 42]) (mem' := cm g l a b R) (by intro _ _ _; eq_refl) ?_
      refine he_ldL (by rfl) (by rfl) (fx_inN (i := k) (by omega) (by omega)) ?_
      rw [nI_clamp (by omega)]
      refine he_s 2 (pc' := 18) (lc' := [(3, .int (nI k)), (0, .ref 41), (1, .long x)]) (stk' := [.int (lg_cmp (b 42 k) x)]) (mem' := cm g l a b R) (by intro _ _ _; eq_refl) ?_
      refine he_s 1 (pc' := cond (fx_cb .ne (lg_cmp (b 42 k) x) 0) 23 21) (lc' := [(3, .int (nI k)), (0, .ref 41), (1, .long x)]) (stk' := []) (mem' := cm g l a b R) (by intro _ _ _; eq_refl) ?_
      cases h : fx_cb .ne (lg_cmp (b 42 k) x) 0
      · dsimp only [cond]
        refine he_s 1 (pc' := 22) (lc' := [(3, .int (nI k)), (0, .ref 41), (1, .long x)]) (stk' := [.int (nI k)]) (mem' := cm g l a b R) (by intro _ _ _; eq_refl) ?_
        exact he_ret ⟨nI k, Or.inr ⟨k, by omega, rfl, lg_cmp0 h, hno⟩, rfl⟩ (by rfl) (by rfl) (by rfl)
      · dsimp only [cond]
        refine he_s 2 (pc' := 2) (lc' := [(3, .int (nI k + 1)), (0, .ref 41), (1, .long x)]) (stk' := []) (mem' := cm g l a b R) (by intro _ _ _; eq_refl) ?_
        rw [show nI k + 1 = nI (k + 1) from nI_add k 1]
        refine ih (k + 1) (by omega) (fun j hj => ?_)
        by_cases e : j = k
        · rw [e]; exact lg_cmp1 h
        · exact hno j (by omega)
  obtain ⟨v, mem', ⟨w, h1, hR1⟩, hr⟩ := he_meth (k := 0) (f := 38) (as := [.ref 41, .long x]) (mem := cm g l a b R) (F := fun R1 => ∃ v : Int32, sp_is (b 42) N x v ∧ R1 = (some (.int v), cm g l a b R)) (M := gk_m38) (by rfl) (by rfl) (by
    refine he_s 2 (pc' := 2) (lc' := [(3, .int 0), (0, .ref 41), (1, .long x)]) (stk' := []) (mem' := cm g l a b R) (by intro _ _ _; eq_refl) ?_
    exact loop N 0 (by omega) (fun j hj => absurd hj (by omega)))
  cases hR1
  exact ⟨w, hr, h1⟩
theorem ha_cnam41 {x : Int64} {N : Nat} (h8 : g 52 7 = nI N) (hN : N ≤ 8) : ∃ v : Int32, hr_T 1 5 [.ref 52, .long x] (cm g l a b R) (some (.int v)) (cm g l a b R) ∧ sp_is (b 53) N x v := by
  have loop : ∀ (r k : Nat), k + r = N → (∀ j, j < k → ¬ b 53 j = x) → he_R 0 gk_m5 2 [(3, .int (nI k)), (0, .ref 52), (1, .long x)] [] (cm g l a b R) (fun R1 => ∃ v : Int32, sp_is (b 53) N x v ∧ R1 = (some (.int v), cm g l a b R)) := by
    intro r
    induction r with
    | zero =>
      intro k hk hno
      obtain rfl : k = N := by omega
      refine he_s 3 (pc' := 7) (lc' := [(3, .int (nI k)), (0, .ref 52), (1, .long x)]) (stk' := [.int (g 52 7), .int (nI k)]) (mem' := cm g l a b R) (by intro _ _ _; eq_refl) ?_
      rw [h8]
      refine he_s 1 (pc' := cond (fx_cb .ge (nI k) (nI k)) 29 10) (lc' := [(3, .int (nI k)), (0, .ref 52), (1, .long x)]) (stk' := []) (mem' := cm g l a b R) (by intro _ _ _; eq_refl) ?_
      rw [show (fx_cb .ge (nI k) (nI k)) = true from cb_geT (a := k) (b := k) (by omega) (by omega) (by omega)]
      dsimp only [cond]
      refine he_s 1 (pc' := 30) (lc' := [(3, .int (nI k)), (0, .ref 52), (1, .long x)]) (stk' := [.int (-1)]) (mem' := cm g l a b R) (by intro _ _ _; eq_refl) ?_
      exact he_ret ⟨-1, Or.inl ⟨rfl, hno⟩, rfl⟩ (by rfl) (by rfl) (by rfl)
    | succ r ih =>
      intro k hk hno
      refine he_s 3 (pc' := 7) (lc' := [(3, .int (nI k)), (0, .ref 52), (1, .long x)]) (stk' := [.int (g 52 7), .int (nI k)]) (mem' := cm g l a b R) (by intro _ _ _; eq_refl) ?_
      rw [h8]
      refine he_s 1 (pc' := cond (fx_cb .ge (nI k) (nI N)) 29 10) (lc' := [(3, .int (nI k)), (0, .ref 52), (1, .long x)]) (stk' := []) (mem' := cm g l a b R) (by intro _ _ _; eq_refl) ?_
      rw [show (fx_cb .ge (nI k) (nI N)) = false from cb_geF (a := k) (b := N) (by omega) (by omega) (by omega)]
      dsimp only [cond]
      refine he_s 3 (pc' := 15) (lc' := [(3, .int (nI k)), (0, .ref 52), (1, .long x)]) (stk' := [.int (nI k), .ref 53]) (mem' := cm g l a b R) (by intro _ _ _; eq_refl) ?_
      refine he_ldL (by rfl) (by rfl) (fx_inN (i := k) (by omega) (by omega)) ?_
      rw [nI_clamp (by omega)]
      refine he_s 2 (pc' := 18) (lc' := [(3, .int (nI k)), (0, .ref 52), (1, .long x)]) (stk' := [.int (lg_cmp (b 53 k) x)]) (mem' := cm g l a b R) (by intro _ _ _; eq_refl) ?_
      refine he_s 1 (pc' := cond (fx_cb .ne (lg_cmp (b 53 k) x) 0) 23 21) (lc' := [(3, .int (nI k)), (0, .ref 52), (1, .long x)]) (stk' := []) (mem' := cm g l a b R) (by intro _ _ _; eq_refl) ?_
      cases h : fx_cb .ne (lg_cmp (b 53 k) x) 0
      · dsimp only [cond]
        refine he_s 1 (pc' := 22) (lc' := [(3, .int (nI k)), (0, .ref 52), (1, .long x)]) (stk' := [.int (nI k)]) (mem' := cm g l a b R) (by intro _ _ _; eq_refl) ?_
        exact he_ret ⟨nI k, Or.inr ⟨k, by omega, rfl, lg_cmp0 h, hno⟩, rfl⟩ (by rfl) (by rfl) (by rfl)
      · dsimp only [cond]
        refine he_s 2 (pc' := 2) (lc' := [(3, .int (nI k + 1)), (0, .ref 52), (1, .long x)]) (stk' := []) (mem' := cm g l a b R) (by intro _ _ _; eq_refl) ?_
        rw [show nI k + 1 = nI (k + 1) from nI_add k 1]
        refine ih (k + 1) (by omega) (fun j hj => ?_)
        by_cases e : j = k
        · rw [e]; exact lg_cmp1 h
        · exact hno j (by omega)
  obtain ⟨v, mem', ⟨w, h1, hR1⟩, hr⟩ := he_meth (k := 0) (f := 5) (as := [.ref 52, .long x]) (mem := cm g l a b R) (F := fun R1 => ∃ v : Int32, sp_is (b 53) N x v ∧ R1 = (some (.int v), cm g l a b R)) (M := gk_m5) (by rfl) (by rfl) (by
    refine he_s 2 (pc' := 2) (lc' := [(3, .int 0), (0, .ref 52), (1, .long x)]) (stk' := []) (mem' := cm g l a b R) (by intro _ _ _; eq_refl) ?_
    exact loop N 0 (by omega) (fun j hj => absurd hj (by omega)))
  cases hR1
  exact ⟨w, hr, h1⟩
theorem ha_nam15 {x : Int64} {N : Nat} (h8 : g 15 8 = nI N) (hN : N ≤ 10) : ∃ v : Int32, hr_T 1 38 [.ref 15, .long x] (cm g l a b R) (some (.int v)) (cm g l a b R) ∧ sp_is (b 16) N x v := by
  have loop : ∀ (r k : Nat), k + r = N → (∀ j, j < k → ¬ b 16 j = x) → he_R 0 gk_m38 2 [(3, .int (nI k)), (0, .ref 15), (1, .long x)] [] (cm g l a b R) (fun R1 => ∃ v : Int32, sp_is (b 16) N x v ∧ R1 = (some (.int v), cm g l a b R)) := by
    intro r
    induction r with
    | zero =>
      intro k hk hno
      obtain rfl : k = N := by omega
      refine he_s 3 (pc' := 7) (lc' := [(3, .int (nI k)), (0, .ref 15), (1, .long x)]) (stk' := [.int (g 15 8), .int (nI k)]) (mem' := cm g l a b R) (by intro _ _ _; eq_refl) ?_
      rw [h8]
      refine he_s 1 (pc' := cond (fx_cb .ge (nI k) (nI k)) 29 10) (lc' := [(3, .int (nI k)), (0, .ref 15), (1, .long x)]) (stk' := []) (mem' := cm g l a b R) (by intro _ _ _; eq_refl) ?_
      rw [show (fx_cb .ge (nI k) (nI k)) = true from cb_geT (a := k) (b := k) (by omega) (by omega) (by omega)]
      dsimp only [cond]
      refine he_s 1 (pc' := 30) (lc' := [(3, .int (nI k)), (0, .ref 15), (1, .long x)]) (stk' := [.int (-1)]) (mem' := cm g l a b R) (by intro _ _ _; eq_refl) ?_
      exact he_ret ⟨-1, Or.inl ⟨rfl, hno⟩, rfl⟩ (by rfl) (by rfl) (by rfl)
    | succ r ih =>
      intro k hk hno
      refine he_s 3 (pc' := 7) (lc' := [(3, .int (nI k)), (0, .ref 15), (1, .long x)]) (stk' := [.int (g 15 8), .int (nI k)]) (mem' := cm g l a b R) (by intro _ _ _; eq_refl) ?_
      rw [h8]
      refine he_s 1 (pc' := cond (fx_cb .ge (nI k) (nI N)) 29 10) (lc' := [(3, .int (nI k)), (0, .ref 15), (1, .long x)]) (stk' := []) (mem' := cm g l a b R) (by intro _ _ _; eq_refl) ?_
      rw [show (fx_cb .ge (nI k) (nI N)) = false from cb_geF (a := k) (b := N) (by omega) (by omega) (by omega)]
      dsimp only [cond]
      refine he_s 3 (pc' := 15) (lc' := [(3, .int (nI k)), (0, .ref 15), (1, .long x)]) (stk' := [.int (nI k), .ref 16]) (mem' := cm g l a b R) (by intro _ _ _; eq_refl) ?_
      refine he_ldL (by rfl) (by rfl) (fx_inN (i := k) (by omega) (by omega)) ?_
      rw [nI_clamp (by omega)]
      refine he_s 2 (pc' := 18) (lc' := [(3, .int (nI k)), (0, .ref 15), (1, .long x)]) (stk' := [.int (lg_cmp (b 16 k) x)]) (mem' := cm g l a b R) (by intro _ _ _; eq_refl) ?_
      refine he_s 1 (pc' := cond (fx_cb .ne (lg_cmp (b 16 k) x) 0) 23 21) (lc' := [(3, .int (nI k)), (0, .ref 15), (1, .long x)]) (stk' := []) (mem' := cm g l a b R) (by intro _ _ _; eq_refl) ?_
      cases h : fx_cb .ne (lg_cmp (b 16 k) x) 0
      · dsimp only [cond]
        refine he_s 1 (pc' := 22) (lc' := [(3, .int (nI k)), (0, .ref 15), (1, .long x)]) (stk' := [.int (nI k)]) (mem' := cm g l a b R) (by intro _ _ _; eq_refl) ?_
        exact he_ret ⟨nI k, Or.inr ⟨k, by omega, rfl, lg_cmp0 h, hno⟩, rfl⟩ (by rfl) (by rfl) (by rfl)
      · dsimp only [cond]
        refine he_s 2 (pc' := 2) (lc' := [(3, .int (nI k + 1)), (0, .ref 15), (1, .long x)]) (stk' := []) (mem' := cm g l a b R) (by intro _ _ _; eq_refl) ?_
        rw [show nI k + 1 = nI (k + 1) from nI_add k 1]
        refine ih (k + 1) (by omega) (fun j hj => ?_)
        by_cases e : j = k
        · rw [e]; exact lg_cmp1 h
        · exact hno j (by omega)
  obtain ⟨v, mem', ⟨w, h1, hR1⟩, hr⟩ := he_meth (k := 0) (f := 38) (as := [.ref 15, .long x]) (mem := cm g l a b R) (F := fun R1 => ∃ v : Int32, sp_is (b 16) N x v ∧ R1 = (some (.int v), cm g l a b R)) (M := gk_m38) (by rfl) (by rfl) (by
    refine he_s 2 (pc' := 2) (lc' := [(3, .int 0), (0, .ref 15), (1, .long x)]) (stk' := []) (mem' := cm g l a b R) (by intro _ _ _; eq_refl) ?_
    exact loop N 0 (by omega) (fun j hj => absurd hj (by omega)))
  cases hR1
  exact ⟨w, hr, h1⟩
theorem ha_cnam15 {x : Int64} {N : Nat} (h8 : g 26 7 = nI N) (hN : N ≤ 8) : ∃ v : Int32, hr_T 1 5 [.ref 26, .long x] (cm g l a b R) (some (.int v)) (cm g l a b R) ∧ sp_is (b 27) N x v := by
  have loop : ∀ (r k : Nat), k + r = N → (∀ j, j < k → ¬ b 27 j = x) → he_R 0 gk_m5 2 [(3, .int (nI k)), (0, .ref 26), (1, .long x)] [] (cm g l a b R) (fun R1 => ∃ v : Int32, sp_is (b 27) N x v ∧ R1 = (some (.int v), cm g l a b R)) := by
    intro r
    induction r with
    | zero =>
      intro k hk hno
      obtain rfl : k = N := by omega
      refine he_s 3 (pc' := 7) (lc' := [(3, .int (nI k)), (0, .ref 26), (1, .long x)]) (stk' := [.int (g 26 7), .int (nI k)]) (mem' := cm g l a b R) (by intro _ _ _; eq_refl) ?_
      rw [h8]
      refine he_s 1 (pc' := cond (fx_cb .ge (nI k) (nI k)) 29 10) (lc' := [(3, .int (nI k)), (0, .ref 26), (1, .long x)]) (stk' := []) (mem' := cm g l a b R) (by intro _ _ _; eq_refl) ?_
      rw [show (fx_cb .ge (nI k) (nI k)) = true from cb_geT (a := k) (b := k) (by omega) (by omega) (by omega)]
      dsimp only [cond]
      refine he_s 1 (pc' := 30) (lc' := [(3, .int (nI k)), (0, .ref 26), (1, .long x)]) (stk' := [.int (-1)]) (mem' := cm g l a b R) (by intro _ _ _; eq_refl) ?_
      exact he_ret ⟨-1, Or.inl ⟨rfl, hno⟩, rfl⟩ (by rfl) (by rfl) (by rfl)
    | succ r ih =>
      intro k hk hno
      refine he_s 3 (pc' := 7) (lc' := [(3, .int (nI k)), (0, .ref 26), (1, .long x)]) (stk' := [.int (g 26 7), .int (nI k)]) (mem' := cm g l a b R) (by intro _ _ _; eq_refl) ?_
      rw [h8]
      refine he_s 1 (pc' := cond (fx_cb .ge (nI k) (nI N)) 29 10) (lc' := [(3, .int (nI k)), (0, .ref 26), (1, .long x)]) (stk' := []) (mem' := cm g l a b R) (by intro _ _ _; eq_refl) ?_
      rw [show (fx_cb .ge (nI k) (nI N)) = false from cb_geF (a := k) (b := N) (by omega) (by omega) (by omega)]
      dsimp only [cond]
      refine he_s 3 (pc' := 15) (lc' := [(3, .int (nI k)), (0, .ref 26), (1, .long x)]) (stk' := [.int (nI k), .ref 27]) (mem' := cm g l a b R) (by intro _ _ _; eq_refl) ?_
      refine he_ldL (by rfl) (by rfl) (fx_inN (i := k) (by omega) (by omega)) ?_
      rw [nI_clamp (by omega)]
      refine he_s 2 (pc' := 18) (lc' := [(3, .int (nI k)), (0, .ref 26), (1, .long x)]) (stk' := [.int (lg_cmp (b 27 k) x)]) (mem' := cm g l a b R) (by intro _ _ _; eq_refl) ?_
      refine he_s 1 (pc' := cond (fx_cb .ne (lg_cmp (b 27 k) x) 0) 23 21) (lc' := [(3, .int (nI k)), (0, .ref 26), (1, .long x)]) (stk' := []) (mem' := cm g l a b R) (by intro _ _ _; eq_refl) ?_
      cases h : fx_cb .ne (lg_cmp (b 27 k) x) 0
      · dsimp only [cond]
        refine he_s 1 (pc' := 22) (lc' := [(3, .int (nI k)), (0, .ref 26), (1, .long x)]) (stk' := [.int (nI k)]) (mem' := cm g l a b R) (by intro _ _ _; eq_refl) ?_
        exact he_ret ⟨nI k, Or.inr ⟨k, by omega, rfl, lg_cmp0 h, hno⟩, rfl⟩ (by rfl) (by rfl) (by rfl)
      · dsimp only [cond]
        refine he_s 2 (pc' := 2) (lc' := [(3, .int (nI k + 1)), (0, .ref 26), (1, .long x)]) (stk' := []) (mem' := cm g l a b R) (by intro _ _ _; eq_refl) ?_
        rw [show nI k + 1 = nI (k + 1) from nI_add k 1]
        refine ih (k + 1) (by omega) (fun j hj => ?_)
        by_cases e : j = k
        · rw [e]; exact lg_cmp1 h
        · exact hno j (by omega)
  obtain ⟨v, mem', ⟨w, h1, hR1⟩, hr⟩ := he_meth (k := 0) (f := 5) (as := [.ref 26, .long x]) (mem := cm g l a b R) (F := fun R1 => ∃ v : Int32, sp_is (b 27) N x v ∧ R1 = (some (.int v), cm g l a b R)) (M := gk_m5) (by rfl) (by rfl) (by
    refine he_s 2 (pc' := 2) (lc' := [(3, .int 0), (0, .ref 26), (1, .long x)]) (stk' := []) (mem' := cm g l a b R) (by intro _ _ _; eq_refl) ?_
    exact loop N 0 (by omega) (fun j hj => absurd hj (by omega)))
  cases hR1
  exact ⟨w, hr, h1⟩
/-- names are so many, as they stand in the class's lake at o -/
def cn_L (o : Nat) (A : sp_A) (g : Nat → Nat → Int32) (b : Nat → Nat → Int64) : Prop := g o 8 = nI A.1.1.length ∧ A.1.1.length ≤ 10 ∧ g (o + 11) 7 = nI A.1.2.length ∧ A.1.2.length ≤ 8 ∧ sp_nC (b (o + 1)) (A.1.1.map Prod.fst) ∧ sp_nC (b (o + 12)) (A.1.2.map Prod.fst)
theorem cn_L_fr {o : Nat} {A : sp_A} {g' : Nat → Nat → Int32} {l' : Nat → Nat → Int64} (h : cn_L o A g b) (hf : cfr g l g' l') (h1 : o ≠ 9) (h2 : o + 11 ≠ 9) : cn_L o A g' b := ⟨(congrFun (hf.1 o h1) 8).trans h.1, h.2.1, (congrFun (hf.1 (o + 11) h2) 7).trans h.2.2.1, h.2.2.2⟩
theorem sp_is_b {f : Nat → Int64} {N : Nat} {x : Int64} {v : Int32} (h : sp_is f N x v) (hN : N < 1000) : -1 ≤ v.toInt ∧ v.toInt < (N : Int) := by
  rcases h with ⟨rfl, -⟩ | ⟨k, hk, rfl, -⟩
  · rw [show (-1 : Int32).toInt = -1 from by decide]; omega
  · rw [nI_i32 (by omega)]; omega
theorem sp_n1b {N : Nat} : -1 ≤ (-1 : Int32).toInt ∧ (-1 : Int32).toInt < (N : Int) := by
  rw [show (-1 : Int32).toInt = -1 from by decide]; omega
theorem ha_ch410 {A : sp_A} (hg : ctx a b T n) (hA : cn_L 41 A g b) (h : co g l T n p) : ∃ (v : Option Value) (mem' : fx_M), (fun R1 => ∃ (v : Int32) (g' : Nat → Nat → Int32), cfr g l g' l ∧ ((sp_nm T n p ∧ sp_iC A.1.1 (sp_wd T n p) < A.1.1.length ∧ v = nI (sp_iC A.1.1 (sp_wd T n p)) ∧ co g' l T n p) ∨ (sp_nm T n p ∧ ¬ sp_iC A.1.1 (sp_wd T n p) < A.1.1.length ∧ v = -1 ∧ cq g' l T n 3 (sp_s T n p)) ∨ (¬ sp_nm T n p ∧ v = -1 ∧ cq g' l T n (sp_m T n p) (sp_s T n p))) ∧ R1 = (some (.int v), cm g' l a b R)) (v, mem') ∧ hr_T 4 113 [.ref 9, .ref 41] (cm g l a b R) v mem' := by
  refine he_meth (F := fun R1 => ∃ (v : Int32) (g' : Nat → Nat → Int32), cfr g l g' l ∧ ((sp_nm T n p ∧ sp_iC A.1.1 (sp_wd T n p) < A.1.1.length ∧ v = nI (sp_iC A.1.1 (sp_wd T n p)) ∧ co g' l T n p) ∨ (sp_nm T n p ∧ ¬ sp_iC A.1.1 (sp_wd T n p) < A.1.1.length ∧ v = -1 ∧ cq g' l T n 3 (sp_s T n p)) ∨ (¬ sp_nm T n p ∧ v = -1 ∧ cq g' l T n (sp_m T n p) (sp_s T n p))) ∧ R1 = (some (.int v), cm g' l a b R)) (M := gk_m113) (by rfl) (by rfl) ?_
  refine he_s 1 (pc' := 1) (lc' := [(0, .ref 9), (1, .ref 41)]) (stk' := [.ref 9]) (mem' := cm g l a b R) (by intro _ _ _; eq_refl) ?_
  obtain ⟨vc1, memc1, ⟨xc1, gc1, frc1, hxc1, hRc1⟩, hrc1⟩ := ha_nh0 (R := R) hg h
  cases hRc1
  refine he_ivV hrc1 (by omega) (by rfl) (by rfl) (by rfl) (by rfl) (by rfl) (by rfl) ?_
  have hfc1 := cfr_tr cfr_rf frc1
  have hAc1 := cn_L_fr hA frc1 (by decide) (by decide)
  rcases hxc1 with ⟨nm, rfl, hmc1⟩ | ⟨nm, rfl, hmc1⟩
  · obtain ⟨lo1, lo2⟩ := sp_nm_lt h.1 nm
    have hpos : ¬ Int64.ofNat (sp_cd (sp_wd T n p)) = 0 := fun e => by
      have hl := sp_n_lt h.1 (Or.inl nm.1)
      have h1 := sp_cd_pos lo1 (fun y => by have := sp_wd_len (T := T) (n := n) (p := p); rw [y] at this; have : 0 = _ := this; omega)
      have := sp_i64 (sp_cd_63 lo1 lo2) (by decide) (show Int64.ofNat (sp_cd (sp_wd T n p)) = Int64.ofNat 0 from e)
      omega
    refine he_s 4 (pc' := 8) (lc' := [(2, .long (Int64.ofNat (sp_cd (sp_wd T n p)))), (0, .ref 9), (1, .ref 41)]) (stk' := [.int (lg_cmp (Int64.ofNat (sp_cd (sp_wd T n p))) 0)]) (mem' := cm gc1 l a b R) (by intro _ _ _; eq_refl) ?_
    refine he_s 1 (pc' := cond (fx_cb .ne (lg_cmp (Int64.ofNat (sp_cd (sp_wd T n p))) 0) 0) 15 11) (lc' := [(2, .long (Int64.ofNat (sp_cd (sp_wd T n p)))), (0, .ref 9), (1, .ref 41)]) (stk' := []) (mem' := cm gc1 l a b R) (by intro _ _ _; eq_refl) ?_
    rw [show (fx_cb .ne (lg_cmp (Int64.ofNat (sp_cd (sp_wd T n p))) 0) 0) = true from lg_neT hpos]
    dsimp only [cond]
    refine he_s 2 (pc' := 17) (lc' := [(2, .long (Int64.ofNat (sp_cd (sp_wd T n p)))), (0, .ref 9), (1, .ref 41)]) (stk' := [.long (Int64.ofNat (sp_cd (sp_wd T n p))), .ref 41]) (mem' := cm gc1 l a b R) (by intro _ _ _; eq_refl) ?_
    obtain ⟨wc2, hrc2, hic2⟩ := ha_nam41 (g := gc1) (l := l) (a := a) (b := b) (R := R) (x := Int64.ofNat (sp_cd (sp_wd T n p))) hAc1.1 hAc1.2.1
    refine he_ivV hrc2 (by omega) (by rfl) (by rfl) (by rfl) (by rfl) (by rfl) (by rfl) ?_
    have hzc2 := sp_fxC hAc1.2.2.2.2.1 lo1 lo2 (by rw [List.length_map]; exact hic2)
    rw [List.length_map, sp_iC_map] at hzc2
    rcases hzc2 with ⟨hz, rfl⟩ | ⟨hz, rfl⟩
    · refine he_s 2 (pc' := 24) (lc' := [(4, .int (-1)), (2, .long (Int64.ofNat (sp_cd (sp_wd T n p)))), (0, .ref 9), (1, .ref 41)]) (stk' := [.int (-1)]) (mem' := cm gc1 l a b R) (by intro _ _ _; eq_refl) ?_
      refine he_s 1 (pc' := cond (fx_cb .ge (-1) 0) 32 27) (lc' := [(4, .int (-1)), (2, .long (Int64.ofNat (sp_cd (sp_wd T n p)))), (0, .ref 9), (1, .ref 41)]) (stk' := []) (mem' := cm gc1 l a b R) (by intro _ _ _; eq_refl) ?_
      rw [show (fx_cb .ge (-1) 0) = false from by decide]
      dsimp only [cond]
      refine he_s 2 (pc' := 29) (lc' := [(4, .int (-1)), (2, .long (Int64.ofNat (sp_cd (sp_wd T n p)))), (0, .ref 9), (1, .ref 41)]) (stk' := [.int 3, .ref 9]) (mem' := cm gc1 l a b R) (by intro _ _ _; eq_refl) ?_
      obtain ⟨gc3, hrc3, hmc3, frc3⟩ := ha_fail (a := a) (b := b) (R := R) (x := 3) hmc1 (by decide)
      refine he_ivV hrc3 (by omega) (by rfl) (by rfl) (by rfl) (by rfl) (by rfl) (by rfl) ?_
      have hfc3 := cfr_tr hfc1 frc3
      refine he_s 1 (pc' := 34) (lc' := [(4, .int (-1)), (2, .long (Int64.ofNat (sp_cd (sp_wd T n p)))), (0, .ref 9), (1, .ref 41)]) (stk' := [.int (-1)]) (mem' := cm gc3 l a b R) (by intro _ _ _; eq_refl) ?_
      exact he_ret ⟨_, _, hfc3, Or.inr (Or.inl ⟨nm, by omega, rfl, hmc3⟩), rfl⟩ (by rfl) (by rfl) (by rfl)
    · have hz9 := hAc1.2.1
      refine he_s 2 (pc' := 24) (lc' := [(4, .int (nI (sp_iC A.1.1 (sp_wd T n p)))), (2, .long (Int64.ofNat (sp_cd (sp_wd T n p)))), (0, .ref 9), (1, .ref 41)]) (stk' := [.int (nI (sp_iC A.1.1 (sp_wd T n p)))]) (mem' := cm gc1 l a b R) (by intro _ _ _; eq_refl) ?_
      refine he_s 1 (pc' := cond (fx_cb .ge (nI (sp_iC A.1.1 (sp_wd T n p))) 0) 32 27) (lc' := [(4, .int (nI (sp_iC A.1.1 (sp_wd T n p)))), (2, .long (Int64.ofNat (sp_cd (sp_wd T n p)))), (0, .ref 9), (1, .ref 41)]) (stk' := []) (mem' := cm gc1 l a b R) (by intro _ _ _; eq_refl) ?_
      rw [show (fx_cb .ge (nI (sp_iC A.1.1 (sp_wd T n p))) 0) = true from cb_geT (a := (sp_iC A.1.1 (sp_wd T n p))) (b := 0) (by omega) (by omega) (by omega)]
      dsimp only [cond]
      refine he_s 1 (pc' := 34) (lc' := [(4, .int (nI (sp_iC A.1.1 (sp_wd T n p)))), (2, .long (Int64.ofNat (sp_cd (sp_wd T n p)))), (0, .ref 9), (1, .ref 41)]) (stk' := [.int (nI (sp_iC A.1.1 (sp_wd T n p)))]) (mem' := cm gc1 l a b R) (by intro _ _ _; eq_refl) ?_
      exact he_ret ⟨_, _, hfc1, Or.inl ⟨nm, hz, rfl, hmc1⟩, rfl⟩ (by rfl) (by rfl) (by rfl)
  · refine he_s 4 (pc' := 8) (lc' := [(2, .long 0), (0, .ref 9), (1, .ref 41)]) (stk' := [.int (lg_cmp 0 0)]) (mem' := cm gc1 l a b R) (by intro _ _ _; eq_refl) ?_
    refine he_s 1 (pc' := cond (fx_cb .ne (lg_cmp 0 0) 0) 15 11) (lc' := [(2, .long 0), (0, .ref 9), (1, .ref 41)]) (stk' := []) (mem' := cm gc1 l a b R) (by intro _ _ _; eq_refl) ?_
    rw [show (fx_cb .ne (lg_cmp 0 0) 0) = false from (by decide)]
    dsimp only [cond]
    refine he_s 4 (pc' := 24) (lc' := [(4, .int (-1)), (2, .long 0), (0, .ref 9), (1, .ref 41)]) (stk' := [.int (-1)]) (mem' := cm gc1 l a b R) (by intro _ _ _; eq_refl) ?_
    refine he_s 1 (pc' := cond (fx_cb .ge (-1) 0) 32 27) (lc' := [(4, .int (-1)), (2, .long 0), (0, .ref 9), (1, .ref 41)]) (stk' := []) (mem' := cm gc1 l a b R) (by intro _ _ _; eq_refl) ?_
    rw [show (fx_cb .ge (-1) 0) = false from by decide]
    dsimp only [cond]
    refine he_s 2 (pc' := 29) (lc' := [(4, .int (-1)), (2, .long 0), (0, .ref 9), (1, .ref 41)]) (stk' := [.int 3, .ref 9]) (mem' := cm gc1 l a b R) (by intro _ _ _; eq_refl) ?_
    refine he_ivV (ha_failq (a := a) (b := b) (R := R) (x := 3) hmc1) (by omega) (by rfl) (by rfl) (by rfl) (by rfl) (by rfl) (by rfl) ?_
    refine he_s 1 (pc' := 34) (lc' := [(4, .int (-1)), (2, .long 0), (0, .ref 9), (1, .ref 41)]) (stk' := [.int (-1)]) (mem' := cm gc1 l a b R) (by intro _ _ _; eq_refl) ?_
    exact he_ret ⟨_, _, hfc1, Or.inr (Or.inr ⟨nm, rfl, hmc1⟩), rfl⟩ (by rfl) (by rfl) (by rfl)
theorem ha_ch41q0 {A : sp_A} (hg : ctx a b T n) (hA : cn_L 41 A g b) (h : cq g l T n F P) : ∃ (v : Option Value) (mem' : fx_M), (fun R1 => ∃ (v : Int32) (g' : Nat → Nat → Int32) (l' : Nat → Nat → Int64), cfr g l g' l' ∧ cq g' l' T n F P ∧ (-1 ≤ v.toInt ∧ v.toInt < (A.1.1.length : Int)) ∧ R1 = (some (.int v), cm g' l' a b R)) (v, mem') ∧ hr_T 4 113 [.ref 9, .ref 41] (cm g l a b R) v mem' := by
  refine he_meth (F := fun R1 => ∃ (v : Int32) (g' : Nat → Nat → Int32) (l' : Nat → Nat → Int64), cfr g l g' l' ∧ cq g' l' T n F P ∧ (-1 ≤ v.toInt ∧ v.toInt < (A.1.1.length : Int)) ∧ R1 = (some (.int v), cm g' l' a b R)) (M := gk_m113) (by rfl) (by rfl) ?_
  refine he_s 1 (pc' := 1) (lc' := [(0, .ref 9), (1, .ref 41)]) (stk' := [.ref 9]) (mem' := cm g l a b R) (by intro _ _ _; eq_refl) ?_
  obtain ⟨vc1, memc1, ⟨gc1, lc1, xc1, frc1, hmc1, hRc1⟩, hrc1⟩ := ha_nhq0 (R := R) hg h
  cases hRc1
  refine he_ivV hrc1 (by omega) (by rfl) (by rfl) (by rfl) (by rfl) (by rfl) (by rfl) ?_
  have hfc1 := cfr_tr cfr_rf frc1
  have hAc1 := cn_L_fr hA frc1 (by decide) (by decide)
  refine he_s 4 (pc' := 8) (lc' := [(2, .long xc1), (0, .ref 9), (1, .ref 41)]) (stk' := [.int (lg_cmp xc1 0)]) (mem' := cm gc1 lc1 a b R) (by intro _ _ _; eq_refl) ?_
  refine he_s 1 (pc' := cond (fx_cb .ne (lg_cmp xc1 0) 0) 15 11) (lc' := [(2, .long xc1), (0, .ref 9), (1, .ref 41)]) (stk' := []) (mem' := cm gc1 lc1 a b R) (by intro _ _ _; eq_refl) ?_
  cases y2 : fx_cb .ne (lg_cmp xc1 0) 0
  · refine he_s 4 (pc' := 24) (lc' := [(4, .int (-1)), (2, .long xc1), (0, .ref 9), (1, .ref 41)]) (stk' := [.int (-1)]) (mem' := cm gc1 lc1 a b R) (by intro _ _ _; eq_refl) ?_
    refine he_s 1 (pc' := cond (fx_cb .ge (-1) 0) 32 27) (lc' := [(4, .int (-1)), (2, .long xc1), (0, .ref 9), (1, .ref 41)]) (stk' := []) (mem' := cm gc1 lc1 a b R) (by intro _ _ _; eq_refl) ?_
    rw [show (fx_cb .ge (-1) 0) = false from by decide]
    dsimp only [cond]
    refine he_s 2 (pc' := 29) (lc' := [(4, .int (-1)), (2, .long xc1), (0, .ref 9), (1, .ref 41)]) (stk' := [.int 3, .ref 9]) (mem' := cm gc1 lc1 a b R) (by intro _ _ _; eq_refl) ?_
    refine he_ivV (ha_failq (a := a) (b := b) (R := R) (x := 3) hmc1) (by omega) (by rfl) (by rfl) (by rfl) (by rfl) (by rfl) (by rfl) ?_
    refine he_s 1 (pc' := 34) (lc' := [(4, .int (-1)), (2, .long xc1), (0, .ref 9), (1, .ref 41)]) (stk' := [.int (-1)]) (mem' := cm gc1 lc1 a b R) (by intro _ _ _; eq_refl) ?_
    have hz9 := hAc1.2.1
    exact he_ret ⟨_, _, _, hfc1, hmc1, sp_n1b, rfl⟩ (by rfl) (by rfl) (by rfl)
  · refine he_s 2 (pc' := 17) (lc' := [(2, .long xc1), (0, .ref 9), (1, .ref 41)]) (stk' := [.long xc1, .ref 41]) (mem' := cm gc1 lc1 a b R) (by intro _ _ _; eq_refl) ?_
    obtain ⟨wc4, hrc4, hic4⟩ := ha_nam41 (g := gc1) (l := lc1) (a := a) (b := b) (R := R) (x := xc1) hAc1.1 hAc1.2.1
    refine he_ivV hrc4 (by omega) (by rfl) (by rfl) (by rfl) (by rfl) (by rfl) (by rfl) ?_
    have hbc4 := sp_is_b hic4 (by have := hAc1.2.1; omega)
    refine he_s 2 (pc' := 24) (lc' := [(4, .int wc4), (2, .long xc1), (0, .ref 9), (1, .ref 41)]) (stk' := [.int wc4]) (mem' := cm gc1 lc1 a b R) (by intro _ _ _; eq_refl) ?_
    refine he_s 1 (pc' := cond (fx_cb .ge wc4 0) 32 27) (lc' := [(4, .int wc4), (2, .long xc1), (0, .ref 9), (1, .ref 41)]) (stk' := []) (mem' := cm gc1 lc1 a b R) (by intro _ _ _; eq_refl) ?_
    cases y5 : fx_cb .ge wc4 0
    · refine he_s 2 (pc' := 29) (lc' := [(4, .int wc4), (2, .long xc1), (0, .ref 9), (1, .ref 41)]) (stk' := [.int 3, .ref 9]) (mem' := cm gc1 lc1 a b R) (by intro _ _ _; eq_refl) ?_
      refine he_ivV (ha_failq (a := a) (b := b) (R := R) (x := 3) hmc1) (by omega) (by rfl) (by rfl) (by rfl) (by rfl) (by rfl) (by rfl) ?_
      refine he_s 1 (pc' := 34) (lc' := [(4, .int wc4), (2, .long xc1), (0, .ref 9), (1, .ref 41)]) (stk' := [.int wc4]) (mem' := cm gc1 lc1 a b R) (by intro _ _ _; eq_refl) ?_
      have hz9 := hAc1.2.1
      exact he_ret ⟨_, _, _, hfc1, hmc1, hbc4, rfl⟩ (by rfl) (by rfl) (by rfl)
    · refine he_s 1 (pc' := 34) (lc' := [(4, .int wc4), (2, .long xc1), (0, .ref 9), (1, .ref 41)]) (stk' := [.int wc4]) (mem' := cm gc1 lc1 a b R) (by intro _ _ _; eq_refl) ?_
      have hz9 := hAc1.2.1
      exact he_ret ⟨_, _, _, hfc1, hmc1, hbc4, rfl⟩ (by rfl) (by rfl) (by rfl)
theorem ha_ch150 {A : sp_A} (hg : ctx a b T n) (hA : cn_L 15 A g b) (h : co g l T n p) : ∃ (v : Option Value) (mem' : fx_M), (fun R1 => ∃ (v : Int32) (g' : Nat → Nat → Int32), cfr g l g' l ∧ ((sp_nm T n p ∧ sp_iC A.1.1 (sp_wd T n p) < A.1.1.length ∧ v = nI (sp_iC A.1.1 (sp_wd T n p)) ∧ co g' l T n p) ∨ (sp_nm T n p ∧ ¬ sp_iC A.1.1 (sp_wd T n p) < A.1.1.length ∧ v = -1 ∧ cq g' l T n 3 (sp_s T n p)) ∨ (¬ sp_nm T n p ∧ v = -1 ∧ cq g' l T n (sp_m T n p) (sp_s T n p))) ∧ R1 = (some (.int v), cm g' l a b R)) (v, mem') ∧ hr_T 4 113 [.ref 9, .ref 15] (cm g l a b R) v mem' := by
  refine he_meth (F := fun R1 => ∃ (v : Int32) (g' : Nat → Nat → Int32), cfr g l g' l ∧ ((sp_nm T n p ∧ sp_iC A.1.1 (sp_wd T n p) < A.1.1.length ∧ v = nI (sp_iC A.1.1 (sp_wd T n p)) ∧ co g' l T n p) ∨ (sp_nm T n p ∧ ¬ sp_iC A.1.1 (sp_wd T n p) < A.1.1.length ∧ v = -1 ∧ cq g' l T n 3 (sp_s T n p)) ∨ (¬ sp_nm T n p ∧ v = -1 ∧ cq g' l T n (sp_m T n p) (sp_s T n p))) ∧ R1 = (some (.int v), cm g' l a b R)) (M := gk_m113) (by rfl) (by rfl) ?_
  refine he_s 1 (pc' := 1) (lc' := [(0, .ref 9), (1, .ref 15)]) (stk' := [.ref 9]) (mem' := cm g l a b R) (by intro _ _ _; eq_refl) ?_
  obtain ⟨vc1, memc1, ⟨xc1, gc1, frc1, hxc1, hRc1⟩, hrc1⟩ := ha_nh0 (R := R) hg h
  cases hRc1
  refine he_ivV hrc1 (by omega) (by rfl) (by rfl) (by rfl) (by rfl) (by rfl) (by rfl) ?_
  have hfc1 := cfr_tr cfr_rf frc1
  have hAc1 := cn_L_fr hA frc1 (by decide) (by decide)
  rcases hxc1 with ⟨nm, rfl, hmc1⟩ | ⟨nm, rfl, hmc1⟩
  · obtain ⟨lo1, lo2⟩ := sp_nm_lt h.1 nm
    have hpos : ¬ Int64.ofNat (sp_cd (sp_wd T n p)) = 0 := fun e => by
      have hl := sp_n_lt h.1 (Or.inl nm.1)
      have h1 := sp_cd_pos lo1 (fun y => by have := sp_wd_len (T := T) (n := n) (p := p); rw [y] at this; have : 0 = _ := this; omega)
      have := sp_i64 (sp_cd_63 lo1 lo2) (by decide) (show Int64.ofNat (sp_cd (sp_wd T n p)) = Int64.ofNat 0 from e)
      omega
    refine he_s 4 (pc' := 8) (lc' := [(2, .long (Int64.ofNat (sp_cd (sp_wd T n p)))), (0, .ref 9), (1, .ref 15)]) (stk' := [.int (lg_cmp (Int64.ofNat (sp_cd (sp_wd T n p))) 0)]) (mem' := cm gc1 l a b R) (by intro _ _ _; eq_refl) ?_
    refine he_s 1 (pc' := cond (fx_cb .ne (lg_cmp (Int64.ofNat (sp_cd (sp_wd T n p))) 0) 0) 15 11) (lc' := [(2, .long (Int64.ofNat (sp_cd (sp_wd T n p)))), (0, .ref 9), (1, .ref 15)]) (stk' := []) (mem' := cm gc1 l a b R) (by intro _ _ _; eq_refl) ?_
    rw [show (fx_cb .ne (lg_cmp (Int64.ofNat (sp_cd (sp_wd T n p))) 0) 0) = true from lg_neT hpos]
    dsimp only [cond]
    refine he_s 2 (pc' := 17) (lc' := [(2, .long (Int64.ofNat (sp_cd (sp_wd T n p)))), (0, .ref 9), (1, .ref 15)]) (stk' := [.long (Int64.ofNat (sp_cd (sp_wd T n p))), .ref 15]) (mem' := cm gc1 l a b R) (by intro _ _ _; eq_refl) ?_
    obtain ⟨wc2, hrc2, hic2⟩ := ha_nam15 (g := gc1) (l := l) (a := a) (b := b) (R := R) (x := Int64.ofNat (sp_cd (sp_wd T n p))) hAc1.1 hAc1.2.1
    refine he_ivV hrc2 (by omega) (by rfl) (by rfl) (by rfl) (by rfl) (by rfl) (by rfl) ?_
    have hzc2 := sp_fxC hAc1.2.2.2.2.1 lo1 lo2 (by rw [List.length_map]; exact hic2)
    rw [List.length_map, sp_iC_map] at hzc2
    rcases hzc2 with ⟨hz, rfl⟩ | ⟨hz, rfl⟩
    · refine he_s 2 (pc' := 24) (lc' := [(4, .int (-1)), (2, .long (Int64.ofNat (sp_cd (sp_wd T n p)))), (0, .ref 9), (1, .ref 15)]) (stk' := [.int (-1)]) (mem' := cm gc1 l a b R) (by intro _ _ _; eq_refl) ?_
      refine he_s 1 (pc' := cond (fx_cb .ge (-1) 0) 32 27) (lc' := [(4, .int (-1)), (2, .long (Int64.ofNat (sp_cd (sp_wd T n p)))), (0, .ref 9), (1, .ref 15)]) (stk' := []) (mem' := cm gc1 l a b R) (by intro _ _ _; eq_refl) ?_
      rw [show (fx_cb .ge (-1) 0) = false from by decide]
      dsimp only [cond]
      refine he_s 2 (pc' := 29) (lc' := [(4, .int (-1)), (2, .long (Int64.ofNat (sp_cd (sp_wd T n p)))), (0, .ref 9), (1, .ref 15)]) (stk' := [.int 3, .ref 9]) (mem' := cm gc1 l a b R) (by intro _ _ _; eq_refl) ?_
      obtain ⟨gc3, hrc3, hmc3, frc3⟩ := ha_fail (a := a) (b := b) (R := R) (x := 3) hmc1 (by decide)
      refine he_ivV hrc3 (by omega) (by rfl) (by rfl) (by rfl) (by rfl) (by rfl) (by rfl) ?_
      have hfc3 := cfr_tr hfc1 frc3
      refine he_s 1 (pc' := 34) (lc' := [(4, .int (-1)), (2, .long (Int64.ofNat (sp_cd (sp_wd T n p)))), (0, .ref 9), (1, .ref 15)]) (stk' := [.int (-1)]) (mem' := cm gc3 l a b R) (by intro _ _ _; eq_refl) ?_
      exact he_ret ⟨_, _, hfc3, Or.inr (Or.inl ⟨nm, by omega, rfl, hmc3⟩), rfl⟩ (by rfl) (by rfl) (by rfl)
    · have hz9 := hAc1.2.1
      refine he_s 2 (pc' := 24) (lc' := [(4, .int (nI (sp_iC A.1.1 (sp_wd T n p)))), (2, .long (Int64.ofNat (sp_cd (sp_wd T n p)))), (0, .ref 9), (1, .ref 15)]) (stk' := [.int (nI (sp_iC A.1.1 (sp_wd T n p)))]) (mem' := cm gc1 l a b R) (by intro _ _ _; eq_refl) ?_
      refine he_s 1 (pc' := cond (fx_cb .ge (nI (sp_iC A.1.1 (sp_wd T n p))) 0) 32 27) (lc' := [(4, .int (nI (sp_iC A.1.1 (sp_wd T n p)))), (2, .long (Int64.ofNat (sp_cd (sp_wd T n p)))), (0, .ref 9), (1, .ref 15)]) (stk' := []) (mem' := cm gc1 l a b R) (by intro _ _ _; eq_refl) ?_
      rw [show (fx_cb .ge (nI (sp_iC A.1.1 (sp_wd T n p))) 0) = true from cb_geT (a := (sp_iC A.1.1 (sp_wd T n p))) (b := 0) (by omega) (by omega) (by omega)]
      dsimp only [cond]
      refine he_s 1 (pc' := 34) (lc' := [(4, .int (nI (sp_iC A.1.1 (sp_wd T n p)))), (2, .long (Int64.ofNat (sp_cd (sp_wd T n p)))), (0, .ref 9), (1, .ref 15)]) (stk' := [.int (nI (sp_iC A.1.1 (sp_wd T n p)))]) (mem' := cm gc1 l a b R) (by intro _ _ _; eq_refl) ?_
      exact he_ret ⟨_, _, hfc1, Or.inl ⟨nm, hz, rfl, hmc1⟩, rfl⟩ (by rfl) (by rfl) (by rfl)
  · refine he_s 4 (pc' := 8) (lc' := [(2, .long 0), (0, .ref 9), (1, .ref 15)]) (stk' := [.int (lg_cmp 0 0)]) (mem' := cm gc1 l a b R) (by intro _ _ _; eq_refl) ?_
    refine he_s 1 (pc' := cond (fx_cb .ne (lg_cmp 0 0) 0) 15 11) (lc' := [(2, .long 0), (0, .ref 9), (1, .ref 15)]) (stk' := []) (mem' := cm gc1 l a b R) (by intro _ _ _; eq_refl) ?_
    rw [show (fx_cb .ne (lg_cmp 0 0) 0) = false from (by decide)]
    dsimp only [cond]
    refine he_s 4 (pc' := 24) (lc' := [(4, .int (-1)), (2, .long 0), (0, .ref 9), (1, .ref 15)]) (stk' := [.int (-1)]) (mem' := cm gc1 l a b R) (by intro _ _ _; eq_refl) ?_
    refine he_s 1 (pc' := cond (fx_cb .ge (-1) 0) 32 27) (lc' := [(4, .int (-1)), (2, .long 0), (0, .ref 9), (1, .ref 15)]) (stk' := []) (mem' := cm gc1 l a b R) (by intro _ _ _; eq_refl) ?_
    rw [show (fx_cb .ge (-1) 0) = false from by decide]
    dsimp only [cond]
    refine he_s 2 (pc' := 29) (lc' := [(4, .int (-1)), (2, .long 0), (0, .ref 9), (1, .ref 15)]) (stk' := [.int 3, .ref 9]) (mem' := cm gc1 l a b R) (by intro _ _ _; eq_refl) ?_
    refine he_ivV (ha_failq (a := a) (b := b) (R := R) (x := 3) hmc1) (by omega) (by rfl) (by rfl) (by rfl) (by rfl) (by rfl) (by rfl) ?_
    refine he_s 1 (pc' := 34) (lc' := [(4, .int (-1)), (2, .long 0), (0, .ref 9), (1, .ref 15)]) (stk' := [.int (-1)]) (mem' := cm gc1 l a b R) (by intro _ _ _; eq_refl) ?_
    exact he_ret ⟨_, _, hfc1, Or.inr (Or.inr ⟨nm, rfl, hmc1⟩), rfl⟩ (by rfl) (by rfl) (by rfl)
theorem ha_ch15q0 {A : sp_A} (hg : ctx a b T n) (hA : cn_L 15 A g b) (h : cq g l T n F P) : ∃ (v : Option Value) (mem' : fx_M), (fun R1 => ∃ (v : Int32) (g' : Nat → Nat → Int32) (l' : Nat → Nat → Int64), cfr g l g' l' ∧ cq g' l' T n F P ∧ (-1 ≤ v.toInt ∧ v.toInt < (A.1.1.length : Int)) ∧ R1 = (some (.int v), cm g' l' a b R)) (v, mem') ∧ hr_T 4 113 [.ref 9, .ref 15] (cm g l a b R) v mem' := by
  refine he_meth (F := fun R1 => ∃ (v : Int32) (g' : Nat → Nat → Int32) (l' : Nat → Nat → Int64), cfr g l g' l' ∧ cq g' l' T n F P ∧ (-1 ≤ v.toInt ∧ v.toInt < (A.1.1.length : Int)) ∧ R1 = (some (.int v), cm g' l' a b R)) (M := gk_m113) (by rfl) (by rfl) ?_
  refine he_s 1 (pc' := 1) (lc' := [(0, .ref 9), (1, .ref 15)]) (stk' := [.ref 9]) (mem' := cm g l a b R) (by intro _ _ _; eq_refl) ?_
  obtain ⟨vc1, memc1, ⟨gc1, lc1, xc1, frc1, hmc1, hRc1⟩, hrc1⟩ := ha_nhq0 (R := R) hg h
  cases hRc1
  refine he_ivV hrc1 (by omega) (by rfl) (by rfl) (by rfl) (by rfl) (by rfl) (by rfl) ?_
  have hfc1 := cfr_tr cfr_rf frc1
  have hAc1 := cn_L_fr hA frc1 (by decide) (by decide)
  refine he_s 4 (pc' := 8) (lc' := [(2, .long xc1), (0, .ref 9), (1, .ref 15)]) (stk' := [.int (lg_cmp xc1 0)]) (mem' := cm gc1 lc1 a b R) (by intro _ _ _; eq_refl) ?_
  refine he_s 1 (pc' := cond (fx_cb .ne (lg_cmp xc1 0) 0) 15 11) (lc' := [(2, .long xc1), (0, .ref 9), (1, .ref 15)]) (stk' := []) (mem' := cm gc1 lc1 a b R) (by intro _ _ _; eq_refl) ?_
  cases y2 : fx_cb .ne (lg_cmp xc1 0) 0
  · refine he_s 4 (pc' := 24) (lc' := [(4, .int (-1)), (2, .long xc1), (0, .ref 9), (1, .ref 15)]) (stk' := [.int (-1)]) (mem' := cm gc1 lc1 a b R) (by intro _ _ _; eq_refl) ?_
    refine he_s 1 (pc' := cond (fx_cb .ge (-1) 0) 32 27) (lc' := [(4, .int (-1)), (2, .long xc1), (0, .ref 9), (1, .ref 15)]) (stk' := []) (mem' := cm gc1 lc1 a b R) (by intro _ _ _; eq_refl) ?_
    rw [show (fx_cb .ge (-1) 0) = false from by decide]
    dsimp only [cond]
    refine he_s 2 (pc' := 29) (lc' := [(4, .int (-1)), (2, .long xc1), (0, .ref 9), (1, .ref 15)]) (stk' := [.int 3, .ref 9]) (mem' := cm gc1 lc1 a b R) (by intro _ _ _; eq_refl) ?_
    refine he_ivV (ha_failq (a := a) (b := b) (R := R) (x := 3) hmc1) (by omega) (by rfl) (by rfl) (by rfl) (by rfl) (by rfl) (by rfl) ?_
    refine he_s 1 (pc' := 34) (lc' := [(4, .int (-1)), (2, .long xc1), (0, .ref 9), (1, .ref 15)]) (stk' := [.int (-1)]) (mem' := cm gc1 lc1 a b R) (by intro _ _ _; eq_refl) ?_
    have hz9 := hAc1.2.1
    exact he_ret ⟨_, _, _, hfc1, hmc1, sp_n1b, rfl⟩ (by rfl) (by rfl) (by rfl)
  · refine he_s 2 (pc' := 17) (lc' := [(2, .long xc1), (0, .ref 9), (1, .ref 15)]) (stk' := [.long xc1, .ref 15]) (mem' := cm gc1 lc1 a b R) (by intro _ _ _; eq_refl) ?_
    obtain ⟨wc4, hrc4, hic4⟩ := ha_nam15 (g := gc1) (l := lc1) (a := a) (b := b) (R := R) (x := xc1) hAc1.1 hAc1.2.1
    refine he_ivV hrc4 (by omega) (by rfl) (by rfl) (by rfl) (by rfl) (by rfl) (by rfl) ?_
    have hbc4 := sp_is_b hic4 (by have := hAc1.2.1; omega)
    refine he_s 2 (pc' := 24) (lc' := [(4, .int wc4), (2, .long xc1), (0, .ref 9), (1, .ref 15)]) (stk' := [.int wc4]) (mem' := cm gc1 lc1 a b R) (by intro _ _ _; eq_refl) ?_
    refine he_s 1 (pc' := cond (fx_cb .ge wc4 0) 32 27) (lc' := [(4, .int wc4), (2, .long xc1), (0, .ref 9), (1, .ref 15)]) (stk' := []) (mem' := cm gc1 lc1 a b R) (by intro _ _ _; eq_refl) ?_
    cases y5 : fx_cb .ge wc4 0
    · refine he_s 2 (pc' := 29) (lc' := [(4, .int wc4), (2, .long xc1), (0, .ref 9), (1, .ref 15)]) (stk' := [.int 3, .ref 9]) (mem' := cm gc1 lc1 a b R) (by intro _ _ _; eq_refl) ?_
      refine he_ivV (ha_failq (a := a) (b := b) (R := R) (x := 3) hmc1) (by omega) (by rfl) (by rfl) (by rfl) (by rfl) (by rfl) (by rfl) ?_
      refine he_s 1 (pc' := 34) (lc' := [(4, .int wc4), (2, .long xc1), (0, .ref 9), (1, .ref 15)]) (stk' := [.int wc4]) (mem' := cm gc1 lc1 a b R) (by intro _ _ _; eq_refl) ?_
      have hz9 := hAc1.2.1
      exact he_ret ⟨_, _, _, hfc1, hmc1, hbc4, rfl⟩ (by rfl) (by rfl) (by rfl)
    · refine he_s 1 (pc' := 34) (lc' := [(4, .int wc4), (2, .long xc1), (0, .ref 9), (1, .ref 15)]) (stk' := [.int wc4]) (mem' := cm gc1 lc1 a b R) (by intro _ _ _; eq_refl) ?_
      have hz9 := hAc1.2.1
      exact he_ret ⟨_, _, _, hfc1, hmc1, hbc4, rfl⟩ (by rfl) (by rfl) (by rfl)
theorem ha_wh150 {A : sp_A} (hg : ctx a b T n) (hA : cn_L 15 A g b) (h : co g l T n p) : ∃ (v : Option Value) (mem' : fx_M), (fun R1 => ∃ (v : Int32) (g' : Nat → Nat → Int32), cfr g l g' l ∧ ((sp_nm T n p ∧ sp_iW A.1.2 (sp_wd T n p) < A.1.2.length ∧ v = nI (sp_iW A.1.2 (sp_wd T n p)) ∧ co g' l T n p) ∨ (sp_nm T n p ∧ ¬ sp_iW A.1.2 (sp_wd T n p) < A.1.2.length ∧ v = -1 ∧ cq g' l T n 3 (sp_s T n p)) ∨ (¬ sp_nm T n p ∧ v = -1 ∧ cq g' l T n (sp_m T n p) (sp_s T n p))) ∧ R1 = (some (.int v), cm g' l a b R)) (v, mem') ∧ hr_T 4 114 [.ref 9, .ref 15] (cm g l a b R) v mem' := by
  refine he_meth (F := fun R1 => ∃ (v : Int32) (g' : Nat → Nat → Int32), cfr g l g' l ∧ ((sp_nm T n p ∧ sp_iW A.1.2 (sp_wd T n p) < A.1.2.length ∧ v = nI (sp_iW A.1.2 (sp_wd T n p)) ∧ co g' l T n p) ∨ (sp_nm T n p ∧ ¬ sp_iW A.1.2 (sp_wd T n p) < A.1.2.length ∧ v = -1 ∧ cq g' l T n 3 (sp_s T n p)) ∨ (¬ sp_nm T n p ∧ v = -1 ∧ cq g' l T n (sp_m T n p) (sp_s T n p))) ∧ R1 = (some (.int v), cm g' l a b R)) (M := gk_m114) (by rfl) (by rfl) ?_
  refine he_s 1 (pc' := 1) (lc' := [(0, .ref 9), (1, .ref 15)]) (stk' := [.ref 9]) (mem' := cm g l a b R) (by intro _ _ _; eq_refl) ?_
  obtain ⟨vc1, memc1, ⟨xc1, gc1, frc1, hxc1, hRc1⟩, hrc1⟩ := ha_nh0 (R := R) hg h
  cases hRc1
  refine he_ivV hrc1 (by omega) (by rfl) (by rfl) (by rfl) (by rfl) (by rfl) (by rfl) ?_
  have hfc1 := cfr_tr cfr_rf frc1
  have hAc1 := cn_L_fr hA frc1 (by decide) (by decide)
  rcases hxc1 with ⟨nm, rfl, hmc1⟩ | ⟨nm, rfl, hmc1⟩
  · obtain ⟨lo1, lo2⟩ := sp_nm_lt h.1 nm
    have hpos : ¬ Int64.ofNat (sp_cd (sp_wd T n p)) = 0 := fun e => by
      have hl := sp_n_lt h.1 (Or.inl nm.1)
      have h1 := sp_cd_pos lo1 (fun y => by have := sp_wd_len (T := T) (n := n) (p := p); rw [y] at this; have : 0 = _ := this; omega)
      have := sp_i64 (sp_cd_63 lo1 lo2) (by decide) (show Int64.ofNat (sp_cd (sp_wd T n p)) = Int64.ofNat 0 from e)
      omega
    refine he_s 4 (pc' := 8) (lc' := [(2, .long (Int64.ofNat (sp_cd (sp_wd T n p)))), (0, .ref 9), (1, .ref 15)]) (stk' := [.int (lg_cmp (Int64.ofNat (sp_cd (sp_wd T n p))) 0)]) (mem' := cm gc1 l a b R) (by intro _ _ _; eq_refl) ?_
    refine he_s 1 (pc' := cond (fx_cb .ne (lg_cmp (Int64.ofNat (sp_cd (sp_wd T n p))) 0) 0) 15 11) (lc' := [(2, .long (Int64.ofNat (sp_cd (sp_wd T n p)))), (0, .ref 9), (1, .ref 15)]) (stk' := []) (mem' := cm gc1 l a b R) (by intro _ _ _; eq_refl) ?_
    rw [show (fx_cb .ne (lg_cmp (Int64.ofNat (sp_cd (sp_wd T n p))) 0) 0) = true from lg_neT hpos]
    dsimp only [cond]
    refine he_s 3 (pc' := 20) (lc' := [(2, .long (Int64.ofNat (sp_cd (sp_wd T n p)))), (0, .ref 9), (1, .ref 15)]) (stk' := [.long (Int64.ofNat (sp_cd (sp_wd T n p))), .ref 26]) (mem' := cm gc1 l a b R) (by intro _ _ _; eq_refl) ?_
    obtain ⟨wc2, hrc2, hic2⟩ := ha_cnam15 (g := gc1) (l := l) (a := a) (b := b) (R := R) (x := Int64.ofNat (sp_cd (sp_wd T n p))) hAc1.2.2.1 hAc1.2.2.2.1
    refine he_ivV hrc2 (by omega) (by rfl) (by rfl) (by rfl) (by rfl) (by rfl) (by rfl) ?_
    have hzc2 := sp_fxC hAc1.2.2.2.2.2 lo1 lo2 (by rw [List.length_map]; exact hic2)
    rw [List.length_map, sp_iW_map] at hzc2
    rcases hzc2 with ⟨hz, rfl⟩ | ⟨hz, rfl⟩
    · refine he_s 2 (pc' := 27) (lc' := [(4, .int (-1)), (2, .long (Int64.ofNat (sp_cd (sp_wd T n p)))), (0, .ref 9), (1, .ref 15)]) (stk' := [.int (-1)]) (mem' := cm gc1 l a b R) (by intro _ _ _; eq_refl) ?_
      refine he_s 1 (pc' := cond (fx_cb .ge (-1) 0) 35 30) (lc' := [(4, .int (-1)), (2, .long (Int64.ofNat (sp_cd (sp_wd T n p)))), (0, .ref 9), (1, .ref 15)]) (stk' := []) (mem' := cm gc1 l a b R) (by intro _ _ _; eq_refl) ?_
      rw [show (fx_cb .ge (-1) 0) = false from by decide]
      dsimp only [cond]
      refine he_s 2 (pc' := 32) (lc' := [(4, .int (-1)), (2, .long (Int64.ofNat (sp_cd (sp_wd T n p)))), (0, .ref 9), (1, .ref 15)]) (stk' := [.int 3, .ref 9]) (mem' := cm gc1 l a b R) (by intro _ _ _; eq_refl) ?_
      obtain ⟨gc3, hrc3, hmc3, frc3⟩ := ha_fail (a := a) (b := b) (R := R) (x := 3) hmc1 (by decide)
      refine he_ivV hrc3 (by omega) (by rfl) (by rfl) (by rfl) (by rfl) (by rfl) (by rfl) ?_
      have hfc3 := cfr_tr hfc1 frc3
      refine he_s 1 (pc' := 37) (lc' := [(4, .int (-1)), (2, .long (Int64.ofNat (sp_cd (sp_wd T n p)))), (0, .ref 9), (1, .ref 15)]) (stk' := [.int (-1)]) (mem' := cm gc3 l a b R) (by intro _ _ _; eq_refl) ?_
      exact he_ret ⟨_, _, hfc3, Or.inr (Or.inl ⟨nm, by omega, rfl, hmc3⟩), rfl⟩ (by rfl) (by rfl) (by rfl)
    · have hz9 := hAc1.2.2.2.1
      refine he_s 2 (pc' := 27) (lc' := [(4, .int (nI (sp_iW A.1.2 (sp_wd T n p)))), (2, .long (Int64.ofNat (sp_cd (sp_wd T n p)))), (0, .ref 9), (1, .ref 15)]) (stk' := [.int (nI (sp_iW A.1.2 (sp_wd T n p)))]) (mem' := cm gc1 l a b R) (by intro _ _ _; eq_refl) ?_
      refine he_s 1 (pc' := cond (fx_cb .ge (nI (sp_iW A.1.2 (sp_wd T n p))) 0) 35 30) (lc' := [(4, .int (nI (sp_iW A.1.2 (sp_wd T n p)))), (2, .long (Int64.ofNat (sp_cd (sp_wd T n p)))), (0, .ref 9), (1, .ref 15)]) (stk' := []) (mem' := cm gc1 l a b R) (by intro _ _ _; eq_refl) ?_
      rw [show (fx_cb .ge (nI (sp_iW A.1.2 (sp_wd T n p))) 0) = true from cb_geT (a := (sp_iW A.1.2 (sp_wd T n p))) (b := 0) (by omega) (by omega) (by omega)]
      dsimp only [cond]
      refine he_s 1 (pc' := 37) (lc' := [(4, .int (nI (sp_iW A.1.2 (sp_wd T n p)))), (2, .long (Int64.ofNat (sp_cd (sp_wd T n p)))), (0, .ref 9), (1, .ref 15)]) (stk' := [.int (nI (sp_iW A.1.2 (sp_wd T n p)))]) (mem' := cm gc1 l a b R) (by intro _ _ _; eq_refl) ?_
      exact he_ret ⟨_, _, hfc1, Or.inl ⟨nm, hz, rfl, hmc1⟩, rfl⟩ (by rfl) (by rfl) (by rfl)
  · refine he_s 4 (pc' := 8) (lc' := [(2, .long 0), (0, .ref 9), (1, .ref 15)]) (stk' := [.int (lg_cmp 0 0)]) (mem' := cm gc1 l a b R) (by intro _ _ _; eq_refl) ?_
    refine he_s 1 (pc' := cond (fx_cb .ne (lg_cmp 0 0) 0) 15 11) (lc' := [(2, .long 0), (0, .ref 9), (1, .ref 15)]) (stk' := []) (mem' := cm gc1 l a b R) (by intro _ _ _; eq_refl) ?_
    rw [show (fx_cb .ne (lg_cmp 0 0) 0) = false from (by decide)]
    dsimp only [cond]
    refine he_s 4 (pc' := 27) (lc' := [(4, .int (-1)), (2, .long 0), (0, .ref 9), (1, .ref 15)]) (stk' := [.int (-1)]) (mem' := cm gc1 l a b R) (by intro _ _ _; eq_refl) ?_
    refine he_s 1 (pc' := cond (fx_cb .ge (-1) 0) 35 30) (lc' := [(4, .int (-1)), (2, .long 0), (0, .ref 9), (1, .ref 15)]) (stk' := []) (mem' := cm gc1 l a b R) (by intro _ _ _; eq_refl) ?_
    rw [show (fx_cb .ge (-1) 0) = false from by decide]
    dsimp only [cond]
    refine he_s 2 (pc' := 32) (lc' := [(4, .int (-1)), (2, .long 0), (0, .ref 9), (1, .ref 15)]) (stk' := [.int 3, .ref 9]) (mem' := cm gc1 l a b R) (by intro _ _ _; eq_refl) ?_
    refine he_ivV (ha_failq (a := a) (b := b) (R := R) (x := 3) hmc1) (by omega) (by rfl) (by rfl) (by rfl) (by rfl) (by rfl) (by rfl) ?_
    refine he_s 1 (pc' := 37) (lc' := [(4, .int (-1)), (2, .long 0), (0, .ref 9), (1, .ref 15)]) (stk' := [.int (-1)]) (mem' := cm gc1 l a b R) (by intro _ _ _; eq_refl) ?_
    exact he_ret ⟨_, _, hfc1, Or.inr (Or.inr ⟨nm, rfl, hmc1⟩), rfl⟩ (by rfl) (by rfl) (by rfl)
theorem ha_wh15q0 {A : sp_A} (hg : ctx a b T n) (hA : cn_L 15 A g b) (h : cq g l T n F P) : ∃ (v : Option Value) (mem' : fx_M), (fun R1 => ∃ (v : Int32) (g' : Nat → Nat → Int32) (l' : Nat → Nat → Int64), cfr g l g' l' ∧ cq g' l' T n F P ∧ (-1 ≤ v.toInt ∧ v.toInt < (A.1.2.length : Int)) ∧ R1 = (some (.int v), cm g' l' a b R)) (v, mem') ∧ hr_T 4 114 [.ref 9, .ref 15] (cm g l a b R) v mem' := by
  refine he_meth (F := fun R1 => ∃ (v : Int32) (g' : Nat → Nat → Int32) (l' : Nat → Nat → Int64), cfr g l g' l' ∧ cq g' l' T n F P ∧ (-1 ≤ v.toInt ∧ v.toInt < (A.1.2.length : Int)) ∧ R1 = (some (.int v), cm g' l' a b R)) (M := gk_m114) (by rfl) (by rfl) ?_
  refine he_s 1 (pc' := 1) (lc' := [(0, .ref 9), (1, .ref 15)]) (stk' := [.ref 9]) (mem' := cm g l a b R) (by intro _ _ _; eq_refl) ?_
  obtain ⟨vc1, memc1, ⟨gc1, lc1, xc1, frc1, hmc1, hRc1⟩, hrc1⟩ := ha_nhq0 (R := R) hg h
  cases hRc1
  refine he_ivV hrc1 (by omega) (by rfl) (by rfl) (by rfl) (by rfl) (by rfl) (by rfl) ?_
  have hfc1 := cfr_tr cfr_rf frc1
  have hAc1 := cn_L_fr hA frc1 (by decide) (by decide)
  refine he_s 4 (pc' := 8) (lc' := [(2, .long xc1), (0, .ref 9), (1, .ref 15)]) (stk' := [.int (lg_cmp xc1 0)]) (mem' := cm gc1 lc1 a b R) (by intro _ _ _; eq_refl) ?_
  refine he_s 1 (pc' := cond (fx_cb .ne (lg_cmp xc1 0) 0) 15 11) (lc' := [(2, .long xc1), (0, .ref 9), (1, .ref 15)]) (stk' := []) (mem' := cm gc1 lc1 a b R) (by intro _ _ _; eq_refl) ?_
  cases y2 : fx_cb .ne (lg_cmp xc1 0) 0
  · refine he_s 4 (pc' := 27) (lc' := [(4, .int (-1)), (2, .long xc1), (0, .ref 9), (1, .ref 15)]) (stk' := [.int (-1)]) (mem' := cm gc1 lc1 a b R) (by intro _ _ _; eq_refl) ?_
    refine he_s 1 (pc' := cond (fx_cb .ge (-1) 0) 35 30) (lc' := [(4, .int (-1)), (2, .long xc1), (0, .ref 9), (1, .ref 15)]) (stk' := []) (mem' := cm gc1 lc1 a b R) (by intro _ _ _; eq_refl) ?_
    rw [show (fx_cb .ge (-1) 0) = false from by decide]
    dsimp only [cond]
    refine he_s 2 (pc' := 32) (lc' := [(4, .int (-1)), (2, .long xc1), (0, .ref 9), (1, .ref 15)]) (stk' := [.int 3, .ref 9]) (mem' := cm gc1 lc1 a b R) (by intro _ _ _; eq_refl) ?_
    refine he_ivV (ha_failq (a := a) (b := b) (R := R) (x := 3) hmc1) (by omega) (by rfl) (by rfl) (by rfl) (by rfl) (by rfl) (by rfl) ?_
    refine he_s 1 (pc' := 37) (lc' := [(4, .int (-1)), (2, .long xc1), (0, .ref 9), (1, .ref 15)]) (stk' := [.int (-1)]) (mem' := cm gc1 lc1 a b R) (by intro _ _ _; eq_refl) ?_
    have hz9 := hAc1.2.2.2.1
    exact he_ret ⟨_, _, _, hfc1, hmc1, sp_n1b, rfl⟩ (by rfl) (by rfl) (by rfl)
  · refine he_s 3 (pc' := 20) (lc' := [(2, .long xc1), (0, .ref 9), (1, .ref 15)]) (stk' := [.long xc1, .ref 26]) (mem' := cm gc1 lc1 a b R) (by intro _ _ _; eq_refl) ?_
    obtain ⟨wc4, hrc4, hic4⟩ := ha_cnam15 (g := gc1) (l := lc1) (a := a) (b := b) (R := R) (x := xc1) hAc1.2.2.1 hAc1.2.2.2.1
    refine he_ivV hrc4 (by omega) (by rfl) (by rfl) (by rfl) (by rfl) (by rfl) (by rfl) ?_
    have hbc4 := sp_is_b hic4 (by have := hAc1.2.2.2.1; omega)
    refine he_s 2 (pc' := 27) (lc' := [(4, .int wc4), (2, .long xc1), (0, .ref 9), (1, .ref 15)]) (stk' := [.int wc4]) (mem' := cm gc1 lc1 a b R) (by intro _ _ _; eq_refl) ?_
    refine he_s 1 (pc' := cond (fx_cb .ge wc4 0) 35 30) (lc' := [(4, .int wc4), (2, .long xc1), (0, .ref 9), (1, .ref 15)]) (stk' := []) (mem' := cm gc1 lc1 a b R) (by intro _ _ _; eq_refl) ?_
    cases y5 : fx_cb .ge wc4 0
    · refine he_s 2 (pc' := 32) (lc' := [(4, .int wc4), (2, .long xc1), (0, .ref 9), (1, .ref 15)]) (stk' := [.int 3, .ref 9]) (mem' := cm gc1 lc1 a b R) (by intro _ _ _; eq_refl) ?_
      refine he_ivV (ha_failq (a := a) (b := b) (R := R) (x := 3) hmc1) (by omega) (by rfl) (by rfl) (by rfl) (by rfl) (by rfl) (by rfl) ?_
      refine he_s 1 (pc' := 37) (lc' := [(4, .int wc4), (2, .long xc1), (0, .ref 9), (1, .ref 15)]) (stk' := [.int wc4]) (mem' := cm gc1 lc1 a b R) (by intro _ _ _; eq_refl) ?_
      have hz9 := hAc1.2.2.2.1
      exact he_ret ⟨_, _, _, hfc1, hmc1, hbc4, rfl⟩ (by rfl) (by rfl) (by rfl)
    · refine he_s 1 (pc' := 37) (lc' := [(4, .int wc4), (2, .long xc1), (0, .ref 9), (1, .ref 15)]) (stk' := [.int wc4]) (mem' := cm gc1 lc1 a b R) (by intro _ _ _; eq_refl) ?_
      have hz9 := hAc1.2.2.2.1
      exact he_ret ⟨_, _, _, hfc1, hmc1, hbc4, rfl⟩ (by rfl) (by rfl) (by rfl)
end CNM
end MH19_3
