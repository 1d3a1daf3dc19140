/-! ===== the text of a lake ===== -/
/-- its cells by name, shore or not; its walkers by name, with their weights; its ways, its cells beside each other -/
abbrev sp_A : Type := (List (List Nat × Bool) × List (List Nat × Nat)) × (Nat → Int32) × (Nat → Int32)
def sp_A0 : sp_A := (([], []), (fun _ => 0), (fun _ => 0))
/-- the place of a name in a list, or its length -/
def sp_iC (l : List (List Nat × Bool)) (L : List Nat) : Nat := l.findIdx (fun c => decide (c.1 = L))
def sp_iW (l : List (List Nat × Nat)) (L : List Nat) : Nat := l.findIdx (fun c => decide (c.1 = L))
def sp_sh (A : sp_A) (c : Nat) : Bool := match A.1.1[c]? with
  | some q => q.2
  | none => false
/-- what a search in a row of numbers gives -/
def sp_is (f : Nat → Int64) (N : Nat) (x : Int64) (v : Int32) : Prop := (v = -1 ∧ ∀ k, k < N → ¬ f k = x) ∨ ∃ k, k < N ∧ v = nI k ∧ f k = x ∧ ∀ j, j < k → ¬ f j = x
/-- names as the class holds them, and as the model does -/
def sp_nC (f : Nat → Int64) (l : List (List Nat)) : Prop := (∀ i L, l[i]? = some L → f i = Int64.ofNat (sp_cd L)) ∧ ∀ L ∈ l, sp_lo L ∧ L.length ≤ 8
def sp_nM (f : Nat → Int64) (l : List (List Nat)) : Prop := (∀ i L, l[i]? = some L → f i = Int64.ofNat (sp_c8 L)) ∧ ∀ L ∈ l, sp_lo L ∧ L.length ≤ 8
theorem sp_c8_63 {L : List Nat} (h : sp_lo L) (h8 : L.length ≤ 8) : sp_c8 L < 2 ^ 63 := by
  revert h h8
  refine sp_rev (Q := fun L => sp_lo L → L.length ≤ 8 → sp_c8 L < 2 ^ 63) (fun _ _ => by decide) (fun L c _ h h8 => ?_) L
  obtain ⟨h1, h2, h3⟩ := sp_lo_app h
  rw [List.length_append, show ([c] : List Nat).length = 1 from rfl] at h8
  by_cases h7 : L.length = 7
  · -- the first letter is at most 122
    have key : ∀ M : List Nat, sp_lo M → M ≠ [] → sp_c8 M < 123 * 256 ^ (M.length - 1) := by
      refine sp_rev (fun _ z => absurd rfl z) (fun M d ih hM _ => ?_)
      obtain ⟨k1, k2, k3⟩ := sp_lo_app hM
      rw [sp_c8_s, List.length_append, show ([d] : List Nat).length = 1 from rfl]
      cases M with
      | nil => show 0 * 256 + d < _; rw [show ([] : List Nat).length + 1 - 1 = 0 from rfl]; omega
      | cons x M =>
        have := ih k1 (fun z => nomatch z)
        rw [show (x :: M).length + 1 - 1 = ((x :: M).length - 1) + 1 from rfl, Nat.pow_succ]
        omega
    have h9 := key L h1 (fun z => by rw [z] at h7; cases h7)
    rw [h7] at h9
    rw [sp_c8_s]
    have e1 : (256 : Nat) ^ (7 - 1) = 281474976710656 := by decide
    have e2 : (2 : Nat) ^ 63 = 9223372036854775808 := by decide
    omega
  · have h9 := sp_c8_lt L h1
    have h4 : (256 : Nat) ^ L.length ≤ 256 ^ 6 := Nat.pow_le_pow_right (by decide) (by omega)
    have e1 : (256 : Nat) ^ 6 = 281474976710656 := by decide
    have e2 : (2 : Nat) ^ 63 = 9223372036854775808 := by decide
    rw [sp_c8_s]
    omega
theorem sp_fx {l : List (List Nat)} {L : List Nat} {f : Nat → Int64} {x : Int64} {v : Int32} (hf : ∀ i M, l[i]? = some M → (f i = x ↔ M = L)) (hv : sp_is f l.length x v) : (l.findIdx (fun c => decide (c = L)) = l.length ∧ v = -1) ∨ (l.findIdx (fun c => decide (c = L)) < l.length ∧ v = nI (l.findIdx (fun c => decide (c = L)))) := by
  rcases hv with ⟨rfl, h⟩ | ⟨k, hk, rfl, h1, h2⟩
  · refine Or.inl ⟨?_, rfl⟩
    rw [List.findIdx_eq_length]
    intro M hM
    obtain ⟨i, hi⟩ := List.getElem?_of_mem hM
    exact decide_eq_false (fun e => h i (List.getElem?_eq_some_iff.mp hi).1 ((hf i M hi).mpr e))
  · have e : l.findIdx (fun c => decide (c = L)) = k := by
      rw [List.findIdx_eq hk]
      refine ⟨decide_eq_true ((hf k _ (List.getElem?_eq_getElem hk)).mp h1), fun j hj => decide_eq_false (fun e => h2 j hj ((hf j _ (List.getElem?_eq_getElem (by omega))).mpr e))⟩
    rw [e]
    exact Or.inr ⟨hk, rfl⟩
theorem sp_fxC {l : List (List Nat)} {L : List Nat} {f : Nat → Int64} {v : Int32} (hf : sp_nC f l) (hL : sp_lo L) (h8 : L.length ≤ 8) (hv : sp_is f l.length (Int64.ofNat (sp_cd L)) v) : (l.findIdx (fun c => decide (c = L)) = l.length ∧ v = -1) ∨ (l.findIdx (fun c => decide (c = L)) < l.length ∧ v = nI (l.findIdx (fun c => decide (c = L)))) := by
  refine sp_fx (fun i M hi => ?_) hv
  rw [hf.1 i M hi]
  obtain ⟨k1, k2⟩ := hf.2 M (List.mem_of_getElem? hi)
  exact ⟨fun e => sp_cdI k1 k2 hL h8 e, fun e => by rw [e]⟩
theorem sp_fxM {l : List (List Nat)} {L : List Nat} {f : Nat → Int64} {v : Int32} (hf : sp_nM f l) (hL : sp_lo L) (h8 : L.length ≤ 8) (hv : sp_is f l.length (Int64.ofNat (sp_c8 L)) v) : (l.findIdx (fun c => decide (c = L)) = l.length ∧ v = -1) ∨ (l.findIdx (fun c => decide (c = L)) < l.length ∧ v = nI (l.findIdx (fun c => decide (c = L)))) := by
  refine sp_fx (fun i M hi => ?_) hv
  rw [hf.1 i M hi]
  obtain ⟨k1, k2⟩ := hf.2 M (List.mem_of_getElem? hi)
  exact ⟨fun e => sp_c8_inj M k1 L hL (sp_i64 (sp_c8_63 k1 k2) (sp_c8_63 hL h8) e), fun e => by rw [e]⟩
theorem sp_iC_map (l : List (List Nat × Bool)) (L : List Nat) : (l.map Prod.fst).findIdx (fun c => decide (c = L)) = sp_iC l L := by
  unfold sp_iC
  rw [List.findIdx_map]
  rfl
theorem sp_iW_map (l : List (List Nat × Nat)) (L : List Nat) : (l.map Prod.fst).findIdx (fun c => decide (c = L)) = sp_iW l L := by
  unfold sp_iW
  rw [List.findIdx_map]
  rfl
/-- a fault and its place, or what was read, what was settled, where the last token ended -/
abbrev sp_R : Type := (Int32 × Nat) ⊕ (sp_A × Nat × Nat)
section SPP
variable (T : Nat → Nat) (n : Nat)
def sp_mis (p : Nat) : sp_R := .inl (sp_m T n p, sp_s T n p)
/-- a word that must stand there -/
def sp_word (w p : Nat) (c : Nat → sp_R) : sp_R := if sp_k T n p = 1 ∧ sp_kw (sp_wd T n p) = w then c (sp_n T n p) else sp_mis T n p
def sp_sign (w p : Nat) (c : Nat → sp_R) : sp_R := if sp_k T n p = 3 ∧ T (sp_s T n p) = w then c (sp_n T n p) else sp_mis T n p
def sp_num (lo hi p : Nat) (c : Nat → sp_R) : sp_R := if sp_k T n p = 2 then (if lo ≤ sp_v T n p ∧ sp_v T n p ≤ hi then c (sp_n T n p) else .inl (4, sp_s T n p)) else sp_mis T n p
/-- a name (not yet passed) -/
def sp_name (p : Nat) (c : sp_R) : sp_R := if sp_k T n p = 1 ∧ sp_n T n p ≤ sp_s T n p + 8 ∧ sp_kw (sp_wd T n p) = 23 then c else sp_mis T n p
/-- a new name -/
def sp_new (A : sp_A) (p : Nat) (c : Nat → sp_R) : sp_R := sp_name T n p (if sp_iC A.1.1 (sp_wd T n p) < A.1.1.length ∨ sp_iW A.1.2 (sp_wd T n p) < A.1.2.length then .inl (3, sp_s T n p) else c (sp_n T n p))
/-- a cell told ahead (not yet passed) -/
def sp_cell (A : sp_A) (p : Nat) (c : Nat → sp_R) : sp_R := sp_name T n p (if sp_iC A.1.1 (sp_wd T n p) < A.1.1.length then c (sp_iC A.1.1 (sp_wd T n p)) else .inl (3, sp_s T n p))
def sp_fin (A : sp_A) (st p : Nat) : sp_R := sp_sign T n 59 p (fun q => .inr (A, st, q))
def sp_addC (A : sp_A) (L : List Nat) (s : Bool) : sp_A := ((A.1.1 ++ [(L, s)], A.1.2), A.2)
def sp_addW (A : sp_A) (L : List Nat) (w : Nat) : sp_A := ((A.1.1, A.1.2 ++ [(L, w)]), A.2)
def sp_pr (f : Nat → Int32) (i j : Nat) : Nat → Int32 := upd (upd f i (f i ||| ((1 : Int32) <<< (nI j &&& 31)))) j ((upd f i (f i ||| ((1 : Int32) <<< (nI j &&& 31)))) j ||| ((1 : Int32) <<< (nI i &&& 31)))
def sp_pCell (A : sp_A) (st p : Nat) (sh : Bool) : sp_R := if 10 ≤ A.1.1.length then .inl (6, sp_s T n p) else sp_new T n A (sp_n T n p) (fun q => if sh = true then sp_fin T n (sp_addC A (sp_wd T n (sp_n T n p)) true) st q else sp_word T n 1 q (fun q2 => sp_num T n 0 200 q2 (fun q3 => sp_fin T n (sp_addC A (sp_wd T n (sp_n T n p)) false) st q3)))
def sp_pPair (A : sp_A) (st p : Nat) (be : Bool) : sp_R := sp_cell T n A (sp_n T n p) (fun i => if be = true ∧ sp_sh A i = true then .inl (5, sp_s T n (sp_n T n p)) else sp_cell T n A (sp_n T n (sp_n T n p)) (fun j => if i = j ∨ be = true ∧ sp_sh A j = true then .inl (5, sp_s T n (sp_n T n (sp_n T n p))) else sp_fin T n (if be = true then (A.1, A.2.1, sp_pr A.2.2 i j) else (A.1, sp_pr A.2.1 i j, A.2.2)) st (sp_n T n (sp_n T n (sp_n T n p)))))
def sp_pWalk (A : sp_A) (st p : Nat) : sp_R := if 8 ≤ A.1.2.length then .inl (6, sp_s T n p) else sp_new T n A (sp_n T n p) (fun q => sp_word T n 6 q (fun q2 => sp_num T n 1 99 q2 (fun q3 => sp_word T n 7 q3 (fun q4 => sp_cell T n A q4 (fun i => if sp_sh A i = true then sp_fin T n (sp_addW A (sp_wd T n (sp_n T n p)) (sp_v T n q2)) st (sp_n T n q4) else .inl (5, sp_s T n q4))))))
def sp_pSet (A : sp_A) (st p k lo : Nat) : sp_R := if st / 2 ^ k % 2 = 1 then .inl (5, sp_s T n p) else sp_num T n lo 20 (sp_n T n p) (fun q => sp_fin T n A (st + 2 ^ k) q)
def sp_pk (A : sp_A) (st p : Nat) (k : Nat) : sp_R := match k with
  | 0 => sp_pCell T n A st p false
  | 2 => sp_pCell T n A st p true
  | 3 => sp_pPair T n A st p false
  | 4 => sp_pPair T n A st p true
  | 5 => sp_pWalk T n A st p
  | 8 => sp_pSet T n A st p 0 0
  | 9 => sp_pSet T n A st p 1 1
  | 10 => sp_pSet T n A st p 2 0
  | _ => sp_mis T n p
def sp_part (A : sp_A) (st p : Nat) : sp_R := if sp_k T n p = 1 then sp_pk T n A st p (sp_kw (sp_wd T n p)) else sp_mis T n p
/-- all parts, at most f -/
def sp_all : Nat → sp_A → Nat → Nat → sp_R
  | 0, A, st, p => .inr (A, st, p)
  | f + 1, A, st, p => if sp_k T n p = 0 then .inr (A, st, p) else match sp_part T n A st p with
    | .inl z => .inl z
    | .inr z => sp_all f z.1 z.2.1 z.2.2
def sp_lake : sp_R := sp_all T n 901 sp_A0 0 0
end SPP
section SPQ
variable {T : Nat → Nat} {n p : Nat}
theorem sp_word_t {w : Nat} {c : Nat → sp_R} (h : sp_k T n p = 1 ∧ sp_kw (sp_wd T n p) = w) : sp_word T n w p c = c (sp_n T n p) := if_pos h
theorem sp_word_f {w : Nat} {c : Nat → sp_R} (h : ¬ (sp_k T n p = 1 ∧ sp_kw (sp_wd T n p) = w)) : sp_word T n w p c = .inl (sp_m T n p, sp_s T n p) := if_neg h
theorem sp_sign_t {w : Nat} {c : Nat → sp_R} (h : sp_k T n p = 3 ∧ T (sp_s T n p) = w) : sp_sign T n w p c = c (sp_n T n p) := if_pos h
theorem sp_sign_f {w : Nat} {c : Nat → sp_R} (h : ¬ (sp_k T n p = 3 ∧ T (sp_s T n p) = w)) : sp_sign T n w p c = .inl (sp_m T n p, sp_s T n p) := if_neg h
theorem sp_num_t {lo hi : Nat} {c : Nat → sp_R} (h : sp_k T n p = 2) (h2 : lo ≤ sp_v T n p ∧ sp_v T n p ≤ hi) : sp_num T n lo hi p c = c (sp_n T n p) := by
  unfold sp_num
  rw [if_pos h, if_pos h2]
theorem sp_num_4 {lo hi : Nat} {c : Nat → sp_R} (h : sp_k T n p = 2) (h2 : ¬ (lo ≤ sp_v T n p ∧ sp_v T n p ≤ hi)) : sp_num T n lo hi p c = .inl (4, sp_s T n p) := by
  unfold sp_num
  rw [if_pos h, if_neg h2]
theorem sp_num_f {lo hi : Nat} {c : Nat → sp_R} (h : ¬ sp_k T n p = 2) : sp_num T n lo hi p c = .inl (sp_m T n p, sp_s T n p) := if_neg h
theorem sp_name_t {c : sp_R} (h : sp_nm T n p) : sp_name T n p c = c := if_pos h
theorem sp_name_f {c : sp_R} (h : ¬ sp_nm T n p) : sp_name T n p c = .inl (sp_m T n p, sp_s T n p) := if_neg h
theorem sp_new_t {A : sp_A} {c : Nat → sp_R} (h : sp_nm T n p) (h2 : ¬ (sp_iC A.1.1 (sp_wd T n p) < A.1.1.length ∨ sp_iW A.1.2 (sp_wd T n p) < A.1.2.length)) : sp_new T n A p c = c (sp_n T n p) := (sp_name_t h).trans (if_neg h2)
theorem sp_new_3 {A : sp_A} {c : Nat → sp_R} (h : sp_nm T n p) (h2 : sp_iC A.1.1 (sp_wd T n p) < A.1.1.length ∨ sp_iW A.1.2 (sp_wd T n p) < A.1.2.length) : sp_new T n A p c = .inl (3, sp_s T n p) := (sp_name_t h).trans (if_pos h2)
theorem sp_new_f {A : sp_A} {c : Nat → sp_R} (h : ¬ sp_nm T n p) : sp_new T n A p c = .inl (sp_m T n p, sp_s T n p) := sp_name_f h
theorem sp_cell_t {A : sp_A} {c : Nat → sp_R} (h : sp_nm T n p) (h2 : sp_iC A.1.1 (sp_wd T n p) < A.1.1.length) : sp_cell T n A p c = c (sp_iC A.1.1 (sp_wd T n p)) := (sp_name_t h).trans (if_pos h2)
theorem sp_cell_3 {A : sp_A} {c : Nat → sp_R} (h : sp_nm T n p) (h2 : ¬ sp_iC A.1.1 (sp_wd T n p) < A.1.1.length) : sp_cell T n A p c = .inl (3, sp_s T n p) := (sp_name_t h).trans (if_neg h2)
theorem sp_cell_f {A : sp_A} {c : Nat → sp_R} (h : ¬ sp_nm T n p) : sp_cell T n A p c = .inl (sp_m T n p, sp_s T n p) := sp_name_f h
theorem sp_nm_lt (hp : p ≤ n) (h : sp_nm T n p) : sp_lo (sp_wd T n p) ∧ (sp_wd T n p).length ≤ 8 := ⟨sp_wd_lo hp h.1, by
  rw [sp_wd_len]
  have := h.2.1
  omega⟩
end SPQ
