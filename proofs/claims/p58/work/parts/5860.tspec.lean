/-! ===== the text of TALES ===== -/
/-- a walker told of (not yet passed) -/
def sp_walk (T : Nat → Nat) (n : Nat) (A : sp_A) (p : Nat) (c : Nat → sp_R) : sp_R := sp_name T n p (if sp_iW A.1.2 (sp_wd T n p) < A.1.2.length then c (sp_iW A.1.2 (sp_wd T n p)) else .inl (3, sp_s T n p))
/-- less, more, as much -/
def tl_cmp (T : Nat → Nat) (n p : Nat) (c : Nat → sp_R) : sp_R := if sp_k T n p = 3 ∧ ¬ T (sp_s T n p) = 59 then c (sp_n T n p) else sp_mis T n p
section TLP
variable (T : Nat → Nat) (n : Nat)
/-- a test, by its word -/
def tl_tk (A : sp_A) (w p : Nat) (c : Nat → sp_R) : sp_R := match w with
  | 1 => sp_cell T n A (sp_n T n p) (fun _ => tl_cmp T n (sp_n T n (sp_n T n p)) (fun q => sp_num T n 0 999 q c))
  | 7 => sp_walk T n A (sp_n T n p) (fun _ => sp_word T n 18 (sp_n T n (sp_n T n p)) (fun q => sp_cell T n A q (fun _ => c (sp_n T n q))))
  | 19 => sp_walk T n A (sp_n T n p) (fun _ => c (sp_n T n (sp_n T n p)))
  | _ => sp_mis T n p
def tl_test (A : sp_A) (p : Nat) (c : Nat → sp_R) : sp_R := if sp_k T n p = 1 then tl_tk T n A (sp_kw (sp_wd T n p)) p c else sp_mis T n p
/-- what stands behind a STEP's word w, to its sign -/
def tl_rest (A : sp_A) (w p : Nat) (c : Nat → sp_R) : sp_R := match w with
  | 11 => sp_walk T n A p (fun _ => sp_word T n 12 (sp_n T n p) (fun q => sp_cell T n A q (fun _ => c (sp_n T n q))))
  | 13 => sp_num T n 1 20 p c
  | 14 => sp_num T n 1 20 p c
  | 15 => sp_num T n 1 20 p c
  | 17 => tl_test T n A p c
  | 20 => sp_num T n 1 99 p c
  | _ => c p
def tl_is (w : Nat) : Bool := w == 11 || w == 13 || w == 14 || w == 15 || w == 16 || w == 17 || w == 20 || w == 22
def tl_op (w : Nat) : Bool := w == 17 || w == 20
/-- a STEP or an end; c STEPS ahead, d open -/
def tl_k (A : sp_A) (c d p w : Nat) : sp_R := if w = 21 then (if d = 0 then sp_mis T n p else sp_sign T n 59 (sp_n T n p) (fun q => .inr (A, 4 * c + (d - 1), q)))
  else if tl_is w = true then (if 30 ≤ c then .inl (6, sp_s T n p) else if tl_op w = true ∧ 3 ≤ d then .inl (7, sp_s T n p) else tl_rest T n A w (sp_n T n p) (fun q => sp_sign T n 59 q (fun q2 => .inr (A, 4 * (c + 1) + (if tl_op w = true then d + 1 else d), q2))))
  else sp_mis T n p
def tl_step (A : sp_A) (c d p : Nat) : sp_R := if sp_k T n p = 1 then tl_k T n A c d p (sp_kw (sp_wd T n p)) else sp_mis T n p
def tl_all (A : sp_A) : Nat → Nat → Nat → sp_R
  | 0, x, p => .inr (A, x, p)
  | f + 1, x, p => if sp_k T n p = 0 then (if x % 4 = 0 then .inr (A, x, p) else sp_mis T n p) else match tl_step T n A (x / 4) (x % 4) p with
    | .inl z => .inl z
    | .inr z => tl_all A f z.2.1 z.2.2
def tl_tales (A : sp_A) : sp_R := tl_all T n A 901 0 0
end TLP
section TLQ
variable {T : Nat → Nat} {n p : Nat}
theorem sp_walk_t {A : sp_A} {c : Nat → sp_R} (h : sp_nm T n p) (h2 : sp_iW A.1.2 (sp_wd T n p) < A.1.2.length) : sp_walk T n A p c = c (sp_iW A.1.2 (sp_wd T n p)) := (sp_name_t h).trans (if_pos h2)
theorem sp_walk_3 {A : sp_A} {c : Nat → sp_R} (h : sp_nm T n p) (h2 : ¬ sp_iW A.1.2 (sp_wd T n p) < A.1.2.length) : sp_walk T n A p c = .inl (3, sp_s T n p) := (sp_name_t h).trans (if_neg h2)
theorem sp_walk_f {A : sp_A} {c : Nat → sp_R} (h : ¬ sp_nm T n p) : sp_walk T n A p c = .inl (sp_m T n p, sp_s T n p) := sp_name_f h
theorem tl_cmp_t {c : Nat → sp_R} (h : sp_k T n p = 3) (h2 : ¬ T (sp_s T n p) = 59) : tl_cmp T n p c = c (sp_n T n p) := if_pos ⟨h, h2⟩
theorem tl_cmp_f {c : Nat → sp_R} (h : ¬ (sp_k T n p = 3 ∧ ¬ T (sp_s T n p) = 59)) : tl_cmp T n p c = .inl (sp_m T n p, sp_s T n p) := if_neg h
end TLQ
