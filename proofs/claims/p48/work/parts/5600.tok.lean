/-! ===== the tokens of a text: bytes are numbers from 0 to 255 ===== -/
def sp_ws (c : Nat) : Bool := Nat.beq c 10 || Nat.beq c 32
def sp_sm (c : Nat) : Bool := Nat.ble 97 c && Nat.ble c 122
def sp_dg (c : Nat) : Bool := Nat.ble 48 c && Nat.ble c 57
def sp_sg (c : Nat) : Bool := Nat.ble 59 c && Nat.ble c 62
theorem sp_ws_i {c : Nat} : sp_ws c = true ↔ c = 10 ∨ c = 32 := by
  unfold sp_ws
  rw [Bool.or_eq_true, Nat.beq_eq, Nat.beq_eq]
theorem sp_rg_i {lo hi c : Nat} : (Nat.ble lo c && Nat.ble c hi) = true ↔ lo ≤ c ∧ c ≤ hi := by
  rw [Bool.and_eq_true, Nat.ble_eq, Nat.ble_eq]
theorem sp_sm_i {c : Nat} : sp_sm c = true ↔ 97 ≤ c ∧ c ≤ 122 := sp_rg_i
theorem sp_dg_i {c : Nat} : sp_dg c = true ↔ 48 ≤ c ∧ c ≤ 57 := sp_rg_i
theorem sp_sg_i {c : Nat} : sp_sg c = true ↔ 59 ≤ c ∧ c ≤ 62 := sp_rg_i
/-- the first place from k on, at most f places on, that is not of kind P, or n -/
def sp_go (P : Nat → Bool) (T : Nat → Nat) (n : Nat) : Nat → Nat → Nat
  | 0, k => k
  | f + 1, k => if k < n ∧ P (T k) = true then sp_go P T n f (k + 1) else k
def sp_e (P : Nat → Bool) (T : Nat → Nat) (n k : Nat) : Nat := sp_go P T n (n - k) k
section SPE
variable {P : Nat → Bool} {T : Nat → Nat} {n k : Nat}
theorem sp_e_t (h : k < n) (hp : P (T k) = true) : sp_e P T n k = sp_e P T n (k + 1) := by
  unfold sp_e
  rw [show n - k = (n - (k + 1)) + 1 from by omega]
  show (if k < n ∧ P (T k) = true then sp_go P T n (n - (k + 1)) (k + 1) else k) = _
  rw [if_pos ⟨h, hp⟩]
theorem sp_e_f (h : ¬ (k < n ∧ P (T k) = true)) : sp_e P T n k = k := by
  unfold sp_e
  cases n - k with
  | zero => rfl
  | succ m =>
    show (if k < n ∧ P (T k) = true then sp_go P T n m (k + 1) else k) = k
    rw [if_neg h]
theorem sp_e_ind : ∀ (f k : Nat), n - k = f → k ≤ sp_e P T n k ∧ (k ≤ n → sp_e P T n k ≤ n) ∧ (∀ j, k ≤ j → j < sp_e P T n k → P (T j) = true) ∧ ¬ (sp_e P T n k < n ∧ P (T (sp_e P T n k)) = true) := by
  intro f
  induction f with
  | zero =>
    intro k hk
    have hn : ¬ (k < n ∧ P (T k) = true) := fun z => by have := z.1; omega
    rw [sp_e_f hn]
    exact ⟨Nat.le_refl _, id, fun j h1 h2 => absurd h2 (by omega), hn⟩
  | succ f ih =>
    intro k hk
    by_cases h : k < n ∧ P (T k) = true
    · rw [sp_e_t h.1 h.2]
      obtain ⟨a1, a2, a3, a4⟩ := ih (k + 1) (by omega)
      refine ⟨by omega, fun _ => a2 (by omega), fun j h1 h2 => ?_, a4⟩
      by_cases e : j = k
      · rw [e]; exact h.2
      · exact a3 j (by omega) h2
    · rw [sp_e_f h]
      exact ⟨Nat.le_refl _, id, fun j h1 h2 => absurd h2 (by omega), h⟩
theorem sp_e_ge : k ≤ sp_e P T n k := (sp_e_ind _ k rfl).1
theorem sp_e_le (h : k ≤ n) : sp_e P T n k ≤ n := (sp_e_ind _ k rfl).2.1 h
theorem sp_e_all {j : Nat} (h : k ≤ j) (h2 : j < sp_e P T n k) : P (T j) = true := (sp_e_ind _ k rfl).2.2.1 j h h2
theorem sp_e_end : ¬ (sp_e P T n k < n ∧ P (T (sp_e P T n k)) = true) := (sp_e_ind _ k rfl).2.2.2
theorem sp_e_one (h : k < n) (hp : P (T k) = true) : k < sp_e P T n k := by
  rw [sp_e_t h hp]
  have : k + 1 ≤ sp_e P T n (k + 1) := sp_e_ge
  omega
end SPE
/-- where the token behind p begins -/
def sp_s (T : Nat → Nat) (n p : Nat) : Nat := sp_e sp_ws T n p
/-- 0 none, 1 a word, 2 a number, 3 a sign, 4 bad -/
def sp_k (T : Nat → Nat) (n p : Nat) : Nat := if sp_s T n p < n then (if sp_sm (T (sp_s T n p)) = true then 1 else if sp_dg (T (sp_s T n p)) = true then (if sp_e sp_dg T n (sp_s T n p) ≤ sp_s T n p + 4 then 2 else 4) else if sp_sg (T (sp_s T n p)) = true then 3 else 4) else 0
/-- where it ends (a bad sign: where it begins) -/
def sp_n (T : Nat → Nat) (n p : Nat) : Nat := if sp_s T n p < n then (if sp_sm (T (sp_s T n p)) = true then sp_e sp_sm T n (sp_s T n p) else if sp_dg (T (sp_s T n p)) = true then sp_e sp_dg T n (sp_s T n p) else if sp_sg (T (sp_s T n p)) = true then sp_s T n p + 1 else sp_s T n p) else sp_s T n p
section SPT
variable {T : Nat → Nat} {n p : Nat}
theorem sp_s_ge : p ≤ sp_s T n p := sp_e_ge
theorem sp_s_le (h : p ≤ n) : sp_s T n p ≤ n := sp_e_le h
theorem sp_t0 (h : ¬ sp_s T n p < n) : sp_k T n p = 0 ∧ sp_n T n p = sp_s T n p := by
  unfold sp_k sp_n
  rw [if_neg h, if_neg h]
  exact ⟨rfl, rfl⟩
theorem sp_t1 (h : sp_s T n p < n) (h1 : sp_sm (T (sp_s T n p)) = true) : sp_k T n p = 1 ∧ sp_n T n p = sp_e sp_sm T n (sp_s T n p) := by
  unfold sp_k sp_n
  rw [if_pos h, if_pos h, if_pos h1, if_pos h1]
  exact ⟨rfl, rfl⟩
theorem sp_dg_sm {c : Nat} (h : sp_dg c = true) : ¬ sp_sm c = true := fun z => by
  have h1 := sp_dg_i.mp h
  have h2 := sp_sm_i.mp z
  omega
theorem sp_sg_sm {c : Nat} (h : sp_sg c = true) : ¬ sp_sm c = true := fun z => by
  have h1 := sp_sg_i.mp h
  have h2 := sp_sm_i.mp z
  omega
theorem sp_sg_dg {c : Nat} (h : sp_sg c = true) : ¬ sp_dg c = true := fun z => by
  have h1 := sp_sg_i.mp h
  have h2 := sp_dg_i.mp z
  omega
theorem sp_t2 (h : sp_s T n p < n) (h1 : sp_dg (T (sp_s T n p)) = true) : sp_k T n p = (if sp_n T n p ≤ sp_s T n p + 4 then 2 else 4) ∧ sp_n T n p = sp_e sp_dg T n (sp_s T n p) := by
  have e : sp_n T n p = sp_e sp_dg T n (sp_s T n p) := by
    unfold sp_n
    rw [if_pos h, if_neg (sp_dg_sm h1), if_pos h1]
  rw [e]
  unfold sp_k
  rw [if_pos h, if_neg (sp_dg_sm h1), if_pos h1]
  exact ⟨rfl, rfl⟩
theorem sp_t3 (h : sp_s T n p < n) (h1 : sp_sg (T (sp_s T n p)) = true) : sp_k T n p = 3 ∧ sp_n T n p = sp_s T n p + 1 := by
  unfold sp_k sp_n
  rw [if_pos h, if_pos h, if_neg (sp_sg_sm h1), if_neg (sp_sg_sm h1), if_neg (sp_sg_dg h1), if_neg (sp_sg_dg h1), if_pos h1, if_pos h1]
  exact ⟨rfl, rfl⟩
theorem sp_t4 (h : sp_s T n p < n) (h1 : ¬ sp_sm (T (sp_s T n p)) = true) (h2 : ¬ sp_dg (T (sp_s T n p)) = true) (h3 : ¬ sp_sg (T (sp_s T n p)) = true) : sp_k T n p = 4 ∧ sp_n T n p = sp_s T n p := by
  unfold sp_k sp_n
  rw [if_pos h, if_pos h, if_neg h1, if_neg h1, if_neg h2, if_neg h2, if_neg h3, if_neg h3]
  exact ⟨rfl, rfl⟩
/-- what a token may be -/
theorem sp_cs (hp : p ≤ n) : (sp_s T n p = n ∧ sp_k T n p = 0 ∧ sp_n T n p = n) ∨ (sp_s T n p < n ∧ sp_sm (T (sp_s T n p)) = true ∧ sp_k T n p = 1 ∧ sp_s T n p < sp_n T n p ∧ sp_n T n p ≤ n ∧ sp_n T n p = sp_e sp_sm T n (sp_s T n p)) ∨ (sp_s T n p < n ∧ sp_dg (T (sp_s T n p)) = true ∧ (sp_k T n p = 2 ∧ sp_n T n p ≤ sp_s T n p + 4 ∨ sp_k T n p = 4 ∧ sp_s T n p + 4 < sp_n T n p) ∧ sp_s T n p < sp_n T n p ∧ sp_n T n p ≤ n ∧ sp_n T n p = sp_e sp_dg T n (sp_s T n p)) ∨ (sp_s T n p < n ∧ sp_sg (T (sp_s T n p)) = true ∧ sp_k T n p = 3 ∧ sp_n T n p = sp_s T n p + 1) ∨ (sp_s T n p < n ∧ ¬ sp_sm (T (sp_s T n p)) = true ∧ ¬ sp_dg (T (sp_s T n p)) = true ∧ ¬ sp_sg (T (sp_s T n p)) = true ∧ sp_k T n p = 4 ∧ sp_n T n p = sp_s T n p) := by
  have hs := sp_s_le (T := T) hp
  by_cases h : sp_s T n p < n
  · by_cases h1 : sp_sm (T (sp_s T n p)) = true
    · obtain ⟨e1, e2⟩ := sp_t1 h h1
      refine Or.inr (Or.inl ⟨h, h1, e1, ?_, ?_, e2⟩)
      · rw [e2]; exact sp_e_one h h1
      · rw [e2]; exact sp_e_le hs
    · by_cases h2 : sp_dg (T (sp_s T n p)) = true
      · obtain ⟨e1, e2⟩ := sp_t2 h h2
        refine Or.inr (Or.inr (Or.inl ⟨h, h2, ?_, ?_, ?_, e2⟩))
        · by_cases h4 : sp_n T n p ≤ sp_s T n p + 4
          · rw [if_pos h4] at e1; exact Or.inl ⟨e1, h4⟩
          · rw [if_neg h4] at e1; exact Or.inr ⟨e1, by omega⟩
        · rw [e2]; exact sp_e_one h h2
        · rw [e2]; exact sp_e_le hs
      · by_cases h3 : sp_sg (T (sp_s T n p)) = true
        · obtain ⟨e1, e2⟩ := sp_t3 h h3
          exact Or.inr (Or.inr (Or.inr (Or.inl ⟨h, h3, e1, e2⟩)))
        · obtain ⟨e1, e2⟩ := sp_t4 h h1 h2 h3
          exact Or.inr (Or.inr (Or.inr (Or.inr ⟨h, h1, h2, h3, e1, e2⟩)))
  · obtain ⟨e1, e2⟩ := sp_t0 h
    exact Or.inl ⟨by omega, e1, by rw [e2]; omega⟩
theorem sp_k4 : sp_k T n p ≤ 4 := by
  unfold sp_k
  split
  · split
    · decide
    · split
      · split <;> decide
      · split <;> decide
  · decide
theorem sp_n_le (hp : p ≤ n) : sp_n T n p ≤ n := by
  rcases sp_cs (T := T) hp with h | h | h | h | h <;> omega
theorem sp_n_ge : sp_s T n p ≤ sp_n T n p := by
  unfold sp_n
  split
  · split
    · exact sp_e_ge
    · split
      · exact sp_e_ge
      · split <;> omega
  · exact Nat.le_refl _
theorem sp_n_p : p ≤ sp_n T n p := Nat.le_trans sp_s_ge sp_n_ge
/-- a token that is no bad one and not the end goes on -/
theorem sp_n_lt (hp : p ≤ n) (h : sp_k T n p = 1 ∨ sp_k T n p = 2 ∨ sp_k T n p = 3) : sp_s T n p < sp_n T n p := by
  rcases sp_cs (T := T) hp with h1 | h1 | h1 | h1 | h1 <;> omega
end SPT
/-- the letters from s to e -/
def sp_L (T : Nat → Nat) (s k : Nat) : List Nat := (List.range k).map (fun i => T (s + i))
theorem sp_L_s (T : Nat → Nat) (s k : Nat) : sp_L T s (k + 1) = sp_L T s k ++ [T (s + k)] := by
  unfold sp_L
  rw [List.range_succ, List.map_append]
  rfl
theorem sp_L_len (T : Nat → Nat) (s k : Nat) : (sp_L T s k).length = k := by
  unfold sp_L
  rw [List.length_map, List.length_range]
/-- the word of the token behind p -/
def sp_wd (T : Nat → Nat) (n p : Nat) : List Nat := sp_L T (sp_s T n p) (sp_n T n p - sp_s T n p)
def sp_lo (L : List Nat) : Prop := ∀ c ∈ L, 97 ≤ c ∧ c ≤ 122
theorem sp_L_mem {T : Nat → Nat} {s k c : Nat} (h : c ∈ sp_L T s k) : ∃ i, i < k ∧ c = T (s + i) := by
  unfold sp_L at h
  obtain ⟨i, h1, h2⟩ := List.mem_map.mp h
  exact ⟨i, List.mem_range.mp h1, h2.symm⟩
theorem sp_wd_lo {T : Nat → Nat} {n p : Nat} (hp : p ≤ n) (h : sp_k T n p = 1) : sp_lo (sp_wd T n p) := by
  intro c hc
  obtain ⟨i, h1, rfl⟩ := sp_L_mem hc
  rcases sp_cs (T := T) hp with h2 | h2 | h2 | h2 | h2
  · omega
  · exact sp_sm_i.mp (sp_e_all (k := sp_s T n p) (by omega) (by rw [← h2.2.2.2.2.2]; omega))
  · omega
  · omega
  · omega
theorem sp_wd_len {T : Nat → Nat} {n p : Nat} : (sp_wd T n p).length = sp_n T n p - sp_s T n p := sp_L_len _ _ _
/-- the class's number of letters, and the model's -/
def sp_cd (L : List Nat) : Nat := L.foldl (fun v c => v * 32 + (c - 96)) 0
def sp_c8 (L : List Nat) : Nat := L.foldl (fun v c => v * 256 + c) 0
theorem sp_cd_s (L : List Nat) (c : Nat) : sp_cd (L ++ [c]) = sp_cd L * 32 + (c - 96) := by
  unfold sp_cd
  rw [List.foldl_append]
  rfl
theorem sp_c8_s (L : List Nat) (c : Nat) : sp_c8 (L ++ [c]) = sp_c8 L * 256 + c := by
  unfold sp_c8
  rw [List.foldl_append]
  rfl
theorem sp_rev {Q : List Nat → Prop} (h0 : Q []) (h1 : ∀ (L : List Nat) (c : Nat), Q L → Q (L ++ [c])) : ∀ L, Q L := by
  intro L
  have key : ∀ M : List Nat, Q M.reverse := by
    intro M
    induction M with
    | nil => exact h0
    | cons c M ih => rw [List.reverse_cons]; exact h1 _ _ ih
  have := key L.reverse
  rw [List.reverse_reverse] at this
  exact this
theorem sp_lo_app {L : List Nat} {c : Nat} (h : sp_lo (L ++ [c])) : sp_lo L ∧ 97 ≤ c ∧ c ≤ 122 := ⟨fun d hd => h d (List.mem_append_left _ hd), h c (List.mem_append_right _ List.mem_cons_self)⟩
theorem sp_cd_lt : ∀ L : List Nat, sp_lo L → sp_cd L < 32 ^ L.length := by
  refine sp_rev (fun _ => by decide) (fun L c ih h => ?_)
  obtain ⟨h1, h2, h3⟩ := sp_lo_app h
  have := ih h1
  rw [sp_cd_s, List.length_append, show ([c] : List Nat).length = 1 from rfl, Nat.pow_succ]
  omega
theorem sp_c8_lt : ∀ L : List Nat, sp_lo L → sp_c8 L < 256 ^ L.length := by
  refine sp_rev (fun _ => by decide) (fun L c ih h => ?_)
  obtain ⟨h1, h2, h3⟩ := sp_lo_app h
  have := ih h1
  rw [sp_c8_s, List.length_append, show ([c] : List Nat).length = 1 from rfl, Nat.pow_succ]
  omega
theorem sp_cd_inj : ∀ L : List Nat, sp_lo L → ∀ M : List Nat, sp_lo M → sp_cd L = sp_cd M → L = M := by
  refine sp_rev (fun _ => ?_) (fun L c ih h => ?_)
  · refine sp_rev (fun _ _ => rfl) (fun M d _ h e => ?_)
    obtain ⟨-, h2, h3⟩ := sp_lo_app h
    rw [sp_cd_s] at e
    have e : (0 : Nat) = _ := e
    omega
  · obtain ⟨h1, h2, h3⟩ := sp_lo_app h
    refine sp_rev (fun _ e => ?_) (fun M d _ hM e => ?_)
    · rw [sp_cd_s] at e
      have e : _ = (0 : Nat) := e
      omega
    · obtain ⟨k1, k2, k3⟩ := sp_lo_app hM
      rw [sp_cd_s, sp_cd_s] at e
      have e1 : sp_cd L = sp_cd M := by omega
      have e2 : c = d := by omega
      rw [ih h1 M k1 e1, e2]
theorem sp_c8_inj : ∀ L : List Nat, sp_lo L → ∀ M : List Nat, sp_lo M → sp_c8 L = sp_c8 M → L = M := by
  refine sp_rev (fun _ => ?_) (fun L c ih h => ?_)
  · refine sp_rev (fun _ _ => rfl) (fun M d _ h e => ?_)
    obtain ⟨-, h2, h3⟩ := sp_lo_app h
    rw [sp_c8_s] at e
    have e : (0 : Nat) = _ := e
    omega
  · obtain ⟨h1, h2, h3⟩ := sp_lo_app h
    refine sp_rev (fun _ e => ?_) (fun M d _ hM e => ?_)
    · rw [sp_c8_s] at e
      have e : _ = (0 : Nat) := e
      omega
    · obtain ⟨k1, k2, k3⟩ := sp_lo_app hM
      rw [sp_c8_s, sp_c8_s] at e
      have e1 : sp_c8 L = sp_c8 M := by omega
      have e2 : c = d := by omega
      rw [ih h1 M k1 e1, e2]
/-- the number of k digits from s on, as the class counts it and as the model does -/
def sp_nb (T : Nat → Nat) (s : Nat) : Nat → Nat
  | 0 => 0
  | k + 1 => sp_nb T s k * 10 + (T (s + k) - 48)
def sp_nv (T : Nat → Nat) (s : Nat) : Nat → Nat
  | 0 => 0
  | k + 1 => min 100000 (10 * sp_nv T s k + T (s + k) - 48)
theorem sp_nb_lt {T : Nat → Nat} {s : Nat} : ∀ k : Nat, (∀ i, i < k → 48 ≤ T (s + i) ∧ T (s + i) ≤ 57) → sp_nb T s k < 10 ^ k := by
  intro k
  induction k with
  | zero => intro _; exact Nat.one_pos
  | succ k ih =>
    intro h
    have h1 := ih (fun i hi => h i (by omega))
    have h2 := h k (by omega)
    show sp_nb T s k * 10 + (T (s + k) - 48) < 10 ^ (k + 1)
    rw [Nat.pow_succ]
    omega
theorem sp_nv_eq {T : Nat → Nat} {s : Nat} : ∀ k : Nat, k ≤ 4 → (∀ i, i < k → 48 ≤ T (s + i) ∧ T (s + i) ≤ 57) → sp_nv T s k = sp_nb T s k := by
  intro k
  induction k with
  | zero => intro _ _; rfl
  | succ k ih =>
    intro h4 h
    have h1 := ih (by omega) (fun i hi => h i (by omega))
    have h2 := h k (by omega)
    have h3 := sp_nb_lt (s := s) k (fun i hi => h i (by omega))
    have h5 : 10 ^ k ≤ 10 ^ 3 := Nat.pow_le_pow_right (by decide) (by omega)
    show min 100000 (10 * sp_nv T s k + T (s + k) - 48) = sp_nb T s k * 10 + (T (s + k) - 48)
    rw [h1]
    have h6 : (10 : Nat) ^ 3 = 1000 := by decide
    omega
theorem sp_nv_le {T : Nat → Nat} {s : Nat} : ∀ k : Nat, sp_nv T s k ≤ 100000 := by
  intro k
  cases k with
  | zero => exact Nat.zero_le _
  | succ k => exact Nat.min_le_left _ _
/-- the number of the token behind p -/
def sp_v (T : Nat → Nat) (n p : Nat) : Nat := sp_nb T (sp_s T n p) (sp_n T n p - sp_s T n p)
theorem sp_v_lt {T : Nat → Nat} {n p : Nat} (hp : p ≤ n) (h : sp_k T n p = 2) : sp_v T n p < 10000 := by
  have h4 : sp_n T n p ≤ sp_s T n p + 4 := by rcases sp_cs (T := T) hp with h2 | h2 | h2 | h2 | h2 <;> omega
  have h1 := sp_nb_lt (T := T) (s := sp_s T n p) (sp_n T n p - sp_s T n p) (fun i hi => by
    rcases sp_cs (T := T) hp with h2 | h2 | h2 | h2 | h2
    · omega
    · omega
    · exact sp_dg_i.mp (sp_e_all (k := sp_s T n p) (by omega) (by rw [← h2.2.2.2.2.2]; omega))
    · omega
    · omega)
  have h5 : (10 : Nat) ^ (sp_n T n p - sp_s T n p) ≤ 10 ^ 4 := Nat.pow_le_pow_right (by decide) (by omega)
  have h6 : (10 : Nat) ^ 4 = 10000 := by decide
  unfold sp_v
  omega
/-- the words that are no names, in the order of the class -/
def sp_KW : List (List Nat) := [[105, 99, 101], [98, 101, 97, 114, 115], [115, 104, 111, 114, 101], [119, 97, 121], [98, 101, 115, 105, 100, 101], [119, 97, 108, 107, 101, 114], [119, 101, 105, 103, 104, 115], [97, 116], [119, 111, 114, 115, 101], [104, 111, 117, 114], [98, 101, 116, 116, 101, 114], [115, 101, 110, 100], [116, 111], [115, 116, 101, 112], [102, 114, 111, 115, 116], [116, 104, 97, 119], [97, 110, 121], [119, 104, 101, 110], [105, 110], [119, 101, 116], [108, 111, 111, 112], [101, 110, 100], [115, 116, 111, 112]]
/-- the model's number of each -/
def sp_pm : List Nat := [0, 8, 1, 2, 3, 4, 9, 10, 5, 6, 7, 11, 16, 12, 13, 14, 15, 18, 17, 22, 19, 20, 21]
/-- the number of a word among them, 23 for none -/
def sp_kw (L : List Nat) : Nat := sp_KW.findIdx (fun w => decide (w = L))
theorem sp_kw_le (L : List Nat) : sp_kw L ≤ 23 := List.findIdx_le_length
theorem sp_kw_get {L : List Nat} (h : sp_kw L < 23) : sp_KW[sp_kw L]? = some L := by
  have h2 : sp_kw L < sp_KW.length := h
  have := List.findIdx_getElem (w := h2)
  rw [List.getElem?_eq_getElem h2]
  exact congrArg some (of_decide_eq_true this)
theorem sp_KW_nd : ∀ i, i < 23 → ∀ j, j < 23 → sp_KW[i]? = sp_KW[j]? → i = j := by decide +kernel
theorem sp_kw_of {L : List Nat} {j : Nat} (h : sp_KW[j]? = some L) : sp_kw L = j := by
  have hj : j < 23 := (List.getElem?_eq_some_iff.mp h).1
  have h1 : sp_kw L < 23 := by
    show List.findIdx _ sp_KW < sp_KW.length
    exact List.findIdx_lt_length_of_exists ⟨L, List.mem_of_getElem? h, decide_eq_true rfl⟩
  exact sp_KW_nd _ h1 _ hj ((sp_kw_get h1).trans h.symm)
theorem sp_kw_no {L : List Nat} (h : ∀ j, j < 23 → sp_KW[j]? ≠ some L) : sp_kw L = 23 := by
  have h1 := sp_kw_le L
  by_cases h2 : sp_kw L < 23
  · exact absurd (sp_kw_get h2) (h _ h2)
  · omega
theorem sp_KW_lo : ∀ w ∈ sp_KW, (∀ c ∈ w, 97 ≤ c ∧ c ≤ 122) ∧ w.length ≤ 8 ∧ 0 < sp_cd w := by decide +kernel
theorem sp_i64 {a b : Nat} (ha : a < 2 ^ 63) (hb : b < 2 ^ 63) (h : Int64.ofNat a = Int64.ofNat b) : a = b := by
  have h1 : (Int64.ofNat a).toInt = (Int64.ofNat b).toInt := by rw [h]
  rw [Int64.toInt_ofNat_of_lt ha, Int64.toInt_ofNat_of_lt hb] at h1
  omega
theorem sp_cd_63 {L : List Nat} (h : sp_lo L) (h8 : L.length ≤ 8) : sp_cd L < 2 ^ 63 := by
  have h1 := sp_cd_lt L h
  have h2 : 32 ^ L.length ≤ 32 ^ 8 := Nat.pow_le_pow_right (by decide) h8
  have h3 : (32 : Nat) ^ 8 < 2 ^ 63 := by decide
  omega
theorem sp_cdI {L M : List Nat} (h : sp_lo L) (h8 : L.length ≤ 8) (hM : sp_lo M) (hM8 : M.length ≤ 8) (e : Int64.ofNat (sp_cd L) = Int64.ofNat (sp_cd M)) : L = M := sp_cd_inj L h M hM (sp_i64 (sp_cd_63 h h8) (sp_cd_63 hM hM8) e)
/-- a name: a word of at most 8 letters that is none of these -/
def sp_nm (T : Nat → Nat) (n p : Nat) : Prop := sp_k T n p = 1 ∧ sp_n T n p ≤ sp_s T n p + 8 ∧ sp_kw (sp_wd T n p) = 23
theorem sp_cd_pos {L : List Nat} (h : sp_lo L) (h0 : L ≠ []) : 0 < sp_cd L := by
  revert h h0
  refine sp_rev (Q := fun L => sp_lo L → L ≠ [] → 0 < sp_cd L) (fun _ z => absurd rfl z) (fun L c _ h _ => ?_) L
  obtain ⟨h1, h2, h3⟩ := sp_lo_app h
  rw [sp_cd_s]
  omega
/-- what is told of a word: the class's name, its number among those that are no names -/
def sp_cn (T : Nat → Nat) (n p : Nat) : Int64 := if sp_n T n p ≤ sp_s T n p + 8 then Int64.ofNat (sp_cd (sp_wd T n p)) else 0
def sp_cw (T : Nat → Nat) (n p : Nat) : Int32 := if sp_k T n p = 1 ∧ sp_kw (sp_wd T n p) < 23 then nI (sp_kw (sp_wd T n p)) else -1
theorem sp_cw0 {T : Nat → Nat} {n p : Nat} (h : sp_k T n p ≠ 1) : sp_cw T n p = -1 := if_neg (fun z => h z.1)
/-- the fault where another token is wanted -/
def sp_m (T : Nat → Nat) (n p : Nat) : Int32 := if sp_k T n p = 4 then 1 else 2
theorem sp_m0 {T : Nat → Nat} {n p : Nat} : sp_m T n p ≠ 0 := by
  unfold sp_m
  split <;> decide
