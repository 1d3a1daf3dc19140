/-! ===== halves: both sides agree ===== -/
/-- what a set weighs, of n WALKERS -/
def wS (wf : Nat → Nat) : Nat → Nat → Nat
  | 0, _ => 0
  | n + 1, s => wS wf n s + (if s.testBit n = true then wf n else 0)
theorem wI_eq {wt : Nat → Int32} {wf : Nat → Nat} : ∀ n, (∀ i, i < n → wt i = nI (wf i)) → ∀ q, wI wt n q = nI (wS wf n q)
  | 0, _, _ => rfl
  | n + 1, h, q => by
    show wI wt n q + (if q.testBit n = true then wt n else 0) = nI (wS wf n q + (if q.testBit n = true then wf n else 0))
    rw [wI_eq n (fun i hi => h i (by omega)) q]
    by_cases e : q.testBit n = true
    · rw [if_pos e, if_pos e, h n (by omega), nI_add]
    · rw [if_neg e, if_neg e, Int32.add_zero]
      rfl
theorem wS_le {wf : Nat → Nat} {s : Nat} : ∀ n, (∀ i, i < n → wf i ≤ 99) → wS wf n s ≤ 99 * n
  | 0, _ => Nat.zero_le _
  | n + 1, h => by
    have ih := wS_le (wf := wf) (s := s) n (fun i hi => h i (by omega))
    have := h n (by omega)
    show wS wf n s + (if s.testBit n = true then wf n else 0) ≤ _
    split <;> omega
theorem wS_xor {wf : Nat → Nat} {S p : Nat} (h : p &&& S = p) : ∀ n, wS wf n (S ^^^ p) + wS wf n p = wS wf n S
  | 0 => rfl
  | n + 1 => by
    have ih := wS_xor (wf := wf) h n
    show wS wf n (S ^^^ p) + (if (S ^^^ p).testBit n = true then wf n else 0) + (wS wf n p + (if p.testBit n = true then wf n else 0)) = wS wf n S + (if S.testBit n = true then wf n else 0)
    have e := congrArg (fun x => x.testBit n) h
    have e : (p &&& S).testBit n = p.testBit n := e
    rw [Nat.testBit_and] at e
    rw [Nat.testBit_xor]
    cases hp : p.testBit n <;> cases hS : S.testBit n
    · simp; omega
    · simp; omega
    · rw [hp, hS] at e; cases e
    · simp; omega
theorem wS_any : ∀ n, n < 9 → ∀ q, q < 2 ^ n → (0 < q → ((List.range n).any (fun k => q.testBit k)) = true) := by decide +kernel
theorem wS_pos {wf : Nat → Nat} {q : Nat} : ∀ n k, k < n → q.testBit k = true → 1 ≤ wf k → 1 ≤ wS wf n q
  | 0, _, h, _, _ => absurd h (Nat.not_lt_zero _)
  | n + 1, k, h, hq, hw => by
    show 1 ≤ wS wf n q + (if q.testBit n = true then wf n else 0)
    by_cases e : k = n
    · subst e
      rw [if_pos hq]
      omega
    · have := wS_pos (wf := wf) n k (by omega) hq hw
      omega
theorem absI_nd {a b : Nat} (ha : a < 1000000) (hb : b < 1000000) : absI (nI a - nI b) = nI ((a - b) + (b - a)) := by
  unfold absI
  have e : (nI a - nI b).toInt = (a : Int) - b := by
    rw [Int32.toInt_sub, nI_i32 (by omega), nI_i32 (by omega)]
    exact Int.bmod_eq_of_le (by omega) (by omega)
  by_cases h : b ≤ a
  · rw [if_pos (Int32.le_iff_toInt_le.mpr (by rw [e]; show (0 : Int) ≤ _; omega))]
    apply Int32.toInt_inj.mp
    rw [e, nI_i32 (by omega)]
    omega
  · rw [if_neg (fun z => by have := Int32.le_iff_toInt_le.mp z; rw [e] at this; have h2 : (0 : Int) ≤ (a : Int) - b := this; omega)]
    apply Int32.toInt_inj.mp
    rw [Int32.toInt_sub, e, nI_i32 (by omega), show (0 : Int32).toInt = 0 from rfl]
    rw [Int.bmod_eq_of_le (by omega) (by omega)]
    omega
/-- how far a part is from the rest -/
def apn (wf : Nat → Nat) (n S p : Nat) : Nat := (wS wf n S - 2 * wS wf n p) + (2 * wS wf n p - wS wf n S)
section HVE
variable {wc wt : Nat → Int32} {wf : Nat → Nat} {n S : Nat}
theorem fC_eq (hw : ∀ i, i < n → wc i = nI (wf i)) (h9 : ∀ i, i < n → wf i ≤ 99) (h8 : n ≤ 8) (p : Nat) : fC wc n S p = nI (apn wf n S p) := by
  have l1 := wS_le (s := S) n h9
  have l2 := wS_le (s := p) n h9
  unfold fC apn
  rw [wI_eq n hw, wI_eq n hw, show (2 : Int32) = nI 2 from rfl, fm_mul, absI_nd (by omega) (by omega)]
theorem fM_eq (hw : ∀ i, i < n → wt i = nI (wf i)) (h9 : ∀ i, i < n → wf i ≤ 99) (h8 : n ≤ 8) {p : Nat} (hp : p &&& S = p) : fM wt n S p = nI (apn wf n S p) := by
  have l1 := wS_le (s := S) n h9
  have l2 := wS_le (s := p) n h9
  have l3 := wS_xor (wf := wf) hp n
  unfold fM apn
  rw [wI_eq n hw, wI_eq n hw, absI_nd (by omega) (by omega)]
  congr 1
  omega
theorem hv_fold (hc : ∀ i, i < n → wc i = nI (wf i)) (hm : ∀ i, i < n → wt i = nI (wf i)) (h9 : ∀ i, i < n → wf i ≤ 99) (h8 : n ≤ 8) : ∀ (l : List Nat) (b : Nat), (∀ p ∈ l, p &&& S = p) → b &&& S = b → ∃ q, q &&& S = q ∧ l.foldl (hsC (fC wc n S)) (b, nI (apn wf n S b)) = (q, nI (apn wf n S q)) ∧ l.foldl (hsM (fM wt n S)) (some b) = some q
  | [], b, _, hb => ⟨b, hb, rfl, rfl⟩
  | p :: l, b, hl, hb => by
    have hp := hl p List.mem_cons_self
    have hl2 : ∀ q ∈ l, q &&& S = q := fun q hq => hl q (List.mem_cons_of_mem _ hq)
    have bd : ∀ q, apn wf n S q < 2147483648 := fun q => by
      have l1 := wS_le (s := S) n h9
      have l2 := wS_le (s := q) n h9
      unfold apn
      omega
    have eC : hsC (fC wc n S) (b, nI (apn wf n S b)) p = if apn wf n S b ≤ apn wf n S p then (b, nI (apn wf n S b)) else (p, nI (apn wf n S p)) := by
      unfold hsC
      rw [fC_eq hc h9 h8 p]
      by_cases h : apn wf n S b ≤ apn wf n S p
      · rw [if_pos h, show fx_cb .ge (nI (apn wf n S p)) (b, nI (apn wf n S b)).2 = true from cb_geT (a := apn wf n S p) (b := apn wf n S b) (bd p) (bd b) h]
      · rw [if_neg h, show fx_cb .ge (nI (apn wf n S p)) (b, nI (apn wf n S b)).2 = false from cb_geF (a := apn wf n S p) (b := apn wf n S b) (bd p) (bd b) (by omega)]
    have eM : hsM (fM wt n S) (some b) p = if apn wf n S b ≤ apn wf n S p then some b else some p := by
      show (match fx_cb .ge (fM wt n S p) (fM wt n S b) with
        | true => some b
        | false => some p) = _
      rw [fM_eq hm h9 h8 hp, fM_eq hm h9 h8 hb]
      by_cases h : apn wf n S b ≤ apn wf n S p
      · rw [if_pos h, show fx_cb .ge (nI (apn wf n S p)) (nI (apn wf n S b)) = true from cb_geT (a := apn wf n S p) (b := apn wf n S b) (bd p) (bd b) h]
      · rw [if_neg h, show fx_cb .ge (nI (apn wf n S p)) (nI (apn wf n S b)) = false from cb_geF (a := apn wf n S p) (b := apn wf n S b) (bd p) (bd b) (by omega)]
    rw [List.foldl_cons, List.foldl_cons, eC, eM]
    by_cases h : apn wf n S b ≤ apn wf n S p
    · rw [if_pos h, if_pos h]
      exact hv_fold hc hm h9 h8 l b hl2 hb
    · rw [if_neg h, if_neg h]
      exact hv_fold hc hm h9 h8 l p hl2 hp
theorem cnd_mem {p : Nat} (h : p ∈ cnd S) : p &&& S = p ∧ p ≤ S ∧ 1 ≤ p := by
  unfold cnd at h
  obtain ⟨h1, h2⟩ := List.mem_filter.mp h
  obtain ⟨h3, -⟩ := Bool.and_eq_true_iff.mp h2
  have h4 := List.mem_range'_1.mp h1
  exact ⟨Nat.eq_of_beq_eq_true h3, by omega, h4.1⟩
theorem cnd_ne (h0 : 0 < S) (hS : S < 256) : ∃ c0 cs, cnd S = c0 :: cs := by
  obtain ⟨-, hmap, hhd, -⟩ := hf_chk S hS h0
  cases hs : sbl S with
  | nil => rw [hs] at hhd; exact absurd hhd (by decide)
  | cons s t =>
    rw [hs] at hmap
    exact ⟨_, _, hmap.symm⟩
/-- the model's part is one -/
theorem bM_some (h0 : 0 < S) (hS : S < 256) : ∃ q, bM wt n S = some q ∧ q < 256 ∧ q &&& S = q := by
  have key : ∀ (l : List Nat) (b : Nat), (∀ p ∈ l, p < 256 ∧ p &&& S = p) → b < 256 ∧ b &&& S = b → ∃ q, l.foldl (hsM (fM wt n S)) (some b) = some q ∧ q < 256 ∧ q &&& S = q := by
    intro l
    induction l with
    | nil => exact fun b _ hb => ⟨b, rfl, hb⟩
    | cons p l ih =>
      intro b hl hb
      rw [List.foldl_cons]
      have h2 : ∀ q ∈ l, q < 256 ∧ q &&& S = q := fun q hq => hl q (List.mem_cons_of_mem _ hq)
      cases hge : fx_cb .ge (fM wt n S p) (fM wt n S b)
      · rw [show hsM (fM wt n S) (some b) p = some p from by simp only [hsM, hge]]
        exact ih p h2 (hl p List.mem_cons_self)
      · rw [show hsM (fM wt n S) (some b) p = some b from by simp only [hsM, hge]]
        exact ih b h2 hb
  obtain ⟨c0, cs, e⟩ := cnd_ne h0 hS
  have hm : ∀ p ∈ c0 :: cs, p < 256 ∧ p &&& S = p := fun p hp => by
    rw [← e] at hp
    have := cnd_mem hp
    exact ⟨by omega, this.1⟩
  unfold bM
  rw [e, List.foldl_cons]
  exact key cs c0 (fun p hp => hm p (List.mem_cons_of_mem _ hp)) (hm c0 List.mem_cons_self)
theorem hv_eq (hc : ∀ i, i < n → wc i = nI (wf i)) (hm : ∀ i, i < n → wt i = nI (wf i)) (h9 : ∀ i, i < n → 1 ≤ wf i ∧ wf i ≤ 99) (h8 : n ≤ 8) (h0 : 0 < S) (hS : S < 2 ^ n) : ∃ q, bM wt n S = some q ∧ bC wc n S = q ∧ fC wc n S q = fM wt n S q := by
  have h99 : ∀ i, i < n → wf i ≤ 99 := fun i hi => (h9 i hi).2
  have hp2 : ∀ n, n ≤ 8 → 2 ^ n ≤ 256 := by decide
  have hS2 : S < 256 := Nat.lt_of_lt_of_le hS (hp2 n h8)
  have pos : ∀ q, 0 < q → q < 2 ^ n → 1 ≤ wS wf n q := fun q q1 q2 => by
    obtain ⟨k, hk, hb⟩ := List.any_eq_true.mp (wS_any n (by omega) q q2 q1)
    exact wS_pos n k (List.mem_range.mp hk) hb (h9 k (List.mem_range.mp hk)).1
  obtain ⟨c0, cs, e⟩ := cnd_ne h0 hS2
  have hmem : ∀ p ∈ c0 :: cs, p &&& S = p ∧ p ≤ S ∧ 1 ≤ p := fun p hp => cnd_mem (by rw [e]; exact hp)
  obtain ⟨q1, q2, q3⟩ := hmem c0 List.mem_cons_self
  have hSS : apn wf n S S = wS wf n S := by unfold apn; omega
  have hx := wS_xor (wf := wf) q1 n
  have first : hsC (fC wc n S) (S, wI wc n S) c0 = (c0, nI (apn wf n S c0)) := by
    have l1 := wS_le (s := S) n h99
    have l2 := wS_le (s := c0) n h99
    unfold hsC
    rw [fC_eq hc h99 h8 c0, wI_eq n hc]
    by_cases h : c0 = S
    · subst h
      rw [hSS]
      cases fx_cb .ge (nI (wS wf n c0)) (c0, nI (wS wf n c0)).2 <;> rfl
    · have hne : 0 < S ^^^ c0 := by
        rcases Nat.eq_zero_or_pos (S ^^^ c0) with z | z
        · have z2 : (S ^^^ c0) ^^^ c0 = 0 ^^^ c0 := by rw [z]
          rw [Nat.xor_assoc, Nat.xor_self, Nat.xor_zero, Nat.zero_xor] at z2
          exact absurd z2.symm h
        · exact z
      have p1 := pos c0 (by omega) (by omega)
      have p2 := pos (S ^^^ c0) hne (Nat.xor_lt_two_pow hS (by omega))
      rw [show fx_cb .ge (nI (apn wf n S c0)) (S, nI (wS wf n S)).2 = false from cb_geF (a := apn wf n S c0) (b := wS wf n S) (by unfold apn; omega) (by omega) (by unfold apn; omega)]
  obtain ⟨q, k1, k2, k3⟩ := hv_fold (S := S) hc hm h99 h8 cs c0 (fun p hp => (hmem p (List.mem_cons_of_mem _ hp)).1) q1
  refine ⟨q, ?_, ?_, by rw [fC_eq hc h99 h8, fM_eq hm h99 h8 k1]⟩
  · unfold bM
    rw [e, List.foldl_cons]
    exact k3
  · unfold bC
    rw [e, List.foldl_cons, first, k2]
end HVE
