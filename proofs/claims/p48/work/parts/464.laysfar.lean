/-! ===== fx: laysFar: how far each CELL is ===== -/
/-- each CELL that is reached is at the end, or has one beside it by a WAY that is a STEP nearer -/
def fm_bfs (p : Nat → Nat → Int32) : Prop := ∀ c, c < 10 → p 9 c = 1000000 ∨ ∃ v, v ≤ 10 ∧ p 9 c = nI v ∧ (v = 0 ∨ ∃ c1, c1 < 10 ∧ p 9 c1 = nI (v - 1) ∧ fm_b (p 1 (10 + 6 * c1)) (nI c) = 1)
def fm_ok9 (a p : Nat → Nat → Int32) : Prop := (∀ t, t ≠ 9 → p t = a t) ∧ fm_bfs p
theorem fm_u9 {p : Nat → Nat → Int32} {i : Nat} {v : Int32} : fm_u p 9 i v 9 = upd (p 9) i v := if_pos rfl
theorem fm_u9' {p : Nat → Nat → Int32} {i t : Nat} {v : Int32} (h : t ≠ 9) : fm_u p 9 i v t = p t := if_neg h
theorem fm_far {v : Nat} (h : v ≤ 10) : nI v ≠ 1000000 := fun z => by
  have := congrArg Int32.toInt z
  rw [nI_toInt (by omega), show (1000000 : Int32).toInt = 1000000 from rfl] at this
  omega
theorem fm_bfs_set {p : Nat → Nat → Int32} {n A B : Nat} (h : fm_bfs p) (hn : n < 10) (hA : A < 10) (hB : B < 10) (h1 : p 9 A = nI n) (h2 : p 9 B = 1000000) (h3 : fm_b (p 1 (10 + 6 * A)) (nI B) = 1) : fm_bfs (fm_u p 9 B (nI (n + 1))) := by
  have hne : A ≠ B := fun z => by subst z; rw [h1] at h2; exact fm_far (by omega) h2
  intro c hc
  rw [fm_u9, fm_u9' (show (1 : Nat) ≠ 9 by decide)]
  by_cases e : c = B
  · subst e
    rw [pk_us]
    exact Or.inr ⟨n + 1, by omega, rfl, Or.inr ⟨A, hA, by rw [pk_un hne]; exact h1, h3⟩⟩
  · rw [pk_un e]
    rcases h c hc with g | ⟨v, g1, g2, g3⟩
    · exact Or.inl g
    · refine Or.inr ⟨v, g1, g2, ?_⟩
      rcases g3 with g3 | ⟨c1, k1, k2, k3⟩
      · exact Or.inl g3
      · refine Or.inr ⟨c1, k1, ?_, k3⟩
        have hne1 : c1 ≠ B := fun z => by subst z; rw [k2] at h2; exact fm_far (by omega) h2
        rw [pk_un hne1]
        exact k2
section FL
variable {g : Nat → Int32} {tp bt : Int64} {a : Nat → Nat → Int32} {b : Nat → Nat → Int64} {W X NC : Nat} {to bby : Int32}
def fm_F9 (g : Nat → Int32) (tp bt : Int64) (a : Nat → Nat → Int32) (b : Nat → Nat → Int64) (X : Nat) (R : Option Value × fx_M) : Prop := ∃ p, fm_ok9 a p ∧ R = (some (.int (p 9 X)), fm g tp bt p b)
theorem fm_lf_b (hW : W < 8) (hX : a 1 (279 + 5 * W) = nI X) (hNC : a 1 0 = nI NC) (hNC10 : NC ≤ 10) {n A : Nat} (hn : n < 10) (hA : A < NC) {F : Option Value × fx_M → Prop}
    (kk : ∀ p, fm_ok9 a p → fe_R 4 gk_m305 165 [(6, .int (nI NC)), (5, .int (nI A)), (4, .int (nI n)), (0, .ref 0), (1, .int (nI W)), (2, .int to), (3, .int bby)] [] (fm g tp bt p b) F) : ∀ (r B : Nat), B + r = NC → ∀ p, fm_ok9 a p → fe_R 4 gk_m305 81 [(6, .int (nI B)), (5, .int (nI A)), (4, .int (nI n)), (0, .ref 0), (1, .int (nI W)), (2, .int to), (3, .int bby)] [] (fm g tp bt p b) F := by
  intro r
  induction r with
  | zero =>
    intro B hB p hp
    obtain rfl : B = NC := by omega
    have hc : p 1 0 = nI B := by rw [hp.1 1 (by decide)]; exact hNC
    refine fe_s 4 (pc' := 88) (lc' := [(6, .int (nI B)), (5, .int (nI A)), (4, .int (nI n)), (0, .ref 0), (1, .int (nI W)), (2, .int to), (3, .int bby)]) (stk' := [.int 0, .ref 1, .int (nI B)]) (mem' := fm g tp bt p b) (fun _ _ _ => rfl) ?_
    refine fe_ldI (by rfl) (by rfl) (fx_inN (i := 0) (by omega) (by omega)) ?_
    rw [show p 1 (Int32.toNatClampNeg 0) = nI B from hc]
    refine fe_s 1 (pc' := cond (fx_cb .ge (nI B) (nI B)) 165 92) (lc' := [(6, .int (nI B)), (5, .int (nI A)), (4, .int (nI n)), (0, .ref 0), (1, .int (nI W)), (2, .int to), (3, .int bby)]) (stk' := []) (mem' := fm g tp bt p b) (fun _ _ _ => rfl) ?_
    rw [show fx_cb .ge (nI B) (nI B) = true from decide_eq_true (nI_le (Nat.le_refl _) (by omega))]
    dsimp only [cond]
    exact kk p hp
  | succ r ih =>
    intro B hB p hp
    have hc : p 1 0 = nI NC := by rw [hp.1 1 (by decide)]; exact hNC
    have hXp : p 1 (279 + 5 * W) = nI X := by rw [hp.1 1 (by decide)]; exact hX
    have step : ∀ q, fm_ok9 a q → fe_R 4 gk_m305 159 [(6, .int (nI B)), (5, .int (nI A)), (4, .int (nI n)), (0, .ref 0), (1, .int (nI W)), (2, .int to), (3, .int bby)] [] (fm g tp bt q b) F := by
      intro q hq
      refine fe_s 2 (pc' := 81) (lc' := [(6, .int ((nI B) + 1)), (5, .int (nI A)), (4, .int (nI n)), (0, .ref 0), (1, .int (nI W)), (2, .int to), (3, .int bby)]) (stk' := []) (mem' := fm g tp bt q b) (fun _ _ _ => rfl) ?_
      rw [nI_1]
      exact ih (B + 1) (by omega) q hq
    refine fe_s 4 (pc' := 88) (lc' := [(6, .int (nI B)), (5, .int (nI A)), (4, .int (nI n)), (0, .ref 0), (1, .int (nI W)), (2, .int to), (3, .int bby)]) (stk' := [.int 0, .ref 1, .int (nI B)]) (mem' := fm g tp bt p b) (fun _ _ _ => rfl) ?_
    refine fe_ldI (by rfl) (by rfl) (fx_inN (i := 0) (by omega) (by omega)) ?_
    rw [show p 1 (Int32.toNatClampNeg 0) = nI NC from hc]
    refine fe_s 1 (pc' := cond (fx_cb .ge (nI B) (nI NC)) 165 92) (lc' := [(6, .int (nI B)), (5, .int (nI A)), (4, .int (nI n)), (0, .ref 0), (1, .int (nI W)), (2, .int to), (3, .int bby)]) (stk' := []) (mem' := fm g tp bt p b) (fun _ _ _ => rfl) ?_
    rw [show fx_cb .ge (nI B) (nI NC) = false from decide_eq_false (nI_ge (by omega) (by omega))]
    dsimp only [cond]
    refine fe_s 3 (pc' := 98) (lc' := [(6, .int (nI B)), (5, .int (nI A)), (4, .int (nI n)), (0, .ref 0), (1, .int (nI W)), (2, .int to), (3, .int bby)]) (stk' := [.int (nI A), .ref 9]) (mem' := fm g tp bt p b) (fun _ _ _ => rfl) ?_
    refine fe_ldI (by rfl) (by rfl) (fx_inN (by omega) (by omega)) ?_
    rw [nI_clamp (by omega)]
    refine fe_s 1 (pc' := 101) (lc' := [(6, .int (nI B)), (5, .int (nI A)), (4, .int (nI n)), (0, .ref 0), (1, .int (nI W)), (2, .int to), (3, .int bby)]) (stk' := [.int (nI n), .int (p 9 A)]) (mem' := fm g tp bt p b) (fun _ _ _ => rfl) ?_
    by_cases h1 : p 9 A = nI n
    · refine fe_s 1 (pc' := cond (fx_cb .ne (p 9 A) (nI n)) 159 104) (lc' := [(6, .int (nI B)), (5, .int (nI A)), (4, .int (nI n)), (0, .ref 0), (1, .int (nI W)), (2, .int to), (3, .int bby)]) (stk' := []) (mem' := fm g tp bt p b) (fun _ _ _ => rfl) ?_
      rw [show fx_cb .ne (p 9 A) (nI n) = false from by rw [show fx_cb .ne (p 9 A) (nI n) = !decide (p 9 A = nI n) from rfl, decide_eq_true h1]; rfl]
      dsimp only [cond]
      refine fe_s 3 (pc' := 110) (lc' := [(6, .int (nI B)), (5, .int (nI A)), (4, .int (nI n)), (0, .ref 0), (1, .int (nI W)), (2, .int to), (3, .int bby)]) (stk' := [.int (nI B), .ref 9]) (mem' := fm g tp bt p b) (fun _ _ _ => rfl) ?_
      refine fe_ldI (by rfl) (by rfl) (fx_inN (by omega) (by omega)) ?_
      rw [nI_clamp (by omega)]
      refine fe_s 1 (pc' := 114) (lc' := [(6, .int (nI B)), (5, .int (nI A)), (4, .int (nI n)), (0, .ref 0), (1, .int (nI W)), (2, .int to), (3, .int bby)]) (stk' := [.int 1000000, .int (p 9 B)]) (mem' := fm g tp bt p b) (fun _ _ _ => rfl) ?_
      by_cases h2 : p 9 B = 1000000
      · refine fe_s 1 (pc' := cond (fx_cb .ne (p 9 B) 1000000) 159 117) (lc' := [(6, .int (nI B)), (5, .int (nI A)), (4, .int (nI n)), (0, .ref 0), (1, .int (nI W)), (2, .int to), (3, .int bby)]) (stk' := []) (mem' := fm g tp bt p b) (fun _ _ _ => rfl) ?_
        rw [show fx_cb .ne (p 9 B) 1000000 = false from by rw [show fx_cb .ne (p 9 B) 1000000 = !decide (p 9 B = 1000000) from rfl, decide_eq_true h2]; rfl]
        dsimp only [cond]
        refine fe_s 3 (pc' := 122) (lc' := [(6, .int (nI B)), (5, .int (nI A)), (4, .int (nI n)), (0, .ref 0), (1, .int (nI W)), (2, .int to), (3, .int bby)]) (stk' := [.int (nI B), .int (nI A), .ref 0]) (mem' := fm g tp bt p b) (fun _ _ _ => rfl) ?_
        refine fe_ivV (fr_isWay (show A < 10 by omega)) (by omega) (by rfl) (by rfl) (by rfl) (by rfl) (by rfl) (by rfl) ?_
        rcases fm_b_01 (p 1 (10 + 6 * A)) (nI B) with h3 | h3
        · rw [h3]
          refine fe_s 1 (pc' := cond (fx_cb .eq 0 0) 159 128) (lc' := [(6, .int (nI B)), (5, .int (nI A)), (4, .int (nI n)), (0, .ref 0), (1, .int (nI W)), (2, .int to), (3, .int bby)]) (stk' := []) (mem' := fm g tp bt p b) (fun _ _ _ => rfl) ?_
          rw [show fx_cb .eq 0 0 = true from rfl]
          dsimp only [cond]
          exact step p hp
        · rw [h3]
          refine fe_s 1 (pc' := cond (fx_cb .eq 1 0) 159 128) (lc' := [(6, .int (nI B)), (5, .int (nI A)), (4, .int (nI n)), (0, .ref 0), (1, .int (nI W)), (2, .int to), (3, .int bby)]) (stk' := []) (mem' := fm g tp bt p b) (fun _ _ _ => rfl) ?_
          rw [show fx_cb .eq 1 0 = false from rfl]
          dsimp only [cond]
          have store : fe_R 4 gk_m305 148 [(6, .int (nI B)), (5, .int (nI A)), (4, .int (nI n)), (0, .ref 0), (1, .int (nI W)), (2, .int to), (3, .int bby)] [] (fm g tp bt p b) F := by
            refine fe_s 6 (pc' := 158) (lc' := [(6, .int (nI B)), (5, .int (nI A)), (4, .int (nI n)), (0, .ref 0), (1, .int (nI W)), (2, .int to), (3, .int bby)]) (stk' := [.int ((nI n) + 1), .int (nI B), .ref 9]) (mem' := fm g tp bt p b) (fun _ _ _ => rfl) ?_
            refine fe_stI (mem' := fm g tp bt (fm_u p 9 (nI B).toNatClampNeg ((nI n) + 1)) b) (by rfl) (by rfl) (fx_inN (by omega) (by omega)) (by rfl) ?_
            rw [nI_clamp (by omega), nI_1]
            refine step _ ⟨fun t ht => by rw [fm_u9' ht]; exact hp.1 t ht, fm_bfs_set hp.2 hn (by omega) (by omega) h1 h2 h3⟩
          refine fe_s 3 (pc' := 132) (lc' := [(6, .int (nI B)), (5, .int (nI A)), (4, .int (nI n)), (0, .ref 0), (1, .int (nI W)), (2, .int to), (3, .int bby)]) (stk' := [.int (nI B), .int bby, .ref 0]) (mem' := fm g tp bt p b) (fun _ _ _ => rfl) ?_
          refine fe_ivV fr_isIn (by omega) (by rfl) (by rfl) (by rfl) (by rfl) (by rfl) (by rfl) ?_
          rcases fm_b_01 bby (nI B) with h4 | h4
          · rw [h4]
            refine fe_s 1 (pc' := cond (fx_cb .ne 0 0) 148 138) (lc' := [(6, .int (nI B)), (5, .int (nI A)), (4, .int (nI n)), (0, .ref 0), (1, .int (nI W)), (2, .int to), (3, .int bby)]) (stk' := []) (mem' := fm g tp bt p b) (fun _ _ _ => rfl) ?_
            rw [show fx_cb .ne 0 0 = false from rfl]
            dsimp only [cond]
            refine fe_s 3 (pc' := 142) (lc' := [(6, .int (nI B)), (5, .int (nI A)), (4, .int (nI n)), (0, .ref 0), (1, .int (nI W)), (2, .int to), (3, .int bby)]) (stk' := [.int (nI W), .ref 0, .int (nI B)]) (mem' := fm g tp bt p b) (fun _ _ _ => rfl) ?_
            refine fe_ivV (fr_whereOf hW) (by omega) (by rfl) (by rfl) (by rfl) (by rfl) (by rfl) (by rfl) ?_
            rw [hXp]
            by_cases h5 : nI B = nI X
            · refine fe_s 1 (pc' := cond (fx_cb .ne (nI B) (nI X)) 159 148) (lc' := [(6, .int (nI B)), (5, .int (nI A)), (4, .int (nI n)), (0, .ref 0), (1, .int (nI W)), (2, .int to), (3, .int bby)]) (stk' := []) (mem' := fm g tp bt p b) (fun _ _ _ => rfl) ?_
              rw [show fx_cb .ne (nI B) (nI X) = false from by rw [show fx_cb .ne (nI B) (nI X) = !decide (nI B = nI X) from rfl, decide_eq_true h5]; rfl]
              dsimp only [cond]
              exact store
            · refine fe_s 1 (pc' := cond (fx_cb .ne (nI B) (nI X)) 159 148) (lc' := [(6, .int (nI B)), (5, .int (nI A)), (4, .int (nI n)), (0, .ref 0), (1, .int (nI W)), (2, .int to), (3, .int bby)]) (stk' := []) (mem' := fm g tp bt p b) (fun _ _ _ => rfl) ?_
              rw [show fx_cb .ne (nI B) (nI X) = true from by rw [show fx_cb .ne (nI B) (nI X) = !decide (nI B = nI X) from rfl, decide_eq_false h5]; rfl]
              dsimp only [cond]
              exact step p hp
          · rw [h4]
            refine fe_s 1 (pc' := cond (fx_cb .ne 1 0) 148 138) (lc' := [(6, .int (nI B)), (5, .int (nI A)), (4, .int (nI n)), (0, .ref 0), (1, .int (nI W)), (2, .int to), (3, .int bby)]) (stk' := []) (mem' := fm g tp bt p b) (fun _ _ _ => rfl) ?_
            rw [show fx_cb .ne 1 0 = true from rfl]
            dsimp only [cond]
            exact store
      · refine fe_s 1 (pc' := cond (fx_cb .ne (p 9 B) 1000000) 159 117) (lc' := [(6, .int (nI B)), (5, .int (nI A)), (4, .int (nI n)), (0, .ref 0), (1, .int (nI W)), (2, .int to), (3, .int bby)]) (stk' := []) (mem' := fm g tp bt p b) (fun _ _ _ => rfl) ?_
        rw [show fx_cb .ne (p 9 B) 1000000 = true from by rw [show fx_cb .ne (p 9 B) 1000000 = !decide (p 9 B = 1000000) from rfl, decide_eq_false h2]; rfl]
        dsimp only [cond]
        exact step p hp
    · refine fe_s 1 (pc' := cond (fx_cb .ne (p 9 A) (nI n)) 159 104) (lc' := [(6, .int (nI B)), (5, .int (nI A)), (4, .int (nI n)), (0, .ref 0), (1, .int (nI W)), (2, .int to), (3, .int bby)]) (stk' := []) (mem' := fm g tp bt p b) (fun _ _ _ => rfl) ?_
      rw [show fx_cb .ne (p 9 A) (nI n) = true from by rw [show fx_cb .ne (p 9 A) (nI n) = !decide (p 9 A = nI n) from rfl, decide_eq_false h1]; rfl]
      dsimp only [cond]
      exact step p hp
theorem fm_lf_a (hW : W < 8) (hX : a 1 (279 + 5 * W) = nI X) (hNC : a 1 0 = nI NC) (hNC10 : NC ≤ 10) {n : Nat} (hn : n < 10) {F : Option Value × fx_M → Prop}
    (kk : ∀ p, fm_ok9 a p → fe_R 4 gk_m305 171 [(4, .int (nI n)), (0, .ref 0), (1, .int (nI W)), (2, .int to), (3, .int bby)] [] (fm g tp bt p b) F) : ∀ (r A : Nat), A + r = NC → ∀ p, fm_ok9 a p → fe_R 4 gk_m305 67 [(5, .int (nI A)), (4, .int (nI n)), (0, .ref 0), (1, .int (nI W)), (2, .int to), (3, .int bby)] [] (fm g tp bt p b) F := by
  intro r
  induction r with
  | zero =>
    intro A hA p hp
    obtain rfl : A = NC := by omega
    have hc : p 1 0 = nI A := by rw [hp.1 1 (by decide)]; exact hNC
    refine fe_s 4 (pc' := 74) (lc' := [(5, .int (nI A)), (4, .int (nI n)), (0, .ref 0), (1, .int (nI W)), (2, .int to), (3, .int bby)]) (stk' := [.int 0, .ref 1, .int (nI A)]) (mem' := fm g tp bt p b) (fun _ _ _ => rfl) ?_
    refine fe_ldI (by rfl) (by rfl) (fx_inN (i := 0) (by omega) (by omega)) ?_
    rw [show p 1 (Int32.toNatClampNeg 0) = nI A from hc]
    refine fe_s 1 (pc' := cond (fx_cb .ge (nI A) (nI A)) 171 78) (lc' := [(5, .int (nI A)), (4, .int (nI n)), (0, .ref 0), (1, .int (nI W)), (2, .int to), (3, .int bby)]) (stk' := []) (mem' := fm g tp bt p b) (fun _ _ _ => rfl) ?_
    rw [show fx_cb .ge (nI A) (nI A) = true from decide_eq_true (nI_le (Nat.le_refl _) (by omega))]
    dsimp only [cond]
    refine fe_w (lc' := [(4, .int (nI n)), (0, .ref 0), (1, .int (nI W)), (2, .int to), (3, .int bby)]) ⟨rfl, rfl, rfl, rfl, rfl, trivial⟩ (by show List.Nodup [4, 0, 1, 2, 3]; decide) (by show List.Nodup [5, 4, 0, 1, 2, 3]; decide) ?_
    exact kk p hp
  | succ r ih =>
    intro A hA p hp
    have hc : p 1 0 = nI NC := by rw [hp.1 1 (by decide)]; exact hNC
    refine fe_s 4 (pc' := 74) (lc' := [(5, .int (nI A)), (4, .int (nI n)), (0, .ref 0), (1, .int (nI W)), (2, .int to), (3, .int bby)]) (stk' := [.int 0, .ref 1, .int (nI A)]) (mem' := fm g tp bt p b) (fun _ _ _ => rfl) ?_
    refine fe_ldI (by rfl) (by rfl) (fx_inN (i := 0) (by omega) (by omega)) ?_
    rw [show p 1 (Int32.toNatClampNeg 0) = nI NC from hc]
    refine fe_s 1 (pc' := cond (fx_cb .ge (nI A) (nI NC)) 171 78) (lc' := [(5, .int (nI A)), (4, .int (nI n)), (0, .ref 0), (1, .int (nI W)), (2, .int to), (3, .int bby)]) (stk' := []) (mem' := fm g tp bt p b) (fun _ _ _ => rfl) ?_
    rw [show fx_cb .ge (nI A) (nI NC) = false from decide_eq_false (nI_ge (by omega) (by omega))]
    dsimp only [cond]
    refine fe_s 2 (pc' := 81) (lc' := [(6, .int 0), (5, .int (nI A)), (4, .int (nI n)), (0, .ref 0), (1, .int (nI W)), (2, .int to), (3, .int bby)]) (stk' := []) (mem' := fm g tp bt p b) (fun _ _ _ => rfl) ?_
    refine fm_lf_b hW hX hNC hNC10 hn (by omega) (fun q hq => ?_) NC 0 (by omega) p hp
    refine fe_s 2 (pc' := 67) (lc' := [(5, .int ((nI A) + 1)), (6, .int (nI NC)), (4, .int (nI n)), (0, .ref 0), (1, .int (nI W)), (2, .int to), (3, .int bby)]) (stk' := []) (mem' := fm g tp bt q b) (fun _ _ _ => rfl) ?_
    refine fe_w (lc' := [(5, .int ((nI A) + 1)), (4, .int (nI n)), (0, .ref 0), (1, .int (nI W)), (2, .int to), (3, .int bby)]) ⟨rfl, rfl, rfl, rfl, rfl, rfl, trivial⟩ (by show List.Nodup [5, 4, 0, 1, 2, 3]; decide) (by show List.Nodup [5, 6, 4, 0, 1, 2, 3]; decide) ?_
    rw [nI_1]
    exact ih (A + 1) (by omega) q hq
theorem fm_lf_n (hW : W < 8) (hX : a 1 (279 + 5 * W) = nI X) (hX10 : X < 10) (hNC : a 1 0 = nI NC) (hNC10 : NC ≤ 10) : ∀ (r n : Nat), n + r = 10 → ∀ p, fm_ok9 a p → fe_R 4 gk_m305 57 [(4, .int (nI n)), (0, .ref 0), (1, .int (nI W)), (2, .int to), (3, .int bby)] [] (fm g tp bt p b) (fm_F9 g tp bt a b X) := by
  intro r
  induction r with
  | zero =>
    intro n hn p hp
    obtain rfl : n = 10 := by omega
    have hXp : p 1 (279 + 5 * W) = nI X := by rw [hp.1 1 (by decide)]; exact hX
    refine fe_s 2 (pc' := 61) (lc' := [(4, .int (nI 10)), (0, .ref 0), (1, .int (nI W)), (2, .int to), (3, .int bby)]) (stk' := [.int 10, .int (nI 10)]) (mem' := fm g tp bt p b) (fun _ _ _ => rfl) ?_
    refine fe_s 1 (pc' := cond (fx_cb .ge (nI 10) 10) 177 64) (lc' := [(4, .int (nI 10)), (0, .ref 0), (1, .int (nI W)), (2, .int to), (3, .int bby)]) (stk' := []) (mem' := fm g tp bt p b) (fun _ _ _ => rfl) ?_
    rw [show fx_cb .ge (nI 10) 10 = true from rfl]
    dsimp only [cond]
    refine fe_s 4 (pc' := 183) (lc' := [(4, .int (nI 10)), (0, .ref 0), (1, .int (nI W)), (2, .int to), (3, .int bby)]) (stk' := [.int (nI W), .ref 0, .ref 9]) (mem' := fm g tp bt p b) (fun _ _ _ => rfl) ?_
    refine fe_ivV (fr_whereOf hW) (by omega) (by rfl) (by rfl) (by rfl) (by rfl) (by rfl) (by rfl) ?_
    rw [hXp]
    show fe_R 4 gk_m305 186 [(4, .int (nI 10)), (0, .ref 0), (1, .int (nI W)), (2, .int to), (3, .int bby)] [.int (nI X), .ref 9] (fm g tp bt p b) _
    refine fe_ldI (by rfl) (by rfl) (fx_inN (by omega) (by omega)) ?_
    rw [nI_clamp (by omega)]
    exact fe_ret (⟨p, hp, rfl⟩) (by rfl) (by rfl) (by rfl)
  | succ r ih =>
    intro n hn p hp
    refine fe_s 2 (pc' := 61) (lc' := [(4, .int (nI n)), (0, .ref 0), (1, .int (nI W)), (2, .int to), (3, .int bby)]) (stk' := [.int 10, .int (nI n)]) (mem' := fm g tp bt p b) (fun _ _ _ => rfl) ?_
    refine fe_s 1 (pc' := cond (fx_cb .ge (nI n) 10) 177 64) (lc' := [(4, .int (nI n)), (0, .ref 0), (1, .int (nI W)), (2, .int to), (3, .int bby)]) (stk' := []) (mem' := fm g tp bt p b) (fun _ _ _ => rfl) ?_
    rw [show fx_cb .ge (nI n) 10 = false from decide_eq_false (nI_ge (b := 10) (by omega) (by omega))]
    dsimp only [cond]
    refine fe_s 2 (pc' := 67) (lc' := [(5, .int 0), (4, .int (nI n)), (0, .ref 0), (1, .int (nI W)), (2, .int to), (3, .int bby)]) (stk' := []) (mem' := fm g tp bt p b) (fun _ _ _ => rfl) ?_
    refine fm_lf_a hW hX hNC hNC10 (by omega) (fun q hq => ?_) NC 0 (by omega) p hp
    refine fe_s 2 (pc' := 57) (lc' := [(4, .int ((nI n) + 1)), (0, .ref 0), (1, .int (nI W)), (2, .int to), (3, .int bby)]) (stk' := []) (mem' := fm g tp bt q b) (fun _ _ _ => rfl) ?_
    rw [nI_1]
    exact ih (n + 1) (by omega) q hq
theorem fr_laysFar (hW : W < 8) (hX : a 1 (279 + 5 * W) = nI X) (hX10 : X < 10) (hNC : a 1 0 = nI NC) (hNC10 : NC ≤ 10) : ∃ (v : Option Value) (mem' : fx_M), fm_F9 g tp bt a b X (v, mem') ∧ fr_T 5 305 [.ref 0, .int (nI W), .int to, .int bby] (fm g tp bt a b) v mem' := by
  refine fe_meth (by rfl) (by rfl) ?_
  have loop : ∀ (r c : Nat), c + r = 10 → ∀ p : Nat → Nat → Int32, (∀ t, t ≠ 9 → p t = a t) → (∀ i, i < c → p 9 i = 0 ∨ p 9 i = 1000000) → fe_R 4 gk_m305 3 [(4, .int (nI c)), (0, .ref 0), (1, .int (nI W)), (2, .int to), (3, .int bby)] [] (fm g tp bt p b) (fm_F9 g tp bt a b X) := by
    intro r
    induction r with
    | zero =>
      intro c hc p hp hi
      obtain rfl : c = 10 := by omega
      refine fe_s 2 (pc' := 7) (lc' := [(4, .int (nI 10)), (0, .ref 0), (1, .int (nI W)), (2, .int to), (3, .int bby)]) (stk' := [.int 10, .int (nI 10)]) (mem' := fm g tp bt p b) (fun _ _ _ => rfl) ?_
      refine fe_s 1 (pc' := cond (fx_cb .ge (nI 10) 10) 54 10) (lc' := [(4, .int (nI 10)), (0, .ref 0), (1, .int (nI W)), (2, .int to), (3, .int bby)]) (stk' := []) (mem' := fm g tp bt p b) (fun _ _ _ => rfl) ?_
      rw [show fx_cb .ge (nI 10) 10 = true from rfl]
      dsimp only [cond]
      refine fe_s 2 (pc' := 57) (lc' := [(4, .int 0), (0, .ref 0), (1, .int (nI W)), (2, .int to), (3, .int bby)]) (stk' := []) (mem' := fm g tp bt p b) (fun _ _ _ => rfl) ?_
      exact fm_lf_n hW hX hX10 hNC hNC10 10 0 (by omega) p ⟨hp, fun i hi2 => (hi i hi2).elim (fun z => Or.inr ⟨0, by omega, z, Or.inl rfl⟩) Or.inl⟩
    | succ r ih =>
      intro c hc p hp hi
      have hXp : p 1 (279 + 5 * W) = nI X := by rw [hp 1 (by decide)]; exact hX
      have store : ∀ v : Int32, v = 0 ∨ v = 1000000 → fe_R 4 gk_m305 47 [(4, .int (nI c)), (0, .ref 0), (1, .int (nI W)), (2, .int to), (3, .int bby)] [.int v, .int (nI c), .ref 9] (fm g tp bt p b) (fm_F9 g tp bt a b X) := by
        intro v hv
        refine fe_stI (mem' := fm g tp bt (fm_u p 9 (nI c).toNatClampNeg v) b) (by rfl) (by rfl) (fx_inN (by omega) (by omega)) (by rfl) ?_
        rw [nI_clamp (by omega)]
        refine fe_s 2 (pc' := 3) (lc' := [(4, .int ((nI c) + 1)), (0, .ref 0), (1, .int (nI W)), (2, .int to), (3, .int bby)]) (stk' := []) (mem' := fm g tp bt (fm_u p 9 c v) b) (fun _ _ _ => rfl) ?_
        rw [nI_1]
        refine ih (c + 1) (by omega) _ (fun t ht => by rw [fm_u9' ht]; exact hp t ht) (fun i hi2 => ?_)
        rw [fm_u9]
        by_cases e : i = c
        · subst e; rw [pk_us]; exact hv
        · rw [pk_un e]; exact hi i (by omega)
      refine fe_s 2 (pc' := 7) (lc' := [(4, .int (nI c)), (0, .ref 0), (1, .int (nI W)), (2, .int to), (3, .int bby)]) (stk' := [.int 10, .int (nI c)]) (mem' := fm g tp bt p b) (fun _ _ _ => rfl) ?_
      refine fe_s 1 (pc' := cond (fx_cb .ge (nI c) 10) 54 10) (lc' := [(4, .int (nI c)), (0, .ref 0), (1, .int (nI W)), (2, .int to), (3, .int bby)]) (stk' := []) (mem' := fm g tp bt p b) (fun _ _ _ => rfl) ?_
      rw [show fx_cb .ge (nI c) 10 = false from decide_eq_false (nI_ge (b := 10) (by omega) (by omega))]
      dsimp only [cond]
      refine fe_s 5 (pc' := 19) (lc' := [(4, .int (nI c)), (0, .ref 0), (1, .int (nI W)), (2, .int to), (3, .int bby)]) (stk' := [.int to, .int (nI c), .int (nI c), .ref 9]) (mem' := fm g tp bt p b) (fun _ _ _ => rfl) ?_
      by_cases h1 : nI c = to
      · refine fe_s 1 (pc' := cond (fx_cb .ne (nI c) to) 44 22) (lc' := [(4, .int (nI c)), (0, .ref 0), (1, .int (nI W)), (2, .int to), (3, .int bby)]) (stk' := [.int (nI c), .ref 9]) (mem' := fm g tp bt p b) (fun _ _ _ => rfl) ?_
        rw [show fx_cb .ne (nI c) to = false from by rw [show fx_cb .ne (nI c) to = !decide (nI c = to) from rfl, decide_eq_true h1]; rfl]
        dsimp only [cond]
        refine fe_s 3 (pc' := 25) (lc' := [(4, .int (nI c)), (0, .ref 0), (1, .int (nI W)), (2, .int to), (3, .int bby)]) (stk' := [.int to, .int bby, .ref 0, .int (nI c), .ref 9]) (mem' := fm g tp bt p b) (fun _ _ _ => rfl) ?_
        refine fe_ivV fr_isIn (by omega) (by rfl) (by rfl) (by rfl) (by rfl) (by rfl) (by rfl) ?_
        rcases fm_b_01 bby to with h2 | h2
        · rw [h2]
          refine fe_s 1 (pc' := cond (fx_cb .ne 0 0) 40 31) (lc' := [(4, .int (nI c)), (0, .ref 0), (1, .int (nI W)), (2, .int to), (3, .int bby)]) (stk' := [.int (nI c), .ref 9]) (mem' := fm g tp bt p b) (fun _ _ _ => rfl) ?_
          rw [show fx_cb .ne 0 0 = false from rfl]
          dsimp only [cond]
          refine fe_s 2 (pc' := 33) (lc' := [(4, .int (nI c)), (0, .ref 0), (1, .int (nI W)), (2, .int to), (3, .int bby)]) (stk' := [.int (nI W), .ref 0, .int (nI c), .ref 9]) (mem' := fm g tp bt p b) (fun _ _ _ => rfl) ?_
          refine fe_ivV (fr_whereOf hW) (by omega) (by rfl) (by rfl) (by rfl) (by rfl) (by rfl) (by rfl) ?_
          rw [hXp]
          refine fe_s 1 (pc' := 37) (lc' := [(4, .int (nI c)), (0, .ref 0), (1, .int (nI W)), (2, .int to), (3, .int bby)]) (stk' := [.int to, .int (nI X), .int (nI c), .ref 9]) (mem' := fm g tp bt p b) (fun _ _ _ => rfl) ?_
          by_cases h3 : nI X = to
          · refine fe_s 1 (pc' := cond (fx_cb .ne (nI X) to) 44 40) (lc' := [(4, .int (nI c)), (0, .ref 0), (1, .int (nI W)), (2, .int to), (3, .int bby)]) (stk' := [.int (nI c), .ref 9]) (mem' := fm g tp bt p b) (fun _ _ _ => rfl) ?_
            rw [show fx_cb .ne (nI X) to = false from by rw [show fx_cb .ne (nI X) to = !decide (nI X = to) from rfl, decide_eq_true h3]; rfl]
            dsimp only [cond]
            refine fe_s 2 (pc' := 47) (lc' := [(4, .int (nI c)), (0, .ref 0), (1, .int (nI W)), (2, .int to), (3, .int bby)]) (stk' := [.int 0, .int (nI c), .ref 9]) (mem' := fm g tp bt p b) (fun _ _ _ => rfl) ?_
            exact store 0 (Or.inl rfl)
          · refine fe_s 1 (pc' := cond (fx_cb .ne (nI X) to) 44 40) (lc' := [(4, .int (nI c)), (0, .ref 0), (1, .int (nI W)), (2, .int to), (3, .int bby)]) (stk' := [.int (nI c), .ref 9]) (mem' := fm g tp bt p b) (fun _ _ _ => rfl) ?_
            rw [show fx_cb .ne (nI X) to = true from by rw [show fx_cb .ne (nI X) to = !decide (nI X = to) from rfl, decide_eq_false h3]; rfl]
            dsimp only [cond]
            refine fe_s 1 (pc' := 47) (lc' := [(4, .int (nI c)), (0, .ref 0), (1, .int (nI W)), (2, .int to), (3, .int bby)]) (stk' := [.int 1000000, .int (nI c), .ref 9]) (mem' := fm g tp bt p b) (fun _ _ _ => rfl) ?_
            exact store 1000000 (Or.inr rfl)
        · rw [h2]
          refine fe_s 1 (pc' := cond (fx_cb .ne 1 0) 40 31) (lc' := [(4, .int (nI c)), (0, .ref 0), (1, .int (nI W)), (2, .int to), (3, .int bby)]) (stk' := [.int (nI c), .ref 9]) (mem' := fm g tp bt p b) (fun _ _ _ => rfl) ?_
          rw [show fx_cb .ne 1 0 = true from rfl]
          dsimp only [cond]
          refine fe_s 2 (pc' := 47) (lc' := [(4, .int (nI c)), (0, .ref 0), (1, .int (nI W)), (2, .int to), (3, .int bby)]) (stk' := [.int 0, .int (nI c), .ref 9]) (mem' := fm g tp bt p b) (fun _ _ _ => rfl) ?_
          exact store 0 (Or.inl rfl)
      · refine fe_s 1 (pc' := cond (fx_cb .ne (nI c) to) 44 22) (lc' := [(4, .int (nI c)), (0, .ref 0), (1, .int (nI W)), (2, .int to), (3, .int bby)]) (stk' := [.int (nI c), .ref 9]) (mem' := fm g tp bt p b) (fun _ _ _ => rfl) ?_
        rw [show fx_cb .ne (nI c) to = true from by rw [show fx_cb .ne (nI c) to = !decide (nI c = to) from rfl, decide_eq_false h1]; rfl]
        dsimp only [cond]
        refine fe_s 1 (pc' := 47) (lc' := [(4, .int (nI c)), (0, .ref 0), (1, .int (nI W)), (2, .int to), (3, .int bby)]) (stk' := [.int 1000000, .int (nI c), .ref 9]) (mem' := fm g tp bt p b) (fun _ _ _ => rfl) ?_
        exact store 1000000 (Or.inr rfl)
  refine fe_s 2 (pc' := 3) (lc' := [(4, .int (nI 0)), (0, .ref 0), (1, .int (nI W)), (2, .int to), (3, .int bby)]) (stk' := []) (mem' := fm g tp bt a b) (fun _ _ _ => rfl) ?_
  exact loop 10 0 (by omega) a (fun _ _ => rfl) (fun i h => absurd h (Nat.not_lt_zero i))
end FL
