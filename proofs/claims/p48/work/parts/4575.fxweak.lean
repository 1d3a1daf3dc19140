/-! ===== fx: locals that are not looked at ===== -/
def fx_sub : fx_L → fx_L → Prop
  | [], _ => True
  | q :: r, l => fx_get l q.1 = some q.2 ∧ fx_sub r l
def fx_nd (l : fx_L) : Prop := (l.map Prod.fst).Nodup
def fx_le (l l' : fx_L) : Prop := (∀ i v, fx_get l i = some v → fx_get l' i = some v) ∧ fx_nd l ∧ fx_nd l'
theorem fx_sub_ok {l' : fx_L} : ∀ {l : fx_L}, fx_sub l l' → ∀ i v, fx_get l i = some v → fx_get l' i = some v := by
  intro l
  induction l with
  | nil => intro _ i v h; cases h
  | cons q r ih =>
    intro hs i v h
    unfold fx_get at h
    cases hb : Nat.beq q.1 i with
    | true =>
      rw [hb] at h
      obtain rfl := Option.some.inj (show some q.2 = some v from h)
      rw [← Nat.eq_of_beq_eq_true hb]
      exact hs.1
    | false =>
      rw [hb] at h
      exact ih hs.2 i v h
theorem fx_get_mem {i : Nat} {v : Value} : ∀ {l : fx_L}, fx_get l i = some v → (i, v) ∈ l := by
  intro l
  induction l with
  | nil => intro h; cases h
  | cons q r ih =>
    intro h
    unfold fx_get at h
    cases hb : Nat.beq q.1 i with
    | true =>
      rw [hb] at h
      obtain rfl := Option.some.inj (show some q.2 = some v from h)
      rw [← Nat.eq_of_beq_eq_true hb]
      exact List.mem_cons_self
    | false =>
      rw [hb] at h
      exact List.mem_cons_of_mem _ (ih h)
theorem fx_get_nd {i : Nat} {v : Value} : ∀ {l : fx_L}, fx_nd l → (i, v) ∈ l → fx_get l i = some v := by
  intro l
  induction l with
  | nil => intro _ h; cases h
  | cons q r ih =>
    intro hn h
    have hn2 := List.nodup_cons.mp (show (q.1 :: r.map Prod.fst).Nodup from hn)
    unfold fx_get
    rcases List.mem_cons.mp h with rfl | h
    · rw [show Nat.beq i i = true from Nat.beq_refl i]
      rfl
    · have hne : Nat.beq q.1 i = false := by
        cases hb : Nat.beq q.1 i with
        | false => rfl
        | true =>
          exfalso
          apply hn2.1
          rw [Nat.eq_of_beq_eq_true hb]
          exact List.mem_map.mpr ⟨(i, v), h, rfl⟩
      rw [hne]
      exact ih hn2.2 h
theorem fx_nd_filter {p : Nat × Value → Bool} {l : fx_L} (h : fx_nd l) : fx_nd (l.filter p) := by
  unfold fx_nd at h ⊢
  exact (List.filter_sublist.map Prod.fst).nodup h
theorem fx_le_put {l l' : fx_L} (h : fx_le l l') (i : Nat) (v : Value) (p : Nat × Value → Bool) (hp : ∀ q, p q = true → ¬ q.1 = i) : fx_le ((i, v) :: l.filter p) ((i, v) :: l'.filter p) := by
  obtain ⟨h1, h2, h3⟩ := h
  have hnd : ∀ k : fx_L, fx_nd k → fx_nd ((i, v) :: k.filter p) := fun k hk => by
    show (i :: (k.filter p).map Prod.fst).Nodup
    refine List.nodup_cons.mpr ⟨fun hm => ?_, fx_nd_filter hk⟩
    obtain ⟨q, hq, e⟩ := List.mem_map.mp hm
    exact hp q (List.mem_filter.mp hq).2 e
  refine ⟨fun j w hj => ?_, hnd l h2, hnd l' h3⟩
  rcases List.mem_cons.mp (fx_get_mem hj) with e | hm
  · exact fx_get_nd (hnd l' h3) (by rw [e]; exact List.mem_cons_self)
  · obtain ⟨m1, m2⟩ := List.mem_filter.mp hm
    exact fx_get_nd (hnd l' h3) (List.mem_cons_of_mem _ (List.mem_filter.mpr ⟨fx_get_mem (h1 j w (fx_get_nd h2 m1)), m2⟩))
theorem fx_le_st1 {l l' : fx_L} (h : fx_le l l') (i : Nat) (v : Value) : fx_le (fx_st1 l i v) (fx_st1 l' i v) := fx_le_put h i v _ (fun q hq e => by
  rw [Bool.and_eq_true, Bool.not_eq_true', beq_eq_false_iff_ne] at hq
  exact hq.1 e)
theorem fx_le_st2 {l l' : fx_L} (h : fx_le l l') (i : Nat) (v : Value) : fx_le (fx_st2 l i v) (fx_st2 l' i v) := fx_le_put h i v _ (fun q hq e => by
  rw [Bool.and_eq_true, Bool.not_eq_true', beq_eq_false_iff_ne] at hq
  exact hq.1 e)
/-- the step of one, a step of the other -/
def fx_sw (x y : fx_R) : Prop := ∀ z, x = some z → ∃ l', y = some (z.1, l', z.2.2) ∧ fx_le z.2.1 l'
def fx_sw4 (x y : fx_R4) : Prop := ∀ z, x = some z → ∃ l', y = some (z.1, l', z.2.2.1, z.2.2.2) ∧ fx_le z.2.1 l'
section FXW
variable {l l' : fx_L} {stk : List Value} {mem : fx_M}
theorem fx_w_ld (h : fx_le l l') (pc k kd : Nat) : fx_sw (fx_f_ld pc k kd l stk) (fx_f_ld pc k kd l' stk) := by
  intro z hz
  unfold fx_f_ld at hz
  split at hz
  · next v hv =>
    obtain ⟨hk, rfl⟩ := fx_if_inv hz
    refine ⟨l', ?_, h⟩
    unfold fx_f_ld
    rw [h.1 _ _ hv]
    dsimp only
    rw [hk]
    rfl
  · cases hz
theorem fx_w_st (h : fx_le l l') (nL pc k kd : Nat) : fx_sw (fx_f_st nL pc k kd l stk) (fx_f_st nL pc k kd l' stk) := by
  intro z hz
  unfold fx_f_st at hz
  split at hz
  · next v r =>
    obtain ⟨hk, rfl⟩ := fx_if_inv hz
    refine ⟨fx_st1 l' k v, ?_, fx_le_st1 h k v⟩
    show cond _ _ _ = _
    rw [hk]
    rfl
  · cases hz
theorem fx_w_st2 (h : fx_le l l') (nL pc k : Nat) : fx_sw (fx_f_st2 nL pc k l stk) (fx_f_st2 nL pc k l' stk) := by
  intro z hz
  unfold fx_f_st2 at hz
  split at hz
  · next v r =>
    obtain ⟨hk, rfl⟩ := fx_if_inv hz
    refine ⟨fx_st2 l' k v, ?_, fx_le_st2 h k v⟩
    show cond _ _ _ = _
    rw [hk]
    rfl
  · cases hz
theorem fx_w_inc (h : fx_le l l') (nL pc i : Nat) (n : Int) : fx_sw (fx_f_inc nL pc i n l stk) (fx_f_inc nL pc i n l' stk) := by
  intro z hz
  unfold fx_f_inc at hz
  split at hz
  · next x hv =>
    obtain ⟨hk, rfl⟩ := fx_if_inv hz
    refine ⟨_, ?_, fx_le_st1 h i _⟩
    unfold fx_f_inc
    rw [h.1 _ _ hv]
    dsimp only
    rw [hk]
    rfl
  · cases hz
theorem fx_w_fx_bi (h : fx_le l l') (f : Int32 → Int32 → Int32) (pc : Nat) : fx_sw (fx_bi f pc l stk) (fx_bi f pc l' stk) := by
  intro z hz
  unfold fx_bi at hz
  split at hz
  · cases hz
    exact ⟨l', rfl, h⟩
  · cases hz
theorem fx_w_fx_bl (h : fx_le l l') (f : Int64 → Int64 → Int64) (pc : Nat) : fx_sw (fx_bl f pc l stk) (fx_bl f pc l' stk) := by
  intro z hz
  unfold fx_bl at hz
  split at hz
  · cases hz
    exact ⟨l', rfl, h⟩
  · cases hz
theorem fx_w_fx_sh (h : fx_le l l') (f : Int64 → Int32 → Int64) (pc : Nat) : fx_sw (fx_sh f pc l stk) (fx_sh f pc l' stk) := by
  intro z hz
  unfold fx_sh at hz
  split at hz
  · cases hz
    exact ⟨l', rfl, h⟩
  · cases hz
theorem fx_w_fx_ui (h : fx_le l l') (f : Int32 → Value) (pc : Nat) : fx_sw (fx_ui f pc l stk) (fx_ui f pc l' stk) := by
  intro z hz
  unfold fx_ui at hz
  split at hz
  · cases hz
    exact ⟨l', rfl, h⟩
  · cases hz
theorem fx_w_fx_ul (h : fx_le l l') (f : Int64 → Value) (pc : Nat) : fx_sw (fx_ul f pc l stk) (fx_ul f pc l' stk) := by
  intro z hz
  unfold fx_ul at hz
  split at hz
  · cases hz
    exact ⟨l', rfl, h⟩
  · cases hz
theorem fx_w_fx_lcmp (h : fx_le l l') (pc : Nat) : fx_sw (fx_lcmp pc l stk) (fx_lcmp pc l' stk) := by
  intro z hz
  unfold fx_lcmp at hz
  split at hz
  · cases hz
    exact ⟨l', rfl, h⟩
  · cases hz
theorem fx_w_fx_bz (h : fx_le l l') (f : Int32 → Int32 → Int32) (pc : Nat) : fx_sw (fx_bz f pc l stk) (fx_bz f pc l' stk) := by
  intro z hz
  unfold fx_bz at hz
  split at hz
  · split at hz
    · cases hz
    · next hne =>
      cases hz
      refine ⟨l', ?_, h⟩
      show (if _ then _ else _) = _
      rw [if_neg hne]
  · cases hz
theorem fx_w_fx_blz (h : fx_le l l') (f : Int64 → Int64 → Int64) (pc : Nat) : fx_sw (fx_blz f pc l stk) (fx_blz f pc l' stk) := by
  intro z hz
  unfold fx_blz at hz
  split at hz
  · split at hz
    · cases hz
    · next hne =>
      cases hz
      refine ⟨l', ?_, h⟩
      show (if _ then _ else _) = _
      rw [if_neg hne]
  · cases hz
theorem fx_w_fx_dup (h : fx_le l l') (pc : Nat) : fx_sw (fx_dup pc l stk) (fx_dup pc l' stk) := by
  intro z hz
  unfold fx_dup at hz
  split at hz
  · obtain ⟨hk, rfl⟩ := fx_if_inv hz
    refine ⟨l', ?_, h⟩
    show cond _ _ _ = _
    rw [hk]
    rfl
  · cases hz
theorem fx_w_fx_pop (h : fx_le l l') (pc k : Nat) : fx_sw (fx_pop pc k l stk) (fx_pop pc k l' stk) := by
  intro z hz
  unfold fx_pop at hz
  split at hz
  · obtain ⟨hk, rfl⟩ := fx_if_inv hz
    refine ⟨l', ?_, h⟩
    show cond _ _ _ = _
    rw [hk]
    rfl
  · cases hz
theorem fx_w_fx_if (h : fx_le l l') (c : ClassFile.Cond) (pc : Nat) (off : Int) : fx_sw (fx_if c pc off l stk) (fx_if c pc off l' stk) := by
  intro z hz
  unfold fx_if at hz
  split at hz
  · obtain ⟨hk, rfl⟩ := fx_if_inv hz
    refine ⟨l', ?_, h⟩
    show cond _ _ _ = _
    rw [hk]
    rfl
  · cases hz
theorem fx_w_fx_if0 (h : fx_le l l') (c : ClassFile.Cond) (pc : Nat) (off : Int) : fx_sw (fx_if0 c pc off l stk) (fx_if0 c pc off l' stk) := by
  intro z hz
  unfold fx_if0 at hz
  split at hz
  · obtain ⟨hk, rfl⟩ := fx_if_inv hz
    refine ⟨l', ?_, h⟩
    show cond _ _ _ = _
    rw [hk]
    rfl
  · cases hz
theorem fx_w_goto (h : fx_le l l') (pc : Nat) (off : Int) : fx_sw (fx_goto pc off l stk) (fx_goto pc off l' stk) := by
  intro z hz
  obtain ⟨hk, rfl⟩ := fx_if_inv hz
  refine ⟨l', ?_, h⟩
  show cond _ _ _ = _
  rw [hk]
  rfl
theorem fx_w_push (h : fx_le l l') (pc : Nat) (v : Value) : fx_sw (fx_push pc v l stk) (fx_push pc v l' stk) := by
  intro z hz
  cases hz
  exact ⟨l', rfl, h⟩
theorem fx_w_dup2 (h : fx_le l l') (pc : Nat) : fx_sw (fx_dup2 pc l stk) (fx_dup2 pc l' stk) := by
  intro z hz
  unfold fx_dup2 at hz
  split at hz
  · next a b r =>
    cases hb : (Nat.beq a.category 1 && Nat.beq b.category 1) with
    | true =>
      rw [hb] at hz
      cases hz
      refine ⟨l', ?_, h⟩
      show cond _ _ _ = _
      rw [hb]
      rfl
    | false =>
      rw [hb] at hz
      obtain ⟨hk, rfl⟩ := fx_if_inv (show cond (Nat.beq a.category 2) (some _) none = some z from hz)
      refine ⟨l', ?_, h⟩
      show cond _ _ (cond _ _ _) = _
      rw [hb, hk]
      rfl
  · cases hz
theorem fx_w_pure (h : fx_le l l') (nL pc : Nat) (ins : Instr) : fx_sw (fx_pure nL pc ins l stk) (fx_pure nL pc ins l' stk) := by
  cases ins
  all_goals first
    | exact fx_w_push h _ _
    | exact fx_w_ld h _ _ _
    | exact fx_w_st h _ _ _ _
    | exact fx_w_st2 h _ _ _
    | exact fx_w_inc h _ _ _ _
    | exact fx_w_fx_bi h _ _
    | exact fx_w_fx_bl h _ _
    | exact fx_w_fx_bz h _ _
    | exact fx_w_fx_blz h _ _
    | exact fx_w_fx_sh h _ _
    | exact fx_w_fx_ui h _ _
    | exact fx_w_fx_ul h _ _
    | exact fx_w_fx_lcmp h _
    | exact fx_w_fx_dup h _
    | exact fx_w_dup2 h _
    | exact fx_w_fx_pop h _ _
    | exact fx_w_fx_if h _ _ _
    | exact fx_w_fx_if0 h _ _ _
    | exact fx_w_goto h _ _
    | exact (fun z hz => nomatch hz)
theorem fx_w_pass {x y : fx_R4} {f : fx_L → fx_R4} (hx : f l = x) (hy : f l' = y) (h : fx_le l l') (hf : ∀ k z, f k = some z → z.2.1 = k ∧ ∀ k', f k' = some (z.1, k', z.2.2.1, z.2.2.2)) : fx_sw4 x y := by
  intro z hz
  subst hx hy
  obtain ⟨e1, e2⟩ := hf l z hz
  exact ⟨l', e2 l', by rw [e1]; exact h⟩
theorem fx_p_fx_ia (pc : Nat) (k : fx_L) (z : Nat × fx_L × List Value × fx_M) (hz : fx_ia pc k stk mem = some z) : z.2.1 = k ∧ ∀ k', fx_ia pc k' stk mem = some (z.1, k', z.2.2.1, z.2.2.2) := by
  unfold fx_ia at hz ⊢
  split at hz
  · next i j r =>
    split at hz
    · next n f hj =>
      obtain ⟨hc, rfl⟩ := fx_if_inv hz
      refine ⟨rfl, fun k' => ?_⟩
      dsimp only
      rw [hc]
      rfl
    · cases hz
  · cases hz
theorem fx_p_fx_ba (pc : Nat) (k : fx_L) (z : Nat × fx_L × List Value × fx_M) (hz : fx_ba pc k stk mem = some z) : z.2.1 = k ∧ ∀ k', fx_ba pc k' stk mem = some (z.1, k', z.2.2.1, z.2.2.2) := by
  unfold fx_ba at hz ⊢
  split at hz
  · next i j r =>
    split at hz
    · next n f hj =>
      obtain ⟨hc, rfl⟩ := fx_if_inv hz
      refine ⟨rfl, fun k' => ?_⟩
      dsimp only
      rw [hc]
      rfl
    · cases hz
  · cases hz
theorem fx_p_fx_la (pc : Nat) (k : fx_L) (z : Nat × fx_L × List Value × fx_M) (hz : fx_la pc k stk mem = some z) : z.2.1 = k ∧ ∀ k', fx_la pc k' stk mem = some (z.1, k', z.2.2.1, z.2.2.2) := by
  unfold fx_la at hz ⊢
  split at hz
  · next i j r =>
    split at hz
    · next n f hj =>
      obtain ⟨hc, rfl⟩ := fx_if_inv hz
      refine ⟨rfl, fun k' => ?_⟩
      dsimp only
      rw [hc]
      rfl
    · cases hz
  · cases hz
theorem fx_p_fx_is (pc : Nat) (k : fx_L) (z : Nat × fx_L × List Value × fx_M) (hz : fx_is pc k stk mem = some z) : z.2.1 = k ∧ ∀ k', fx_is pc k' stk mem = some (z.1, k', z.2.2.1, z.2.2.2) := by
  unfold fx_is at hz ⊢
  split at hz
  · next v i j r =>
    split at hz
    · next n f hj =>
      obtain ⟨hc, rfl⟩ := fx_if_inv hz
      refine ⟨rfl, fun k' => ?_⟩
      dsimp only
      rw [hc]
      rfl
    · cases hz
  · cases hz
theorem fx_p_fx_bs (pc : Nat) (k : fx_L) (z : Nat × fx_L × List Value × fx_M) (hz : fx_bs pc k stk mem = some z) : z.2.1 = k ∧ ∀ k', fx_bs pc k' stk mem = some (z.1, k', z.2.2.1, z.2.2.2) := by
  unfold fx_bs at hz ⊢
  split at hz
  · next v i j r =>
    split at hz
    · next n f hj =>
      obtain ⟨hc, rfl⟩ := fx_if_inv hz
      refine ⟨rfl, fun k' => ?_⟩
      dsimp only
      rw [hc]
      rfl
    · cases hz
  · cases hz
theorem fx_p_fx_ls (pc : Nat) (k : fx_L) (z : Nat × fx_L × List Value × fx_M) (hz : fx_ls pc k stk mem = some z) : z.2.1 = k ∧ ∀ k', fx_ls pc k' stk mem = some (z.1, k', z.2.2.1, z.2.2.2) := by
  unfold fx_ls at hz ⊢
  split at hz
  · next v i j r =>
    split at hz
    · next n f hj =>
      obtain ⟨hc, rfl⟩ := fx_if_inv hz
      refine ⟨rfl, fun k' => ?_⟩
      dsimp only
      rw [hc]
      rfl
    · cases hz
  · cases hz
theorem fx_p_fx_gf (pc kd ci kk : Nat) (k : fx_L) (z : Nat × fx_L × List Value × fx_M) (hz : fx_gf pc kd ci kk k stk mem = some z) : z.2.1 = k ∧ ∀ k', fx_gf pc kd ci kk k' stk mem = some (z.1, k', z.2.2.1, z.2.2.2) := by
  unfold fx_gf at hz ⊢
  split at hz
  · next j r =>
    split at hz
    · next o hj =>
      cases hc : (Nat.ble kd 2 && Nat.beq o.1 ci) with
      | false => rw [hc] at hz; cases hz
      | true =>
        rw [hc] at hz
        dsimp only [cond] at hz
        split at hz
        · next v hv =>
          cases hz
          refine ⟨rfl, fun k' => ?_⟩
          rfl
        · cases hz
    · cases hz
  · cases hz
theorem fx_p_fx_pf (fty : rk_F) (pc kd ci kk : Nat) (k : fx_L) (z : Nat × fx_L × List Value × fx_M) (hz : fx_pf fty pc kd ci kk k stk mem = some z) : z.2.1 = k ∧ ∀ k', fx_pf fty pc kd ci kk k' stk mem = some (z.1, k', z.2.2.1, z.2.2.2) := by
  unfold fx_pf at hz ⊢
  split at hz
  · next v j r =>
    split at hz
    · next o ft hj hft =>
      obtain ⟨hc, rfl⟩ := fx_if_inv hz
      refine ⟨rfl, fun k' => ?_⟩
      dsimp only
      rw [hc]
      rfl
    · cases hz
  · cases hz
theorem fx_p_fx_ct (pc : Nat) (v : Option Value) (k : fx_L) (z : Nat × fx_L × List Value × fx_M) (hz : fx_ct pc v k stk mem = some z) : z.2.1 = k ∧ ∀ k', fx_ct pc v k' stk mem = some (z.1, k', z.2.2.1, z.2.2.2) := by
  unfold fx_ct at hz ⊢
  split at hz
  · cases hz
    exact ⟨rfl, fun k' => rfl⟩
  · cases hz
theorem fx_p_fx_mx (f : Int32 → Int32 → Int32) (pc : Nat) (k : fx_L) (z : Nat × fx_L × List Value × fx_M) (hz : fx_mx f pc k stk mem = some z) : z.2.1 = k ∧ ∀ k', fx_mx f pc k' stk mem = some (z.1, k', z.2.2.1, z.2.2.2) := by
  unfold fx_mx at hz ⊢
  split at hz
  · obtain ⟨hc, rfl⟩ := fx_if_inv hz
    refine ⟨rfl, fun k' => ?_⟩
    dsimp only
    rw [hc]
    rfl
  · cases hz
theorem fx_p_fx_ab (pc : Nat) (k : fx_L) (z : Nat × fx_L × List Value × fx_M) (hz : fx_ab pc k stk mem = some z) : z.2.1 = k ∧ ∀ k', fx_ab pc k' stk mem = some (z.1, k', z.2.2.1, z.2.2.2) := by
  unfold fx_ab at hz ⊢
  split at hz
  · obtain ⟨hc, rfl⟩ := fx_if_inv hz
    refine ⟨rfl, fun k' => ?_⟩
    dsimp only
    rw [hc]
    rfl
  · cases hz
theorem fx_p_fx_tb (pc : Nat) (d lo hi : Int) (offs : List Int) (k : fx_L) (z : Nat × fx_L × List Value × fx_M) (hz : fx_tb pc d lo hi offs k stk mem = some z) : z.2.1 = k ∧ ∀ k', fx_tb pc d lo hi offs k' stk mem = some (z.1, k', z.2.2.1, z.2.2.2) := by
  unfold fx_tb at hz ⊢
  split at hz
  · obtain ⟨hc, rfl⟩ := fx_if_inv hz
    refine ⟨rfl, fun k' => ?_⟩
    dsimp only
    rw [hc]
    rfl
  · cases hz
theorem fx_p_fx_lk (pc : Nat) (d : Int) (ps : List (Int × Int)) (k : fx_L) (z : Nat × fx_L × List Value × fx_M) (hz : fx_lk pc d ps k stk mem = some z) : z.2.1 = k ∧ ∀ k', fx_lk pc d ps k' stk mem = some (z.1, k', z.2.2.1, z.2.2.2) := by
  unfold fx_lk at hz ⊢
  split at hz
  · obtain ⟨hc, rfl⟩ := fx_if_inv hz
    refine ⟨rfl, fun k' => ?_⟩
    dsimp only
    rw [hc]
    rfl
  · cases hz
theorem fx_p_st (kd f pc : Nat) (k : fx_L) (z : Nat × fx_L × List Value × fx_M) (hz : fx_st kd f pc k stk mem = some z) : z.2.1 = k ∧ ∀ k', fx_st kd f pc k' stk mem = some (z.1, k', z.2.2.1, z.2.2.2) := by
  have e : fx_st kd f pc = fx_mx (fun x y => if x < y then y else x) pc ∨ fx_st kd f pc = fx_mx (fun x y => if y < x then y else x) pc ∨ fx_st kd f pc = fx_ab pc ∨ fx_st kd f pc = fx_none := by
    unfold fx_st
    cases Nat.beq kd 14 with
    | true => exact Or.inl rfl
    | false =>
      cases Nat.beq kd 15 with
      | true => exact Or.inr (Or.inl rfl)
      | false =>
        cases Nat.beq kd 17 with
        | true => exact Or.inr (Or.inr (Or.inl rfl))
        | false => exact Or.inr (Or.inr (Or.inr rfl))
  rcases e with e | e | e | e <;> rw [e] at hz ⊢
  · exact fx_p_fx_mx _ pc k z hz
  · exact fx_p_fx_mx _ pc k z hz
  · exact fx_p_fx_ab pc k z hz
  · exact fx_nos (show (none : fx_R4) = some z from hz)
theorem fx_w_pl (h : fx_le l l') (nL pc : Nat) (ins : Instr) : fx_sw4 (fx_pl nL pc ins l stk mem) (fx_pl nL pc ins l' stk mem) := by
  intro z hz
  unfold fx_pl at hz
  split at hz
  · next z9 hz9 =>
    cases hz
    obtain ⟨k', e1, e2⟩ := fx_w_pure h nL pc ins z9 hz9
    refine ⟨k', ?_, e2⟩
    unfold fx_pl
    rw [e1]
  · cases hz
theorem fx_w_of {f : fx_L → List Value → fx_M → fx_R4} (h : fx_le l l') (hf : ∀ k z, f k stk mem = some z → z.2.1 = k ∧ ∀ k', f k' stk mem = some (z.1, k', z.2.2.1, z.2.2.2)) : fx_sw4 (f l stk mem) (f l' stk mem) := fx_w_pass (f := fun k => f k stk mem) rfl rfl h hf
theorem fx_w_none : fx_sw4 (fx_none l stk mem) (fx_none l' stk mem) := fun _ hz => nomatch hz
def fx_isp (ins : Instr) : Bool := match ins with
  | .getfield _ => true
  | .putfield _ => true
  | .iaload => true
  | .baload => true
  | .laload => true
  | .iastore => true
  | .bastore => true
  | .lastore => true
  | .ldc _ => true
  | .ldc_w _ => true
  | .ldc2_w _ => true
  | .tableswitch _ _ _ _ => true
  | .lookupswitch _ _ => true
  | .invokestatic _ => true
  | _ => false
theorem fx_mem_pl {fty : rk_F} {M : rk_M2} {pc : Nat} {ins : Instr} (h : fx_isp ins = false) : fx_mem fty M pc ins = fx_pl M.2.1 pc ins := by
  cases ins <;> first
    | rfl
    | cases h
theorem fx_w_mem (h : fx_le l l') (fty : rk_F) (M : rk_M2) (pc : Nat) (ins : Instr) : fx_sw4 (fx_mem fty M pc ins l stk mem) (fx_mem fty M pc ins l' stk mem) := by
  cases hb : fx_isp ins with
  | false =>
    rw [fx_mem_pl hb]
    exact fx_w_pl h M.2.1 pc ins
  | true =>
    cases ins
    case getfield idx =>
      show fx_sw4 ((match rk_lk M.2.2.1 idx with
        | some q => fx_gf (pc + 3) q.1 q.2.1 q.2.2
        | none => fx_none) l stk mem) ((match rk_lk M.2.2.1 idx with
        | some q => fx_gf (pc + 3) q.1 q.2.1 q.2.2
        | none => fx_none) l' stk mem)
      cases rk_lk M.2.2.1 idx with
      | none => exact fx_w_none
      | some q => exact fx_w_of h (fx_p_fx_gf _ _ _ _)
    case putfield idx =>
      show fx_sw4 ((match rk_lk M.2.2.1 idx with
        | some q => fx_pf fty (pc + 3) q.1 q.2.1 q.2.2
        | none => fx_none) l stk mem) ((match rk_lk M.2.2.1 idx with
        | some q => fx_pf fty (pc + 3) q.1 q.2.1 q.2.2
        | none => fx_none) l' stk mem)
      cases rk_lk M.2.2.1 idx with
      | none => exact fx_w_none
      | some q => exact fx_w_of h (fx_p_fx_pf _ _ _ _ _)
    case invokestatic idx =>
      show fx_sw4 ((match rk_lk M.2.2.1 idx with
        | some q => fx_st q.1 q.2.1 (pc + 3)
        | none => fx_none) l stk mem) ((match rk_lk M.2.2.1 idx with
        | some q => fx_st q.1 q.2.1 (pc + 3)
        | none => fx_none) l' stk mem)
      cases rk_lk M.2.2.1 idx with
      | none => exact fx_w_none
      | some q => exact fx_w_of h (fx_p_st _ _ _)
    case iaload => exact fx_w_of (f := fx_ia (pc + 1)) h (fx_p_fx_ia _)
    case baload => exact fx_w_of (f := fx_ba (pc + 1)) h (fx_p_fx_ba _)
    case laload => exact fx_w_of (f := fx_la (pc + 1)) h (fx_p_fx_la _)
    case iastore => exact fx_w_of (f := fx_is (pc + 1)) h (fx_p_fx_is _)
    case bastore => exact fx_w_of (f := fx_bs (pc + 1)) h (fx_p_fx_bs _)
    case lastore => exact fx_w_of (f := fx_ls (pc + 1)) h (fx_p_fx_ls _)
    case ldc idx => exact fx_w_of (f := fx_ct (pc + 2) (tk_csti (rk_cst M.2.2.2.1 idx))) h (fx_p_fx_ct _ _)
    case ldc_w idx => exact fx_w_of (f := fx_ct (pc + 3) (tk_csti (rk_cst M.2.2.2.1 idx))) h (fx_p_fx_ct _ _)
    case ldc2_w idx => exact fx_w_of (f := fx_ct (pc + 3) (tk_cstl (rk_cst M.2.2.2.1 idx))) h (fx_p_fx_ct _ _)
    case tableswitch d lo hi offs => exact fx_w_of (f := fx_tb pc d lo hi offs.toList) h (fx_p_fx_tb _ _ _ _ _)
    case lookupswitch d ps => exact fx_w_of (f := fx_lk pc d ps.toList) h (fx_p_fx_lk _ _ _)
    all_goals cases hb
theorem fx_w_aft (h : fx_le l l') (pc : Nat) (r : List Value) (x : Option (Option Value × fx_M)) : fx_sw4 (fx_aft pc l r x) (fx_aft pc l' r x) := by
  intro z hz
  unfold fx_aft at hz
  split at hz
  · cases hz
    exact ⟨l', rfl, h⟩
  · cases hz
theorem fx_w_step (h : fx_le l l') (call : fx_Ca) (fty : rk_F) (mci : List Nat) (M : rk_M2) (pc : Nat) (ins : Instr) : fx_sw4 (fx_step call fty mci M pc ins l stk mem) (fx_step call fty mci M pc ins l' stk mem) := by
  have hm := fx_w_mem (stk := stk) (mem := mem) h fty M pc ins
  cases ins
  case invokevirtual idx =>
    show fx_sw4 (match rk_lk M.2.2.1 idx with
      | some q => cond (Nat.beq q.1 5 || Nat.beq q.1 6) (fx_cv mci call (pc + 3) q.2.1 q.2.2 l stk mem) none
      | none => none) (match rk_lk M.2.2.1 idx with
      | some q => cond (Nat.beq q.1 5 || Nat.beq q.1 6) (fx_cv mci call (pc + 3) q.2.1 q.2.2 l' stk mem) none
      | none => none)
    cases rk_lk M.2.2.1 idx with
    | none => exact fun _ hz => nomatch hz
    | some q =>
      dsimp only
      cases (Nat.beq q.1 5 || Nat.beq q.1 6) with
      | false => exact fun _ hz => nomatch hz
      | true =>
        show fx_sw4 (fx_cv mci call (pc + 3) q.2.1 q.2.2 l stk mem) (fx_cv mci call (pc + 3) q.2.1 q.2.2 l' stk mem)
        unfold fx_cv
        split
        · next as j r hp =>
          split
          · next o hj =>
            cases (Nat.ble (fx_sum r) 8 && decide (mci[q.2.1]? = some o.1)) with
            | false => exact fun _ hz => nomatch hz
            | true => exact fx_w_aft h _ _ _
          · unfold fx_sv
            split
            · cases (Nat.ble (fx_sum r) 8 && Nat.beq j mem.length) with
              | false => exact fun _ hz => nomatch hz
              | true =>
                intro z hz
                cases hz
                exact ⟨l', rfl, h⟩
            · exact fun _ hz => nomatch hz
          · exact fun _ hz => nomatch hz
        · exact fun _ hz => nomatch hz
  case ldc idx =>
    show fx_sw4 (fx_lds fty M pc idx l stk mem) (fx_lds fty M pc idx l' stk mem)
    unfold fx_lds
    split
    · cases (Nat.beq idx 189 && Nat.beq M.2.2.2.2.2 12) with
      | false => exact fun _ hz => nomatch hz
      | true =>
        intro z hz
        cases hz
        exact ⟨l', rfl, h⟩
    · exact hm
  case invokestatic idx =>
    show fx_sw4 (match rk_lk M.2.2.1 idx with
      | some q => cond (Nat.beq q.1 7 || Nat.beq q.1 8) (fx_cs call (pc + 3) q.2.1 q.2.2 l stk mem) (fx_mem fty M pc (.invokestatic idx) l stk mem)
      | none => none) (match rk_lk M.2.2.1 idx with
      | some q => cond (Nat.beq q.1 7 || Nat.beq q.1 8) (fx_cs call (pc + 3) q.2.1 q.2.2 l' stk mem) (fx_mem fty M pc (.invokestatic idx) l' stk mem)
      | none => none)
    cases rk_lk M.2.2.1 idx with
    | none => exact fun _ hz => nomatch hz
    | some q =>
      dsimp only
      cases (Nat.beq q.1 7 || Nat.beq q.1 8) with
      | false => exact fx_w_mem h fty M pc (.invokestatic idx)
      | true =>
        show fx_sw4 (fx_cs call (pc + 3) q.2.1 q.2.2 l stk mem) (fx_cs call (pc + 3) q.2.1 q.2.2 l' stk mem)
        unfold fx_cs
        split
        · next as r hp =>
          cases Nat.ble (fx_sum r) 8 with
          | false => exact fun _ hz => nomatch hz
          | true => exact fx_w_aft h _ _ _
        · exact fun _ hz => nomatch hz
  all_goals exact hm
end FXW
theorem fx_w_run (call : fx_Ca) (fty : rk_F) (mci : List Nat) (M : rk_M2) : ∀ (n pc : Nat) (l l' : fx_L) (stk : List Value) (mem : fx_M) (R : Option Value × fx_M), fx_le l l' → fx_run call fty mci M n pc l stk mem = some R → fx_run call fty mci M n pc l' stk mem = some R := by
  intro n
  induction n with
  | zero => intro pc l l' stk mem R _ h; exact fx_nos h
  | succ n ih =>
    intro pc l l' stk mem R hle h
    unfold fx_run at h ⊢
    split at h
    · exact fx_nos h
    · next q hat =>
      cases hlen : rk_len q.2.1 q.2.2 with
      | false => rw [hlen] at h; exact fx_nos h
      | true =>
        rw [hlen] at h
        dsimp only [cond] at h ⊢
        split at h
        · exact h
        · exact fx_nos h
        · split at h
          · next z hz =>
            obtain ⟨k', e1, e2⟩ := fx_w_step hle call fty mci M pc q.2.1 z hz
            rw [e1]
            exact ih _ _ _ _ _ _ e2 h
          · exact fx_nos h
