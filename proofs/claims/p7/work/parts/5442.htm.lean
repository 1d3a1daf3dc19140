/-! ===== the model's trays: its calls, told of worlds ===== -/
def gn_MT : List (Nat × Nat) := (List.range 224).map (fun r => (1, r)) ++ [(0, 2), (0, 3), (0, 4), (3, 0), (4, 0), (5, 0)]
theorem gn_MT_ms : fm_ms gn_MT := ⟨gn_Mr _, List.mem_append_right _ (by decide), List.mem_append_right _ (by decide)⟩
theorem gm_ar3 : ∀ q ∈ gm_ar, q.1 = 3 → q = (3, 4, 0, 3) := by decide
theorem gm_ar4 : ∀ q ∈ gm_ar, q.1 = 4 → q = (4, 4, (-1), 60) := by decide
/-- the trays in the model's world: sizes, sorts, numbers -/
def tm_V (ws : va_W) (z s : Nat → Int32) (f : Nat → Nat → Int64) : Prop := ∀ t, t < 4 → lw_at ws (4, t) = some (.int (z t)) ∧ lw_at ws (3, t) = some (.int (s t)) ∧ ∀ i, i < 60 → lw_at ws (5, 60 * t + i) = some (.long (f t i))
theorem tm_V_of {ws : va_W} {g : Nat → Int32} {tp bt : Int64} {a : Nat → Nat → Int32} {b : Nat → Nat → Int64} (h : fw_is ws g tp bt a b) : tm_V ws (a 4) (a 3) (fun t i => b 5 (60 * t + i)) := fun t ht => ⟨h.2.1 4 4 _ (a 4) t rfl ht, h.2.1 3 4 _ (a 3) t rfl ht, fun i hi => h.2.2 5 240 _ (b 5) (60 * t + i) rfl (by omega)⟩
section MTS
variable {l : Launch} {D : va_G} {xt : tk_XT} {ads : List Nat}
theorem mt_sem (hst : ∀ (Ad : Nat → Prop) (U : State) (H : Heap), xt Ad U H → ∃ pl v tx, sk_X pl v Ad U H ∧ vk_R "GooseIceModel" 189 tx pl U) {k f : Nat} {kinds : List Nat} {envs : List tk_I} {S : ht_S}
    (hex : ∀ (rest : List Value) (g : Nat → Int32) (tp bt : Int64) (a : Nat → Nat → Int32) (b : Nat → Nat → Int64), rk_A2 lq_av (kinds.zip envs) rest → (∀ t, t < 4 → 0 ≤ (a 3 t).toInt ∧ (a 3 t).toInt ≤ 3) → (∀ t, t < 4 → -1 ≤ (a 4 t).toInt ∧ (a 4 t).toInt ≤ 60) → ∃ (v : Value) (st : Int32) (a' : Nat → Nat → Int32) (b' : Nat → Nat → Int64), fx_kd v ≤ 1 ∧ fr_T k f (.ref 0 :: rest) (fm g tp bt a b) (some v) (fm (upd g 2 st) tp bt a' b') ∧ (0 ≤ st.toInt ∧ st.toInt ≤ 9) ∧ (∀ j, j ≠ 3 → j ≠ 4 → a' j = a j) ∧ (∀ j, j ≠ 5 → b' j = b j) ∧ (∀ t, t < 4 → (0 ≤ (a' 3 t).toInt ∧ (a' 3 t).toInt ≤ 3) ∧ -1 ≤ (a' 4 t).toInt ∧ (a' 4 t).toInt ≤ 60) ∧ S rest (a 4) (a 3) (fun t i => b 5 (60 * t + i)) (a' 4) (a' 3) (fun t i => b' 5 (60 * t + i)) v) : lw_sem l D xt gn_TY (gn_X lw_twM) ads lw_twM (k + 4) f kinds envs (ht_Q tm_V S) := by
  refine fm_sem0 (mods := gn_MT) hst gn_fmTy (fun U rest ws h0 ps σ g tp bt a b hrest hty hfst hD hat hX => ?_)
  have hI := fm_I_of gn_fmTy hty hat hX
  obtain ⟨v, st, a', b', hv, hrun, hst', ha, hb, hbd, hS⟩ := hex rest g tp bt a b hrest (fun t ht => hI.2.2 (3, 4, 0, 3) (by decide) t ht) (fun t ht => hI.2.2 (4, 4, (-1), 60) (by decide) t ht)
  have hB : fm_B a' := fm_B_eq hI.2.1 (fun i => by rw [ha 1 (by decide) (by decide)]) (fun i hi => by rw [ha 9 (by decide) (by decide)]; exact hI.2.1.2.2 i hi)
  have hI2 : fm_I (upd g 2 st) a' := fm_I_a (fm_I_u2 hI hst') hB (fun q hq i hi => by
    by_cases h3 : q.1 = 3
    · have e := gm_ar3 q hq h3
      subst e
      exact (hbd i hi).1
    · by_cases h4 : q.1 = 4
      · have e := gm_ar4 q hq h4
        subst e
        exact (hbd i hi).2
      · rw [ha q.1 h3 h4]; exact hI.2.2 q hq i hi)
  have hF : fm_ffr gn_MT g a b (upd g 2 st) a' b' := ⟨fun k => by
    by_cases h : k = 2
    · subst h; exact Or.inl (List.mem_append_right _ (by decide))
    · exact Or.inr (pk_un h), fun t _ => by
    by_cases h3 : t = 3
    · subst h3; exact Or.inl (List.mem_append_right _ (by decide))
    · by_cases h4 : t = 4
      · subst h4; exact Or.inl (List.mem_append_right _ (by decide))
      · exact Or.inr (ha t h3 h4), fun t => by
    by_cases h5 : t = 5
    · subst h5; exact Or.inl (List.mem_append_right _ (by decide))
    · exact Or.inr (hb t h5)⟩
  exact ⟨v, _, hv, hrun, fm_chgA gn_fmTy hI2 gn_MT_ms hF, fm_X2 hat hX hI2.2.1.2.1 (fm_B_60 hI2.2.1.1), _, _, _, _, _, _, tm_V_of (fw_is_at hat), tm_V_of (fw_is_put hat), hS⟩
theorem ty_semM (hst : ∀ (Ad : Nat → Prop) (U : State) (H : Heap), xt Ad U H → ∃ pl v tx, sk_X pl v Ad U H ∧ vk_R "GooseIceModel" 189 tx pl U) : lw_sem l D xt gn_TY (gn_X lw_twM) ads lw_twM 6 213 [0, 0, 0] [gn_i, gn_i, gn_i] (ht_Q tm_V ty_S) := by
  refine mt_sem (k := 2) hst (fun rest g tp bt a b hr hs hz => ?_)
  obtain ⟨x, r1, rfl, k1⟩ := av_int hr
  obtain ⟨q, r2, rfl, k2⟩ := av_int k1
  obtain ⟨m, r3, rfl, k3⟩ := av_int k2
  obtain rfl := k3.nil
  obtain ⟨v, mem', ⟨z, st, a', b', hst', hh, hR⟩, hrun⟩ := ma_tray (g := g) (tp := tp) (bt := bt) (a := a) (b := b) (x := x) (s := q) (m := m)
  cases hR
  refine ⟨.int z, st, a', b', Nat.zero_le 1, hrun, hst', ?_⟩
  rcases hh with ⟨t, M, ht, hM, rfl, rfl, hok, rfl, rfl, rfl⟩ | ⟨hno, rfl, rfl, rfl⟩
  · have e6 : (fm_u (fm_u a 3 t q) 4 t (nI M)) 3 = upd (a 3) t q := rfl
    have e7 : (fm_u (fm_u a 3 t q) 4 t (nI M)) 4 = upd (a 4) t (nI M) := rfl
    refine ⟨fun j h6 h7 => (if_neg h7).trans (if_neg h6), fun j hj => fm_uf_n hj, fun u hu => ?_, nI t, q, nI M, rfl, Or.inl ⟨t, M, ht, hM, rfl, rfl, hok, rfl, e7, e6, fun u hu i hi hiM => ?_⟩⟩
    · rw [e6, e7]
      exact ⟨tt_upd hs hok.2.1 u hu, tt_upd hz ⟨by have := hok.2.2.1; omega, hok.2.2.2⟩ u hu⟩
    · show fm_uf b 5 (tm_f (b 5) (60 * t) M) 5 (60 * u + i) = _
      rw [fm_uf_s]
      unfold tm_f
      by_cases e : u = t
      · rw [if_pos e, if_pos (by omega)]
      · rw [if_neg e, if_neg (by omega)]
  · exact ⟨fun _ _ _ => rfl, fun _ _ => rfl, fun u hu => ⟨hs u hu, hz u hu⟩, x, q, m, rfl, Or.inr ⟨hno, rfl, rfl, rfl, rfl⟩⟩
theorem wr_semM (hst : ∀ (Ad : Nat → Prop) (U : State) (H : Heap), xt Ad U H → ∃ pl v tx, sk_X pl v Ad U H ∧ vk_R "GooseIceModel" 189 tx pl U) : lw_sem l D xt gn_TY (gn_X lw_twM) ads lw_twM 7 215 [0, 0, 1] [gn_i, gn_i, gn_l] (ht_Q tm_V wr_S) := by
  refine mt_sem (k := 3) hst (fun rest g tp bt a b hr hs hz => ?_)
  obtain ⟨x, r1, rfl, k1⟩ := av_int hr
  obtain ⟨p, r2, rfl, k2⟩ := av_int k1
  obtain ⟨n, r3, rfl, k3⟩ := av_lng k2
  obtain rfl := k3.nil
  obtain ⟨v, mem', ⟨z, st, b', hst', hh, hR⟩, hrun⟩ := ma_write (g := g) (tp := tp) (bt := bt) (a := a) (b := b) (x := x) (p := p) (w := n) hz hs
  cases hR
  refine ⟨.int z, st, a, b', Nat.zero_le 1, hrun, hst', fun _ _ _ => rfl, ?_⟩
  rcases hh with ⟨t, P, ht, rfl, rfl, hP, hPz, rfl, rfl⟩ | ⟨hno, rfl, rfl⟩
  · refine ⟨fun j hj => fm_uf_n hj, fun u hu => ⟨hs u hu, hz u hu⟩, nI t, nI P, n, rfl, rfl, rfl, Or.inl ⟨t, P, ht, rfl, rfl, hP, hPz, rfl, fun u hu i hi => ?_⟩⟩
    show fm_uf b 5 (vp_updL (b 5) (60 * t + P) (tc_cut (a 3 t) n)) 5 (60 * u + i) = _
    rw [fm_uf_s]
    unfold vp_updL
    by_cases e : u = t ∧ i = P
    · rw [if_pos e, if_pos (by omega)]
    · rw [if_neg e, if_neg (fun z => e (by omega))]
  · exact ⟨fun _ _ => rfl, fun u hu => ⟨hs u hu, hz u hu⟩, x, p, n, rfl, rfl, rfl, Or.inr ⟨hno, rfl, rfl⟩⟩
theorem rd_semM (hst : ∀ (Ad : Nat → Prop) (U : State) (H : Heap), xt Ad U H → ∃ pl v tx, sk_X pl v Ad U H ∧ vk_R "GooseIceModel" 189 tx pl U) : lw_sem l D xt gn_TY (gn_X lw_twM) ads lw_twM 7 216 [0, 0] [gn_i, gn_i] (ht_Q tm_V rd_S) := by
  refine mt_sem (k := 3) hst (fun rest g tp bt a b hr hs hz => ?_)
  obtain ⟨x, r1, rfl, k1⟩ := av_int hr
  obtain ⟨p, r2, rfl, k2⟩ := av_int k1
  obtain rfl := k2.nil
  obtain ⟨v, mem', ⟨z, st, hst', hh, hR⟩, hrun⟩ := ma_read (g := g) (tp := tp) (bt := bt) (a := a) (b := b) (x := x) (p := p) hz
  cases hR
  refine ⟨.long z, st, a, b, Nat.le_refl 1, hrun, hst', fun _ _ _ => rfl, fun _ _ => rfl, fun u hu => ⟨hs u hu, hz u hu⟩, x, p, rfl, rfl, rfl, rfl, ?_⟩
  rcases hh with ⟨t, P, ht, rfl, rfl, hP, hPz, rfl⟩ | ⟨hno, rfl⟩
  · exact Or.inl ⟨t, P, ht, rfl, rfl, hP, hPz, rfl⟩
  · exact Or.inr ⟨hno, rfl⟩
theorem pr_semM (hst : ∀ (Ad : Nat → Prop) (U : State) (H : Heap), xt Ad U H → ∃ pl v tx, sk_X pl v Ad U H ∧ vk_R "GooseIceModel" 189 tx pl U) : lw_sem l D xt gn_TY (gn_X lw_twM) ads lw_twM 6 217 [0, 0, 0, 0, 0] [gn_i, gn_i, gn_i, gn_i, gn_i] (ht_Q tm_V pr_S) := by
  refine mt_sem (k := 2) hst (fun rest g tp bt a b hr hs hz => ?_)
  obtain ⟨x, r1, rfl, k1⟩ := av_int hr
  obtain ⟨p, r2, rfl, k2⟩ := av_int k1
  obtain ⟨y, r3, rfl, k3⟩ := av_int k2
  obtain ⟨q, r4, rfl, k4⟩ := av_int k3
  obtain ⟨n, r5, rfl, k5⟩ := av_int k4
  obtain rfl := k5.nil
  obtain ⟨v, mem', ⟨z, st, b', hst', hh, hR⟩, hrun⟩ := ma_pour (g := g) (tp := tp) (bt := bt) (a := a) (b := b) (x := x) (p := p) (y := y) (q := q) (n := n) hz
  cases hR
  refine ⟨.int z, st, a, b', Nat.zero_le 1, hrun, hst', fun _ _ _ => rfl, ?_⟩
  rcases hh with ⟨t, u, P, Q, N, ht, hu, rfl, rfl, rfl, rfl, rfl, h1, h2, h3, rfl, rfl⟩ | ⟨hno, rfl, rfl⟩
  · have hzu := hz u hu
    refine ⟨fun j hj => fm_uf_n hj, fun u hu => ⟨hs u hu, hz u hu⟩, nI t, nI P, nI u, nI Q, nI N, rfl, rfl, rfl, Or.inl ⟨t, u, P, Q, N, ht, hu, rfl, rfl, rfl, rfl, rfl, h1, h2, by have := hz t ht; omega, by omega, h3, rfl, fun w hw i hi => ?_⟩⟩
    show fm_uf b 5 (va_cpy (b 5) (b 5) (60 * t + P) (60 * u + Q) N) 5 (60 * w + i) = _
    rw [fm_uf_s]
    unfold va_cpy
    by_cases e : w = u ∧ Q ≤ i ∧ i < Q + N
    · rw [if_pos e, if_pos (by omega)]
      exact congrArg (b 5) (by omega)
    · rw [if_neg e, if_neg (fun z => e (by omega))]
  · exact ⟨fun _ _ => rfl, fun u hu => ⟨hs u hu, hz u hu⟩, x, p, y, q, n, rfl, rfl, rfl, Or.inr ⟨hno, rfl, rfl⟩⟩
end MTS
/-! ===== what binds the trays of both ===== -/
def tr_F (c : Bool) (z s : Nat → Int32) (f : Nat → Nat → Int64) (z2 s2 : Nat → Int32) (f2 : Nat → Nat → Int64) : Prop := ∀ t, t < 4 → z t = z2 t ∧ s t = s2 t ∧ (c = true → ∀ i : Nat, i < 60 → (i : Int) < (z t).toInt → f t i = f2 t i)
/-- with what is in them, where c says so -/
def tr_R (c : Bool) (wc wm : va_W) : Prop := ∀ t, t < 4 → lw_at wc (7, t) = lw_at wm (4, t) ∧ lw_at wc (6, t) = lw_at wm (3, t) ∧ (c = true → ∀ (i : Nat) (x : Int32), i < 60 → lw_at wc (7, t) = some (.int x) → (i : Int) < x.toInt → lw_at wc (2 + t, i) = lw_at wm (5, 60 * t + i))
section TRF
variable {c : Bool} {wc wm : va_W} {z s z2 s2 z' s' z2' s2' : Nat → Int32} {f f2 f' f2' : Nat → Nat → Int64} {u w : Value}
theorem tr_get (h : tr_R c wc wm) (hC : tc_V wc z s f) (hM : tm_V wm z2 s2 f2) : tr_F c z s f z2 s2 f2 := by
  intro t ht
  obtain ⟨h1, h2, h3⟩ := h t ht
  obtain ⟨c1, c2, c3⟩ := hC t ht
  obtain ⟨m1, m2, m3⟩ := hM t ht
  rw [c1, m1] at h1
  rw [c2, m2] at h2
  refine ⟨Value.int.inj (Option.some.inj h1), Value.int.inj (Option.some.inj h2), fun hc i hi hz => ?_⟩
  have h4 := h3 hc i (z t) hi c1 hz
  rw [c3 i hi, m3 i hi] at h4
  exact Value.long.inj (Option.some.inj h4)
theorem tr_put (h : tr_F c z s f z2 s2 f2) (hC : tc_V wc z s f) (hM : tm_V wm z2 s2 f2) : tr_R c wc wm := by
  intro t ht
  obtain ⟨h1, h2, h3⟩ := h t ht
  obtain ⟨c1, c2, c3⟩ := hC t ht
  obtain ⟨m1, m2, m3⟩ := hM t ht
  refine ⟨by rw [c1, m1, h1], by rw [c2, m2, h2], fun hc i x hi hx hz => ?_⟩
  rw [c1] at hx
  rw [c3 i hi, m3 i hi, h3 hc i hi (by rw [Value.int.inj (Option.some.inj hx)]; exact hz)]
theorem tp_ext (h : ∀ t, t < 4 → z t = z2 t) {x p : Int32} (h1 : tp_ok z x p) : tp_ok z2 x p := by
  obtain ⟨t, ht, e, h2, h3⟩ := h1
  exact ⟨t, ht, e, h2, by rw [← h t ht]; exact h3⟩
theorem pr_ext (h : ∀ t, t < 4 → z t = z2 t) (hs : ∀ t, t < 4 → s t = s2 t) {x p y q n : Int32} (h1 : pr_ok z s x p y q n) : pr_ok z2 s2 x p y q n := by
  obtain ⟨t, u, ht, hu, e1, e2, k1, k2, k3, k4, k5, k6, k7, k8⟩ := h1
  exact ⟨t, u, ht, hu, e1, e2, k1, k2, k3, by rw [← h t ht]; exact k4, by rw [← h u hu]; exact k5, by rw [← hs t ht, ← hs u hu]; exact k6, by rw [← h t ht]; exact k7, by rw [← h u hu]; exact k8⟩
theorem nI_bnd {n m : Nat} (hn : n ≤ 60) (hm : m ≤ 60) (e : nI n = nI m) : n = m := by
  have h2 : (nI n).toInt = (nI m).toInt := by rw [e]
  rw [nI_i32 (by omega), nI_i32 (by omega)] at h2
  omega
theorem ty_rel (h : tr_F c z s f z2 s2 f2) {av : List Value} (h1 : ty_S av z s f z' s' f' u) (h2 : ty_S av z2 s2 f2 z2' s2' f2' w) : u = w ∧ tr_F c z' s' f' z2' s2' f2' := by
  obtain ⟨x, q, m, rfl, k1⟩ := h1
  obtain ⟨x2, q2, m2, e, k2⟩ := h2
  cases e
  rcases k1 with ⟨t, M, ht, hM, rfl, rfl, hok, rfl, rfl, rfl, hf⟩ | ⟨hno, rfl, rfl, rfl, rfl⟩
  · rcases k2 with ⟨t2, M2, ht2, hM2, e1, e2, -, rfl, rfl, rfl, hf2⟩ | ⟨hno, -⟩
    · obtain rfl := nI_lt4 ht ht2 e1
      obtain rfl := nI_bnd hM hM2 e2
      refine ⟨rfl, fun v hv => ?_⟩
      obtain ⟨r1, r2, r3⟩ := h v hv
      by_cases e : v = t
      · subst e
        refine ⟨by rw [pk_us, pk_us], by rw [pk_us, pk_us], fun hc i hi hz => ?_⟩
        rw [pk_us, nI_i32 (by omega)] at hz
        rw [hf v hv i hi (Or.inl (by omega)), hf2 v hv i hi (Or.inl (by omega)), if_pos rfl, if_pos rfl]
      · refine ⟨by rw [pk_un e, pk_un e]; exact r1, by rw [pk_un e, pk_un e]; exact r2, fun hc i hi hz => ?_⟩
        rw [pk_un e] at hz
        rw [hf v hv i hi (Or.inr e), hf2 v hv i hi (Or.inr e), if_neg e, if_neg e]
        exact r3 hc i hi hz
    · exact absurd hok hno
  · rcases k2 with ⟨t2, M2, ht2, hM2, rfl, rfl, hok, -⟩ | ⟨-, rfl, rfl, rfl, rfl⟩
    · exact absurd hok hno
    · exact ⟨rfl, h⟩
theorem wr_rel (h : tr_F c z s f z2 s2 f2) {av av2 : List Value} (ha : ∃ (x p : Int32) (n n2 : Int64), av = [.int x, .int p, .long n] ∧ av2 = [.int x, .int p, .long n2] ∧ (c = true → n = n2)) (h1 : wr_S av z s f z' s' f' u) (h2 : wr_S av2 z2 s2 f2 z2' s2' f2' w) : u = w ∧ tr_F c z' s' f' z2' s2' f2' := by
  obtain ⟨x, p, n, n2, rfl, rfl, hn⟩ := ha
  obtain ⟨x1, p1, n1, e, rfl, rfl, k1⟩ := h1
  cases e
  obtain ⟨x1, p1, n1, e, rfl, rfl, k2⟩ := h2
  cases e
  rcases k1 with ⟨t, P, ht, rfl, rfl, hP, hPz, rfl, hf⟩ | ⟨hno, rfl, rfl⟩
  · rcases k2 with ⟨t2, P2, ht2, e1, e2, hP2, hPz2, rfl, hf2⟩ | ⟨hno, -⟩
    · obtain rfl := nI_lt4 ht ht2 e1
      obtain rfl := nI_bnd (by omega) (by omega) e2
      refine ⟨rfl, fun v hv => ⟨(h v hv).1, (h v hv).2.1, fun hc i hi hz => ?_⟩⟩
      rw [hf v hv i hi, hf2 v hv i hi]
      by_cases e : v = t ∧ i = P
      · rw [if_pos e, if_pos e, hn hc, (h t ht).2.1]
      · rw [if_neg e, if_neg e]
        exact (h v hv).2.2 hc i hi hz
    · exact absurd ⟨t, ht, rfl, by rw [nI_i32 (by omega)]; omega, by rw [nI_i32 (by omega), ← (h t ht).1]; exact hPz⟩ hno
  · rcases k2 with ⟨t, P, ht, rfl, rfl, hP, hPz, -⟩ | ⟨-, rfl, rfl⟩
    · exact absurd ⟨t, ht, rfl, by rw [nI_i32 (by omega)]; omega, by rw [nI_i32 (by omega), (h t ht).1]; exact hPz⟩ hno
    · exact ⟨rfl, h⟩
theorem rd_rel (h : tr_F true z s f z2 s2 f2) {av : List Value} (h1 : rd_S av z s f z' s' f' u) (h2 : rd_S av z2 s2 f2 z2' s2' f2' w) : u = w ∧ tr_F true z' s' f' z2' s2' f2' := by
  obtain ⟨x, p, rfl, rfl, rfl, rfl, k1⟩ := h1
  obtain ⟨x1, p1, e, rfl, rfl, rfl, k2⟩ := h2
  cases e
  refine ⟨?_, h⟩
  rcases k1 with ⟨t, P, ht, rfl, rfl, hP, hPz, rfl⟩ | ⟨hno, rfl⟩
  · rcases k2 with ⟨t2, P2, ht2, e1, e2, hP2, hPz2, rfl⟩ | ⟨hno, -⟩
    · obtain rfl := nI_lt4 ht ht2 e1
      obtain rfl := nI_bnd (by omega) (by omega) e2
      rw [(h t ht).2.2 rfl P hP hPz]
    · exact absurd ⟨t, ht, rfl, by rw [nI_i32 (by omega)]; omega, by rw [nI_i32 (by omega), ← (h t ht).1]; exact hPz⟩ hno
  · rcases k2 with ⟨t, P, ht, rfl, rfl, hP, hPz, -⟩ | ⟨-, rfl⟩
    · exact absurd ⟨t, ht, rfl, by rw [nI_i32 (by omega)]; omega, by rw [nI_i32 (by omega), (h t ht).1]; exact hPz⟩ hno
    · rfl
theorem pr_rel (h : tr_F c z s f z2 s2 f2) {av : List Value} (h1 : pr_S av z s f z' s' f' u) (h2 : pr_S av z2 s2 f2 z2' s2' f2' w) : u = w ∧ tr_F c z' s' f' z2' s2' f2' := by
  obtain ⟨x, p, y, q, n, rfl, rfl, rfl, k1⟩ := h1
  obtain ⟨x1, p1, y1, q1, n1, e, rfl, rfl, k2⟩ := h2
  cases e
  have ok : ∀ {z s : Nat → Int32} {t u P Q N : Nat}, t < 4 → u < 4 → (P + N : Nat) ≤ (z t).toInt → (Q + N : Nat) ≤ (z u).toInt → P + N ≤ 60 → Q + N ≤ 60 → s t = s u → pr_ok z s (nI t) (nI P) (nI u) (nI Q) (nI N) := fun {z s t u P Q N} ht hu a1 a2 a3 a4 a5 => ⟨t, u, ht, hu, rfl, rfl, by rw [nI_i32 (by omega)]; omega, by rw [nI_i32 (by omega)]; omega, by rw [nI_i32 (by omega)]; omega, by omega, by omega, a5, by rw [nI_i32 (by omega), nI_i32 (by omega)]; omega, by rw [nI_i32 (by omega), nI_i32 (by omega)]; omega⟩
  rcases k1 with ⟨t, v, P, Q, N, ht, hv, rfl, rfl, rfl, rfl, rfl, a1, a2, a3, a4, a5, rfl, hf⟩ | ⟨hno, rfl, rfl⟩
  · rcases k2 with ⟨t2, v2, P2, Q2, N2, ht2, hv2, e1, e2, e3, e4, e5, b1, b2, b3, b4, b5, rfl, hf2⟩ | ⟨hno, -⟩
    · obtain rfl := nI_lt4 ht ht2 e1
      obtain rfl := nI_lt4 hv hv2 e2
      obtain rfl := nI_bnd (by omega) (by omega) e3
      obtain rfl := nI_bnd (by omega) (by omega) e4
      obtain rfl := nI_bnd (by omega) (by omega) e5
      refine ⟨rfl, fun k hk => ⟨(h k hk).1, (h k hk).2.1, fun hc i hi hz => ?_⟩⟩
      rw [hf k hk i hi, hf2 k hk i hi]
      by_cases e : k = v ∧ Q ≤ i ∧ i < Q + N
      · rw [if_pos e, if_pos e]
        exact (h t ht).2.2 hc _ (by omega) (by omega)
      · rw [if_neg e, if_neg e]
        exact (h k hk).2.2 hc i hi hz
    · exact absurd (pr_ext (fun t ht => (h t ht).1) (fun t ht => (h t ht).2.1) (ok ht hv a1 a2 a3 a4 a5)) hno
  · rcases k2 with ⟨t, v, P, Q, N, ht, hv, rfl, rfl, rfl, rfl, rfl, a1, a2, a3, a4, a5, -⟩ | ⟨-, rfl, rfl⟩
    · exact absurd (pr_ext (fun t ht => (h t ht).1.symm) (fun t ht => (h t ht).2.1.symm) (ok ht hv a1 a2 a3 a4 a5)) hno
    · exact ⟨rfl, h⟩
/-- the same, of the worlds -/
theorem tr_both {c0 m0 c1 m1 : va_W} {S S2 : ht_S} {av av2 : List Value} (h : tr_R c c0 m0) (hS : ∀ {z s z2 s2 z' s' z2' s2' : Nat → Int32} {f f2 f' f2' : Nat → Nat → Int64}, tr_F c z s f z2 s2 f2 → S av z s f z' s' f' u → S2 av2 z2 s2 f2 z2' s2' f2' w → u = w ∧ tr_F c z' s' f' z2' s2' f2') (h1 : ht_Q tc_V S av c0 c1 u) (h2 : ht_Q tm_V S2 av2 m0 m1 w) : u = w ∧ tr_R c c1 m1 := by
  obtain ⟨z, s, f, z', s', f', a1, a2, a3⟩ := h1
  obtain ⟨z2, s2, f2, z2', s2', f2', b1, b2, b3⟩ := h2
  obtain ⟨e, h3⟩ := hS (tr_get h a1 b1) a3 b3
  exact ⟨e, tr_put h3 a2 b2⟩
def tr_WC (c : Bool) : List (Nat × Nat) := (List.range 4).flatMap (fun t => (7, t) :: (6, t) :: cond c ((List.range 60).map (fun i => (2 + t, i))) [])
def tr_WM (c : Bool) : List (Nat × Nat) := (List.range 4).flatMap (fun t => (4, t) :: (3, t) :: cond c ((List.range 60).map (fun i => (5, 60 * t + i))) [])
theorem tr_un {c0 m0 c1 m1 : va_W} (h : tr_R c c0 m0) (hC : ∀ z ∈ tr_WC c, lw_at c1 z = lw_at c0 z) (hM : ∀ z ∈ tr_WM c, lw_at m1 z = lw_at m0 z) : tr_R c c1 m1 := by
  intro t ht
  have kC : ∀ z ∈ ((7, t) :: (6, t) :: cond c ((List.range 60).map (fun i => (2 + t, i))) [] : List (Nat × Nat)), lw_at c1 z = lw_at c0 z := fun z hz => hC z (List.mem_flatMap.mpr ⟨t, List.mem_range.mpr ht, hz⟩)
  have kM : ∀ z ∈ ((4, t) :: (3, t) :: cond c ((List.range 60).map (fun i => (5, 60 * t + i))) [] : List (Nat × Nat)), lw_at m1 z = lw_at m0 z := fun z hz => hM z (List.mem_flatMap.mpr ⟨t, List.mem_range.mpr ht, hz⟩)
  obtain ⟨h1, h2, h3⟩ := h t ht
  have c7 := kC _ List.mem_cons_self
  have c6 := kC _ (List.mem_cons_of_mem _ List.mem_cons_self)
  have m4 := kM _ List.mem_cons_self
  have m3 := kM _ (List.mem_cons_of_mem _ List.mem_cons_self)
  refine ⟨by rw [c7, m4]; exact h1, by rw [c6, m3]; exact h2, fun hc i x hi hx hz => ?_⟩
  rw [c7] at hx
  subst hc
  rw [kC (2 + t, i) (List.mem_cons_of_mem _ (List.mem_cons_of_mem _ (List.mem_map.mpr ⟨i, List.mem_range.mpr hi, rfl⟩))), kM (5, 60 * t + i) (List.mem_cons_of_mem _ (List.mem_cons_of_mem _ (List.mem_map.mpr ⟨i, List.mem_range.mpr hi, rfl⟩)))]
  exact h3 rfl i x hi hx hz
end TRF
/-- where the references need to stand, too -/
theorem lw_sem_gs {l : Launch} {D : va_G} {xt : tk_XT} {ads : List Nat} {d f : Nat} {kinds : List Nat} {envs : List tk_I} {Q : List Value → va_W → va_W → Value → Prop} (h : lw_sem l D xt gc_TY (gc_X lw_twC) ads lw_twC d f kinds envs Q) (hQ : ∀ av ws ws' v, Q av ws ws' v → ∀ z ∈ gs_L, lw_at ws' (z.1, z.2.1) = lw_at ws (z.1, z.2.1)) : lw_sem l D xt gc_TY hg_X ads lw_twC d f kinds envs Q := by
  intro q hq
  obtain ⟨M, h1, h2, h3⟩ := h q hq
  refine ⟨M, h1, h2, fun ax ws av sz a1 a2 a3 a4 => rk_Met_case (fun aU U hP => ?_)⟩
  obtain ⟨p1, p2, p3, p4, p5, p6, p7, p8, p10⟩ := hP
  refine ⟨_, _, h3 ax ws av sz a1 a2 a3 a4, ⟨p1, p2, p3, p4, p5, p6, p7, p8, p10.1⟩, ?_⟩
  rintro oc t - ⟨⟨ws', v, b1, b2, b3, b4, b5, b6, b7⟩, hF⟩
  refine ⟨⟨ws', v, b1, b2, b3, b4, ⟨b5, fun z hz => ?_⟩, b6, b7⟩, hF⟩
  rw [hQ _ _ _ _ b6 z hz, p10.2 z hz]
  have e : ∀ (w : va_W) (k : Nat), (w[k]?).map (fun q => Value.ref q.1) = ((w.map Prod.fst)[k]?).map Value.ref := fun w k => by
    rw [List.getElem?_map, Option.map_map]
    rfl
  rw [e, e, b1, a3]
