/-! ===== rk: what a state stands for; the steps that look at no cell are sound ===== -/
def rk_arr (vals : List Value) (ads : List Nat) (cA : ClassId) (q : rk_D) (e : va_E) : Prop := match q.1 with
  | .int => ∃ f : Nat → Int32, e = .inl (cA, q.2.1, .inl f) ∧ ∀ j, rk_g vals ads (rk_look q.2.2.1 q.2.2.2 j) (.int (f j))
  | .byte => ∃ f : Nat → Int32, e = .inl (cA, q.2.1, .inl f) ∧ ∀ j, rk_g vals ads (rk_look q.2.2.1 q.2.2.2 j) (.int (f j))
  | .long => ∃ f : Nat → Int64, e = .inl (cA, q.2.1, .inr (.inl f)) ∧ ∀ j, rk_g vals ads (rk_look q.2.2.1 q.2.2.2 j) (.long (f j))
  | .object _ => ∃ f : Nat → Option Nat, e = .inl (cA, q.2.1, .inr (.inr (.inr (.inr f)))) ∧ ∀ j, rk_g vals ads (rk_look q.2.2.1 q.2.2.2 j) (va_rf (f j))
  | .array _ => ∃ f : Nat → Option Nat, e = .inl (cA, q.2.1, .inr (.inr (.inr (.inr f)))) ∧ ∀ j, rk_g vals ads (rk_look q.2.2.1 q.2.2.2 j) (va_rf (f j))
  | _ => False
def rk_c (U : State) (vals : List Value) (ads : List Nat) (c : rk_H) (e : va_E) : Prop := match c with
  | .inl o => ∃ vs, e = .inr (o.1, vs) ∧ rk_A2 (rk_g vals ads) o.2 vs
  | .inr q => ∃ cA, ArrOfT U cA q.1 ∧ va_RA U cA q.1 ∧ rk_arr vals ads cA q e
theorem rk_arr.grow {vals vals' : List Value} {ads ads' : List Nat} {cA : ClassId} {q : rk_D} {e : va_E} (h : rk_arr vals ads cA q e) (hv : ∃ l, vals' = vals ++ l) (ha : ∃ l, ads' = ads ++ l) : rk_arr vals' ads' cA q e := by
  unfold rk_arr at h ⊢
  split at h
  all_goals first
    | exact h.elim
    | (obtain ⟨f, e1, h1⟩ := h
       exact ⟨f, e1, fun j => (h1 j).grow hv ha⟩)
theorem rk_c.grow {U : State} {vals vals' : List Value} {ads ads' : List Nat} {c : rk_H} {e : va_E} (h : rk_c U vals ads c e) (hv : ∃ l, vals' = vals ++ l) (ha : ∃ l, ads' = ads ++ l) : rk_c U vals' ads' c e := by
  rcases c with o | q
  · obtain ⟨vs, e1, h1⟩ := h
    exact ⟨vs, e1, h1.mono (fun _ _ h => h.grow hv ha)⟩
  · obtain ⟨cA, h1, h2, h3⟩ := h
    exact ⟨cA, h1, h2, h3.grow hv ha⟩
def rk_G (s : State) (D : va_G) (cl : List vw_C) (Ad : Nat → Prop) (vals0 : List Value) (ads0 : List Nat) (vals : List Value) (ws : va_W) (H : Heap) (locs : List Loc) (env : List rk_T) (hp : List rk_H) : Prop :=
  rk_E env vals ∧ rk_A2 (fun c q => rk_c s vals (ws.map Prod.fst) c q.2) hp ws ∧ va_P D cl ws H ∧ va_D Ad ws ∧ va_S Ad s.heap H locs ∧ (∃ l, vals = vals0 ++ l) ∧ (∃ l, ws.map Prod.fst = ads0 ++ l)
theorem rk_G.env {s : State} {D : va_G} {cl : List vw_C} {Ad : Nat → Prop} {vals0 : List Value} {ads0 : List Nat} {vals : List Value} {ws : va_W} {H : Heap} {locs : List Loc} {env env' : List rk_T} {hp : List rk_H} (h : rk_G s D cl Ad vals0 ads0 vals ws H locs env hp) {k : List Value} (hE : rk_E env' (vals ++ k)) : rk_G s D cl Ad vals0 ads0 (vals ++ k) ws H locs env' hp := by
  obtain ⟨-, h2, h3, h4, h5, ⟨k0, h6⟩, h7⟩ := h
  exact ⟨hE, h2.mono (fun _ _ h => h.grow ⟨k, rfl⟩ ⟨[], by simp⟩), h3, h4, h5, ⟨k0 ++ k, by rw [h6, List.append_assoc]⟩, h7⟩
theorem rk_G.env0 {s : State} {D : va_G} {cl : List vw_C} {Ad : Nat → Prop} {vals0 : List Value} {ads0 : List Nat} {vals : List Value} {ws : va_W} {H : Heap} {locs : List Loc} {env env' : List rk_T} {hp : List rk_H} (h : rk_G s D cl Ad vals0 ads0 vals ws H locs env hp) (hE : rk_E env' vals) : rk_G s D cl Ad vals0 ads0 vals ws H locs env' hp := ⟨hE, h.2⟩
abbrev rk_K : Type := Nat → Array Slot → List Value → Heap → List Loc → Nat → Nat → Prop
/-- the locals -/
abbrev rk_Lo (vals : List Value) (ads : List Nat) (lo : List (Nat × rk_V)) (lc : List (Nat × Value)) : Prop := rk_A2 (fun (q : Nat × rk_V) (r : Nat × Value) => q.1 = r.1 ∧ rk_g vals ads q.2 r.2) lo lc
theorem rk_Lo.grow {vals : List Value} {ads : List Nat} {lo : List (Nat × rk_V)} {lc : List (Nat × Value)} (h : rk_Lo vals ads lo lc) (k : List Value) : rk_Lo (vals ++ k) ads lo lc := rk_A2.mono (fun _ _ q => ⟨q.1, q.2.grow ⟨k, rfl⟩ ⟨[], by simp⟩⟩) h
theorem rk_skG {vals : List Value} {ads : List Nat} {sk : List rk_V} {stk : List Value} (h : rk_A2 (rk_g vals ads) sk stk) (k : List Value) : rk_A2 (rk_g (vals ++ k) ads) sk stk := rk_A2.mono (fun _ _ q => q.grow ⟨k, rfl⟩ ⟨[], by simp⟩) h
def rk_W (K : rk_K) (s : State) (D : va_G) (cl : List vw_C) (Ad : Nat → Prop) (nL : Nat) (vals0 : List Value) (ads0 : List Nat) (pc : Nat) (st : rk_S) : Prop :=
  ∀ (vals : List Value) (ws : va_W) (H : Heap) (locs : List Loc) (ls : Array Slot) (stk : List Value) (lc : List (Nat × Value)), rk_G s D cl Ad vals0 ads0 vals ws H locs st.2.2.1 st.2.2.2.1 → lv_has ls nL lc → rk_Lo vals (ws.map Prod.fst) st.1 lc → rk_A2 (rk_g vals (ws.map Prod.fst)) st.2.1 stk → K pc ls stk H locs st.2.2.2.2.1 st.2.2.2.2.2
abbrev rk_KW (p : Program) (l : Launch) (e : Env) (R : Room) (s : State) (m : MethodId) (args : Array Value) (below : List Frame) (meth : Method) (c : Code) (Q : State → Prop) : rk_K := fun pc ls stk H locs n k => W p l e R s m args below meth c H locs n k Q (F0 m pc ls stk)
theorem rk_ld_ok {vals : List Value} {ads : List Nat} {i : Nat} {a : rk_V} : ∀ {lo : List (Nat × rk_V)} {lc : List (Nat × Value)}, rk_Lo vals ads lo lc → rk_ld lo i = some a → ∃ v, (i, v) ∈ lc ∧ rk_g vals ads a v := by
  intro lo
  induction lo with
  | nil => intro lc _ h; simp [rk_ld] at h
  | cons q lo ih =>
    intro lc hL h
    obtain ⟨r, k, rfl, h1, h2⟩ := hL.cons
    unfold rk_ld at h
    split at h
    · next e =>
      cases h
      exact ⟨r.2, by rw [← e, h1.1]; exact List.mem_cons_self, h1.2⟩
    · obtain ⟨v, hv, hg⟩ := ih h2 h
      exact ⟨v, List.mem_cons_of_mem _ hv, hg⟩
theorem rk_st1_ok {vals : List Value} {ads : List Nat} {env : List rk_T} {lo : List (Nat × rk_V)} {lc : List (Nat × Value)} {i : Nat} {a : rk_V} {v : Value} (hE : rk_E env vals) (hL : rk_Lo vals ads lo lc) (hg : rk_g vals ads a v) : rk_Lo vals ads (rk_st1 env lo i a) ((i, v) :: lc.filter (fun q => !(q.1 == i) && !(q.1 + 1 == i && q.2.category == 2))) :=
  ⟨⟨rfl, hg⟩, rk_A2.filter (fun q r h => by rw [h.1, rk_cat_ok hE h.2]) hL⟩
theorem rk_st2_ok {vals : List Value} {ads : List Nat} {env : List rk_T} {lo : List (Nat × rk_V)} {lc : List (Nat × Value)} {i : Nat} {a : rk_V} {v : Value} (hE : rk_E env vals) (hL : rk_Lo vals ads lo lc) (hg : rk_g vals ads a v) : rk_Lo vals ads (rk_st2 env lo i a) ((i, v) :: lc.filter (fun q => !(q.1 == i) && (!(q.1 == i + 1) && !(q.1 + 1 == i && q.2.category == 2)))) :=
  ⟨⟨rfl, hg⟩, rk_A2.filter (fun q r h => by rw [h.1, rk_cat_ok hE h.2]) hL⟩
theorem rk_norm_ok {env : List rk_T} {vals : List Value} {ads : List Nat} {a : rk_V} {v : Value} (hE : rk_E env vals) (h : rk_g vals ads a v) : rk_g vals ads (rk_norm env a) v := by
  unfold rk_norm
  cases hi : rk_iv env a with
  | none => exact h
  | some I =>
    obtain ⟨x, rfl, h1, h2⟩ := rk_iv_ok hE h hi
    dsimp only
    split
    · next e =>
      show Value.int x = Value.int (Int32.ofInt I.1)
      have : I.1 = x.toInt := by omega
      rw [this, Int32.ofInt_toInt]
    · exact h
/-- bounds that an operation keeps -/
def rk_sound2 (f : Int32 → Int32 → Int32) (g : Int × Int → Int × Int → Int × Int) : Prop := ∀ (x y : Int32) (I J : Int × Int), I.1 ≤ x.toInt → x.toInt ≤ I.2 → J.1 ≤ y.toInt → y.toInt ≤ J.2 → (g I J).1 ≤ (f x y).toInt ∧ (f x y).toInt ≤ (g I J).2
theorem rk_full_ok (x : Int32) : rk_full.1 ≤ x.toInt ∧ x.toInt ≤ rk_full.2 := ⟨Int32.le_toInt x, Int32.toInt_le x⟩
theorem rk_s_full (f : Int32 → Int32 → Int32) : rk_sound2 f (fun _ _ => rk_full) := fun x y _ _ _ _ _ _ => rk_full_ok (f x y)
theorem rk_s_add : rk_sound2 (fun x y => x + y) rk_iadd := by
  intro x y I J h1 h2 h3 h4
  unfold rk_iadd
  split
  · next h =>
    have e : (x + y).toInt = x.toInt + y.toInt := by
      rw [Int32.toInt_add]
      apply Int.bmod_eq_of_le <;> omega
    rw [e]
    constructor <;> dsimp only <;> omega
  · exact rk_full_ok _
theorem rk_s_sub : rk_sound2 (fun x y => x - y) rk_isub := by
  intro x y I J h1 h2 h3 h4
  unfold rk_isub
  split
  · next h =>
    have e : (x - y).toInt = x.toInt - y.toInt := by
      rw [Int32.toInt_sub]
      apply Int.bmod_eq_of_le <;> omega
    rw [e]
    constructor <;> dsimp only <;> omega
  · exact rk_full_ok _
theorem rk_nn {x : Int32} (h : 0 ≤ x.toInt) : x.toInt = (x.toBitVec.toNat : Int) ∧ x.toBitVec.toNat < 2147483648 := by
  have e : x.toInt = x.toBitVec.toInt := rfl
  rw [e] at h ⊢
  rw [BitVec.toInt_eq_toNat_cond] at h ⊢
  have := x.toBitVec.isLt
  split at h <;> constructor <;> first | (split <;> omega) | omega
theorem rk_of_small {x : Int32} (h : x.toBitVec.toNat < 2147483648) : x.toInt = (x.toBitVec.toNat : Int) := by
  have e : x.toInt = x.toBitVec.toInt := rfl
  rw [e, BitVec.toInt_eq_toNat_cond]
  split <;> omega
theorem rk_s_and : rk_sound2 (fun x y => x &&& y) rk_iand := by
  intro x y I J h1 h2 h3 h4
  have e : (x &&& y).toBitVec.toNat = x.toBitVec.toNat &&& y.toBitVec.toNat := by
    rw [Int32.toBitVec_and, BitVec.toNat_and]
  have l1 : x.toBitVec.toNat &&& y.toBitVec.toNat ≤ x.toBitVec.toNat := Nat.and_le_left
  have l2 : x.toBitVec.toNat &&& y.toBitVec.toNat ≤ y.toBitVec.toNat := Nat.and_le_right
  unfold rk_iand
  split
  · next h =>
    obtain ⟨a1, a2⟩ := rk_nn (x := y) (by omega)
    have := rk_of_small (x := x &&& y) (by omega)
    dsimp only
    omega
  · split
    · next h =>
      obtain ⟨a1, a2⟩ := rk_nn (x := x) (by omega)
      have := rk_of_small (x := x &&& y) (by omega)
      dsimp only
      omega
    · exact rk_full_ok _
theorem rk_bin_ok {f : Int32 → Int32 → Int32} {g : Int × Int → Int × Int → Int × Int} (hs : rk_sound2 f g) {env : List rk_T} {vals : List Value} {ads : List Nat} {a b : rk_V} {va vb : Value} {q : rk_V × List rk_T} (hE : rk_E env vals) (ha : rk_g vals ads a va) (hb : rk_g vals ads b vb) (h : rk_bin f g env a b = some q) :
    ∃ (x y : Int32) (k : List Value), va = .int x ∧ vb = .int y ∧ rk_E q.2 (vals ++ k) ∧ rk_g (vals ++ k) ads q.1 (.int (f x y)) := by
  have key : ∀ I J, rk_iv env a = some I → rk_iv env b = some J → rk_fi env (g I J) = q → ∃ (x y : Int32) (k : List Value), va = .int x ∧ vb = .int y ∧ rk_E q.2 (vals ++ k) ∧ rk_g (vals ++ k) ads q.1 (.int (f x y)) := by
    intro I J hi hj hq
    obtain ⟨x, rfl, h1, h2⟩ := rk_iv_ok hE ha hi
    obtain ⟨y, rfl, h3, h4⟩ := rk_iv_ok hE hb hj
    obtain ⟨h5, h6⟩ := hs x y I J h1 h2 h3 h4
    obtain ⟨k, hk, hg⟩ := rk_fi_ok ads (I := g I J) hE h5 h6
    rw [hq] at hk hg
    exact ⟨x, y, k, rfl, rfl, hk, hg⟩
  unfold rk_bin at h
  split at h
  · cases h
    have ha : va = _ := ha
    have hb : vb = _ := hb
    subst ha; subst hb
    exact ⟨_, _, [], rfl, rfl, by simpa using hE, rfl⟩
  · split at h
    · next I J hi hj => exact key I J hi hj (Option.some.inj h)
    · cases h
theorem rk_un_ok {f : Int32 → Int32} {I0 : Int × Int} (hs : ∀ x, I0.1 ≤ (f x).toInt ∧ (f x).toInt ≤ I0.2) {env : List rk_T} {vals : List Value} {ads : List Nat} {a : rk_V} {va : Value} {q : rk_V × List rk_T} (hE : rk_E env vals) (ha : rk_g vals ads a va) (h : rk_un f I0 env a = some q) :
    ∃ (x : Int32) (k : List Value), va = .int x ∧ rk_E q.2 (vals ++ k) ∧ rk_g (vals ++ k) ads q.1 (.int (f x)) := by
  unfold rk_un at h
  split at h
  · cases h
    have ha : va = _ := ha
    subst ha
    exact ⟨_, [], rfl, by simpa using hE, rfl⟩
  · split at h
    · next I hi =>
      cases h
      obtain ⟨x, rfl, h1, h2⟩ := rk_iv_ok hE ha hi
      obtain ⟨k, hk, hg⟩ := rk_fi_ok ads (I := I0) hE (hs x).1 (hs x).2
      exact ⟨x, k, rfl, hk, hg⟩
    · cases h
theorem rk_lbin_ok {f : Int64 → Int64 → Int64} {env : List rk_T} {vals : List Value} {ads : List Nat} {a b : rk_V} {va vb : Value} {q : rk_V × List rk_T} (hE : rk_E env vals) (ha : rk_g vals ads a va) (hb : rk_g vals ads b vb) (h : rk_lbin f env a b = some q) :
    ∃ (x y : Int64) (k : List Value), va = .long x ∧ vb = .long y ∧ rk_E q.2 (vals ++ k) ∧ rk_g (vals ++ k) ads q.1 (.long (f x y)) := by
  unfold rk_lbin at h
  split at h
  · cases h
    have ha : va = _ := ha
    have hb : vb = _ := hb
    subst ha; subst hb
    exact ⟨_, _, [], rfl, rfl, by simpa using hE, rfl⟩
  · split at h
    · next hl =>
      cases h
      rw [Bool.and_eq_true] at hl
      obtain ⟨x, rfl⟩ := rk_isL_ok hE ha hl.1
      obtain ⟨y, rfl⟩ := rk_isL_ok hE hb hl.2
      obtain ⟨k, hk, hg⟩ := rk_fl_ok ads (x := f x y) hE
      exact ⟨x, y, k, rfl, rfl, hk, hg⟩
    · cases h
theorem rk_lsh_ok {f : Int64 → Int32 → Int64} {env : List rk_T} {vals : List Value} {ads : List Nat} {a b : rk_V} {va vb : Value} {q : rk_V × List rk_T} (hE : rk_E env vals) (ha : rk_g vals ads a va) (hb : rk_g vals ads b vb) (h : rk_lsh f env a b = some q) :
    ∃ (x : Int64) (y : Int32) (k : List Value), va = .long x ∧ vb = .int y ∧ rk_E q.2 (vals ++ k) ∧ rk_g (vals ++ k) ads q.1 (.long (f x y)) := by
  unfold rk_lsh at h
  split at h
  · cases h
    have ha : va = _ := ha
    have hb : vb = _ := hb
    subst ha; subst hb
    exact ⟨_, _, [], rfl, rfl, by simpa using hE, rfl⟩
  · split at h
    · next hl =>
      cases h
      rw [Bool.and_eq_true, Option.isSome_iff_exists] at hl
      obtain ⟨hl, J, hj⟩ := hl
      obtain ⟨x, rfl⟩ := rk_isL_ok hE ha hl
      obtain ⟨y, rfl, -, -⟩ := rk_iv_ok hE hb hj
      obtain ⟨k, hk, hg⟩ := rk_fl_ok ads (x := f x y) hE
      exact ⟨x, y, k, rfl, rfl, hk, hg⟩
    · cases h
