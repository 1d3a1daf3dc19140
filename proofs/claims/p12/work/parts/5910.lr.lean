/-! ===== the law: a run of its calls over two worlds bound by a relation ===== -/
/-- as lq_V; (8, k): what the class gave, (9, k): what the model gave (k 0 an int, 1 a long) -/
def lr_g (b ax am i : Nat) (xs : Nat → Int32) (u w : Value) (a : lq_V) (v : Value) : Prop := match a.1 with
  | 0 => v = .int (xs (i + a.2))
  | 1 => v = .int (nI a.2)
  | 2 => v = .ref b
  | 3 => v = .ref ax
  | 4 => v = .ref am
  | 5 => v = .int (nI (i + a.2))
  | 6 => ∃ x : Int32, v = .int x
  | 7 => ∃ x : Int64, v = .long x
  | 8 => v = u ∧ lr_ty a.2 v
  | 9 => v = w ∧ lr_ty a.2 v
  | _ => False
def lr_int (a : lq_V) : Bool := lq_int a || ((Nat.beq a.1 8 || Nat.beq a.1 9) && Nat.beq a.2 0)
def lr_lng (a : lq_V) : Bool := Nat.beq a.1 7 || ((Nat.beq a.1 8 || Nat.beq a.1 9) && Nat.beq a.2 1)
def lr_cat (a : lq_V) : Nat := cond (Nat.beq a.1 7 || ((Nat.beq a.1 8 || Nat.beq a.1 9) && Nat.beq a.2 1)) 2 1
def lr_sum : List lq_V → Nat
  | [] => 0
  | a :: r => lr_cat a + lr_sum r
/-- a number known may stand for one unknown -/
def lr_le (a r : lq_V) : Bool := (Nat.beq a.1 r.1 && Nat.beq a.2 r.2) || (Nat.beq r.1 6 && lq_int a)
def lr_les : List lq_V → List lq_V → Bool
  | [], [] => true
  | a :: as, r :: rs => lr_le a r && lr_les as rs
  | _, _ => false
theorem lr_les_ok {b ax am i : Nat} {xs : Nat → Int32} : ∀ {as rs : List lq_V} {av : List Value}, lr_les as rs = true → rk_A2 (lq_g b ax am i xs) as av → rk_A2 (lq_g b ax am i xs) rs av := by
  intro as
  induction as with
  | nil =>
    intro rs av h hg
    cases rs with
    | nil => exact hg
    | cons r rs => cases h
  | cons a as ih =>
    intro rs av h hg
    cases rs with
    | nil => cases h
    | cons r rs =>
      obtain ⟨v, k, rfl, g1, g2⟩ := hg.cons
      have h := Bool.and_eq_true_iff.mp (show (lr_le a r && lr_les as rs) = true from h)
      refine ⟨?_, ih h.2 g2⟩
      rcases Bool.or_eq_true_iff.mp (show ((Nat.beq a.1 r.1 && Nat.beq a.2 r.2) || (Nat.beq r.1 6 && lq_int a)) = true from h.1) with h1 | h1
      · have h1 := Bool.and_eq_true_iff.mp h1
        have e : a = r := Prod.ext (Nat.eq_of_beq_eq_true h1.1) (Nat.eq_of_beq_eq_true h1.2)
        rw [← e]
        exact g1
      · have h1 := Bool.and_eq_true_iff.mp h1
        have e := Nat.eq_of_beq_eq_true h1.1
        have hx : ∃ x : Int32, v = .int x := by
          have h2 := h1.2
          obtain ⟨k, j⟩ := a
          unfold lq_int at h2
          simp only [Bool.or_eq_true, Nat.beq_eq] at h2
          rcases h2 with rfl | rfl | rfl | rfl
          · exact ⟨_, g1⟩
          · exact ⟨_, g1⟩
          · exact ⟨_, g1⟩
          · exact g1
        obtain ⟨k, j⟩ := r
        have e : k = 6 := e
        subst e
        exact hx
/-- a row: the link's number, the method, its arguments' kinds and bounds, what it returns (0 an int, 1 a long), its arguments -/
abbrev lr_R : Type := Nat × Nat × List Nat × List tk_I × Nat × List lq_V
def lr_call (B : Nat → tk_I) (side : Nat) (r : lr_R) (idx : Nat) (st : List lq_V) : Option (List lq_V) := match rk_lk gk_lk12 idx with
  | some (kd, f, n) => (match lq_pop n [] st with
    | some (as, a :: rest) => if (r.1 = idx ∧ kd = 5 ∧ f = r.2.1 ∧ n = r.2.2.1.length ∧ gk_mci[f]? = some (cond (Nat.beq side 3) 11 12)) ∧ a.1 = side ∧ (lq_fits B as r.2.2.1 r.2.2.2.1 = true ∧ lr_les as r.2.2.2.2.2 = true ∧ as.all (fun a => Nat.ble a.1 7) = true) ∧ lr_sum rest ≤ 8 ∧ rest.all (fun a => Nat.ble a.1 (cond (Nat.beq side 3) 7 8)) = true then some rest else none
    | _ => none)
  | none => none
section LRG
variable {b ax am i : Nat} {xs : Nat → Int32} {u w : Value}
theorem lr_lq {a : lq_V} {v : Value} (h : Nat.ble a.1 7 = true) (hg : lr_g b ax am i xs u w a v) : lq_g b ax am i xs a v := by
  have h := Nat.le_of_ble_eq_true h
  obtain ⟨k, j⟩ := a
  have h : k ≤ 7 := h
  rcases (by omega : k = 0 ∨ k = 1 ∨ k = 2 ∨ k = 3 ∨ k = 4 ∨ k = 5 ∨ k = 6 ∨ k = 7) with rfl | rfl | rfl | rfl | rfl | rfl | rfl | rfl
  all_goals exact hg
theorem lr_lqs : ∀ {as : List lq_V} {av : List Value}, as.all (fun a => Nat.ble a.1 7) = true → rk_A2 (lr_g b ax am i xs u w) as av → rk_A2 (lq_g b ax am i xs) as av := by
  intro as
  induction as with
  | nil => intro av _ h; rw [h.nil]; trivial
  | cons a as ih =>
    intro av h hg
    obtain ⟨v, k, rfl, g1, g2⟩ := hg.cons
    have h := Bool.and_eq_true_iff.mp (show (Nat.ble a.1 7 && as.all (fun a => Nat.ble a.1 7)) = true from h)
    exact ⟨lr_lq h.1 g1, ih h.2 g2⟩
theorem lr_tr {u' w' : Value} {n : Nat} (hn : n = 7 ∨ n = 8 ∧ u' = u) : ∀ {as : List lq_V} {av : List Value}, as.all (fun a => Nat.ble a.1 n) = true → rk_A2 (lr_g b ax am i xs u w) as av → rk_A2 (lr_g b ax am i xs u' w') as av := by
  intro as
  induction as with
  | nil => intro av _ h; rw [h.nil]; trivial
  | cons a as ih =>
    intro av h hg
    obtain ⟨v, k, rfl, g1, g2⟩ := hg.cons
    have h := Bool.and_eq_true_iff.mp (show (Nat.ble a.1 n && as.all (fun a => Nat.ble a.1 n)) = true from h)
    refine ⟨?_, ih h.2 g2⟩
    have h1 := Nat.le_of_ble_eq_true h.1
    obtain ⟨k, j⟩ := a
    have h1 : k ≤ n := h1
    rcases (by omega : k = 0 ∨ k = 1 ∨ k = 2 ∨ k = 3 ∨ k = 4 ∨ k = 5 ∨ k = 6 ∨ k = 7 ∨ k = 8 ∧ n = 8) with rfl | rfl | rfl | rfl | rfl | rfl | rfl | rfl | ⟨rfl, e⟩
    all_goals first
      | exact g1
      | (rcases hn with hn | ⟨-, hn⟩
         · omega
         · rw [hn]; exact g1)
theorem lr_int_ok {a : lq_V} {v : Value} (h : lr_int a = true) (hg : lr_g b ax am i xs u w a v) : ∃ x : Int32, v = .int x := by
  obtain ⟨k, j⟩ := a
  unfold lr_int lq_int at h
  simp only [Bool.or_eq_true, Bool.and_eq_true, Nat.beq_eq] at h
  rcases h with (rfl | rfl | rfl | rfl) | ⟨rfl | rfl, rfl⟩
  · exact ⟨_, hg⟩
  · exact ⟨_, hg⟩
  · exact ⟨_, hg⟩
  · exact hg
  · exact hg.2
  · exact hg.2
theorem lr_lng_ok {a : lq_V} {v : Value} (h : lr_lng a = true) (hg : lr_g b ax am i xs u w a v) : ∃ x : Int64, v = .long x := by
  obtain ⟨k, j⟩ := a
  unfold lr_lng at h
  simp only [Bool.or_eq_true, Bool.and_eq_true, Nat.beq_eq] at h
  rcases h with rfl | ⟨rfl | rfl, rfl⟩
  · exact hg
  · exact hg.2
  · exact hg.2
theorem lr_cat_ok {a : lq_V} {v : Value} (hg : lr_g b ax am i xs u w a v) : v.category = lr_cat a := by
  obtain ⟨k, j⟩ := a
  have hz : ∀ j, lr_ty j v → j = 0 ∧ v.category = 1 ∨ j = 1 ∧ v.category = 2 := by
    intro j h
    match j, h with
    | 0, ⟨x, e⟩ => exact Or.inl ⟨rfl, by rw [e]; rfl⟩
    | 1, ⟨x, e⟩ => exact Or.inr ⟨rfl, by rw [e]; rfl⟩
  match k, hg with
  | 0, hg => rw [show v = _ from hg]; rfl
  | 1, hg => rw [show v = _ from hg]; rfl
  | 2, hg => rw [show v = _ from hg]; rfl
  | 3, hg => rw [show v = _ from hg]; rfl
  | 4, hg => rw [show v = _ from hg]; rfl
  | 5, hg => rw [show v = _ from hg]; rfl
  | 6, hg => obtain ⟨x, rfl⟩ := hg; rfl
  | 7, hg => obtain ⟨x, rfl⟩ := hg; rfl
  | 8, hg =>
    rcases hz j hg.2 with ⟨rfl, h⟩ | ⟨rfl, h⟩
    · exact h
    · exact h
  | 9, hg =>
    rcases hz j hg.2 with ⟨rfl, h⟩ | ⟨rfl, h⟩
    · exact h
    · exact h
theorem lr_sum_ok : ∀ {r : List lq_V} {stk : List Value}, rk_A2 (lr_g b ax am i xs u w) r stk → (stk.map fun v => v.category).sum = lr_sum r := by
  intro r
  induction r with
  | nil => intro stk h; rw [h.nil]; rfl
  | cons a r ih =>
    intro stk h
    obtain ⟨v, k, rfl, hg, hs⟩ := h.cons
    simp [lr_sum, lr_cat_ok hg, ih hs]
end LRG

def lr_step (B : Nat → tk_I) (rC rM : lr_R) (cmp : Bool) (ph pc : Nat) (ins : Instr) (st : List lq_V) : Option (List (Nat × Nat × List lq_V)) := match ins with
  | .aload_n k => if (k : Nat) = 0 then some [(ph, pc + 1, (2, 0) :: st)] else if (k : Nat) = 1 then some [(ph, pc + 1, (3, 0) :: st)] else if (k : Nat) = 2 then some [(ph, pc + 1, (4, 0) :: st)] else none
  | .iload_n k => if (k : Nat) = 3 then some [(ph, pc + 1, (5, 0) :: st)] else none
  | .iconst n => if 0 ≤ n ∧ n ≤ 5 then some [(ph, pc + 1, (1, n.toNat) :: st)] else none
  | .bipush _ => some [(ph, pc + 2, (6, 0) :: st)]
  | .iadd => match st with
    | (1, k) :: (5, j) :: r => if k ≤ 5 ∧ j ≤ 5 then some [(ph, pc + 1, (5, j + k) :: r)] else none
    | _ => none
  | .iaload => match st with
    | (5, k) :: (2, _) :: r => if k < 6 then some [(ph, pc + 1, (0, k) :: r)] else none
    | _ => none
  | .i2l => match st with
    | a :: r => if lr_int a = true then some [(ph, pc + 1, (7, 0) :: r)] else none
    | _ => none
  | .lshl => match st with
    | a :: (7, _) :: r => if lr_int a = true then some [(ph, pc + 1, (7, 0) :: r)] else none
    | _ => none
  | .land => match st with
    | (7, _) :: (7, _) :: r => some [(ph, pc + 1, (7, 0) :: r)]
    | _ => none
  | .lor => match st with
    | (7, _) :: (7, _) :: r => some [(ph, pc + 1, (7, 0) :: r)]
    | _ => none
  | .ldc2_w idx => match rk_cst gk_lcs idx with
    | some (.long _) => some [(ph, pc + 3, (7, 0) :: st)]
    | _ => none
  | .pop => match st with
    | a :: r => if lr_int a = true then some [(ph, pc + 1, r)] else none
    | _ => none
  | .pop2 => match st with
    | a :: r => if lr_lng a = true then some [(ph, pc + 1, r)] else none
    | _ => none
  | .lcmp => match st with
    | (9, 1) :: (8, 1) :: r => if ph = 2 ∧ cmp = true then some [(ph, pc + 1, (1, 0) :: r)] else none
    | _ => none
  | .goto off => if 0 ≤ (pc : Int) + off then some [(ph, ((pc : Int) + off).toNat, st)] else none
  | .ifCond .eq off => match st with
    | a :: r => if a = (1, 0) ∧ 0 ≤ (pc : Int) + off then some [(ph, ((pc : Int) + off).toNat, r)] else if lr_int a = true ∧ 0 ≤ (pc : Int) + off then some [(ph, ((pc : Int) + off).toNat, r), (ph, pc + 3, r)] else none
    | _ => none
  | .if_icmp .eq off => match st with
    | (9, 0) :: (8, 0) :: r => if (ph = 2 ∧ cmp = true) ∧ 0 ≤ (pc : Int) + off then some [(ph, ((pc : Int) + off).toNat, r)] else none
    | _ => none
  | .invokevirtual idx => match ph with
    | 0 => (match lr_call B 3 rC idx st with
      | some rest => some [(1, pc + 3, (8, rC.2.2.2.2.1) :: rest)]
      | none => none)
    | 1 => (match lr_call B 4 rM idx st with
      | some rest => some [(2, pc + 3, (9, rM.2.2.2.2.1) :: rest)]
      | none => none)
    | _ => none
  | _ => none

def lr_run (B : Nat → tk_I) (rC rM : lr_R) (cmp : Bool) (li : List (Nat × Instr × Nat)) (stop : Nat) : Nat → Nat → Nat → List lq_V → Bool
  | 0, _, _, _ => false
  | n + 1, ph, pc, st => cond (Nat.beq pc stop) (st.isEmpty && Nat.beq ph 2) (match lq_at li pc with
    | some (ins, len) => rk_len ins len && (match lr_step B rC rM cmp ph pc ins st with
      | some l => l.all (fun q => lr_run B rC rM cmp li stop n q.1 q.2.1 q.2.2)
      | none => false)
    | none => false)

section LRS
variable {p : Program} {l : Launch} {e : Env} {R : Room} {s : State} {m : MethodId} {args : Array Value} {below : List Frame} {meth : Method} {c : Code} {Q : State → Prop} {D : va_G} {Ad : Nat → Prop} {xt : tk_XT} {b ax am i L nc ns : Nat} {xs : Nat → Int32} {adC adM : List Nat}
/-- where the case stands: 0 ahead of its calls, 1 behind the class's, 2 behind both -/
def lr_ph (b ax am i : Nat) (xs : Nat → Int32) (RR : va_W → va_W → Prop) (asC asM : List lq_V) (QC QM : List Value → va_W → va_W → Value → Prop) (u w : Value) (ph : Nat) : va_W → va_W → Prop := match ph with
  | 0 => RR
  | 1 => fun c m => ∃ (c0 : va_W) (av : List Value), RR c0 m ∧ rk_A2 (lq_g b ax am i xs) asC av ∧ QC av c0 c u
  | _ => fun c m => ∃ (c0 m0 : va_W) (av av2 : List Value), RR c0 m0 ∧ (rk_A2 (lq_g b ax am i xs) asC av ∧ QC av c0 c u) ∧ rk_A2 (lq_g b ax am i xs) asM av2 ∧ QM av2 m0 m w
/-- both worlds stand, and what binds them -/
def lr_J (s : State) (D : va_G) (Ad : Nat → Prop) (adC adM : List Nat) (F : va_W → va_W → Prop) (H : Heap) (locs : List Loc) : Prop := ∃ wc wm : va_W, lw_T gc_TY h3_X adC lw_twC s D Ad H wc ∧ lw_T gn_TY (gn_X lw_twM) adM lw_twM s D Ad H wm ∧ va_S Ad s.heap H locs ∧ F wc wm
def lr_St (K : rk_K) (s : State) (D : va_G) (Ad : Nat → Prop) (adC adM : List Nat) (F : va_W → va_W → Prop) (b ax am i : Nat) (xs : Nat → Int32) (u w : Value) (nc ns pc : Nat) (st : List lq_V) : Prop := ∀ (H : Heap) (locs : List Loc) (ls : Array Slot) (stk : List Value), lr_J s D Ad adC adM F H locs → lv_has ls 4 (lw_lc b ax am i) → rk_A2 (lr_g b ax am i xs u w) st stk → K pc ls stk H locs nc ns
set_option maxHeartbeats 8000000 in
theorem lr_step_ok (hxt : tk_xtok xt) (hXt : xt Ad s s.heap) (hx : p.tables.exec = Jvm.exec) (hb : c.code = code) (hml : c.maxLocals = 4) (hF : rk_Fr s m args meth D gk_cl Ad gk_tbl gk_xw gk_fty gk_cln "GooseIceLaw" gk_lk12 gk_lcs) (hfr : 21 ≤ R.frames) (hlo : 840 ≤ R.locals) (hX : va_X b L xs s s.heap) (hbl : b < s.heap.size) (hbA : ¬ Ad b) (hL : L < 2147483648) (hi : i + 6 ≤ L) (hdis : ∀ x ∈ adM, ¬ x ∈ adC) (haC : tk_ty adC lw_twC 0 ax) (haM : tk_ty adM lw_twM 0 am) (hnc : nc ≤ R.cells) (hns : ns ≤ R.slots)
    {B : Nat → tk_I} (hB : ∀ k, (B k).1 ≤ (xs (i + k)).toInt ∧ (xs (i + k)).toInt ≤ (B k).2) {rC rM : lr_R} {RR : va_W → va_W → Prop} {QC QM : List Value → va_W → va_W → Value → Prop} {cmp : Bool} (hTC : lw_sem l D xt gc_TY h3_X adC lw_twC 20 rC.2.1 rC.2.2.1 rC.2.2.2.1 QC) (hTM : lw_sem l D xt gn_TY (gn_X lw_twM) adM lw_twM 20 rM.2.1 rM.2.2.1 rM.2.2.2.1 QM) (hyC : ∀ av c0 c1 v, QC av c0 c1 v → lr_ty rC.2.2.2.2.1 v) (hyM : ∀ av c0 c1 v, QM av c0 c1 v → lr_ty rM.2.2.2.2.1 v) (hcmp : cmp = true → ∀ (av av2 : List Value) (c0 c1 m0 m1 : va_W) (u w : Value), RR c0 m0 → rk_A2 (lq_g b ax am i xs) rC.2.2.2.2.2 av → QC av c0 c1 u → rk_A2 (lq_g b ax am i xs) rM.2.2.2.2.2 av2 → QM av2 m0 m1 w → u = w) {ph pc : Nat} {ins : Instr} {len : Nat} {u w : Value} {st : List lq_V} {res : List (Nat × Nat × List lq_V)} (hdg : decode code pc = .ok (ins, len)) (hlen : rk_len ins len = true) (h : lr_step B rC rM cmp ph pc ins st = some res) (kk : ∀ q ∈ res, ∀ u w : Value, lr_St (rk_KW p l e R s m args below meth c Q) s D Ad adC adM (lr_ph b ax am i xs RR rC.2.2.2.2.2 rM.2.2.2.2.2 QC QM u w q.1) b ax am i xs u w nc ns q.2.1 q.2.2) : lr_St (rk_KW p l e R s m args below meth c Q) s D Ad adC adM (lr_ph b ax am i xs RR rC.2.2.2.2.2 rM.2.2.2.2.2 QC QM u w ph) b ax am i xs u w nc ns pc st := by
  intro H locs ls stk hJ hl hS
  obtain ⟨wc, wm, hC, hM, hS0, hRR⟩ := id hJ
  cases ins
  case aload_n k =>
    simp [rk_len] at hlen; subst hlen
    simp only [lr_step] at h
    split at h
    · next e => cases h; exact lv_aload_n hx hb hdg e (lv_at hl 3 rfl) (kk _ (List.mem_singleton.mpr rfl) u w H locs ls _ hJ hl ⟨rfl, hS⟩)
    · split at h
      · next e => cases h; exact lv_aload_n hx hb hdg e (lv_at hl 2 rfl) (kk _ (List.mem_singleton.mpr rfl) u w H locs ls _ hJ hl ⟨rfl, hS⟩)
      · split at h
        · next e => cases h; exact lv_aload_n hx hb hdg e (lv_at hl 1 rfl) (kk _ (List.mem_singleton.mpr rfl) u w H locs ls _ hJ hl ⟨rfl, hS⟩)
        · cases h
  case iload_n k =>
    simp [rk_len] at hlen; subst hlen
    simp only [lr_step] at h
    split at h
    · next e => cases h; exact lv_iload_n hx hb hdg e (lv_at hl 0 rfl) (kk _ (List.mem_singleton.mpr rfl) u w H locs ls _ hJ hl ⟨rfl, hS⟩)
    · cases h
  case iconst n =>
    simp [rk_len] at hlen; subst hlen
    simp only [lr_step] at h
    split at h
    · next e =>
      cases h
      have hv : Int32.ofInt n = nI n.toNat := by
        rcases (by omega : n = 0 ∨ n = 1 ∨ n = 2 ∨ n = 3 ∨ n = 4 ∨ n = 5) with rfl | rfl | rfl | rfl | rfl | rfl <;> rfl
      exact lv_iconst hx hb hdg hv (kk _ (List.mem_singleton.mpr rfl) u w H locs ls _ hJ hl ⟨rfl, hS⟩)
    · cases h
  case bipush n =>
    simp [rk_len] at hlen; subst hlen
    simp only [lr_step] at h
    cases h
    exact lv_bipush hx hb hdg rfl (kk _ (List.mem_singleton.mpr rfl) u w H locs ls _ hJ hl ⟨⟨_, rfl⟩, hS⟩)
  case iadd =>
    simp [rk_len] at hlen; subst hlen
    simp only [lr_step] at h
    split at h
    · next k j r =>
      split at h
      · next e =>
        cases h
        obtain ⟨v1, k1, rfl, g1, hS1⟩ := hS.cons
        obtain ⟨v2, k2, rfl, g2, hS2⟩ := hS1.cons
        have g1 : v1 = .int (nI k) := g1
        have g2 : v2 = .int (nI (i + j)) := g2
        subst g1 g2
        refine lv_iadd hx hb hdg (kk _ (List.mem_singleton.mpr rfl) u w H locs ls _ hJ hl ⟨?_, hS2⟩)
        show Value.int (nI (i + j) + nI k) = .int (nI (i + (j + k)))
        rw [nI_add, Nat.add_assoc]
      · cases h
    · cases h
  case iaload =>
    simp [rk_len] at hlen; subst hlen
    simp only [lr_step] at h
    split at h
    · next k j r =>
      split at h
      · next e =>
        cases h
        obtain ⟨v1, k1, rfl, g1, hS1⟩ := hS.cons
        obtain ⟨v2, k2, rfl, g2, hS2⟩ := hS1.cons
        have g1 : v1 = .int (nI (i + k)) := g1
        have g2 : v2 = .ref b := g2
        subst g1 g2
        have hin : vp_in (nI (i + k)) L := vp_in_iff.mpr (by rw [nI_i32 (by omega)]; omega)
        refine va_sld hx hb hX hbl hbA hS0 hin hdg (kk _ (List.mem_singleton.mpr rfl) u w H locs ls _ hJ hl ⟨?_, hS2⟩)
        show Value.int (xs (nI (i + k)).toNatClampNeg) = .int (xs (i + k))
        rw [show (nI (i + k)).toNatClampNeg = i + k from nI_clamp (by omega)]
      · cases h
    · cases h
  case i2l =>
    simp [rk_len] at hlen; subst hlen
    simp only [lr_step] at h
    split at h
    · next a r =>
      split at h
      · next e =>
        cases h
        obtain ⟨v1, k1, rfl, g1, hS1⟩ := hS.cons
        obtain ⟨x, rfl⟩ := lr_int_ok e g1
        exact lv_i2l hx hb hdg rfl (kk _ (List.mem_singleton.mpr rfl) u w H locs ls _ hJ hl ⟨⟨_, rfl⟩, hS1⟩)
      · cases h
    · cases h
  case lshl =>
    simp [rk_len] at hlen; subst hlen
    simp only [lr_step] at h
    split at h
    · next a j r =>
      split at h
      · next e =>
        cases h
        obtain ⟨v1, k1, rfl, g1, hS1⟩ := hS.cons
        obtain ⟨v2, k2, rfl, ⟨y, rfl⟩, hS2⟩ := hS1.cons
        obtain ⟨x, rfl⟩ := lr_int_ok e g1
        exact lv_lshl hx hb hdg rfl (kk _ (List.mem_singleton.mpr rfl) u w H locs ls _ hJ hl ⟨⟨_, rfl⟩, hS2⟩)
      · cases h
    · cases h
  case land =>
    simp [rk_len] at hlen; subst hlen
    simp only [lr_step] at h
    split at h
    · cases h
      obtain ⟨v1, k1, rfl, ⟨x, rfl⟩, hS1⟩ := hS.cons
      obtain ⟨v2, k2, rfl, ⟨y, rfl⟩, hS2⟩ := hS1.cons
      exact lv_land hx hb hdg (kk _ (List.mem_singleton.mpr rfl) u w H locs ls _ hJ hl ⟨⟨_, rfl⟩, hS2⟩)
    · cases h
  case lor =>
    simp [rk_len] at hlen; subst hlen
    simp only [lr_step] at h
    split at h
    · cases h
      obtain ⟨v1, k1, rfl, ⟨x, rfl⟩, hS1⟩ := hS.cons
      obtain ⟨v2, k2, rfl, ⟨y, rfl⟩, hS2⟩ := hS1.cons
      exact lv_lor hx hb hdg (kk _ (List.mem_singleton.mpr rfl) u w H locs ls _ hJ hl ⟨⟨_, rfl⟩, hS2⟩)
    · cases h
  case ldc2_w idx =>
    simp [rk_len] at hlen; subst hlen
    simp only [lr_step] at h
    split at h
    · next x hc1 =>
      cases h
      obtain ⟨hts, hxw, hown, hK, hA, hcl, hlk, hini, hac, hcs⟩ := hF
      exact lv_ldc2 hx hb hown (hts _ ((hcs _ (rk_cst_mem hc1)).2 x rfl)) hdg (kk _ (List.mem_singleton.mpr rfl) u w H locs ls _ hJ hl ⟨⟨_, rfl⟩, hS⟩)
    · cases h
  case pop =>
    simp [rk_len] at hlen; subst hlen
    simp only [lr_step] at h
    split at h
    · next a r =>
      split at h
      · next e =>
        cases h
        obtain ⟨v1, k1, rfl, g1, hS1⟩ := hS.cons
        obtain ⟨x, rfl⟩ := lr_int_ok e g1
        exact lv_pop hx hb hdg rfl (kk _ (List.mem_singleton.mpr rfl) u w H locs ls _ hJ hl hS1)
      · cases h
    · cases h
  case pop2 =>
    simp [rk_len] at hlen; subst hlen
    simp only [lr_step] at h
    split at h
    · next a r =>
      split at h
      · next e =>
        cases h
        obtain ⟨v1, k1, rfl, g1, hS1⟩ := hS.cons
        obtain ⟨x, rfl⟩ := lr_lng_ok e g1
        exact lv_pop2_2 hx hb hdg rfl (kk _ (List.mem_singleton.mpr rfl) u w H locs ls _ hJ hl hS1)
      · cases h
    · cases h
  case lcmp =>
    simp [rk_len] at hlen; subst hlen
    simp only [lr_step] at h
    split at h
    · next r =>
      split at h
      · next e =>
        cases h
        obtain ⟨v1, k1, rfl, g1, hS1⟩ := hS.cons
        obtain ⟨v2, k2, rfl, g2, hS2⟩ := hS1.cons
        obtain ⟨g1, x, t1⟩ : v1 = w ∧ ∃ x : Int64, v1 = .long x := g1
        obtain ⟨g2, t2⟩ : v2 = u ∧ ∃ x : Int64, v2 = .long x := g2
        obtain ⟨rfl, hc⟩ := e
        obtain ⟨c0, m0, av, av2, z1, ⟨z2, z3⟩, z4, z5⟩ := hRR
        have huw := hcmp hc av av2 c0 wc m0 wm u w z1 z2 z3 z4 z5
        have hv : v1 = v2 := by rw [g1, g2, huw]
        rw [← hv, t1]
        refine W.lcmp hx hb hdg ?_
        refine kk _ (List.mem_singleton.mpr rfl) u w H locs ls _ hJ hl ⟨?_, hS2⟩
        show Value.int (lg_cmp x x) = .int (nI 0)
        have e0 : lg_cmp x x = 0 := by simp [lg_cmp]
        rw [e0]
        rfl
      · cases h
    · cases h
  case goto off =>
    simp [rk_len] at hlen; subst hlen
    simp only [lr_step] at h
    split at h
    · next e =>
      cases h
      exact lv_goto (tgt := ((pc : Int) + off).toNat) hx hb hdg (by omega) (kk _ (List.mem_singleton.mpr rfl) u w H locs ls _ hJ hl hS)
    · cases h
  case ifCond cnd off =>
    simp [rk_len] at hlen; subst hlen
    cases cnd
    case eq =>
      simp only [lr_step] at h
      split at h
      · next a r =>
        split at h
        · next e =>
          cases h
          obtain ⟨v1, k1, rfl, g1, hS1⟩ := hS.cons
          obtain ⟨rfl, e2⟩ := e
          have g1 : v1 = .int (nI 0) := g1
          subst g1
          exact lv_if_eq (tgt := ((pc : Int) + off).toNat) hx hb hdg (by omega) (fun _ => kk _ (List.mem_singleton.mpr rfl) u w H locs ls _ hJ hl hS1) (fun q => absurd rfl q)
        · split at h
          · next e =>
            cases h
            obtain ⟨v1, k1, rfl, g1, hS1⟩ := hS.cons
            obtain ⟨x, rfl⟩ := lr_int_ok e.1 g1
            exact lv_if_eq (tgt := ((pc : Int) + off).toNat) hx hb hdg (by omega) (fun _ => kk _ List.mem_cons_self u w H locs ls _ hJ hl hS1) (fun _ => kk _ (List.mem_cons_of_mem _ List.mem_cons_self) u w H locs ls _ hJ hl hS1)
          · cases h
      · cases h
    all_goals (simp [lr_step] at h)
  case if_icmp cnd off =>
    simp [rk_len] at hlen; subst hlen
    cases cnd
    case eq =>
      simp only [lr_step] at h
      split at h
      · next r =>
        split at h
        · next e =>
          cases h
          obtain ⟨v1, k1, rfl, g1, hS1⟩ := hS.cons
          obtain ⟨v2, k2, rfl, g2, hS2⟩ := hS1.cons
          obtain ⟨g1, x, t1⟩ : v1 = w ∧ ∃ x : Int32, v1 = .int x := g1
          obtain ⟨g2, t2⟩ : v2 = u ∧ ∃ x : Int32, v2 = .int x := g2
          obtain ⟨⟨rfl, hc⟩, e2⟩ := e
          obtain ⟨c0, m0, av, av2, z1, ⟨z2, z3⟩, z4, z5⟩ := hRR
          have huw := hcmp hc av av2 c0 wc m0 wm u w z1 z2 z3 z4 z5
          have hv : v1 = v2 := by rw [g1, g2, huw]
          rw [← hv, t1]
          exact lv_icmp_eq (tgt := ((pc : Int) + off).toNat) hx hb hdg (by omega) (fun _ => kk _ (List.mem_singleton.mpr rfl) u w H locs ls _ hJ hl hS2) (fun q => absurd rfl q)
        · cases h
      · cases h
    all_goals (simp [lr_step] at h)
  case invokevirtual idx =>
    simp [rk_len] at hlen; subst hlen
    simp only [lr_step] at h
    split at h
    · split at h
      · next rest hcl =>
        cases h
        unfold lr_call at hcl
        split at hcl
        · next kd f n hlk =>
          split at hcl
          · next as a rest' hpop =>
            split at hcl
            · next hc =>
              cases hcl
              obtain ⟨⟨rfl, rfl, rfl, rfl, hmc⟩, ha1, ⟨hfit, has, h7⟩, hsum, hrw⟩ := hc
              obtain ⟨v2, r2, ha, hr, rfl, hn⟩ := lq_pop_ok rC.2.2.1.length hpop (show rk_A2 (lr_g b ax am i xs u w) [] [] from trivial) hS
              rw [List.append_nil] at ha
              obtain ⟨vr, stk', rfl, hgr, hS1⟩ := hr.cons
              have ha := lr_lqs h7 ha
              obtain ⟨hav, hke⟩ := lq_fits_ok hB ha hfit
              have hsum' : (stk'.map fun v => v.category).sum ≤ 8 := by rw [lr_sum_ok hS1]; exact hsum
              have hvr : vr = .ref ax := by
                unfold lr_g at hgr
                rw [ha1] at hgr
                exact hgr
              subst hvr
              refine lw_call2 (lc := lw_lc b ax am i) hxt hXt hx hb hml hF (fun r hr => (gk_lkok12 r hr).2.1) hdis hTC hfr (by omega) (o1 := (11, _)) rfl hmc haC hlk rfl hke hav hsum' hdg hnc hns hl hC hM hS0 (fun ws1' H' locs' v hQ h1' h2' hS' => ?_)
              refine kk _ (List.mem_singleton.mpr rfl) v w H' locs' ls _ ⟨ws1', wm, h1', h2', hS', ?_⟩ hl ⟨⟨rfl, hyC _ _ _ _ hQ⟩, lr_tr (Or.inl rfl) hrw hS1⟩
              exact ⟨wc, v2, hRR, lr_les_ok has ha, hQ⟩
            · cases hcl
          · cases hcl
        · cases hcl
      · cases h
    · split at h
      · next rest hcl =>
        cases h
        unfold lr_call at hcl
        split at hcl
        · next kd f n hlk =>
          split at hcl
          · next as a rest' hpop =>
            split at hcl
            · next hc =>
              cases hcl
              obtain ⟨⟨rfl, rfl, rfl, rfl, hmc⟩, ha1, ⟨hfit, has, h7⟩, hsum, hrw⟩ := hc
              obtain ⟨v2, r2, ha, hr, rfl, hn⟩ := lq_pop_ok rM.2.2.1.length hpop (show rk_A2 (lr_g b ax am i xs u w) [] [] from trivial) hS
              rw [List.append_nil] at ha
              obtain ⟨vr, stk', rfl, hgr, hS1⟩ := hr.cons
              have ha := lr_lqs h7 ha
              obtain ⟨hav, hke⟩ := lq_fits_ok hB ha hfit
              have hsum' : (stk'.map fun v => v.category).sum ≤ 8 := by rw [lr_sum_ok hS1]; exact hsum
              have hvr : vr = .ref am := by
                unfold lr_g at hgr
                rw [ha1] at hgr
                exact hgr
              subst hvr
              refine lw_call2 (lc := lw_lc b ax am i) hxt hXt hx hb hml hF (fun r hr => (gk_lkok12 r hr).2.1) (fun x h1 h2 => hdis x h2 h1) hTM hfr (by omega) (o1 := (12, _)) rfl hmc haM hlk rfl hke hav hsum' hdg hnc hns hl hM hC hS0 (fun ws1' H' locs' v hQ h1' h2' hS' => ?_)
              refine kk _ (List.mem_singleton.mpr rfl) u v H' locs' ls _ ⟨wc, ws1', h2', h1', hS', ?_⟩ hl ⟨⟨rfl, hyM _ _ _ _ hQ⟩, lr_tr (Or.inr ⟨rfl, rfl⟩) hrw hS1⟩
              obtain ⟨c0, av, z1, z2, z3⟩ := hRR
              exact ⟨c0, wm, av, v2, z1, ⟨z2, z3⟩, lr_les_ok has ha, hQ⟩
            · cases hcl
          · cases hcl
        · cases hcl
      · cases h
    · cases h
  all_goals (simp [lr_step] at h)

theorem lr_run_ok (hxt : tk_xtok xt) (hXt : xt Ad s s.heap) (hx : p.tables.exec = Jvm.exec) (hb : c.code = code) (hml : c.maxLocals = 4) (hF : rk_Fr s m args meth D gk_cl Ad gk_tbl gk_xw gk_fty gk_cln "GooseIceLaw" gk_lk12 gk_lcs) (hfr : 21 ≤ R.frames) (hlo : 840 ≤ R.locals) (hX : va_X b L xs s s.heap) (hbl : b < s.heap.size) (hbA : ¬ Ad b) (hL : L < 2147483648) (hi : i + 6 ≤ L) (hdis : ∀ x ∈ adM, ¬ x ∈ adC) (haC : tk_ty adC lw_twC 0 ax) (haM : tk_ty adM lw_twM 0 am) (hnc : nc ≤ R.cells) (hns : ns ≤ R.slots)
    {B : Nat → tk_I} (hB : ∀ k, (B k).1 ≤ (xs (i + k)).toInt ∧ (xs (i + k)).toInt ≤ (B k).2) {rC rM : lr_R} {RR : va_W → va_W → Prop} {QC QM : List Value → va_W → va_W → Value → Prop} {cmp : Bool} (hTC : lw_sem l D xt gc_TY h3_X adC lw_twC 20 rC.2.1 rC.2.2.1 rC.2.2.2.1 QC) (hTM : lw_sem l D xt gn_TY (gn_X lw_twM) adM lw_twM 20 rM.2.1 rM.2.2.1 rM.2.2.2.1 QM) (hyC : ∀ av c0 c1 v, QC av c0 c1 v → lr_ty rC.2.2.2.2.1 v) (hyM : ∀ av c0 c1 v, QM av c0 c1 v → lr_ty rM.2.2.2.2.1 v) (hcmp : cmp = true → ∀ (av av2 : List Value) (c0 c1 m0 m1 : va_W) (u w : Value), RR c0 m0 → rk_A2 (lq_g b ax am i xs) rC.2.2.2.2.2 av → QC av c0 c1 u → rk_A2 (lq_g b ax am i xs) rM.2.2.2.2.2 av2 → QM av2 m0 m1 w → u = w) (hend : ∀ (av av2 : List Value) (c0 c1 m0 m1 : va_W) (u w : Value), RR c0 m0 → rk_A2 (lq_g b ax am i xs) rC.2.2.2.2.2 av → QC av c0 c1 u → rk_A2 (lq_g b ax am i xs) rM.2.2.2.2.2 av2 → QM av2 m0 m1 w → RR c1 m1) {li : List (Nat × Instr × Nat)} (hli : ∀ r ∈ li, decode code r.1 = .ok r.2) {stop : Nat} (hstop : ∀ u w : Value, lr_St (rk_KW p l e R s m args below meth c Q) s D Ad adC adM RR b ax am i xs u w nc ns stop []) : ∀ (n ph pc : Nat) (u w : Value) (st : List lq_V), lr_run B rC rM cmp li stop n ph pc st = true → lr_St (rk_KW p l e R s m args below meth c Q) s D Ad adC adM (lr_ph b ax am i xs RR rC.2.2.2.2.2 rM.2.2.2.2.2 QC QM u w ph) b ax am i xs u w nc ns pc st := by
  intro n
  induction n with
  | zero => intro ph pc u w st h; cases h
  | succ n ih =>
    intro ph pc u w st h
    unfold lr_run at h
    cases hb1 : Nat.beq pc stop with
    | true =>
      rw [hb1] at h
      have h := Bool.and_eq_true_iff.mp (show (st.isEmpty && Nat.beq ph 2) = true from h)
      rw [Nat.eq_of_beq_eq_true hb1, List.isEmpty_iff.mp h.1, Nat.eq_of_beq_eq_true h.2]
      intro H locs ls stk hJ hl hS
      obtain ⟨wc, wm, hC, hM, hS0, c0, m0, av, av2, z1, ⟨z2, z3⟩, z4, z5⟩ := hJ
      exact hstop u w H locs ls stk ⟨wc, wm, hC, hM, hS0, hend av av2 c0 wc m0 wm u w z1 z2 z3 z4 z5⟩ hl hS
    | false =>
      rw [hb1] at h
      dsimp only [cond] at h
      split at h
      · next ins len hat =>
        rw [Bool.and_eq_true] at h
        obtain ⟨h1, h2⟩ := h
        split at h2
        · next res hres =>
          have hdg : decode code pc = .ok (ins, len) := hli (pc, ins, len) (lq_at_ok hat)
          refine lr_step_ok (pc := pc) (ins := ins) (len := len) (st := st) (res := res) hxt hXt hx hb hml hF hfr hlo hX hbl hbA hL hi hdis haC haM hnc hns hB hTC hTM hyC hyM hcmp hdg h1 hres (fun q hq u w => ?_)
          exact ih q.1 q.2.1 u w q.2.2 (List.all_eq_true.mp h2 q hq)
        · cases h2
      · cases h
end LRS
theorem lr_same {b ax am i : Nat} {xs : Nat → Int32} : ∀ {as : List lq_V} {av av2 : List Value}, as.all (fun a => Nat.ble a.1 5) = true → rk_A2 (lq_g b ax am i xs) as av → rk_A2 (lq_g b ax am i xs) as av2 → av = av2 := by
  intro as
  induction as with
  | nil => intro av av2 _ h1 h2; rw [h1.nil, h2.nil]
  | cons a as ih =>
    intro av av2 h h1 h2
    obtain ⟨v, r, rfl, g1, g2⟩ := h1.cons
    obtain ⟨v', r', rfl, k1, k2⟩ := h2.cons
    have h := Bool.and_eq_true_iff.mp (show (Nat.ble a.1 5 && as.all (fun a => Nat.ble a.1 5)) = true from h)
    have e : v = v' := by
      have h1 := Nat.le_of_ble_eq_true h.1
      obtain ⟨k, j⟩ := a
      have h1 : k ≤ 5 := h1
      rcases (by omega : k = 0 ∨ k = 1 ∨ k = 2 ∨ k = 3 ∨ k = 4 ∨ k = 5) with rfl | rfl | rfl | rfl | rfl | rfl
      all_goals exact (show v = _ from g1).trans (show v' = _ from k1).symm
    rw [e, ih h.2 g2 k2]
