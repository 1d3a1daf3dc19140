/-! ===== tk: the same run with each number worked out at each step ===== -/
def tk_fN {α : Type} (n : Nat) (k : Nat → α) : α := Nat.casesOn (motive := fun _ => α) n (k Nat.zero) (fun m => k (Nat.succ m))
theorem tk_fN_eq {α : Type} (n : Nat) (k : Nat → α) : tk_fN n k = k n := by cases n <;> rfl
def tk_fZ {α : Type} (z : Int) (k : Int → α) : α := match z with
  | .ofNat n => tk_fN n (fun n => k (.ofNat n))
  | .negSucc n => tk_fN n (fun n => k (.negSucc n))
theorem tk_fZ_eq {α : Type} (z : Int) (k : Int → α) : tk_fZ z k = k z := by
  cases z with
  | ofNat n => exact tk_fN_eq n (fun n => k (.ofNat n))
  | negSucc n => exact tk_fN_eq n (fun n => k (.negSucc n))
def tk_fV {α : Type} (v : tk_V) (k : tk_V → α) : α := tk_fN v.1 (fun a => tk_fN v.2.1 (fun b => tk_fN v.2.2.1 (fun c => tk_fZ v.2.2.2 (fun d => k (a, b, c, d)))))
theorem tk_fV_eq {α : Type} (v : tk_V) (k : tk_V → α) : tk_fV v k = k v := by
  unfold tk_fV
  rw [tk_fN_eq, tk_fN_eq, tk_fN_eq, tk_fZ_eq]
def tk_fL {α β : Type} (f : β → (β → α) → α) : List β → (List β → α) → α
  | [], k => k []
  | x :: r, k => f x (fun y => tk_fL f r (fun s => k (y :: s)))
theorem tk_fL_eq {α β : Type} {f : β → (β → α) → α} (h : ∀ x k, f x k = k x) : ∀ (l : List β) (k : List β → α), tk_fL f l k = k l := by
  intro l
  induction l with
  | nil => intro k; rfl
  | cons x r ih =>
    intro k
    show f x (fun y => tk_fL f r (fun s => k (y :: s))) = k (x :: r)
    rw [h, ih]
def tk_fLo {α : Type} (q : Nat × tk_V) (k : Nat × tk_V → α) : α := tk_fN q.1 (fun a => tk_fV q.2 (fun b => k (a, b)))
theorem tk_fLo_eq {α : Type} (q : Nat × tk_V) (k : Nat × tk_V → α) : tk_fLo q k = k q := by
  unfold tk_fLo
  rw [tk_fN_eq, tk_fV_eq]
def tk_fI {α : Type} (q : tk_I) (k : tk_I → α) : α := tk_fZ q.1 (fun a => tk_fZ q.2 (fun b => k (a, b)))
theorem tk_fI_eq {α : Type} (q : tk_I) (k : tk_I → α) : tk_fI q k = k q := by
  unfold tk_fI
  rw [tk_fZ_eq, tk_fZ_eq]
def tk_fQ {α : Type} (q : tk_Q) (k : tk_Q → α) : α := tk_fN q.1 (fun a => tk_fN q.2.1 (fun b => tk_fZ q.2.2 (fun c => k (a, b, c))))
theorem tk_fQ_eq {α : Type} (q : tk_Q) (k : tk_Q → α) : tk_fQ q k = k q := by
  unfold tk_fQ
  rw [tk_fN_eq, tk_fN_eq, tk_fZ_eq]
def tk_fF {α : Type} (q : Nat × tk_V × tk_V) (k : Nat × tk_V × tk_V → α) : α := tk_fN q.1 (fun a => tk_fV q.2.1 (fun b => tk_fV q.2.2 (fun c => k (a, b, c))))
theorem tk_fF_eq {α : Type} (q : Nat × tk_V × tk_V) (k : Nat × tk_V × tk_V → α) : tk_fF q k = k q := by
  unfold tk_fF
  rw [tk_fN_eq, tk_fV_eq, tk_fV_eq]
def tk_fS {α : Type} (st : tk_S) (k : tk_S → α) : α := tk_fL tk_fLo st.1 (fun a => tk_fL tk_fV st.2.1 (fun b => tk_fL tk_fI st.2.2.1.1 (fun c => tk_fL tk_fQ st.2.2.1.2 (fun d => tk_fL tk_fN st.2.2.2.1 (fun e => tk_fL tk_fF st.2.2.2.2 (fun f => k (a, b, (c, d), e, f)))))))
theorem tk_fS_eq {α : Type} (st : tk_S) (k : tk_S → α) : tk_fS st k = k st := by
  unfold tk_fS
  rw [tk_fL_eq tk_fLo_eq, tk_fL_eq tk_fV_eq, tk_fL_eq tk_fI_eq, tk_fL_eq tk_fQ_eq, tk_fL_eq tk_fN_eq, tk_fL_eq tk_fF_eq]
def tk_loopF (go : Nat × tk_S → Option (tk_X ⊕ List (Nat × tk_S))) (cut : Nat → tk_S → Option Bool) : Nat → List (Nat × tk_S) → List tk_X → Option (List tk_X)
  | 0, _, _ => none
  | _ + 1, [], acc => some acc
  | n + 1, q :: w, acc => tk_fN q.1 (fun pc => tk_fS q.2 (fun st => match cut pc st with
    | some true => tk_loopF go cut n w acc
    | some false => none
    | none => match go (pc, st) with
      | some (.inl x) => tk_loopF go cut n w (x :: acc)
      | some (.inr l) => tk_loopF go cut n (l ++ w) acc
      | none => none))
theorem tk_loopF_eq (go : Nat × tk_S → Option (tk_X ⊕ List (Nat × tk_S))) (cut : Nat → tk_S → Option Bool) : ∀ (n : Nat) (w : List (Nat × tk_S)) (acc : List tk_X), tk_loopF go cut n w acc = tk_loop go cut n w acc := by
  intro n
  induction n with
  | zero => intro w acc; rfl
  | succ n ih =>
    intro w acc
    cases w with
    | nil => rfl
    | cons q w =>
      unfold tk_loopF tk_loop
      rw [tk_fN_eq, tk_fS_eq]
      cases cut q.1 q.2 with
      | some b =>
        cases b with
        | true => exact ih w acc
        | false => rfl
      | none =>
        dsimp only
        cases go q with
        | none => rfl
        | some r =>
          cases r with
          | inl x => exact ih w (x :: acc)
          | inr l => exact ih (l ++ w) acc
def tk_methF (mods : List (Nat × Nat)) (TY : tk_TT) (fty : rk_F) (mci : List Nat) (P : List rk_M2) (fuel : Nat) (call : tk_Ca) : tk_Ca := fun f as w rf fa => match P[f]? with
  | some M => if M.2.1 ≤ 21 ∧ tk_sum as ≤ M.2.1 then (match tk_loopF (tk_go1 (tk_fun mods TY fty mci call M) M.2.2.2.2.1 M.1) (fun _ _ => none) fuel [(0, (tk_args 0 as, [], w, rf, fa))] [] with
    | some xs => some (xs, mods)
    | none => none) else none
  | none => none
theorem tk_methF_eq (mods : List (Nat × Nat)) (TY : tk_TT) (fty : rk_F) (mci : List Nat) (P : List rk_M2) (fuel : Nat) (call : tk_Ca) : tk_methF mods TY fty mci P fuel call = tk_meth mods TY fty mci P fuel call := by
  funext f as w rf fa
  unfold tk_methF tk_meth
  cases P[f]? with
  | none => rfl
  | some M =>
    dsimp only
    rw [tk_loopF_eq]
    rfl
def tk_callF (inl : List Nat) (mods : List (Nat × Nat)) (TY : tk_TT) (fty : rk_F) (mci : List Nat) (P : List rk_M2) (fuel : Nat) (Ks : List tk_K) : Nat → tk_Ca
  | 0 => tk_tbl TY Ks
  | n + 1 => fun f as w rf fa => cond (inl.any (fun g => Nat.beq g f)) (tk_methF mods TY fty mci P fuel (tk_callF inl mods TY fty mci P fuel Ks n) f as w rf fa) (tk_tbl TY Ks f as w rf fa)
theorem tk_callF_eq (inl : List Nat) (mods : List (Nat × Nat)) (TY : tk_TT) (fty : rk_F) (mci : List Nat) (P : List rk_M2) (fuel : Nat) (Ks : List tk_K) : ∀ n : Nat, tk_callF inl mods TY fty mci P fuel Ks n = tk_callI inl mods TY fty mci P fuel Ks n := by
  intro n
  induction n with
  | zero => rfl
  | succ n ih =>
    funext f as w rf fa
    unfold tk_callF tk_callI
    rw [ih, tk_methF_eq]
def tk_run0F (hk : Nat → tk_S → Option (List tk_S)) (TY : tk_TT) (fty : rk_F) (mci : List Nat) (call : tk_Ca) (fuel : Nat) (K : tk_K) (M : rk_M2) : Bool := match tk_loopF (tk_go1H hk (tk_fun K.2.2.2.2.2.2 TY fty mci call M) M.2.2.2.2.1 M.1) (fun _ _ => none) fuel [(0, (tk_args 0 K.2.1, [], K.2.2.1, K.2.2.2.1, K.2.2.2.2.1))] [] with
  | some xs => tk_cov TY (tk_id K.2.2.1 K.2.2.2.1) xs K.2.2.2.2.2.1
  | none => false
def tk_methLF (hk : Nat → tk_S → Option (List tk_S)) (TY : tk_TT) (fty : rk_F) (mci : List Nat) (P : List rk_M2) (call : tk_Ca) (fuel : Nat) (K : tk_K) : Bool := match P[K.1]? with
  | some M => (Nat.ble M.2.1 21 && Nat.ble (tk_sum K.2.1) M.2.1) && tk_run0F hk TY fty mci call fuel K M
  | none => false
theorem tk_methLF_eq {hk : Nat → tk_S → Option (List tk_S)} {TY : tk_TT} {fty : rk_F} {mci : List Nat} {P : List rk_M2} {call : tk_Ca} {fuel : Nat} {K : tk_K} (h : tk_methLF hk TY fty mci P call fuel K = true) : tk_methL hk TY fty mci P call fuel 0 K [] = true := by
  unfold tk_methLF at h
  unfold tk_methL
  split at h
  · next M hM =>
    rw [hM]
    rw [Bool.and_eq_true] at h
    dsimp only
    rw [Bool.and_eq_true]
    refine ⟨h.1, ?_⟩
    have h2 := h.2
    unfold tk_run0F at h2
    rw [tk_loopF_eq] at h2
    show (tk_run0 hk TY fty mci call fuel K [] M && true) = true
    rw [Bool.and_true]
    unfold tk_run0
    exact h2
  · cases h
section TKFC
variable {l : Launch} {D : va_G} {cl : List vw_C} {tbl xw : List Jvm.Cond} {fty : rk_F} {cln : List String} {MN : List rk_N} {mci : List Nat} {P : List rk_M2} {xt : tk_XT} {TY : tk_TT} {ro : Nat → Nat → Int → Prop} {X : va_W → Prop} {ads tw : List Nat}
/-- a contract without loops by its run, the numbers worked out -/
theorem tk_contractF {hk : Nat → tk_S → Option (List tk_S)} (hhk : tk_hkok TY ro X ads tw hk) (hXs : tk_xs TY X ads tw) (hxt : tk_xtok xt) (hok : rk_ok tbl xw cl fty cln MN mci P) (inl : List Nat) (fuel n : Nat) {Ks : List tk_K} {d D' : Nat} (hK : ∀ K ∈ Ks, tk_KS l D cl tbl xw xt MN P TY ro X ads tw d K) {K : tk_K} (h : tk_methLF hk TY fty mci P (tk_callF inl K.2.2.2.2.2.2 TY fty mci P fuel Ks n) fuel K = true) (hD : d + n + 1 = D') : tk_KS l D cl tbl xw xt MN P TY ro X ads tw D' K := by
  rw [tk_callF_eq] at h
  exact tk_contract hhk hXs hxt hok inl fuel n 0 hK (tk_methLF_eq h) hD
end TKFC
