/-! numbers of both sides as natural ones; loops by what holds in them -/
theorem n_lit (n : Nat) : (OfNat.ofNat n : Int32) = nI (OfNat.ofNat n) := by
  have e : (OfNat.ofNat n : Int32) = nI (OfNat.ofNat n) := rfl
  exact e
theorem n_litL (n : Nat) : (OfNat.ofNat n : Int64) = lN (OfNat.ofNat n) := by
  have e : (OfNat.ofNat n : Int64) = lN (OfNat.ofNat n) := rfl
  exact e
theorem n_of (n : Nat) : Int32.ofNat n = nI n := by
  have e : Int32.ofNat n = nI n := rfl
  exact e
theorem n_o1 : Int32.ofInt 1 = nI 1 := by
  have e : Int32.ofInt 1 = nI 1 := rfl
  exact e
theorem n_o {k : Nat} (x : Int) {a : Nat} (hx : x = -(k : Int)) (h : k ≤ a) : nI a + Int32.ofInt x = nI (a - k) := by
  have e : Int32.ofInt x = - nI k := by
    rw [hx]
    unfold nI
    rw [Int32.ofInt_neg, Int32.ofInt_eq_ofNat]
  rw [e, ← pk_sub h, Int32.sub_eq_add_neg]
theorem n_d1 {a : Nat} (h : 1 ≤ a) : nI a + Int32.ofInt (-1) = nI (a - 1) := n_o (k := 1) (-1) rfl h
theorem n_d2 {a : Nat} (h : 2 ≤ a) : nI a + Int32.ofInt (-2) = nI (a - 2) := n_o (k := 2) (-2) rfl h
theorem n_d8 {a : Nat} (h : 8 ≤ a) : nI a + Int32.ofInt (-8) = nI (a - 8) := n_o (k := 8) (-8) rfl h
theorem n_dv {a b : Nat} (ha : a < 2 ^ 31) (h0 : 0 < b) (hb : b < 2 ^ 31) : dv (nI a) (nI b) = some (nI (a / b)) := by
  unfold dv
  rw [if_neg (nI_ne0 h0 hb), pk_div ha h0 hb]
theorem n_rm {a b : Nat} (ha : a < 2 ^ 31) (h0 : 0 < b) (hb : b < 2 ^ 31) : rm (nI a) (nI b) = some (nI (a % b)) := by
  unfold rm i_rem
  rw [if_neg (nI_ne0 h0 hb), pk_rem ha h0 hb]
theorem n_and (a b : Nat) : nI a &&& nI b = nI (a &&& b) := by
  apply Int32.toBitVec_inj.1
  show BitVec.ofNat 32 a &&& BitVec.ofNat 32 b = BitVec.ofNat 32 (a &&& b)
  apply BitVec.eq_of_getLsbD_eq
  intro i hi
  simp [hi]
theorem n_or (a b : Nat) : nI a ||| nI b = nI (a ||| b) := by
  apply Int32.toBitVec_inj.1
  show BitVec.ofNat 32 a ||| BitVec.ofNat 32 b = BitVec.ofNat 32 (a ||| b)
  apply BitVec.eq_of_getLsbD_eq
  intro i hi
  simp [hi]
theorem n_sh : ∀ p : Nat, p < 32 → ((nI p &&& nI 31).toBitVec.smod 32).toNat = p := by decide
theorem n_shl {a p : Nat} (hp : p < 32) (h : a * 2 ^ p < 2 ^ 32) : nI a <<< (nI p &&& nI 31) = nI (a * 2 ^ p) := pk_shlN _ p (n_sh p hp) h
theorem n_shr {a p : Nat} (hp : p < 32) (h : a < 2 ^ 31) : nI a >>> (nI p &&& nI 31) = nI (a / 2 ^ p) := pk_shrN h _ p (n_sh p hp)
theorem n_bl0 {α : Type} (e : Option α) : bl (nI 0) e = e := by
  have q : bl (nI 0) e = e := rfl
  exact q
theorem n_bl1 {α : Type} (e : Option α) : bl (nI 1) e = e := by
  have q : bl (nI 1) e = e := rfl
  exact q
theorem n_inB {i n : Nat} (h : i < n) (hn : n < 2 ^ 31) : inB (nI i) n = true := inB_nI h hn
theorem n_tT1 {p : Nat} (h : p < 4) : tT 1 (nI p) = some (nI (10 ^ p)) := by
  match p, h with
  | 0, _ => rfl
  | 1, _ => rfl
  | 2, _ => rfl
  | 3, _ => rfl
theorem n_tT2 {p : Nat} (h : p < 4) : tT 2 (nI p) = some (nI (5 ^ p)) := by
  match p, h with
  | 0, _ => rfl
  | 1, _ => rfl
  | 2, _ => rfl
  | 3, _ => rfl
/-- a loop by what holds in its turns; it may end ahead -/
theorem lpw_inv {σ ρ : Type} {body : σ → Option (σ ⊕ ρ)} (I : Nat → σ → Prop) (R : ρ → Prop) (n : Nat)
    (hstep : ∀ k s, k < n → I k s → (∃ s', body s = some (.inl s') ∧ I (k + 1) s') ∨ (∃ r, body s = some (.inr r) ∧ R r))
    (hend : ∀ s, I n s → ∃ r, body s = some (.inr r) ∧ R r) (s0 : σ) (h0 : I 0 s0) : ∃ r, lpw body s0 = some r ∧ R r := by
  have key : ∀ j, j ≤ n → ∀ s, I (n - j) s → ∃ r, lpw body s = some r ∧ R r := by
    intro j
    induction j with
    | zero =>
      intro _ s hs
      rw [Nat.sub_zero] at hs
      obtain ⟨r, e, hr⟩ := hend s hs
      exact ⟨r, by rw [lpw_eq, e], hr⟩
    | succ j ih =>
      intro hj s hs
      rcases hstep (n - (j + 1)) s (by omega) hs with ⟨s', e, hs'⟩ | ⟨r, e, hr⟩
      · rw [show n - (j + 1) + 1 = n - j by omega] at hs'
        obtain ⟨r, e2, hr⟩ := ih (by omega) s' hs'
        exact ⟨r, by rw [lpw_eq, e]; exact e2, hr⟩
      · exact ⟨r, by rw [lpw_eq, e], hr⟩
  have h := key n (Nat.le_refl n) s0
  rw [Nat.sub_self] at h
  exact h h0
/-- one whose turns are all gone through -/
theorem lpw_all {σ ρ : Type} {body : σ → Option (σ ⊕ ρ)} (I : Nat → σ → Prop) (R : ρ → Prop) (n : Nat)
    (hstep : ∀ k s, k < n → I k s → ∃ s', body s = some (.inl s') ∧ I (k + 1) s')
    (hend : ∀ s, I n s → ∃ r, body s = some (.inr r) ∧ R r) (s0 : σ) (h0 : I 0 s0) : ∃ r, lpw body s0 = some r ∧ R r :=
  lpw_inv I R n (fun k s hk hs => Or.inl (hstep k s hk hs)) hend s0 h0
/-- by a number that becomes less -/
theorem lpw_meas {σ ρ : Type} {body : σ → Option (σ ⊕ ρ)} (I : σ → Prop) (R : ρ → Prop) (μ : σ → Nat)
    (hstep : ∀ s, I s → (∃ s', body s = some (.inl s') ∧ I s' ∧ μ s' < μ s) ∨ (∃ r, body s = some (.inr r) ∧ R r)) (s0 : σ) (h0 : I s0) : ∃ r, lpw body s0 = some r ∧ R r := by
  have key : ∀ n s, μ s < n → I s → ∃ r, lpw body s = some r ∧ R r := by
    intro n
    induction n with
    | zero => intro s h; omega
    | succ n ih =>
      intro s hn hs
      rcases hstep s hs with ⟨s', e, hs', hl⟩ | ⟨r, e, hr⟩
      · obtain ⟨r, e2, hr⟩ := ih s' (by omega) hs'
        exact ⟨r, by rw [lpw_eq, e]; exact e2, hr⟩
      · exact ⟨r, by rw [lpw_eq, e], hr⟩
  exact key (μ s0 + 1) s0 (by omega) h0
