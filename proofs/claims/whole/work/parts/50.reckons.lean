/-! the reference reckons a law -/
/-- all but some rows of the reference are as they were -/
def mfr (A : Nat → Bool) (m m' : Mu) : Prop := m'.1 = m.1 ∧ m'.2.2 = m.2.2 ∧ ∀ r, A r = false → m'.2.1 r = m.2.1 r
theorem mfr_rfl (A : Nat → Bool) (m : Mu) : mfr A m m := ⟨rfl, rfl, fun _ _ => rfl⟩
theorem mfr_tr {A : Nat → Bool} {m m' m'' : Mu} (h : mfr A m m') (h' : mfr A m' m'') : mfr A m m'' := ⟨h'.1.trans h.1, h'.2.1.trans h.2.1, fun r hr => (h'.2.2 r hr).trans (h.2.2 r hr)⟩
theorem mfr_S {A : Nat → Bool} {m m' : Mu} {r i : Nat} {x : Int32} (h : mfr A m m') (hr : A r = true) : mfr A m (mS m' r i x) :=
  ⟨h.1, h.2.1, fun q hq => by rw [mS_ne m' i x (fun e => by rw [e, hr] at hq; cases hq)]; exact h.2.2 q hq⟩
theorem mfr_le {A B : Nat → Bool} {m m' : Mu} (h : mfr A m m') (hAB : ∀ r, B r = false → A r = false) : mfr B m m' := ⟨h.1, h.2.1, fun r hr => h.2.2 r (hAB r hr)⟩
def Ar5 (r : Nat) : Bool := decide (r = 5)
theorem mS_eq (m : Mu) (r i : Nat) (x : Int32) : (mS m r i x).2.1 r = fun j => if j = i then x else m.2.1 r j := if_pos rfl
theorem stk_w {m : Mu} {r : Nat} {x : Int32} {st : List Int32} (h : stk (m.2.1 r) st) : stk ((mS m r st.length x).2.1 r) (x :: st) := by
  rw [mS_eq]
  refine ⟨if_pos rfl, stk_eq (fun i hi => ?_) h⟩
  exact if_neg (by omega)
theorem reckons_step {m : Mu} {law k fr : Nat} {code : List Nat} {w : Nat → Int32} {g : Bool} {ts ts1 : List Bool} {st : List Int32} {n : Nat} (hlaw : law < 2)
    (hmany : m.2.1 1 (9 + law) = nI code.length) (hfr : m.2.1 1 (7 + law) = nI fr) (hin : fr + code.length ≤ 900) (hk : k < code.length) (hcode : m.2.1 1 (138 + fr + k) = nI n)
    (hw : ∀ j, okw g j = true → m.2.1 6 j = w j) (ht : typ st ts) (hl : ts.length ≤ 64) (h : ty1 g n ts = some ts1) (hs : stk (m.2.1 5) st) :
    ∃ m1, gX12_reckons_4b m (nI law) (nI st.length) (nI k) = some (.inl (nI (ev1 w n st).length, nI (k + 1), m1)) ∧ stk (m1.2.1 5) (ev1 w n st) ∧ mfr Ar5 m m1 := by
  have hlen := typ_len st ts ht
  have hkc : ¬ code.length ≤ k := by omega
  obtain ⟨_, hc⟩ := ty_cases w ht hl h
  unfold gX12_reckons_4b gX12_reckons_159 gX12_reckons_76 gX12_reckons_193
  rcases hc with ⟨h1, h2, e⟩ | ⟨h1, h2, h3, h4, e⟩ | ⟨h1, a, r, e1, e⟩ | ⟨h1, c, b, a, r, e1, e⟩ | ⟨h1, h2, h3, b, a, r, e1, e, _⟩
  · rw [e]
    have c1 : ¬ 3000 ≤ n := by omega
    have c2 : ¬ 1000 ≤ n := by omega
    simp (disch := omega) only [n_lit, n_of, n_o1, nI_add, pk_mul, nI_ltI, nI_leI, nI_eq, lift_lt, k_bs, k_ms, k_mb, k_bm, k_mm, mA_1, mW_5, hmany, hfr, hkc, hcode, c1, c2, if_false]
    exact ⟨_, rfl, stk_w hs, mfr_S (mfr_rfl _ m) rfl⟩
  · rw [e]
    have c1 : ¬ 3000 ≤ n := by omega
    simp (disch := omega) only [n_lit, n_of, n_o1, nI_add, pk_mul, nI_ltI, nI_leI, nI_eq, lift_lt, k_bs, k_ms, k_mb, k_bm, k_mm, mA_1, mA_6, mW_5, hmany, hfr, hkc, hcode, c1, h1, if_false, if_true, pk_sub, hw _ h3]
    exact ⟨_, rfl, stk_w hs, mfr_S (mfr_rfl _ m) rfl⟩
  · rw [e]
    subst e1
    subst h1
    have hs1 : m.2.1 5 r.length = a := hs.1
    simp only [List.length_cons] at hlen ⊢
    simp (disch := omega) only [n_lit, n_of, n_o1, nI_add, pk_mul, nI_ltI, nI_leI, nI_eq, lift_lt, k_bs, k_ms, k_mb, k_bm, k_mm, mA_1, mA_5, mW_5, hmany, hfr, hkc, hcode, if_false, if_true, pk_sub, Nat.reduceLeDiff, Nat.reduceEqDiff, Nat.add_sub_cancel, hs1]
    exact ⟨_, rfl, stk_w hs.2, mfr_S (mfr_rfl _ m) rfl⟩
  · rw [e]
    subst e1
    subst h1
    have hs1 : m.2.1 5 (r.length + 1 + 1) = c := hs.1
    have hs2 : m.2.1 5 (r.length + 1) = b := hs.2.1
    have hs3 : m.2.1 5 r.length = a := hs.2.2.1
    simp only [List.length_cons] at hlen ⊢
    have e2 : r.length + 1 + 1 + 1 - 2 = r.length + 1 := by omega
    simp (disch := omega) only [n_lit, n_of, n_o1, nI_add, pk_mul, nI_ltI, nI_leI, nI_eq, lift_lt, k_bs, k_ms, k_mb, k_bm, k_mm, mA_1, mA_5, mW_5, hmany, hfr, hkc, hcode, if_false, if_true, n_d2, pk_sub, Nat.reduceLeDiff, Nat.reduceEqDiff, e2, Nat.add_sub_cancel, hs1, hs2, hs3]
    by_cases ha : a = nI 1
    · rw [if_pos ha, if_pos ha]
      exact ⟨_, rfl, stk_w hs.2.2.2, mfr_S (mfr_rfl _ m) rfl⟩
    · rw [if_neg ha, if_neg ha]
      exact ⟨_, rfl, stk_w hs.2.2.2, mfr_S (mfr_rfl _ m) rfl⟩
  · rw [e]
    subst e1
    have hs1 : m.2.1 5 (r.length + 1) = b := hs.1
    have hs2 : m.2.1 5 r.length = a := hs.2.1
    have c4 : ¬ n = 3009 := by omega
    have e2 : r.length + 1 + 1 - 1 = r.length + 1 := by omega
    simp only [List.length_cons] at hlen ⊢
    simp (disch := omega) only [n_lit, n_of, n_o1, nI_add, pk_mul, nI_ltI, nI_leI, nI_eq, lift_lt, k_bs, k_ms, k_mb, k_bm, k_mm, mA_1, mA_5, mW_5, hmany, hfr, hkc, hcode, h1, h3, c4, if_false, if_true, n_d1, pk_sub, e2, Nat.add_sub_cancel, hs1, hs2, q_between]
    exact ⟨_, rfl, stk_w hs.2.2, mfr_S (mfr_rfl _ m) rfl⟩
theorem q_reckons {m : Mu} {law fr : Nat} {code : List Nat} {w : Nat → Int32} {g b : Bool} (hlaw : law < 2)
    (hmany : m.2.1 1 (9 + law) = nI code.length) (hfr : m.2.1 1 (7 + law) = nI fr) (hin : fr + code.length ≤ 900) (hcode : ∀ k (hk : k < code.length), m.2.1 1 (138 + fr + k) = nI code[k])
    (hw : ∀ j, okw g j = true → m.2.1 6 j = w j) (hty : tys g code [] = some [b]) :
    ∃ m1, gX12_reckons m (nI law) = some (lawv w code, m1) ∧ mfr Ar5 m m1 := by
  unfold gX12_reckons gX12_reckons_4
  have h := lpw_all (body := fun s : Int32 × Int32 × Mu => gX12_reckons_4b s.2.2 (nI law) s.1 s.2.1)
    (fun k s => s.2.1 = nI k ∧ mfr Ar5 m s.2.2 ∧ ∃ st ts, s.1 = nI st.length ∧ typ st ts ∧ ts.length ≤ 64 ∧ tys g (code.drop k) ts = some [b] ∧ evs w (code.drop k) st = evs w code [] ∧ stk (s.2.2.2.1 5) st)
    (fun r => r.1 = lawv w code ∧ mfr Ar5 m r.2) code.length ?_ ?_ (nI 0, nI 0, m) ⟨rfl, mfr_rfl _ m, [], [], rfl, True.intro, by decide, hty, rfl, True.intro⟩
  · obtain ⟨r, e, h1, h2⟩ := h
    refine ⟨r.2, ?_, h2⟩
    rw [← h1]
    exact e
  · intro k s hk ⟨e1, hf, st, ts, e2, ht, hl, hty2, hev, hs⟩
    rw [List.drop_eq_getElem_cons hk] at hty2 hev
    unfold tys at hty2
    obtain ⟨ts1, h1, h2⟩ := bindS hty2
    have r1 : s.2.2.2.1 1 = m.2.1 1 := hf.2.2 1 rfl
    have r6 : s.2.2.2.1 6 = m.2.1 6 := hf.2.2 6 rfl
    obtain ⟨m1, e3, hs3, hf3⟩ := reckons_step (m := s.2.2) (w := w) (n := code[k]) (k := k) (code := code) (fr := fr) hlaw (by rw [r1]; exact hmany) (by rw [r1]; exact hfr) hin hk (by rw [r1]; exact hcode k hk) (fun j hj => by rw [r6]; exact hw j hj) ht hl h1 hs
    refine ⟨_, by rw [e1, e2]; exact e3, rfl, mfr_tr hf hf3, _, ts1, rfl, (ty_cases w ht hl h1).1.1, (ty_cases w ht hl h1).1.2, h2, hev, hs3⟩
  · intro s ⟨e1, hf, st, ts, e2, ht, hl, hty2, hev, hs⟩
    rw [List.drop_length] at hty2 hev
    have e4 : ts = [b] := Option.some.inj hty2
    subst e4
    have r1 : s.2.2.2.1 1 = m.2.1 1 := hf.2.2 1 rfl
    rw [e1, e2]
    unfold gX12_reckons_4b
    simp (disch := omega) only [n_lit, n_of, n_o1, nI_add, pk_mul, nI_ltI, nI_leI, nI_eq, lift_lt, k_bs, k_ms, k_mb, k_bm, k_mm, mA_1, mA_5, r1, hmany, Nat.le_refl, if_true]
    refine ⟨_, rfl, ?_, hf⟩
    match st, ht with
    | [x], _ =>
      show s.2.2.2.1 5 0 = _
      unfold lawv
      rw [← hev]
      exact hs.1
