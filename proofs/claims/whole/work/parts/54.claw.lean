/-! the class reckons a law -/
theorem i64_lt (a b : Int32) : a.toInt64 < b.toInt64 ↔ a < b := by
  rw [Int64.lt_iff_toInt_lt, Int32.lt_iff_toInt_lt, Int32.toInt_toInt64, Int32.toInt_toInt64]
theorem i64_inj (a b : Int32) : a.toInt64 = b.toInt64 ↔ a = b := by
  constructor
  · intro h
    have := congrArg Int64.toInt h
    rw [Int32.toInt_toInt64, Int32.toInt_toInt64] at this
    exact Int32.toInt_inj.mp this
  · intro h; rw [h]
theorem c_129 (h : Hp) (x : Int64) : fX3_join_129 h x = some (clp x) := by
  unfold fX3_join_129 fX3_join_158 clp
  simp only [lg_le, lg_ge]
  by_cases h1 : 1000000 < x
  · rw [if_neg (Int64.not_le.mpr h1), if_pos h1]
  · rw [if_pos (Int64.not_lt.mp h1), if_neg h1]
    by_cases h2 : x < -1000000
    · rw [if_neg (Int64.not_le.mpr h2), if_pos h2]
    · rw [if_pos (Int64.not_lt.mp h2), if_neg h2]
theorem clp_0 : clp 0 = 0 := by decide
theorem clp_1 : clp 1 = 1 := by decide
theorem join_3000 (h : Hp) (x y : Int64) : fX3_join h (cco 3000) x y = (fX3_join_129 h (x + y)) := by
  rw [show cco 3000 = (-11 : Int32) from by decide]
  unfold fX3_join
  rw [if_neg (by decide), if_neg (by decide), if_neg (by decide), if_neg (by decide), if_neg (by decide), if_neg (by decide), if_pos rfl]
theorem btw_3000 (a b : Int32) : btw 3000 a b = (clp (a.toInt64 + b.toInt64)) := by
  unfold btw
  rw [if_neg (by decide), if_neg (by decide), if_neg (by decide), if_neg (by decide), if_neg (by decide), if_pos rfl]
theorem join_3001 (h : Hp) (x y : Int64) : fX3_join h (cco 3001) x y = (fX3_join_129 h (x - y)) := by
  rw [show cco 3001 = (-12 : Int32) from by decide]
  unfold fX3_join
  rw [if_neg (by decide), if_neg (by decide), if_neg (by decide), if_neg (by decide), if_neg (by decide), if_pos rfl]
theorem btw_3001 (a b : Int32) : btw 3001 a b = (clp (a.toInt64 - b.toInt64)) := by
  unfold btw
  rw [if_neg (by decide), if_neg (by decide), if_neg (by decide), if_neg (by decide), if_neg (by decide), if_neg (by decide), if_pos rfl]
theorem join_3002 (h : Hp) (x y : Int64) : fX3_join h (cco 3002) x y = (fX3_join_129 h (x * y)) := by
  rw [show cco 3002 = (-13 : Int32) from by decide]
  unfold fX3_join
  rw [if_neg (by decide), if_neg (by decide), if_neg (by decide), if_neg (by decide), if_pos rfl]
theorem btw_3002 (a b : Int32) : btw 3002 a b = (clp (a.toInt64 * b.toInt64)) := by
  unfold btw
  rw [if_neg (by decide), if_neg (by decide), if_neg (by decide), if_neg (by decide), if_neg (by decide), if_neg (by decide), if_neg (by decide)]
theorem join_3003 (h : Hp) (x y : Int64) : fX3_join h (cco 3003) x y = (if lg_cmp x y = 0 then fX3_join_129 h 1 else fX3_join_129 h 0) := by
  rw [show cco 3003 = (-14 : Int32) from by decide]
  unfold fX3_join fX3_join_79
  rw [if_neg (by decide), if_neg (by decide), if_neg (by decide), if_pos rfl]
theorem btw_3003 (a b : Int32) : btw 3003 a b = (if a = b then 1 else 0) := by
  unfold btw
  rw [if_pos rfl]
theorem join_3004 (h : Hp) (x y : Int64) : fX3_join h (cco 3004) x y = (if 0 ≤ lg_cmp x y then fX3_join_129 h 0 else fX3_join_129 h 1) := by
  rw [show cco 3004 = (-15 : Int32) from by decide]
  unfold fX3_join fX3_join_95
  rw [if_neg (by decide), if_neg (by decide), if_pos rfl]
theorem btw_3004 (a b : Int32) : btw 3004 a b = (if a < b then 1 else 0) := by
  unfold btw
  rw [if_neg (by decide), if_pos rfl]
theorem join_3005 (h : Hp) (x y : Int64) : fX3_join h (cco 3005) x y = (if lg_cmp x y ≤ 0 then fX3_join_129 h 0 else fX3_join_129 h 1) := by
  rw [show cco 3005 = (-16 : Int32) from by decide]
  unfold fX3_join fX3_join_111
  rw [if_neg (by decide), if_pos rfl]
theorem btw_3005 (a b : Int32) : btw 3005 a b = (if b < a then 1 else 0) := by
  unfold btw
  rw [if_neg (by decide), if_neg (by decide), if_pos rfl]
theorem join_3007 (h : Hp) (x y : Int64) : fX3_join h (cco 3007) x y = (fX3_join_129 h (x &&& y)) := by
  rw [show cco 3007 = (-17 : Int32) from by decide]
  unfold fX3_join
  rw [if_pos rfl]
theorem btw_3007 (a b : Int32) : btw 3007 a b = (a &&& b) := by
  unfold btw
  rw [if_neg (by decide), if_neg (by decide), if_neg (by decide), if_pos rfl]
theorem join_3008 (h : Hp) (x y : Int64) : fX3_join h (cco 3008) x y = (fX3_join_129 h (x ||| y)) := by
  rw [show cco 3008 = (-18 : Int32) from by decide]
  unfold fX3_join
  rw [if_neg (by decide), if_neg (by decide), if_neg (by decide), if_neg (by decide), if_neg (by decide), if_neg (by decide), if_neg (by decide)]
theorem btw_3008 (a b : Int32) : btw 3008 a b = (a ||| b) := by
  unfold btw
  rw [if_neg (by decide), if_neg (by decide), if_neg (by decide), if_neg (by decide), if_pos rfl]
theorem c_join (h : Hp) {n : Nat} (h0 : 3000 ≤ n) (h9 : n < 3009) (h6 : n ≠ 3006) (a b : Int32) (hab : n = 3007 ∨ n = 3008 → (a = 0 ∨ a = 1) ∧ (b = 0 ∨ b = 1)) : fX3_join h (cco n) a.toInt64 b.toInt64 = some (btw n a b) := by
  have hc : n = 3000 ∨ n = 3001 ∨ n = 3002 ∨ n = 3003 ∨ n = 3004 ∨ n = 3005 ∨ n = 3007 ∨ n = 3008 := by omega
  rcases hc with e | e | e | e | e | e | e | e <;> subst e
  · rw [join_3000, btw_3000, c_129]
  · rw [join_3001, btw_3001, c_129]
  · rw [join_3002, btw_3002, c_129]
  · rw [join_3003, btw_3003, c_129, c_129, clp_0, clp_1]
    simp only [lg_e, i64_inj]
    split <;> rfl
  · rw [join_3004, btw_3004, c_129, c_129, clp_0, clp_1]
    simp only [lg_ge]
    by_cases hh : a < b
    · rw [if_neg (Int64.not_le.mpr ((i64_lt a b).mpr hh)), if_pos hh]
    · rw [if_pos (Int64.not_lt.mp (fun q => hh ((i64_lt a b).mp q))), if_neg hh]
  · rw [join_3005, btw_3005, c_129, c_129, clp_0, clp_1]
    simp only [lg_le]
    by_cases hh : b < a
    · rw [if_neg (Int64.not_le.mpr ((i64_lt b a).mpr hh)), if_pos hh]
    · rw [if_pos (Int64.not_lt.mp (fun q => hh ((i64_lt b a).mp q))), if_neg hh]
  · obtain ⟨ha, hb⟩ := hab (Or.inl rfl)
    rw [join_3007, btw_3007, c_129]
    rcases ha with e1 | e1 <;> rcases hb with e2 | e2 <;> subst e1 <;> subst e2 <;> decide
  · obtain ⟨ha, hb⟩ := hab (Or.inr rfl)
    rw [join_3008, btw_3008, c_129]
    rcases ha with e1 | e1 <;> rcases hb with e2 | e2 <;> subst e1 <;> subst e2 <;> decide
theorem cco_2 (h : Hp) {n : Nat} (h0 : 3000 ≤ n) (h9 : n < 3009) (h6 : n ≠ 3006) : fX3_takes h (cco n) = some (nI 2) ∧ cco n < nI 0 ∧ ¬ cco n = -nI 19 ∧ ¬ cco n = -nI 20 := by
  have hc : n = 3000 ∨ n = 3001 ∨ n = 3002 ∨ n = 3003 ∨ n = 3004 ∨ n = 3005 ∨ n = 3007 ∨ n = 3008 := by omega
  rcases hc with e | e | e | e | e | e | e | e <;> subst e <;> exact ⟨rfl, by decide, by decide, by decide⟩
theorem cco_w (h : Hp) : ∀ j : Nat, j < 8 → fX3_takes h (cco (1000 + j)) = some (nI 0) ∧ cco (1000 + j) < nI 0 ∧ fX3_placeOf h (cco (1000 + j)) = some (nI j)
  | 0, _ => ⟨rfl, by decide, rfl⟩
  | 1, _ => ⟨rfl, by decide, rfl⟩
  | 2, _ => ⟨rfl, by decide, rfl⟩
  | 3, _ => ⟨rfl, by decide, rfl⟩
  | 4, _ => ⟨rfl, by decide, rfl⟩
  | 5, _ => ⟨rfl, by decide, rfl⟩
  | 6, _ => ⟨rfl, by decide, rfl⟩
  | 7, _ => ⟨rfl, by decide, rfl⟩
theorem cco_n (h : Hp) {n : Nat} (hn : n < 1000) : fX3_takes h (nI n) = some (nI 0) := by
  unfold fX3_takes
  have : ¬ nI n ≤ (-11 : Int32) := by
    rw [Int32.not_le, Int32.lt_iff_toInt_lt, nI_toInt (by omega)]
    have : (-11 : Int32).toInt = -11 := by decide
    omega
  rw [if_neg this]
  rfl
def A110 (r : Nat) : Bool := decide (r = 110)
theorem stk_c {c : Ch} {r : Nat} {x : Int32} {st : List Int32} (h : stk (c.2.2.2.1 r) st) : stk ((cS c r st.length x).2.2.2.1 r) (x :: st) := by
  rw [cS_r]
  refine ⟨if_pos rfl, stk_eq (fun i hi => ?_) h⟩
  exact if_neg (by omega)
theorem tell_step {h : Hp} {c : Ch} {lo pa k : Nat} {f : Nat → Int32} {code : List Nat} {w : Nat → Int32} {g : Bool} {ts ts1 : List Bool} {st : List Int32} {n : Nat}
    (f1 : fre lo) (f2 : fre pa) (e1 : h.2.2 lo = some (.inr (3, [.ref pa]))) (e2 : h.2.2 pa = some (.inl (0, code.length, .inl f))) (hlen9 : code.length ≤ 900) (hk : k < code.length) (hcode : f k = cco n)
    (hw : ∀ j, okw g j = true → c.2.2.2.1 109 j = w j) (ht : typ st ts) (hl : ts.length ≤ 64) (hty : ty1 g n ts = some ts1) (hs : stk (c.2.2.2.1 110) st) :
    ∃ c1, gX3_tell_5b h c lo (nI st.length) (nI k) = some (.inl (nI (ev1 w n st).length, nI (k + 1), c1)) ∧ stk (c1.2.2.2.1 110) (ev1 w n st) ∧ cfr A110 c c1 := by
  have hlen := typ_len st ts ht
  have hkc : ¬ code.length ≤ k := by omega
  obtain ⟨_, hc⟩ := ty_cases w ht hl hty
  have q1 : gN (cput h c) 3 lo 0 = some pa := gN_c c f1 e1 rfl
  have q2 : aL (cput h c) pa = some (nI code.length) := aL_c c f2 e2
  have q3 : aI 0 (cput h c) pa (nI k) = some (cco n) := by rw [aI_c c f2 e2 hk (by omega), hcode]
  unfold gX3_tell_5b gX3_tell_96 gX3_tell_147 gX3_tell_169
  rcases hc with ⟨h1, h2, e⟩ | ⟨h1, h2, h3, h4, e⟩ | ⟨h1, a, r, e1, e⟩ | ⟨h1, c', b, a, r, e1, e⟩ | ⟨h1, h2, h3, b, a, r, e1, e, hab⟩
  · rw [e]
    have c1 : cco n = nI n := if_pos h1
    rw [c1] at q3
    have c2 : ¬ n < 0 := by omega
    have c3 : ¬ st.length < 0 := by omega
    have c4 : st.length + 1 ≤ 64 := by omega
    have c5 : (0 : Nat) < 1 := by decide
    simp (disch := omega) only [n_lit, n_of, n_o1, nI_add, pk_mul, nI_ltI, nI_leI, nI_eq, ↓lift_lt, ↓k_mt, ↓k_mp, if_true, if_false, Bool.false_eq_true, Nat.not_lt_zero, Nat.zero_le, q1, q2, q3, hkc, cco_n, pk_sub, Nat.sub_zero, imax_n, c2, c3, c4, c5, cW0_g]
    exact ⟨_, rfl, stk_c hs, cfr_S (cfr_rfl _ c) rfl⟩
  · rw [e]
    obtain ⟨j, rfl⟩ : ∃ j, n = 1000 + j := ⟨n - 1000, by omega⟩
    obtain ⟨z1, z2, z3⟩ := cco_w (cput h c) j (by omega)
    have c2 : ¬ 8 ≤ j := by omega
    have c3 : ¬ st.length < 0 := by omega
    have c4 : st.length + 1 ≤ 64 := by omega
    have c5 : (0 : Nat) < 1 := by decide
    rw [show 1000 + j - 1000 = j by omega] at h3 ⊢
    simp (disch := omega) only [n_lit, n_of, n_o1, nI_add, pk_mul, nI_ltI, nI_leI, nI_eq, ↓lift_lt, ↓k_mt, ↓k_mp, if_true, if_false, Bool.false_eq_true, Nat.not_lt_zero, Nat.zero_le, q1, q2, q3, hkc, z1, z2, z3, pk_sub, Nat.sub_zero, imax_n, c2, c3, c4, c5, cA_g, cW0_g, hw j h3]
    exact ⟨_, rfl, stk_c hs, cfr_S (cfr_rfl _ c) rfl⟩
  · rw [e]
    subst e1
    subst h1
    have hs1 : c.2.2.2.1 110 r.length = a := hs.1
    have z0 : cco 3006 = -nI 19 := rfl
    have z1 : fX3_takes (cput h c) (-nI 19) = some (nI 1) := rfl
    have z2 : -nI 19 < nI 0 := by decide
    rw [z0] at q3
    simp only [List.length_cons] at hlen ⊢
    have c3 : ¬ r.length < 0 := by omega
    have c4 : r.length + 1 ≤ 64 := by omega
    have c5 : ¬ (1 : Nat) < 1 := by decide
    have c6 : ¬ (1 : Nat) = 0 := by decide
    simp (disch := omega) only [n_lit, n_of, n_o1, nI_add, pk_mul, nI_ltI, nI_leI, nI_eq, ↓lift_lt, ↓k_mt, ↓k_mp, if_true, if_false, Bool.false_eq_true, Nat.not_lt_zero, Nat.zero_le, q1, q2, q3, hkc, z1, z2, pk_sub, Nat.add_sub_cancel, imax_n, c3, c4, c5, c6, cA_g, cW0_g, hs1]
    exact ⟨_, rfl, stk_c hs.2, cfr_S (cfr_rfl _ c) rfl⟩
  · rw [e]
    subst e1
    subst h1
    have hs1 : c.2.2.2.1 110 (r.length + 1 + 1) = c' := hs.1
    have hs2 : c.2.2.2.1 110 (r.length + 1) = b := hs.2.1
    have hs3 : c.2.2.2.1 110 r.length = a := hs.2.2.1
    have z0 : cco 3009 = -nI 20 := rfl
    have z1 : fX3_takes (cput h c) (-nI 20) = some (nI 3) := rfl
    have z2 : -nI 20 < nI 0 := by decide
    have z3 : ¬ -nI 20 = -nI 19 := by decide
    rw [z0] at q3
    simp only [List.length_cons] at hlen ⊢
    have e3 : r.length + 1 + 1 + 1 - 3 = r.length := by omega
    have c3 : ¬ r.length < 0 := by omega
    have c4 : r.length + 3 ≤ 64 := by omega
    have c5 : ¬ (3 : Nat) < 1 := by decide
    have c6 : ¬ (3 : Nat) = 0 := by decide
    simp (disch := omega) only [n_lit, n_of, n_o1, nI_add, pk_mul, nI_ltI, nI_leI, nI_eq, ↓lift_lt, ↓k_mt, ↓k_mp, if_true, if_false, Bool.false_eq_true, Nat.not_lt_zero, Nat.zero_le, q1, q2, q3, hkc, z1, z2, z3, pk_sub, e3, imax_n, c3, c4, c5, c6, cA_g, cW0_g, hs1, hs2, hs3]
    by_cases ha : a = nI 1
    · rw [if_pos ha, if_pos ha]
      exact ⟨_, rfl, stk_c hs.2.2.2, cfr_S (cfr_rfl _ c) rfl⟩
    · rw [if_neg ha, if_neg ha]
      exact ⟨_, rfl, stk_c hs.2.2.2, cfr_S (cfr_rfl _ c) rfl⟩
  · rw [e]
    subst e1
    have hs1 : c.2.2.2.1 110 (r.length + 1) = b := hs.1
    have hs2 : c.2.2.2.1 110 r.length = a := hs.2.1
    obtain ⟨z1, z2, z3, z4⟩ := cco_2 (cput h c) h1 h2 h3
    have z5 := c_join (cput h c) h1 h2 h3 a b hab
    generalize cco n = z at q3 z1 z2 z3 z4 z5
    simp only [List.length_cons] at hlen ⊢
    have e3 : r.length + 1 + 1 - 2 = r.length := by omega
    have c3 : ¬ r.length < 0 := by omega
    have c4 : r.length + 2 ≤ 64 := by omega
    have c5 : ¬ (2 : Nat) < 1 := by decide
    have c6 : ¬ (2 : Nat) = 0 := by decide
    simp (disch := omega) only [n_lit, n_of, n_o1, nI_add, pk_mul, nI_ltI, nI_leI, nI_eq, ↓lift_lt, ↓k_mt, ↓k_mp, if_true, if_false, Bool.false_eq_true, Nat.not_lt_zero, Nat.zero_le, q1, q2, q3, hkc, z1, z2, z3, z4, pk_sub, e3, imax_n, c3, c4, c5, c6, cA_g, cW0_g, hs1, hs2, z5]
    exact ⟨_, rfl, stk_c hs.2.2, cfr_S (cfr_rfl _ c) rfl⟩
theorem c_tell {h : Hp} {c : Ch} {o : Option Nat} {code : List Nat} {w : Nat → Int32} {g b : Bool} (H : LawAt h o (some code)) (hlen9 : code.length ≤ 900) (hw : ∀ j, okw g j = true → c.2.2.2.1 109 j = w j) (hty : tys g code [] = some [b]) :
    ∃ n c1, o = some n ∧ (∀ (c2 : Ch) (α : Type) (x : Option α), gO (cput h c2) 3 n x = x) ∧ gX3_tell h c n = some (lawv w code, c1) ∧ cfr A110 c c1 := by
  obtain ⟨lo, pa, f, e0, f1, f2, e1, e2, hcode⟩ := H
  unfold gX3_tell gX3_tell_5
  have K := lpw_all (body := fun s : Int32 × Int32 × Ch => gX3_tell_5b h s.2.2 lo s.1 s.2.1)
    (fun k s => s.2.1 = nI k ∧ cfr A110 c s.2.2 ∧ ∃ st ts, s.1 = nI st.length ∧ typ st ts ∧ ts.length ≤ 64 ∧ tys g (code.drop k) ts = some [b] ∧ evs w (code.drop k) st = evs w code [] ∧ stk (s.2.2.2.2.2.1 110) st)
    (fun r => r.1 = lawv w code ∧ cfr A110 c r.2) code.length ?_ ?_ (nI 0, nI 0, c) ⟨rfl, cfr_rfl _ c, [], [], rfl, True.intro, by decide, hty, rfl, True.intro⟩
  · obtain ⟨r, e, h1, h2⟩ := K
    refine ⟨lo, r.2, e0, fun c2 α x => gO_c c2 x f1 e1, ?_, h2⟩
    rw [← h1]
    exact e
  · intro k s hk ⟨e3, hf, st, ts, e4, ht, hl, hty2, hev, hs⟩
    rw [List.drop_eq_getElem_cons hk] at hty2 hev
    unfold tys at hty2
    obtain ⟨ts1, h1, h2⟩ := bindS hty2
    have r9 : s.2.2.2.2.2.1 109 = c.2.2.2.1 109 := hf.2.2.2.1 109 rfl
    obtain ⟨m1, e5, hs3, hf3⟩ := tell_step (c := s.2.2) (w := w) (n := code[k]) (k := k) (code := code) f1 f2 e1 e2 hlen9 hk (hcode k hk) (fun j hj => by rw [r9]; exact hw j hj) ht hl h1 hs
    refine ⟨_, by rw [e3, e4]; exact e5, rfl, cfr_tr hf hf3, _, ts1, rfl, (ty_cases w ht hl h1).1.1, (ty_cases w ht hl h1).1.2, h2, hev, hs3⟩
  · intro s ⟨e3, hf, st, ts, e4, ht, hl, hty2, hev, hs⟩
    rw [List.drop_length] at hty2 hev
    have e5 : ts = [b] := Option.some.inj hty2
    subst e5
    show ∃ r, gX3_tell_5b h s.2.2 lo s.1 s.2.1 = some (.inr r) ∧ _
    have q1 : gN (cput h s.2.2) 3 lo 0 = some pa := gN_c s.2.2 f1 e1 rfl
    have q2 : aL (cput h s.2.2) pa = some (nI code.length) := aL_c s.2.2 f2 e2
    match st, ht with
    | [x], _ =>
      rw [e3, e4]
      unfold gX3_tell_5b gX3_tell_178 gX3_tell_190
      simp (disch := omega) only [n_lit, n_of, n_o1, nI_add, pk_mul, nI_ltI, nI_leI, nI_eq, ↓lift_lt, ↓k_mt, ↓k_mp, if_true, if_false, Bool.false_eq_true, Nat.not_lt_zero, Nat.zero_le, q1, q2, Nat.le_refl, List.length_cons, List.length_nil, Nat.zero_add, cA_g]
      refine ⟨_, rfl, ?_, hf⟩
      show s.2.2.2.2.2.1 110 0 = _
      unfold lawv
      rw [← hev]
      exact hs.1
