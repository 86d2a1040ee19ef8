/-! what is told of a cave so far -/
def lawN (f : Nat → Int32) (law nc : Nat) : Option (List Nat) → Prop
  | none => f (5 + law) = nI 0
  | some code => f (5 + law) = nI 1 ∧ ∃ fr, f (7 + law) = nI fr ∧ f (9 + law) = nI code.length ∧ fr + code.length ≤ nc ∧ ∀ k, k < code.length → f (138 + fr + k) = nI (code.getD k 0)
theorem lawN_eq {f f' : Nat → Int32} {law nc : Nat} {gl : Option (List Nat)} (h : ∀ i, (5 + law ≤ i ∧ (i = 5 + law ∨ i = 7 + law ∨ i = 9 + law)) ∨ 138 ≤ i → f' i = f i) (H : lawN f law nc gl) : lawN f' law nc gl := by
  cases gl with
  | none => exact (h _ (by omega)).trans H
  | some code =>
    obtain ⟨h1, fr, h2, h3, h4, h5⟩ := H
    exact ⟨(h _ (by omega)).trans h1, fr, (h _ (by omega)).trans h2, (h _ (by omega)).trans h3, h4, fun k hk => (h _ (by omega)).trans (h5 k hk)⟩
def lead1 (L : Option Nat) : Int32 := match L with
  | none => -nI 1
  | some l => nI l
abbrev Tl : Type := Nat × Nat × Nat × Nat × Nat × Nat × Option Nat × Option (List Nat) × Option (List Nat)
/-- pairs, drops, dryness, lines, gaps, chalk, leading, how it grows, when it falls -/
def okT (z : Tl) : Prop := z.1 ≤ 4 ∧ z.2.1 ≤ 4 ∧ z.2.2.1 ≤ 10 ∧ z.2.2.2.2.1 < 10 ^ z.1 ∧ z.2.2.2.2.2.1 < 10 ^ z.1 ∧ (∀ l, z.2.2.2.2.2.2.1 = some l → 0 < z.1 ∧ isL z.1 z.2.1 l) ∧ (∀ code, z.2.2.2.2.2.2.2.1 = some code → tys true code [] = some [false] ∧ code.length ≤ 900) ∧ (∀ code, z.2.2.2.2.2.2.2.2 = some code → tys false code [] = some [true] ∧ code.length ≤ 900)
/-- the reference's row for it -/
def Rt (f : Nat → Int32) (z : Tl) (nc : Nat) : Prop := f 0 = nI z.2.2.2.1 ∧ f 1 = nI z.1 ∧ f 2 = nI z.2.1 ∧ f 3 = nI (if z.2.2.2.2.2.2.1 = none then 0 else 1) ∧ f 4 = nI z.2.2.1 ∧ (∀ p, p < 4 → f (11 + p) = nI (dg z.2.2.2.2.1 p)) ∧ (∀ p, p < 4 → f (19 + p) = nI (dg z.2.2.2.2.2.1 p)) ∧ f 23 = nI (z.2.2.2.2.2.2.1.getD 0) ∧ (f 24 = nI 0 ∧ f 25 = nI 0 ∧ f 26 = nI 0) ∧ lawN f 0 nc z.2.2.2.2.2.2.2.1 ∧ lawN f 1 nc z.2.2.2.2.2.2.2.2 ∧ f 137 = nI nc
/-- the class's parser for it -/
def Ct (h : Hp) (c : Ch) (z : Tl) : Prop := c.1 82 7 = nI z.2.2.2.1 ∧ c.1 82 8 = nI z.1 ∧ c.1 82 9 = nI z.2.1 ∧ c.1 82 10 = nI z.2.2.1 ∧ c.1 82 11 = nI z.2.2.2.2.1 ∧ c.1 82 12 = nI z.2.2.2.2.2.1 ∧ c.1 82 13 = lead1 z.2.2.2.2.2.2.1 ∧ LawAt h (c.2.2.1 82 14) z.2.2.2.2.2.2.2.1 ∧ LawAt h (c.2.2.1 82 15) z.2.2.2.2.2.2.2.2
/-- what lines may change -/
def lfM (m0 m : Mu) : Prop := (∀ r, ¬ r = 6 → ¬ r = 7 → ¬ r = 9 → ¬ r = 10 → ¬ r = 11 → ¬ r = 12 → ¬ r = 15 → m.1 r = m0.1 r) ∧ m.2.2 = m0.2.2 ∧ ∀ r, ¬ r = 4 → m.2.1 r = m0.2.1 r
def lfC (c0 c : Ch) : Prop := (∀ r, ¬ r = 82 → ¬ r = 83 → c.1 r = c0.1 r) ∧ c.1 83 1 = c0.1 83 1 ∧ c.2.1 = c0.2.1 ∧ (∀ r k, ¬ (r = 82 ∧ (k = 14 ∨ k = 15)) → c.2.2.1 r k = c0.2.2.1 r k) ∧ (∀ r, ¬ r = 85 → c.2.2.2.1 r = c0.2.2.2.1 r) ∧ c.2.2.2.2 = c0.2.2.2.2
/-- both have found the same fault -/
def LFx (m0 : Mu) (c0 : Ch) (m : Mu) (c : Ch) : Prop := ∃ k p, 1 ≤ k ∧ k ≤ 4 ∧ p ≤ 900 ∧ m.1 11 = nI k ∧ m.1 12 = nI p ∧ c.1 82 5 = nI k ∧ c.1 82 6 = nI p ∧ lfM m0 m ∧ lfC c0 c
theorem LFx_w {m0 m : Mu} {c0 c : Ch} (H : LFx m0 c0 m c) : ¬ m.1 11 = nI 0 := by
  obtain ⟨k, p, h1, h2, h3, h4, -⟩ := H
  rw [h4, nI_eq (by omega) (by omega)]
  omega
theorem LFx_of {m0 m m' : Mu} {c0 c c' : Ch} (f : lfM m0 m) (f' : lfC c0 c) (H : FAx m c m' c') : LFx m0 c0 m' c' := by
  obtain ⟨k, p, h1, h2, h3, rfl, rfl⟩ := H
  refine ⟨k, p, h1, h2, h3, by rw [mI_f, if_neg (by decide), mI_f, if_pos rfl], by rw [mI_f, if_pos rfl], by rw [cI_1, if_pos rfl, if_neg (by decide), cI_1, if_pos rfl, if_pos rfl], by rw [cI_1, if_pos rfl, if_pos rfl], ⟨fun r q1 q2 q3 q4 q5 q6 q7 => by rw [mI_f, if_neg q6, mI_f, if_neg q5]; exact f.1 r q1 q2 q3 q4 q5 q6 q7, f.2.1, f.2.2⟩, ⟨fun r q1 q2 => by rw [cI_n _ q1, cI_n _ q1]; exact f'.1 r q1 q2, ?_, f'.2.2⟩⟩
  rw [cI_n _ (by decide), cI_n _ (by decide)]
  exact f'.2.1
theorem lfM_n {m0 m m' : Mu} (H : lfM m0 m) (f : mfn m m') : lfM m0 m' := ⟨fun r q1 q2 q3 q4 q5 q6 q7 => by rw [f.1 r q1 q2 q3 q4]; exact H.1 r q1 q2 q3 q4 q5 q6 q7, by rw [f.2]; exact H.2.1, by rw [f.2]; exact H.2.2⟩
theorem lfC_n {c0 c c' : Ch} (H : lfC c0 c) (f : cfn c c') : lfC c0 c' := ⟨fun r q1 q2 => by rw [f.1 r q2]; exact H.1 r q1 q2, by rw [f.2.1]; exact H.2.1, by rw [f.2.2]; exact H.2.2.1, by rw [f.2.2]; exact H.2.2.2.1, by rw [f.2.2]; exact H.2.2.2.2.1, by rw [f.2.2]; exact H.2.2.2.2.2⟩
theorem lfM_S {m0 m : Mu} {i : Nat} {y : Int32} (H : lfM m0 m) : lfM m0 (mS m 4 i y) := ⟨H.1, by rw [mS_j]; exact H.2.1, fun r hr => by rw [mS_ne _ _ _ hr]; exact H.2.2 r hr⟩
theorem lfC_I {c0 c : Ch} {k : Nat} {y : Int32} (H : lfC c0 c) : lfC c0 (cI c 82 k y) := ⟨fun r q1 q2 => by rw [cI_n _ q1]; exact H.1 r q1 q2, by rw [cI_n _ (by decide)]; exact H.2.1, H.2.2⟩
/-- both read lines on -/
def LNx (t : Nat → Nat) (N : Nat) (m0 : Mu) (c0 : Ch) (h : Hp) (m : Mu) (c : Ch) (z : Tl) (nc a : Nat) : Prop := (∃ b kd nm, TSx t N h m c a b kd nm) ∧ Rt (m.2.1 4) z nc ∧ Ct h c z ∧ okT z ∧ nc ≤ a ∧ lfM m0 m ∧ lfC c0 c
theorem TS_a {t : Nat → Nat} {N : Nat} {h : Hp} {m : Mu} {c : Ch} {a b kd nm : Nat} (H : TSx t N h m c a b kd nm) : a ≤ N ∧ N ≤ 900 ∧ kd < 42 := by
  have k8 := H.2.1.2.2.2.2.2.2.2
  have := TC_kd k8
  exact ⟨by have := k8.1; omega, H.1.1, this.1⟩
theorem TS_S {t : Nat → Nat} {N : Nat} {h : Hp} {m : Mu} {c : Ch} {a b kd nm i : Nat} {y : Int32} (H : TSx t N h m c a b kd nm) : TSx t N h (mS m 4 i y) c a b kd nm := by
  obtain ⟨⟨x1, x2, x3, x4, x5⟩, K, w⟩ := H
  refine ⟨⟨x1, x2, by rw [mS_f]; exact x3, by rw [mS_ne _ _ _ (by decide)]; exact x4, x5⟩, ?_, by rw [mS_f]; exact w⟩
  unfold TKx at *
  rw [mS_f]
  exact K
theorem TS_I {t : Nat → Nat} {N : Nat} {h : Hp} {m : Mu} {c : Ch} {a b kd nm k : Nat} {y : Int32} (H : TSx t N h m c a b kd nm) (q5 : ¬ 5 = k := by decide) (q6 : ¬ 6 = k := by decide) : TSx t N h m (cI c 82 k y) a b kd nm := by
  obtain ⟨⟨x1, x2, x3, x4, x5, x6, x7⟩, ⟨k1, k2, k3, k4, k5, k6, k7, k8⟩, w⟩ := H
  have e83 : ∀ j, (cI c 82 k y).1 83 j = c.1 83 j := fun j => by rw [cI_n _ (by decide)]
  exact ⟨⟨x1, x2, x3, x4, x5, by rw [e83]; exact x6, x7.1, by rw [cI_1, if_pos rfl, if_neg q5]; exact x7.2.1, by rw [cI_1, if_pos rfl, if_neg q6]; exact x7.2.2⟩, ⟨k1, k2, k3, by rw [e83]; exact k4, by rw [e83]; exact k5, by rw [e83]; exact k6, fun q => by rw [e83]; exact k7 q, k8⟩, w⟩
section TLD
variable {t : Nat → Nat} {N : Nat} {m0 : Mu} {c0 : Ch} {h : Hp} {m : Mu} {c : Ch} {z : Tl} {nc a : Nat}
/-- how dry -/
theorem l_dry {b nm : Nat} (T : TSx t N h m c a b 6 nm) (R : Rt (m.2.1 4) z nc) (C : Ct h c z) (O : okT z) (hl : nc ≤ a) (fM : lfM m0 m) (fC : lfC c0 c) :
    ∃ m1 m2 y, gX12_eats m (nI 6) = some (nI 1, m1) ∧ gX12_takes m1 (nI 0) (nI 10) = some (y, m2) ∧
      ((∃ c' a', gX4_tellDry h c = some (nI 1, c') ∧ LNx t N m0 c0 h (mS m2 4 4 y) c' (z.1, z.2.1, y.toInt.toNat, z.2.2.2) nc a' ∧ a < a') ∨ (∃ c', gX4_tellDry h c = some (nI 0, c') ∧ LFx m0 c0 (mS m2 4 4 y) c')) := by
  have i1 : ¬ (1 = 0) := by decide
  have q6 : gX12_is m (nI 6) = some (nI (if 6 = 6 then 1 else 0)) := q_is T.2.2 T.2.1.2.2.1 (by decide) (by decide)
  rw [if_pos rfl] at q6
  obtain ⟨m1, c1, a1, b1, kd1, nm1, e1, e2, T1, l1, f1, f2⟩ := l_next T (by decide)
  have ee : gX12_eats m (nI 6) = some (nI 1, m1) := by
    unfold gX12_eats
    simp (disch := omega) only [n_lit, n_of, n_o1, nI_add, pk_mul, nI_ltI, nI_leI, nI_eq, ↓lift_lt, ↓k_mt, ↓k_mp, if_true, if_false, Bool.false_eq_true, Nat.not_lt_zero, Nat.zero_le, Nat.reduceEqDiff, Nat.reduceLeDiff, Nat.reduceLT, q6, i1, e1]
  have fM1 := lfM_n fM f1
  have fC1 := lfC_n fC f2
  have R1 : Rt (m1.2.1 4) z nc := by rw [f1.2]; exact R
  have C1 : Ct h c1 z := by unfold Ct at *; rw [f2.1 82 (by decide), f2.2.2]; exact C
  rcases l_num (lo := 0) (hi := 10) (by decide) (by decide) T1 with ⟨m2, c2, a2, b2, kd2, nm2, x1, x2, T2, l2, g1, g2, z1, z2, z3⟩ | ⟨-, q, -⟩ | ⟨y, m2, c2, x1, x2, F, -⟩
  · refine ⟨m1, m2, nI nm1, ee, x1, Or.inl ⟨cI c2 82 10 (nI nm1), a2, ?_, ⟨⟨b2, kd2, nm2, TS_S (TS_I T2)⟩, ?_, ?_, ?_, by omega, lfM_S (lfM_n fM1 g1), lfC_I (lfC_n (lfC_I fC1) g2)⟩, by omega⟩⟩
    · have w4 : c2.1 82 4 = nI nm1 := by rw [g2.1 82 (by decide), cI_1, if_pos rfl, if_pos rfl]
      unfold gX4_tellDry
      simp (disch := omega) only [n_lit, n_of, n_o1, nI_add, pk_mul, nI_ltI, nI_leI, nI_eq, ↓lift_lt, ↓k_mt, ↓k_mp, if_true, if_false, Bool.false_eq_true, Nat.not_lt_zero, Nat.zero_le, Nat.reduceEqDiff, Nat.reduceLeDiff, Nat.reduceLT, e2, x2, i1, w4]
    · obtain ⟨r1, r2, r3, r4, r5, r6, r7, r8, r9, r10, r11, r12⟩ := R1
      have s4 : ∀ i, ¬ i = 4 → (mS m2 4 4 (nI nm1)).2.1 4 i = m1.2.1 4 i := fun i hi => by rw [mS_a, if_pos rfl, if_neg hi, g1.2]
      have en : (nI nm1).toInt.toNat = nm1 := by rw [nI_toInt (by omega)]; exact Int.toNat_natCast _
      refine ⟨by rw [s4 0 (by decide)]; exact r1, by rw [s4 1 (by decide)]; exact r2, by rw [s4 2 (by decide)]; exact r3, by rw [s4 3 (by decide)]; exact r4, ?_, fun p hp => by rw [s4 _ (by omega)]; exact r6 p hp, fun p hp => by rw [s4 _ (by omega)]; exact r7 p hp, by rw [s4 23 (by decide)]; exact r8, ⟨by rw [s4 24 (by decide)]; exact r9.1, by rw [s4 25 (by decide)]; exact r9.2.1, by rw [s4 26 (by decide)]; exact r9.2.2⟩, ?_, ?_, by rw [s4 137 (by decide)]; exact r12⟩
      · rw [mS_a, if_pos rfl, if_pos rfl]
        show nI nm1 = nI (nI nm1).toInt.toNat
        rw [en]
      · exact lawN_eq (fun i hi => s4 i (by omega)) r10
      · exact lawN_eq (fun i hi => s4 i (by omega)) r11
    · have en : (nI nm1).toInt.toNat = nm1 := by rw [nI_toInt (by omega)]; exact Int.toNat_natCast _
      have w : ∀ k, ¬ k = 10 → ¬ k = 4 → (cI c2 82 10 (nI nm1)).1 82 k = c1.1 82 k := fun k h1 h2 => by rw [cI_1, if_pos rfl, if_neg h1, g2.1 82 (by decide), cI_1, if_pos rfl, if_neg h2]
      obtain ⟨s1, s2, s3, s4, s5, s6, s7, s8, s9⟩ := C1
      refine ⟨by rw [w 7 (by decide) (by decide)]; exact s1, by rw [w 8 (by decide) (by decide)]; exact s2, by rw [w 9 (by decide) (by decide)]; exact s3, ?_, by rw [w 11 (by decide) (by decide)]; exact s5, by rw [w 12 (by decide) (by decide)]; exact s6, by rw [w 13 (by decide) (by decide)]; exact s7, ?_, ?_⟩
      · rw [cI_1, if_pos rfl, if_pos rfl]
        show nI nm1 = nI (nI nm1).toInt.toNat
        rw [en]
      · show LawAt h (c2.2.2.1 82 14) _
        rw [g2.2.2]
        exact s8
      · show LawAt h (c2.2.2.1 82 15) _
        rw [g2.2.2]
        exact s9
    · obtain ⟨o1, o2, o3, o4⟩ := O
      refine ⟨o1, o2, ?_, o4⟩
      show (nI nm1).toInt.toNat ≤ 10
      rw [nI_toInt (by omega)]
      omega
  · omega
  · refine ⟨m1, m2, y, ee, x1, Or.inr ⟨c2, ?_, ?_⟩⟩
    · unfold gX4_tellDry
      simp (disch := omega) only [n_lit, n_of, n_o1, nI_add, pk_mul, nI_ltI, nI_leI, nI_eq, ↓lift_lt, ↓k_mt, ↓k_mp, if_true, if_false, Bool.false_eq_true, Nat.not_lt_zero, Nat.zero_le, Nat.reduceEqDiff, Nat.reduceLeDiff, Nat.reduceLT, e2, x2]
    · obtain ⟨k, p, h1, h2, h3, h4, h5, h6, h7, h8, h9⟩ := LFx_of fM1 fC1 F
      exact ⟨k, p, h1, h2, h3, by rw [mS_f]; exact h4, by rw [mS_f]; exact h5, h6, h7, lfM_S h8, h9⟩
end TLD
