/-! what a call must show; pairs, trays, bounds on both sides -/
def OKs {α : Type} (T : Nat) (h : Hp) (V : Nat → Cv) (r1 : Option (α × Ch)) (r2 : Option (α × Mu)) : Prop := ∃ r c' m' x', r1 = some (r, c') ∧ r2 = some (r, m') ∧ RC (T + 1) h V c' x' ∧ RM m' x' ∧ WF x'
def OKq (x : Sp) (r1 : Option Int32) (r2 : Option (Int32 × Mu)) : Prop := ∃ r m', r1 = some r ∧ r2 = some (r, m') ∧ RM m' x
theorem RC_T {T T' : Nat} {h : Hp} {V : Nat → Cv} {c : Ch} {x : Sp} (hT : T ≤ T') (H : RC T h V c x) : RC T' h V c x := ⟨H.1, H.2.1, SI_T hT H.2.2⟩
theorem RM_0 {m : Mu} {x : Sp} (H : RM m x) (v : Int32) : RM (mI m 0 v) x := RM_kp H (kpM_I m v (by decide) (by decide) (by decide))
theorem q_wI (x : Int32) (lo hi : Int64) : gX12_within x.toInt64 lo hi = some (if lo.toInt ≤ x.toInt ∧ x.toInt ≤ hi.toInt then nI 1 else nI 0) := by
  rw [q_within]
  simp only [Int64.le_iff_toInt_le, Int32.toInt_toInt64]
theorem win_y {p l u : Nat} (hu : u < 2 ^ 31) (h1 : l ≤ p) (h2 : p ≤ u) : gX12_within (nI p).toInt64 (lN l) (lN u) = some (nI 1) := by
  rw [q_wI, lN_toInt (by omega), lN_toInt hu, nI_toInt (by omega), if_pos (by omega)]
theorem win_n {x : Int32} {l u : Nat} (hl : l < 2 ^ 31) (hu : u < 2 ^ 31) (h : ¬ ∃ p, l ≤ p ∧ p ≤ u ∧ x = nI p) : gX12_within x.toInt64 (lN l) (lN u) = some (nI 0) := by
  rw [q_wI, lN_toInt hl, lN_toInt hu]
  rw [if_neg]
  intro q
  refine h ⟨x.toInt.toNat, by omega, by omega, ?_⟩
  apply Int32.toInt_inj.mp
  rw [nI_toInt (by omega)]
  omega
theorem wi_n {x : Int32} {n u : Nat} (h : ¬ ∃ p, p < n ∧ x = nI p) (hn : n < 2 ^ 31) (hu : u < n) : gX12_within x.toInt64 (lN 0) (lN u) = some (nI 0) :=
  win_n (by decide) (by omega) (fun ⟨p, _, h2, h3⟩ => h ⟨p, by omega, h3⟩)
theorem ix_cases (x : Int32) (n : Nat) (hn : n < 2 ^ 31) (hn0 : 0 < n) : (∃ p, p < n ∧ x = nI p) ∨ (¬ (∃ p, p < n ∧ x = nI p) ∧ x < nI 0) ∨ (¬ (∃ p, p < n ∧ x = nI p) ∧ ¬ x < nI 0 ∧ nI n ≤ x ∧ ¬ x < nI n ∧ nI (n - 1) < x ∧ ¬ x ≤ nI (n - 1)) := by
  by_cases h0 : x.toInt < 0
  · refine Or.inr (Or.inl ⟨?_, ?_⟩)
    · rintro ⟨p, hp, rfl⟩
      rw [nI_toInt (by omega)] at h0
      omega
    · rw [Int32.lt_iff_toInt_lt, nI_toInt (by decide)]
      exact h0
  · by_cases h1 : x.toInt < n
    · refine Or.inl ⟨x.toInt.toNat, by omega, ?_⟩
      apply Int32.toInt_inj.mp
      rw [nI_toInt (by omega)]
      omega
    · refine Or.inr (Or.inr ⟨?_, ?_, ?_, ?_, ?_, ?_⟩)
      · rintro ⟨p, hp, rfl⟩
        rw [nI_toInt (by omega)] at h1
        omega
      · rw [Int32.lt_iff_toInt_lt, nI_toInt (by decide)]
        exact h0
      · rw [Int32.le_iff_toInt_le, nI_toInt hn]
        omega
      · rw [Int32.lt_iff_toInt_lt, nI_toInt hn]
        omega
      · rw [Int32.lt_iff_toInt_lt, nI_toInt (by omega)]
        omega
      · rw [Int32.le_iff_toInt_le, nI_toInt (by omega)]
        omega
theorem ix_ne {x : Int32} {n k : Nat} (h : ¬ ∃ p, p < n ∧ x = nI p) (hk : k < n) : ¬ x = nI k := fun e => h ⟨k, hk, e⟩
section PAIRS
variable {m : Mu} {P : Nat}
theorem q_pair_y {p : Nat} (hP : P ≤ 4) (h1 : m.2.1 1 1 = nI P) (hp : p < P) : gX12_isPair m (nI p).toInt64 = some (nI 1) := by
  unfold gX12_isPair
  have e : (nI (P - 1)).toInt64 = lN (P - 1) := nI_l (by omega)
  simp (disch := omega) only [n_lit, n_of, n_o1, nI_add, pk_mul, nI_ltI, nI_leI, nI_eq, ↓lift_lt, ↓k_mt, ↓k_mp, if_true, if_false, Bool.false_eq_true, Nat.not_lt_zero, Nat.zero_le, Nat.reduceEqDiff, Nat.reduceLeDiff, n_litL, mA_1, h1, pk_sub, e, win_y, n_bl1]
theorem q_pair_n {x : Int32} (hP : P ≤ 4) (h1 : m.2.1 1 1 = nI P) (h : ¬ ∃ p, p < P ∧ x = nI p) : gX12_isPair m x.toInt64 = some (nI 0) := by
  unfold gX12_isPair
  by_cases h0 : P = 0
  · subst h0
    have e : gX12_within x.toInt64 (lN 0) (nI 0 - nI 1).toInt64 = some (nI 0) := by
      rw [q_wI]
      have a1 : (nI 0 - nI 1).toInt64.toInt = -1 := by decide
      have a2 : (lN 0).toInt = 0 := by decide
      rw [a1, a2, if_neg (by omega)]
    simp (disch := omega) only [n_lit, n_of, n_o1, nI_add, pk_mul, nI_ltI, nI_leI, nI_eq, ↓lift_lt, ↓k_mt, ↓k_mp, if_true, if_false, Bool.false_eq_true, Nat.not_lt_zero, Nat.zero_le, Nat.reduceEqDiff, Nat.reduceLeDiff, n_litL, mA_1, h1, e, n_bl0]
  · have e : (nI (P - 1)).toInt64 = lN (P - 1) := nI_l (by omega)
    have w := wi_n (u := P - 1) h (by omega) (by omega)
    simp (disch := omega) only [n_lit, n_of, n_o1, nI_add, pk_mul, nI_ltI, nI_leI, nI_eq, ↓lift_lt, ↓k_mt, ↓k_mp, if_true, if_false, Bool.false_eq_true, Nat.not_lt_zero, Nat.zero_le, Nat.reduceEqDiff, Nat.reduceLeDiff, n_litL, mA_1, h1, pk_sub, e, w, n_bl0]
end PAIRS
section CPAIRS
variable {h : Hp} {V : Nat → Cv} {c : Ch} {a : Nat} {v : Cv}
theorem c_pair_y {p : Nat} (hP : vP v ≤ 4) (e1 : c.2.2.1 80 3 = some a) (hC : CaveAt h a v) (hp : p < vP v) : gX11_isPair h c (nI p) = some (nI 1) := by
  have h2 : ¬ vP v ≤ p := by omega
  unfold gX11_isPair gX11_isPair_20
  simp (disch := omega) only [n_lit, n_of, n_o1, nI_add, pk_mul, nI_ltI, nI_leI, nI_eq, ↓lift_lt, ↓k_mt, ↓k_mp, if_true, if_false, Bool.false_eq_true, Nat.not_lt_zero, Nat.zero_le, Nat.reduceEqDiff, Nat.reduceLeDiff, e1, cv_P hC, h2, n_bl1]
theorem c_pair_n {x : Int32} (hP : vP v ≤ 4) (e1 : c.2.2.1 80 3 = some a) (hC : CaveAt h a v) (hx : ¬ ∃ p, p < vP v ∧ x = nI p) : gX11_isPair h c x = some (nI 0) := by
  unfold gX11_isPair gX11_isPair_19 gX11_isPair_20
  by_cases h0 : x < nI 0
  · simp (disch := omega) only [n_lit, n_of, n_o1, nI_add, pk_mul, nI_ltI, nI_leI, nI_eq, ↓lift_lt, ↓k_mt, ↓k_mp, if_true, if_false, Bool.false_eq_true, Nat.not_lt_zero, Nat.zero_le, Nat.reduceEqDiff, Nat.reduceLeDiff, h0, n_bl0]
  · have h2 : nI (vP v) ≤ x := by
      obtain ⟨j, hj, e⟩ := nI_of h0
      rw [e]
      refine nI_le (Nat.not_lt.mp fun q => hx ⟨j, q, e⟩) hj
    simp (disch := omega) only [n_lit, n_of, n_o1, nI_add, pk_mul, nI_ltI, nI_leI, nI_eq, ↓lift_lt, ↓k_mt, ↓k_mp, if_true, if_false, Bool.false_eq_true, Nat.not_lt_zero, Nat.zero_le, Nat.reduceEqDiff, Nat.reduceLeDiff, h0, e1, cv_P hC, h2, n_bl0]
theorem c_tray_y {p : Nat} (hp : p < 4) : gX11_isTray (nI p) = some (nI 1) := by
  have h2 : ¬ 4 ≤ p := by omega
  unfold gX11_isTray gX11_isTray_14
  simp (disch := omega) only [n_lit, n_of, n_o1, nI_add, pk_mul, nI_ltI, nI_leI, nI_eq, ↓lift_lt, ↓k_mt, ↓k_mp, if_true, if_false, Bool.false_eq_true, Nat.not_lt_zero, Nat.zero_le, Nat.reduceEqDiff, Nat.reduceLeDiff, h2, n_bl1]
theorem c_tray_n {x : Int32} (hx : ¬ ∃ p, p < 4 ∧ x = nI p) : gX11_isTray x = some (nI 0) := by
  unfold gX11_isTray gX11_isTray_13 gX11_isTray_14
  rcases ix_cases x 4 (by decide) (by decide) with q | ⟨-, q⟩ | ⟨-, q1, q2, q3⟩
  · exact absurd q hx
  · simp (disch := omega) only [n_lit, n_of, n_o1, nI_add, pk_mul, nI_ltI, nI_leI, nI_eq, ↓lift_lt, ↓k_mt, ↓k_mp, if_true, if_false, Bool.false_eq_true, Nat.not_lt_zero, Nat.zero_le, Nat.reduceEqDiff, Nat.reduceLeDiff, q, n_bl0]
  · simp (disch := omega) only [n_lit, n_of, n_o1, nI_add, pk_mul, nI_ltI, nI_leI, nI_eq, ↓lift_lt, ↓k_mt, ↓k_mp, if_true, if_false, Bool.false_eq_true, Nat.not_lt_zero, Nat.zero_le, Nat.reduceEqDiff, Nat.reduceLeDiff, q1, q2, n_bl0]
theorem c_dry_y {p : Nat} (hp : p < 2) : gX11_isDryness (nI p) = some (nI 1) := by
  unfold gX11_isDryness gX11_isDryness_9 gX11_isDryness_14
  by_cases h0 : p = 0
  · simp (disch := omega) only [n_lit, n_of, n_o1, nI_add, pk_mul, nI_ltI, nI_leI, nI_eq, ↓lift_lt, ↓k_mt, ↓k_mp, if_true, if_false, Bool.false_eq_true, Nat.not_lt_zero, Nat.zero_le, Nat.reduceEqDiff, Nat.reduceLeDiff, h0, n_bl1]
  · have h1 : p = 1 := by omega
    subst h1
    simp (disch := omega) only [n_lit, n_of, n_o1, nI_add, pk_mul, nI_ltI, nI_leI, nI_eq, ↓lift_lt, ↓k_mt, ↓k_mp, if_true, if_false, Bool.false_eq_true, Nat.not_lt_zero, Nat.zero_le, Nat.reduceEqDiff, Nat.reduceLeDiff, h0, n_bl1]
theorem c_dry_n {x : Int32} (hx : ¬ ∃ p, p < 2 ∧ x = nI p) : gX11_isDryness x = some (nI 0) := by
  unfold gX11_isDryness gX11_isDryness_14
  have h0 := ix_ne (k := 0) hx (by decide)
  have h1 := ix_ne (k := 1) hx (by decide)
  simp (disch := omega) only [n_lit, n_of, n_o1, nI_add, pk_mul, nI_ltI, nI_leI, nI_eq, ↓lift_lt, ↓k_mt, ↓k_mp, if_true, if_false, Bool.false_eq_true, Nat.not_lt_zero, Nat.zero_le, Nat.reduceEqDiff, Nat.reduceLeDiff, h0, h1, n_bl0]
end CPAIRS
theorem q_dry_y {p : Nat} (hp : p < 2) : gX12_isDry (nI p).toInt64 = some (nI 1) := by
  unfold gX12_isDry
  simp (disch := omega) only [n_lit, n_of, n_o1, nI_add, pk_mul, nI_ltI, nI_leI, nI_eq, ↓lift_lt, ↓k_mt, ↓k_mp, if_true, if_false, Bool.false_eq_true, Nat.not_lt_zero, Nat.zero_le, Nat.reduceEqDiff, Nat.reduceLeDiff, n_litL, win_y, n_bl1]
theorem q_dry_n {x : Int32} (hx : ¬ ∃ p, p < 2 ∧ x = nI p) : gX12_isDry x.toInt64 = some (nI 0) := by
  unfold gX12_isDry
  have w := wi_n (u := 1) hx (by decide) (by decide)
  simp (disch := omega) only [n_lit, n_of, n_o1, nI_add, pk_mul, nI_ltI, nI_leI, nI_eq, ↓lift_lt, ↓k_mt, ↓k_mp, if_true, if_false, Bool.false_eq_true, Nat.not_lt_zero, Nat.zero_le, Nat.reduceEqDiff, Nat.reduceLeDiff, n_litL, w, n_bl0]
section NOW
variable {m : Mu} {x : Sp}
/-- the reference's stand is what is told -/
theorem q_now (H : RM m x) (hP : vP (zV x) ≤ 4) (hw : wS (zV x) (zS x)) : gX12_standNow m = some (nI (zS x).1) := by
  obtain ⟨-, -, ⟨-, r1, -⟩, ⟨b1, -, -, b9, -⟩, -⟩ := H
  rw [q_standNow (P := vP (zV x)) (F := (zS x).1 / 10000) (f := dg (zS x).1) hP r1 b9 (fun p hp => b1 p hp), cod_dg]
  have h1 := hw.2.1
  have h2 : (zS x).1 % 10 ^ vP (zV x) = (zS x).1 % 10000 := by
    have : (zS x).1 % 10000 % 10 ^ vP (zV x) = (zS x).1 % 10 ^ vP (zV x) := by
      apply Nat.mod_mod_of_dvd
      have : (10000 : Nat) = 10 ^ 4 := by decide
      rw [this]
      exact Nat.pow_dvd_pow 10 hP
    rw [← this, Nat.mod_eq_of_lt h1]
  rw [h2]
  congr 2
  omega
end NOW
/-! fault, count, pair -/
section OPS1
variable {T : Nat} {h : Hp} {V : Nat → Cv} {c : Ch} {m : Mu} {x : Sp}
theorem op_fault (x1 : Int32) (gC : RC T h V c x) (gM : RM m x) : OKq x (gX11_fault h c x1) (gX12_fault m x1) := by
  have hM := RM_0 (m := m) (x := x) gM (nI 0)
  obtain ⟨-, -, -, -, -, -, -, c5, c6⟩ := gC.1
  obtain ⟨-, -, -, -, -, -, -, -, m13, m14⟩ := gM
  unfold gX11_fault gX11_fault_28 gX12_fault gX12_fault_29
  by_cases h0 : x1 = nI 0
  · refine ⟨(zF x).1, mI m 0 (nI 0), ?_, ?_, hM⟩
    · simp (disch := omega) only [n_lit, n_of, n_o1, nI_add, pk_mul, nI_ltI, nI_leI, nI_eq, ↓lift_lt, ↓k_mt, ↓k_mp, if_true, if_false, Bool.false_eq_true, Nat.not_lt_zero, Nat.zero_le, Nat.reduceEqDiff, Nat.reduceLeDiff, h0, c5]
    · simp (disch := omega) only [n_lit, n_of, n_o1, nI_add, pk_mul, nI_ltI, nI_leI, nI_eq, ↓lift_lt, ↓k_mt, ↓k_mp, if_true, if_false, Bool.false_eq_true, Nat.not_lt_zero, Nat.zero_le, Nat.reduceEqDiff, Nat.reduceLeDiff, h0, mI_f, m13]
  · by_cases h1 : x1 = nI 1
    · refine ⟨(zF x).2, mI m 0 (nI 0), ?_, ?_, hM⟩
      · simp (disch := omega) only [n_lit, n_of, n_o1, nI_add, pk_mul, nI_ltI, nI_leI, nI_eq, ↓lift_lt, ↓k_mt, ↓k_mp, if_true, if_false, Bool.false_eq_true, Nat.not_lt_zero, Nat.zero_le, Nat.reduceEqDiff, Nat.reduceLeDiff, h1, c6]
      · simp (disch := omega) only [n_lit, n_of, n_o1, nI_add, pk_mul, nI_ltI, nI_leI, nI_eq, ↓lift_lt, ↓k_mt, ↓k_mp, if_true, if_false, Bool.false_eq_true, Nat.not_lt_zero, Nat.zero_le, Nat.reduceEqDiff, Nat.reduceLeDiff, h1, mI_f, m14]
    · refine ⟨-nI 1, mI m 0 (nI 0), ?_, ?_, hM⟩
      · simp (disch := omega) only [n_lit, n_of, n_o1, nI_add, pk_mul, nI_ltI, nI_leI, nI_eq, ↓lift_lt, ↓k_mt, ↓k_mp, if_true, if_false, Bool.false_eq_true, Nat.not_lt_zero, Nat.zero_le, Nat.reduceEqDiff, Nat.reduceLeDiff, h0, h1]
      · simp (disch := omega) only [n_lit, n_of, n_o1, nI_add, pk_mul, nI_ltI, nI_leI, nI_eq, ↓lift_lt, ↓k_mt, ↓k_mp, if_true, if_false, Bool.false_eq_true, Nat.not_lt_zero, Nat.zero_le, Nat.reduceEqDiff, Nat.reduceLeDiff, h0, h1]
theorem op_count (x1 : Int32) (gC : RC T h V c x) (gM : RM m x) (hW : WF x) : OKq x (gX11_count h c x1) (gX12_count m x1) := by
  have hv := hW.2.2.1
  have hP := hv.1
  have hs := hW.2.2.2.1
  have s31 : (zS x).1 < 2 ^ 31 := by have := hs.1; omega
  have hM := RM_0 (m := m) (x := x) gM (nI 0)
  have hN := q_now hM hP hs
  obtain ⟨c1, -, ⟨a, c3, c4, hC⟩, ⟨s0, s1, s2, s3⟩, ⟨cp, -⟩, -⟩ := gC.1
  obtain ⟨m5, -, ⟨r0, r1, r2, -⟩, ⟨-, -, b8, b9, b10⟩, m26, -⟩ := hM
  unfold gX11_count gX11_count_128 gX12_count
  have hF : (zS x).1 / 10000 = if (zS x).1 < 10000 then 0 else 1 := by
    have := hs.1
    split <;> omega
  have hF2 : ((mI m 0 (nI 0)).2.1 1 24) = if (zS x).1 < 10000 then nI 0 else nI 1 := by
    rw [show (24 : Nat) = 15 + 9 from rfl, b9, hF]
    split <;> rfl
  have m23 : (mI m 0 (nI 0)).2.1 1 23 = nI (zS x).2.2.1 := b8
  have m25 : (mI m 0 (nI 0)).2.1 1 25 = (zS x).2.2.2 := b10
  have ne : ∀ {i j : Nat}, i < 100 → j < 100 → ¬ i = j → ¬ nI i = nI j := fun hi hj q e => q ((nI_eq (by omega) (by omega)).mp e)
  by_cases k0 : x1 = nI 0
  · refine ⟨nI (vP (zV x)), mI m 0 (nI 0), ?_, ?_, RM_0 gM _⟩
    · simp (disch := omega) only [n_lit, n_of, n_o1, nI_add, pk_mul, nI_ltI, nI_leI, nI_eq, ↓lift_lt, ↓k_mt, ↓k_mp, if_true, if_false, Bool.false_eq_true, Nat.not_lt_zero, Nat.zero_le, Nat.reduceEqDiff, Nat.reduceLeDiff, k0, c3, cv_P hC]
    · simp (disch := omega) only [n_lit, n_of, n_o1, nI_add, pk_mul, nI_ltI, nI_leI, nI_eq, ↓lift_lt, ↓k_mt, ↓k_mp, if_true, if_false, Bool.false_eq_true, Nat.not_lt_zero, Nat.zero_le, Nat.reduceEqDiff, Nat.reduceLeDiff, k0, mA_1, r1]
  by_cases k1 : x1 = nI 1
  · refine ⟨nI (vD (zV x)), mI m 0 (nI 0), ?_, ?_, RM_0 gM _⟩
    · simp (disch := omega) only [n_lit, n_of, n_o1, nI_add, pk_mul, nI_ltI, nI_leI, nI_eq, ↓lift_lt, ↓k_mt, ↓k_mp, if_true, if_false, Bool.false_eq_true, Nat.not_lt_zero, Nat.zero_le, Nat.reduceEqDiff, Nat.reduceLeDiff, k1, c3, cv_D hC]
    · simp (disch := omega) only [n_lit, n_of, n_o1, nI_add, pk_mul, nI_ltI, nI_leI, nI_eq, ↓lift_lt, ↓k_mt, ↓k_mp, if_true, if_false, Bool.false_eq_true, Nat.not_lt_zero, Nat.zero_le, Nat.reduceEqDiff, Nat.reduceLeDiff, k1, mA_1, r2]
  by_cases k2 : x1 = nI 2
  · refine ⟨nI (metb (vP (zV x)) (zS x).1), mI m 0 (nI 0), ?_, ?_, RM_0 gM _⟩
    · simp (disch := omega) only [n_lit, n_of, n_o1, nI_add, pk_mul, nI_ltI, nI_leI, nI_eq, ↓lift_lt, ↓k_mt, ↓k_mp, if_true, if_false, Bool.false_eq_true, Nat.not_lt_zero, Nat.zero_le, Nat.reduceEqDiff, Nat.reduceLeDiff, k2, c3, cv_O hC, s0, c_metBits hC hP s31]
    · simp (disch := omega) only [n_lit, n_of, n_o1, nI_add, pk_mul, nI_ltI, nI_leI, nI_eq, ↓lift_lt, ↓k_mt, ↓k_mp, if_true, if_false, Bool.false_eq_true, Nat.not_lt_zero, Nat.zero_le, Nat.reduceEqDiff, Nat.reduceLeDiff, k2, hN, q_metIn hP r1 s31]
  by_cases k3 : x1 = nI 3
  · refine ⟨nI (gsum (vP (zV x)) (zS x).1), mI m 0 (nI 0), ?_, ?_, RM_0 gM _⟩
    · simp (disch := omega) only [n_lit, n_of, n_o1, nI_add, pk_mul, nI_ltI, nI_leI, nI_eq, ↓lift_lt, ↓k_mt, ↓k_mp, if_true, if_false, Bool.false_eq_true, Nat.not_lt_zero, Nat.zero_le, Nat.reduceEqDiff, Nat.reduceLeDiff, k3, c3, cv_O hC, s0, c_gapSum hC hP s31]
    · simp (disch := omega) only [n_lit, n_of, n_o1, nI_add, pk_mul, nI_ltI, nI_leI, nI_eq, ↓lift_lt, ↓k_mt, ↓k_mp, if_true, if_false, Bool.false_eq_true, Nat.not_lt_zero, Nat.zero_le, Nat.reduceEqDiff, Nat.reduceLeDiff, k3, hN, q_gapsIn hP r1 s31]
  by_cases k4 : x1 = nI 4
  · refine ⟨nI (zS x).2.2.1, mI m 0 (nI 0), ?_, ?_, RM_0 gM _⟩
    · simp (disch := omega) only [n_lit, n_of, n_o1, nI_add, pk_mul, nI_ltI, nI_leI, nI_eq, ↓lift_lt, ↓k_mt, ↓k_mp, if_true, if_false, Bool.false_eq_true, Nat.not_lt_zero, Nat.zero_le, Nat.reduceEqDiff, Nat.reduceLeDiff, k4, s2]
    · simp (disch := omega) only [n_lit, n_of, n_o1, nI_add, pk_mul, nI_ltI, nI_leI, nI_eq, ↓lift_lt, ↓k_mt, ↓k_mp, if_true, if_false, Bool.false_eq_true, Nat.not_lt_zero, Nat.zero_le, Nat.reduceEqDiff, Nat.reduceLeDiff, k4, mA_1, m23]
  by_cases k5 : x1 = nI 5
  · refine ⟨if (zS x).1 < 10000 then nI 0 else nI 1, mI m 0 (nI 0), ?_, ?_, RM_0 gM _⟩
    · simp (disch := omega) only [n_lit, n_of, n_o1, nI_add, pk_mul, nI_ltI, nI_leI, nI_eq, ↓lift_lt, ↓k_mt, ↓k_mp, if_true, if_false, Bool.false_eq_true, Nat.not_lt_zero, Nat.zero_le, Nat.reduceEqDiff, Nat.reduceLeDiff, k5, s0]
      split <;> rfl
    · simp (disch := omega) only [n_lit, n_of, n_o1, nI_add, pk_mul, nI_ltI, nI_leI, nI_eq, ↓lift_lt, ↓k_mt, ↓k_mp, if_true, if_false, Bool.false_eq_true, Nat.not_lt_zero, Nat.zero_le, Nat.reduceEqDiff, Nat.reduceLeDiff, k5, mA_1, hF2]
  by_cases k6 : x1 = nI 6
  · refine ⟨(zS x).2.2.2, mI m 0 (nI 0), ?_, ?_, RM_0 gM _⟩
    · simp (disch := omega) only [n_lit, n_of, n_o1, nI_add, pk_mul, nI_ltI, nI_leI, nI_eq, ↓lift_lt, ↓k_mt, ↓k_mp, if_true, if_false, Bool.false_eq_true, Nat.not_lt_zero, Nat.zero_le, Nat.reduceEqDiff, Nat.reduceLeDiff, k6, s3]
    · simp (disch := omega) only [n_lit, n_of, n_o1, nI_add, pk_mul, nI_ltI, nI_leI, nI_eq, ↓lift_lt, ↓k_mt, ↓k_mp, if_true, if_false, Bool.false_eq_true, Nat.not_lt_zero, Nat.zero_le, Nat.reduceEqDiff, Nat.reduceLeDiff, k6, mA_1, m25]
  by_cases k7 : x1 = nI 7
  · refine ⟨nI (zH x).length, mI m 0 (nI 0), ?_, ?_, RM_0 gM _⟩
    · simp (disch := omega) only [n_lit, n_of, n_o1, nI_add, pk_mul, nI_ltI, nI_leI, nI_eq, ↓lift_lt, ↓k_mt, ↓k_mp, if_true, if_false, Bool.false_eq_true, Nat.not_lt_zero, Nat.zero_le, Nat.reduceEqDiff, Nat.reduceLeDiff, k7, cp]
    · simp (disch := omega) only [n_lit, n_of, n_o1, nI_add, pk_mul, nI_ltI, nI_leI, nI_eq, ↓lift_lt, ↓k_mt, ↓k_mp, if_true, if_false, Bool.false_eq_true, Nat.not_lt_zero, Nat.zero_le, Nat.reduceEqDiff, Nat.reduceLeDiff, k7, mA_1, m26]
  by_cases k8 : x1 = nI 8
  · refine ⟨nI (zT x).1, mI m 0 (nI 0), ?_, ?_, RM_0 gM _⟩
    · simp (disch := omega) only [n_lit, n_of, n_o1, nI_add, pk_mul, nI_ltI, nI_leI, nI_eq, ↓lift_lt, ↓k_mt, ↓k_mp, if_true, if_false, Bool.false_eq_true, Nat.not_lt_zero, Nat.zero_le, Nat.reduceEqDiff, Nat.reduceLeDiff, k8, c1]
    · simp (disch := omega) only [n_lit, n_of, n_o1, nI_add, pk_mul, nI_ltI, nI_leI, nI_eq, ↓lift_lt, ↓k_mt, ↓k_mp, if_true, if_false, Bool.false_eq_true, Nat.not_lt_zero, Nat.zero_le, Nat.reduceEqDiff, Nat.reduceLeDiff, k8, m5]
  by_cases k9 : x1 = nI 9
  · refine ⟨nI (vN (zV x)), mI m 0 (nI 0), ?_, ?_, RM_0 gM _⟩
    · simp (disch := omega) only [n_lit, n_of, n_o1, nI_add, pk_mul, nI_ltI, nI_leI, nI_eq, ↓lift_lt, ↓k_mt, ↓k_mp, if_true, if_false, Bool.false_eq_true, Nat.not_lt_zero, Nat.zero_le, Nat.reduceEqDiff, Nat.reduceLeDiff, k9, c3, cv_N hC]
    · simp (disch := omega) only [n_lit, n_of, n_o1, nI_add, pk_mul, nI_ltI, nI_leI, nI_eq, ↓lift_lt, ↓k_mt, ↓k_mp, if_true, if_false, Bool.false_eq_true, Nat.not_lt_zero, Nat.zero_le, Nat.reduceEqDiff, Nat.reduceLeDiff, k9, mA_1, r0]
  refine ⟨-nI 1, mI m 0 (nI 0), ?_, ?_, RM_0 gM _⟩
  · simp (disch := omega) only [n_lit, n_of, n_o1, nI_add, pk_mul, nI_ltI, nI_leI, nI_eq, ↓lift_lt, ↓k_mt, ↓k_mp, if_true, if_false, Bool.false_eq_true, Nat.not_lt_zero, Nat.zero_le, Nat.reduceEqDiff, Nat.reduceLeDiff, k0, k1, k2, k3, k4, k5, k6, k7, k8, k9]
  · simp (disch := omega) only [n_lit, n_of, n_o1, nI_add, pk_mul, nI_ltI, nI_leI, nI_eq, ↓lift_lt, ↓k_mt, ↓k_mp, if_true, if_false, Bool.false_eq_true, Nat.not_lt_zero, Nat.zero_le, Nat.reduceEqDiff, Nat.reduceLeDiff, k0, k1, k2, k3, k4, k5, k6, k7, k8, k9]
theorem op_pair (x1 x2 : Int32) (gC : RC T h V c x) (gM : RM m x) (hW : WF x) : OKq x (gX11_pair h c x1 x2) (gX12_pair m x1 x2) := by
  have hv := hW.2.2.1
  have hP := hv.1
  obtain ⟨hs1, hs2, hs3, hs4⟩ := hW.2.2.2.1
  have hG := hv.2.2.2.2.1
  have p10 := pow10_le hP
  have p5 := pow5_le hP
  have hl := hs4.1
  have hM := RM_0 (m := m) (x := x) gM (nI 0)
  obtain ⟨c1, -, ⟨a, c3, c4, hC⟩, ⟨s0, s1, s2, s3⟩, -⟩ := gC.1
  obtain ⟨m5, -, ⟨r0, r1, r2, -, r11, -⟩, ⟨b0, b4, b8, b9, b10⟩, -⟩ := hM
  unfold gX11_pair gX12_pair
  by_cases hp : ∃ p, p < vP (zV x) ∧ x1 = nI p
  · obtain ⟨p, hp, rfl⟩ := hp
    have y1 := c_pair_y hP c3 hC hp
    have y2 := q_pair_y (m := mI m 0 (nI 0)) hP r1 hp
    have g15 : (mI m 0 (nI 0)).2.1 1 (15 + p) = nI (dg (zS x).1 p) := b0 p (by omega)
    have g19 : (mI m 0 (nI 0)).2.1 1 (19 + p) = nI (dg (zS x).2.1 p) := by rw [show 19 + p = 15 + (4 + p) by omega]; exact b4 p (by omega)
    have g11 : (mI m 0 (nI 0)).2.1 1 (11 + p) = nI (dg (vG (zV x)) p) := r11 p (by omega)
    have m23 : (mI m 0 (nI 0)).2.1 1 23 = nI (zS x).2.2.1 := b8
    have i1 : ¬ (1 = 0) := by decide
    by_cases k0 : x2 = nI 0
    · refine ⟨nI (dg (zS x).1 p), mI m 0 (nI 0), ?_, ?_, RM_0 gM _⟩
      · simp (disch := omega) only [n_lit, n_of, n_o1, nI_add, pk_mul, nI_ltI, nI_leI, nI_eq, ↓lift_lt, ↓k_mt, ↓k_mp, if_true, if_false, Bool.false_eq_true, Nat.not_lt_zero, Nat.zero_le, Nat.reduceEqDiff, Nat.reduceLeDiff, y1, i1, k0, s0, c_digit]
      · simp (disch := omega) only [n_lit, n_of, n_o1, nI_add, pk_mul, nI_ltI, nI_leI, nI_eq, ↓lift_lt, ↓k_mt, ↓k_mp, if_true, if_false, Bool.false_eq_true, Nat.not_lt_zero, Nat.zero_le, Nat.reduceEqDiff, Nat.reduceLeDiff, y2, i1, k0, mA_1, g15]
    by_cases k1 : x2 = nI 1
    · refine ⟨nI (dg (zS x).2.1 p), mI m 0 (nI 0), ?_, ?_, RM_0 gM _⟩
      · simp (disch := omega) only [n_lit, n_of, n_o1, nI_add, pk_mul, nI_ltI, nI_leI, nI_eq, ↓lift_lt, ↓k_mt, ↓k_mp, if_true, if_false, Bool.false_eq_true, Nat.not_lt_zero, Nat.zero_le, Nat.reduceEqDiff, Nat.reduceLeDiff, y1, i1, k1, s1, c_digit]
      · simp (disch := omega) only [n_lit, n_of, n_o1, nI_add, pk_mul, nI_ltI, nI_leI, nI_eq, ↓lift_lt, ↓k_mt, ↓k_mp, if_true, if_false, Bool.false_eq_true, Nat.not_lt_zero, Nat.zero_le, Nat.reduceEqDiff, Nat.reduceLeDiff, y2, i1, k1, mA_1, g19]
    by_cases k2 : x2 = nI 2
    · refine ⟨nI (d5 (zS x).2.2.1 p), mI m 0 (nI 0), ?_, ?_, RM_0 gM _⟩
      · simp (disch := omega) only [n_lit, n_of, n_o1, nI_add, pk_mul, nI_ltI, nI_leI, nI_eq, ↓lift_lt, ↓k_mt, ↓k_mp, if_true, if_false, Bool.false_eq_true, Nat.not_lt_zero, Nat.zero_le, Nat.reduceEqDiff, Nat.reduceLeDiff, y1, i1, k2, s2, c_dropsOf]
      · simp (disch := omega) only [n_lit, n_of, n_o1, nI_add, pk_mul, nI_ltI, nI_leI, nI_eq, ↓lift_lt, ↓k_mt, ↓k_mp, if_true, if_false, Bool.false_eq_true, Nat.not_lt_zero, Nat.zero_le, Nat.reduceEqDiff, Nat.reduceLeDiff, y2, i1, k2, mA_1, m23, q_dropsIn]
    by_cases k3 : x2 = nI 3
    · refine ⟨nI (dg (vG (zV x)) p), mI m 0 (nI 0), ?_, ?_, RM_0 gM _⟩
      · simp (disch := omega) only [n_lit, n_of, n_o1, nI_add, pk_mul, nI_ltI, nI_leI, nI_eq, ↓lift_lt, ↓k_mt, ↓k_mp, if_true, if_false, Bool.false_eq_true, Nat.not_lt_zero, Nat.zero_le, Nat.reduceEqDiff, Nat.reduceLeDiff, y1, i1, k3, c3, cv_G hC, c_digit]
      · simp (disch := omega) only [n_lit, n_of, n_o1, nI_add, pk_mul, nI_ltI, nI_leI, nI_eq, ↓lift_lt, ↓k_mt, ↓k_mp, if_true, if_false, Bool.false_eq_true, Nat.not_lt_zero, Nat.zero_le, Nat.reduceEqDiff, Nat.reduceLeDiff, y2, i1, k3, mA_1, g11]
    refine ⟨-nI 2, mI m 0 (nI 0), ?_, ?_, RM_0 gM _⟩
    · simp (disch := omega) only [n_lit, n_of, n_o1, nI_add, pk_mul, nI_ltI, nI_leI, nI_eq, ↓lift_lt, ↓k_mt, ↓k_mp, if_true, if_false, Bool.false_eq_true, Nat.not_lt_zero, Nat.zero_le, Nat.reduceEqDiff, Nat.reduceLeDiff, y1, i1, k0, k1, k2, k3]
    · simp (disch := omega) only [n_lit, n_of, n_o1, nI_add, pk_mul, nI_ltI, nI_leI, nI_eq, ↓lift_lt, ↓k_mt, ↓k_mp, if_true, if_false, Bool.false_eq_true, Nat.not_lt_zero, Nat.zero_le, Nat.reduceEqDiff, Nat.reduceLeDiff, y2, i1, k0, k1, k2, k3]
  · have y1 := c_pair_n hP c3 hC hp
    have y2 := q_pair_n (m := mI m 0 (nI 0)) hP r1 hp
    refine ⟨-nI 2, mI m 0 (nI 0), ?_, ?_, RM_0 gM _⟩
    · simp (disch := omega) only [n_lit, n_of, n_o1, nI_add, pk_mul, nI_ltI, nI_leI, nI_eq, ↓lift_lt, ↓k_mt, ↓k_mp, if_true, if_false, Bool.false_eq_true, Nat.not_lt_zero, Nat.zero_le, Nat.reduceEqDiff, Nat.reduceLeDiff, y1]
    · simp (disch := omega) only [n_lit, n_of, n_o1, nI_add, pk_mul, nI_ltI, nI_leI, nI_eq, ↓lift_lt, ↓k_mt, ↓k_mp, if_true, if_false, Bool.false_eq_true, Nat.not_lt_zero, Nat.zero_le, Nat.reduceEqDiff, Nat.reduceLeDiff, y2]
end OPS1
