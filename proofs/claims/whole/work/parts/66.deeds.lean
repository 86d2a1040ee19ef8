/-! deeds on both sides -/
def setd (s p d : Nat) : Nat := s - dg s p * 10 ^ p + d * 10 ^ p
theorem dg_le {s p : Nat} : dg s p * 10 ^ p ≤ s := by
  unfold dg
  have h1 : s / 10 ^ p % 10 ≤ s / 10 ^ p := Nat.mod_le _ _
  have h2 := Nat.mul_le_mul_right (10 ^ p) h1
  have h3 := Nat.div_mul_le_self s (10 ^ p)
  omega
theorem setd_dg {s p d q : Nat} (hp : p < 4) (hd : d < 10) (hq : q < 4) : dg (setd s p d) q = if q = p then d else dg s q := by
  unfold setd dg
  match p, hp with
  | 0, _ => match q, hq with
    | 0, _ => show (s - s / 1 % 10 * 1 + d * 1) / 1 % 10 = d; omega
    | 1, _ => show (s - s / 1 % 10 * 1 + d * 1) / 10 % 10 = s / 10 % 10; omega
    | 2, _ => show (s - s / 1 % 10 * 1 + d * 1) / 100 % 10 = s / 100 % 10; omega
    | 3, _ => show (s - s / 1 % 10 * 1 + d * 1) / 1000 % 10 = s / 1000 % 10; omega
  | 1, _ => match q, hq with
    | 0, _ => show (s - s / 10 % 10 * 10 + d * 10) / 1 % 10 = s / 1 % 10; omega
    | 1, _ => show (s - s / 10 % 10 * 10 + d * 10) / 10 % 10 = d; omega
    | 2, _ => show (s - s / 10 % 10 * 10 + d * 10) / 100 % 10 = s / 100 % 10; omega
    | 3, _ => show (s - s / 10 % 10 * 10 + d * 10) / 1000 % 10 = s / 1000 % 10; omega
  | 2, _ => match q, hq with
    | 0, _ => show (s - s / 100 % 10 * 100 + d * 100) / 1 % 10 = s / 1 % 10; omega
    | 1, _ => show (s - s / 100 % 10 * 100 + d * 100) / 10 % 10 = s / 10 % 10; omega
    | 2, _ => show (s - s / 100 % 10 * 100 + d * 100) / 100 % 10 = d; omega
    | 3, _ => show (s - s / 100 % 10 * 100 + d * 100) / 1000 % 10 = s / 1000 % 10; omega
  | 3, _ => match q, hq with
    | 0, _ => show (s - s / 1000 % 10 * 1000 + d * 1000) / 1 % 10 = s / 1 % 10; omega
    | 1, _ => show (s - s / 1000 % 10 * 1000 + d * 1000) / 10 % 10 = s / 10 % 10; omega
    | 2, _ => show (s - s / 1000 % 10 * 1000 + d * 1000) / 100 % 10 = s / 100 % 10; omega
    | 3, _ => show (s - s / 1000 % 10 * 1000 + d * 1000) / 1000 % 10 = d; omega
theorem setd_hi {s p d : Nat} (hp : p < 4) (hd : d < 10) : setd s p d / 10000 = s / 10000 := by
  unfold setd dg
  match p, hp with
  | 0, _ => show (s - s / 1 % 10 * 1 + d * 1) / 10000 = s / 10000; omega
  | 1, _ => show (s - s / 10 % 10 * 10 + d * 10) / 10000 = s / 10000; omega
  | 2, _ => show (s - s / 100 % 10 * 100 + d * 100) / 10000 = s / 10000; omega
  | 3, _ => show (s - s / 1000 % 10 * 1000 + d * 1000) / 10000 = s / 10000; omega
theorem setd_lt {s p d P : Nat} (hP : P ≤ 4) (hp : p < P) (hd : d < 10) (h : s % 10000 < 10 ^ P) : setd s p d % 10000 < 10 ^ P := by
  have e : setd s p d % 10000 = cod (dg (setd s p d)) P + 10 ^ P * (setd s p d % 10000 / 10 ^ P) := by
    have := cod_dg P (setd s p d % 10000)
    have h2 : cod (dg (setd s p d)) P = cod (dg (setd s p d % 10000)) P := cod_eq P (fun q hq => (dg_mod (by omega)).symm)
    rw [h2, this]
    exact (Nat.mod_add_div _ _).symm
  unfold setd dg at *
  have hc : P = 1 ∨ P = 2 ∨ P = 3 ∨ P = 4 := by omega
  rcases hc with e | e | e | e <;> subst e
  · have : p = 0 := by omega
    subst this
    show (s - s / 1 % 10 * 1 + d * 1) % 10000 < 10
    have h : s % 10000 < 10 := h
    omega
  · have h : s % 10000 < 100 := h
    have : p = 0 ∨ p = 1 := by omega
    rcases this with e | e <;> subst e
    · show (s - s / 1 % 10 * 1 + d * 1) % 10000 < 100
      omega
    · show (s - s / 10 % 10 * 10 + d * 10) % 10000 < 100
      omega
  · have h : s % 10000 < 1000 := h
    have : p = 0 ∨ p = 1 ∨ p = 2 := by omega
    rcases this with e | e | e <;> subst e
    · show (s - s / 1 % 10 * 1 + d * 1) % 10000 < 1000
      omega
    · show (s - s / 10 % 10 * 10 + d * 10) % 10000 < 1000
      omega
    · show (s - s / 100 % 10 * 100 + d * 100) % 10000 < 1000
      omega
  · exact Nat.mod_lt _ (by decide)
theorem c_withDigit {s p d : Nat} (hs : s < 2 ^ 31) (hp : p < 4) : gX11_withDigit (nI s) (nI p) (nI d) = some (nI (setd s p d)) := by
  unfold gX11_withDigit gX11_withDigit_28
  simp (disch := omega) only [n_lit, n_of, n_o1, nI_add, pk_mul, nI_ltI, nI_leI, nI_eq, ↓lift_lt, ↓k_mt, ↓k_mp, if_true, if_false, Bool.false_eq_true, Nat.not_lt_zero, Nat.zero_le, Nat.reduceEqDiff, Nat.reduceLeDiff, hp, c_digit, n_tT1]
  congr 1
  unfold setd
  have hle := dg_le (s := s) (p := p)
  generalize dg s p = g at hle
  generalize 10 ^ p = t at hle
  have e1 : nI s = nI (s - g * t) + nI (g * t) := by rw [nI_add, Nat.sub_add_cancel hle]
  rw [e1, Int32.sub_mul, pk_mul, pk_mul, ← nI_add, Int32.add_assoc, Int32.add_comm (nI (g * t)), Int32.sub_add_cancel]
/-! the reference: a stand in its row, what is kept of it -/
def dfm (m m' : Mu) : Prop := m'.1 = m.1 ∧ m'.2.2 = m.2.2 ∧ (∀ r, ¬ r = 1 → ¬ r = 5 → ¬ r = 6 → m'.2.1 r = m.2.1 r) ∧ ∀ j, j < 15 ∨ 26 ≤ j → m'.2.1 1 j = m.2.1 1 j
theorem dfm_rfl (m : Mu) : dfm m m := ⟨rfl, rfl, fun _ _ _ _ => rfl, fun _ _ => rfl⟩
theorem dfm_tr {m m' m'' : Mu} (h : dfm m m') (h' : dfm m' m'') : dfm m m'' := ⟨h'.1.trans h.1, h'.2.1.trans h.2.1, fun r a b c => (h'.2.2.1 r a b c).trans (h.2.2.1 r a b c), fun j hj => (h'.2.2.2 j hj).trans (h.2.2.2 j hj)⟩
theorem dfm_S {m m' : Mu} {j : Nat} {v : Int32} (h : dfm m m') (h1 : 15 ≤ j) (h2 : j < 26) : dfm m (mS m' 1 j v) := by
  refine ⟨h.1, h.2.1, fun r a b c => ?_, fun i hi => ?_⟩
  · rw [mS_ne m' j v a]; exact h.2.2.1 r a b c
  · rw [mS_a, if_pos rfl, if_neg (by omega)]; exact h.2.2.2 i hi
def RD (m : Mu) (v : Cv) (s : St) : Prop := Rv (m.2.1 1) v ∧ blk (m.2.1 1) 15 s ∧ wV v ∧ wS v s
theorem Rv_d {m m' : Mu} {v : Cv} (h : dfm m m') (hR : Rv (m.2.1 1) v) : Rv (m'.2.1 1) v := Rv_eq2 (fun k hk => h.2.2.2 k (by omega)) hR
section DEEDM
variable {m : Mu} {v : Cv} {s : St}
theorem q_nowD (H : RD m v s) : gX12_standNow m = some (nI s.1) := by
  obtain ⟨⟨-, r1, -⟩, ⟨b1, -, -, b9, -⟩, hW, hw⟩ := H
  have hP := hW.1
  rw [q_standNow (P := vP v) (F := s.1 / 10000) (f := dg s.1) hP r1 b9 (fun p hp => b1 p hp), cod_dg]
  have h1 := hw.2.1
  have h2 : s.1 % 10 ^ vP v = s.1 % 10000 := by
    have : s.1 % 10000 % 10 ^ vP v = s.1 % 10 ^ vP v := by
      apply Nat.mod_mod_of_dvd
      have : (10000 : Nat) = 10 ^ 4 := by decide
      rw [this]
      exact Nat.pow_dvd_pow 10 hP
    rw [← this, Nat.mod_eq_of_lt h1]
  rw [h2]
  congr 2
  omega
theorem q_goesYear {dry : Nat} (H : RD m v s) (hd : dry < 2) : ∃ m', gX12_goesYear m (nI dry) = some m' ∧ RD m' v (Yr v s.2.1 s.1 s.2.2.1 dry, s.2.1, s.2.2.1, s.2.2.2 + nI 1) ∧ dfm m m' := by
  have hnow := q_nowD H
  obtain ⟨hR, ⟨b1, b4, b8, b9, b10⟩, hW, hw⟩ := H
  have hP := hW.1
  have hl : s.2.2.1 < 2 ^ 31 := by
    have h1 := hw.2.2.2.1
    have h2 := pow5_le hP
    omega
  obtain ⟨m1, em1, fm1⟩ := q_yearTo (m := m) (ch := s.2.1) (s := s.1) (l := s.2.2.1) (dry := dry) hW hR (fun p hp => by rw [show 19 + p = 15 + (4 + p) by omega]; exact b4 p hp) hw.1 hl hd
  have m23 : m.2.1 1 23 = nI s.2.2.1 := b8
  obtain ⟨Y, hY⟩ : ∃ Y, Y = Yr v s.2.1 s.1 s.2.2.1 dry := ⟨_, rfl⟩
  rw [← hY] at em1 ⊢
  have hYo : Y < 20000 ∧ Y % 10000 < 10 ^ vP v := by rw [hY]; exact Yr_ok hP hw.1 hw.2.1 _ _ _
  have R1 : m1.2.1 1 = m.2.1 1 := fm1.2.2 1 rfl
  unfold gX12_goesYear
  simp (disch := omega) only [n_lit, n_of, n_o1, nI_add, pk_mul, nI_ltI, nI_leI, nI_eq, ↓lift_lt, ↓k_mt, ↓k_mp, if_true, if_false, Bool.false_eq_true, Nat.not_lt_zero, Nat.zero_le, Nat.reduceEqDiff, Nat.reduceLeDiff, hnow, mA_1, m23, em1]
  unfold gX12_goesYear_19
  have L := lpw_all (body := fun q : Int32 × Mu => gX12_goesYear_19b q.2 (nI Y) q.1)
    (fun k q => q.1 = nI k ∧ q.2.1 = m.1 ∧ q.2.2.2 = m.2.2 ∧ (∀ r, ¬ r = 1 → ¬ r = 5 → ¬ r = 6 → q.2.2.1 r = m.2.1 r) ∧ (∀ p, p < k → q.2.2.1 1 (15 + p) = nI (dg Y p)) ∧ ∀ j, j < 15 ∨ 15 + k ≤ j → q.2.2.1 1 j = m.2.1 1 j)
    (fun m' => RD m' v (Y, s.2.1, s.2.2.1, s.2.2.2 + nI 1) ∧ dfm m m') (vP v) ?_ ?_ (nI 0, m1) ⟨rfl, fm1.1, fm1.2.1, fun r _ h5 h6 => fm1.2.2 r (by unfold Ar56; simp [h5, h6]), fun p hp => by omega, fun j _ => by rw [R1]⟩
  · exact L
  · intro k q hk ⟨e1, e2, e3, e4, e5, e6⟩
    have h2 : ¬ vP v ≤ k := by omega
    have r1 : q.2.2.1 1 1 = nI (vP v) := by rw [e6 1 (by omega)]; exact hR.2.1
    show ∃ s', gX12_goesYear_19b q.2 (nI Y) q.1 = some (.inl s') ∧ _
    rw [e1]
    unfold gX12_goesYear_19b
    simp (disch := omega) only [n_lit, n_of, n_o1, nI_add, pk_mul, nI_ltI, nI_leI, nI_eq, ↓lift_lt, ↓k_mt, ↓k_mp, if_true, if_false, Bool.false_eq_true, Nat.not_lt_zero, Nat.zero_le, Nat.reduceEqDiff, Nat.reduceLeDiff, mA_1, mW_1, r1, h2, q_gapIn]
    refine ⟨_, rfl, rfl, e2, e3, fun r a b c => ?_, fun p hp => ?_, fun j hj => ?_⟩
    · rw [← e4 r a b c]; exact mS_ne _ _ _ a
    · rw [mS_a, if_pos rfl]
      by_cases z : p = k
      · rw [if_pos (by rw [z]), z]
      · rw [if_neg (by omega)]; exact e5 p (by omega)
    · rw [mS_a, if_pos rfl, if_neg (by omega)]; exact e6 j (by omega)
  · intro q ⟨e1, e2, e3, e4, e5, e6⟩
    have r1 : q.2.2.1 1 1 = nI (vP v) := by rw [e6 1 (by omega)]; exact hR.2.1
    have r25 : q.2.2.1 1 25 = s.2.2.2 := by rw [e6 25 (by omega)]; exact b10
    show ∃ r, gX12_goesYear_19b q.2 (nI Y) q.1 = some (.inr r) ∧ _
    rw [e1]
    unfold gX12_goesYear_19b gX12_goesYear_49 gX12_goesYear_67
    have fin : ∀ F, F = Y / 10000 → RD (mS (mS q.2 1 24 (nI F)) 1 25 (s.2.2.2 + nI 1)) v (Y, s.2.1, s.2.2.1, s.2.2.2 + nI 1) ∧ dfm m (mS (mS q.2 1 24 (nI F)) 1 25 (s.2.2.2 + nI 1)) := by
      intro F hF
      have hdf : dfm m q.2 := ⟨e2, e3, e4, fun j hj => e6 j (by omega)⟩
      have hdf2 : dfm m (mS (mS q.2 1 24 (nI F)) 1 25 (s.2.2.2 + nI 1)) := dfm_S (dfm_S hdf (by decide) (by decide)) (by decide) (by decide)
      refine ⟨⟨Rv_d hdf2 hR, ⟨fun p hp => ?_, fun p hp => ?_, ?_, ?_, ?_⟩, hW, hYo.1, hYo.2, hw.2.2⟩, hdf2⟩
      · rw [mS_a, if_pos rfl, if_neg (by omega), mS_a, if_pos rfl, if_neg (by omega)]
        by_cases z : p < vP v
        · exact e5 p z
        · rw [e6 _ (by omega), b1 p hp, ← dg_mod hp, dg_hi hw.2.1 (by omega), ← dg_mod (s := Y) hp, dg_hi hYo.2 (by omega)]
      · rw [mS_a, if_pos rfl, if_neg (by omega), mS_a, if_pos rfl, if_neg (by omega), e6 _ (by omega)]
        exact b4 p hp
      · rw [mS_a, if_pos rfl, if_neg (by decide), mS_a, if_pos rfl, if_neg (by decide), e6 _ (by omega)]
        exact b8
      · rw [mS_a, if_pos rfl, if_neg (by decide), mS_a, if_pos rfl, if_pos rfl, hF]
      · rw [mS_a, if_pos rfl, if_pos rfl]
    have i1 : ¬ (1 = 0) := by decide
    by_cases hf : 10000 ≤ Y
    · have r25' : (mS q.2 1 24 (nI 1)).2.1 1 25 = s.2.2.2 := by rw [mS_a, if_pos rfl, if_neg (by decide)]; exact r25
      simp (disch := omega) only [n_lit, n_of, n_o1, nI_add, pk_mul, nI_ltI, nI_leI, nI_eq, ↓lift_lt, ↓k_mt, ↓k_mp, if_true, if_false, Bool.false_eq_true, Nat.not_lt_zero, Nat.zero_le, Nat.reduceEqDiff, Nat.reduceLeDiff, mA_1, mW_1, r1, Nat.le_refl, q_hasFallen, hf, i1, r25']
      exact ⟨_, rfl, fin 1 (by omega)⟩
    · have r25' : (mS q.2 1 24 (nI 0)).2.1 1 25 = s.2.2.2 := by rw [mS_a, if_pos rfl, if_neg (by decide)]; exact r25
      simp (disch := omega) only [n_lit, n_of, n_o1, nI_add, pk_mul, nI_ltI, nI_leI, nI_eq, ↓lift_lt, ↓k_mt, ↓k_mp, if_true, if_false, Bool.false_eq_true, Nat.not_lt_zero, Nat.zero_le, Nat.reduceEqDiff, Nat.reduceLeDiff, mA_1, mW_1, r1, Nat.le_refl, q_hasFallen, hf, r25']
      exact ⟨_, rfl, fin 0 (by omega)⟩
/-- a pair's gap, chalk, the leading are told anew -/
theorem RD_gap {p d : Nat} (H : RD m v s) (hp : p < vP v) (hd : d < 10) : RD (mS m 1 (15 + p) (nI d)) v (setd s.1 p d, s.2) ∧ dfm m (mS m 1 (15 + p) (nI d)) := by
  obtain ⟨hR, ⟨b1, b4, b8, b9, b10⟩, hW, hw⟩ := H
  have hP := hW.1
  have hdf : dfm m (mS m 1 (15 + p) (nI d)) := dfm_S (dfm_rfl m) (by omega) (by omega)
  have h10 := setd_hi (s := s.1) (p := p) (d := d) (by omega) hd
  have h1 := hw.1
  have h2 : setd s.1 p d < 20000 := by omega
  refine ⟨⟨Rv_d hdf hR, ⟨fun q hq => ?_, fun q hq => ?_, ?_, ?_, ?_⟩, hW, h2, setd_lt hP hp hd hw.2.1, hw.2.2⟩, hdf⟩
  · rw [mS_a, if_pos rfl, setd_dg (by omega) hd hq]
    by_cases z : q = p
    · rw [if_pos (by omega), if_pos z]
    · rw [if_neg (by omega), if_neg z]; exact b1 q hq
  · rw [mS_a, if_pos rfl, if_neg (by omega)]; exact b4 q hq
  · rw [mS_a, if_pos rfl, if_neg (by omega)]; exact b8
  · rw [mS_a, if_pos rfl, if_neg (by omega)]
    show _ = nI (setd s.1 p d / 10000)
    rw [h10]; exact b9
  · rw [mS_a, if_pos rfl, if_neg (by omega)]; exact b10
theorem RD_chalk {p d : Nat} (H : RD m v s) (hp : p < vP v) (hd : d < 10) : RD (mS m 1 (19 + p) (nI d)) v (s.1, setd s.2.1 p d, s.2.2) ∧ dfm m (mS m 1 (19 + p) (nI d)) := by
  obtain ⟨hR, ⟨b1, b4, b8, b9, b10⟩, hW, hw⟩ := H
  have hP := hW.1
  have hdf : dfm m (mS m 1 (19 + p) (nI d)) := dfm_S (dfm_rfl m) (by omega) (by omega)
  have p10 := pow10_le hP
  have h3 := hw.2.2.1
  have h10 := setd_hi (s := s.2.1) (p := p) (d := d) (by omega) hd
  have h4 : s.2.1 % 10000 = s.2.1 := Nat.mod_eq_of_lt (by omega)
  have h5 := setd_lt (s := s.2.1) hP hp hd (by rw [h4]; exact h3)
  have h6 : setd s.2.1 p d < 10 ^ vP v := by omega
  refine ⟨⟨Rv_d hdf hR, ⟨fun q hq => ?_, fun q hq => ?_, ?_, ?_, ?_⟩, hW, hw.1, hw.2.1, h6, hw.2.2.2⟩, hdf⟩
  · rw [mS_a, if_pos rfl, if_neg (by omega)]; exact b1 q hq
  · rw [mS_a, if_pos rfl]
    show _ = nI (dg (setd s.2.1 p d) q)
    rw [setd_dg (by omega) hd hq]
    by_cases z : q = p
    · rw [if_pos (by omega), if_pos z]
    · rw [if_neg (by omega), if_neg z]; exact b4 q hq
  · rw [mS_a, if_pos rfl, if_neg (by omega)]; exact b8
  · rw [mS_a, if_pos rfl, if_neg (by omega)]; exact b9
  · rw [mS_a, if_pos rfl, if_neg (by omega)]; exact b10
theorem RD_lead {l : Nat} (H : RD m v s) (hl : isL (vP v) (vD v) l) : RD (mS m 1 23 (nI l)) v (s.1, s.2.1, l, s.2.2.2) ∧ dfm m (mS m 1 23 (nI l)) := by
  obtain ⟨hR, ⟨b1, b4, b8, b9, b10⟩, hW, hw⟩ := H
  have hdf : dfm m (mS m 1 23 (nI l)) := dfm_S (dfm_rfl m) (by omega) (by omega)
  refine ⟨⟨Rv_d hdf hR, ⟨fun q hq => ?_, fun q hq => ?_, ?_, ?_, ?_⟩, hW, hw.1, hw.2.1, hw.2.2.1, hl⟩, hdf⟩
  · rw [mS_a, if_pos rfl, if_neg (by omega)]; exact b1 q hq
  · rw [mS_a, if_pos rfl, if_neg (by omega)]; exact b4 q hq
  · rw [mS_a, if_pos rfl, if_pos rfl]
  · rw [mS_a, if_pos rfl, if_neg (by omega)]; exact b9
  · rw [mS_a, if_pos rfl, if_neg (by omega)]; exact b10
end DEEDM
/-! the class -/
def dfc (j : Nat) (c c' : Ch) : Prop := (∀ r, ¬ r = sadr j → ¬ r = 108 → c'.1 r = c.1 r) ∧ c'.2.1 = c.2.1 ∧ (∀ r, ¬ r = 108 → c'.2.2.1 r = c.2.2.1 r) ∧ (∀ r, A112 r = false → c'.2.2.2.1 r = c.2.2.2.1 r) ∧ c'.2.2.2.2 = c.2.2.2.2
theorem dfc_rfl (j : Nat) (c : Ch) : dfc j c c := ⟨fun _ _ _ => rfl, rfl, fun _ _ => rfl, fun _ _ => rfl, rfl⟩
theorem dfc_tr {j : Nat} {c c' c'' : Ch} (h : dfc j c c') (h' : dfc j c' c'') : dfc j c c'' := ⟨fun r a b => (h'.1 r a b).trans (h.1 r a b), h'.2.1.trans h.2.1, fun r a => (h'.2.2.1 r a).trans (h.2.2.1 r a), fun r a => (h'.2.2.2.1 r a).trans (h.2.2.2.1 r a), h'.2.2.2.2.trans h.2.2.2.2⟩
def DC (h : Hp) (V : Nat → Cv) (c : Ch) (a : Nat) (v : Cv) (j : Nat) (s : St) : Prop := c.2.2.1 80 3 = some a ∧ V a = v ∧ CaveAt h a v ∧ wV v ∧ stc c j s ∧ wS v s ∧ ∃ a' ch', CT h V c a' ch'
section DEEDC
variable {h : Hp} {V : Nat → Cv} {c : Ch} {a j : Nat} {v : Cv} {s : St}
theorem sadr_108 (j : Nat) : ¬ 108 = sadr j := by have := sadr_b j; omega
theorem DC_I {k : Nat} {y : Int32} {s' : St} (H : DC h V c a v j s) (hs : stc (cI c (sadr j) k y) j s') (hw : wS v s') : DC h V (cI c (sadr j) k y) a v j s' ∧ dfc j c (cI c (sadr j) k y) := by
  obtain ⟨h1, h2, h3, h4, h5, h6, a', ch', t1, t2, t3, t4, t5, t6, t7⟩ := H
  refine ⟨⟨h1, h2, h3, h4, hs, hw, a', ch', t1, t2, t3, ?_, t5, t6, t7⟩, fun r hr _ => cI_n c hr, rfl, fun _ _ => rfl, fun _ _ => rfl, rfl⟩
  rw [cI_n c (sadr_108 j)]; exact t4
theorem c_passYear {dry : Nat} (H : DC h V c a v j s) (hd : dry < 2) : ∃ c', gX11_passYear h c j (nI dry) = some (nI 0, c') ∧ DC h V c' a v j (Yr v s.2.1 s.1 s.2.2.1 dry, s.2.1, s.2.2.1, s.2.2.2 + nI 1) ∧ dfc j c c' := by
  obtain ⟨h1, h2, h3, h4, ⟨s0, s1, s2, s3⟩, h6, a', ch', hT⟩ := H
  subst h2
  have hP := h4.1
  have p10 := pow10_le hP
  have hl : s.2.2.1 < 2 ^ 31 := by
    have q1 := h6.2.2.2.1
    have q2 := pow5_le hP
    omega
  obtain ⟨c1, e1, T1, k1, k2, k3, k4, k5⟩ := c_tune hT h3 h4 (ch' := s.2.1) (by have := h6.2.2.1; omega)
  obtain ⟨c2, e2, T2, fr⟩ := c_after (s := s.1) (l := s.2.2.1) (dry := dry) T1 h6.1 hl hd
  have n8 := sadr_108 j
  have n8' : ¬ sadr j = 108 := fun q => n8 q.symm
  have z0 : c1.1 (sadr j) 0 = nI s.1 := by rw [k1 _ n8']; exact s0
  have z2 : c1.1 (sadr j) 2 = nI s.2.2.1 := by rw [k1 _ n8']; exact s2
  have z1 : c1.1 (sadr j) 1 = nI s.2.1 := by rw [k1 _ n8']; exact s1
  have z3 : c1.1 (sadr j) 3 = s.2.2.2 := by rw [k1 _ n8']; exact s3
  have f1 : c2.1 = c1.1 := fr.1
  have hY := Yr_ok (v := V a) hP h6.1 h6.2.1 s.2.1 s.2.2.1 dry
  obtain ⟨Y, eY⟩ : ∃ Y, Y = Yr (V a) s.2.1 s.1 s.2.2.1 dry := ⟨_, rfl⟩
  rw [← eY] at e2 hY ⊢
  have i1 : ¬ (1 = 0) := by decide
  have w3 : (cI c2 (sadr j) 0 (nI Y)).1 (sadr j) 3 = s.2.2.2 := by rw [cI_1, if_pos rfl, if_neg (by decide), f1]; exact z3
  refine ⟨cI (cI c2 (sadr j) 0 (nI Y)) (sadr j) 3 (s.2.2.2 + nI 1), ?_, ⟨?_, rfl, h3, h4, ⟨?_, ?_, ?_, ?_⟩, ⟨hY.1, hY.2, h6.2.2⟩, a, s.2.1, ?_⟩, ?_⟩
  · unfold gX11_passYear
    simp (disch := omega) only [n_lit, n_of, n_o1, nI_add, pk_mul, nI_ltI, nI_leI, nI_eq, ↓lift_lt, ↓k_mt, ↓k_mp, if_true, if_false, Bool.false_eq_true, Nat.not_lt_zero, Nat.zero_le, Nat.reduceEqDiff, Nat.reduceLeDiff, c_dry_y hd, i1, h1, s1, e1, z0, z2, e2, w3]
  · show c2.2.2.1 80 3 = some a
    rw [fr.2.2.1, k3 80 (by decide)]; exact h1
  · rw [cI_1, if_pos rfl, if_neg (by decide), cI_1, if_pos rfl, if_pos rfl]
  · rw [cI_1, if_pos rfl, if_neg (by decide), cI_1, if_pos rfl, if_neg (by decide), f1]; exact z1
  · rw [cI_1, if_pos rfl, if_neg (by decide), cI_1, if_pos rfl, if_neg (by decide), f1]; exact z2
  · rw [cI_1, if_pos rfl, if_pos rfl]
  · obtain ⟨u1, u2, u3, u4, u5, u6, u7⟩ := T2
    refine ⟨u1, u2, u3, ?_, u5, u6, u7⟩
    rw [cI_n _ n8, cI_n _ n8]; exact u4
  · refine ⟨fun r hr h8 => ?_, ?_, fun r hr => ?_, fun r hr => ?_, ?_⟩
    · rw [cI_n _ hr, cI_n _ hr, f1]; exact k1 r h8
    · show c2.2.1 = _
      rw [fr.2.1]; exact k2
    · show c2.2.2.1 r = _
      rw [fr.2.2.1]; exact k3 r hr
    · show c2.2.2.2.1 r = _
      rw [fr.2.2.2.1 r hr]; exact k4 r hr
    · show c2.2.2.2.2 = _
      rw [fr.2.2.2.2]; exact k5
theorem c_sawOff {p : Nat} (H : DC h V c a v j s) (hp : p < vP v) (hs : s.1 < 10000) : ∃ c', gX11_sawOff h c j (nI p) = some (nI 0, c') ∧ DC h V c' a v j (setd s.1 p (dg (vG v) p), s.2) ∧ dfc j c c' := by
  have H0 := H
  obtain ⟨h1, h2, h3, h4, ⟨s0, s1, s2, s3⟩, h6, hT⟩ := H
  have hP := h4.1
  have p10 := pow10_le hP
  have hG := h4.2.2.2.2.1
  have i1 : ¬ (1 = 0) := by decide
  have hd := dg_lt (vG v) p
  have t10 := setd_hi (s := s.1) (p := p) (d := dg (vG v) p) (by omega) hd
  have t5 := setd_lt (s := s.1) hP hp hd h6.2.1
  have K := DC_I (k := 0) (y := nI (setd s.1 p (dg (vG v) p))) (s' := (setd s.1 p (dg (vG v) p), s.2)) H0 ⟨by rw [cI_1, if_pos rfl, if_pos rfl], by rw [cI_1, if_pos rfl, if_neg (by decide)]; exact s1, by rw [cI_1, if_pos rfl, if_neg (by decide)]; exact s2, by rw [cI_1, if_pos rfl, if_neg (by decide)]; exact s3⟩ ⟨by show setd s.1 p (dg (vG v) p) < 20000; omega, t5, h6.2.2⟩
  refine ⟨_, ?_, K⟩
  unfold gX11_sawOff
  have hp4 : p < 4 := by omega
  simp (disch := omega) only [n_lit, n_of, n_o1, nI_add, pk_mul, nI_ltI, nI_leI, nI_eq, ↓lift_lt, ↓k_mt, ↓k_mp, if_true, if_false, Bool.false_eq_true, Nat.not_lt_zero, Nat.zero_le, Nat.reduceEqDiff, Nat.reduceLeDiff, c_pair_y hP h1 h3 hp, i1, s0, hs, h1, cv_G h3, c_digit, c_withDigit]
theorem c_giveChalk {p d : Nat} (H : DC h V c a v j s) (hp : p < vP v) (hd : d < 10) : ∃ c', gX11_giveChalk h c j (nI p) (nI d) = some (nI 0, c') ∧ DC h V c' a v j (s.1, setd s.2.1 p d, s.2.2) ∧ dfc j c c' := by
  have H0 := H
  obtain ⟨h1, h2, h3, h4, ⟨s0, s1, s2, s3⟩, h6, hT⟩ := H
  have hP := h4.1
  have p10 := pow10_le hP
  have i1 : ¬ (1 = 0) := by decide
  have q3 := h6.2.2.1
  have h10 := setd_hi (s := s.2.1) (p := p) (d := d) (by omega) hd
  have q4 : s.2.1 % 10000 = s.2.1 := Nat.mod_eq_of_lt (by omega)
  have q5 := setd_lt (s := s.2.1) hP hp hd (by rw [q4]; exact q3)
  have q6 : setd s.2.1 p d < 10 ^ vP v := by omega
  have K := DC_I (k := 1) (y := nI (setd s.2.1 p d)) (s' := (s.1, setd s.2.1 p d, s.2.2)) H0 ⟨by rw [cI_1, if_pos rfl, if_neg (by decide)]; exact s0, by rw [cI_1, if_pos rfl, if_pos rfl], by rw [cI_1, if_pos rfl, if_neg (by decide)]; exact s2, by rw [cI_1, if_pos rfl, if_neg (by decide)]; exact s3⟩ ⟨h6.1, h6.2.1, q6, h6.2.2.2⟩
  refine ⟨_, ?_, K⟩
  unfold gX11_giveChalk
  have hp4 : p < 4 := by omega
  have hd9 : d ≤ 9 := by omega
  simp (disch := omega) only [n_lit, n_of, n_o1, nI_add, pk_mul, nI_ltI, nI_leI, nI_eq, ↓lift_lt, ↓k_mt, ↓k_mp, if_true, if_false, Bool.false_eq_true, Nat.not_lt_zero, Nat.zero_le, Nat.reduceEqDiff, Nat.reduceLeDiff, c_pair_y hP h1 h3 hp, i1, s1, hd9, c_withDigit]
theorem c_isLeading_y {l : Nat} (hW : wV v) (hC : CaveAt h a v) (hl : isL (vP v) (vD v) l) : fX0_isLeading (cput h c) a (nI l) = some (nI 1) := by
  obtain ⟨i, hi, e⟩ := isL_ld hW.1 hl
  obtain ⟨la, l1, l2, l3⟩ := cv_la hW hC
  obtain ⟨nL0, nL35⟩ := nL_b hW
  have hlt := hl.1
  have p5 := pow5_le hW.1
  unfold fX0_isLeading fX0_isLeading_2
  have L := lpw_inv (body := fun q : Int32 => fX0_isLeading_2b (cput h c) a (nI l) q) (fun k q => q = nI k ∧ k ≤ i) (fun r => r = nI 1) i ?_ ?_ (nI 0) ⟨rfl, by omega⟩
  · obtain ⟨r, e1, e2⟩ := L
    rw [← e2]; exact e1
  · intro k q hk ⟨e1, e2⟩
    have k1 : ¬ nL v ≤ k := by omega
    have lk := l3 c k (by omega)
    have lb := (ld_isL (v := v) (i := k) (by omega)).2
    show (∃ s', fX0_isLeading_2b (cput h c) a (nI l) q = some (.inl s') ∧ _) ∨ (∃ r, fX0_isLeading_2b (cput h c) a (nI l) q = some (.inr r) ∧ _)
    rw [e1]
    unfold fX0_isLeading_2b
    by_cases z : ld v k = l
    · refine Or.inr ⟨nI 1, ?_, rfl⟩
      simp (disch := omega) only [n_lit, n_of, n_o1, nI_add, pk_mul, nI_ltI, nI_leI, nI_eq, ↓lift_lt, ↓k_mt, ↓k_mp, if_true, if_false, Bool.false_eq_true, Nat.not_lt_zero, Nat.zero_le, Nat.reduceEqDiff, Nat.reduceLeDiff, l1, l2, k1, lk, z]
    · refine Or.inl ⟨nI (k + 1), ?_, rfl, by omega⟩
      simp (disch := omega) only [n_lit, n_of, n_o1, nI_add, pk_mul, nI_ltI, nI_leI, nI_eq, ↓lift_lt, ↓k_mt, ↓k_mp, if_true, if_false, Bool.false_eq_true, Nat.not_lt_zero, Nat.zero_le, Nat.reduceEqDiff, Nat.reduceLeDiff, l1, l2, k1, lk, z]
  · intro q ⟨e1, e2⟩
    have k1 : ¬ nL v ≤ i := by omega
    have lk := l3 c i hi
    show ∃ r, fX0_isLeading_2b (cput h c) a (nI l) q = some (.inr r) ∧ _
    rw [e1]
    unfold fX0_isLeading_2b
    refine ⟨nI 1, ?_, rfl⟩
    simp (disch := omega) only [n_lit, n_of, n_o1, nI_add, pk_mul, nI_ltI, nI_leI, nI_eq, ↓lift_lt, ↓k_mt, ↓k_mp, if_true, if_false, Bool.false_eq_true, Nat.not_lt_zero, Nat.zero_le, Nat.reduceEqDiff, Nat.reduceLeDiff, l1, l2, k1, lk, e]
theorem c_isLeading_n {x : Int32} (hW : wV v) (hC : CaveAt h a v) (hx : ¬ ∃ l, isL (vP v) (vD v) l ∧ x = nI l) : fX0_isLeading (cput h c) a x = some (nI 0) := by
  obtain ⟨la, l1, l2, l3⟩ := cv_la hW hC
  obtain ⟨nL0, nL35⟩ := nL_b hW
  unfold fX0_isLeading fX0_isLeading_2
  refine lpw_iter (body := fun q : Int32 => fX0_isLeading_2b (cput h c) a x q) (fun k => nI k) (nL v) (nI 0) (fun k hk => ?_) ?_
  · have k1 : ¬ nL v ≤ k := by omega
    have lk := l3 c k hk
    have z : ¬ nI (ld v k) = x := fun q => hx ⟨ld v k, (ld_isL hk).1, q.symm⟩
    unfold fX0_isLeading_2b
    simp (disch := omega) only [n_lit, n_of, n_o1, nI_add, pk_mul, nI_ltI, nI_leI, nI_eq, ↓lift_lt, ↓k_mt, ↓k_mp, if_true, if_false, Bool.false_eq_true, Nat.not_lt_zero, Nat.zero_le, Nat.reduceEqDiff, Nat.reduceLeDiff, l1, l2, k1, lk, z]
  · unfold fX0_isLeading_2b
    simp (disch := omega) only [n_lit, n_of, n_o1, nI_add, pk_mul, nI_ltI, nI_leI, nI_eq, ↓lift_lt, ↓k_mt, ↓k_mp, if_true, if_false, Bool.false_eq_true, Nat.not_lt_zero, Nat.zero_le, Nat.reduceEqDiff, Nat.reduceLeDiff, l1, l2, Nat.le_refl]
theorem c_leadOtherwise {l : Nat} (H : DC h V c a v j s) (hl : isL (vP v) (vD v) l) : ∃ c', gX11_leadOtherwise h c j (nI l) = some (nI 0, c') ∧ DC h V c' a v j (s.1, s.2.1, l, s.2.2.2) ∧ dfc j c c' := by
  have H0 := H
  obtain ⟨h1, h2, h3, h4, ⟨s0, s1, s2, s3⟩, h6, hT⟩ := H
  have i1 : ¬ (1 = 0) := by decide
  have K := DC_I (k := 2) (y := nI l) (s' := (s.1, s.2.1, l, s.2.2.2)) H0 ⟨by rw [cI_1, if_pos rfl, if_neg (by decide)]; exact s0, by rw [cI_1, if_pos rfl, if_neg (by decide)]; exact s1, by rw [cI_1, if_pos rfl, if_pos rfl], by rw [cI_1, if_pos rfl, if_neg (by decide)]; exact s3⟩ ⟨h6.1, h6.2.1, h6.2.2.1, hl⟩
  refine ⟨_, ?_, K⟩
  unfold gX11_leadOtherwise
  simp (disch := omega) only [n_lit, n_of, n_o1, nI_add, pk_mul, nI_ltI, nI_leI, nI_eq, ↓lift_lt, ↓k_mt, ↓k_mp, if_true, if_false, Bool.false_eq_true, Nat.not_lt_zero, Nat.zero_le, Nat.reduceEqDiff, Nat.reduceLeDiff, h1, cv_O h3, c_isLeading_y h4 h3 hl, i1]
end DEEDC
