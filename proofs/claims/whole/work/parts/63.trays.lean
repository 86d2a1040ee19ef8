/-! trays: numbers, write -/
def sR (x : Sp) (t : Nat) (o : Option (Nat × Nat × (Nat → Int64))) : Sp := (zT x, zV x, zS x, zH x, zI x, (fun i => if i = t then o else zR x i), zF x)
theorem WF_R {x : Sp} {t : Nat} {o : Option (Nat × Nat × (Nat → Int64))} (hw : WF x) (ho : trOK o) : WF (sR x t o) := by
  obtain ⟨w1, w2, w3, w4, w5, w6, w7, w8⟩ := hw
  refine ⟨w1, w2, w3, w4, w5, w6, w7, fun i => ?_⟩
  show trOK (if i = t then o else zR x i)
  split
  · exact ho
  · exact w8 i
theorem sadr_tadr (j t : Nat) : ¬ sadr j = tadr t := by
  unfold sadr tadr
  intro q
  split at q <;> (try split at q) <;> (try split at q) <;> (try split at q) <;> omega
theorem tadr_inj {t t' : Nat} (ht : t < 4) (ht' : t' < 4) (e : ¬ t' = t) : ¬ tadr t' = tadr t ∧ ¬ tadr t' + 1 = tadr t + 1 := by
  unfold tadr
  rw [if_pos ht, if_pos ht']
  omega
theorem tadr_b {t : Nat} : 128 ≤ tadr t ∧ tadr t < 136 := by
  unfold tadr
  split <;> omega
theorem RM_tray {m m' : Mu} {x : Sp} {t : Nat} {o : Option (Nat × Nat × (Nat → Int64))} (h : RM m x) (k1 : m'.2.1 1 = m.2.1 1) (k2 : m'.2.1 2 = m.2.1 2) (k3 : m'.2.1 3 = m.2.1 3) (k5 : m'.1 5 = m.1 5) (k13 : m'.1 13 = m.1 13) (k14 : m'.1 14 = m.1 14)
    (ho : trR (m'.2.1 21) (m'.2.1 22) (m'.2.2 23) t o) (hn : ∀ t', t' < 4 → ¬ t' = t → m'.2.1 21 t' = m.2.1 21 t' ∧ m'.2.1 22 t' = m.2.1 22 t' ∧ ∀ i, i < 40 → m'.2.2 23 (40 * t' + i) = m.2.2 23 (40 * t' + i)) (hw : WF x) : RM m' (sR x t o) := by
  obtain ⟨a1, a2, a3, a4, a5, a6, a7, a8, a9, a10⟩ := h
  refine ⟨by rw [k5]; exact a1, by rw [k3]; exact a2, by rw [k1]; exact a3, by rw [k1]; exact a4, by rw [k1]; exact a5, fun i hi => by rw [k1]; exact a6 i hi, fun i hi => by rw [k1, k2]; exact a7 i hi, fun t' ht' => ?_, by rw [k13]; exact a9, by rw [k14]; exact a10⟩
  show trR _ _ _ t' (if t' = t then o else zR x t')
  by_cases e : t' = t
  · rw [if_pos e, e]; exact ho
  · rw [if_neg e]
    obtain ⟨n1, n2, n3⟩ := hn t' ht' e
    have b1 := a8 t' ht'
    have b2 := hw.2.2.2.2.2.2.2 t'
    unfold trR at b1 ⊢
    unfold trOK at b2
    cases hz : zR x t' with
    | none => rw [hz] at b1; simp only [n1]; exact b1
    | some p =>
      rw [hz] at b1 b2
      obtain ⟨so, n, w⟩ := p
      exact ⟨by rw [n1]; exact b1.1, by rw [n2]; exact b1.2.1, fun i hi => by rw [n3 i (by have := b2.2; omega)]; exact b1.2.2 i hi⟩
theorem RC_tray {T : Nat} {h : Hp} {V : Nat → Cv} {c c' : Ch} {x : Sp} {t : Nat} {o : Option (Nat × Nat × (Nat → Int64))} (ht : t < 4) (gC : RC T h V c x) (k1 : ∀ r, ¬ r = tadr t → c'.1 r = c.1 r) (k3 : c'.2.2.1 = c.2.2.1) (k4 : c'.2.2.2.1 = c.2.2.2.1) (k5 : ∀ r, ¬ r = tadr t + 1 → c'.2.2.2.2.1 r = c.2.2.2.2.1 r) (k6 : c'.2.2.2.2.2 = c.2.2.2.2.2) (ho : trC c' t o) : RC T h V c' (sR x t o) := by
  have tb := tadr_b (t := t)
  obtain ⟨⟨a1, a2, a3, a4, ⟨a5, nx, a5a, a5b, a5c⟩, a6, a7, a8, a9⟩, ⟨a, ch, t1, t2, t3, t4, t5, t6, t7⟩, g3⟩ := gC
  have ks : ∀ j, c'.1 (sadr j) = c.1 (sadr j) := fun j => k1 _ (sadr_tadr j t)
  refine ⟨⟨by rw [k1 80 (by omega)]; exact a1, by rw [k4]; exact a2, by rw [k3]; exact a3, stc_eq (ks 0) a4, ⟨by rw [k1 93 (by omega)]; exact a5, nx, a5a, by rw [k1 93 (by omega)]; exact a5b, fun i hi => stc_eq (ks _) (a5c i hi)⟩, fun i hi => ?_, fun t' ht' => ?_, by rw [k1 82 (by omega)]; exact a8, by rw [k1 82 (by omega)]; exact a9⟩, ⟨a, ch, by rw [k3]; exact t1, t2, t3, by rw [k1 108 (by omega)]; exact t4, t5, by rw [k4]; exact t6, by rw [k4]; exact t7⟩, SI_eq (k1 116 (by omega)) (by rw [k3]) (by rw [k4]) (by rw [k4]) (by rw [k4]) (by rw [k4]) g3⟩
  · have b := a6 i hi
    show imC h V c' i (zI x i)
    unfold imC at *
    cases hz : zI x i with
    | none => rw [hz] at b; simp only [k6]; exact b
    | some p =>
      rw [hz] at b
      obtain ⟨a, b1, b2, b3, b4⟩ := b
      exact ⟨a, by rw [k6]; exact b1, b2, b3, stc_eq (ks _) b4⟩
  · show trC c' t' (if t' = t then o else zR x t')
    by_cases e : t' = t
    · rw [if_pos e, e]; exact ho
    · rw [if_neg e]
      have b := a7 t' ht'
      obtain ⟨i1, i2⟩ := tadr_inj ht ht' e
      unfold trC at *
      rw [k1 _ i1, k5 _ i2]
      exact b
theorem iff_t {α : Type} (e : Option α) : iff_ true e = e := if_pos rfl
/-- refused on both sides -/
theorem OK_no {α : Type} {T : Nat} {h : Hp} {V : Nat → Cv} {c : Ch} {m : Mu} {x : Sp} {r1 : Option (α × Ch)} {r2 : Option (α × Mu)} (gC : RC T h V c x) (gM : RM m x) (hw : WF x) (r : α) (h1 : r1 = some (r, c)) (h2 : r2 = some (r, mI m 0 (nI 0))) : OKs T h V r1 r2 :=
  ⟨r, c, _, x, h1, h2, RC_T (by omega) gC, RM_0 gM _, hw⟩
section OPS2
variable {T : Nat} {h : Hp} {V : Nat → Cv} {c : Ch} {m : Mu} {x : Sp}
theorem q_zero {m : Mu} {t n : Nat} (ht : t < 4) (hn : n ≤ 40) : ∃ m', gX12_numbers_64 m (nI t) (nI n) (nI 0) = some (nI 0, m') ∧ m'.1 = m.1 ∧ m'.2.1 = m.2.1 ∧ ∀ j, m'.2.2 23 j = if 40 * t ≤ j ∧ j < 40 * t + n then 0 else m.2.2 23 j := by
  unfold gX12_numbers_64
  have L := lpw_all (body := fun q : Int32 × Mu => gX12_numbers_64b q.2 (nI t) (nI n) q.1)
    (fun k q => q.1 = nI k ∧ q.2.1 = m.1 ∧ q.2.2.1 = m.2.1 ∧ ∀ j, q.2.2.2 23 j = if 40 * t ≤ j ∧ j < 40 * t + k then 0 else m.2.2 23 j)
    (fun r => r.1 = nI 0 ∧ r.2.1 = m.1 ∧ r.2.2.1 = m.2.1 ∧ ∀ j, r.2.2.2 23 j = if 40 * t ≤ j ∧ j < 40 * t + n then 0 else m.2.2 23 j) n ?_ ?_ (nI 0, m) ⟨rfl, rfl, rfl, fun j => by rw [if_neg (by omega)]⟩
  · obtain ⟨r, e, e1, e2, e3, e4⟩ := L
    exact ⟨r.2, by rw [e]; exact congrArg some (Prod.ext e1 rfl), e2, e3, e4⟩
  · intro k q hk ⟨e1, e2, e3, e4⟩
    have hkn : ¬ n ≤ k := by omega
    show ∃ s', gX12_numbers_64b q.2 (nI t) (nI n) q.1 = some (.inl s') ∧ _
    rw [e1]
    unfold gX12_numbers_64b
    simp (disch := omega) only [n_lit, n_of, n_o1, nI_add, pk_mul, nI_ltI, nI_leI, nI_eq, ↓lift_lt, ↓k_mt, ↓k_mp, if_true, if_false, Bool.false_eq_true, Nat.not_lt_zero, Nat.zero_le, Nat.reduceEqDiff, Nat.reduceLeDiff, hkn, mWJ_23]
    refine ⟨_, rfl, rfl, e2, e3, fun j => ?_⟩
    rw [mSJ_j, if_pos rfl]
    by_cases z : j = 40 * t + k
    · rw [if_pos z, if_pos (by omega)]
    · rw [if_neg z, e4 j]
      by_cases z2 : 40 * t ≤ j ∧ j < 40 * t + k
      · rw [if_pos z2, if_pos (by omega)]
      · rw [if_neg z2, if_neg (by omega)]
  · intro q ⟨e1, e2, e3, e4⟩
    show ∃ r, gX12_numbers_64b q.2 (nI t) (nI n) q.1 = some (.inr r) ∧ _
    rw [e1]
    unfold gX12_numbers_64b
    simp (disch := omega) only [n_lit, n_of, n_o1, nI_add, pk_mul, nI_ltI, nI_leI, nI_eq, ↓lift_lt, ↓k_mt, ↓k_mp, if_true, if_false, Bool.false_eq_true, Nat.not_lt_zero, Nat.zero_le, Nat.reduceEqDiff, Nat.reduceLeDiff, Nat.le_refl]
    exact ⟨_, rfl, rfl, e2, e3, e4⟩
theorem op_numbers (x1 x2 x3 : Int32) (gC : RC T h V c x) (gM : RM m x) (hw : WF x) : OKs T h V (gX11_numbers h c x1 x2 x3) (gX12_numbers m x1 x2 x3) := by
  have i1 : ¬ (1 = 0) := by decide
  unfold gX11_numbers gX11_numbers_16 gX11_numbers_29 gX12_numbers gX12_numbers_29
  by_cases h1 : ∃ p, p < 4 ∧ x1 = nI p
  · obtain ⟨t, ht, rfl⟩ := h1
    have y1 := c_tray_y ht
    have cl : (nI t).toNatClampNeg = t := nI_clamp (by omega)
    have ib : inB (nI t) 4 = true := inB_nI ht (by decide)
    rcases ix_cases x2 4 (by decide) (by decide) with ⟨so, hso, rfl⟩ | ⟨n2, n2a⟩ | ⟨n2, n2a, n2b, n2c, n2d⟩
    · rcases ix_cases x3 41 (by decide) (by decide) with ⟨n, hn, rfl⟩ | ⟨n3, n3a⟩ | ⟨n3, n3a, n3b, n3c, n3d, n3e⟩
      · have hn40 : n ≤ 40 := by omega
        obtain ⟨m', em, f1, f2, f3⟩ := q_zero (m := mS (mS (mI m 0 (nI 0)) 21 t (nI so)) 22 t (nI n)) ht hn40
        have k40 : ¬ 40 < n := by omega
        refine ⟨nI 0, cI (cI (cI (cFL c (tadr t + 1) 0 40) (tadr t) 1 (nI so)) (tadr t) 3 (nI n)) (tadr t) 2 (nI 0), m', sR x t (some (so, n, fun _ => 0)), ?_, ?_, RC_T (by omega) (RC_tray ht gC (fun r hr => ?_) rfl rfl (fun r hr => if_neg hr) rfl ⟨?_, ?_, ?_, fun i hi => ?_⟩), RM_tray gM ?_ ?_ ?_ ?_ ?_ ?_ ⟨?_, ?_, fun i hi => ?_⟩ (fun t' ht' e => ⟨?_, ?_, fun i hi => ?_⟩) hw, WF_R hw ⟨hso, hn40⟩⟩
        · unfold gX9_renew gfill_tp
          simp (disch := omega) only [n_lit, n_of, n_o1, nI_add, pk_mul, nI_ltI, nI_leI, nI_eq, ↓lift_lt, ↓k_mt, ↓k_mp, if_true, if_false, Bool.false_eq_true, Nat.not_lt_zero, Nat.zero_le, Nat.reduceEqDiff, Nat.reduceLeDiff, y1, i1, hso, hn40, ib, iff_t, cl, imin_n, k40]
        · simp (disch := omega) only [n_lit, n_of, n_o1, nI_add, pk_mul, nI_ltI, nI_leI, nI_eq, ↓lift_lt, ↓k_mt, ↓k_mp, if_true, if_false, Bool.false_eq_true, Nat.not_lt_zero, Nat.zero_le, Nat.reduceEqDiff, Nat.reduceLeDiff, n_litL, win_y, i1, mW_21, mW_22, em]
        · rw [cI_n _ hr, cI_n _ hr, cI_n _ hr]; rfl
        · rw [cI_1, if_pos rfl, if_pos rfl]
        · rw [cI_1, if_pos rfl, if_neg (by decide), cI_1, if_pos rfl, if_neg (by decide), cI_1, if_pos rfl, if_pos rfl]
        · rw [cI_1, if_pos rfl, if_neg (by decide), cI_1, if_pos rfl, if_pos rfl]
        · show (if tadr t + 1 = tadr t + 1 then (fun i => if i < 40 then (0 : Int64) else c.2.2.2.2.1 (tadr t + 1) i) else _) i = 0
          rw [if_pos rfl]
          exact if_pos (by omega)
        · rw [f2]; rfl
        · rw [f2]; rfl
        · rw [f2]; rfl
        · rw [f1]; rfl
        · rw [f1]; rfl
        · rw [f1]; rfl
        · rw [f2, mS_a, if_neg (by decide), mS_a, if_pos rfl, if_pos rfl]
        · rw [f2, mS_a, if_pos rfl, if_pos rfl]
        · rw [f3, if_pos (by omega)]
        · rw [f2, mS_a, if_neg (by decide), mS_a, if_pos rfl, if_neg e]; rfl
        · rw [f2, mS_a, if_pos rfl, if_neg e]; rfl
        · rw [f3, if_neg (by omega)]; rfl
      · have w := wi_n (u := 40) n3 (by decide) (by decide)
        refine OK_no gC gM hw (-nI 3) ?_ ?_
        · simp (disch := omega) only [n_lit, n_of, n_o1, nI_add, pk_mul, nI_ltI, nI_leI, nI_eq, ↓lift_lt, ↓k_mt, ↓k_mp, if_true, if_false, Bool.false_eq_true, Nat.not_lt_zero, Nat.zero_le, Nat.reduceEqDiff, Nat.reduceLeDiff, y1, i1, hso, n3a]
        · simp (disch := omega) only [n_lit, n_of, n_o1, nI_add, pk_mul, nI_ltI, nI_leI, nI_eq, ↓lift_lt, ↓k_mt, ↓k_mp, if_true, if_false, Bool.false_eq_true, Nat.not_lt_zero, Nat.zero_le, Nat.reduceEqDiff, Nat.reduceLeDiff, n_litL, win_y, i1, w]
      · have w := wi_n (u := 40) n3 (by decide) (by decide)
        refine OK_no gC gM hw (-nI 3) ?_ ?_
        · have n3f : ¬ x3 ≤ nI 40 := n3e
          simp (disch := omega) only [n_lit, n_of, n_o1, nI_add, pk_mul, nI_ltI, nI_leI, nI_eq, ↓lift_lt, ↓k_mt, ↓k_mp, if_true, if_false, Bool.false_eq_true, Nat.not_lt_zero, Nat.zero_le, Nat.reduceEqDiff, Nat.reduceLeDiff, y1, i1, hso, n3a, n3f]
        · simp (disch := omega) only [n_lit, n_of, n_o1, nI_add, pk_mul, nI_ltI, nI_leI, nI_eq, ↓lift_lt, ↓k_mt, ↓k_mp, if_true, if_false, Bool.false_eq_true, Nat.not_lt_zero, Nat.zero_le, Nat.reduceEqDiff, Nat.reduceLeDiff, n_litL, win_y, i1, w]
    · have w := wi_n (u := 3) n2 (by decide) (by decide)
      refine OK_no gC gM hw (-nI 2) ?_ ?_
      · simp (disch := omega) only [n_lit, n_of, n_o1, nI_add, pk_mul, nI_ltI, nI_leI, nI_eq, ↓lift_lt, ↓k_mt, ↓k_mp, if_true, if_false, Bool.false_eq_true, Nat.not_lt_zero, Nat.zero_le, Nat.reduceEqDiff, Nat.reduceLeDiff, y1, i1, n2a]
      · simp (disch := omega) only [n_lit, n_of, n_o1, nI_add, pk_mul, nI_ltI, nI_leI, nI_eq, ↓lift_lt, ↓k_mt, ↓k_mp, if_true, if_false, Bool.false_eq_true, Nat.not_lt_zero, Nat.zero_le, Nat.reduceEqDiff, Nat.reduceLeDiff, n_litL, win_y, i1, w]
    · have w := wi_n (u := 3) n2 (by decide) (by decide)
      refine OK_no gC gM hw (-nI 2) ?_ ?_
      · simp (disch := omega) only [n_lit, n_of, n_o1, nI_add, pk_mul, nI_ltI, nI_leI, nI_eq, ↓lift_lt, ↓k_mt, ↓k_mp, if_true, if_false, Bool.false_eq_true, Nat.not_lt_zero, Nat.zero_le, Nat.reduceEqDiff, Nat.reduceLeDiff, y1, i1, n2a, n2c]
      · simp (disch := omega) only [n_lit, n_of, n_o1, nI_add, pk_mul, nI_ltI, nI_leI, nI_eq, ↓lift_lt, ↓k_mt, ↓k_mp, if_true, if_false, Bool.false_eq_true, Nat.not_lt_zero, Nat.zero_le, Nat.reduceEqDiff, Nat.reduceLeDiff, n_litL, win_y, i1, w]
  · have y1 := c_tray_n h1
    have w := wi_n (u := 3) h1 (by decide) (by decide)
    refine OK_no gC gM hw (-nI 2) ?_ ?_
    · simp (disch := omega) only [n_lit, n_of, n_o1, nI_add, pk_mul, nI_ltI, nI_leI, nI_eq, ↓lift_lt, ↓k_mt, ↓k_mp, if_true, if_false, Bool.false_eq_true, Nat.not_lt_zero, Nat.zero_le, Nat.reduceEqDiff, Nat.reduceLeDiff, y1]
    · simp (disch := omega) only [n_lit, n_of, n_o1, nI_add, pk_mul, nI_ltI, nI_leI, nI_eq, ↓lift_lt, ↓k_mt, ↓k_mp, if_true, if_false, Bool.false_eq_true, Nat.not_lt_zero, Nat.zero_le, Nat.reduceEqDiff, Nat.reduceLeDiff, n_litL, w]
/-! noTray -/
theorem q_noTray_n {x1 : Int32} (h1 : ¬ ∃ p, p < 4 ∧ x1 = nI p) : gX12_noTray m x1 = some (-nI 2) := by
  have w := wi_n (u := 3) h1 (by decide) (by decide)
  unfold gX12_noTray gX12_noTray_33
  simp (disch := omega) only [n_lit, n_of, n_o1, nI_add, pk_mul, nI_ltI, nI_leI, nI_eq, ↓lift_lt, ↓k_mt, ↓k_mp, if_true, if_false, Bool.false_eq_true, Nat.not_lt_zero, Nat.zero_le, Nat.reduceEqDiff, Nat.reduceLeDiff, n_litL, w]
theorem q_noTray_0 {t : Nat} (ht : t < 4) (h1 : m.2.1 21 t = -nI 1) : gX12_noTray m (nI t) = some (-nI 6) := by
  have i1 : ¬ (1 = 0) := by decide
  unfold gX12_noTray gX12_noTray_33
  simp (disch := omega) only [n_lit, n_of, n_o1, nI_add, pk_mul, nI_ltI, nI_leI, nI_eq, ↓lift_lt, ↓k_mt, ↓k_mp, if_true, if_false, Bool.false_eq_true, Nat.not_lt_zero, Nat.zero_le, Nat.reduceEqDiff, Nat.reduceLeDiff, n_litL, win_y, i1, mA_21, h1]
theorem q_noTray_1 {t so : Nat} (ht : t < 4) (hso : so < 4) (h1 : m.2.1 21 t = nI so) : gX12_noTray m (nI t) = some (nI 0) := by
  have i1 : ¬ (1 = 0) := by decide
  have i2 : ¬ nI so = -nI 1 := by
    have : ∀ so : Fin 4, ¬ nI so.1 = -nI 1 := by decide
    exact this ⟨so, hso⟩
  unfold gX12_noTray gX12_noTray_33
  simp (disch := omega) only [n_lit, n_of, n_o1, nI_add, pk_mul, nI_ltI, nI_leI, nI_eq, ↓lift_lt, ↓k_mt, ↓k_mp, if_true, if_false, Bool.false_eq_true, Nat.not_lt_zero, Nat.zero_le, Nat.reduceEqDiff, Nat.reduceLeDiff, n_litL, win_y, i1, mA_21, h1, i2]
def cutS (so : Nat) (v : Int64) : Int64 := if so = 0 then v.toInt32.toInt8.toInt32.toInt64 else if so = 1 then v.toInt32.toInt16.toInt32.toInt64 else if so = 2 then v.toInt32.toInt64 else v
theorem op_write (x1 x2 : Int32) (x3 : Int64) (gC : RC T h V c x) (gM : RM m x) (hw : WF x) : OKs T h V (gX11_write h c x1 x2 x3) (gX12_write m x1 x2 x3) := by
  have i1 : ¬ (1 = 0) := by decide
  unfold gX11_write gX11_write_44 gX12_write
  by_cases h1 : ∃ p, p < 4 ∧ x1 = nI p
  · obtain ⟨t, ht, rfl⟩ := h1
    have y1 := c_tray_y ht
    have cl : (nI t).toNatClampNeg = t := nI_clamp (by omega)
    have ib : inB (nI t) 4 = true := inB_nI ht (by decide)
    have hc := gC.1.2.2.2.2.2.2.1 t ht
    have hm := (RM_0 gM (nI 0)).2.2.2.2.2.2.2.1 t ht
    have ho := hw.2.2.2.2.2.2.2 t
    unfold trC at hc
    unfold trR at hm
    unfold trOK at ho
    cases hz : zR x t with
    | none =>
      rw [hz] at hc hm
      have hc : c.1 (tadr t) 2 = nI 1 := hc
      refine OK_no gC gM hw (-lN 6) ?_ ?_
      · simp (disch := omega) only [n_lit, n_of, n_o1, nI_add, pk_mul, nI_ltI, nI_leI, nI_eq, ↓lift_lt, ↓k_mt, ↓k_mp, if_true, if_false, Bool.false_eq_true, Nat.not_lt_zero, Nat.zero_le, Nat.reduceEqDiff, Nat.reduceLeDiff, n_litL, y1, i1, ib, iff_t, cl, hc]
      · have j1 : ¬ (-nI 6 = nI 0) := by decide
        have j2 : (-nI 6).toInt64 = -lN 6 := by decide
        simp (disch := omega) only [n_lit, n_of, n_o1, nI_add, pk_mul, nI_ltI, nI_leI, nI_eq, ↓lift_lt, ↓k_mt, ↓k_mp, if_true, if_false, Bool.false_eq_true, Nat.not_lt_zero, Nat.zero_le, Nat.reduceEqDiff, Nat.reduceLeDiff, n_litL, q_noTray_0 ht hm, j1, j2]
    | some p =>
      obtain ⟨so, n, w⟩ := p
      rw [hz] at hc hm ho
      obtain ⟨c2, c1, c3, cw⟩ := hc
      obtain ⟨mso, mn, mw⟩ := hm
      obtain ⟨hso, hn⟩ := ho
      by_cases h2 : ∃ p, p < n ∧ x2 = nI p
      · obtain ⟨i, hi, rfl⟩ := h2
        have hni : ¬ n ≤ i := by omega
        have e1 : (nI (n - 1)).toInt64 = lN (n - 1) := nI_l (by omega)
        have u1 : 40 * t + i < 160 := by omega
        have cut1 : gX9_cut h c t x3 = some (cutS so x3) := by
          unfold gX9_cut cutS
          rw [c1]
          have hc : so = 0 ∨ so = 1 ∨ so = 2 ∨ so = 3 := by omega
          rcases hc with e | e | e | e <;> subst e <;> rfl
        have cut2 : gX12_cut x3 (nI so) = some (cutS so x3) := by
          unfold gX12_cut gX12_cut_35 cutS
          have hc : so = 0 ∨ so = 1 ∨ so = 2 ∨ so = 3 := by omega
          rcases hc with e | e | e | e <;> subst e <;> rfl
        refine ⟨cutS so x3, cSJ c (tadr t + 1) i (cutS so x3), mSJ (mI m 0 (nI 0)) 23 (40 * t + i) (cutS so x3), sR x t (some (so, n, fun j => if j = i then cutS so x3 else w j)), ?_, ?_, RC_T (by omega) (RC_tray ht gC (fun _ _ => rfl) rfl rfl (fun r hr => u2_ne _ _ hr) rfl ⟨c2, c1, c3, fun j hj => ?_⟩), RM_tray gM rfl rfl rfl rfl rfl rfl ⟨mso, mn, fun j hj => ?_⟩ (fun t' ht' e => ⟨rfl, rfl, fun j hj => ?_⟩) hw, WF_R hw ⟨hso, hn⟩⟩
        · unfold gX9_put gX9_put_23 gX9_at gX9_at_22
          simp (disch := omega) only [n_lit, n_of, n_o1, nI_add, pk_mul, nI_ltI, nI_leI, nI_eq, ↓lift_lt, ↓k_mt, ↓k_mp, if_true, if_false, Bool.false_eq_true, Nat.not_lt_zero, Nat.zero_le, Nat.reduceEqDiff, Nat.reduceLeDiff, n_litL, y1, i1, ib, iff_t, cl, c2, c3, hi, hni, cut1, cWL_g, cSJ_1, cL_g, cSJ_5]
        · simp (disch := omega) only [n_lit, n_of, n_o1, nI_add, pk_mul, nI_ltI, nI_leI, nI_eq, ↓lift_lt, ↓k_mt, ↓k_mp, if_true, if_false, Bool.false_eq_true, Nat.not_lt_zero, Nat.zero_le, Nat.reduceEqDiff, Nat.reduceLeDiff, n_litL, q_noTray_1 ht hso mso, mA_21, mA_22, mn, mso, pk_sub, e1, win_y, i1, cut2, mWJ_23, mJ_23, mSJ_j]
        · rw [cSJ_5, if_pos rfl]
          show _ = if j = i then _ else _
          by_cases e : j = i
          · rw [if_pos e, if_pos e]
          · rw [if_neg e, if_neg e]; exact cw j hj
        · rw [mSJ_j, if_pos rfl]
          show _ = if j = i then _ else _
          by_cases e : j = i
          · rw [if_pos (by omega), if_pos e]
          · rw [if_neg (by omega), if_neg e]; exact mw j hj
        · rw [mSJ_j, if_pos rfl, if_neg (by omega)]; rfl
      · have q1 : (if x2 < nI 0 then some (-lN 7, c) else if x2 < nI n then none else some (-lN 7, c)) = some (-lN 7, c) := by
          by_cases h0 : x2 < nI 0
          · rw [if_pos h0]
          · rw [if_neg h0]
            obtain ⟨j, hj, e⟩ := nI_of h0
            rw [if_neg]
            intro q
            rw [e, nI_ltI hj (by omega)] at q
            exact h2 ⟨j, q, e⟩
        have hlt : ¬ (¬ x2 < nI 0 ∧ x2 < nI n) := by
          intro ⟨h0, q⟩
          obtain ⟨j, hj, e⟩ := nI_of h0
          rw [e, nI_ltI hj (by omega)] at q
          exact h2 ⟨j, q, e⟩
        refine OK_no gC gM hw (-lN 7) ?_ ?_
        · by_cases h0 : x2 < nI 0
          · simp (disch := omega) only [n_lit, n_of, n_o1, nI_add, pk_mul, nI_ltI, nI_leI, nI_eq, ↓lift_lt, ↓k_mt, ↓k_mp, if_true, if_false, Bool.false_eq_true, Nat.not_lt_zero, Nat.zero_le, Nat.reduceEqDiff, Nat.reduceLeDiff, n_litL, y1, i1, ib, iff_t, cl, c2, h0]
          · have h3 : ¬ x2 < nI n := fun q => hlt ⟨h0, q⟩
            simp (disch := omega) only [n_lit, n_of, n_o1, nI_add, pk_mul, nI_ltI, nI_leI, nI_eq, ↓lift_lt, ↓k_mt, ↓k_mp, if_true, if_false, Bool.false_eq_true, Nat.not_lt_zero, Nat.zero_le, Nat.reduceEqDiff, Nat.reduceLeDiff, n_litL, y1, i1, ib, iff_t, cl, c2, c3, h0, h3]
        · by_cases n0 : n = 0
          · subst n0
            have e : gX12_within x2.toInt64 (lN 0) (nI 0 - nI 1).toInt64 = some (nI 0) := by
              rw [q_wI]
              have a1 : (nI 0 - nI 1).toInt64.toInt = -1 := by decide
              have a2 : (lN 0).toInt = 0 := by decide
              rw [a1, a2, if_neg (by omega)]
            simp (disch := omega) only [n_lit, n_of, n_o1, nI_add, pk_mul, nI_ltI, nI_leI, nI_eq, ↓lift_lt, ↓k_mt, ↓k_mp, if_true, if_false, Bool.false_eq_true, Nat.not_lt_zero, Nat.zero_le, Nat.reduceEqDiff, Nat.reduceLeDiff, n_litL, q_noTray_1 ht hso mso, mA_22, mn, e]
          · have e1 : (nI (n - 1)).toInt64 = lN (n - 1) := nI_l (by omega)
            have w := wi_n (u := n - 1) h2 (by omega) (by omega)
            simp (disch := omega) only [n_lit, n_of, n_o1, nI_add, pk_mul, nI_ltI, nI_leI, nI_eq, ↓lift_lt, ↓k_mt, ↓k_mp, if_true, if_false, Bool.false_eq_true, Nat.not_lt_zero, Nat.zero_le, Nat.reduceEqDiff, Nat.reduceLeDiff, n_litL, q_noTray_1 ht hso mso, mA_22, mn, pk_sub, e1, w]
  · have y1 := c_tray_n h1
    refine OK_no gC gM hw (-lN 2) ?_ ?_
    · simp (disch := omega) only [n_lit, n_of, n_o1, nI_add, pk_mul, nI_ltI, nI_leI, nI_eq, ↓lift_lt, ↓k_mt, ↓k_mp, if_true, if_false, Bool.false_eq_true, Nat.not_lt_zero, Nat.zero_le, Nat.reduceEqDiff, Nat.reduceLeDiff, n_litL, y1]
    · have j1 : ¬ (-nI 2 = nI 0) := by decide
      have j2 : (-nI 2).toInt64 = -lN 2 := by decide
      simp (disch := omega) only [n_lit, n_of, n_o1, nI_add, pk_mul, nI_ltI, nI_leI, nI_eq, ↓lift_lt, ↓k_mt, ↓k_mp, if_true, if_false, Bool.false_eq_true, Nat.not_lt_zero, Nat.zero_le, Nat.reduceEqDiff, Nat.reduceLeDiff, n_litL, q_noTray_n h1, j1, j2]
end OPS2
