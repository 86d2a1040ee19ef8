/-! all rows of dry years, on both sides -/
theorem n_andn (a : Nat) {b : Nat} (hb : b < 2 ^ 32) : nI a &&& (nI b ^^^ -nI 1) = nI (a &&& (2 ^ 32 - (b + 1))) := by
  apply Int32.toBitVec_inj.1
  show BitVec.ofNat 32 a &&& (BitVec.ofNat 32 b ^^^ BitVec.allOnes 32) = BitVec.ofNat 32 (a &&& (2 ^ 32 - (b + 1)))
  apply BitVec.eq_of_getLsbD_eq
  intro i hi
  have e := Nat.testBit_two_pow_sub_succ hb i
  simp only [BitVec.getLsbD_and, BitVec.getLsbD_xor, BitVec.getLsbD_allOnes, BitVec.getLsbD_ofNat, Nat.testBit_and, e, hi, decide_true, Bool.true_and, Bool.xor_true]
theorem andn_t {a b : Nat} (hb : b < 2 ^ 32) (ha : a < 2 ^ 32) (j : Nat) : (a &&& (2 ^ 32 - (b + 1))).testBit j = true ↔ a.testBit j = true ∧ b.testBit j = false := by
  rw [Nat.testBit_and, Nat.testBit_two_pow_sub_succ hb j]
  by_cases hj : j < 32
  · simp [hj]
  · have : a.testBit j = false := Nat.testBit_lt_two_pow (Nat.lt_of_lt_of_le ha (Nat.pow_le_pow_right (by decide) (by omega)))
    simp [this]
theorem bit_t (x j : Nat) : x.testBit j = true ↔ x / 2 ^ j % 2 = 1 := by
  rw [Nat.testBit_eq_decide_div_mod_eq]
  exact decide_eq_true_iff
theorem bit_f (x j : Nat) : x.testBit j = false ↔ x / 2 ^ j % 2 = 0 := by
  rw [Nat.testBit_eq_decide_div_mod_eq, decide_eq_false_iff_not]
  omega
theorem bits_eq {a b : Nat} {P : Nat → Prop} (ha : ∀ j, a.testBit j = true ↔ P j) (hb : ∀ j, b.testBit j = true ↔ P j) : a = b := by
  apply Nat.eq_of_testBit_eq
  intro j
  by_cases h : P j
  · rw [(ha j).mpr h, (hb j).mpr h]
  · have h1 : ¬ a.testBit j = true := fun q => h ((ha j).mp q)
    have h2 : ¬ b.testBit j = true := fun q => h ((hb j).mp q)
    rw [Bool.not_eq_true] at h1 h2
    rw [h1, h2]
theorem pow_t (i j : Nat) : (1 * 2 ^ i).testBit j = true ↔ j = i := by
  rw [Nat.one_mul, Nat.testBit_two_pow]
  rw [decide_eq_true_iff]
  exact ⟨fun q => q.symm, fun q => q.symm⟩
theorem ones_t (n j : Nat) : (2 ^ n - 1).testBit j = true ↔ j < n := by
  rw [Nat.testBit_two_pow_sub_one, decide_eq_true_iff]
/-- the answers: how many, the first, what is so in all -/
def fstA (S : Nat → Prop) (B n i : Nat) (r : Int32) : Prop := (∃ R, R < B ∧ S R ∧ (∀ R', R' < R → ¬ S R') ∧ r = nI (R / 2 ^ (n - 1 - i) % 2)) ∨ ((∀ R, R < B → ¬ S R) ∧ r = -nI 1)
theorem fstA_one {S : Nat → Prop} {B n i : Nat} {r r' : Int32} (h : fstA S B n i r) (h' : fstA S B n i r') : r = r' := by
  rcases h with ⟨R, a1, a2, a3, a4⟩ | ⟨a1, a2⟩
  · rcases h' with ⟨R', b1, b2, b3, b4⟩ | ⟨b1, b2⟩
    · have e : R = R' := by
        apply Classical.byContradiction
        intro hne
        by_cases z : R < R'
        · exact b3 R z a2
        · exact a3 R' (by omega) b2
      rw [a4, b4, e]
    · exact absurd a2 (b1 R a1)
  · rcases h' with ⟨R', b1, b2, b3, b4⟩ | ⟨b1, b2⟩
    · exact absurd b2 (a1 R' b1)
    · rw [a2, b2]
def allA (S : Nat → Prop) (B n what : Nat) (a : Nat) : Prop := ∀ j, a.testBit j = true ↔ (j < n ∧ ∀ R, R < B → S R → R / 2 ^ (n - 1 - j) % 2 = what)
section QSEENS
variable {v : Cv} {s : St} {m : Mu} {t n : Nat} {w : Nat → Int64} {p : Nat} {Y : Nat → Nat → Nat}
theorem q_seen (hY : Y = fun u b => Yr v s.2.1 u s.2.2.1 b) (H : SQ v s t n w m) (ht : t < 4) (hn : n ≤ 10) (hp : p < 4) :
    ∃ m', gX12_seen_24 m (nI t) (nI p) (nI 0) (nI 0) = some (nI (csum (fun R => ib (SN Y w p n s.1 R)) (2 ^ n)), m') ∧ mfr Ar56 m m' := by
  have p2 := pow2_10 hn
  unfold gX12_seen_24
  have K := lpw_all (body := fun q : Int32 × Int32 × Mu => gX12_seen_24b q.2.2 (nI t) (nI p) q.1 q.2.1)
    (fun k q => q.1 = nI (csum (fun R => ib (SN Y w p n s.1 R)) k) ∧ q.2.1 = nI k ∧ mfr Ar56 m q.2.2)
    (fun r => r.1 = nI (csum (fun R => ib (SN Y w p n s.1 R)) (2 ^ n)) ∧ mfr Ar56 m r.2) (2 ^ n) ?_ ?_ (nI 0, nI 0, m) ⟨rfl, rfl, mfr_rfl _ m⟩
  · obtain ⟨r, e, e1, e2⟩ := K
    exact ⟨r.2, by rw [e]; exact congrArg some (Prod.ext e1 rfl), e2⟩
  · rintro k ⟨z1, z2, z3⟩ hk ⟨g1, g2, g3⟩
    have g1 : z1 = nI (csum (fun R => ib (SN Y w p n s.1 R)) k) := g1
    have g2 : z2 = nI k := g2
    subst g1 g2
    have g3 : mfr Ar56 m z3 := g3
    have k1 : ¬ 1 * 2 ^ n ≤ k := by omega
    obtain ⟨m1, e1, f1⟩ := q_isSeen (R := k) hY (SQ_fr H g3) ht hn hp (by omega)
    have z22 := (SQ_fr H g3).2.1
    show ∃ s', gX12_seen_24b z3 (nI t) (nI p) (nI (csum (fun R => ib (SN Y w p n s.1 R)) k)) (nI k) = some (.inl s') ∧ _
    refine ⟨(nI (csum (fun R => ib (SN Y w p n s.1 R)) k + ib (SN Y w p n s.1 k)), nI (k + 1), m1), ?_, rfl, rfl, mfr_tr g3 f1⟩
    generalize csum (fun R => ib (SN Y w p n s.1 R)) k = u
    unfold gX12_seen_24b gX12_seen_55
    by_cases z : SN Y w p n s.1 k
    · have i1 : ¬ (1 = 0) := by decide
      rw [ib_t z] at e1
      rw [ib_t z]
      simp (disch := omega) only [n_lit, n_of, n_o1, nI_add, pk_mul, nI_ltI, nI_leI, nI_eq, ↓lift_lt, ↓k_mt, ↓k_mp, if_true, if_false, Bool.false_eq_true, Nat.not_lt_zero, Nat.zero_le, Nat.reduceEqDiff, Nat.reduceLeDiff, Nat.reduceLT, mA_22, z22, n_and, n_shlN, k1, e1, i1]
    · rw [ib_f z] at e1
      rw [ib_f z]
      simp (disch := omega) only [n_lit, n_of, n_o1, nI_add, pk_mul, nI_ltI, nI_leI, nI_eq, ↓lift_lt, ↓k_mt, ↓k_mp, if_true, if_false, Bool.false_eq_true, Nat.not_lt_zero, Nat.zero_le, Nat.reduceEqDiff, Nat.reduceLeDiff, Nat.reduceLT, mA_22, z22, n_and, n_shlN, k1, e1]
  · rintro ⟨z1, z2, z3⟩ ⟨g1, g2, g3⟩
    have g2 : z2 = nI (2 ^ n) := g2
    subst g2
    have g3 : mfr Ar56 m z3 := g3
    have z22 := (SQ_fr H g3).2.1
    have k1 : 1 * 2 ^ n ≤ 2 ^ n := by omega
    show ∃ r, gX12_seen_24b z3 (nI t) (nI p) z1 (nI (2 ^ n)) = some (.inr r) ∧ _
    refine ⟨(z1, z3), ?_, g1, g3⟩
    unfold gX12_seen_24b
    simp (disch := omega) only [n_lit, n_of, n_o1, nI_add, pk_mul, nI_ltI, nI_leI, nI_eq, ↓lift_lt, ↓k_mt, ↓k_mp, if_true, if_false, Bool.false_eq_true, Nat.not_lt_zero, Nat.zero_le, Nat.reduceEqDiff, Nat.reduceLeDiff, Nat.reduceLT, mA_22, z22, n_and, n_shlN, k1]
theorem q_seenDry {i : Nat} (hY : Y = fun u b => Yr v s.2.1 u s.2.2.1 b) (H : SQ v s t n w m) (ht : t < 4) (hn : n ≤ 10) (hp : p < 4) (hi : i < n) :
    ∃ r m', gX12_seenDry_31 m (nI t) (nI p) (nI i) (nI 0) = some (r, m') ∧ mfr Ar56 m m' ∧ fstA (SN Y w p n s.1) (2 ^ n) n i r := by
  have p2 := pow2_10 hn
  unfold gX12_seenDry_31
  have K := lpw_inv (body := fun q : Int32 × Mu => gX12_seenDry_31b q.2 (nI t) (nI p) (nI i) q.1)
    (fun k q => q.1 = nI k ∧ mfr Ar56 m q.2 ∧ ∀ R, R < k → ¬ SN Y w p n s.1 R)
    (fun r => mfr Ar56 m r.2 ∧ fstA (SN Y w p n s.1) (2 ^ n) n i r.1) (2 ^ n) ?_ ?_ (nI 0, m) ⟨rfl, mfr_rfl _ m, fun R hR => by omega⟩
  · obtain ⟨r, e, e1, e2⟩ := K
    exact ⟨r.1, r.2, e, e1, e2⟩
  · rintro k ⟨z1, z2⟩ hk ⟨g1, g2, g3⟩
    have g1 : z1 = nI k := g1
    subst g1
    have g2 : mfr Ar56 m z2 := g2
    have k1 : ¬ 1 * 2 ^ n ≤ k := by omega
    have i2 : ¬ n ≤ i := by omega
    obtain ⟨m1, e1, f1⟩ := q_isSeen (R := k) hY (SQ_fr H g2) ht hn hp (by omega)
    have z22 := (SQ_fr H g2).2.1
    have y22 := (SQ_fr H (mfr_tr g2 f1)).2.1
    show (∃ s', gX12_seenDry_31b z2 (nI t) (nI p) (nI i) (nI k) = some (.inl s') ∧ _) ∨ (∃ r, gX12_seenDry_31b z2 (nI t) (nI p) (nI i) (nI k) = some (.inr r) ∧ _)
    unfold gX12_seenDry_31b gX12_seenDry_65
    by_cases z : SN Y w p n s.1 k
    · have i1 : ¬ (1 = 0) := by decide
      rw [ib_t z] at e1
      refine Or.inr ⟨(nI (k / 2 ^ (n - 1 - i) % 2), m1), ?_, mfr_tr g2 f1, Or.inl ⟨k, hk, z, g3, rfl⟩⟩
      simp (disch := omega) only [n_lit, n_of, n_o1, nI_add, pk_mul, nI_ltI, nI_leI, nI_eq, ↓lift_lt, ↓k_mt, ↓k_mp, if_true, if_false, Bool.false_eq_true, Nat.not_lt_zero, Nat.zero_le, Nat.reduceEqDiff, Nat.reduceLeDiff, Nat.reduceLT, mA_22, z22, n_and, n_shlN, k1, i2, e1, i1, q_dryIn (R := k) y22 ht hn hi (by omega), Option.map_some]
    · rw [ib_f z] at e1
      refine Or.inl ⟨(nI (k + 1), m1), ?_, rfl, mfr_tr g2 f1, fun R hR => ?_⟩
      · simp (disch := omega) only [n_lit, n_of, n_o1, nI_add, pk_mul, nI_ltI, nI_leI, nI_eq, ↓lift_lt, ↓k_mt, ↓k_mp, if_true, if_false, Bool.false_eq_true, Nat.not_lt_zero, Nat.zero_le, Nat.reduceEqDiff, Nat.reduceLeDiff, Nat.reduceLT, mA_22, z22, n_and, n_shlN, k1, i2, e1]
      · by_cases e : R = k
        · rw [e]; exact z
        · exact g3 R (by omega)
  · rintro ⟨z1, z2⟩ ⟨g1, g2, g3⟩
    have g1 : z1 = nI (2 ^ n) := g1
    subst g1
    have g2 : mfr Ar56 m z2 := g2
    have z22 := (SQ_fr H g2).2.1
    have k1 : 1 * 2 ^ n ≤ 2 ^ n := by omega
    show ∃ r, gX12_seenDry_31b z2 (nI t) (nI p) (nI i) (nI (2 ^ n)) = some (.inr r) ∧ _
    refine ⟨(-nI 1, z2), ?_, g2, Or.inr ⟨g3, rfl⟩⟩
    unfold gX12_seenDry_31b gX12_seenDry_80
    simp (disch := omega) only [n_lit, n_of, n_o1, nI_add, pk_mul, nI_ltI, nI_leI, nI_eq, ↓lift_lt, ↓k_mt, ↓k_mp, if_true, if_false, Bool.false_eq_true, Nat.not_lt_zero, Nat.zero_le, Nat.reduceEqDiff, Nat.reduceLeDiff, Nat.reduceLT, mA_22, z22, n_and, n_shlN, k1, Option.map_some]
/-- one row's years taken out of a set -/
theorem q_su83 {what R a : Nat} {x6 : Int32} (h22 : m.2.1 22 t = nI n) (ht : t < 4) (hn : n ≤ 10) (hw : what < 2) (hR : R < 2 ^ 31) (ha : a < 2 ^ 31) :
    ∃ a', gX12_surely_83 m (nI t) (nI p) (nI what) (nI a) x6 (nI R) (nI 0) = some (.inl (nI a', x6, nI (R + 1), m)) ∧ a' < 2 ^ 31 ∧ ∀ j, a'.testBit j = true ↔ (a.testBit j = true ∧ (j < n → R / 2 ^ (n - 1 - j) % 2 = what)) := by
  unfold gX12_surely_83
  have K := lpw_all (body := fun q : Int32 × Int32 => gX12_surely_83b m (nI t) (nI p) (nI what) x6 (nI R) q.1 q.2)
    (fun k q => q.2 = nI k ∧ ∃ a', q.1 = nI a' ∧ a' < 2 ^ 31 ∧ ∀ j, a'.testBit j = true ↔ (a.testBit j = true ∧ (j < k → R / 2 ^ (n - 1 - j) % 2 = what)))
    (fun r => ∃ a', r = .inl (nI a', x6, nI (R + 1), m) ∧ a' < 2 ^ 31 ∧ ∀ j, a'.testBit j = true ↔ (a.testBit j = true ∧ (j < n → R / 2 ^ (n - 1 - j) % 2 = what))) n ?_ ?_ (nI a, nI 0) ⟨rfl, a, rfl, ha, fun j => ⟨fun q => ⟨q, fun r => by omega⟩, fun q => q.1⟩⟩
  · obtain ⟨r, e, a', e1, e2⟩ := K
    exact ⟨a', by rw [e, e1], e2⟩
  · rintro k ⟨z1, z2⟩ hk ⟨g1, a', g2, g3, g4⟩
    have g1 : z2 = nI k := g1
    have g2 : z1 = nI a' := g2
    subst g1 g2
    have k1 : ¬ n ≤ k := by omega
    have ed := q_dryIn (m := m) h22 ht hn hk hR
    have pk : 2 ^ k ≤ 2 ^ 10 := Nat.pow_le_pow_right (by decide) (by omega)
    have p0 : 0 < 2 ^ k := Nat.pow_pos (by decide)
    have hb : R / 2 ^ (n - 1 - k) % 2 < 2 := Nat.mod_lt _ (by decide)
    show ∃ s', gX12_surely_83b m (nI t) (nI p) (nI what) x6 (nI R) (nI a') (nI k) = some (.inl s') ∧ _
    unfold gX12_surely_83b gX12_surely_118
    by_cases z : R / 2 ^ (n - 1 - k) % 2 = what
    · refine ⟨(nI a', nI (k + 1)), ?_, rfl, a', rfl, g3, fun j => ⟨fun q => ⟨((g4 j).mp q).1, fun r => ?_⟩, fun q => (g4 j).mpr ⟨q.1, fun r => q.2 (by omega)⟩⟩⟩
      · simp (disch := omega) only [n_lit, n_of, n_o1, nI_add, pk_mul, nI_ltI, nI_leI, nI_eq, ↓lift_lt, ↓k_mt, ↓k_mp, if_true, if_false, Bool.false_eq_true, Nat.not_lt_zero, Nat.zero_le, Nat.reduceEqDiff, Nat.reduceLeDiff, Nat.reduceLT, mA_22, h22, k1, ed, eq_true z]
      · by_cases e : j = k
        · rw [e]; exact z
        · exact ((g4 j).mp q).2 (by omega)
    · have en := n_andn a' (b := 1 * 2 ^ k) (by omega)
      have le : a' &&& (2 ^ 32 - (1 * 2 ^ k + 1)) ≤ a' := Nat.and_le_left
      refine ⟨(nI (a' &&& (2 ^ 32 - (1 * 2 ^ k + 1))), nI (k + 1)), ?_, rfl, _, rfl, by omega, fun j => ?_⟩
      · simp (disch := omega) only [n_lit, n_of, n_o1, nI_add, pk_mul, nI_ltI, nI_leI, nI_eq, ↓lift_lt, ↓k_mt, ↓k_mp, if_true, if_false, Bool.false_eq_true, Nat.not_lt_zero, Nat.zero_le, Nat.reduceEqDiff, Nat.reduceLeDiff, Nat.reduceLT, mA_22, h22, k1, ed, z, n_and, n_shlN, en]
      · rw [andn_t (by omega) (by omega), g4 j]
        have pj := pow_t k j
        constructor
        · rintro ⟨⟨q1, q2⟩, q3⟩
          refine ⟨q1, fun r => ?_⟩
          by_cases e : j = k
          · rw [pj.mpr e] at q3; cases q3
          · exact q2 (by omega)
        · rintro ⟨q1, q2⟩
          have hne : ¬ j = k := fun e => by
            subst e
            exact z (q2 (by omega))
          refine ⟨⟨q1, fun r => q2 (by omega)⟩, ?_⟩
          have : ¬ (1 * 2 ^ k).testBit j = true := fun q => hne (pj.mp q)
          rw [Bool.not_eq_true] at this
          exact this
  · rintro ⟨z1, z2⟩ ⟨g1, a', g2, g3, g4⟩
    have g1 : z2 = nI n := g1
    have g2 : z1 = nI a' := g2
    subst g1 g2
    show ∃ r, gX12_surely_83b m (nI t) (nI p) (nI what) x6 (nI R) (nI a') (nI n) = some (.inr r) ∧ _
    refine ⟨_, ?_, a', rfl, g3, g4⟩
    unfold gX12_surely_83b gX12_surely_124
    simp (disch := omega) only [n_lit, n_of, n_o1, nI_add, pk_mul, nI_ltI, nI_leI, nI_eq, ↓lift_lt, ↓k_mt, ↓k_mp, if_true, if_false, Bool.false_eq_true, Nat.not_lt_zero, Nat.zero_le, Nat.reduceEqDiff, Nat.reduceLeDiff, Nat.reduceLT, mA_22, h22, Nat.le_refl, Option.map_some]
theorem q_surely {what : Nat} (hY : Y = fun u b => Yr v s.2.1 u s.2.2.1 b) (H : SQ v s t n w m) (ht : t < 4) (hn : n ≤ 10) (hp : p < 4) (hw : what < 2) :
    ∃ a m', gX12_surely_50 m (nI t) (nI p) (nI what) (nI (2 ^ n - 1)) (nI 0) (nI 0) = some (nI a, m') ∧ mfr Ar56 m m' ∧ (((∃ R, R < 2 ^ n ∧ SN Y w p n s.1 R) ∧ allA (SN Y w p n s.1) (2 ^ n) n what a) ∨ ((∀ R, R < 2 ^ n → ¬ SN Y w p n s.1 R) ∧ a = 0)) := by
  have p2 := pow2_10 hn
  have i1 : ¬ (1 = 0) := by decide
  unfold gX12_surely_50
  have K := lpw_all (body := fun q : Int32 × Int32 × Int32 × Mu => gX12_surely_50b q.2.2.2 (nI t) (nI p) (nI what) q.1 q.2.1 q.2.2.1)
    (fun k q => q.2.2.1 = nI k ∧ mfr Ar56 m q.2.2.2 ∧ ∃ a y, q.1 = nI a ∧ a < 2 ^ 31 ∧ q.2.1 = nI y ∧ y < 2 ∧ (y = 1 ↔ ∃ R, R < k ∧ SN Y w p n s.1 R) ∧ allA (SN Y w p n s.1) k n what a)
    (fun r => mfr Ar56 m r.2 ∧ ∃ a, r.1 = nI a ∧ (((∃ R, R < 2 ^ n ∧ SN Y w p n s.1 R) ∧ allA (SN Y w p n s.1) (2 ^ n) n what a) ∨ ((∀ R, R < 2 ^ n → ¬ SN Y w p n s.1 R) ∧ a = 0))) (2 ^ n) ?_ ?_ (nI (2 ^ n - 1), nI 0, nI 0, m) ⟨rfl, mfr_rfl _ m, 2 ^ n - 1, 0, rfl, by omega, rfl, by decide, ⟨fun q => by omega, fun ⟨R, q, _⟩ => by omega⟩, fun j => by rw [ones_t]; exact ⟨fun q => ⟨q, fun R r => by omega⟩, fun q => q.1⟩⟩
  · obtain ⟨r, e, e1, a, e2, e3⟩ := K
    exact ⟨a, r.2, by rw [e]; exact congrArg some (Prod.ext e2 rfl), e1, e3⟩
  · rintro k ⟨z1, z2, z3, z4⟩ hk ⟨g1, g2, a, y, g3, g4, g5, g6, g7, g8⟩
    have g1 : z3 = nI k := g1
    have g3 : z1 = nI a := g3
    have g5 : z2 = nI y := g5
    subst g1 g3 g5
    have g2 : mfr Ar56 m z4 := g2
    have k1 : ¬ 1 * 2 ^ n ≤ k := by omega
    obtain ⟨m1, e1, f1⟩ := q_isSeen (R := k) hY (SQ_fr H g2) ht hn hp (by omega)
    have z22 := (SQ_fr H g2).2.1
    have y22 := (SQ_fr H (mfr_tr g2 f1)).2.1
    show ∃ s', gX12_surely_50b z4 (nI t) (nI p) (nI what) (nI a) (nI y) (nI k) = some (.inl s') ∧ _
    unfold gX12_surely_50b gX12_surely_124
    by_cases z : SN Y w p n s.1 k
    · rw [ib_t z] at e1
      obtain ⟨a', ea, la, ta⟩ := q_su83 (m := m1) (p := p) (what := what) (R := k) (a := a) (x6 := nI 1) y22 ht hn hw (by omega) g4
      refine ⟨(nI a', nI 1, nI (k + 1), m1), ?_, rfl, mfr_tr g2 f1, a', 1, rfl, la, rfl, by decide, ⟨fun _ => ⟨k, by omega, z⟩, fun _ => rfl⟩, fun j => ?_⟩
      · simp (disch := omega) only [n_lit, n_of, n_o1, nI_add, pk_mul, nI_ltI, nI_leI, nI_eq, ↓lift_lt, ↓k_mt, ↓k_mp, if_true, if_false, Bool.false_eq_true, Nat.not_lt_zero, Nat.zero_le, Nat.reduceEqDiff, Nat.reduceLeDiff, Nat.reduceLT, mA_22, z22, n_and, n_shlN, k1, e1, i1, ea]
      · rw [ta j, g8 j]
        constructor
        · rintro ⟨⟨q1, q2⟩, q3⟩
          refine ⟨q1, fun R hR hS => ?_⟩
          by_cases e : R = k
          · rw [e]; exact q3 q1
          · exact q2 R (by omega) hS
        · rintro ⟨q1, q2⟩
          exact ⟨⟨q1, fun R hR hS => q2 R (by omega) hS⟩, fun _ => q2 k (by omega) z⟩
    · rw [ib_f z] at e1
      refine ⟨(nI a, nI y, nI (k + 1), m1), ?_, rfl, mfr_tr g2 f1, a, y, rfl, g4, rfl, g6, ?_, fun j => ?_⟩
      · simp (disch := omega) only [n_lit, n_of, n_o1, nI_add, pk_mul, nI_ltI, nI_leI, nI_eq, ↓lift_lt, ↓k_mt, ↓k_mp, if_true, if_false, Bool.false_eq_true, Nat.not_lt_zero, Nat.zero_le, Nat.reduceEqDiff, Nat.reduceLeDiff, Nat.reduceLT, mA_22, z22, n_and, n_shlN, k1, e1]
      · rw [g7]
        constructor
        · rintro ⟨R, q1, q2⟩
          exact ⟨R, by omega, q2⟩
        · rintro ⟨R, q1, q2⟩
          by_cases e : R = k
          · rw [e] at q2; exact absurd q2 z
          · exact ⟨R, by omega, q2⟩
      · rw [g8 j]
        constructor
        · rintro ⟨q1, q2⟩
          refine ⟨q1, fun R hR hS => ?_⟩
          by_cases e : R = k
          · rw [e] at hS; exact absurd hS z
          · exact q2 R (by omega) hS
        · rintro ⟨q1, q2⟩
          exact ⟨q1, fun R hR hS => q2 R (by omega) hS⟩
  · rintro ⟨z1, z2, z3, z4⟩ ⟨g1, g2, a, y, g3, g4, g5, g6, g7, g8⟩
    have g1 : z3 = nI (2 ^ n) := g1
    have g3 : z1 = nI a := g3
    have g5 : z2 = nI y := g5
    subst g1 g3 g5
    have g2 : mfr Ar56 m z4 := g2
    have z22 := (SQ_fr H g2).2.1
    have k1 : 1 * 2 ^ n ≤ 2 ^ n := by omega
    show ∃ r, gX12_surely_50b z4 (nI t) (nI p) (nI what) (nI a) (nI y) (nI (2 ^ n)) = some (.inr r) ∧ _
    unfold gX12_surely_50b gX12_surely_130 gX12_surely_141
    by_cases z : y = 0
    · refine ⟨(nI 0, z4), ?_, g2, 0, rfl, Or.inr ⟨fun R q1 q2 => ?_, rfl⟩⟩
      · simp (disch := omega) only [n_lit, n_of, n_o1, nI_add, pk_mul, nI_ltI, nI_leI, nI_eq, ↓lift_lt, ↓k_mt, ↓k_mp, if_true, if_false, Bool.false_eq_true, Nat.not_lt_zero, Nat.zero_le, Nat.reduceEqDiff, Nat.reduceLeDiff, Nat.reduceLT, mA_22, z22, n_and, n_shlN, k1, z, Option.map_some]
      · have := g7.mpr ⟨R, q1, q2⟩
        omega
    · refine ⟨(nI a, z4), ?_, g2, a, rfl, Or.inl ⟨g7.mp (by omega), g8⟩⟩
      simp (disch := omega) only [n_lit, n_of, n_o1, nI_add, pk_mul, nI_ltI, nI_leI, nI_eq, ↓lift_lt, ↓k_mt, ↓k_mp, if_true, if_false, Bool.false_eq_true, Nat.not_lt_zero, Nat.zero_le, Nat.reduceEqDiff, Nat.reduceLeDiff, Nat.reduceLT, mA_22, z22, n_and, n_shlN, k1, z, Option.map_some]
end QSEENS
