/-! the class follows all rows of dry years -/
def SX (S : Nat → Prop) (n B : Nat) (c : Ch) : Prop := ∃ f a z, c.1 115 4 = nI (csum (fun R => ib (S R)) B) ∧ c.1 115 5 = nI f ∧ f < 2 ^ 31 ∧ c.1 115 6 = nI a ∧ a < 2 ^ 31 ∧ c.1 115 7 = nI z ∧ z < 2 ^ 31 ∧ allA S B n 1 a ∧ allA S B n 0 z ∧ ((∃ R, R < B ∧ S R) → ∃ R, R < B ∧ S R ∧ (∀ R', R' < R → ¬ S R') ∧ ∀ j, j < n → f / 2 ^ j % 2 = R / 2 ^ (n - 1 - j) % 2)
theorem csum_ib0 {S : Nat → Prop} : ∀ {B : Nat}, csum (fun R => ib (S R)) B = 0 ↔ ∀ R, R < B → ¬ S R
  | 0 => ⟨fun _ R hR => by omega, fun _ => rfl⟩
  | B + 1 => by
    show csum (fun R => ib (S R)) B + ib (S B) = 0 ↔ _
    have ih := csum_ib0 (S := S) (B := B)
    constructor
    · intro q R hR
      by_cases e : R = B
      · rw [e]
        intro hS
        rw [ib_t hS] at q
        omega
      · exact ih.mp (by omega) R (by omega)
    · intro q
      rw [ih.mpr (fun R hR => q R (by omega)), ib_f (q B (by omega))]
theorem csum_skip {S : Nat → Prop} {B : Nat} : ∀ d, (∀ R, B ≤ R → R < B + d → ¬ S R) → csum (fun R => ib (S R)) (B + d) = csum (fun R => ib (S R)) B
  | 0, _ => rfl
  | d + 1, h => by
    show csum (fun R => ib (S R)) (B + d) + ib (S (B + d)) = _
    rw [csum_skip d (fun R h1 h2 => h R h1 (by omega)), ib_f (h (B + d) (by omega) (by omega))]
    rfl
theorem SX_skip {S : Nat → Prop} {n B B' : Nat} {c : Ch} (hB : B ≤ B') (hn : ∀ R, B ≤ R → R < B' → ¬ S R) (H : SX S n B c) : SX S n B' c := by
  obtain ⟨f, a, z, h1, h2, h3, h4, h5, h6, h7, h8, h9, h10⟩ := H
  have e : B' = B + (B' - B) := by omega
  refine ⟨f, a, z, ?_, h2, h3, h4, h5, h6, h7, fun j => ?_, fun j => ?_, fun ⟨R, q1, q2⟩ => ?_⟩
  · rw [e, csum_skip _ (fun R q1 q2 => hn R q1 (by omega))]; exact h1
  · rw [h8 j]
    refine ⟨fun q => ⟨q.1, fun R hR hS => ?_⟩, fun q => ⟨q.1, fun R hR hS => q.2 R (by omega) hS⟩⟩
    by_cases z : R < B
    · exact q.2 R z hS
    · exact absurd hS (hn R (by omega) hR)
  · rw [h9 j]
    refine ⟨fun q => ⟨q.1, fun R hR hS => ?_⟩, fun q => ⟨q.1, fun R hR hS => q.2 R (by omega) hS⟩⟩
    by_cases z : R < B
    · exact q.2 R z hS
    · exact absurd hS (hn R (by omega) hR)
  · by_cases z : R < B
    · obtain ⟨R', r1, r2⟩ := h10 ⟨R, z, q2⟩
      exact ⟨R', by omega, r2⟩
    · exact absurd q2 (hn R (by omega) q1)
section FOL
variable {h : Hp} {V : Nat → Cv} {a ch l p t n : Nat} {w : Nat → Int64} {Y : Nat → Nat → Nat} {s0 : Nat}
/-- what stays as it follows -/
def FK (h : Hp) (V : Nat → Cv) (a ch l p t n : Nat) (w : Nat → Int64) (c : Ch) : Prop := CT h V c a ch ∧ c.1 115 1 = nI p ∧ c.1 115 2 = nI l ∧ c.1 (tadr t) 3 = nI n ∧ ∀ i, i < n → c.2.2.2.2.1 (tadr t + 1) i = w i
theorem FK_q {c c' : Ch} (H : FK h V a ch l p t n w c) (hT : CT h V c' a ch) (q : qfr c c') (h1 : c'.1 115 = c.1 115) : FK h V a ch l p t n w c' := by
  obtain ⟨-, k1, k2, k3, k4⟩ := H
  have tb := tadr_b (t := t)
  exact ⟨hT, by rw [h1]; exact k1, by rw [h1]; exact k2, by rw [q.1 _ (by omega) (by omega) (by omega)]; exact k3, by rw [q.2.2.2]; exact k4⟩
theorem FK_I {c : Ch} {k : Nat} {y : Int32} (hk : ¬ k = 1) (hk2 : ¬ k = 2) (H : FK h V a ch l p t n w c) : FK h V a ch l p t n w (cI c 115 k y) := by
  obtain ⟨k0, k1, k2, k3, k4⟩ := H
  have tb := tadr_b (t := t)
  exact ⟨CT_115 k0, by rw [cI_1, if_pos rfl, if_neg (by omega)]; exact k1, by rw [cI_1, if_pos rfl, if_neg (by omega)]; exact k2, by rw [cI_n _ (by omega)]; exact k3, k4⟩
/-- one row more that brings it -/
theorem SX_hit {S : Nat → Prop} {B bits : Nat} {c : Ch} (gc : Nat → Ch → Nat → Int32 → Int32 → Int32 → Option Ch) (hn : n ≤ 10) (hB : B < 2 ^ 10) (hS : S B) (hb : bits < 2 ^ 31) (hbit : ∀ j, j < n → bits / 2 ^ j % 2 = B / 2 ^ (n - 1 - j) % 2) (hbh : ∀ j, n ≤ j → bits.testBit j = false) (F : FK h V a ch l p t n w c) (H : SX S n B c) :
    ∃ c', gX2_follow gc h c t (nI n) (nI s0) (nI bits) = some c' ∧ SX S n (B + 1) c' ∧ FK h V a ch l p t n w c' ∧ qfr c c' := by
  obtain ⟨f, av, z, h1, h2, h3, h4, h5, h6, h7, h8, h9, h10⟩ := H
  have n10 : n ≤ 10 := hn
  have n1 : ¬ n < n := by omega
  have cb := csum_b (f := fun R => ib (S R)) (fun R => ib_b (S R)) B
  obtain ⟨f', ef⟩ : ∃ f', f' = if csum (fun R => ib (S R)) B = 0 then bits else f := ⟨_, rfl⟩
  obtain ⟨c6, e6⟩ : ∃ c6, c6 = cI c 115 5 (nI f') := ⟨_, rfl⟩
  obtain ⟨c7, e7⟩ : ∃ c7, c7 = cI c6 115 4 (nI (csum (fun R => ib (S R)) B + 1)) := ⟨_, rfl⟩
  obtain ⟨c8, e8⟩ : ∃ c8, c8 = cI c7 115 6 (nI (av &&& bits)) := ⟨_, rfl⟩
  obtain ⟨c9, e9⟩ : ∃ c9, c9 = cI c8 115 7 (nI (z &&& (2 ^ 32 - (bits + 1)))) := ⟨_, rfl⟩
  have en := n_andn z (b := bits) (by omega)
  have g4 : c6.1 115 4 = nI (csum (fun R => ib (S R)) B) := by rw [e6, cI_1, if_pos rfl, if_neg (by decide)]; exact h1
  have g6 : c7.1 115 6 = nI av := by rw [e7, cI_1, if_pos rfl, if_neg (by decide), e6, cI_1, if_pos rfl, if_neg (by decide)]; exact h4
  have g7 : c8.1 115 7 = nI z := by rw [e8, cI_1, if_pos rfl, if_neg (by decide), e7, cI_1, if_pos rfl, if_neg (by decide), e6, cI_1, if_pos rfl, if_neg (by decide)]; exact h6
  have step : gX2_follow_32 gc h c (nI bits) (nI f') = some c9 := by
    unfold gX2_follow_32
    rw [e6] at g4
    rw [e7, e6] at g6
    rw [e8, e7, e6] at g7
    rw [e9, e8, e7, e6]
    simp (disch := omega) only [n_lit, n_of, n_o1, nI_add, pk_mul, nI_ltI, nI_leI, nI_eq, ↓lift_lt, ↓k_mt, ↓k_mp, if_true, if_false, Bool.false_eq_true, Nat.not_lt_zero, Nat.zero_le, Nat.reduceEqDiff, Nat.reduceLeDiff, Nat.reduceLT, g4, g6, g7, n_and, en]
  refine ⟨c9, ?_, ?_, ?_, ?_⟩
  · unfold gX2_follow
    by_cases z0 : csum (fun R => ib (S R)) B = 0
    · rw [if_pos z0] at ef
      rw [ef] at step
      rw [z0] at h1
      simp (disch := omega) only [n_lit, n_of, n_o1, nI_add, pk_mul, nI_ltI, nI_leI, nI_eq, ↓lift_lt, ↓k_mt, ↓k_mp, if_true, if_false, Bool.false_eq_true, Nat.not_lt_zero, Nat.zero_le, Nat.reduceEqDiff, Nat.reduceLeDiff, Nat.reduceLT, n10, F.2.2.2.1, n1, h1, step]
    · rw [if_neg z0] at ef
      rw [ef] at step
      simp (disch := omega) only [n_lit, n_of, n_o1, nI_add, pk_mul, nI_ltI, nI_leI, nI_eq, ↓lift_lt, ↓k_mt, ↓k_mp, if_true, if_false, Bool.false_eq_true, Nat.not_lt_zero, Nat.zero_le, Nat.reduceEqDiff, Nat.reduceLeDiff, Nat.reduceLT, n10, F.2.2.2.1, n1, h1, z0, h2, step]
  · have la : av &&& bits ≤ av := Nat.and_le_left
    have lz : z &&& (2 ^ 32 - (bits + 1)) ≤ z := Nat.and_le_left
    refine ⟨f', av &&& bits, z &&& (2 ^ 32 - (bits + 1)), ?_, ?_, ?_, ?_, by omega, ?_, by omega, fun j => ?_, fun j => ?_, fun _ => ?_⟩
    · show c9.1 115 4 = nI (csum (fun R => ib (S R)) B + ib (S B))
      rw [ib_t hS, e9, cI_1, if_pos rfl, if_neg (by decide), e8, cI_1, if_pos rfl, if_neg (by decide), e7, cI_1, if_pos rfl, if_pos rfl]
    · rw [e9, cI_1, if_pos rfl, if_neg (by decide), e8, cI_1, if_pos rfl, if_neg (by decide), e7, cI_1, if_pos rfl, if_neg (by decide), e6, cI_1, if_pos rfl, if_pos rfl]
    · rw [ef]; split
      · exact hb
      · exact h3
    · rw [e9, cI_1, if_pos rfl, if_neg (by decide), e8, cI_1, if_pos rfl, if_pos rfl]
    · rw [e9, cI_1, if_pos rfl, if_pos rfl]
    · rw [Nat.testBit_and, Bool.and_eq_true, h8 j, bit_t]
      constructor
      · rintro ⟨⟨q1, q2⟩, q3⟩
        refine ⟨q1, fun R hR hS' => ?_⟩
        by_cases e : R = B
        · rw [e, ← hbit j q1]; exact q3
        · exact q2 R (by omega) hS'
      · rintro ⟨q1, q2⟩
        exact ⟨⟨q1, fun R hR hS' => q2 R (by omega) hS'⟩, by rw [hbit j q1]; exact q2 B (by omega) hS⟩
    · rw [andn_t (by omega) (by omega), h9 j, bit_f]
      constructor
      · rintro ⟨⟨q1, q2⟩, q3⟩
        refine ⟨q1, fun R hR hS' => ?_⟩
        by_cases e : R = B
        · rw [e, ← hbit j q1]; exact q3
        · exact q2 R (by omega) hS'
      · rintro ⟨q1, q2⟩
        exact ⟨⟨q1, fun R hR hS' => q2 R (by omega) hS'⟩, by rw [hbit j q1]; exact q2 B (by omega) hS⟩
    · by_cases z0 : csum (fun R => ib (S R)) B = 0
      · rw [if_pos z0] at ef
        exact ⟨B, by omega, hS, fun R' hR' => csum_ib0.mp z0 R' hR', fun j hj => by rw [ef]; exact hbit j hj⟩
      · rw [if_neg z0] at ef
        have : ∃ R, R < B ∧ S R := by
          apply Classical.byContradiction
          intro q
          exact z0 (csum_ib0.mpr (fun R hR hS' => q ⟨R, hR, hS'⟩))
        obtain ⟨R, r1, r2, r3, r4⟩ := h10 this
        exact ⟨R, by omega, r2, r3, by rw [ef]; exact r4⟩
  · rw [e9, e8, e7, e6]; exact FK_I (by decide) (by decide) (FK_I (by decide) (by decide) (FK_I (by decide) (by decide) (FK_I (by decide) (by decide) F)))
  · rw [e9, e8, e7, e6]; exact qfr_I (qfr_I (qfr_I (qfr_I (qfr_rfl c) (by omega)) (by omega)) (by omega)) (by omega)
theorem c_follow (hY : Y = fun u b => Yr (V a) ch u l b) (hl : l < 2 ^ 31) (hp : p < 4) (ht : t < 4) (hn : n ≤ 10) : ∀ (k i f pre s bits : Nat) (c : Ch), i + k = n → k < f → pre < 2 ^ i → bits < 2 ^ i → s < 20000 →
    (∀ R, R / 2 ^ k = pre → wk Y n s0 R i = s ∧ (∀ j, j < i → fit w p j (wk Y n s0 R (j + 1))) ∧ ∀ j, j < i → bits / 2 ^ j % 2 = R / 2 ^ (n - 1 - j) % 2) → FK h V a ch l p t n w c → SX (SN Y w p n s0) n (pre * 2 ^ k) c →
    ∃ c', grX2_follow h f 0 c t (nI i) (nI s) (nI bits) = some c' ∧ SX (SN Y w p n s0) n ((pre + 1) * 2 ^ k) c' ∧ FK h V a ch l p t n w c' ∧ qfr c c' := by
  intro k
  induction k with
  | zero =>
    intro i f pre s bits c hi hf hpre hbits hs hR F H
    obtain ⟨f', rfl⟩ : ∃ f', f = f' + 1 := ⟨f - 1, by omega⟩
    have ei : i = n := by omega
    subst ei
    obtain ⟨r1, r2, r3⟩ := hR pre (by simp)
    have p2 := pow2_10 hn
    rw [Nat.pow_zero, Nat.mul_one] at H
    rw [Nat.pow_zero, Nat.mul_one]
    show ∃ c', gX2_follow (grX2_follow h f') h c t (nI i) (nI s) (nI bits) = some c' ∧ _
    exact SX_hit (grX2_follow h f') hn (by omega) r2 (by omega) r3 (fun j hj => Nat.testBit_lt_two_pow (Nat.lt_of_lt_of_le hbits (Nat.pow_le_pow_right (by decide) hj))) F H
  | succ k ih =>
    intro i f pre s bits c hi hf hpre hbits hs hR F H
    obtain ⟨f', rfl⟩ : ∃ f', f = f' + 1 := ⟨f - 1, by omega⟩
    have i10 : i ≤ 10 := by omega
    have ilt : i < n := by omega
    have hP := F.1.2.2.1.1
    have p2i := pow2_10 i10
    have pk0 : 0 < 2 ^ k := Nat.pow_pos (by decide)
    have pk1 : 2 ^ (k + 1) = 2 ^ k * 2 := Nat.pow_succ ..
    have ek : n - 1 - i = k := by omega
    have turn : ∀ b c, b < 2 → FK h V a ch l p t n w c → SX (SN Y w p n s0) n ((2 * pre + b) * 2 ^ k) c → ∃ c', gX2_follow_73b (grX2_follow h f') h c t (nI i) (nI s) (nI bits) (nI b) = some (.inl (nI (b + 1), c')) ∧ SX (SN Y w p n s0) n ((2 * pre + b + 1) * 2 ^ k) c' ∧ FK h V a ch l p t n w c' ∧ qfr c c' := by
      intro b c hb F H
      obtain ⟨c1, e1, T1, f1⟩ := c_after (s := s) (l := l) (dry := b) F.1 hs hl hb
      have eY : Yr (V a) ch s l b = Y s b := by rw [hY]
      rw [eY] at e1
      have ly : Y s b < 20000 := by rw [← eY]; exact Yr_lt hP hs _ _ _
      have F1 := FK_q F T1 (qfr_12 f1) (by rw [f1.1])
      have H1 : SX (SN Y w p n s0) n ((2 * pre + b) * 2 ^ k) c1 := by unfold SX at *; rw [f1.1]; exact H
      have ea := c_at (h := h) F1.2.2.2.1 (by omega) F1.2.2.2.2 ilt
      have hdg := dg_lt (Y s b) p
      have nl : (nI (dg (Y s b) p)).toInt64 = lN (dg (Y s b) p) := nI_l (by omega)
      have b1 : ¬ 1 < b := by omega
      have child : ∀ R, R / 2 ^ k = 2 * pre + b → wk Y n s0 R i = s ∧ wk Y n s0 R (i + 1) = Y s b ∧ (∀ j, j < i → fit w p j (wk Y n s0 R (j + 1))) ∧ R / 2 ^ (n - 1 - i) % 2 = b ∧ ∀ j, j < i → bits / 2 ^ j % 2 = R / 2 ^ (n - 1 - j) % 2 := by
        intro R q
        have q1 : R / 2 ^ (k + 1) = pre := by rw [pk1, ← Nat.div_div_eq_div_mul, q]; omega
        obtain ⟨r1, r2, r3⟩ := hR R q1
        have q2 : R / 2 ^ (n - 1 - i) % 2 = b := by rw [ek, q]; omega
        refine ⟨r1, ?_, r2, q2, r3⟩
        show Y (wk Y n s0 R i) (R / 2 ^ (n - 1 - i) % 2) = _
        rw [r1, q2]
      unfold gX2_follow_73b gX2_follow_126 gX2_follow_143
      by_cases z : fit w p i (Y s b)
      · have ob : bits ||| b * 2 ^ i = 2 ^ i * b + bits := by
          rw [Nat.two_pow_add_eq_or_of_lt hbits b, Nat.or_comm, Nat.mul_comm]
        have bb : 2 ^ i * b ≤ 2 ^ i * 1 := Nat.mul_le_mul_left _ (by omega)
        have pi1 : 2 ^ (i + 1) = 2 ^ i * 2 := Nat.pow_succ ..
        obtain ⟨c2, e2, H2, F2, q2⟩ := ih (i + 1) f' (2 * pre + b) (Y s b) (2 ^ i * b + bits) c1 (by omega) (by omega) (by omega) (by omega) ly (fun R q => by
          obtain ⟨r1, r2, r3, r4, r5⟩ := child R q
          refine ⟨r2, fun j hj => ?_, fun j hj => ?_⟩
          · by_cases e : j = i
            · rw [e, r2]; exact z
            · exact r3 j (by omega)
          · by_cases e : j = i
            · rw [e, r4, Nat.mul_add_div (Nat.pow_pos (by decide)), Nat.div_eq_of_lt hbits]
              omega
            · have e2 : 2 ^ i * b = 2 ^ j * (2 * (2 ^ (i - j - 1) * b)) := by
                rw [← Nat.mul_assoc 2, ← Nat.mul_assoc (2 ^ j), ← Nat.pow_succ', ← Nat.pow_add, show j + (i - j - 1).succ = i by omega]
              rw [← r5 j (by omega), e2, Nat.mul_add_div (Nat.pow_pos (by decide))]
              omega) F1 H1
        have sh : b * 2 ^ i < 2 ^ 32 := by rw [Nat.mul_comm]; omega
        refine ⟨c2, ?_, H2, F2, qfr_tr (qfr_12 f1) q2⟩
        rcases z with z | z
        · have g1 : lg_cmp (w i) (-lN 1) = nI 0 := (lg_e' _ _).mpr z
          simp (disch := omega) only [n_lit, n_of, n_o1, nI_add, pk_mul, nI_ltI, nI_leI, nI_eq, ↓lift_lt, ↓k_mt, ↓k_mp, if_true, if_false, Bool.false_eq_true, Nat.not_lt_zero, Nat.zero_le, Nat.reduceEqDiff, Nat.reduceLeDiff, Nat.reduceLT, n_litL, b1, F.2.2.1, e1, ea, g1, n_and, n_shlN, n_or, ob, e2]
        · by_cases z1 : w i = -lN 1
          · have g1 : lg_cmp (w i) (-lN 1) = nI 0 := (lg_e' _ _).mpr z1
            simp (disch := omega) only [n_lit, n_of, n_o1, nI_add, pk_mul, nI_ltI, nI_leI, nI_eq, ↓lift_lt, ↓k_mt, ↓k_mp, if_true, if_false, Bool.false_eq_true, Nat.not_lt_zero, Nat.zero_le, Nat.reduceEqDiff, Nat.reduceLeDiff, Nat.reduceLT, n_litL, b1, F.2.2.1, e1, ea, g1, n_and, n_shlN, n_or, ob, e2]
          · have g1 : ¬ lg_cmp (w i) (-lN 1) = nI 0 := fun q => z1 ((lg_e' _ _).mp q)
            have g2 : lg_cmp (w i) (lN (dg (Y s b) p)) = nI 0 := (lg_e' _ _).mpr z
            simp (disch := omega) only [n_lit, n_of, n_o1, nI_add, pk_mul, nI_ltI, nI_leI, nI_eq, ↓lift_lt, ↓k_mt, ↓k_mp, if_true, if_false, Bool.false_eq_true, Nat.not_lt_zero, Nat.zero_le, Nat.reduceEqDiff, Nat.reduceLeDiff, Nat.reduceLT, n_litL, b1, F.2.2.1, e1, ea, g1, F1.2.1, c_digit, nl, g2, n_and, n_shlN, n_or, ob, e2]
      · have g1 : ¬ lg_cmp (w i) (-lN 1) = nI 0 := fun q => z (Or.inl ((lg_e' _ _).mp q))
        have g2 : ¬ lg_cmp (w i) (lN (dg (Y s b) p)) = nI 0 := fun q => z (Or.inr ((lg_e' _ _).mp q))
        refine ⟨c1, ?_, SX_skip ?_ (fun R q1 q2 hS => ?_) H1, F1, qfr_12 f1⟩
        · simp (disch := omega) only [n_lit, n_of, n_o1, nI_add, pk_mul, nI_ltI, nI_leI, nI_eq, ↓lift_lt, ↓k_mt, ↓k_mp, if_true, if_false, Bool.false_eq_true, Nat.not_lt_zero, Nat.zero_le, Nat.reduceEqDiff, Nat.reduceLeDiff, Nat.reduceLT, n_litL, b1, F.2.2.1, e1, ea, g1, F1.2.1, c_digit, nl, g2]
        · exact Nat.mul_le_mul_right _ (by omega)
        · obtain ⟨r1, r2, -⟩ := child R (Nat.div_eq_of_lt_le q1 q2)
          have := hS i ilt
          rw [r2] at this
          exact z this
    have e0 : pre * 2 ^ (k + 1) = (2 * pre + 0) * 2 ^ k := by rw [pk1, Nat.add_zero, ← Nat.mul_assoc, Nat.mul_comm (pre * 2 ^ k) 2, Nat.mul_assoc]
    have e9 : (pre + 1) * 2 ^ (k + 1) = (2 * pre + 1 + 1) * 2 ^ k := by rw [pk1, show 2 * pre + 1 + 1 = 2 * (pre + 1) by omega, ← Nat.mul_assoc, Nat.mul_comm ((pre + 1) * 2 ^ k) 2, Nat.mul_assoc]
    rw [e0] at H
    rw [e9]
    obtain ⟨c1, x1, H1, F1, q1⟩ := turn 0 c (by decide) F H
    obtain ⟨c2, x2, H2, F2, q2⟩ := turn 1 c1 (by decide) F1 H1
    refine ⟨c2, ?_, H2, F2, qfr_tr q1 q2⟩
    have x3 : gX2_follow_73b (grX2_follow h f') h c2 t (nI i) (nI s) (nI bits) (nI (1 + 1)) = some (.inr c2) := by
      have o2 : 1 < 1 + 1 := by decide
      unfold gX2_follow_73b
      simp (disch := omega) only [n_lit, n_of, n_o1, nI_add, pk_mul, nI_ltI, nI_leI, nI_eq, ↓lift_lt, ↓k_mt, ↓k_mp, if_true, if_false, Bool.false_eq_true, Nat.not_lt_zero, Nat.zero_le, Nat.reduceEqDiff, Nat.reduceLeDiff, Nat.reduceLT, o2]
    have loop : gX2_follow_73 (grX2_follow h f') h c t (nI i) (nI s) (nI bits) (nI 0) = some c2 := by
      unfold gX2_follow_73
      exact (lpw_l x1).trans ((lpw_l x2).trans (lpw_r x3))
    show gX2_follow (grX2_follow h f') h c t (nI i) (nI s) (nI bits) = some c2
    unfold gX2_follow
    simp (disch := omega) only [n_lit, n_of, n_o1, nI_add, pk_mul, nI_ltI, nI_leI, nI_eq, ↓lift_lt, ↓k_mt, ↓k_mp, if_true, if_false, Bool.false_eq_true, Nat.not_lt_zero, Nat.zero_le, Nat.reduceEqDiff, Nat.reduceLeDiff, Nat.reduceLT, i10, F.2.2.2.1, ilt, loop]
end FOL
