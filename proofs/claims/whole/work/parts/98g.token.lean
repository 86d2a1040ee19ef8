/-! tokens: both sides go on to the next one -/
def mfn (m m' : Mu) : Prop := (∀ r, ¬ r = 6 → ¬ r = 7 → ¬ r = 9 → ¬ r = 10 → m'.1 r = m.1 r) ∧ m'.2 = m.2
def cfn (c c' : Ch) : Prop := (∀ r, ¬ r = 83 → c'.1 r = c.1 r) ∧ c'.1 83 1 = c.1 83 1 ∧ c'.2 = c.2
theorem mfn_rfl (m : Mu) : mfn m m := ⟨fun _ _ _ _ _ => rfl, rfl⟩
theorem cfn_rfl (c : Ch) : cfn c c := ⟨fun _ _ => rfl, rfl, rfl⟩
theorem mfn_tr {m m' m'' : Mu} (h : mfn m m') (h' : mfn m' m'') : mfn m m'' := ⟨fun r a b d e => (h'.1 r a b d e).trans (h.1 r a b d e), h'.2.trans h.2⟩
theorem cfn_tr {c c' c'' : Ch} (h : cfn c c') (h' : cfn c' c'') : cfn c c'' := ⟨fun r a => (h'.1 r a).trans (h.1 r a), h'.2.1.trans h.2.1, h'.2.2.trans h.2.2⟩
theorem mfn_I {m m' : Mu} {k : Nat} {y : Int32} (h : mfn m m') (hk : k = 6 ∨ k = 7 ∨ k = 9 ∨ k = 10) : mfn m (mI m' k y) := ⟨fun r a b d e => by rw [mI_f, if_neg (by omega)]; exact h.1 r a b d e, by rw [← h.2]; rfl⟩
theorem cfn_I {c c' : Ch} {k : Nat} {y : Int32} (h : cfn c c') (hk : ¬ k = 1) : cfn c (cI c' 83 k y) := ⟨fun r a => by rw [cI_n _ a]; exact h.1 r a, by rw [cI_1, if_pos rfl, if_neg (fun e => hk e.symm)]; exact h.2.1, h.2.2⟩
theorem TXx_f {t : Nat → Nat} {N : Nat} {m m' : Mu} {h : Hp} {c c' : Ch} (H : TXx t N m h c) (hm : mfn m m') (hc : cfn c c') : TXx t N m' h c' := by
  obtain ⟨h1, h2, h3, h4, h5, h6, h7⟩ := H
  exact ⟨h1, h2, by rw [hm.1 8 (by decide) (by decide) (by decide) (by decide)]; exact h3, by rw [hm.2]; exact h4, by rw [hc.2.2]; exact h5, by rw [hc.2.1]; exact h6, by rw [hc.2.2]; exact h7.1, by rw [hc.1 82 (by decide)]; exact h7.2.1, by rw [hc.1 82 (by decide)]; exact h7.2.2⟩
def ckd (kd : Nat) : Nat := if kd ≤ 22 then 1 else if kd = 23 then 2 else if kd = 24 then 0 else if kd = 25 then 4 else 3
/-- what a token is -/
def TC (t : Nat → Nat) (N a b kd : Nat) : Prop := b ≤ N ∧ ((kd = 24 ∧ a = N ∧ b = N) ∨ (a < b ∧ ((vk kd = true ∧ cont t a b = kt kd) ∨ (kd = 22 ∧ ∀ k, vk k = true → ¬ cont t a b = kt k) ∨ kd = 23 ∨ kd = 25)))
def TKx (t : Nat → Nat) (N : Nat) (m : Mu) (c : Ch) (a b kd nm : Nat) : Prop := m.1 6 = nI a ∧ m.1 7 = nI b ∧ m.1 9 = nI kd ∧ c.1 83 4 = nI a ∧ c.1 83 2 = nI b ∧ c.1 83 3 = nI (ckd kd) ∧ (kd = 23 → m.1 10 = nI nm ∧ c.1 83 5 = nI nm ∧ nm < 1000) ∧ TC t N a b kd
theorem ckd_b (kd : Nat) : ckd kd ≤ 4 := by
  unfold ckd
  (repeat' split) <;> omega
theorem ckd_4 {kd : Nat} (h : ¬ kd = 25) : ¬ ckd kd = 4 := by
  unfold ckd
  (repeat' split) <;> omega
theorem ckd_2 {kd : Nat} (h : ¬ kd = 23) : ¬ ckd kd = 2 := by
  unfold ckd
  (repeat' split) <;> omega
theorem TC_kd {t : Nat → Nat} {N a b kd : Nat} (H : TC t N a b kd) : kd < 42 ∧ a ≤ b := by
  rcases H.2 with ⟨h, h1, h2⟩ | ⟨h, ⟨h1, -⟩ | ⟨h1, -⟩ | h1 | h1⟩
  · omega
  · exact ⟨vk_lt h1, by omega⟩
  · omega
  · omega
  · omega
/-- the class knows the same tokens -/
theorem tk_isAt {t : Nat → Nat} {N : Nat} {m : Mu} {h : Hp} {c : Ch} {a b kd nm x : Nat} (H : TXx t N m h c) (K : TKx t N m c a b kd nm) (hx : x < 35) (hx4 : 4 ≤ x) : gX6_isAt h c x = some (nI (if kd = kx x then 1 else 0)) := by
  obtain ⟨k1, k2, k3, k4, k5, k6, k7, k8⟩ := K
  obtain ⟨v1, v2⟩ := kx_ok x hx hx4
  have ab := TC_kd k8
  have xl := vk_lt v1
  have no : ckd kd ≠ 1 → ckd kd ≠ 3 → ¬ kd = kx x → gX6_isAt h c x = some (nI (if kd = kx x then 1 else 0)) := fun q1 q2 q3 => by
    have b5 := ckd_b kd
    rw [if_neg q3]
    unfold gX6_isAt gX6_isAt_32
    simp (disch := omega) only [n_lit, n_of, n_o1, nI_add, pk_mul, nI_ltI, nI_leI, nI_eq, ↓lift_lt, ↓k_mt, ↓k_mp, if_true, if_false, Bool.false_eq_true, Nat.not_lt_zero, Nat.zero_le, Nat.reduceEqDiff, Nat.reduceLeDiff, Nat.reduceLT, k6, q1, q2]
  rcases k8.2 with ⟨h1, h2, h3⟩ | ⟨h1, ⟨h2, h3⟩ | ⟨h2, h3⟩ | h2 | h2⟩
  · subst h1
    exact no (by decide) (by decide) (fun e => by rw [← e] at v1; exact absurd v1 (by decide))
  · have ck : ckd kd = 1 ∨ ckd kd = 3 := by
      have := vk_lt h2
      unfold vk at h2
      simp only [Bool.or_eq_true, Bool.and_eq_true, decide_eq_true_eq] at h2
      unfold ckd
      rcases h2 with q | q
      · rw [if_pos (by omega)]; exact Or.inl rfl
      · rw [if_neg (by omega), if_neg (by omega), if_neg (by omega), if_neg (by omega)]; exact Or.inr rfl
    rw [c_isAt H hx hx4 k4 k5 ab.2 k8.1 (by rcases ck with q | q <;> rw [k6, q] <;> simp)]
    by_cases z : kd = kx x
    · rw [if_pos z, if_pos (by rw [h3, v2, z])]
    · rw [if_neg z, if_neg (fun w => z (kt_inj kd ab.1 h2 (kx x) xl v1 (by rw [← h3, w, v2])))]
  · subst h2
    rw [c_isAt H hx hx4 k4 k5 ab.2 k8.1 (Or.inl (by rw [k6]; rfl)), if_neg (fun w => h3 (kx x) v1 (by rw [w, v2])), if_neg (fun e => by rw [← e] at v1; exact absurd v1 (by decide))]
  · subst h2
    exact no (by decide) (by decide) (fun e => by rw [← e] at v1; exact absurd v1 (by decide))
  · subst h2
    exact no (by decide) (by decide) (fun e => by rw [← e] at v1; exact absurd v1 (by decide))
set_option maxRecDepth 100000 in
theorem c16 : ∀ v, v < 128 → ((nI v).toUInt32 % 65536).toInt32 = nI v ∧ (nI v).toInt8.toInt32 = nI v := by decide +kernel
set_option maxRecDepth 100000 in
theorem sg_b : (∀ i, i < 12 → bA 37 (nI i) = some (nI ((ks 3).getD i 0)) ∧ (ks 3).getD i 0 < 128 ∧ cJ_chr 36 (nI i) = some (nI ((ks 3).getD i 0)) ∧ 0 < (ks 3).getD i 0) ∧ (∀ i, i < 12 → ∀ j, j < 12 → (ks 3).getD i 0 = (ks 3).getD j 0 → i = j) ∧ cJ_len 36 = some (nI 12) ∧ isT 36 = true ∧ isT 3 = true ∧ bL 37 = some (nI 12) ∧ cJ_len 3 = some (nI 12) ∧ (fJ0_isLatin1_aae02 hz 3 = some (nI 1)) ∧ sA 3 = some 37 := by decide +kernel
/-- the class's look for a sign -/
theorem x_ixo {v : Nat} (hv : v < 128) : ∃ y, cJ_ixo 3 (nI v) = some y ∧ ((∃ k, k < 12 ∧ v = (ks 3).getD k 0 ∧ y = nI k) ∨ ((∀ k, k < 12 → ¬ v = (ks 3).getD k 0) ∧ y = -nI 1)) := by
  obtain ⟨s1, s2, s3, s4, s5, s6, s7, s8, s9⟩ := sg_b
  have J := lpw_inv (body := fun z : Int32 => fJ1_indexOfChar_4cfef_7b hz 37 (nI 12) (nI v) z)
    (fun i z => z = nI i ∧ ∀ k, k < i → ¬ v = (ks 3).getD k 0)
    (fun y => (∃ k, k < 12 ∧ v = (ks 3).getD k 0 ∧ y = nI k) ∨ ((∀ k, k < 12 → ¬ v = (ks 3).getD k 0) ∧ y = -nI 1)) 12 ?_ ?_ (nI 0) ⟨rfl, fun k hk => by omega⟩
  · obtain ⟨y, ey, hy⟩ := J
    refine ⟨y, ?_, hy⟩
    have ey : fJ1_indexOfChar_4cfef_7 hz 37 (nI 12) (nI v) (nI 0) = some y := ey
    have c8 := (c16 v hv).2
    have i1 : ¬ (1 = 0) := by decide
    have v0 : ¬ v < 0 := by omega
    have v5 : ¬ 255 < v := by omega
    have mx : imax (nI 0) (nI 0) = nI 0 := by decide
    have mn : imin (nI 12) (nI 12) = nI 12 := by decide
    have e1 : fJ1_indexOf_4cfef hz 37 (nI v) (nI 0) (nI 12) = some y := by
      unfold fJ1_indexOf_4cfef fJ1_canEncode_9a6ad fJ1_canEncode_9a6ad_16 fJ1_indexOfChar_4cfef
      simp (disch := omega) only [n_lit, n_of, n_o1, nI_add, pk_mul, nI_ltI, nI_leI, nI_eq, ↓lift_lt, ↓k_mt, ↓k_mp, if_true, if_false, Bool.false_eq_true, Nat.not_lt_zero, Nat.zero_le, Nat.reduceEqDiff, Nat.reduceLeDiff, Nat.reduceLT, v5, n_bl1, i1, s6, mx, mn, c8, ey]
    have s7' : fJ0_length_8abf5 hz 3 = some (nI 12) := s7
    unfold cJ_ixo fJ0_indexOf_0f7a4 fJ0_indexOf_7cf53 fJ0_indexOf_7cf53_36
    rw [gT_y s5, gT_y s5, gT_y s5]
    simp (disch := omega) only [n_lit, n_of, n_o1, nI_add, pk_mul, nI_ltI, nI_leI, nI_eq, ↓lift_lt, ↓k_mt, ↓k_mp, if_true, if_false, Bool.false_eq_true, Nat.not_lt_zero, Nat.zero_le, Nat.reduceEqDiff, Nat.reduceLeDiff, Nat.reduceLT, s8, i1, s9, s7', e1, gT_y s5]
  · rintro i z hi ⟨g1, g2⟩
    subst g1
    obtain ⟨b1, b2, -⟩ := s1 i hi
    have i1 : ¬ 12 ≤ i := by omega
    show (∃ s', fJ1_indexOfChar_4cfef_7b hz 37 (nI 12) (nI v) (nI i) = some (.inl s') ∧ _) ∨ (∃ r, fJ1_indexOfChar_4cfef_7b hz 37 (nI 12) (nI v) (nI i) = some (.inr r) ∧ _)
    unfold fJ1_indexOfChar_4cfef_7b
    by_cases z : (ks 3).getD i 0 = v
    · refine Or.inr ⟨nI i, ?_, Or.inl ⟨i, hi, z.symm, rfl⟩⟩
      simp (disch := omega) only [n_lit, n_of, n_o1, nI_add, pk_mul, nI_ltI, nI_leI, nI_eq, ↓lift_lt, ↓k_mt, ↓k_mp, if_true, if_false, Bool.false_eq_true, Nat.not_lt_zero, Nat.zero_le, Nat.reduceEqDiff, Nat.reduceLeDiff, Nat.reduceLT, i1, b1, eq_true z]
    · refine Or.inl ⟨nI (i + 1), ?_, rfl, fun k hk => ?_⟩
      · simp (disch := omega) only [n_lit, n_of, n_o1, nI_add, pk_mul, nI_ltI, nI_leI, nI_eq, ↓lift_lt, ↓k_mt, ↓k_mp, if_true, if_false, Bool.false_eq_true, Nat.not_lt_zero, Nat.zero_le, Nat.reduceEqDiff, Nat.reduceLeDiff, Nat.reduceLT, i1, b1, z]
      · by_cases e : k = i
        · subst e; exact fun w => z w.symm
        · exact g2 k (by omega)
  · rintro z ⟨g1, g2⟩
    subst g1
    refine ⟨-nI 1, ?_, Or.inr ⟨g2, rfl⟩⟩
    unfold fJ1_indexOfChar_4cfef_7b
    simp (disch := omega) only [n_lit, n_of, n_o1, nI_add, pk_mul, nI_ltI, nI_leI, nI_eq, ↓lift_lt, ↓k_mt, ↓k_mp, if_true, if_false, Bool.false_eq_true, Nat.not_lt_zero, Nat.zero_le, Nat.reduceEqDiff, Nat.reduceLeDiff, Nat.reduceLT, Nat.le_refl]
section TOK
variable {t : Nat → Nat} {N : Nat} {m : Mu} {h : Hp} {c : Ch}
theorem q_small {v : Nat} (hv : v < 256) : gX12_isSmall (nI v) = some (nI (if 97 ≤ v ∧ v ≤ 122 then 1 else 0)) := by
  unfold gX12_isSmall gX12_isSmall_16 gX12_isSmall_17
  by_cases z : v < 97
  · rw [if_neg (show ¬ (97 ≤ v ∧ v ≤ 122) by omega)]
    simp (disch := omega) only [n_lit, n_of, n_o1, nI_add, pk_mul, nI_ltI, nI_leI, nI_eq, ↓lift_lt, ↓k_mt, ↓k_mp, if_true, if_false, Bool.false_eq_true, Nat.not_lt_zero, Nat.zero_le, Nat.reduceEqDiff, Nat.reduceLeDiff, Nat.reduceLT, z, n_bl0]
  · by_cases y : 122 < v
    · rw [if_neg (show ¬ (97 ≤ v ∧ v ≤ 122) by omega)]
      simp (disch := omega) only [n_lit, n_of, n_o1, nI_add, pk_mul, nI_ltI, nI_leI, nI_eq, ↓lift_lt, ↓k_mt, ↓k_mp, if_true, if_false, Bool.false_eq_true, Nat.not_lt_zero, Nat.zero_le, Nat.reduceEqDiff, Nat.reduceLeDiff, Nat.reduceLT, z, y, n_bl0]
    · rw [if_pos (show 97 ≤ v ∧ v ≤ 122 by omega)]
      simp (disch := omega) only [n_lit, n_of, n_o1, nI_add, pk_mul, nI_ltI, nI_leI, nI_eq, ↓lift_lt, ↓k_mt, ↓k_mp, if_true, if_false, Bool.false_eq_true, Nat.not_lt_zero, Nat.zero_le, Nat.reduceEqDiff, Nat.reduceLeDiff, Nat.reduceLT, z, y, n_bl1]
theorem q_small_n : gX12_isSmall (-nI 1) = some (nI 0) := by
  have l : (-nI 1 < nI 97) = True := eq_true (by decide)
  unfold gX12_isSmall gX12_isSmall_16 gX12_isSmall_17
  simp (disch := omega) only [n_lit, n_of, n_o1, nI_add, pk_mul, nI_ltI, nI_leI, nI_eq, ↓lift_lt, ↓k_mt, ↓k_mp, if_true, if_false, Bool.false_eq_true, Nat.not_lt_zero, Nat.zero_le, Nat.reduceEqDiff, Nat.reduceLeDiff, Nat.reduceLT, l, n_bl0]
theorem q_digit {v : Nat} (hv : v < 256) : gX12_isDigit (nI v) = some (nI (if 48 ≤ v ∧ v ≤ 57 then 1 else 0)) := by
  unfold gX12_isDigit gX12_isDigit_16 gX12_isDigit_17
  by_cases z : v < 48
  · rw [if_neg (show ¬ (48 ≤ v ∧ v ≤ 57) by omega)]
    simp (disch := omega) only [n_lit, n_of, n_o1, nI_add, pk_mul, nI_ltI, nI_leI, nI_eq, ↓lift_lt, ↓k_mt, ↓k_mp, if_true, if_false, Bool.false_eq_true, Nat.not_lt_zero, Nat.zero_le, Nat.reduceEqDiff, Nat.reduceLeDiff, Nat.reduceLT, z, n_bl0]
  · by_cases y : 57 < v
    · rw [if_neg (show ¬ (48 ≤ v ∧ v ≤ 57) by omega)]
      simp (disch := omega) only [n_lit, n_of, n_o1, nI_add, pk_mul, nI_ltI, nI_leI, nI_eq, ↓lift_lt, ↓k_mt, ↓k_mp, if_true, if_false, Bool.false_eq_true, Nat.not_lt_zero, Nat.zero_le, Nat.reduceEqDiff, Nat.reduceLeDiff, Nat.reduceLT, z, y, n_bl0]
    · rw [if_pos (show 48 ≤ v ∧ v ≤ 57 by omega)]
      simp (disch := omega) only [n_lit, n_of, n_o1, nI_add, pk_mul, nI_ltI, nI_leI, nI_eq, ↓lift_lt, ↓k_mt, ↓k_mp, if_true, if_false, Bool.false_eq_true, Nat.not_lt_zero, Nat.zero_le, Nat.reduceEqDiff, Nat.reduceLeDiff, Nat.reduceLT, z, y, n_bl1]
theorem q_digit_n : gX12_isDigit (-nI 1) = some (nI 0) := by
  have l : (-nI 1 < nI 48) = True := eq_true (by decide)
  unfold gX12_isDigit gX12_isDigit_16 gX12_isDigit_17
  simp (disch := omega) only [n_lit, n_of, n_o1, nI_add, pk_mul, nI_ltI, nI_leI, nI_eq, ↓lift_lt, ↓k_mt, ↓k_mp, if_true, if_false, Bool.false_eq_true, Nat.not_lt_zero, Nat.zero_le, Nat.reduceEqDiff, Nat.reduceLeDiff, Nat.reduceLT, l, n_bl0]
/-- spaces are gone past -/
theorem tk_skip (H : TXx t N m h c) : ∀ d a m1 c1, a + d = N → mfn m m1 → m1.1 6 = nI a → cfn c c1 → c1.1 83 2 = nI a → ∃ a' m2 c2, a ≤ a' ∧ a' ≤ N ∧ gX12_next_8 m1 = gX12_next_47 m2 ∧ gX6_advance h c1 = gX6_advance_52 h c2 ∧ mfn m m2 ∧ m2.1 6 = nI a' ∧ cfn c c2 ∧ c2.1 83 2 = nI a' := by
  intro d
  induction d with
  | zero =>
    intro a m1 c1 ha f1 x1 f2 x2
    have H1 := TXx_f H f1 f2
    have N9 := H.1
    have sa := q_see (i := a) H1 (by omega)
    rw [if_neg (by omega)] at sa
    have n1 : ¬ (-nI 1 = nI 10) := by decide
    have n2 : ¬ (-nI 1 = nI 32) := by decide
    have le : N ≤ a := by omega
    refine ⟨a, m1, c1, Nat.le_refl _, by omega, ?_, ?_, f1, x1, f2, x2⟩
    · have eb : gX12_next_8b m1 = (gX12_next_47 m1).map (fun q => .inr q) := by
        unfold gX12_next_8b
        simp (disch := omega) only [n_lit, n_of, n_o1, nI_add, pk_mul, nI_ltI, nI_leI, nI_eq, ↓lift_lt, ↓k_mt, ↓k_mp, if_true, if_false, Bool.false_eq_true, Nat.not_lt_zero, Nat.zero_le, Nat.reduceEqDiff, Nat.reduceLeDiff, Nat.reduceLT, x1, sa, n1, n2]
      unfold gX12_next_8
      exact lpw_m eb
    · have eb : gX6_advanceb h c1 = (gX6_advance_52 h c1).map (fun q => .inr q) := by
        unfold gX6_advanceb
        simp (disch := omega) only [n_lit, n_of, n_o1, nI_add, pk_mul, nI_ltI, nI_leI, nI_eq, ↓lift_lt, ↓k_mt, ↓k_mp, if_true, if_false, Bool.false_eq_true, Nat.not_lt_zero, Nat.zero_le, Nat.reduceEqDiff, Nat.reduceLeDiff, Nat.reduceLT, H1.2.2.2.2.2.1, x2, le]
      unfold gX6_advance
      exact lpw_m eb
  | succ d ih =>
    intro a m1 c1 ha f1 x1 f2 x2
    have H1 := TXx_f H f1 f2
    have N9 := H.1
    have sa := q_see (i := a) H1 (by omega)
    rw [if_pos (by omega)] at sa
    have ct := c_txt (i := a) H1 (by omega)
    have tb := H.2.1 a
    have e10 := sgn_eq (n := t a) (k := 10) tb (by decide)
    have e32 := sgn_eq (n := t a) (k := 32) tb (by decide)
    have nl : ¬ N ≤ a := by omega
    have step : (t a = 10 ∨ t a = 32) → gX12_next_8 m1 = gX12_next_8 (mI m1 6 (nI (a + 1))) ∧ gX6_advance h c1 = gX6_advance h (cI c1 83 2 (nI (a + 1))) := fun hc => by
      refine ⟨?_, ?_⟩
      · have eb : gX12_next_8b m1 = some (.inl (mI m1 6 (nI (a + 1)))) := by
          unfold gX12_next_8b gX12_next_34
          by_cases z : t a = 10
          · simp (disch := omega) only [n_lit, n_of, n_o1, nI_add, pk_mul, nI_ltI, nI_leI, nI_eq, ↓lift_lt, ↓k_mt, ↓k_mp, if_true, if_false, Bool.false_eq_true, Nat.not_lt_zero, Nat.zero_le, Nat.reduceEqDiff, Nat.reduceLeDiff, Nat.reduceLT, x1, sa, eq_true z]
          · have z2 : t a = 32 := by omega
            simp (disch := omega) only [n_lit, n_of, n_o1, nI_add, pk_mul, nI_ltI, nI_leI, nI_eq, ↓lift_lt, ↓k_mt, ↓k_mp, if_true, if_false, Bool.false_eq_true, Nat.not_lt_zero, Nat.zero_le, Nat.reduceEqDiff, Nat.reduceLeDiff, Nat.reduceLT, x1, sa, z, eq_true z2]
        unfold gX12_next_8
        exact lpw_l eb
      · have eb : gX6_advanceb h c1 = some (.inl (cI c1 83 2 (nI (a + 1)))) := by
          unfold gX6_advanceb gX6_advance_39
          by_cases z : t a = 32
          · simp (disch := omega) only [n_lit, n_of, n_o1, nI_add, pk_mul, nI_ltI, nI_leI, nI_eq, ↓lift_lt, ↓k_mt, ↓k_mp, if_true, if_false, Bool.false_eq_true, Nat.not_lt_zero, Nat.zero_le, Nat.reduceEqDiff, Nat.reduceLeDiff, Nat.reduceLT, H1.2.2.2.2.2.1, x2, nl, H1.2.2.2.2.1, ct, e32, eq_true z]
          · have z2 : t a = 10 := by omega
            simp (disch := omega) only [n_lit, n_of, n_o1, nI_add, pk_mul, nI_ltI, nI_leI, nI_eq, ↓lift_lt, ↓k_mt, ↓k_mp, if_true, if_false, Bool.false_eq_true, Nat.not_lt_zero, Nat.zero_le, Nat.reduceEqDiff, Nat.reduceLeDiff, Nat.reduceLT, H1.2.2.2.2.2.1, x2, nl, H1.2.2.2.2.1, ct, e32, z, e10, eq_true z2]
        unfold gX6_advance
        exact lpw_l eb
    by_cases hc : t a = 10 ∨ t a = 32
    · obtain ⟨s1, s2⟩ := step hc
      obtain ⟨a', m2, c2, g1, g2, g3, g4, g5⟩ := ih (a + 1) (mI m1 6 (nI (a + 1))) (cI c1 83 2 (nI (a + 1))) (by omega) (mfn_I f1 (Or.inl rfl)) (by rw [mI_f, if_pos rfl]) (cfn_I f2 (by decide)) (by rw [cI_1, if_pos rfl, if_pos rfl])
      exact ⟨a', m2, c2, by omega, g2, s1.trans g3, s2.trans g4, g5⟩
    · have z1 : ¬ t a = 10 := fun w => hc (Or.inl w)
      have z2 : ¬ t a = 32 := fun w => hc (Or.inr w)
      refine ⟨a, m1, c1, Nat.le_refl _, by omega, ?_, ?_, f1, x1, f2, x2⟩
      · have eb : gX12_next_8b m1 = (gX12_next_47 m1).map (fun q => .inr q) := by
          unfold gX12_next_8b
          simp (disch := omega) only [n_lit, n_of, n_o1, nI_add, pk_mul, nI_ltI, nI_leI, nI_eq, ↓lift_lt, ↓k_mt, ↓k_mp, if_true, if_false, Bool.false_eq_true, Nat.not_lt_zero, Nat.zero_le, Nat.reduceEqDiff, Nat.reduceLeDiff, Nat.reduceLT, x1, sa, z1, z2]
        unfold gX12_next_8
        exact lpw_m eb
      · have eb : gX6_advanceb h c1 = (gX6_advance_52 h c1).map (fun q => .inr q) := by
          unfold gX6_advanceb
          simp (disch := omega) only [n_lit, n_of, n_o1, nI_add, pk_mul, nI_ltI, nI_leI, nI_eq, ↓lift_lt, ↓k_mt, ↓k_mp, if_true, if_false, Bool.false_eq_true, Nat.not_lt_zero, Nat.zero_le, Nat.reduceEqDiff, Nat.reduceLeDiff, Nat.reduceLT, H1.2.2.2.2.2.1, x2, nl, H1.2.2.2.2.1, ct, e32, z2, e10, z1]
        unfold gX6_advance
        exact lpw_m eb
/-- a word -/
theorem tk_word (H : TXx t N m h c) {a : Nat} : ∀ d e m1 c1, e + d = N → a ≤ e → (∀ i, a ≤ i → i < e → 97 ≤ t i ∧ t i ≤ 122) → mfn m m1 → m1.1 6 = nI a → m1.1 7 = nI e → cfn c c1 → c1.1 83 2 = nI e → c1.1 83 4 = nI a → c1.1 83 3 = nI 1 → ∃ e' m2 c2, e ≤ e' ∧ e' ≤ N ∧ (∀ i, a ≤ i → i < e' → 97 ≤ t i ∧ t i ≤ 122) ∧ gX12_next_89 m1 = gX12_next_116 m2 ∧ gX6_readWord_5 h c1 = some c2 ∧ mfn m m2 ∧ m2.1 6 = nI a ∧ m2.1 7 = nI e' ∧ cfn c c2 ∧ c2.1 83 2 = nI e' ∧ c2.1 83 4 = nI a ∧ c2.1 83 3 = nI 1 ∧ (e' = e → e = N ∨ ¬ (97 ≤ t e ∧ t e ≤ 122)) := by
  intro d
  induction d with
  | zero =>
    intro e m1 c1 he hae hp f1 x1 x1' f2 x2 x3 x4
    have H1 := TXx_f H f1 f2
    have N9 := H.1
    have sa := q_see (i := e) H1 (by omega)
    rw [if_neg (by omega)] at sa
    have le : N ≤ e := by omega
    refine ⟨e, m1, c1, Nat.le_refl _, by omega, hp, ?_, ?_, f1, x1, x1', f2, x2, x3, x4, fun _ => Or.inl (by omega)⟩
    · have eb : gX12_next_89b m1 = (gX12_next_116 m1).map (fun q => .inr q) := by
        unfold gX12_next_89b
        simp (disch := omega) only [n_lit, n_of, n_o1, nI_add, pk_mul, nI_ltI, nI_leI, nI_eq, ↓lift_lt, ↓k_mt, ↓k_mp, if_true, if_false, Bool.false_eq_true, Nat.not_lt_zero, Nat.zero_le, Nat.reduceEqDiff, Nat.reduceLeDiff, Nat.reduceLT, x1', sa, q_small_n]
      unfold gX12_next_89
      exact lpw_m eb
    · have eb : gX6_readWord_5b h c1 = some (.inr c1) := by
        unfold gX6_readWord_5b gX6_readWord_57
        simp (disch := omega) only [n_lit, n_of, n_o1, nI_add, pk_mul, nI_ltI, nI_leI, nI_eq, ↓lift_lt, ↓k_mt, ↓k_mp, if_true, if_false, Bool.false_eq_true, Nat.not_lt_zero, Nat.zero_le, Nat.reduceEqDiff, Nat.reduceLeDiff, Nat.reduceLT, H1.2.2.2.2.2.1, x2, le, Option.map_some]
      unfold gX6_readWord_5
      exact lpw_r eb
  | succ d ih =>
    intro e m1 c1 he hae hp f1 x1 x1' f2 x2 x3 x4
    have H1 := TXx_f H f1 f2
    have N9 := H.1
    have sa := q_see (i := e) H1 (by omega)
    rw [if_pos (by omega)] at sa
    have ct := c_txt (i := e) H1 (by omega)
    have tb := H.2.1 e
    have qs := q_small tb
    have sl := sgn_lt (n := t e) (k := 97) tb (by decide)
    have sg := sgn_gt (n := t e) (k := 122) tb (by decide)
    have nl : ¬ N ≤ e := by omega
    have i1 : ¬ (1 = 0) := by decide
    by_cases z : 97 ≤ t e ∧ t e ≤ 122
    · rw [if_pos z] at qs
      obtain ⟨e', m2, c2, g1, g2, g3, g4, g5, g6, g7, g8, g9, g10, g11, g12, g13⟩ := ih (e + 1) (mI m1 7 (nI (e + 1))) (cI c1 83 2 (nI (e + 1))) (by omega) (by omega) (fun i h1 h2 => by
        by_cases q : i = e
        · subst q; exact z
        · exact hp i h1 (by omega)) (mfn_I f1 (by omega)) (by rw [mI_f, if_neg (by decide)]; exact x1) (by rw [mI_f, if_pos rfl]) (cfn_I f2 (by decide)) (by rw [cI_1, if_pos rfl, if_pos rfl]) (by rw [cI_1, if_pos rfl, if_neg (by decide)]; exact x3) (by rw [cI_1, if_pos rfl, if_neg (by decide)]; exact x4)
      have l1 : ¬ (t e < 97 ∨ 128 ≤ t e) := by omega
      have l2 : ¬ (122 < t e ∧ t e < 128) := by omega
      refine ⟨e', m2, c2, by omega, g2, g3, ?_, ?_, g6, g7, g8, g9, g10, g11, g12, fun q => by omega⟩
      · rw [← g4]
        have eb : gX12_next_89b m1 = some (.inl (mI m1 7 (nI (e + 1)))) := by
          unfold gX12_next_89b
          simp (disch := omega) only [n_lit, n_of, n_o1, nI_add, pk_mul, nI_ltI, nI_leI, nI_eq, ↓lift_lt, ↓k_mt, ↓k_mp, if_true, if_false, Bool.false_eq_true, Nat.not_lt_zero, Nat.zero_le, Nat.reduceEqDiff, Nat.reduceLeDiff, Nat.reduceLT, x1', sa, qs, i1]
        unfold gX12_next_89
        exact lpw_l eb
      · rw [← g5]
        have eb : gX6_readWord_5b h c1 = some (.inl (cI c1 83 2 (nI (e + 1)))) := by
          unfold gX6_readWord_5b
          simp (disch := omega) only [n_lit, n_of, n_o1, nI_add, pk_mul, nI_ltI, nI_leI, nI_eq, ↓lift_lt, ↓k_mt, ↓k_mp, if_true, if_false, Bool.false_eq_true, Nat.not_lt_zero, Nat.zero_le, Nat.reduceEqDiff, Nat.reduceLeDiff, Nat.reduceLT, H1.2.2.2.2.2.1, x2, nl, H1.2.2.2.2.1, ct, sl, l1, sg, l2]
        unfold gX6_readWord_5
        exact lpw_l eb
    · rw [if_neg z] at qs
      refine ⟨e, m1, c1, Nat.le_refl _, by omega, hp, ?_, ?_, f1, x1, x1', f2, x2, x3, x4, fun _ => Or.inr z⟩
      · have eb : gX12_next_89b m1 = (gX12_next_116 m1).map (fun q => .inr q) := by
          unfold gX12_next_89b
          simp (disch := omega) only [n_lit, n_of, n_o1, nI_add, pk_mul, nI_ltI, nI_leI, nI_eq, ↓lift_lt, ↓k_mt, ↓k_mp, if_true, if_false, Bool.false_eq_true, Nat.not_lt_zero, Nat.zero_le, Nat.reduceEqDiff, Nat.reduceLeDiff, Nat.reduceLT, x1', sa, qs]
        unfold gX12_next_89
        exact lpw_m eb
      · have eb : gX6_readWord_5b h c1 = some (.inr c1) := by
          unfold gX6_readWord_5b gX6_readWord_57
          by_cases y : t e < 97 ∨ 128 ≤ t e
          · simp (disch := omega) only [n_lit, n_of, n_o1, nI_add, pk_mul, nI_ltI, nI_leI, nI_eq, ↓lift_lt, ↓k_mt, ↓k_mp, if_true, if_false, Bool.false_eq_true, Nat.not_lt_zero, Nat.zero_le, Nat.reduceEqDiff, Nat.reduceLeDiff, Nat.reduceLT, H1.2.2.2.2.2.1, x2, nl, H1.2.2.2.2.1, ct, sl, y, Option.map_some]
          · have y2 : 122 < t e ∧ t e < 128 := by omega
            simp (disch := omega) only [n_lit, n_of, n_o1, nI_add, pk_mul, nI_ltI, nI_leI, nI_eq, ↓lift_lt, ↓k_mt, ↓k_mp, if_true, if_false, Bool.false_eq_true, Nat.not_lt_zero, Nat.zero_le, Nat.reduceEqDiff, Nat.reduceLeDiff, Nat.reduceLT, H1.2.2.2.2.2.1, x2, nl, H1.2.2.2.2.1, ct, sl, y, sg, y2, and_self, Option.map_some]
        unfold gX6_readWord_5
        exact lpw_r eb
/-- a number -/
theorem tk_num (H : TXx t N m h c) {a : Nat} : ∀ d e nm m1 c1, e + d = N → a ≤ e → (e - a ≤ 3 → nm < 10 ^ (e - a)) → nm < 1000 → mfn m m1 → m1.1 6 = nI a → m1.1 7 = nI e → m1.1 10 = nI nm → cfn c c1 → c1.1 83 2 = nI e → c1.1 83 4 = nI a → c1.1 83 5 = nI nm → ∃ e' nm' m2 c2, e ≤ e' ∧ e' ≤ N ∧ nm' < 1000 ∧ gX12_next_146 m1 = gX12_next_209 m2 ∧ gX6_readNumber_5 h c1 = gX6_readNumber_101 h c2 ∧ mfn m m2 ∧ m2.1 6 = nI a ∧ m2.1 7 = nI e' ∧ m2.1 10 = nI nm' ∧ cfn c c2 ∧ c2.1 83 2 = nI e' ∧ c2.1 83 4 = nI a ∧ c2.1 83 5 = nI nm' ∧ (e' = e → e = N ∨ ¬ (48 ≤ t e ∧ t e ≤ 57)) := by
  intro d
  induction d with
  | zero =>
    intro e nm m1 c1 he hae hn hn2 f1 x1 x1' x10 f2 x2 x3 x5
    have H1 := TXx_f H f1 f2
    have N9 := H.1
    have sa := q_see (i := e) H1 (by omega)
    rw [if_neg (by omega)] at sa
    have le : N ≤ e := by omega
    refine ⟨e, nm, m1, c1, Nat.le_refl _, by omega, hn2, ?_, ?_, f1, x1, x1', x10, f2, x2, x3, x5, fun _ => Or.inl (by omega)⟩
    · have eb : gX12_next_146b m1 = (gX12_next_209 m1).map (fun q => .inr q) := by
        unfold gX12_next_146b
        simp (disch := omega) only [n_lit, n_of, n_o1, nI_add, pk_mul, nI_ltI, nI_leI, nI_eq, ↓lift_lt, ↓k_mt, ↓k_mp, if_true, if_false, Bool.false_eq_true, Nat.not_lt_zero, Nat.zero_le, Nat.reduceEqDiff, Nat.reduceLeDiff, Nat.reduceLT, x1', sa, q_digit_n]
      unfold gX12_next_146
      exact lpw_m eb
    · have eb : gX6_readNumber_5b h c1 = (gX6_readNumber_101 h c1).map (fun q => .inr q) := by
        unfold gX6_readNumber_5b
        simp (disch := omega) only [n_lit, n_of, n_o1, nI_add, pk_mul, nI_ltI, nI_leI, nI_eq, ↓lift_lt, ↓k_mt, ↓k_mp, if_true, if_false, Bool.false_eq_true, Nat.not_lt_zero, Nat.zero_le, Nat.reduceEqDiff, Nat.reduceLeDiff, Nat.reduceLT, H1.2.2.2.2.2.1, x2, le]
      unfold gX6_readNumber_5
      exact lpw_m eb
  | succ d ih =>
    intro e nm m1 c1 he hae hn hn2 f1 x1 x1' x10 f2 x2 x3 x5
    have H1 := TXx_f H f1 f2
    have N9 := H.1
    have sa := q_see (i := e) H1 (by omega)
    rw [if_pos (by omega)] at sa
    have ct := c_txt (i := e) H1 (by omega)
    have tb := H.2.1 e
    have qd := q_digit tb
    have sl := sgn_lt (n := t e) (k := 48) tb (by decide)
    have sg := sgn_gt (n := t e) (k := 57) tb (by decide)
    have nl : ¬ N ≤ e := by omega
    have i1 : ¬ (1 = 0) := by decide
    have sb : nI e - nI a = nI (e - a) := pk_sub hae
    by_cases z : 48 ≤ t e ∧ t e ≤ 57
    · rw [if_pos z] at qd
      have l1 : ¬ (t e < 48 ∨ 128 ≤ t e) := by omega
      have l2 : ¬ (57 < t e ∧ t e < 128) := by omega
      have sn : sgn (t e) = nI (t e) := (sgn_small _ tb).1 (by omega)
      by_cases y : 3 ≤ e - a
      · obtain ⟨e', nm', m2, c2, g1, g2, g3, g4, g5, g6⟩ := ih (e + 1) nm (mI m1 7 (nI (e + 1))) (cI (cI c1 83 5 (nI nm)) 83 2 (nI (e + 1))) (by omega) (by omega) (fun q => by omega) hn2 (mfn_I f1 (by omega)) (by rw [mI_f, if_neg (by decide)]; exact x1) (by rw [mI_f, if_pos rfl]) (by rw [mI_f, if_neg (by decide)]; exact x10) (cfn_I (cfn_I f2 (by decide)) (by decide)) (by rw [cI_1, if_pos rfl, if_pos rfl]) (by rw [cI_1, if_pos rfl, if_neg (by decide), cI_1, if_pos rfl, if_neg (by decide)]; exact x3) (by rw [cI_1, if_pos rfl, if_neg (by decide), cI_1, if_pos rfl, if_pos rfl])
        refine ⟨e', nm', m2, c2, by omega, g2, g3, ?_, ?_, g6.1, g6.2.1, g6.2.2.1, g6.2.2.2.1, g6.2.2.2.2.1, g6.2.2.2.2.2.1, g6.2.2.2.2.2.2.1, g6.2.2.2.2.2.2.2.1, fun q => by omega⟩
        · rw [← g4]
          have eb : gX12_next_146b m1 = some (.inl (mI m1 7 (nI (e + 1)))) := by
            unfold gX12_next_146b gX12_next_196
            simp (disch := omega) only [n_lit, n_of, n_o1, nI_add, pk_mul, nI_ltI, nI_leI, nI_eq, ↓lift_lt, ↓k_mt, ↓k_mp, if_true, if_false, Bool.false_eq_true, Nat.not_lt_zero, Nat.zero_le, Nat.reduceEqDiff, Nat.reduceLeDiff, Nat.reduceLT, x1', sa, qd, i1, x1, sb, y]
          unfold gX12_next_146
          exact lpw_l eb
        · rw [← g5]
          have w2 : (cI c1 83 5 (nI nm)).1 83 2 = nI e := by rw [cI_1, if_pos rfl, if_neg (by decide)]; exact x2
          have eb : gX6_readNumber_5b h c1 = some (.inl (cI (cI c1 83 5 (nI nm)) 83 2 (nI (e + 1)))) := by
            unfold gX6_readNumber_5b gX6_readNumber_85
            simp (disch := omega) only [n_lit, n_of, n_o1, nI_add, pk_mul, nI_ltI, nI_leI, nI_eq, ↓lift_lt, ↓k_mt, ↓k_mp, if_true, if_false, Bool.false_eq_true, Nat.not_lt_zero, Nat.zero_le, Nat.reduceEqDiff, Nat.reduceLeDiff, Nat.reduceLT, H1.2.2.2.2.2.1, x2, nl, H1.2.2.2.2.1, ct, sl, l1, sg, l2, x3, sb, y, x5, w2]
          unfold gX6_readNumber_5
          exact lpw_l eb
      · have hn' := hn (by omega)
        have p3 : 10 ^ (e - a + 1) ≤ 1000 := Nat.pow_le_pow_right (n := 10) (by decide) (show e - a + 1 ≤ 3 by omega)
        have p4 : 10 ^ (e - a + 1) = 10 ^ (e - a) * 10 := Nat.pow_succ 10 (e - a)
        have ns : nI (10 * nm + t e) - nI 48 = nI (10 * nm + t e - 48) := pk_sub (by omega)
        have nb : 10 * nm + t e - 48 < 10 ^ (e - a + 1) := by omega
        obtain ⟨e', nm', m2, c2, g1, g2, g3, g4, g5, g6⟩ := ih (e + 1) (10 * nm + t e - 48) (mI (mI m1 10 (nI (10 * nm + t e - 48))) 7 (nI (e + 1))) (cI (cI c1 83 5 (nI (10 * nm + t e - 48))) 83 2 (nI (e + 1))) (by omega) (by omega) (fun q => by rw [show e + 1 - a = e - a + 1 by omega]; exact nb) (by omega) (mfn_I (mfn_I f1 (by omega)) (by omega)) (by rw [mI_f, if_neg (by decide), mI_f, if_neg (by decide)]; exact x1) (by rw [mI_f, if_pos rfl]) (by rw [mI_f, if_neg (by decide), mI_f, if_pos rfl]) (cfn_I (cfn_I f2 (by decide)) (by decide)) (by rw [cI_1, if_pos rfl, if_pos rfl]) (by rw [cI_1, if_pos rfl, if_neg (by decide), cI_1, if_pos rfl, if_neg (by decide)]; exact x3) (by rw [cI_1, if_pos rfl, if_neg (by decide), cI_1, if_pos rfl, if_pos rfl])
        refine ⟨e', nm', m2, c2, by omega, g2, g3, ?_, ?_, g6.1, g6.2.1, g6.2.2.1, g6.2.2.2.1, g6.2.2.2.2.1, g6.2.2.2.2.2.1, g6.2.2.2.2.2.2.1, g6.2.2.2.2.2.2.2.1, fun q => by omega⟩
        · rw [← g4]
          have w7 : (mI m1 10 (nI (10 * nm + t e - 48))).1 7 = nI e := by rw [mI_f, if_neg (by decide)]; exact x1'
          have eb : gX12_next_146b m1 = some (.inl (mI (mI m1 10 (nI (10 * nm + t e - 48))) 7 (nI (e + 1)))) := by
            unfold gX12_next_146b gX12_next_196
            simp (disch := omega) only [n_lit, n_of, n_o1, nI_add, pk_mul, nI_ltI, nI_leI, nI_eq, ↓lift_lt, ↓k_mt, ↓k_mp, if_true, if_false, Bool.false_eq_true, Nat.not_lt_zero, Nat.zero_le, Nat.reduceEqDiff, Nat.reduceLeDiff, Nat.reduceLT, x1', sa, qd, i1, x1, sb, y, x10, ns, w7]
          unfold gX12_next_146
          exact lpw_l eb
        · rw [← g5]
          have w2 : (cI c1 83 5 (nI (10 * nm + t e - 48))).1 83 2 = nI e := by rw [cI_1, if_pos rfl, if_neg (by decide)]; exact x2
          have ns' : nI (nm * 10 + t e) - nI 48 = nI (10 * nm + t e - 48) := by rw [Nat.mul_comm nm 10]; exact ns
          have eb : gX6_readNumber_5b h c1 = some (.inl (cI (cI c1 83 5 (nI (10 * nm + t e - 48))) 83 2 (nI (e + 1)))) := by
            unfold gX6_readNumber_5b gX6_readNumber_85
            rw [sn] at ct sl sg
            simp (disch := omega) only [n_lit, n_of, n_o1, nI_add, pk_mul, nI_ltI, nI_leI, nI_eq, ↓lift_lt, ↓k_mt, ↓k_mp, if_true, if_false, Bool.false_eq_true, Nat.not_lt_zero, Nat.zero_le, Nat.reduceEqDiff, Nat.reduceLeDiff, Nat.reduceLT, H1.2.2.2.2.2.1, x2, nl, H1.2.2.2.2.1, ct, sl, l1, sg, l2, x3, sb, y, x5, ns', w2]
          unfold gX6_readNumber_5
          exact lpw_l eb
    · rw [if_neg z] at qd
      refine ⟨e, nm, m1, c1, Nat.le_refl _, by omega, hn2, ?_, ?_, f1, x1, x1', x10, f2, x2, x3, x5, fun _ => Or.inr z⟩
      · have eb : gX12_next_146b m1 = (gX12_next_209 m1).map (fun q => .inr q) := by
          unfold gX12_next_146b
          simp (disch := omega) only [n_lit, n_of, n_o1, nI_add, pk_mul, nI_ltI, nI_leI, nI_eq, ↓lift_lt, ↓k_mt, ↓k_mp, if_true, if_false, Bool.false_eq_true, Nat.not_lt_zero, Nat.zero_le, Nat.reduceEqDiff, Nat.reduceLeDiff, Nat.reduceLT, x1', sa, qd]
        unfold gX12_next_146
        exact lpw_m eb
      · have eb : gX6_readNumber_5b h c1 = (gX6_readNumber_101 h c1).map (fun q => .inr q) := by
          unfold gX6_readNumber_5b
          by_cases y : t e < 48 ∨ 128 ≤ t e
          · simp (disch := omega) only [n_lit, n_of, n_o1, nI_add, pk_mul, nI_ltI, nI_leI, nI_eq, ↓lift_lt, ↓k_mt, ↓k_mp, if_true, if_false, Bool.false_eq_true, Nat.not_lt_zero, Nat.zero_le, Nat.reduceEqDiff, Nat.reduceLeDiff, Nat.reduceLT, H1.2.2.2.2.2.1, x2, nl, H1.2.2.2.2.1, ct, sl, y]
          · have y2 : 57 < t e ∧ t e < 128 := by omega
            simp (disch := omega) only [n_lit, n_of, n_o1, nI_add, pk_mul, nI_ltI, nI_leI, nI_eq, ↓lift_lt, ↓k_mt, ↓k_mp, if_true, if_false, Bool.false_eq_true, Nat.not_lt_zero, Nat.zero_le, Nat.reduceEqDiff, Nat.reduceLeDiff, Nat.reduceLT, H1.2.2.2.2.2.1, x2, nl, H1.2.2.2.2.1, ct, sl, y, sg, y2, and_self]
        unfold gX6_readNumber_5
        exact lpw_m eb
/-- the signs, looked through -/
theorem q_signs {a : Nat} (H : TXx t N m h c) (ha : a < N) (h6 : m.1 6 = nI a) (h9 : m.1 9 = nI 25) : ∃ kd, gX12_next_254 m (nI 0) = some (mI m 9 (nI kd)) ∧ ((∃ k, k < 12 ∧ kd = 30 + k ∧ t a = (ks 3).getD k 0) ∨ (kd = 25 ∧ ∀ k, k < 12 → ¬ t a = (ks 3).getD k 0)) := by
  obtain ⟨s1, s2, s3, s4, -⟩ := sg_b
  have N9 := H.1
  have tb := H.2.1 a
  have mm : ∀ (m' : Mu) (y z : Int32), mI (mI m' 9 y) 9 z = mI m' 9 z := fun m' y z => by
    unfold mI
    refine Prod.ext ?_ rfl
    funext j
    show (if j = 9 then z else (if j = 9 then y else m'.1 j)) = (if j = 9 then z else m'.1 j)
    split <;> rfl
  have m9 : m = mI m 9 (nI 25) := by
    unfold mI
    refine Prod.ext ?_ rfl
    funext j
    show m.1 j = (if j = 9 then nI 25 else m.1 j)
    by_cases z : j = 9
    · rw [if_pos z, z, h9]
    · rw [if_neg z]
  have key : ∀ i, i ≤ 12 → ∃ kd, gX12_next_254 m (nI 0) = gX12_next_254 (mI m 9 (nI kd)) (nI i) ∧ ((∃ k, k < i ∧ kd = 30 + k ∧ t a = (ks 3).getD k 0) ∨ (kd = 25 ∧ ∀ k, k < i → ¬ t a = (ks 3).getD k 0)) := by
    intro i
    induction i with
    | zero => intro _; exact ⟨25, by rw [← m9], Or.inr ⟨rfl, fun k hk => by omega⟩⟩
    | succ i ih =>
      intro hi
      obtain ⟨kd, g1, g2⟩ := ih (by omega)
      obtain ⟨-, b2, b3, b4⟩ := s1 i (by omega)
      have i1 : ¬ 12 ≤ i := by omega
      have w6 : (mI m 9 (nI kd)).1 6 = nI a := by rw [mI_f, if_neg (by decide)]; exact h6
      have H1 : TXx t N (mI m 9 (nI kd)) h c := TXx_f H (mfn_I (mfn_rfl m) (by omega)) (cfn_rfl c)
      have sa := q_see (i := a) H1 (by omega)
      rw [if_pos ha] at sa
      by_cases z : t a = (ks 3).getD i 0
      · refine ⟨30 + i, ?_, Or.inl ⟨i, by omega, rfl, z⟩⟩
        rw [g1]
        have eb : gX12_next_254b (mI m 9 (nI kd)) (nI i) = some (.inl (nI (i + 1), mI (mI m 9 (nI kd)) 9 (nI (30 + i)))) := by
          unfold gX12_next_254b gX12_next_288
          rw [gT_y s4]
          simp (disch := omega) only [n_lit, n_of, n_o1, nI_add, pk_mul, nI_ltI, nI_leI, nI_eq, ↓lift_lt, ↓k_mt, ↓k_mp, if_true, if_false, Bool.false_eq_true, Nat.not_lt_zero, Nat.zero_le, Nat.reduceEqDiff, Nat.reduceLeDiff, Nat.reduceLT, s3, i1, w6, sa, gT_y s4, b3, eq_true z]
        rw [mm] at eb
        unfold gX12_next_254
        exact lpw_l eb
      · refine ⟨kd, ?_, ?_⟩
        · rw [g1]
          have eb : gX12_next_254b (mI m 9 (nI kd)) (nI i) = some (.inl (nI (i + 1), mI m 9 (nI kd))) := by
            unfold gX12_next_254b gX12_next_288
            rw [gT_y s4]
            simp (disch := omega) only [n_lit, n_of, n_o1, nI_add, pk_mul, nI_ltI, nI_leI, nI_eq, ↓lift_lt, ↓k_mt, ↓k_mp, if_true, if_false, Bool.false_eq_true, Nat.not_lt_zero, Nat.zero_le, Nat.reduceEqDiff, Nat.reduceLeDiff, Nat.reduceLT, s3, i1, w6, sa, gT_y s4, b3, z]
          unfold gX12_next_254
          exact lpw_l eb
        · rcases g2 with ⟨k, k1, k2, k3⟩ | ⟨k1, k2⟩
          · exact Or.inl ⟨k, by omega, k2, k3⟩
          · refine Or.inr ⟨k1, fun k hk => ?_⟩
            by_cases e : k = i
            · subst e; exact z
            · exact k2 k (by omega)
  obtain ⟨kd, g1, g2⟩ := key 12 (Nat.le_refl _)
  refine ⟨kd, ?_, g2⟩
  rw [g1]
  have eb : gX12_next_254b (mI m 9 (nI kd)) (nI 12) = some (.inr (mI m 9 (nI kd))) := by
    unfold gX12_next_254b gX12_next_294
    rw [gT_y s4]
    simp (disch := omega) only [n_lit, n_of, n_o1, nI_add, pk_mul, nI_ltI, nI_leI, nI_eq, ↓lift_lt, ↓k_mt, ↓k_mp, if_true, if_false, Bool.false_eq_true, Nat.not_lt_zero, Nat.zero_le, Nat.reduceEqDiff, Nat.reduceLeDiff, Nat.reduceLT, s3, Nat.le_refl, Option.map_some]
  unfold gX12_next_254
  exact lpw_r eb
theorem cont_1 {a : Nat} : cont t a (a + 1) = [t a] := by
  unfold cont
  rw [show a + 1 - a = 1 by omega]
  rfl
/-- both go on to the same token -/
theorem tk_next {b : Nat} (H : TXx t N m h c) (h7 : m.1 7 = nI b) (h2 : c.1 83 2 = nI b) (hb : b ≤ N) : ∃ (m' : Mu) (c' : Ch) (a' b' kd nm : Nat), gX12_next m = some m' ∧ gX6_advance h c = some c' ∧ mfn m m' ∧ cfn c c' ∧ TKx t N m' c' a' b' kd nm ∧ b ≤ a' := by
  have N9 := H.1
  obtain ⟨a, m2, c2, g1, g2, g3, g4, g5, g6, g7, g8⟩ := tk_skip H (N - b) b (mI m 6 (nI b)) c (by omega) (mfn_I (mfn_rfl m) (Or.inl rfl)) (by rw [mI_f, if_pos rfl]) (cfn_rfl c) h2
  have en : gX12_next m = gX12_next_47 m2 := by
    rw [← g3]
    unfold gX12_next
    simp (disch := omega) only [n_lit, n_of, n_o1, nI_add, pk_mul, nI_ltI, nI_leI, nI_eq, ↓lift_lt, ↓k_mt, ↓k_mp, if_true, if_false, Bool.false_eq_true, Nat.not_lt_zero, Nat.zero_le, Nat.reduceEqDiff, Nat.reduceLeDiff, Nat.reduceLT, h7]
  rw [en, g4]
  obtain ⟨m5, em5⟩ : ∃ m5, m5 = mI m2 7 (nI a) := ⟨_, rfl⟩
  obtain ⟨c5, ec5⟩ : ∃ c5, c5 = cI c2 83 4 (nI a) := ⟨_, rfl⟩
  have f5 : mfn m m5 := by rw [em5]; exact mfn_I g5 (by omega)
  have k5 : cfn c c5 := by rw [ec5]; exact cfn_I g7 (by decide)
  have H5 := TXx_f H f5 k5
  have y6 : m5.1 6 = nI a := by rw [em5, mI_f, if_neg (by decide)]; exact g6
  have y7 : m5.1 7 = nI a := by rw [em5, mI_f, if_pos rfl]
  have y8 : m5.1 8 = nI N := H5.2.2.1
  have z4 : c5.1 83 4 = nI a := by rw [ec5, cI_1, if_pos rfl, if_pos rfl]
  have z2 : c5.1 83 2 = nI a := by rw [ec5, cI_1, if_pos rfl, if_neg (by decide)]; exact g8
  have z1 : c5.1 83 1 = nI N := H5.2.2.2.2.2.1
  have z0 : c5.2.2.1 83 0 = some 81 := H5.2.2.2.2.1
  have i1 : ¬ (1 = 0) := by decide
  by_cases zN : a < N
  · have sa := q_see (i := a) H5 (by omega)
    rw [if_pos zN] at sa
    have ct := c_txt (i := a) H5 zN
    have tb := H.2.1 a
    have qs := q_small tb
    have qd := q_digit tb
    have l97 := sgn_lt (n := t a) (k := 97) tb (by decide)
    have g122 := sgn_gt (n := t a) (k := 122) tb (by decide)
    have l48 := sgn_lt (n := t a) (k := 48) tb (by decide)
    have g57 := sgn_gt (n := t a) (k := 57) tb (by decide)
    by_cases zs : 97 ≤ t a ∧ t a ≤ 122
    · -- a word
      rw [if_pos zs] at qs
      have u1 : ¬ (t a < 97 ∨ 128 ≤ t a) := by omega
      have u2 : ¬ (122 < t a ∧ t a < 128) := by omega
      obtain ⟨e, m6, c6, w1, w2, w3, w4, w5, w6, w7, w8, w9, w10, w11, w12, w13⟩ := tk_word H (a := a) (N - a) a m5 (cI c5 83 3 (nI 1)) (by omega) (Nat.le_refl _) (fun i h1 h2 => by omega) f5 y6 y7 (cfn_I k5 (by decide)) (by rw [cI_1, if_pos rfl, if_neg (by decide)]; exact z2) (by rw [cI_1, if_pos rfl, if_neg (by decide)]; exact z4) (by rw [cI_1, if_pos rfl, if_pos rfl])
      have ae : a < e := by
        apply Classical.byContradiction
        intro hc
        have := w13 (by omega)
        omega
      have H6 := TXx_f H w6 w9
      obtain ⟨kd, q1, q2⟩ := q_keyAt H6 w7 w8 (by omega) w2
      have kb : kd ≤ 22 := by omega
      refine ⟨mI m6 9 (nI kd), c6, a, e, kd, 0, ?_, ?_, mfn_I w6 (by omega), w9, ⟨by rw [mI_f, if_neg (by decide)]; exact w7, by rw [mI_f, if_neg (by decide)]; exact w8, by rw [mI_f, if_pos rfl], w11, w10, by rw [w12, show ckd kd = 1 from if_pos kb], fun q => by omega, w2, Or.inr ⟨ae, ?_⟩⟩, by omega⟩
      · have e116 : gX12_next_89 m5 = some (mI m6 9 (nI kd)) := by
          rw [w4]
          unfold gX12_next_116 gX12_next_294
          simp (disch := omega) only [n_lit, n_of, n_o1, nI_add, pk_mul, nI_ltI, nI_leI, nI_eq, ↓lift_lt, ↓k_mt, ↓k_mp, if_true, if_false, Bool.false_eq_true, Nat.not_lt_zero, Nat.zero_le, Nat.reduceEqDiff, Nat.reduceLeDiff, Nat.reduceLT, q1]
        have em5' : mI m2 7 (m2.1 6) = m5 := by rw [em5, g6]
        unfold gX12_next_47
        simp (disch := omega) only [n_lit, n_of, n_o1, nI_add, pk_mul, nI_ltI, nI_leI, nI_eq, ↓lift_lt, ↓k_mt, ↓k_mp, if_true, if_false, Bool.false_eq_true, Nat.not_lt_zero, Nat.zero_le, Nat.reduceEqDiff, Nat.reduceLeDiff, Nat.reduceLT, em5', y6, y8, zN, sa, qs, i1, e116]
      · have ec5' : cI c2 83 4 (c2.1 83 2) = c5 := by rw [ec5, g8]
        have er : gX6_readWord h c5 = some c6 := by
          unfold gX6_readWord
          simp (disch := omega) only [n_lit, n_of, n_o1, nI_add, pk_mul, nI_ltI, nI_leI, nI_eq, ↓lift_lt, ↓k_mt, ↓k_mp, if_true, if_false, Bool.false_eq_true, Nat.not_lt_zero, Nat.zero_le, Nat.reduceEqDiff, Nat.reduceLeDiff, Nat.reduceLT, w5]
        unfold gX6_advance_52 gX6_advance_198
        simp (disch := omega) only [n_lit, n_of, n_o1, nI_add, pk_mul, nI_ltI, nI_leI, nI_eq, ↓lift_lt, ↓k_mt, ↓k_mp, if_true, if_false, Bool.false_eq_true, Nat.not_lt_zero, Nat.zero_le, Nat.reduceEqDiff, Nat.reduceLeDiff, Nat.reduceLT, ec5', z2, z1, zN, z0, ct, l97, u1, g122, u2, er]
      · rcases q2 with ⟨q3, q4⟩ | ⟨q3, q4⟩
        · refine Or.inl ⟨?_, q4⟩
          unfold vk
          simp only [Bool.or_eq_true, decide_eq_true_eq]
          exact Or.inl q3
        · refine Or.inr (Or.inl ⟨q3, fun k hk w => ?_⟩)
          rcases kt_sm k (vk_lt hk) hk with ⟨p1, -⟩ | ⟨p1, p2, p3⟩
          · exact q4 k p1 w
          · have e0 := (cont_eq.mp w).2 0 (by omega)
            have mem : (kt k).getD 0 0 ∈ kt k := by
              rw [List.getD_eq_getElem?_getD, List.getElem?_eq_getElem (show 0 < (kt k).length by omega)]
              exact List.getElem_mem _
            have := p3 _ mem
            rw [← e0, Nat.add_zero] at this
            omega
    · rw [if_neg zs] at qs
      by_cases zd : 48 ≤ t a ∧ t a ≤ 57
      · -- a number
        rw [if_pos zd] at qd
        have u1 : t a < 97 ∨ 128 ≤ t a := by omega
        have u3 : ¬ (t a < 48 ∨ 128 ≤ t a) := by omega
        have u4 : ¬ (57 < t a ∧ t a < 128) := by omega
        obtain ⟨e, nm, m6, c6, w1, w2, w3, w4, w5, w6, w7, w8, w9, w10, w11, w12, w13, w14⟩ := tk_num H (a := a) (N - a) a 0 (mI m5 10 (nI 0)) (cI c5 83 5 (nI 0)) (by omega) (Nat.le_refl _) (fun _ => Nat.pow_pos (by decide)) (by decide) (mfn_I f5 (by omega)) (by rw [mI_f, if_neg (by decide)]; exact y6) (by rw [mI_f, if_neg (by decide)]; exact y7) (by rw [mI_f, if_pos rfl]) (cfn_I k5 (by decide)) (by rw [cI_1, if_pos rfl, if_neg (by decide)]; exact z2) (by rw [cI_1, if_pos rfl, if_neg (by decide)]; exact z4) (by rw [cI_1, if_pos rfl, if_pos rfl])
        have ae : a < e := by
          apply Classical.byContradiction
          intro hc
          have := w14 (by omega)
          omega
        have sb : nI e - nI a = nI (e - a) := pk_sub (by omega)
        have em5' : mI m2 7 (m2.1 6) = m5 := by rw [em5, g6]
        have ec5' : cI c2 83 4 (c2.1 83 2) = c5 := by rw [ec5, g8]
        have e47 : gX12_next_47 m2 = gX12_next_209 m6 := by
          rw [← w4]
          unfold gX12_next_47
          simp (disch := omega) only [n_lit, n_of, n_o1, nI_add, pk_mul, nI_ltI, nI_leI, nI_eq, ↓lift_lt, ↓k_mt, ↓k_mp, if_true, if_false, Bool.false_eq_true, Nat.not_lt_zero, Nat.zero_le, Nat.reduceEqDiff, Nat.reduceLeDiff, Nat.reduceLT, em5', y6, y8, zN, sa, qs, qd, i1]
        have er : gX6_readNumber h c5 = gX6_readNumber_101 h c6 := by
          rw [← w5]
          unfold gX6_readNumber
          simp (disch := omega) only [n_lit, n_of, n_o1, nI_add, pk_mul, nI_ltI, nI_leI, nI_eq, ↓lift_lt, ↓k_mt, ↓k_mp, if_true, if_false, Bool.false_eq_true, Nat.not_lt_zero, Nat.zero_le]
        have e52 : gX6_advance_52 h c2 = (gX6_readNumber_101 h c6).bind fun y => some y := by
          rw [← er]
          unfold gX6_advance_52 gX6_advance_114 gX6_advance_198
          simp (disch := omega) only [n_lit, n_of, n_o1, nI_add, pk_mul, nI_ltI, nI_leI, nI_eq, ↓lift_lt, ↓k_mt, ↓k_mp, if_true, if_false, Bool.false_eq_true, Nat.not_lt_zero, Nat.zero_le, Nat.reduceEqDiff, Nat.reduceLeDiff, Nat.reduceLT, ec5', z2, z1, zN, z0, ct, l97, u1, l48, u3, g57, u4]
        rw [e47, e52]
        by_cases y3 : e - a ≤ 3
        · refine ⟨mI m6 9 (nI 23), cI c6 83 3 (nI 2), a, e, 23, nm, ?_, ?_, mfn_I w6 (by omega), cfn_I w10 (by decide), ⟨by rw [mI_f, if_neg (by decide)]; exact w7, by rw [mI_f, if_neg (by decide)]; exact w8, by rw [mI_f, if_pos rfl], by rw [cI_1, if_pos rfl, if_neg (by decide)]; exact w12, by rw [cI_1, if_pos rfl, if_neg (by decide)]; exact w11, by rw [cI_1, if_pos rfl, if_pos rfl]; rfl, fun _ => ⟨by rw [mI_f, if_neg (by decide)]; exact w9, by rw [cI_1, if_pos rfl, if_neg (by decide)]; exact w13, w3⟩, w2, Or.inr ⟨ae, Or.inr (Or.inr (Or.inl rfl))⟩⟩, by omega⟩
          · unfold gX12_next_209 gX12_next_230 gX12_next_294
            simp (disch := omega) only [n_lit, n_of, n_o1, nI_add, pk_mul, nI_ltI, nI_leI, nI_eq, ↓lift_lt, ↓k_mt, ↓k_mp, if_true, if_false, Bool.false_eq_true, Nat.not_lt_zero, Nat.zero_le, Nat.reduceEqDiff, Nat.reduceLeDiff, Nat.reduceLT, w8, w7, sb, y3]
          · unfold gX6_readNumber_101 gX6_readNumber_120
            simp (disch := omega) only [n_lit, n_of, n_o1, nI_add, pk_mul, nI_ltI, nI_leI, nI_eq, ↓lift_lt, ↓k_mt, ↓k_mp, if_true, if_false, Bool.false_eq_true, Nat.not_lt_zero, Nat.zero_le, Nat.reduceEqDiff, Nat.reduceLeDiff, Nat.reduceLT, w11, w12, sb, y3]
        · refine ⟨mI m6 9 (nI 25), cI c6 83 3 (nI 4), a, e, 25, nm, ?_, ?_, mfn_I w6 (by omega), cfn_I w10 (by decide), ⟨by rw [mI_f, if_neg (by decide)]; exact w7, by rw [mI_f, if_neg (by decide)]; exact w8, by rw [mI_f, if_pos rfl], by rw [cI_1, if_pos rfl, if_neg (by decide)]; exact w12, by rw [cI_1, if_pos rfl, if_neg (by decide)]; exact w11, by rw [cI_1, if_pos rfl, if_pos rfl]; rfl, fun q => by omega, w2, Or.inr ⟨ae, Or.inr (Or.inr (Or.inr rfl))⟩⟩, by omega⟩
          · unfold gX12_next_209 gX12_next_230 gX12_next_294
            simp (disch := omega) only [n_lit, n_of, n_o1, nI_add, pk_mul, nI_ltI, nI_leI, nI_eq, ↓lift_lt, ↓k_mt, ↓k_mp, if_true, if_false, Bool.false_eq_true, Nat.not_lt_zero, Nat.zero_le, Nat.reduceEqDiff, Nat.reduceLeDiff, Nat.reduceLT, w8, w7, sb, y3]
          · unfold gX6_readNumber_101 gX6_readNumber_120
            simp (disch := omega) only [n_lit, n_of, n_o1, nI_add, pk_mul, nI_ltI, nI_leI, nI_eq, ↓lift_lt, ↓k_mt, ↓k_mp, if_true, if_false, Bool.false_eq_true, Nat.not_lt_zero, Nat.zero_le, Nat.reduceEqDiff, Nat.reduceLeDiff, Nat.reduceLT, w11, w12, sb, y3]
      · -- a sign, or nothing
        rw [if_neg zd] at qd
        obtain ⟨m6, em6⟩ : ∃ m6, m6 = mI (mI m5 7 (nI (a + 1))) 9 (nI 25) := ⟨_, rfl⟩
        have f6 : mfn m m6 := by rw [em6]; exact mfn_I (mfn_I f5 (by omega)) (by omega)
        have H6 := TXx_f H f6 k5
        have x6 : m6.1 6 = nI a := by rw [em6, mI_f, if_neg (by decide), mI_f, if_neg (by decide)]; exact y6
        have x7 : m6.1 7 = nI (a + 1) := by rw [em6, mI_f, if_neg (by decide), mI_f, if_pos rfl]
        have x9 : m6.1 9 = nI 25 := by rw [em6, mI_f, if_pos rfl]
        obtain ⟨kd, q1, q2⟩ := q_signs H6 zN x6 x9
        have em5' : mI m2 7 (m2.1 6) = m5 := by rw [em5, g6]
        have em6' : mI (mI m5 7 (nI (a + 1))) 9 (nI 25) = m6 := em6.symm
        have e47 : gX12_next_47 m2 = some (mI m6 9 (nI kd)) := by
          unfold gX12_next_47
          simp (disch := omega) only [n_lit, n_of, n_o1, nI_add, pk_mul, nI_ltI, nI_leI, nI_eq, ↓lift_lt, ↓k_mt, ↓k_mp, if_true, if_false, Bool.false_eq_true, Nat.not_lt_zero, Nat.zero_le, Nat.reduceEqDiff, Nat.reduceLeDiff, Nat.reduceLT, em5', y6, y8, zN, sa, qs, qd, y7, em6', q1]
        have ec5' : cI c2 83 4 (c2.1 83 2) = c5 := by rw [ec5, g8]
        have e149 : gX6_advance_52 h c2 = gX6_advance_149 h c5 := by
          unfold gX6_advance_52 gX6_advance_114
          by_cases v1 : t a < 97 ∨ 128 ≤ t a
          · by_cases v2 : t a < 48 ∨ 128 ≤ t a
            · simp (disch := omega) only [n_lit, n_of, n_o1, nI_add, pk_mul, nI_ltI, nI_leI, nI_eq, ↓lift_lt, ↓k_mt, ↓k_mp, if_true, if_false, Bool.false_eq_true, Nat.not_lt_zero, Nat.zero_le, Nat.reduceEqDiff, Nat.reduceLeDiff, Nat.reduceLT, ec5', z2, z1, zN, z0, ct, l97, v1, l48, v2]
            · have v3 : 57 < t a ∧ t a < 128 := by omega
              simp (disch := omega) only [n_lit, n_of, n_o1, nI_add, pk_mul, nI_ltI, nI_leI, nI_eq, ↓lift_lt, ↓k_mt, ↓k_mp, if_true, if_false, Bool.false_eq_true, Nat.not_lt_zero, Nat.zero_le, Nat.reduceEqDiff, Nat.reduceLeDiff, Nat.reduceLT, ec5', z2, z1, zN, z0, ct, l97, v1, l48, v2, g57, v3, and_self]
          · have v4 : 122 < t a ∧ t a < 128 := by omega
            by_cases v2 : t a < 48 ∨ 128 ≤ t a
            · omega
            · have v3 : 57 < t a ∧ t a < 128 := by omega
              simp (disch := omega) only [n_lit, n_of, n_o1, nI_add, pk_mul, nI_ltI, nI_leI, nI_eq, ↓lift_lt, ↓k_mt, ↓k_mp, if_true, if_false, Bool.false_eq_true, Nat.not_lt_zero, Nat.zero_le, Nat.reduceEqDiff, Nat.reduceLeDiff, Nat.reduceLT, ec5', z2, z1, zN, z0, ct, l97, v1, g122, v4, l48, v2, g57, v3, and_self]
        have e185 : ∀ y : Nat, gX6_advance_185 h c5 (nI y) = some (cI (cI c5 83 3 (nI y)) 83 2 (nI (a + 1))) := fun y => by
          have w2 : (cI c5 83 3 (nI y)).1 83 2 = nI a := by rw [cI_1, if_pos rfl, if_neg (by decide)]; exact z2
          unfold gX6_advance_185 gX6_advance_198
          simp (disch := omega) only [n_lit, n_of, n_o1, nI_add, pk_mul, nI_ltI, nI_leI, nI_eq, ↓lift_lt, ↓k_mt, ↓k_mp, if_true, if_false, Bool.false_eq_true, Nat.not_lt_zero, Nat.zero_le, Nat.reduceEqDiff, Nat.reduceLeDiff, Nat.reduceLT, w2]
        have cls : gX6_advance_149 h c5 = some (cI (cI c5 83 3 (nI (ckd kd))) 83 2 (nI (a + 1))) := by
          by_cases v0 : t a < 128
          · have sn : sgn (t a) = nI (t a) := (sgn_small _ tb).1 v0
            rw [sn] at ct
            by_cases v1 : t a ≤ 0
            · have kd25 : kd = 25 := by
                rcases q2 with ⟨k, k1, k2, k3⟩ | ⟨k1, -⟩
                · have := (sg_b.1 k k1).2.2.2
                  omega
                · exact k1
              subst kd25
              have e4 := e185 4
              unfold gX6_advance_149 gX6_advance_184
              simp (disch := omega) only [n_lit, n_of, n_o1, nI_add, pk_mul, nI_ltI, nI_leI, nI_eq, ↓lift_lt, ↓k_mt, ↓k_mp, if_true, if_false, Bool.false_eq_true, Nat.not_lt_zero, Nat.zero_le, Nat.reduceEqDiff, Nat.reduceLeDiff, Nat.reduceLT, z0, z2, ct, v1]
              exact e4
            · obtain ⟨y, ey, hy⟩ := x_ixo v0
              have c16' := (c16 _ v0).1
              rcases hy with ⟨k, k1, k2, k3⟩ | ⟨k1, k2⟩
              · have kde : kd = 30 + k := by
                  rcases q2 with ⟨k', p1, p2, p3⟩ | ⟨p1, p2⟩
                  · have := sg_b.2.1 k k1 k' p1 (by rw [← k2, ← p3])
                    omega
                  · exact absurd k2 (p2 k k1)
                have ck : ckd kd = 3 := by
                  unfold ckd
                  rw [if_neg (by omega), if_neg (by omega), if_neg (by omega), if_neg (by omega)]
                have e3 := e185 3
                subst k3
                rw [ck]
                unfold gX6_advance_149 gX6_advance_184
                simp (disch := omega) only [n_lit, n_of, n_o1, nI_add, pk_mul, nI_ltI, nI_leI, nI_eq, ↓lift_lt, ↓k_mt, ↓k_mp, if_true, if_false, Bool.false_eq_true, Nat.not_lt_zero, Nat.zero_le, Nat.reduceEqDiff, Nat.reduceLeDiff, Nat.reduceLT, z0, z2, ct, v1, gT_y sg_b.2.2.2.2.1, c16', ey]
                exact e3
              · have kd25 : kd = 25 := by
                  rcases q2 with ⟨k', p1, p2, p3⟩ | ⟨p1, p2⟩
                  · exact absurd p3 (k1 k' p1)
                  · exact p1
                subst kd25
                have lm : (-nI 1 < nI 0) = True := eq_true (by decide)
                have e4 := e185 4
                subst k2
                unfold gX6_advance_149 gX6_advance_184
                simp (disch := omega) only [n_lit, n_of, n_o1, nI_add, pk_mul, nI_ltI, nI_leI, nI_eq, ↓lift_lt, ↓k_mt, ↓k_mp, if_true, if_false, Bool.false_eq_true, Nat.not_lt_zero, Nat.zero_le, Nat.reduceEqDiff, Nat.reduceLeDiff, Nat.reduceLT, z0, z2, ct, v1, gT_y sg_b.2.2.2.2.1, c16', ey, lm]
                exact e4
          · have kd25 : kd = 25 := by
              rcases q2 with ⟨k, k1, k2, k3⟩ | ⟨k1, -⟩
              · have := (sg_b.1 k k1).2.1
                omega
              · exact k1
            subst kd25
            have ng : sgn (t a) ≤ nI 0 := by
              have := (sgn_small _ tb).2 (by omega)
              rw [Int32.lt_iff_toInt_lt] at this
              rw [Int32.le_iff_toInt_le]
              omega
            have e4 := e185 4
            unfold gX6_advance_149 gX6_advance_184
            simp (disch := omega) only [n_lit, n_of, n_o1, nI_add, pk_mul, nI_ltI, nI_leI, nI_eq, ↓lift_lt, ↓k_mt, ↓k_mp, if_true, if_false, Bool.false_eq_true, Nat.not_lt_zero, Nat.zero_le, Nat.reduceEqDiff, Nat.reduceLeDiff, Nat.reduceLT, z0, z2, ct, ng]
            exact e4
        rw [e47, e149, cls]
        refine ⟨mI m6 9 (nI kd), _, a, a + 1, kd, 0, rfl, rfl, mfn_I f6 (by omega), cfn_I (cfn_I k5 (by decide)) (by decide), ⟨by rw [mI_f, if_neg (by decide)]; exact x6, by rw [mI_f, if_neg (by decide)]; exact x7, by rw [mI_f, if_pos rfl], by rw [cI_1, if_pos rfl, if_neg (by decide), cI_1, if_pos rfl, if_neg (by decide)]; exact z4, by rw [cI_1, if_pos rfl, if_pos rfl], by rw [cI_1, if_pos rfl, if_neg (by decide), cI_1, if_pos rfl, if_pos rfl], fun q => by omega, by omega, Or.inr ⟨by omega, ?_⟩⟩, by omega⟩
        rcases q2 with ⟨k, k1, k2, k3⟩ | ⟨k1, -⟩
        · refine Or.inl ⟨?_, ?_⟩
          · unfold vk
            simp only [Bool.or_eq_true, Bool.and_eq_true, decide_eq_true_eq]
            omega
          · rw [cont_1, k3, k2]
            unfold kt
            rw [if_neg (by omega), show 30 + k - 30 = k by omega]
        · exact Or.inr (Or.inr (Or.inr k1))
  · -- the end
    have em5' : mI m2 7 (m2.1 6) = m5 := by rw [em5, g6]
    have ec5' : cI c2 83 4 (c2.1 83 2) = c5 := by rw [ec5, g8]
    have aN : a = N := by omega
    refine ⟨mI m5 9 (nI 24), cI c5 83 3 (nI 0), a, a, 24, 0, ?_, ?_, mfn_I f5 (by omega), cfn_I k5 (by decide), ⟨by rw [mI_f, if_neg (by decide)]; exact y6, by rw [mI_f, if_neg (by decide)]; exact y7, by rw [mI_f, if_pos rfl], by rw [cI_1, if_pos rfl, if_neg (by decide)]; exact z4, by rw [cI_1, if_pos rfl, if_neg (by decide)]; exact z2, by rw [cI_1, if_pos rfl, if_pos rfl]; rfl, fun q => by omega, by omega, Or.inl ⟨rfl, aN, aN⟩⟩, g1⟩
    · unfold gX12_next_47 gX12_next_294
      simp (disch := omega) only [n_lit, n_of, n_o1, nI_add, pk_mul, nI_ltI, nI_leI, nI_eq, ↓lift_lt, ↓k_mt, ↓k_mp, if_true, if_false, Bool.false_eq_true, Nat.not_lt_zero, Nat.zero_le, Nat.reduceEqDiff, Nat.reduceLeDiff, Nat.reduceLT, em5', y6, y8, zN]
    · unfold gX6_advance_52 gX6_advance_198
      simp (disch := omega) only [n_lit, n_of, n_o1, nI_add, pk_mul, nI_ltI, nI_leI, nI_eq, ↓lift_lt, ↓k_mt, ↓k_mp, if_true, if_false, Bool.false_eq_true, Nat.not_lt_zero, Nat.zero_le, Nat.reduceEqDiff, Nat.reduceLeDiff, Nat.reduceLT, ec5', z2, z1, zN]
end TOK
