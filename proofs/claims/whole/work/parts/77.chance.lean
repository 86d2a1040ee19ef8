/-! how likely: what all rows of dry years weigh together -/
theorem gcd_st (a b : Nat) : Nat.gcd a b = Nat.gcd b (a % b) := by
  rw [Nat.gcd_comm a b, Nat.gcd_rec b a, Nat.gcd_comm]
theorem half2 {b r : Nat} (h0 : 0 < r) (h : r ≤ b) : 2 * (b % r) < b := by
  have h1 := Nat.mod_lt b h0
  have h2 : b % r ≤ b - r := by rw [Nat.mod_eq_sub_mod h]; exact Nat.mod_le _ _
  omega
theorem q_common_0 (f a : Nat) : grX12_common (f + 1) 0 (nI a) (nI 0) = some (nI a) := by
  show gX12_common (grX12_common f) (nI a) (nI 0) = _
  unfold gX12_common gX12_common_15
  simp (disch := omega) only [n_lit, n_of, n_o1, nI_add, pk_mul, nI_ltI, nI_leI, nI_eq, ↓lift_lt, ↓k_mt, ↓k_mp, if_true, if_false, Bool.false_eq_true, Nat.not_lt_zero, Nat.zero_le]
theorem q_common_s {f a b : Nat} (ha : a < 2 ^ 31) (h0 : 0 < b) (hb : b < 2 ^ 31) : grX12_common (f + 1) 0 (nI a) (nI b) = grX12_common f 0 (nI b) (nI (a % b)) := by
  show gX12_common (grX12_common f) (nI a) (nI b) = _
  have b0 : ¬ b = 0 := by omega
  unfold gX12_common gX12_common_15
  simp (disch := omega) only [n_lit, n_of, n_o1, nI_add, pk_mul, nI_ltI, nI_leI, nI_eq, ↓lift_lt, ↓k_mt, ↓k_mp, if_true, if_false, Bool.false_eq_true, Nat.not_lt_zero, Nat.zero_le, Nat.reduceEqDiff, Nat.reduceLeDiff, Nat.reduceLT, b0, n_rm]
  cases grX12_common f 0 (nI b) (nI (a % b)) <;> rfl
theorem q_common : ∀ (k f a b : Nat), a < 2 ^ 31 → b < 2 ^ 31 → b < 2 ^ k → grX12_common (2 * k + 1 + f) 0 (nI a) (nI b) = some (nI (Nat.gcd a b))
  | 0, f, a, b, ha, hb, hk => by
    have b0 : b = 0 := by omega
    subst b0
    rw [show 2 * 0 + 1 + f = f + 1 by omega, q_common_0, Nat.gcd_zero_right]
  | k + 1, f, a, b, ha, hb, hk => by
    rw [show 2 * (k + 1) + 1 + f = (2 * k + 1 + f) + 1 + 1 by omega]
    by_cases b0 : b = 0
    · subst b0
      rw [q_common_0, Nat.gcd_zero_right]
    · have hr : a % b < b := Nat.mod_lt _ (by omega)
      rw [q_common_s ha (by omega) hb, gcd_st a b]
      by_cases r0 : a % b = 0
      · rw [r0, q_common_0, Nat.gcd_zero_right]
      · have h2 := half2 (b := b) (r := a % b) (by omega) (by omega)
        rw [q_common_s hb (by omega) (by omega), gcd_st b (a % b)]
        have h3 : b % (a % b) < 2 ^ k := by
          have : 2 ^ (k + 1) = 2 * 2 ^ k := by rw [Nat.pow_succ, Nat.mul_comm]
          omega
        exact q_common k f (a % b) (b % (a % b)) (by omega) (by omega) h3
def prt (a w what : Nat) : Nat := (if what = 0 then a else w) / Nat.gcd a w
theorem q_part {a w what : Nat} (ha : a < 2 ^ 31) (h0 : 0 < w) (hw : w < 2 ^ 31) (hh : what < 2) : gX12_part (lN a) (nI w) (nI what) = some (nI (prt a w what)) := by
  have g0 : 0 < Nat.gcd a w := Nat.gcd_pos_of_pos_right _ h0
  have g1 : Nat.gcd a w ≤ w := Nat.gcd_le_right _ h0
  have e := q_common 31 37 a w ha hw hw
  rw [show 2 * 31 + 1 + 37 = 100 from rfl] at e
  unfold gX12_part gX12_part_14 prt
  by_cases z : what = 0
  · rw [if_pos z]
    simp (disch := omega) only [n_lit, n_of, n_o1, nI_add, pk_mul, nI_ltI, nI_leI, nI_eq, ↓lift_lt, ↓k_mt, ↓k_mp, if_true, if_false, Bool.false_eq_true, Nat.not_lt_zero, Nat.zero_le, Nat.reduceEqDiff, Nat.reduceLeDiff, Nat.reduceLT, z, lN_i, e, n_dv]
  · rw [if_neg z]
    simp (disch := omega) only [n_lit, n_of, n_o1, nI_add, pk_mul, nI_ltI, nI_leI, nI_eq, ↓lift_lt, ↓k_mt, ↓k_mp, if_true, if_false, Bool.false_eq_true, Nat.not_lt_zero, Nat.zero_le, Nat.reduceEqDiff, Nat.reduceLeDiff, Nat.reduceLT, z, lN_i, e, n_dv]
theorem c_fp44 {a w what g : Nat} (ha : a < 2 ^ 31) (hw : w < 2 ^ 31) (hg : 0 < g) (hg2 : g < 2 ^ 31) (hh : what < 2) : gX11_fractionPart_44 (lN a) (lN w) (nI what) (lN g) = some (nI ((if what = 0 then a else w) / g)) := by
  have g0 : ¬ (lg_cmp (lN g) (lN 0) = nI 0) := fun q => by
    have := (pk_lEQ (by omega) (by omega)).mp ((lg_e' _ _).mp q)
    omega
  have g3 : ¬ lN g = lN 0 := fun q => by
    have := (pk_lEQ (by omega) (by omega)).mp q
    omega
  unfold gX11_fractionPart_44 gX11_fractionPart_63 dvl
  by_cases z : what = 0
  · rw [if_pos z]
    have d := pk_lDiv (a := a) (b := g) (by omega) hg (by omega)
    simp (disch := omega) only [n_lit, n_of, n_o1, nI_add, pk_mul, nI_ltI, nI_leI, nI_eq, ↓lift_lt, ↓k_mt, ↓k_mp, if_true, if_false, Bool.false_eq_true, Nat.not_lt_zero, Nat.zero_le, Nat.reduceEqDiff, Nat.reduceLeDiff, Nat.reduceLT, n_litL, z, g0, g3, d, lN_i]
  · rw [if_neg z]
    have d := pk_lDiv (a := w) (b := g) (by omega) hg (by omega)
    simp (disch := omega) only [n_lit, n_of, n_o1, nI_add, pk_mul, nI_ltI, nI_leI, nI_eq, ↓lift_lt, ↓k_mt, ↓k_mp, if_true, if_false, Bool.false_eq_true, Nat.not_lt_zero, Nat.zero_le, Nat.reduceEqDiff, Nat.reduceLeDiff, Nat.reduceLT, n_litL, z, g0, g3, d, lN_i]
theorem c_fp0 {x0 x2 : Int64} {x4 : Int32} {a i : Nat} : gX11_fractionPart_9 x0 x2 x4 (lN a) (lN 0) (nI i) = gX11_fractionPart_44 x0 x2 x4 (lN a) := by
  have g0 : lg_cmp (lN 0) (lN 0) = nI 0 := (lg_e' _ _).mpr rfl
  unfold gX11_fractionPart_9
  have eb : gX11_fractionPart_9b x0 x2 x4 (lN a) (lN 0) (nI i) = (gX11_fractionPart_44 x0 x2 x4 (lN a)).map (fun q => .inr q) := by
    unfold gX11_fractionPart_9b
    simp (disch := omega) only [n_lit, n_of, n_o1, nI_add, pk_mul, nI_ltI, nI_leI, nI_eq, ↓lift_lt, ↓k_mt, ↓k_mp, if_true, if_false, Bool.false_eq_true, Nat.not_lt_zero, Nat.zero_le, Nat.reduceEqDiff, Nat.reduceLeDiff, Nat.reduceLT, n_litL, g0]
    split <;> rfl
  exact lpw_m eb
theorem c_fps {x0 x2 : Int64} {x4 : Int32} {a b i : Nat} (hi : i < 100) (ha : a < 2 ^ 31) (h0 : 0 < b) (hb : b < 2 ^ 31) : gX11_fractionPart_9 x0 x2 x4 (lN a) (lN b) (nI i) = gX11_fractionPart_9 x0 x2 x4 (lN b) (lN (a % b)) (nI (i + 1)) := by
  have g0 : ¬ (lg_cmp (lN b) (lN 0) = nI 0) := fun q => by
    have := (pk_lEQ (by omega) (by omega)).mp ((lg_e' _ _).mp q)
    omega
  have g3 : ¬ lN b = lN 0 := fun q => by
    have := (pk_lEQ (by omega) (by omega)).mp q
    omega
  have i1 : ¬ 100 ≤ i := by omega
  have d := pk_lRem (a := a) (b := b) (by omega) h0 (by omega)
  unfold gX11_fractionPart_9
  have eb : gX11_fractionPart_9b x0 x2 x4 (lN a) (lN b) (nI i) = some (.inl (lN b, lN (a % b), nI (i + 1))) := by
    unfold gX11_fractionPart_9b rml l_rem
    simp (disch := omega) only [n_lit, n_of, n_o1, nI_add, pk_mul, nI_ltI, nI_leI, nI_eq, ↓lift_lt, ↓k_mt, ↓k_mp, if_true, if_false, Bool.false_eq_true, Nat.not_lt_zero, Nat.zero_le, Nat.reduceEqDiff, Nat.reduceLeDiff, Nat.reduceLT, n_litL, g0, g3, i1, d]
  exact lpw_l eb
theorem c_fp : ∀ (k i a b : Nat) (x0 x2 : Int64) (x4 : Int32), i + 2 * k < 100 → a < 2 ^ 31 → b < 2 ^ 31 → b < 2 ^ k → gX11_fractionPart_9 x0 x2 x4 (lN a) (lN b) (nI i) = gX11_fractionPart_44 x0 x2 x4 (lN (Nat.gcd a b))
  | 0, i, a, b, x0, x2, x4, hi, ha, hb, hk => by
    have b0 : b = 0 := by omega
    subst b0
    rw [c_fp0, Nat.gcd_zero_right]
  | k + 1, i, a, b, x0, x2, x4, hi, ha, hb, hk => by
    by_cases b0 : b = 0
    · subst b0
      rw [c_fp0, Nat.gcd_zero_right]
    · have hr : a % b < b := Nat.mod_lt _ (by omega)
      rw [c_fps (by omega) ha (by omega) hb, gcd_st a b]
      by_cases r0 : a % b = 0
      · rw [r0, c_fp0, Nat.gcd_zero_right]
      · have h2 := half2 (b := b) (r := a % b) (by omega) (by omega)
        rw [c_fps (by omega) hb (by omega) (by omega), gcd_st b (a % b)]
        have h3 : b % (a % b) < 2 ^ k := by
          have : 2 ^ (k + 1) = 2 * 2 ^ k := by rw [Nat.pow_succ, Nat.mul_comm]
          omega
        exact c_fp k (i + 1 + 1) (a % b) (b % (a % b)) x0 x2 x4 (by omega) (by omega) (by omega) h3
theorem c_part {a w what : Nat} (ha : a < 2 ^ 31) (h0 : 0 < w) (hw : w < 2 ^ 31) (hh : what < 2) : gX11_fractionPart (lN a) (lN w) (nI what) = some (nI (prt a w what)) := by
  have g0 : 0 < Nat.gcd a w := Nat.gcd_pos_of_pos_right _ h0
  have g1 : Nat.gcd a w ≤ w := Nat.gcd_le_right _ h0
  show gX11_fractionPart_9 (lN a) (lN w) (nI what) (lN w) (lN a) (nI 0) = _
  rw [c_fp 31 0 w a _ _ _ (by omega) hw ha ha, Nat.gcd_comm w a]
  exact c_fp44 ha hw g0 (by omega) hh
/-- all that comes in n years from s, each by its weight -/
def ew (A B : Nat → Nat) (d : Nat) (f : Nat → Nat) : Nat → Nat → Nat
  | 0, s => f s
  | n + 1, s => (10 - d) * ew A B d f n (A s) + d * ew A B d f n (B s)
theorem ew_in (A B : Nat → Nat) (d : Nat) (f : Nat → Nat) : ∀ n s, ew A B d (fun s => (10 - d) * f (A s) + d * f (B s)) n s = ew A B d f (n + 1) s
  | 0, s => rfl
  | n + 1, s => by
    show (10 - d) * ew A B d (fun s => (10 - d) * f (A s) + d * f (B s)) n (A s) + d * ew A B d (fun s => (10 - d) * f (A s) + d * f (B s)) n (B s) = (10 - d) * ew A B d f (n + 1) (A s) + d * ew A B d f (n + 1) (B s)
    rw [ew_in A B d f n, ew_in A B d f n]
theorem ew_one (A B : Nat → Nat) {d : Nat} (hd : d ≤ 10) : ∀ n s, ew A B d (fun _ => 1) n s = 10 ^ n
  | 0, s => rfl
  | n + 1, s => by
    show (10 - d) * ew A B d (fun _ => 1) n (A s) + d * ew A B d (fun _ => 1) n (B s) = 10 ^ (n + 1)
    rw [ew_one A B hd n, ew_one A B hd n, ← Nat.add_mul, Nat.pow_succ, Nat.mul_comm, show 10 - d + d = 10 by omega]
theorem ew_le (A B : Nat → Nat) {d K : Nat} (hd : d ≤ 10) {f : Nat → Nat} (hf : ∀ s, f s ≤ K) : ∀ n s, ew A B d f n s ≤ K * 10 ^ n
  | 0, s => by
    show f s ≤ K * 1
    have := hf s
    omega
  | n + 1, s => by
    show (10 - d) * ew A B d f n (A s) + d * ew A B d f n (B s) ≤ K * 10 ^ (n + 1)
    have h1 := Nat.mul_le_mul_left (10 - d) (ew_le A B hd hf n (A s))
    have h2 := Nat.mul_le_mul_left d (ew_le A B hd hf n (B s))
    have h3 : (10 - d) * (K * 10 ^ n) + d * (K * 10 ^ n) = K * 10 ^ (n + 1) := by
      rw [← Nat.add_mul, show 10 - d + d = 10 by omega, Nat.pow_succ, Nat.mul_comm 10 (K * 10 ^ n), Nat.mul_assoc]
    omega
/-- what is weighed: those that met, the gap, those that fell, all -/
def fw (p k s : Nat) : Nat := if k = 8 then (if dg s p = 0 then 1 else 0) else if k = 9 then dg s p else if k = 10 then (if 10000 ≤ s then 1 else 0) else 1
theorem fw_b (p k s : Nat) : fw p k s ≤ 9 := by
  have := dg_lt s p
  unfold fw
  repeat' split
  all_goals omega
section SW
variable {h : Hp} {V : Nat → Cv} {a ch l p : Nat}
theorem CT_J {c : Ch} {r k : Nat} {y : Int64} (H : CT h V c a ch) : CT h V (cJ c r k y) a ch := H
theorem CT_115 {c : Ch} {k : Nat} {y : Int32} (H : CT h V c a ch) : CT h V (cI c 115 k y) a ch := by
  obtain ⟨e1, e2, e3, e4, e5, e6, e7⟩ := H
  exact ⟨e1, e2, e3, by rw [cI_n _ (by decide)]; exact e4, e5, e6, e7⟩
theorem qfr_J {c c' : Ch} {r k : Nat} {y : Int64} (H : qfr c c') : qfr c (cJ c' r k y) := H
theorem c_sw (hl : l < 2 ^ 31) (hp : p < 4) {A B : Nat → Nat} {d : Nat} (hA : A = fun s => Yr (V a) ch s l 0) (hB : B = fun s => Yr (V a) ch s l 1) (hd : d ≤ 10) : ∀ (n f s w : Nat) (c : Ch), n < f → n ≤ 8 → s < 20000 → s % 10000 < 10 ^ vP (V a) → w * 10 ^ n ≤ 10 ^ 8 → CT h V c a ch → c.1 115 1 = nI p → c.1 115 2 = nI l → c.1 115 3 = nI d →
    ∃ c', grX2_spreadWeight h f 0 c (nI n) (nI s) (lN w) = some c' ∧ CT h V c' a ch ∧ c'.1 = c.1 ∧ qfr c c' ∧ ∀ k, 8 ≤ k → k ≤ 11 → c'.2.1 115 k = c.2.1 115 k + lN (w * ew A B d (fw p k) n s) := by
  intro n
  induction n with
  | zero =>
    intro f s w c hf hn hs hm hwb hT e1 e2 e3
    obtain ⟨f', rfl⟩ : ∃ f', f = f' + 1 := ⟨f - 1, by omega⟩
    have hw8 : w ≤ 10 ^ 8 := by simpa using hwb
    show ∃ c', gX2_spreadWeight (grX2_spreadWeight h f') h c (nI 0) (nI s) (lN w) = some c' ∧ _
    unfold gX2_spreadWeight gX2_spreadWeight_12
    by_cases w0 : w = 0
    · subst w0
      have g0 : lg_cmp (lN 0) (lN 0) = nI 0 := (lg_e' _ _).mpr rfl
      refine ⟨c, ?_, hT, rfl, qfr_rfl c, fun k _ _ => ?_⟩
      · simp (disch := omega) only [n_lit, n_of, n_o1, nI_add, pk_mul, nI_ltI, nI_leI, nI_eq, ↓lift_lt, ↓k_mt, ↓k_mp, if_true, if_false, Bool.false_eq_true, Nat.not_lt_zero, Nat.zero_le, Nat.reduceEqDiff, Nat.reduceLeDiff, Nat.reduceLT, n_litL, g0]
      · rw [Nat.zero_mul]
        exact (Int64.add_zero _).symm
    · have g0 : ¬ (lg_cmp (lN w) (lN 0) = nI 0) := fun q => w0 ((pk_lEQ (by omega) (by omega)).mp ((lg_e' _ _).mp q))
      have hdg := dg_lt s p
      obtain ⟨c5, ec5⟩ : ∃ c5, c5 = cJ c 115 11 (c.2.1 115 11 + lN w) := ⟨_, rfl⟩
      obtain ⟨c7, ec7⟩ : ∃ c7, c7 = cJ c5 115 9 (c5.2.1 115 9 + lN (w * dg s p)) := ⟨_, rfl⟩
      obtain ⟨c9, ec9⟩ : ∃ c9, c9 = cJ c7 115 8 (c7.2.1 115 8 + lN (w * (if dg s p = 0 then 1 else 0))) := ⟨_, rfl⟩
      obtain ⟨cz, ecz⟩ : ∃ cz, cz = cJ c9 115 10 (c9.2.1 115 10 + lN (w * (if 10000 ≤ s then 1 else 0))) := ⟨_, rfl⟩
      have f5 : c5.1 = c.1 := by rw [ec5, cJ_1]
      have f7 : c7.1 = c.1 := by rw [ec7, cJ_1, f5]
      have f9 : c9.1 = c.1 := by rw [ec9, cJ_1, f7]
      have nl : (nI (dg s p)).toInt64 = lN (dg s p) := nI_l (by omega)
      have step1 : gX2_spreadWeight_68 (grX2_spreadWeight h f') h c7 (nI s) (lN w) (c7.2.1 115 8) (lN (w * (if dg s p = 0 then 1 else 0))) = some cz := by
        unfold gX2_spreadWeight_68 gX2_spreadWeight_89
        rw [ecz]
        by_cases z : 10000 ≤ s
        · have z' : ¬ s < 10000 := by omega
          rw [if_pos z, Nat.mul_one, ec9]
          simp (disch := omega) only [n_lit, n_of, n_o1, nI_add, pk_mul, nI_ltI, nI_leI, nI_eq, ↓lift_lt, ↓k_mt, ↓k_mp, if_true, if_false, Bool.false_eq_true, Nat.not_lt_zero, Nat.zero_le, Nat.reduceEqDiff, Nat.reduceLeDiff, Nat.reduceLT, z']
        · have z' : s < 10000 := by omega
          rw [if_neg z, Nat.mul_zero, ec9]
          simp (disch := omega) only [n_lit, n_of, n_o1, nI_add, pk_mul, nI_ltI, nI_leI, nI_eq, ↓lift_lt, ↓k_mt, ↓k_mp, if_true, if_false, Bool.false_eq_true, Nat.not_lt_zero, Nat.zero_le, Nat.reduceEqDiff, Nat.reduceLeDiff, Nat.reduceLT, n_litL, z']
      refine ⟨cz, ?_, ?_, ?_, ?_, ?_⟩
      · by_cases z : dg s p = 0
        · rw [if_pos z, Nat.mul_one] at step1
          rw [z, Nat.mul_zero] at ec7
          rw [z] at nl
          rw [ec7, ec5] at step1
          simp (disch := omega) only [n_lit, n_of, n_o1, nI_add, pk_mul, nI_ltI, nI_leI, nI_eq, ↓lift_lt, ↓k_mt, ↓k_mp, if_true, if_false, Bool.false_eq_true, Nat.not_lt_zero, Nat.zero_le, Nat.reduceEqDiff, Nat.reduceLeDiff, Nat.reduceLT, n_litL, g0, cJ_1, e1, c_digit, z, nl, lN_mul, Nat.mul_zero, step1]
        · rw [if_neg z, Nat.mul_zero] at step1
          rw [ec7, ec5] at step1
          simp (disch := omega) only [n_lit, n_of, n_o1, nI_add, pk_mul, nI_ltI, nI_leI, nI_eq, ↓lift_lt, ↓k_mt, ↓k_mp, if_true, if_false, Bool.false_eq_true, Nat.not_lt_zero, Nat.zero_le, Nat.reduceEqDiff, Nat.reduceLeDiff, Nat.reduceLT, n_litL, g0, cJ_1, e1, c_digit, z, nl, lN_mul, step1]
      · rw [ecz, ec9, ec7, ec5]; exact CT_J (CT_J (CT_J (CT_J hT)))
      · rw [ecz, cJ_1, f9]
      · rw [ecz, ec9, ec7, ec5]; exact qfr_J (qfr_J (qfr_J (qfr_J (qfr_rfl c))))
      · intro k h8 h11
        show cz.2.1 115 k = c.2.1 115 k + lN (w * fw p k s)
        have hk : k = 8 ∨ k = 9 ∨ k = 10 ∨ k = 11 := by omega
        rcases hk with e | e | e | e <;> subst e
        · rw [ecz, cJ_2, if_pos rfl, if_neg (by decide), ec9, cJ_2, if_pos rfl, if_pos rfl, ec7, cJ_2, if_pos rfl, if_neg (by decide), ec5, cJ_2, if_pos rfl, if_neg (by decide)]; rfl
        · rw [ecz, cJ_2, if_pos rfl, if_neg (by decide), ec9, cJ_2, if_pos rfl, if_neg (by decide), ec7, cJ_2, if_pos rfl, if_pos rfl, ec5, cJ_2, if_pos rfl, if_neg (by decide)]; rfl
        · rw [ecz, cJ_2, if_pos rfl, if_pos rfl, ec9, cJ_2, if_pos rfl, if_neg (by decide), ec7, cJ_2, if_pos rfl, if_neg (by decide), ec5, cJ_2, if_pos rfl, if_neg (by decide)]; rfl
        · rw [ecz, cJ_2, if_pos rfl, if_neg (by decide), ec9, cJ_2, if_pos rfl, if_neg (by decide), ec7, cJ_2, if_pos rfl, if_neg (by decide), ec5, cJ_2, if_pos rfl, if_pos rfl, show fw p 11 s = 1 from rfl, Nat.mul_one]
  | succ n ih =>
    intro f s w c hf hn hs hm hwb hT e1 e2 e3
    obtain ⟨f', rfl⟩ : ∃ f', f = f' + 1 := ⟨f - 1, by omega⟩
    have hP := hT.2.2.1.1
    have pw : 0 < 10 ^ (n + 1) := Nat.pow_pos (by decide)
    have hw8 : w ≤ 10 ^ 8 := Nat.le_trans (Nat.le_mul_of_pos_right w pw) hwb
    have hx : ∀ u, u ≤ 10 → w * u * 10 ^ n ≤ 10 ^ 8 := fun u hu => by
      refine Nat.le_trans ?_ hwb
      rw [Nat.mul_assoc, Nat.pow_succ, Nat.mul_comm (10 ^ n) 10]
      exact Nat.mul_le_mul_left w (Nat.mul_le_mul_right _ hu)
    show ∃ c', gX2_spreadWeight (grX2_spreadWeight h f') h c (nI (n + 1)) (nI s) (lN w) = some c' ∧ _
    unfold gX2_spreadWeight gX2_spreadWeight_12
    by_cases w0 : w = 0
    · subst w0
      have g0 : lg_cmp (lN 0) (lN 0) = nI 0 := (lg_e' _ _).mpr rfl
      refine ⟨c, ?_, hT, rfl, qfr_rfl c, fun k _ _ => ?_⟩
      · simp (disch := omega) only [n_lit, n_of, n_o1, nI_add, pk_mul, nI_ltI, nI_leI, nI_eq, ↓lift_lt, ↓k_mt, ↓k_mp, if_true, if_false, Bool.false_eq_true, Nat.not_lt_zero, Nat.zero_le, Nat.reduceEqDiff, Nat.reduceLeDiff, Nat.reduceLT, n_litL, g0]
      · rw [Nat.zero_mul]
        exact (Int64.add_zero _).symm
    · have g0 : ¬ (lg_cmp (lN w) (lN 0) = nI 0) := fun q => w0 ((pk_lEQ (by omega) (by omega)).mp ((lg_e' _ _).mp q))
      have n8 : n + 1 ≤ 8 := by omega
      have n0 : 0 < n + 1 := by omega
      obtain ⟨c1, x1, T1, f1⟩ := c_after (s := s) (l := l) (dry := 0) hT hs hl (by decide)
      have o1 := Yr_ok hP hs hm ch l 0
      obtain ⟨c2, x2, T2, f2, q2, v2⟩ := ih f' (A s) (w * (10 - d)) c1 (by omega) (by omega) (by rw [hA]; exact o1.1) (by rw [hA]; exact o1.2) (hx _ (by omega)) T1 (by rw [f1.1]; exact e1) (by rw [f1.1]; exact e2) (by rw [f1.1]; exact e3)
      have k2 : c2.1 = c.1 := by rw [f2, f1.1]
      obtain ⟨c3, x3, T3, f3⟩ := c_after (s := s) (l := l) (dry := 1) T2 hs hl (by decide)
      have o3 := Yr_ok hP hs hm ch l 1
      have k3 : c3.1 = c.1 := by rw [f3.1, k2]
      obtain ⟨c4, x4, T4, f4, q4, v4⟩ := ih f' (B s) (w * d) c3 (by omega) (by omega) (by rw [hB]; exact o3.1) (by rw [hB]; exact o3.2) (hx _ hd) T3 (by rw [k3]; exact e1) (by rw [k3]; exact e2) (by rw [k3]; exact e3)
      have eA : Yr (V a) ch s l 0 = A s := by rw [hA]
      have eB : Yr (V a) ch s l 1 = B s := by rw [hB]
      rw [eA] at x1
      rw [eB] at x3
      have l1 : (nI (10 - d)).toInt64 = lN (10 - d) := nI_l (by omega)
      have l2 : (nI d).toInt64 = lN d := nI_l (by omega)
      have y2 : c2.1 115 2 = nI l := by rw [k2]; exact e2
      have y1 : c1.1 115 3 = nI d := by rw [f1.1]; exact e3
      have y3 : c3.1 115 3 = nI d := by rw [k3]; exact e3
      have n1 : n + 1 - 1 = n := by omega
      refine ⟨c4, ?_, T4, by rw [f4, k3], qfr_tr (qfr_12 f1) (qfr_tr q2 (qfr_tr (qfr_12 f3) q4)), fun k h8 h11 => ?_⟩
      · simp (disch := omega) only [n_lit, n_of, n_o1, nI_add, pk_mul, nI_ltI, nI_leI, nI_eq, ↓lift_lt, ↓k_mt, ↓k_mp, if_true, if_false, Bool.false_eq_true, Nat.not_lt_zero, Nat.zero_le, Nat.reduceEqDiff, Nat.reduceLeDiff, Nat.reduceLT, n_litL, g0, n8, n0, e2, x1, y1, pk_sub, n1, l1, l2, lN_mul, x2, y2, x3, y3, x4]
      · rw [v4 k h8 h11, f3.2.1, v2 k h8 h11, f1.2.1, Int64.add_assoc, lN_add]
        show _ = _ + lN (w * ((10 - d) * ew A B d (fw p k) n (A s) + d * ew A B d (fw p k) n (B s)))
        rw [Nat.mul_add, Nat.mul_assoc, Nat.mul_assoc]
end SW
