/-! both sides read laws alike -/
theorem tys_app {g : Bool} : ∀ (a b : List Nat) (st : List Bool), tys g (a ++ b) st = (tys g a st).bind (tys g b)
  | [], b, st => rfl
  | n :: l, b, st => by
    show (ty1 g n st).bind (tys g (l ++ b)) = ((ty1 g n st).bind (tys g l)).bind (tys g b)
    cases ty1 g n st with
    | none => rfl
    | some x => exact tys_app l b x
/-- codes that leave one value more -/
def TYx (g ty : Bool) (B : Nat) (ds : List Nat) : Prop := ∀ st : List Bool, st.length ≤ B → tys g ds st = some (ty :: st)
theorem TYx_le {g ty : Bool} {B B' : Nat} {ds : List Nat} (h : B' ≤ B) (H : TYx g ty B ds) : TYx g ty B' ds := fun st hs => H st (by omega)
def frM (fr : Nat) (m0 m : Mu) : Prop := (∀ r, ¬ r = 6 → ¬ r = 7 → ¬ r = 9 → ¬ r = 10 → ¬ r = 11 → ¬ r = 12 → m.1 r = m0.1 r) ∧ m.2.2 = m0.2.2 ∧ (∀ r, ¬ r = 4 → m.2.1 r = m0.2.1 r) ∧ ∀ i, i < 138 + fr → ¬ i = 137 → m.2.1 4 i = m0.2.1 4 i
def frC (c0 c : Ch) : Prop := (∀ r, ¬ r = 82 → ¬ r = 83 → c.1 r = c0.1 r) ∧ (∀ k, ¬ k = 2 → ¬ k = 4 → ¬ k = 5 → ¬ k = 6 → c.1 82 k = c0.1 82 k) ∧ c.1 83 1 = c0.1 83 1 ∧ c.2.1 = c0.2.1 ∧ c.2.2.1 = c0.2.2.1 ∧ (∀ r, ¬ r = 85 → c.2.2.2.1 r = c0.2.2.2.1 r) ∧ c.2.2.2.2 = c0.2.2.2.2
section PRS
variable {t : Nat → Nat} {N : Nat} {g : Bool} {fr : Nat} {m0 : Mu} {c0 : Ch} {h : Hp} {m : Mu} {c : Ch} {cs : List Nat} {a : Nat}
/-- both read on, so far without a fault -/
def PRx (t : Nat → Nat) (N : Nat) (g : Bool) (fr : Nat) (m0 : Mu) (c0 : Ch) (h : Hp) (m : Mu) (c : Ch) (cs : List Nat) (a : Nat) : Prop :=
  TXx t N m h c ∧ (∃ b kd nm, TKx t N m c a b kd nm) ∧ m.1 11 = nI 0 ∧ m.1 15 = nI (if g = true then 0 else 1) ∧ c.1 82 3 = nI (if g = true then 1 else 0) ∧ m.2.1 4 137 = nI (fr + cs.length) ∧ (∀ i, i < cs.length → m.2.1 4 (138 + fr + i) = nI (cs.getD i 0)) ∧ fr + cs.length ≤ 900 ∧ c.1 82 2 = nI cs.length ∧ (∀ i, i < cs.length → c.2.2.2.1 85 i = cco (cs.getD i 0)) ∧ frM fr m0 m ∧ frC c0 c
/-- both have found the same fault -/
def PFx (fr : Nat) (m0 : Mu) (c0 : Ch) (m : Mu) (c : Ch) : Prop := ∃ k p sz, 1 ≤ k ∧ k ≤ 4 ∧ m.1 11 = nI k ∧ p ≤ 900 ∧ m.1 12 = nI p ∧ c.1 82 5 = nI k ∧ c.1 82 6 = nI p ∧ sz ≤ 900 ∧ c.1 82 2 = nI sz ∧ frM fr m0 m ∧ frC c0 c
theorem PFx_w (H : PFx fr m0 c0 m c) : ¬ m.1 11 = nI 0 := by
  obtain ⟨k, p, sz, h1, h2, h3, -⟩ := H
  rw [h3, nI_eq (by omega) (by omega)]
  omega
theorem frM_n {m' : Mu} (H : frM fr m0 m) (f : mfn m m') : frM fr m0 m' := ⟨fun r a b d e k l => by rw [f.1 r a b d e]; exact H.1 r a b d e k l, by rw [f.2]; exact H.2.1, by rw [f.2]; exact H.2.2.1, by rw [f.2]; exact H.2.2.2⟩
theorem frC_n {c' : Ch} (H : frC c0 c) (f : cfn c c') : frC c0 c' := ⟨fun r a b => by rw [f.1 r b]; exact H.1 r a b, fun k a b d e => by rw [f.1 82 (by decide)]; exact H.2.1 k a b d e, by rw [f.2.1]; exact H.2.2.1, by rw [f.2.2]; exact H.2.2.2.1, by rw [f.2.2]; exact H.2.2.2.2.1, by rw [f.2.2]; exact H.2.2.2.2.2.1, by rw [f.2.2]; exact H.2.2.2.2.2.2⟩
theorem q_is {kd k : Nat} (hw : m.1 11 = nI 0) (h9 : m.1 9 = nI kd) (hk : kd < 42) (hk2 : k < 42) : gX12_is m (nI k) = some (nI (if kd = k then 1 else 0)) := by
  unfold gX12_is gX12_is_19 gX12_is_20
  by_cases z : kd = k
  · rw [if_pos z]
    simp (disch := omega) only [n_lit, n_of, n_o1, nI_add, pk_mul, nI_ltI, nI_leI, nI_eq, ↓lift_lt, ↓k_mt, ↓k_mp, if_true, if_false, Bool.false_eq_true, Nat.not_lt_zero, Nat.zero_le, Nat.reduceEqDiff, Nat.reduceLeDiff, Nat.reduceLT, hw, h9, eq_true z, n_bl1]
  · rw [if_neg z]
    simp (disch := omega) only [n_lit, n_of, n_o1, nI_add, pk_mul, nI_ltI, nI_leI, nI_eq, ↓lift_lt, ↓k_mt, ↓k_mp, if_true, if_false, Bool.false_eq_true, Nat.not_lt_zero, Nat.zero_le, Nat.reduceEqDiff, Nat.reduceLeDiff, Nat.reduceLT, hw, h9, z, n_bl0]
theorem q_is_w {k : Int32} (hw : ¬ m.1 11 = nI 0) : gX12_is m k = some (nI 0) := by
  unfold gX12_is gX12_is_19 gX12_is_20
  simp (disch := omega) only [n_lit, n_of, n_o1, nI_add, pk_mul, nI_ltI, nI_leI, nI_eq, ↓lift_lt, ↓k_mt, ↓k_mp, if_true, if_false, Bool.false_eq_true, Nat.not_lt_zero, Nat.zero_le, Nat.reduceEqDiff, Nat.reduceLeDiff, Nat.reduceLT, hw, n_bl0]
theorem q_eats_w {k : Int32} (hw : ¬ m.1 11 = nI 0) : gX12_eats m k = some (nI 0, m) := by
  unfold gX12_eats
  simp (disch := omega) only [n_lit, n_of, n_o1, nI_add, pk_mul, nI_ltI, nI_leI, nI_eq, ↓lift_lt, ↓k_mt, ↓k_mp, if_true, if_false, Bool.false_eq_true, Nat.not_lt_zero, Nat.zero_le, Nat.reduceEqDiff, Nat.reduceLeDiff, Nat.reduceLT, q_is_w hw]
theorem q_fails_w {k : Int32} (hw : ¬ m.1 11 = nI 0) : gX12_fails m k = some m := by
  unfold gX12_fails
  simp (disch := omega) only [n_lit, n_of, n_o1, nI_add, pk_mul, nI_ltI, nI_leI, nI_eq, ↓lift_lt, ↓k_mt, ↓k_mp, if_true, if_false, Bool.false_eq_true, Nat.not_lt_zero, Nat.zero_le, Nat.reduceEqDiff, Nat.reduceLeDiff, Nat.reduceLT, hw]
theorem q_codes_w {k : Int32} (hw : ¬ m.1 11 = nI 0) : gX12_codes m k = some m := by
  unfold gX12_codes
  simp (disch := omega) only [n_lit, n_of, n_o1, nI_add, pk_mul, nI_ltI, nI_leI, nI_eq, ↓lift_lt, ↓k_mt, ↓k_mp, if_true, if_false, Bool.false_eq_true, Nat.not_lt_zero, Nat.zero_le, Nat.reduceEqDiff, Nat.reduceLeDiff, Nat.reduceLT, hw]
theorem q_goes_w {k : Int32} (hw : ¬ m.1 11 = nI 0) : gX12_goesIn m k = some (nI 0, m) := by
  unfold gX12_goesIn gX12_goesIn_11 gX12_goesIn_22 gX12_goesIn_34
  by_cases z : k = nI 6
  · simp (disch := omega) only [n_lit, n_of, n_o1, nI_add, pk_mul, nI_ltI, nI_leI, nI_eq, ↓lift_lt, ↓k_mt, ↓k_mp, if_true, if_false, Bool.false_eq_true, Nat.not_lt_zero, Nat.zero_le, Nat.reduceEqDiff, Nat.reduceLeDiff, Nat.reduceLT, z, q_fails_w hw, hw, n_bl0]
  · simp (disch := omega) only [n_lit, n_of, n_o1, nI_add, pk_mul, nI_ltI, nI_leI, nI_eq, ↓lift_lt, ↓k_mt, ↓k_mp, if_true, if_false, Bool.false_eq_true, Nat.not_lt_zero, Nat.zero_le, Nat.reduceEqDiff, Nat.reduceLeDiff, Nat.reduceLT, z, hw, n_bl0]
/-- a fault at a token -/
theorem p_fault {f b kd nm : Nat} (hf : 1 ≤ f) (hf4 : f ≤ 4) (H : PRx t N g fr m0 c0 h m c cs a) (K : TKx t N m c a b kd nm) : ∃ m' c', gX12_fails m (nI f) = some m' ∧ gX4_refuse h c (nI f) = some (nI 0, c') ∧ PFx fr m0 c0 m' c' := by
  obtain ⟨H1, -, H3, H4, H5, H6, H7, H8, H9, H10, H11, H12⟩ := H
  obtain ⟨k1, k2, k3, k4, k5, k6, k7, k8⟩ := K
  have kb := TC_kd k8
  have N9 := H1.1
  have ab : a ≤ 900 := by have := k8.1; omega
  have fin : ∀ f', 1 ≤ f' → f' ≤ 4 → PFx fr m0 c0 (mI (mI m 11 (nI f')) 12 (nI a)) (cI (cI c 82 5 (nI f')) 82 6 (nI a)) := fun f' h1 h2 => by
    refine ⟨f', a, cs.length, h1, h2, by rw [mI_f, if_neg (by decide), mI_f, if_pos rfl], ab, by rw [mI_f, if_pos rfl], by rw [cI_1, if_pos rfl, if_neg (by decide), cI_1, if_pos rfl, if_pos rfl], by rw [cI_1, if_pos rfl, if_pos rfl], by omega, by rw [cI_1, if_pos rfl, if_neg (by decide), cI_1, if_pos rfl, if_neg (by decide)]; exact H9, ⟨fun r q1 q2 q3 q4 q5 q6 => by rw [mI_f, if_neg q6, mI_f, if_neg q5]; exact H11.1 r q1 q2 q3 q4 q5 q6, H11.2.1, H11.2.2.1, H11.2.2.2⟩, ⟨fun r q1 q2 => by rw [cI_n _ q1, cI_n _ q1]; exact H12.1 r q1 q2, fun k q1 q2 q3 q4 => by rw [cI_1, if_pos rfl, if_neg q4, cI_1, if_pos rfl, if_neg q3]; exact H12.2.1 k q1 q2 q3 q4, ?_, H12.2.2.2⟩⟩
    rw [cI_n _ (by decide), cI_n _ (by decide)]
    exact H12.2.2.1
  have w6 : ∀ f', (mI m 11 (nI f')).1 6 = nI a := fun f' => by rw [mI_f, if_neg (by decide)]; exact k1
  have w4 : ∀ f', (cI c 82 5 (nI f')).1 83 4 = nI a := fun f' => by rw [cI_n _ (by decide)]; exact k4
  have cb := ckd_b kd
  by_cases z : kd = 25
  · have z4 : ckd kd = 4 := by rw [z]; rfl
    refine ⟨_, _, ?_, ?_, fin 1 (by decide) (by decide)⟩
    · unfold gX12_fails gX12_fails_23
      simp (disch := omega) only [n_lit, n_of, n_o1, nI_add, pk_mul, nI_ltI, nI_leI, nI_eq, ↓lift_lt, ↓k_mt, ↓k_mp, if_true, if_false, Bool.false_eq_true, Nat.not_lt_zero, Nat.zero_le, Nat.reduceEqDiff, Nat.reduceLeDiff, Nat.reduceLT, H3, k3, eq_true z, w6]
    · unfold gX4_refuse gX4_refuse_17
      simp (disch := omega) only [n_lit, n_of, n_o1, nI_add, pk_mul, nI_ltI, nI_leI, nI_eq, ↓lift_lt, ↓k_mt, ↓k_mp, if_true, if_false, Bool.false_eq_true, Nat.not_lt_zero, Nat.zero_le, Nat.reduceEqDiff, Nat.reduceLeDiff, Nat.reduceLT, k6, z4, w4]
  · have z4 := ckd_4 z
    refine ⟨_, _, ?_, ?_, fin f hf hf4⟩
    · unfold gX12_fails gX12_fails_23
      simp (disch := omega) only [n_lit, n_of, n_o1, nI_add, pk_mul, nI_ltI, nI_leI, nI_eq, ↓lift_lt, ↓k_mt, ↓k_mp, if_true, if_false, Bool.false_eq_true, Nat.not_lt_zero, Nat.zero_le, Nat.reduceEqDiff, Nat.reduceLeDiff, Nat.reduceLT, H3, k3, z, w6]
    · unfold gX4_refuse gX4_refuse_17
      simp (disch := omega) only [n_lit, n_of, n_o1, nI_add, pk_mul, nI_ltI, nI_leI, nI_eq, ↓lift_lt, ↓k_mt, ↓k_mp, if_true, if_false, Bool.false_eq_true, Nat.not_lt_zero, Nat.zero_le, Nat.reduceEqDiff, Nat.reduceLeDiff, Nat.reduceLT, k6, z4, w4]
/-- one token on -/
theorem p_next {b kd nm : Nat} (H : PRx t N g fr m0 c0 h m c cs a) (K : TKx t N m c a b kd nm) (hk : ¬ kd = 24) : ∃ m' c' a', gX12_next m = some m' ∧ gX6_advance h c = some c' ∧ PRx t N g fr m0 c0 h m' c' cs a' ∧ a < a' ∧ a' ≤ N ∧ mfn m m' ∧ cfn c c' := by
  obtain ⟨H1, -, H3, H4, H5, H6, H7, H8, H9, H10, H11, H12⟩ := H
  obtain ⟨k1, k2, k3, k4, k5, k6, k7, k8⟩ := K
  obtain ⟨m', c', a', b', kd', nm', e1, e2, f1, f2, K', hb⟩ := tk_next H1 k2 k5 k8.1
  have ab : a < b := by
    rcases k8.2 with ⟨q, -⟩ | ⟨q, -⟩
    · exact absurd q hk
    · exact q
  have c8 := K'.2.2.2.2.2.2.2
  have cb := TC_kd c8
  refine ⟨m', c', a', e1, e2, ⟨TXx_f H1 f1 f2, ⟨b', kd', nm', K'⟩, by rw [f1.1 11 (by decide) (by decide) (by decide) (by decide)]; exact H3, by rw [f1.1 15 (by decide) (by decide) (by decide) (by decide)]; exact H4, by rw [f2.1 82 (by decide)]; exact H5, by rw [f1.2]; exact H6, by rw [f1.2]; exact H7, H8, by rw [f2.1 82 (by decide)]; exact H9, by rw [f2.2.2]; exact H10, frM_n H11 f1, frC_n H12 f2⟩, by omega, by have := c8.1; omega, f1, f2⟩
/-- a token that must stand there -/
theorem p_eat {x b kd nm : Nat} (hx : x < 35) (hx4 : 4 ≤ x) (H : PRx t N g fr m0 c0 h m c cs a) (K : TKx t N m c a b kd nm) :
    (∃ m' c' a', gX12_eats m (nI (kx x)) = some (nI 1, m') ∧ gX4_take h c x = some (nI 1, c') ∧ PRx t N g fr m0 c0 h m' c' cs a' ∧ a < a' ∧ kd = kx x ∧ gX6_advance h c = some c' ∧ gX12_next m = some m') ∨
    (∃ m' c', gX12_eats m (nI (kx x)) = some (nI 0, m) ∧ gX12_fails m (nI 2) = some m' ∧ gX4_take h c x = some (nI 0, c') ∧ PFx fr m0 c0 m' c' ∧ ¬ kd = kx x) := by
  have kb := TC_kd K.2.2.2.2.2.2.2
  have xb := vk_lt (kx_ok x hx hx4).1
  have qi := q_is (k := kx x) H.2.2.1 K.2.2.1 kb.1 xb
  have ci := tk_isAt H.1 K hx hx4
  have i1 : ¬ (1 = 0) := by decide
  by_cases z : kd = kx x
  · left
    rw [if_pos z] at qi ci
    have n24 : ¬ kd = 24 := fun e => by
      have := (kx_ok x hx hx4).1
      rw [← z, e] at this
      exact absurd this (by decide)
    obtain ⟨m', c', a', e1, e2, P, lt, -⟩ := p_next H K n24
    refine ⟨m', c', a', ?_, ?_, P, lt, z, e2, e1⟩
    · unfold gX12_eats
      simp (disch := omega) only [n_lit, n_of, n_o1, nI_add, pk_mul, nI_ltI, nI_leI, nI_eq, ↓lift_lt, ↓k_mt, ↓k_mp, if_true, if_false, Bool.false_eq_true, Nat.not_lt_zero, Nat.zero_le, Nat.reduceEqDiff, Nat.reduceLeDiff, Nat.reduceLT, qi, i1, e1]
    · unfold gX4_take
      simp (disch := omega) only [n_lit, n_of, n_o1, nI_add, pk_mul, nI_ltI, nI_leI, nI_eq, ↓lift_lt, ↓k_mt, ↓k_mp, if_true, if_false, Bool.false_eq_true, Nat.not_lt_zero, Nat.zero_le, Nat.reduceEqDiff, Nat.reduceLeDiff, Nat.reduceLT, ci, i1, e2]
  · right
    rw [if_neg z] at qi ci
    obtain ⟨m', c', e1, e2, P⟩ := p_fault (f := 2) (by decide) (by decide) H K
    refine ⟨m', c', ?_, e1, ?_, P, z⟩
    · unfold gX12_eats
      simp (disch := omega) only [n_lit, n_of, n_o1, nI_add, pk_mul, nI_ltI, nI_leI, nI_eq, ↓lift_lt, ↓k_mt, ↓k_mp, if_true, if_false, Bool.false_eq_true, Nat.not_lt_zero, Nat.zero_le, Nat.reduceEqDiff, Nat.reduceLeDiff, Nat.reduceLT, qi]
    · unfold gX4_take
      simp (disch := omega) only [n_lit, n_of, n_o1, nI_add, pk_mul, nI_ltI, nI_leI, nI_eq, ↓lift_lt, ↓k_mt, ↓k_mp, if_true, if_false, Bool.false_eq_true, Nat.not_lt_zero, Nat.zero_le, Nat.reduceEqDiff, Nat.reduceLeDiff, Nat.reduceLT, ci, e2, n_bl0]
/-- a code more -/
theorem p_code {n : Nat} (H : PRx t N g fr m0 c0 h m c cs a) (hl : fr + cs.length < 900) : ∃ m' c', gX12_codes m (nI n) = some m' ∧ gX4_put h c (cco n) = some c' ∧ PRx t N g fr m0 c0 h m' c' (cs ++ [n]) a ∧ m'.1 = m.1 ∧ (∀ r, ¬ r = 82 → c'.1 r = c.1 r) := by
  obtain ⟨H1, H2, H3, H4, H5, H6, H7, H8, H9, H10, H11, H12⟩ := H
  obtain ⟨m1, em1⟩ : ∃ m1, m1 = mS m 4 (138 + (fr + cs.length)) (nI n) := ⟨_, rfl⟩
  obtain ⟨m2, em2⟩ : ∃ m2, m2 = mS m1 4 137 (nI (fr + cs.length + 1)) := ⟨_, rfl⟩
  have w1 : m1.2.1 4 137 = nI (fr + cs.length) := by rw [em1, mS_a, if_pos rfl, if_neg (by omega)]; exact H6
  have ew1 : mW m 4 (nI (138 + (fr + cs.length))) (nI n) = some m1 := by rw [em1]; exact mW_4 m _ (by omega)
  have ew2 : mW m1 4 (nI 137) (nI (fr + cs.length + 1)) = some m2 := by rw [em2]; exact mW_4 m1 _ (by decide)
  have f2 : m2.1 = m.1 := by rw [em2, mS_f, em1, mS_f]
  have j2 : m2.2.2 = m.2.2 := by rw [em2, mS_j, em1, mS_j]
  have a2 : ∀ i, m2.2.1 4 i = if i = 137 then nI (fr + cs.length + 1) else if i = 138 + (fr + cs.length) then nI n else m.2.1 4 i := fun i => by
    rw [em2, mS_a, if_pos rfl, em1, mS_a, if_pos rfl]
  have r2 : ∀ r, ¬ r = 4 → m2.2.1 r = m.2.1 r := fun r hr => by rw [em2, mS_ne _ _ _ hr, em1, mS_ne _ _ _ hr]
  obtain ⟨c2, ec2⟩ : ∃ c2, c2 = cI (cS c 85 cs.length (cco n)) 82 2 (nI (cs.length + 1)) := ⟨_, rfl⟩
  have ec1 : cWA c 0 85 900 (nI cs.length) (cco n) = some (cS c 85 cs.length (cco n)) := cW0_g c _ (by omega) (by decide)
  have n9 : ¬ 900 ≤ cs.length := by omega
  have w82 : (cS c 85 cs.length (cco n)).1 82 2 = nI cs.length := H9
  have len : (cs ++ [n]).length = cs.length + 1 := by rw [List.length_append]; rfl
  have gd : ∀ i, i < cs.length → (cs ++ [n]).getD i 0 = cs.getD i 0 := fun i hi => by
    rw [List.getD_eq_getElem?_getD, List.getD_eq_getElem?_getD, List.getElem?_append_left hi]
  have gl : (cs ++ [n]).getD cs.length 0 = n := by
    rw [List.getD_eq_getElem?_getD, List.getElem?_append_right (Nat.le_refl _), Nat.sub_self]
    rfl
  obtain ⟨b, kd, nm, K⟩ := H2
  have e83 : ∀ k, c2.1 83 k = c.1 83 k := fun k => by rw [ec2, cI_n _ (by decide)]; rfl
  have e82 : ∀ k, ¬ k = 2 → c2.1 82 k = c.1 82 k := fun k hk => by rw [ec2, cI_1, if_pos rfl, if_neg hk]; rfl
  have arr : ∀ r, c2.2.2.2.1 r = (cS c 85 cs.length (cco n)).2.2.2.1 r := fun r => by rw [ec2]; rfl
  refine ⟨m2, c2, ?_, ?_, ⟨?_, ⟨b, kd, nm, ?_⟩, by rw [f2]; exact H3, by rw [f2]; exact H4, by rw [e82 3 (by decide)]; exact H5, ?_, fun i hi => ?_, by rw [len]; omega, ?_, fun i hi => ?_, ?_, ?_⟩, f2, fun r hr => by rw [ec2, cI_n _ hr]; rfl⟩
  · unfold gX12_codes
    simp (disch := omega) only [n_lit, n_of, n_o1, nI_add, pk_mul, nI_ltI, nI_leI, nI_eq, ↓lift_lt, ↓k_mt, ↓k_mp, if_true, if_false, Bool.false_eq_true, Nat.not_lt_zero, Nat.zero_le, Nat.reduceEqDiff, Nat.reduceLeDiff, Nat.reduceLT, H3, mA_4, H6, ew1, w1, ew2]
  · rw [ec2]
    unfold gX4_put gX4_put_32
    simp (disch := omega) only [n_lit, n_of, n_o1, nI_add, pk_mul, nI_ltI, nI_leI, nI_eq, ↓lift_lt, ↓k_mt, ↓k_mp, if_true, if_false, Bool.false_eq_true, Nat.not_lt_zero, Nat.zero_le, Nat.reduceEqDiff, Nat.reduceLeDiff, Nat.reduceLT, H9, n9, ec1, w82]
  · obtain ⟨h1, h2, h3, h4, h5, h6, h7⟩ := H1
    refine ⟨h1, h2, by rw [f2]; exact h3, by rw [r2 3 (by decide)]; exact h4, by rw [ec2]; exact h5, by rw [e83]; exact h6, by rw [arr, cS_n _ (by decide)]; exact h7.1, by rw [e82 5 (by decide)]; exact h7.2.1, by rw [e82 6 (by decide)]; exact h7.2.2⟩
  · obtain ⟨k1, k2, k3, k4, k5, k6, k7, k8⟩ := K
    exact ⟨by rw [f2]; exact k1, by rw [f2]; exact k2, by rw [f2]; exact k3, by rw [e83]; exact k4, by rw [e83]; exact k5, by rw [e83]; exact k6, fun q => by rw [f2, e83]; exact k7 q, k8⟩
  · rw [a2, if_pos rfl, len, Nat.add_assoc]
  · rw [len] at hi
    rw [a2, if_neg (by omega)]
    by_cases z : i = cs.length
    · subst z
      rw [if_pos (by omega), gl]
    · rw [if_neg (by omega), gd i (by omega)]
      exact H7 i (by omega)
  · rw [ec2, cI_1, if_pos rfl, if_pos rfl, len]
  · rw [len] at hi
    rw [arr, cS_4, if_pos rfl]
    by_cases z : i = cs.length
    · subst z
      rw [if_pos rfl, gl]
    · rw [if_neg z, gd i (by omega)]
      exact H10 i (by omega)
  · refine ⟨by rw [f2]; exact H11.1, by rw [j2]; exact H11.2.1, fun r hr => by rw [r2 r hr]; exact H11.2.2.1 r hr, fun i hi h137 => ?_⟩
    rw [a2, if_neg h137, if_neg (by omega)]
    exact H11.2.2.2 i hi h137
  · refine ⟨fun r q1 q2 => by rw [ec2, cI_n _ q1]; exact H12.1 r q1 q2, fun k q1 q2 q3 q4 => by rw [e82 k q1]; exact H12.2.1 k q1 q2 q3 q4, by rw [e83]; exact H12.2.2.1, by rw [ec2]; exact H12.2.2.2.1, by rw [ec2]; exact H12.2.2.2.2.1, fun r hr => by rw [arr, cS_n _ hr]; exact H12.2.2.2.2.2.1 r hr, by rw [ec2]; exact H12.2.2.2.2.2.2⟩
/-- behind a fault the class may still put -/
theorem p_put_w {y : Int32} (H : PFx fr m0 c0 m c) : ∃ c', gX4_put h c y = some c' ∧ PFx fr m0 c0 m c' := by
  obtain ⟨k, p, sz, h1, h2, h3, h4, h5, h6, h7, h8, h9, h10, h11⟩ := H
  unfold gX4_put gX4_put_32
  by_cases z : 900 ≤ sz
  · refine ⟨c, ?_, k, p, sz, h1, h2, h3, h4, h5, h6, h7, h8, h9, h10, h11⟩
    simp (disch := omega) only [n_lit, n_of, n_o1, nI_add, pk_mul, nI_ltI, nI_leI, nI_eq, ↓lift_lt, ↓k_mt, ↓k_mp, if_true, if_false, Bool.false_eq_true, Nat.not_lt_zero, Nat.zero_le, Nat.reduceEqDiff, Nat.reduceLeDiff, Nat.reduceLT, h9, z]
  · obtain ⟨c2, ec2⟩ : ∃ c2, c2 = cI (cS c 85 sz y) 82 2 (nI (sz + 1)) := ⟨_, rfl⟩
    have ec1 : cWA c 0 85 900 (nI sz) y = some (cS c 85 sz y) := cW0_g c _ (by omega) (by decide)
    have w82 : (cS c 85 sz y).1 82 2 = nI sz := h9
    have e82 : ∀ k, ¬ k = 2 → c2.1 82 k = c.1 82 k := fun k hk => by rw [ec2, cI_1, if_pos rfl, if_neg hk]; rfl
    refine ⟨c2, ?_, k, p, sz + 1, h1, h2, h3, h4, h5, by rw [e82 5 (by decide)]; exact h6, by rw [e82 6 (by decide)]; exact h7, by omega, by rw [ec2, cI_1, if_pos rfl, if_pos rfl], h10, ?_⟩
    · rw [ec2]
      simp (disch := omega) only [n_lit, n_of, n_o1, nI_add, pk_mul, nI_ltI, nI_leI, nI_eq, ↓lift_lt, ↓k_mt, ↓k_mp, if_true, if_false, Bool.false_eq_true, Nat.not_lt_zero, Nat.zero_le, Nat.reduceEqDiff, Nat.reduceLeDiff, Nat.reduceLT, h9, z, ec1, w82]
    · refine ⟨fun r q1 q2 => by rw [ec2, cI_n _ q1]; exact h11.1 r q1 q2, fun k q1 q2 q3 q4 => by rw [e82 k q1]; exact h11.2.1 k q1 q2 q3 q4, by rw [ec2, cI_n _ (by decide)]; exact h11.2.2.1, by rw [ec2]; exact h11.2.2.2.1, by rw [ec2]; exact h11.2.2.2.2.1, fun r hr => ?_, by rw [ec2]; exact h11.2.2.2.2.2.2⟩
      rw [show c2.2.2.2.1 r = (cS c 85 sz y).2.2.2.1 r by rw [ec2]; rfl, cS_n _ hr]
      exact h11.2.2.2.2.2.1 r hr
/-- into what is within another -/
theorem p_into {d b kd nm : Nat} (hd : d ≤ 6) (H : PRx t N g fr m0 c0 h m c cs a) (K : TKx t N m c a b kd nm) (hk : ¬ kd = 24) :
    (∃ m' c' a', gX12_goesIn m (nI d) = some (nI 1, m') ∧ gX4_goInto h c (nI d) = some (nI 1, c') ∧ PRx t N g fr m0 c0 h m' c' cs a' ∧ a < a' ∧ d < 6) ∨
    (∃ m' c', gX12_goesIn m (nI d) = some (nI 0, m') ∧ gX4_goInto h c (nI d) = some (nI 0, c') ∧ PFx fr m0 c0 m' c') := by
  have i1 : ¬ (1 = 0) := by decide
  unfold gX12_goesIn gX12_goesIn_11 gX12_goesIn_22 gX12_goesIn_34 gX4_goInto
  by_cases z : d = 6
  · right
    obtain ⟨m', c', e1, e2, P⟩ := p_fault (f := 4) (by decide) (by decide) H K
    have pw := PFx_w P
    have d6 : ¬ d < 6 := by omega
    refine ⟨m', c', ?_, ?_, P⟩
    · simp (disch := omega) only [n_lit, n_of, n_o1, nI_add, pk_mul, nI_ltI, nI_leI, nI_eq, ↓lift_lt, ↓k_mt, ↓k_mp, if_true, if_false, Bool.false_eq_true, Nat.not_lt_zero, Nat.zero_le, Nat.reduceEqDiff, Nat.reduceLeDiff, Nat.reduceLT, eq_true z, e1, pw, n_bl0]
    · simp (disch := omega) only [n_lit, n_of, n_o1, nI_add, pk_mul, nI_ltI, nI_leI, nI_eq, ↓lift_lt, ↓k_mt, ↓k_mp, if_true, if_false, Bool.false_eq_true, Nat.not_lt_zero, Nat.zero_le, Nat.reduceEqDiff, Nat.reduceLeDiff, Nat.reduceLT, d6, e2, n_bl0]
  · left
    obtain ⟨m', c', a', e1, e2, P, lt, -⟩ := p_next H K hk
    have d6 : d < 6 := by omega
    refine ⟨m', c', a', ?_, ?_, P, lt, d6⟩
    · simp (disch := omega) only [n_lit, n_of, n_o1, nI_add, pk_mul, nI_ltI, nI_leI, nI_eq, ↓lift_lt, ↓k_mt, ↓k_mp, if_true, if_false, Bool.false_eq_true, Nat.not_lt_zero, Nat.zero_le, Nat.reduceEqDiff, Nat.reduceLeDiff, Nat.reduceLT, z, H.2.2.1, e1, P.2.2.1, n_bl1]
    · simp (disch := omega) only [n_lit, n_of, n_o1, nI_add, pk_mul, nI_ltI, nI_leI, nI_eq, ↓lift_lt, ↓k_mt, ↓k_mp, if_true, if_false, Bool.false_eq_true, Nat.not_lt_zero, Nat.zero_le, Nat.reduceEqDiff, Nat.reduceLeDiff, Nat.reduceLT, d6, e2]
end PRS
