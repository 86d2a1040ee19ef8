/-! the reference: how long the roof can be held -/
theorem dn_int {a : Nat} (h : a ≤ 2 ^ 30) : (dn a).toInt = (a : Int) - 1 := by
  cases a with
  | zero => decide
  | succ a =>
    rw [dn_s, nI_toInt (by omega)]
    omega
theorem dn_le {a b : Nat} (ha : a ≤ 2 ^ 30) (hb : b ≤ 2 ^ 30) : (dn a ≤ dn b) = (a ≤ b) := by
  apply propext
  rw [Int32.le_iff_toInt_le, dn_int ha, dn_int hb]
  omega
theorem dn_U : nI 268435456 = dn 268435457 := (dn_s 268435456).symm
theorem dn_lt {a b : Nat} (ha : a ≤ 2 ^ 30) (hb : b ≤ 2 ^ 30) : (dn a < dn b) = (a < b) := by
  apply propext
  rw [Int32.lt_iff_toInt_lt, dn_int ha, dn_int hb]
  omega
theorem dn_eq {a b : Nat} (ha : a ≤ 2 ^ 30) (hb : b ≤ 2 ^ 30) : (dn a = dn b) = (a = b) := by
  apply propext
  rw [← Int32.toInt_inj, dn_int ha, dn_int hb]
  omega
theorem dn_1 (a : Nat) : dn a + nI 1 = dn (a + 1) := by
  rw [dn_s]
  show nI a - nI 1 + nI 1 = nI a
  rw [Int32.sub_add_cancel]
def kwn (F : Nat → Nat) (n : Nat) : Nat := csum (fun j => if F j = 268435457 then 0 else 1) n
theorem kwn_le (F : Nat → Nat) (n : Nat) : kwn F n ≤ n := csum_b (fun i => by
  show (if F i = 268435457 then 0 else 1) ≤ 1
  split <;> omega) n
theorem mxf_at {f : Nat → Nat} : ∀ {n : Nat}, 0 < n → ∃ i, i < n ∧ f i = mxf f n
  | n + 1, _ => by
    show ∃ i, i < n + 1 ∧ f i = (if mxf f n < f n then f n else mxf f n)
    by_cases z : mxf f n < f n
    · rw [if_pos z]; exact ⟨n, by omega, rfl⟩
    · rw [if_neg z]
      by_cases n0 : n = 0
      · subst n0
        refine ⟨0, by omega, ?_⟩
        have e : mxf f 0 = 0 := rfl
        omega
      · obtain ⟨i, i1, i2⟩ := mxf_at (f := f) (n := n) (by omega)
        exact ⟨i, by omega, i2⟩
theorem kwn_un (F : Nat → Nat) : ∀ n, csum (fun j => if F j = 268435457 then 1 else 0) n + kwn F n = n
  | 0 => rfl
  | n + 1 => by
    have ih := kwn_un F n
    have e1 : csum (fun j => if F j = 268435457 then 1 else 0) (n + 1) = csum (fun j => if F j = 268435457 then 1 else 0) n + (if F n = 268435457 then 1 else 0) := rfl
    have e2 : kwn F (n + 1) = kwn F n + (if F n = 268435457 then 0 else 1) := rfl
    rw [e1, e2]
    by_cases z : F n = 268435457
    · rw [if_pos z, if_pos z]; omega
    · rw [if_neg z, if_neg z]; omega
section HOLDR
variable {v : Cv} {s : St} {m m0 : Mu} {q D W F : Nat → Nat} {n : Nat}
def HVx (m : Mu) (q : Nat → Nat) (n : Nat) (F : Nat → Nat) : Prop := ∀ i, i < n → m.2.1 15 (q i) = dn (F i)
def HIx (v : Cv) (ch : Nat) (q : Nat → Nat) (n : Nat) (F : Nat → Nat) : Prop := ∀ i, i < n → (F i = 268435457 ∧ q i < 10000) ∨ (F i ≤ kwn F n ∧ Exc (nxt v ch) (nL v) (q i) (F i))
theorem HIx_b (A : ALL v s m q D W n) (H : HIx v s.2.1 q n F) {i : Nat} (hi : i < n) : F i ≤ 268435457 ∧ (F i = 268435457 ∨ F i ≤ 20000) := by
  have hn := A.2.2.1
  have kb := kwn_le F n
  rcases H i hi with ⟨w, -⟩ | ⟨w, -⟩
  · omega
  · omega
theorem HVx_S {i y : Nat} (A : ALL v s m q D W n) (hF : HVx m q n F) (hi : i < n) : HVx (mS m 15 (q i) (dn y)) q n (fun j => if j = i then y else F j) := by
  intro j hj
  show _ = dn (if j = i then y else F j)
  rw [mS_a, if_pos rfl]
  by_cases z : j = i
  · rw [if_pos z, if_pos (by rw [z])]
  · have ne : ¬ q j = q i := fun w => by
      have inj := A.1.2.2.2.2.2.2.2
      by_cases l : j < i
      · exact inj j i l hi w
      · exact inj i j (by omega) hj w.symm
    rw [if_neg z, if_neg ne]
    exact hF j hj
/-- one stand of the sweep -/
theorem hold_one {i : Nat} {x1 : Int32} (B : MBx m0 v s m) (A : ALL v s m q D W n) (hF : HVx m q n F) (hI : HIx v s.2.1 q n F) (hi : i < n) :
    (gX12_holding_101 m x1 (nI i) (nI (q i)) (dn 0) (nI 0) = some (.inl (x1, nI (i + 1), m)) ∧ (F i = 268435457 → ∃ j kk, j < n ∧ kk < nL v ∧ q j = nxt v s.2.1 kk (q i) ∧ F j = 268435457)) ∨
    (∃ m' F', gX12_holding_101 m x1 (nI i) (nI (q i)) (dn 0) (nI 0) = some (.inl (nI 1, nI (i + 1), m')) ∧ MBx m0 v s m' ∧ ALL v s m' q D W n ∧ HVx m' q n F' ∧ HIx v s.2.1 q n F' ∧ kwn F' n = kwn F n + 1) := by
  have hW := B.1.2.2.1
  obtain ⟨hL0, hL⟩ := nL_b hW
  have hn := A.2.2.1
  have o1 := (A.2.2.2.2.1 i hi).1
  have fi := hF i hi
  obtain ⟨fb, fb2⟩ := HIx_b A hI hi
  by_cases zu : F i = 268435457
  · obtain ⟨J, hJ⟩ := J_of hW A hi
    have n14 : ∀ kk, kk < nL v → m.2.1 14 (35 * q i + kk) = nI (q (J kk)) := fun kk hkk => by
      rw [(hJ kk hkk).2]
      exact A.2.2.2.2.2.2 i kk hi hkk (Or.inl hi)
    have mb : ∀ k, k ≤ nL v → mxf (fun kk => F (J kk)) k ≤ 268435457 := fun k hk => mxf_le (fun kk hkk => (HIx_b A hI (hJ kk (by omega)).1).1)
    have key : ∀ k, k ≤ nL v → gX12_holding_101 m x1 (nI i) (nI (q i)) (dn 0) (nI 0) = gX12_holding_101 m x1 (nI i) (nI (q i)) (dn (mxf (fun kk => F (J kk)) k)) (nI k) := by
      intro k
      induction k with
      | zero => intro _; rfl
      | succ k ih =>
        intro hk
        rw [ih (by omega)]
        obtain ⟨p1, p2⟩ := hJ k (by omega)
        have o2 := (A.2.2.2.2.1 _ p1).1
        have f2 := hF _ p1
        have f3 := (HIx_b A hI p1).1
        have mbk := mb k (by omega)
        have k1 : ¬ nL v ≤ k := by omega
        have eb : gX12_holding_101b m x1 (nI i) (nI (q i)) (dn (mxf (fun kk => F (J kk)) k)) (nI k) = some (.inl (dn (mxf (fun kk => F (J kk)) (k + 1)), nI (k + 1))) := by
          show _ = some (Sum.inl (dn (if mxf (fun kk => F (J kk)) k < F (J k) then F (J k) else mxf (fun kk => F (J kk)) k), nI (k + 1)))
          rw [zu] at fi
          unfold gX12_holding_101b gX12_holding_166
          by_cases z : mxf (fun kk => F (J kk)) k < F (J k)
          · have z' : ¬ F (J k) ≤ mxf (fun kk => F (J kk)) k := by omega
            rw [if_pos z]
            simp (disch := omega) only [n_lit, n_of, n_o1, nI_add, pk_mul, nI_ltI, nI_leI, nI_eq, ↓lift_lt, ↓k_mt, ↓k_mp, if_true, if_false, Bool.false_eq_true, Nat.not_lt_zero, Nat.zero_le, Nat.reduceEqDiff, Nat.reduceLeDiff, Nat.reduceLT, B.2.2.1, k1, mA_15, fi, dn_U, mA_14, n14 k (show k < nL v by omega), f2, dn_le, z']
          · have z' : F (J k) ≤ mxf (fun kk => F (J kk)) k := by omega
            rw [if_neg z]
            simp (disch := omega) only [n_lit, n_of, n_o1, nI_add, pk_mul, nI_ltI, nI_leI, nI_eq, ↓lift_lt, ↓k_mt, ↓k_mp, if_true, if_false, Bool.false_eq_true, Nat.not_lt_zero, Nat.zero_le, Nat.reduceEqDiff, Nat.reduceLeDiff, Nat.reduceLT, B.2.2.1, k1, mA_15, fi, dn_U, mA_14, n14 k (show k < nL v by omega), f2, dn_le, z']
        unfold gX12_holding_101
        exact lpw_l eb
    have hM := mb (nL v) (Nat.le_refl _)
    have e1 : gX12_holding_101 m x1 (nI i) (nI (q i)) (dn 0) (nI 0) = gX12_holding_174 m x1 (nI i) (nI (q i)) (dn (mxf (fun kk => F (J kk)) (nL v))) := by
      rw [key (nL v) (Nat.le_refl _)]
      have eb : gX12_holding_101b m x1 (nI i) (nI (q i)) (dn (mxf (fun kk => F (J kk)) (nL v))) (nI (nL v)) = (gX12_holding_174 m x1 (nI i) (nI (q i)) (dn (mxf (fun kk => F (J kk)) (nL v)))).map (fun y => .inr y) := by
        unfold gX12_holding_101b
        simp (disch := omega) only [n_lit, n_of, n_o1, nI_add, pk_mul, nI_ltI, nI_leI, nI_eq, ↓lift_lt, ↓k_mt, ↓k_mp, if_true, if_false, Bool.false_eq_true, Nat.not_lt_zero, Nat.zero_le, Nat.reduceEqDiff, Nat.reduceLeDiff, Nat.reduceLT, B.2.2.1, Nat.le_refl]
      unfold gX12_holding_101
      exact lpw_m eb
    have ge : ∀ kk, kk < nL v → F (J kk) ≤ mxf (fun kk => F (J kk)) (nL v) := fun kk hkk => mxf_ge (f := fun kk => F (J kk)) hkk
    have at1 : ∃ kk, kk < nL v ∧ F (J kk) = mxf (fun kk => F (J kk)) (nL v) := mxf_at (f := fun kk => F (J kk)) hL0
    rw [e1]
    obtain ⟨M, eM⟩ : ∃ M, M = mxf (fun kk => F (J kk)) (nL v) := ⟨_, rfl⟩
    rw [← eM] at hM ge at1 ⊢
    have l1 : ¬ (268435457 < 268435457) := by decide
    by_cases zM : M = 268435457
    · left
      refine ⟨?_, fun _ => ?_⟩
      · rw [zu] at fi
        unfold gX12_holding_174 gX12_holding_209
        simp (disch := omega) only [n_lit, n_of, n_o1, nI_add, pk_mul, nI_ltI, nI_leI, nI_eq, ↓lift_lt, ↓k_mt, ↓k_mp, if_true, if_false, Bool.false_eq_true, Nat.not_lt_zero, Nat.zero_le, Nat.reduceEqDiff, Nat.reduceLeDiff, Nat.reduceLT, mA_15, fi, dn_U, dn_lt, l1, dn_eq, eq_true zM]
      · obtain ⟨kk, k1, k2⟩ := at1
        exact ⟨J kk, kk, (hJ kk k1).1, k1, (hJ kk k1).2, by rw [k2, zM]⟩
    · right
      have known : ∀ kk, kk < nL v → F (J kk) ≤ kwn F n ∧ Exc (nxt v s.2.1) (nL v) (nxt v s.2.1 kk (q i)) (F (J kk)) := fun kk hkk => by
        obtain ⟨p1, p2⟩ := hJ kk hkk
        have := ge kk hkk
        rcases hI _ p1 with ⟨w, -⟩ | w
        · omega
        · rw [p2] at w; exact w
      have qi : q i < 10000 := by
        rcases hI i hi with ⟨-, w⟩ | ⟨w, -⟩
        · exact w
        · have := kwn_le F n
          omega
      have Mk : M ≤ kwn F n := by
        obtain ⟨kk, k1, k2⟩ := at1
        rw [← k2]; exact (known kk k1).1
      have kb := kwn_le F n
      have nU : ¬ M + 1 = 268435457 := by omega
      have ck : kwn (fun j => if j = i then M + 1 else F j) n = kwn F n + 1 := by
        have c1 := csum_one (f := fun y => if F y = 268435457 then 0 else 1) (g := fun y => if (if y = i then M + 1 else F y) = 268435457 then 0 else 1) (k := i) (by
          show (if (if i = i then M + 1 else F i) = 268435457 then 0 else 1) = (if F i = 268435457 then 0 else 1) + 1
          rw [if_pos rfl, if_neg nU, if_pos zu]) (fun y hy => by
          show (if (if y = i then M + 1 else F y) = 268435457 then 0 else 1) = (if F y = 268435457 then 0 else 1)
          rw [if_neg hy]) n
        rw [if_pos hi] at c1
        exact c1
      have ex := Exc_up (nxt_ab v s.2.1) hL0 hL qi (fun kk hkk => (known kk hkk).2) ge at1
      refine ⟨mS m 15 (q i) (dn (M + 1)), fun j => if j = i then M + 1 else F j, ?_, MBx_S B (by omega), ALL_15 A, HVx_S A hF hi, fun j hj => ?_, ck⟩
      · rw [zu] at fi
        unfold gX12_holding_174 gX12_holding_209
        simp (disch := omega) only [n_lit, n_of, n_o1, nI_add, pk_mul, nI_ltI, nI_leI, nI_eq, ↓lift_lt, ↓k_mt, ↓k_mp, if_true, if_false, Bool.false_eq_true, Nat.not_lt_zero, Nat.zero_le, Nat.reduceEqDiff, Nat.reduceLeDiff, Nat.reduceLT, mA_15, fi, dn_U, dn_lt, l1, dn_eq, zM, dn_1, mW_15]
      · show ((if j = i then M + 1 else F j) = 268435457 ∧ q j < 10000) ∨ ((if j = i then M + 1 else F j) ≤ kwn (fun j => if j = i then M + 1 else F j) n ∧ Exc (nxt v s.2.1) (nL v) (q j) (if j = i then M + 1 else F j))
        rw [ck]
        by_cases z : j = i
        · subst z
          rw [if_pos rfl]
          exact Or.inr ⟨by omega, ex⟩
        · rw [if_neg z]
          rcases hI j hj with w | ⟨w1, w2⟩
          · exact Or.inl w
          · exact Or.inr ⟨by omega, w2⟩
  · left
    refine ⟨?_, fun w => absurd w zu⟩
    have lt : F i < 268435457 := by omega
    have k1 : ¬ nL v ≤ 0 := by omega
    have e174 : gX12_holding_174 m x1 (nI i) (nI (q i)) (dn 0) = some (.inl (x1, nI (i + 1), m)) := by
      unfold gX12_holding_174 gX12_holding_209
      simp (disch := omega) only [n_lit, n_of, n_o1, nI_add, pk_mul, nI_ltI, nI_leI, nI_eq, ↓lift_lt, ↓k_mt, ↓k_mp, if_true, if_false, Bool.false_eq_true, Nat.not_lt_zero, Nat.zero_le, Nat.reduceEqDiff, Nat.reduceLeDiff, Nat.reduceLT, mA_15, fi, dn_U, dn_lt, eq_true lt]
    have eb : gX12_holding_101b m x1 (nI i) (nI (q i)) (dn 0) (nI 0) = some (.inr (.inl (x1, nI (i + 1), m))) := by
      unfold gX12_holding_101b
      simp (disch := omega) only [n_lit, n_of, n_o1, nI_add, pk_mul, nI_ltI, nI_leI, nI_eq, ↓lift_lt, ↓k_mt, ↓k_mp, if_true, if_false, Bool.false_eq_true, Nat.not_lt_zero, Nat.zero_le, Nat.reduceEqDiff, Nat.reduceLeDiff, Nat.reduceLT, B.2.2.1, k1, mA_15, fi, dn_U, dn_eq, zu, e174, Option.map_some]
    unfold gX12_holding_101
    exact lpw_r eb
theorem hold_sweep (B : MBx m0 v s m) (A : ALL v s m q D W n) (hF : HVx m q n F) (hI : HIx v s.2.1 q n F) :
    ∃ b m' F', gX12_holding_80 m (nI 0) (nI 0) = some (.inl (nI b, m')) ∧ MBx m0 v s m' ∧ ALL v s m' q D W n ∧ HVx m' q n F' ∧ HIx v s.2.1 q n F' ∧
      ((b = 0 ∧ F' = F ∧ ∀ i, i < n → F i = 268435457 → ∃ j kk, j < n ∧ kk < nL v ∧ q j = nxt v s.2.1 kk (q i) ∧ F j = 268435457) ∨ (b = 1 ∧ kwn F n < kwn F' n)) := by
  have hn := A.2.2.1
  have K := lpw_all (body := fun z : Int32 × Int32 × Mu => gX12_holding_80b z.2.2 z.1 z.2.1)
    (fun k z => ∃ b F', z.1 = nI b ∧ z.2.1 = nI k ∧ MBx m0 v s z.2.2 ∧ ALL v s z.2.2 q D W n ∧ HVx z.2.2 q n F' ∧ HIx v s.2.1 q n F' ∧
      ((b = 0 ∧ F' = F ∧ ∀ i, i < k → F i = 268435457 → ∃ j kk, j < n ∧ kk < nL v ∧ q j = nxt v s.2.1 kk (q i) ∧ F j = 268435457) ∨ (b = 1 ∧ kwn F n < kwn F' n)))
    (fun r => ∃ b m' F', r = .inl (nI b, m') ∧ MBx m0 v s m' ∧ ALL v s m' q D W n ∧ HVx m' q n F' ∧ HIx v s.2.1 q n F' ∧
      ((b = 0 ∧ F' = F ∧ ∀ i, i < n → F i = 268435457 → ∃ j kk, j < n ∧ kk < nL v ∧ q j = nxt v s.2.1 kk (q i) ∧ F j = 268435457) ∨ (b = 1 ∧ kwn F n < kwn F' n))) n ?_ ?_ (nI 0, nI 0, m) ⟨0, F, rfl, rfl, B, A, hF, hI, Or.inl ⟨rfl, rfl, fun i h1 => by omega⟩⟩
  · obtain ⟨r, e, b, m', F', e2, a⟩ := K
    subst e2
    exact ⟨b, m', F', e, a⟩
  · rintro k ⟨z1, z2, z3⟩ hk ⟨b, F', g1, g2, g3, g4, g5, g6, g7⟩
    have g1 : z1 = nI b := g1
    have g2 : z2 = nI k := g2
    subst g1
    subst g2
    have g3 : MBx m0 v s z3 := g3
    have g4 : ALL v s z3 q D W n := g4
    have g5 : HVx z3 q n F' := g5
    obtain ⟨o1, -, o3⟩ := g4.2.2.2.2.1 k hk
    have x33 := g4.2.2.2.1
    have k1 : ¬ n ≤ k := by omega
    show ∃ s', gX12_holding_80b z3 (nI b) (nI k) = some (.inl s') ∧ _
    have eb : gX12_holding_80b z3 (nI b) (nI k) = gX12_holding_101 z3 (nI b) (nI k) (nI (q k)) (dn 0) (nI 0) := by
      unfold gX12_holding_80b
      simp (disch := omega) only [n_lit, n_of, n_o1, nI_add, pk_mul, nI_ltI, nI_leI, nI_eq, ↓lift_lt, ↓k_mt, ↓k_mp, if_true, if_false, Bool.false_eq_true, Nat.not_lt_zero, Nat.zero_le, Nat.reduceEqDiff, Nat.reduceLeDiff, Nat.reduceLT, x33, k1, mA_13, o3, dn_z]
    rw [eb]
    rcases hold_one (x1 := nI b) g3 g4 g5 g6 hk with ⟨e, w⟩ | ⟨m', F2, e, a1, a2, a3, a4, a5⟩
    · refine ⟨_, e, b, F', rfl, rfl, g3, g4, g5, g6, ?_⟩
      rcases g7 with ⟨w1, w2, w3⟩ | w4
      · refine Or.inl ⟨w1, w2, fun i hi hu => ?_⟩
        by_cases z : i = k
        · subst z
          rw [w2] at w
          exact w hu
        · exact w3 i (by omega) hu
      · exact Or.inr w4
    · refine ⟨_, e, 1, F2, rfl, rfl, a1, a2, a3, a4, Or.inr ⟨rfl, ?_⟩⟩
      rcases g7 with ⟨w1, w2, w3⟩ | ⟨-, w4⟩
      · rw [a5, w2]; omega
      · omega
  · rintro ⟨z1, z2, z3⟩ ⟨b, F', g1, g2, g3, g4, g5, g6, g7⟩
    have g1 : z1 = nI b := g1
    have g2 : z2 = nI n := g2
    subst g1
    subst g2
    have g4 : ALL v s z3 q D W n := g4
    have x33 := g4.2.2.2.1
    show ∃ r, gX12_holding_80b z3 (nI b) (nI n) = some (.inr r) ∧ _
    refine ⟨.inl (nI b, z3), ?_, b, z3, F', rfl, g3, g4, g5, g6, g7⟩
    unfold gX12_holding_80b
    simp (disch := omega) only [n_lit, n_of, n_o1, nI_add, pk_mul, nI_ltI, nI_leI, nI_eq, ↓lift_lt, ↓k_mt, ↓k_mp, if_true, if_false, Bool.false_eq_true, Nat.not_lt_zero, Nat.zero_le, Nat.reduceEqDiff, Nat.reduceLeDiff, Nat.reduceLT, x33, Nat.le_refl]
theorem hold_inf (A : ALL v s m q D W n) (hW : wV v) (hI : HIx v s.2.1 q n F) (hs : ∀ i, i < n → F i = 268435457 → ∃ j kk, j < n ∧ kk < nL v ∧ q j = nxt v s.2.1 kk (q i) ∧ F j = 268435457) : ∀ d i, i < n → F i = 268435457 → HLd (nxt v s.2.1) (nL v) (q i) d := by
  have hL := (nL_b hW).2
  have hn := A.2.2.1
  have kb := kwn_le F n
  intro d
  induction d with
  | zero =>
    intro i hi hu
    rcases hI i hi with ⟨-, w⟩ | ⟨w, -⟩
    · exact ⟨0, rfl, w⟩
    · omega
  | succ d ih =>
    intro i hi hu
    obtain ⟨j, kk, j1, j2, j3, j4⟩ := hs i hi hu
    exact HLd_cons hL j2 (by rw [← j3]; exact ih j j1 j4)
theorem q_hold (B : MBx m0 v s m) (A : ALL v s m q D W n) (hF : HVx m q n F) (hI : HIx v s.2.1 q n F) (h0 : s.1 < 10000) :
    ∃ u m', gX12_holding_70 m = some (u, m') ∧ MBx m0 v s m' ∧ ((∃ e, Exc (nxt v s.2.1) (nL v) s.1 (e + 1) ∧ u = nI e) ∨ ((∀ d, HLd (nxt v s.2.1) (nL v) s.1 d) ∧ u = -nI 1)) := by
  have hW := B.1.2.2.1
  obtain ⟨hL0, hL⟩ := nL_b hW
  have hn := A.2.2.1
  have K := lpw_meas (body := fun z : Int32 × Mu => gX12_holding_72b z.2 z.1)
    (fun z => ∃ b F', z.1 = nI b ∧ MBx m0 v s z.2 ∧ ALL v s z.2 q D W n ∧ HVx z.2 q n F' ∧ HIx v s.2.1 q n F' ∧ (b = 1 ∨ (b = 0 ∧ ∀ i, i < n → F' i = 268435457 → ∃ j kk, j < n ∧ kk < nL v ∧ q j = nxt v s.2.1 kk (q i) ∧ F' j = 268435457)))
    (fun r => ∃ u m', r = (u, m') ∧ MBx m0 v s m' ∧ ((∃ e, Exc (nxt v s.2.1) (nL v) s.1 (e + 1) ∧ u = nI e) ∨ ((∀ d, HLd (nxt v s.2.1) (nL v) s.1 d) ∧ u = -nI 1)))
    (fun z => csum (fun i => if z.2.2.1 15 (q i) = dn 268435457 then 1 else 0) n + (if z.1 = nI 0 then 0 else 1)) ?_ (nI 1, m) ⟨1, F, rfl, B, A, hF, hI, Or.inl rfl⟩
  · obtain ⟨r, e, u, m', e2, a⟩ := K
    subst e2
    exact ⟨u, m', e, a⟩
  · rintro ⟨z1, z2⟩ ⟨b, F', g1, g2o, g3o, g4o, g5, g6⟩
    have g1 : z1 = nI b := g1
    subst g1
    have g2 : MBx m0 v s z2 := g2o
    have g3 : ALL v s z2 q D W n := g3o
    have g4 : HVx z2 q n F' := g4o
    have ms : ∀ (m' : Mu) (F2 : Nat → Nat), HVx m' q n F2 → HIx v s.2.1 q n F2 → csum (fun i => if m'.2.1 15 (q i) = dn 268435457 then 1 else 0) n + kwn F2 n = n := fun m' F2 hV hI2 => by
      have e : csum (fun i => if m'.2.1 15 (q i) = dn 268435457 then 1 else 0) n = csum (fun i => if F2 i = 268435457 then 1 else 0) n := csum_eq (fun i hi => by
        have fb := (HIx_b g3 hI2 hi).1
        show (if m'.2.1 15 (q i) = dn 268435457 then 1 else 0) = (if F2 i = 268435457 then 1 else 0)
        rw [hV i hi]
        by_cases z : F2 i = 268435457
        · rw [if_pos z, if_pos (by rw [z])]
        · rw [if_neg z, if_neg (fun w => z ((dn_eq (by omega) (by decide)).mp w))])
      rw [e]
      exact kwn_un F2 n
    rcases g6 with w | ⟨w, g6⟩
    · subst w
      refine Or.inl ?_
      obtain ⟨b', m', F2, e, p1, p2, p3, p4, p5⟩ := hold_sweep g2 g3 g4 g5
      have i1 : ¬ (1 = 0) := by decide
      refine ⟨(nI b', m'), ?_, ⟨b', F2, rfl, p1, p2, p3, p4, ?_⟩, ?_⟩
      · show gX12_holding_72b z2 (nI 1) = _
        unfold gX12_holding_72b
        simp (disch := omega) only [n_lit, n_of, n_o1, nI_add, pk_mul, nI_ltI, nI_leI, nI_eq, ↓lift_lt, ↓k_mt, ↓k_mp, if_true, if_false, Bool.false_eq_true, Nat.not_lt_zero, Nat.zero_le, Nat.reduceEqDiff, Nat.reduceLeDiff, Nat.reduceLT, i1, e]
      · rcases p5 with ⟨w1, w2, w3⟩ | ⟨w1, w2⟩
        · subst w2
          exact Or.inr ⟨w1, w3⟩
        · exact Or.inl w1
      · show csum (fun i => if m'.2.1 15 (q i) = dn 268435457 then 1 else 0) n + (if nI b' = nI 0 then 0 else 1) < csum (fun i => if z2.2.1 15 (q i) = dn 268435457 then 1 else 0) n + (if nI 1 = nI 0 then 0 else 1)
        have m1 := ms _ _ p3 p4
        have m2 := ms _ _ g4 g5
        rw [if_neg (show ¬ nI 1 = nI 0 by decide)]
        rcases p5 with ⟨w1, w2, w3⟩ | ⟨w1, w2⟩
        · rw [w1, if_pos rfl]
          rw [w2] at m1
          omega
        · rw [w1, if_neg (show ¬ nI 1 = nI 0 by decide)]
          omega
    · subst w
      have h0n := g3.1.1
      have q0 : q 0 = s.1 := g3.1.2.1
      have nw := q_nowD g2.1
      have f0 := g4 0 h0n
      have fb := HIx_b g3 g5 h0n
      have hs1 := g2.1.2.2.2.1
      rw [q0] at f0
      have hz := hold_inf g3 hW g5 g6
      refine Or.inr ?_
      show ∃ r, gX12_holding_72b z2 (nI 0) = some (.inr r) ∧ _
      rcases g5 0 h0n with ⟨w, -⟩ | ⟨w1, w2⟩
      · rw [w, dn_s] at f0
        refine ⟨(-nI 1, z2), ?_, -nI 1, z2, rfl, g2, Or.inr ⟨fun d => by rw [← q0]; exact hz d 0 h0n w, rfl⟩⟩
        unfold gX12_holding_72b gX12_holding_218
        simp (disch := omega) only [n_lit, n_of, n_o1, nI_add, pk_mul, nI_ltI, nI_leI, nI_eq, ↓lift_lt, ↓k_mt, ↓k_mp, if_true, if_false, Bool.false_eq_true, Nat.not_lt_zero, Nat.zero_le, Nat.reduceEqDiff, Nat.reduceLeDiff, Nat.reduceLT, nw, mA_15, f0, q_told_no, Option.map_some]
      · rw [q0] at w2
        have kb := kwn_le F' n
        have e0 : ¬ F' 0 = 0 := fun z => by
          rw [z] at w2
          exact w2.2 ⟨0, rfl, h0⟩
        obtain ⟨e, ee⟩ : ∃ e, F' 0 = e + 1 := ⟨F' 0 - 1, by omega⟩
        rw [ee] at w1 w2
        rw [ee, dn_s] at f0
        refine ⟨(nI e, z2), ?_, nI e, z2, rfl, g2, Or.inl ⟨e, w2, rfl⟩⟩
        unfold gX12_holding_72b gX12_holding_218
        simp (disch := omega) only [n_lit, n_of, n_o1, nI_add, pk_mul, nI_ltI, nI_leI, nI_eq, ↓lift_lt, ↓k_mt, ↓k_mp, if_true, if_false, Bool.false_eq_true, Nat.not_lt_zero, Nat.zero_le, Nat.reduceEqDiff, Nat.reduceLeDiff, Nat.reduceLT, nw, mA_15, f0, q_told (show e < 268435456 by omega), Option.map_some]
noncomputable def Hz0 (q : Nat → Nat) (i : Nat) : Nat := if 10000 ≤ q i then 0 else 268435457
theorem q_holding (B : MBx m0 v s m) (A : ALL v s m q D W n) (h0 : s.1 < 10000) :
    ∃ u m', gX12_holding_26 m (nI 0) = some (u, m') ∧ MBx m0 v s m' ∧ ((∃ e, Exc (nxt v s.2.1) (nL v) s.1 (e + 1) ∧ u = nI e) ∨ ((∀ d, HLd (nxt v s.2.1) (nL v) s.1 d) ∧ u = -nI 1)) := by
  have hn := A.2.2.1
  have key : ∀ k, k ≤ n → ∃ m3, MBx m0 v s m3 ∧ ALL v s m3 q D W n ∧ (∀ i, i < k → m3.2.1 15 (q i) = dn (Hz0 q i)) ∧ gX12_holding_26 m (nI 0) = gX12_holding_26 m3 (nI k) := by
    intro k
    induction k with
    | zero => intro _; exact ⟨m, B, A, fun i hi => by omega, rfl⟩
    | succ k ih =>
      intro hk
      obtain ⟨m3, g1, g2, g3, g4⟩ := ih (by omega)
      have hk' : k < n := by omega
      obtain ⟨o1, -, o3⟩ := g2.2.2.2.2.1 k hk'
      have x33 := g2.2.2.2.1
      have k1 : ¬ n ≤ k := by omega
      have i1 : ¬ (1 = 0) := by decide
      refine ⟨mS m3 15 (q k) (dn (Hz0 q k)), MBx_S g1 (by omega), ALL_15 g2, fun i hi => ?_, ?_⟩
      · rw [mS_a, if_pos rfl]
        by_cases z : i = k
        · rw [if_pos (by rw [z]), z]
        · rw [if_neg (fun w => g2.1.2.2.2.2.2.2.2 i k (by omega) hk' w)]
          exact g3 i (by omega)
      · rw [g4]
        have hf := q_hasFallen (show q k < 2 ^ 31 by omega)
        have eb : gX12_holding_26b m3 (nI k) = some (.inl (nI (k + 1), mS m3 15 (q k) (dn (Hz0 q k)))) := by
          unfold gX12_holding_26b gX12_holding_63
          by_cases z : 10000 ≤ q k
          · have e : Hz0 q k = 0 := if_pos z
            rw [e, dn_z]
            rw [if_pos z] at hf
            simp (disch := omega) only [n_lit, n_of, n_o1, nI_add, pk_mul, nI_ltI, nI_leI, nI_eq, ↓lift_lt, ↓k_mt, ↓k_mp, if_true, if_false, Bool.false_eq_true, Nat.not_lt_zero, Nat.zero_le, Nat.reduceEqDiff, Nat.reduceLeDiff, Nat.reduceLT, x33, k1, mA_13, o3, hf, i1, mW_15]
          · have e : Hz0 q k = 268435457 := if_neg z
            rw [e, ← dn_U]
            rw [if_neg z] at hf
            simp (disch := omega) only [n_lit, n_of, n_o1, nI_add, pk_mul, nI_ltI, nI_leI, nI_eq, ↓lift_lt, ↓k_mt, ↓k_mp, if_true, if_false, Bool.false_eq_true, Nat.not_lt_zero, Nat.zero_le, Nat.reduceEqDiff, Nat.reduceLeDiff, Nat.reduceLT, x33, k1, mA_13, o3, hf, mW_15]
        unfold gX12_holding_26
        exact lpw_l eb
  obtain ⟨m3, g1, g2, g3, g4⟩ := key n (Nat.le_refl _)
  have hI : HIx v s.2.1 q n (Hz0 q) := fun i hi => by
    by_cases z : 10000 ≤ q i
    · have e : Hz0 q i = 0 := if_pos z
      refine Or.inr ⟨by rw [e]; exact Nat.zero_le _, ?_⟩
      rw [e]
      refine ⟨fun l hl => by omega, fun ⟨x, x1, x2⟩ => ?_⟩
      have x2 : q i < 10000 := x2
      omega
    · exact Or.inl ⟨if_neg z, by omega⟩
  obtain ⟨u, m', e, r⟩ := q_hold g1 g2 g3 hI h0
  refine ⟨u, m', ?_, r⟩
  rw [g4]
  have x33 := g2.2.2.2.1
  have eb : gX12_holding_26b m3 (nI n) = some (.inr (u, m')) := by
    unfold gX12_holding_26b
    simp (disch := omega) only [n_lit, n_of, n_o1, nI_add, pk_mul, nI_ltI, nI_leI, nI_eq, ↓lift_lt, ↓k_mt, ↓k_mp, if_true, if_false, Bool.false_eq_true, Nat.not_lt_zero, Nat.zero_le, Nat.reduceEqDiff, Nat.reduceLeDiff, Nat.reduceLT, x33, Nat.le_refl, e, Option.map_some]
  unfold gX12_holding_26
  exact lpw_r eb
end HOLDR
section OPS17
variable {T : Nat} {h : Hp} {V : Nat → Cv} {c : Ch} {m : Mu} {x : Sp}
theorem op_holding (gC : RC T h V c x) (gM : RM m x) (hw : WF x) (hT : T ≤ 1000) : OKs T h V (gX11_holding h c) (gX12_holding m) := by
  have hP := hw.2.2.1.1
  have hs := hw.2.2.2.1
  have i1 : ¬ (1 = 0) := by decide
  have i0 : ¬ (0 = 1) := by decide
  have RD0 := RD_now gM hw
  have x24 : (mI m 0 (nI 0)).2.1 1 24 = nI ((zS x).1 / 10000) := RD0.2.1.2.2.2.1
  obtain ⟨-, -, ⟨a0, a3, a3b, hC⟩, a4, -⟩ := gC.1
  have s0 : c.1 (sadr 0) 0 = nI (zS x).1 := a4.1
  unfold gX11_holding gX12_holding
  have hs1 := hs.1
  by_cases zf : (zS x).1 < 10000
  · have d0 : (zS x).1 / 10000 = 0 := by omega
    rw [d0] at x24
    obtain ⟨m', q', D', W', n', em, B, A⟩ := q_laysStands RD0
    obtain ⟨u, m2, ef, B2, FR⟩ := q_holding B A zf
    have RM2 : RM m2 x := RM_kp (RM_0 gM (nI 0)) (mfs_kp B2.2.2.2.2)
    obtain ⟨o, o1, o2⟩ := cv_f hC
    cases hv : vf (zV x) with
    | none =>
      rw [hv] at o2
      have o2 : o = none := o2
      subst o2
      have eu : u = -nI 1 := by
        rcases FR with ⟨e, w1, -⟩ | ⟨-, w⟩
        · have hL0 := (nL_b hw.2.2.1).1
          have row : ∀ e, okd (nL (zV x)) e 0 := fun e => by
            induction e with
            | zero => rfl
            | succ e ih => exact ⟨by rw [Nat.zero_mod]; exact hL0, by rw [Nat.zero_div]; exact ih⟩
          exact absurd ⟨0, row _, no_falls hP hv zf (e + 1) 0⟩ w1.2
        · exact w
      subst eu
      refine ⟨-nI 1, c, m2, x, ?_, ?_, RC_T (by omega) gC, RM2, hw⟩
      · simp (disch := omega) only [n_lit, n_of, n_o1, nI_add, pk_mul, nI_ltI, nI_leI, nI_eq, ↓lift_lt, ↓k_mt, ↓k_mp, if_true, if_false, Bool.false_eq_true, Nat.not_lt_zero, Nat.zero_le, Nat.reduceEqDiff, Nat.reduceLeDiff, Nat.reduceLT, s0, zf, a3, o1]
      · simp (disch := omega) only [n_lit, n_of, n_o1, nI_add, pk_mul, nI_ltI, nI_leI, nI_eq, ↓lift_lt, ↓k_mt, ↓k_mp, if_true, if_false, Bool.false_eq_true, Nat.not_lt_zero, Nat.zero_le, Nat.reduceEqDiff, Nat.reduceLeDiff, Nat.reduceLT, mA_1, x24, i0, em, ef]
    | some code =>
      rw [hv] at o2
      obtain ⟨nn, -, -, o3, -⟩ := o2
      subst o3
      obtain ⟨a, c1, c2, r, e1, eV, s1, e2, R2, f2, S2, C1, st, q, D, W, n, Q, E⟩ := c_all gC hw hT
      rw [← eV] at Q E
      obtain ⟨u', c3, e3, f3, S3, X⟩ := c_hold S2 (by omega) zf Q E
      rw [eV] at X
      have s2 : c2.1 (sadr 0) 0 = nI (zS x).1 := R2.1.2.2.2.1.1
      have eu : u' = u := by
        rcases X with ⟨e, w1, w2⟩ | ⟨w1, w2⟩
        · rcases FR with ⟨e', y1, y2⟩ | ⟨y1, y2⟩
          · have := Exc_one w1 y1
            rw [w2, y2, show e = e' by omega]
          · exact absurd (y1 _) w1.2
        · rcases FR with ⟨e', y1, y2⟩ | ⟨y1, y2⟩
          · exact absurd (w1 _) y1.2
          · rw [w2, y2]
      subst eu
      refine ⟨u', c3, m2, x, ?_, ?_, RC_s gC (sfr_tr f2 f3) (SE_B (by omega) S3), RM2, hw⟩
      · simp (disch := omega) only [n_lit, n_of, n_o1, nI_add, pk_mul, nI_ltI, nI_leI, nI_eq, ↓lift_lt, ↓k_mt, ↓k_mp, if_true, if_false, Bool.false_eq_true, Nat.not_lt_zero, Nat.zero_le, Nat.reduceEqDiff, Nat.reduceLeDiff, Nat.reduceLT, s0, zf, a3, o1, e1, s1.1, e2, s2, e3]
      · simp (disch := omega) only [n_lit, n_of, n_o1, nI_add, pk_mul, nI_ltI, nI_leI, nI_eq, ↓lift_lt, ↓k_mt, ↓k_mp, if_true, if_false, Bool.false_eq_true, Nat.not_lt_zero, Nat.zero_le, Nat.reduceEqDiff, Nat.reduceLeDiff, Nat.reduceLT, mA_1, x24, i0, em, ef]
  · have d1 : (zS x).1 / 10000 = 1 := by omega
    rw [d1] at x24
    refine ⟨-nI 5, c, mI m 0 (nI 0), x, ?_, ?_, RC_T (by omega) gC, RM_0 gM _, hw⟩
    · simp (disch := omega) only [n_lit, n_of, n_o1, nI_add, pk_mul, nI_ltI, nI_leI, nI_eq, ↓lift_lt, ↓k_mt, ↓k_mp, if_true, if_false, Bool.false_eq_true, Nat.not_lt_zero, Nat.zero_le, Nat.reduceEqDiff, Nat.reduceLeDiff, Nat.reduceLT, s0, zf]
    · simp (disch := omega) only [n_lit, n_of, n_o1, nI_add, pk_mul, nI_ltI, nI_leI, nI_eq, ↓lift_lt, ↓k_mt, ↓k_mp, if_true, if_false, Bool.false_eq_true, Nat.not_lt_zero, Nat.zero_le, Nat.reduceEqDiff, Nat.reduceLeDiff, Nat.reduceLT, mA_1, x24]
end OPS17
