/-! rows of so many leadings, counted -/
section ZFA
variable {nx : Nat → Nat → Nat} {L : Nat} {f g : Nat → Nat}
/-- the sum of f over all rows of n leadings -/
def Zf (nx : Nat → Nat → Nat) (L : Nat) (f : Nat → Nat) : Nat → Nat → Nat
  | 0, s => f s
  | n + 1, s => csum (fun k => Zf nx L f n (nx k s)) L
theorem Zf_in : ∀ n s, Zf nx L (fun t => csum (fun k => f (nx k t)) L) n s = Zf nx L f (n + 1) s
  | 0, s => rfl
  | n + 1, s => csum_eq (fun k _ => Zf_in n (nx k s))
theorem csum_c (b : Nat) : ∀ n, csum (fun _ => b) n = n * b
  | 0 => (Nat.zero_mul b).symm
  | n + 1 => by
    show csum (fun _ => b) n + b = (n + 1) * b
    rw [csum_c b n, Nat.add_mul, Nat.one_mul]
theorem Zf_le (h : ∀ s, f s ≤ g s) : ∀ n s, Zf nx L f n s ≤ Zf nx L g n s
  | 0, s => h s
  | n + 1, s => csum_le (fun k _ => Zf_le h n (nx k s))
theorem Zf_one : ∀ n s, Zf nx L (fun _ => 1) n s = L ^ n
  | 0, s => rfl
  | n + 1, s => by
    have e : Zf nx L (fun _ => 1) (n + 1) s = csum (fun _ => L ^ n) L := csum_eq (fun k _ => Zf_one n (nx k s))
    rw [e, csum_c, Nat.pow_succ, Nat.mul_comm]
theorem Zf_b (h : ∀ s, f s ≤ 1) (hL : L ≤ 35) {n : Nat} (hn : n ≤ 8) (s : Nat) : Zf nx L f n s < 2 ^ 62 := by
  have h1 := Zf_le (nx := nx) (L := L) (f := f) (g := fun _ => 1) h n s
  rw [Zf_one] at h1
  have h2 : L ^ n ≤ 35 ^ n := Nat.pow_le_pow_left hL n
  have h3 : 35 ^ n ≤ 35 ^ 8 := Nat.pow_le_pow_right (by decide) hn
  have h4 : 35 ^ 8 < 2 ^ 62 := by decide
  omega
end ZFA
section ROWR
variable {v : Cv} {s : St} {m : Mu} {q D W M : Nat → Nat} {n : Nat}
theorem ALL_j {m' : Mu} (h : jfr m m') (A : ALL v s m q D W n) : ALL v s m' q D W n := by
  unfold ALL QMx at *
  rw [h.1, h.2.1]
  exact A
/-- what is told of many in a year, and the next -/
def MNx (m : Mu) (q : Nat → Nat) (n : Nat) (M : Nat → Nat) : Prop := (∀ t, t < 20000 → m.2.2 17 t = lN (M t) ∧ M t < 2 ^ 62) ∧ ∀ t, t < 20000 → 0 < M t → ∃ i, i < n ∧ q i = t
/-- the leadings of one stand -/
theorem rw_one {x1 x2 : Int32} {y i : Nat} {N : Nat → Nat} (hW : wV v) (A : ALL v s m q D W n) (h21 : m.1 21 = nI (nL v)) (hM : MNx m q n M) (hN : ∀ t, t < 20000 → m.2.2 18 t = lN (N t)) (hNs : ∀ t, t < 20000 → 0 < N t → ∃ i, i < n ∧ q i = t) (hi : i < n) :
    ∃ (m' : Mu) (N' : Nat → Nat), gX12_rows_60 m x1 x2 (nI y) (nI i) (nI 0) = some (.inl (nI (i + 1), m')) ∧ jfr m m' ∧ MNx m' q n M ∧ (∀ t, t < 20000 → m'.2.2 18 t = lN (N' t)) ∧ (∀ t, t < 20000 → 0 < N' t → ∃ i, i < n ∧ q i = t) ∧ ∀ f : Nat → Nat, csum (fun t => N' t * f t) 20000 = csum (fun t => N t * f t) 20000 + M (q i) * csum (fun k => f (nxt v s.2.1 k (q i))) (nL v) := by
  obtain ⟨hL0, hL⟩ := nL_b hW
  obtain ⟨o1, -, o3⟩ := A.2.2.2.2.1 i hi
  have hn := A.2.2.1
  obtain ⟨e17, b17⟩ := hM.1 _ o1
  obtain ⟨J, hJ⟩ := J_of hW A hi
  by_cases z : M (q i) = 0
  · refine ⟨m, N, ?_, jfr_rfl m, hM, hN, hNs, fun f => by rw [z, Nat.zero_mul, Nat.add_zero]⟩
    have g0 : lg_cmp (lN (M (q i))) (lN 0) ≤ nI 0 := (lg_le' _ _).mpr (by rw [z]; exact Int64.le_refl _)
    have k0 : ¬ nL v ≤ 0 := by omega
    have eb : gX12_rows_60b m x1 x2 (nI y) (nI i) (nI 0) = some (.inr (.inl (nI (i + 1), m))) := by
      unfold gX12_rows_60b gX12_rows_130
      simp (disch := omega) only [n_lit, n_of, n_o1, nI_add, pk_mul, nI_ltI, nI_leI, nI_eq, ↓lift_lt, ↓k_mt, ↓k_mp, if_true, if_false, Bool.false_eq_true, Nat.not_lt_zero, Nat.zero_le, Nat.reduceEqDiff, Nat.reduceLeDiff, Nat.reduceLT, n_litL, h21, k0, mA_13, o3, mJ_17, e17, g0, Option.map_some]
    unfold gX12_rows_60
    exact lpw_r eb
  · have g0 : ¬ (lg_cmp (lN (M (q i))) (lN 0) ≤ nI 0) := fun w => by
      have := (pk_lLE (by omega) (by omega)).mp ((lg_le' _ _).mp w)
      omega
    have key : ∀ k, k ≤ nL v → ∃ (m' : Mu) (N' : Nat → Nat), gX12_rows_60 m x1 x2 (nI y) (nI i) (nI 0) = gX12_rows_60 m' x1 x2 (nI y) (nI i) (nI k) ∧ jfr m m' ∧ MNx m' q n M ∧ (∀ t, t < 20000 → m'.2.2 18 t = lN (N' t)) ∧ (∀ t, t < 20000 → 0 < N' t → ∃ i, i < n ∧ q i = t) ∧ ∀ f : Nat → Nat, csum (fun t => N' t * f t) 20000 = csum (fun t => N t * f t) 20000 + M (q i) * csum (fun k => f (nxt v s.2.1 k (q i))) k := by
      intro k
      induction k with
      | zero => intro _; exact ⟨m, N, rfl, jfr_rfl m, hM, hN, hNs, fun f => by show _ = _ + M (q i) * 0; rw [Nat.mul_zero, Nat.add_zero]⟩
      | succ k ih =>
        intro hk
        obtain ⟨m1, N1, g1, g2, g3, g4, g5, g6⟩ := ih (by omega)
        have hk' : k < nL v := by omega
        obtain ⟨p1, p2⟩ := hJ k hk'
        have A1 := ALL_j g2 A
        have o2 := (A.2.2.2.2.1 _ p1).1
        have o3' : m1.2.1 13 i = nI (q i) := by rw [g2.2.1]; exact o3
        have e14 : m1.2.1 14 (35 * q i + k) = nI (q (J k)) := by rw [g2.2.1, p2]; exact A.2.2.2.2.2.2 i k hi hk' (Or.inl hi)
        have e21 : m1.1 21 = nI (nL v) := by rw [g2.1]; exact h21
        have e17' := (g3.1 _ o1).1
        have e18 := g4 _ o2
        have k1 : ¬ nL v ≤ k := by omega
        obtain ⟨m2, em2⟩ : ∃ m2, m2 = mSJ m1 18 (q (J k)) (lN (N1 (q (J k)) + M (q i))) := ⟨_, rfl⟩
        have w2 := mWJ_18 m1 (lN (N1 (q (J k)) + M (q i))) o2
        rw [← em2] at w2
        refine ⟨m2, fun t => if t = q (J k) then N1 t + M (q i) else N1 t, ?_, by rw [em2]; exact jfr_J g2 (by omega), ⟨fun t ht => by rw [em2, mSJ_j, if_neg (by decide)]; exact g3.1 t ht, g3.2⟩, fun t ht => ?_, fun t ht h0 => ?_, fun f => ?_⟩
        · rw [g1]
          have eb : gX12_rows_60b m1 x1 x2 (nI y) (nI i) (nI k) = some (.inl (nI (k + 1), m2)) := by
            unfold gX12_rows_60b
            simp (disch := omega) only [n_lit, n_of, n_o1, nI_add, pk_mul, nI_ltI, nI_leI, nI_eq, ↓lift_lt, ↓k_mt, ↓k_mp, if_true, if_false, Bool.false_eq_true, Nat.not_lt_zero, Nat.zero_le, Nat.reduceEqDiff, Nat.reduceLeDiff, Nat.reduceLT, n_litL, e21, k1, mA_13, o3', mJ_17, e17', g0, mA_14, e14, mJ_18, e18, lN_add, w2]
          unfold gX12_rows_60
          exact lpw_l eb
        · rw [em2, mSJ_j, if_pos rfl]
          show _ = lN (if t = q (J k) then N1 t + M (q i) else N1 t)
          by_cases e : t = q (J k)
          · rw [if_pos e, if_pos e, e]
          · rw [if_neg e, if_neg e]; exact g4 t ht
        · by_cases e : t = q (J k)
          · exact ⟨J k, p1, e.symm⟩
          · have h0 : 0 < (if t = q (J k) then N1 t + M (q i) else N1 t) := h0
            rw [if_neg e] at h0
            exact g5 t ht h0
        · show csum (fun t => (if t = q (J k) then N1 t + M (q i) else N1 t) * f t) 20000 = _ + M (q i) * (csum (fun k => f (nxt v s.2.1 k (q i))) k + f (nxt v s.2.1 k (q i)))
          rw [csum_upd 20000, if_pos o2, g6 f, Nat.mul_add, p2, Nat.add_assoc]
    obtain ⟨m', N', g1, g2, g3, g4, g5, g6⟩ := key (nL v) (Nat.le_refl _)
    refine ⟨m', N', ?_, g2, g3, g4, g5, g6⟩
    rw [g1]
    have e21 : m'.1 21 = nI (nL v) := by rw [g2.1]; exact h21
    have eb : gX12_rows_60b m' x1 x2 (nI y) (nI i) (nI (nL v)) = some (.inr (.inl (nI (i + 1), m'))) := by
      unfold gX12_rows_60b gX12_rows_130
      simp (disch := omega) only [n_lit, n_of, n_o1, nI_add, pk_mul, nI_ltI, nI_leI, nI_eq, ↓lift_lt, ↓k_mt, ↓k_mp, if_true, if_false, Bool.false_eq_true, Nat.not_lt_zero, Nat.zero_le, Nat.reduceEqDiff, Nat.reduceLeDiff, Nat.reduceLT, e21, Nat.le_refl, Option.map_some]
    unfold gX12_rows_60
    exact lpw_r eb
/-- the sum over the row of stands is the sum over all -/
theorem sum_q (A : ALL v s m q D W n) {f : Nat → Nat} (hs : ∀ t, t < 20000 → 0 < f t → ∃ i, i < n ∧ q i = t) : csum (fun i => f (q i)) n = csum f 20000 := by
  rw [csum_idx (f := f) (p := q) (B := 20000) (fun i j a b => A.1.2.2.2.2.2.2.2 i j a b) (fun i hi => (A.2.2.2.2.1 i hi).1)]
  refine csum_eq (fun t ht => ?_)
  show ib (∃ i, i < n ∧ q i = t) * f t = f t
  by_cases z : 0 < f t
  · rw [ib_t (hs t ht z), Nat.one_mul]
  · have : f t = 0 := by omega
    rw [this, Nat.mul_zero]
theorem rw_year {x1 x2 : Int32} {y : Nat} (hW : wV v) (A : ALL v s m q D W n) (h21 : m.1 21 = nI (nL v)) (hM : MNx m q n M) (h18 : ∀ t, t < 20000 → m.2.2 18 t = lN 0) :
    ∃ (m' : Mu) (N : Nat → Nat), gX12_rows_48 m x1 x2 (nI y) (nI 0) = some (.inl (nI (y + 1), m')) ∧ jfr m m' ∧ (∀ t, t < 20000 → m'.2.2 17 t = lN (N t) ∧ m'.2.2 18 t = lN 0) ∧ (∀ t, t < 20000 → 0 < N t → ∃ i, i < n ∧ q i = t) ∧ ∀ f : Nat → Nat, csum (fun t => N t * f t) 20000 = csum (fun t => M t * csum (fun k => f (nxt v s.2.1 k t)) (nL v)) 20000 := by
  have hn := A.2.2.1
  have key : ∀ i, i ≤ n → ∃ (m' : Mu) (N : Nat → Nat), gX12_rows_48 m x1 x2 (nI y) (nI 0) = gX12_rows_48 m' x1 x2 (nI y) (nI i) ∧ jfr m m' ∧ MNx m' q n M ∧ (∀ t, t < 20000 → m'.2.2 18 t = lN (N t)) ∧ (∀ t, t < 20000 → 0 < N t → ∃ i, i < n ∧ q i = t) ∧ ∀ f : Nat → Nat, csum (fun t => N t * f t) 20000 = csum (fun j => M (q j) * csum (fun k => f (nxt v s.2.1 k (q j))) (nL v)) i := by
    intro i
    induction i with
    | zero => intro _; exact ⟨m, fun _ => 0, rfl, jfr_rfl m, hM, h18, fun t ht h0 => absurd h0 (Nat.lt_irrefl 0), fun f => by
        show csum (fun t => 0 * f t) 20000 = 0
        rw [show (fun t => 0 * f t) = fun _ => 0 from funext (fun t => Nat.zero_mul _)]
        exact csum_0 20000⟩
    | succ i ih =>
      intro hi
      obtain ⟨m1, N1, g1, g2, g3, g4, g5, g6⟩ := ih (by omega)
      have e33 : m1.1 33 = nI n := by rw [g2.1]; exact A.2.2.2.1
      have e21 : m1.1 21 = nI (nL v) := by rw [g2.1]; exact h21
      obtain ⟨m2, N2, a1, a2, a3, a4, a5, a6⟩ := rw_one (x1 := x1) (x2 := x2) (y := y) hW (ALL_j g2 A) e21 g3 g4 g5 (show i < n by omega)
      have k1 : ¬ n ≤ i := by omega
      refine ⟨m2, N2, ?_, jfr_tr g2 a2, a3, a4, a5, fun f => ?_⟩
      · rw [g1]
        have eb : gX12_rows_48b m1 x1 x2 (nI y) (nI i) = some (.inl (nI (i + 1), m2)) := by
          unfold gX12_rows_48b
          simp (disch := omega) only [n_lit, n_of, n_o1, nI_add, pk_mul, nI_ltI, nI_leI, nI_eq, ↓lift_lt, ↓k_mt, ↓k_mp, if_true, if_false, Bool.false_eq_true, Nat.not_lt_zero, Nat.zero_le, Nat.reduceEqDiff, Nat.reduceLeDiff, Nat.reduceLT, e33, k1, a1]
        unfold gX12_rows_48
        exact lpw_l eb
      · rw [a6 f, g6 f]
        rfl
  obtain ⟨m1, N, g1, g2, g3, g4, g5, g6⟩ := key n (Nat.le_refl _)
  obtain ⟨m', em, fm, hm⟩ := q_isThen (m := m1) g4
  refine ⟨m', N, ?_, jfr_tr g2 fm, hm, g5, fun f => ?_⟩
  · rw [g1]
    have e33 : m1.1 33 = nI n := by rw [g2.1]; exact A.2.2.2.1
    have eb : gX12_rows_48b m1 x1 x2 (nI y) (nI n) = some (.inr (.inl (nI (y + 1), m'))) := by
      unfold gX12_rows_48b gX12_rows_136
      simp (disch := omega) only [n_lit, n_of, n_o1, nI_add, pk_mul, nI_ltI, nI_leI, nI_eq, ↓lift_lt, ↓k_mt, ↓k_mp, if_true, if_false, Bool.false_eq_true, Nat.not_lt_zero, Nat.zero_le, Nat.reduceEqDiff, Nat.reduceLeDiff, Nat.reduceLT, e33, Nat.le_refl, em, Option.map_some]
    unfold gX12_rows_48
    exact lpw_r eb
  · rw [g6 f]
    refine sum_q A (f := fun t => M t * csum (fun k => f (nxt v s.2.1 k t)) (nL v)) (fun t ht h0 => hM.2 t ht ?_)
    apply Classical.byContradiction
    intro hc
    have e0 : M t = 0 := by omega
    have h0 : 0 < M t * csum (fun k => f (nxt v s.2.1 k t)) (nL v) := h0
    rw [e0, Nat.zero_mul] at h0
    omega
theorem q_rows {b T : Nat} (hb : b < 2 ^ vP v) (hT : T ≤ 8) (hR : RD m v s) (A : ALL v s m q D W n) (h21 : m.1 21 = nI (nL v)) (h1718 : ∀ t, t < 20000 → m.2.2 17 t = lN (if t = s.1 then 1 else 0) ∧ m.2.2 18 t = lN 0) :
    ∃ m', gX12_rows_40 m (nI b) (nI T) (nI 0) = some (lN (Zf (nxt v s.2.1) (nL v) (fun t => ib (Gp (vP v) (nI b) t)) T s.1), m') ∧ jfr m m' := by
  have hW := hR.2.2.1
  have hP := hW.1
  obtain ⟨hL0, hL⟩ := nL_b hW
  have hs := hR.2.2.2.1
  have hn := A.2.2.1
  have p16 := pow2_le hP
  have bd : ∀ k, k ≤ 8 → ∀ M : Nat → Nat, (∀ f : Nat → Nat, csum (fun t => M t * f t) 20000 = Zf (nxt v s.2.1) (nL v) f k s.1) → ∀ t, t < 20000 → M t < 2 ^ 62 := fun k hk M hM t ht => by
    have h1 := hM (fun _ => 1)
    have h2 := csum_ge (f := fun t => M t * 1) ht
    have h3 := Zf_b (nx := nxt v s.2.1) (f := fun _ => 1) (fun _ => Nat.le_refl _) hL hk s.1
    have h4 : M t * 1 ≤ Zf (nxt v s.2.1) (nL v) (fun _ => 1) k s.1 := by rw [← h1]; exact h2
    omega
  have key : ∀ k, k ≤ T → ∃ (m' : Mu) (M : Nat → Nat), gX12_rows_40 m (nI b) (nI T) (nI 0) = gX12_rows_40 m' (nI b) (nI T) (nI k) ∧ jfr m m' ∧ (∀ t, t < 20000 → m'.2.2 17 t = lN (M t) ∧ m'.2.2 18 t = lN 0) ∧ (∀ t, t < 20000 → 0 < M t → ∃ i, i < n ∧ q i = t) ∧ ∀ f : Nat → Nat, csum (fun t => M t * f t) 20000 = Zf (nxt v s.2.1) (nL v) f k s.1 := by
    intro k
    induction k with
    | zero => intro _; exact ⟨m, fun t => if t = s.1 then 1 else 0, rfl, jfr_rfl m, h1718, fun t ht h0 => by
        by_cases e : t = s.1
        · exact ⟨0, A.1.1, by rw [A.1.2.1, e]⟩
        · have h0 : 0 < (if t = s.1 then 1 else 0) := h0
          rw [if_neg e] at h0
          omega, fun f => by rw [csum_dl, if_pos hs]; rfl⟩
    | succ k ih =>
      intro hk
      obtain ⟨m1, M1, g1, g2, g3, g4, g5⟩ := ih (by omega)
      have e21 : m1.1 21 = nI (nL v) := by rw [g2.1]; exact h21
      obtain ⟨m2, N, a1, a2, a3, a4, a5⟩ := rw_year (x1 := nI b) (x2 := nI T) (y := k) hW (ALL_j g2 A) e21 ⟨fun t ht => ⟨(g3 t ht).1, bd k (by omega) M1 g5 t ht⟩, g4⟩ (fun t ht => (g3 t ht).2)
      have k1 : ¬ T ≤ k := by omega
      refine ⟨m2, N, ?_, jfr_tr g2 a2, a3, a4, fun f => ?_⟩
      · rw [g1]
        have eb : gX12_rows_40b m1 (nI b) (nI T) (nI k) = some (.inl (nI (k + 1), m2)) := by
          unfold gX12_rows_40b
          simp (disch := omega) only [n_lit, n_of, n_o1, nI_add, pk_mul, nI_ltI, nI_leI, nI_eq, ↓lift_lt, ↓k_mt, ↓k_mp, if_true, if_false, Bool.false_eq_true, Nat.not_lt_zero, Nat.zero_le, Nat.reduceEqDiff, Nat.reduceLeDiff, Nat.reduceLT, k1, a1]
        unfold gX12_rows_40
        exact lpw_l eb
      · rw [a5 f, g5, Zf_in]
  obtain ⟨m1, M, g1, g2, g3, g4, g5⟩ := key T (Nat.le_refl _)
  have e33 : m1.1 33 = nI n := by rw [g2.1]; exact A.2.2.2.1
  have A1 := ALL_j g2 A
  have fin : gX12_rows_151 m1 (nI b) (lN 0) (nI 0) = some (lN (csum (fun i => M (q i) * ib (Gp (vP v) (nI b) (q i))) n), m1) := by
    unfold gX12_rows_151
    refine lpw_iter (body := fun z : Int64 × Int32 => gX12_rows_151b m1 (nI b) z.1 z.2) (fun k => (lN (csum (fun i => M (q i) * ib (Gp (vP v) (nI b) (q i))) k), nI k)) n _ ?_ ?_
    · intro k hk
      obtain ⟨o1, -, o3⟩ := A1.2.2.2.2.1 k hk
      have k1 : ¬ n ≤ k := by omega
      have mi := q_metIn hP (show m1.2.1 1 1 = nI (vP v) by rw [g2.2.1]; exact hR.1.2.1) (show q k < 2 ^ 31 by omega)
      have ml := metb_lt (vP v) (q k)
      have le : metb (vP v) (q k) &&& b ≤ b := Nat.and_le_right
      have e17 := (g3 _ o1).1
      show gX12_rows_151b m1 (nI b) (lN (csum (fun i => M (q i) * ib (Gp (vP v) (nI b) (q i))) k)) (nI k) = some (.inl (lN (csum (fun i => M (q i) * ib (Gp (vP v) (nI b) (q i))) k + M (q k) * ib (Gp (vP v) (nI b) (q k))), nI (k + 1)))
      unfold gX12_rows_151b gX12_rows_194
      by_cases z : metb (vP v) (q k) &&& b = b
      · rw [ib_t ((Gp_b hP hb).mpr z), Nat.mul_one]
        simp (disch := omega) only [n_lit, n_of, n_o1, nI_add, pk_mul, nI_ltI, nI_leI, nI_eq, ↓lift_lt, ↓k_mt, ↓k_mp, if_true, if_false, Bool.false_eq_true, Nat.not_lt_zero, Nat.zero_le, Nat.reduceEqDiff, Nat.reduceLeDiff, Nat.reduceLT, n_litL, e33, k1, mA_13, o3, mi, n_and, eq_true z, mJ_17, e17, lN_add]
      · rw [ib_f (fun w => z ((Gp_b hP hb).mp w)), Nat.mul_zero]
        simp (disch := omega) only [n_lit, n_of, n_o1, nI_add, pk_mul, nI_ltI, nI_leI, nI_eq, ↓lift_lt, ↓k_mt, ↓k_mp, if_true, if_false, Bool.false_eq_true, Nat.not_lt_zero, Nat.zero_le, Nat.reduceEqDiff, Nat.reduceLeDiff, Nat.reduceLT, n_litL, e33, k1, mA_13, o3, mi, n_and, z, lN_add]
    · show gX12_rows_151b m1 (nI b) (lN (csum (fun i => M (q i) * ib (Gp (vP v) (nI b) (q i))) n)) (nI n) = _
      unfold gX12_rows_151b
      simp (disch := omega) only [n_lit, n_of, n_o1, nI_add, pk_mul, nI_ltI, nI_leI, nI_eq, ↓lift_lt, ↓k_mt, ↓k_mp, if_true, if_false, Bool.false_eq_true, Nat.not_lt_zero, Nat.zero_le, Nat.reduceEqDiff, Nat.reduceLeDiff, Nat.reduceLT, e33, Nat.le_refl]
  refine ⟨m1, ?_, g2⟩
  rw [g1]
  have es : csum (fun i => M (q i) * ib (Gp (vP v) (nI b) (q i))) n = Zf (nxt v s.2.1) (nL v) (fun t => ib (Gp (vP v) (nI b) t)) T s.1 := by
    rw [← g5]
    refine sum_q A (f := fun t => M t * ib (Gp (vP v) (nI b) t)) (fun t ht h0 => g4 t ht ?_)
    apply Classical.byContradiction
    intro hc
    have e0 : M t = 0 := by omega
    have h0 : 0 < M t * ib (Gp (vP v) (nI b) t) := h0
    rw [e0, Nat.zero_mul] at h0
    omega
  rw [es] at fin
  have eb : gX12_rows_40b m1 (nI b) (nI T) (nI T) = some (.inr (lN (Zf (nxt v s.2.1) (nL v) (fun t => ib (Gp (vP v) (nI b) t)) T s.1), m1)) := by
    unfold gX12_rows_40b gX12_rows_146
    simp (disch := omega) only [n_lit, n_of, n_o1, nI_add, pk_mul, nI_ltI, nI_leI, nI_eq, ↓lift_lt, ↓k_mt, ↓k_mp, if_true, if_false, Bool.false_eq_true, Nat.not_lt_zero, Nat.zero_le, Nat.reduceEqDiff, Nat.reduceLeDiff, Nat.reduceLT, n_litL, Nat.le_refl, fin, Option.map_some]
  unfold gX12_rows_40
  exact lpw_r eb
end ROWR
