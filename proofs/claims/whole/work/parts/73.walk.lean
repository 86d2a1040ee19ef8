/-! years one behind the other: they come round again -/
theorem itr_add (F : Nat → Nat) (s n : Nat) : ∀ k, itr F s (n + k) = itr F (itr F s n) k
  | 0 => rfl
  | k + 1 => congrArg F (itr_add F s n k)
theorem itr_per {F : Nat → Nat} {s i j : Nat} (e : itr F s i = itr F s j) (k : Nat) : itr F s (i + k) = itr F s (j + k) := by rw [itr_add, itr_add, e]
theorem itr_mod {F : Nat → Nat} {s a b : Nat} (hab : a < b) (e : itr F s a = itr F s b) : ∀ n, a ≤ n → itr F s n = itr F s (a + (n - a) % (b - a)) := by
  intro n
  induction n using Nat.strongRecOn with
  | _ n ih =>
    intro hn
    by_cases h1 : n < b
    · rw [Nat.mod_eq_of_lt (by omega), show a + (n - a) = n by omega]
    · have h2 := ih (n - (b - a)) (by omega) (by omega)
      have h3 : itr F s n = itr F s (n - (b - a)) := by
        have := itr_per e (n - b)
        rw [show b + (n - b) = n by omega, show a + (n - b) = n - (b - a) by omega] at this
        exact this.symm
      have h4 : (n - a) % (b - a) = (n - (b - a) - a) % (b - a) := by
        rw [show n - a = (n - (b - a) - a) + (b - a) by omega, Nat.add_mod_right]
      rw [h3, h2, h4]
theorem inj_le {f : Nat → Nat} {n B : Nat} (hi : ∀ i j, i < j → j < n → f i ≠ f j) (hb : ∀ i, i < n → f i < B) : n ≤ B := by
  have h1 : ((List.range n).map f).Nodup := by
    unfold List.Nodup
    rw [List.pairwise_map]
    exact List.Pairwise.imp_of_mem (fun {a b} _ hb' hab => hi a b hab (List.mem_range.mp hb')) List.pairwise_lt_range
  have h2 : (List.range n).map f ⊆ List.range B := by
    intro y hy
    obtain ⟨i, hi', e⟩ := List.mem_map.mp hy
    rw [← e]
    exact List.mem_range.mpr (hb i (List.mem_range.mp hi'))
  have := h1.length_le_of_subset h2
  rw [List.length_map, List.length_range, List.length_range] at this
  exact this
theorem pigeon {f : Nat → Nat} {B : Nat} (hb : ∀ i, f i < B) : ∃ i j, i < j ∧ j ≤ B ∧ f i = f j := by
  apply Classical.byContradiction
  intro hn
  have := inj_le (f := f) (n := B + 1) (B := B) (fun i j h1 h2 e => hn ⟨i, j, h1, by omega, e⟩) (fun i _ => hb i)
  omega
/-- the first number at which something is so; -1: it never is -/
def fst1 (Q : Nat → Prop) (r : Int32) : Prop := (∃ n, n < 2 ^ 30 ∧ r = nI n ∧ Q n ∧ ∀ k, k < n → ¬ Q k) ∨ (r = -nI 1 ∧ ∀ n, ¬ Q n)
theorem fst1_one {Q : Nat → Prop} {r r' : Int32} (h : fst1 Q r) (h' : fst1 Q r') : r = r' := by
  rcases h with ⟨n, _, e, q, l⟩ | ⟨e, l⟩
  · rcases h' with ⟨n', _, e', q', l'⟩ | ⟨e', l'⟩
    · have : n = n' := by
        rcases Nat.lt_trichotomy n n' with c | c | c
        · exact absurd q (l' n c)
        · exact c
        · exact absurd q' (l n' c)
      rw [e, e', this]
    · exact absurd q (l' n)
  · rcases h' with ⟨n', _, e', q', l'⟩ | ⟨e', l'⟩
    · exact absurd q' (l n')
    · rw [e, e']
/-- a number isn't none -/
theorem nI_ne1 {n : Nat} (h : n < 2 ^ 31) : ¬ nI n = -nI 1 := by
  intro e
  have := congrArg Int32.toInt e
  rw [nI_toInt h] at this
  have h2 : (-nI 1).toInt = -1 := by decide
  omega
/-! the reference lays the years -/
def LED (F : Nat → Nat) (s : Nat) (m : Mu) : Prop := ∃ tl N, m.1 27 = nI tl ∧ m.1 28 = nI (N - tl) ∧ tl < N ∧ N ≤ 20000 ∧ itr F s tl = itr F s N ∧ ∀ i, i < N → m.2.1 11 i = nI (itr F s i)
def lfr (m m' : Mu) : Prop := (∀ r, ¬ r = 27 → ¬ r = 28 → m'.1 r = m.1 r) ∧ m'.2.2 = m.2.2 ∧ ∀ r, ¬ (5 ≤ r ∧ r ≤ 8) → ¬ r = 11 → ¬ r = 12 → m'.2.1 r = m.2.1 r
theorem lfr_tr {m m' m'' : Mu} (h : lfr m m') (h' : lfr m' m'') : lfr m m'' := ⟨fun r a b => (h'.1 r a b).trans (h.1 r a b), h'.2.1.trans h.2.1, fun r a b c => (h'.2.2 r a b c).trans (h.2.2 r a b c)⟩
theorem lfr_kp {m m' : Mu} (h : lfr m m') : kpM m m' := ⟨h.2.2 1 (by omega) (by omega) (by omega), h.2.2 2 (by omega) (by omega) (by omega), h.2.2 3 (by omega) (by omega) (by omega), h.2.2 21 (by omega) (by omega) (by omega), h.2.2 22 (by omega) (by omega) (by omega), by rw [h.2.1], h.1 5 (by omega) (by omega), h.1 13 (by omega) (by omega), h.1 14 (by omega) (by omega)⟩
theorem lfr_RD {m m' : Mu} {v : Cv} {s : St} (h : lfr m m') (Q : RD m v s) : RD m' v s := by
  unfold RD
  rw [h.2.2 1 (by omega) (by omega) (by omega)]
  exact Q
section LEDM
variable {m : Mu} {v : Cv} {s : St}
theorem q_laysLed {l : Nat} (Q : RD m v s) (hl : l < 2 ^ 31) : ∃ m', gX12_laysLed m (nI l) = some m' ∧ LED (fun t => Yr v s.2.1 t l 0) s.1 m' ∧ lfr m m' := by
  obtain ⟨hR, hb, hW, hs⟩ := Q
  have hP := hW.1
  obtain ⟨F, hF⟩ : ∃ F : Nat → Nat, F = fun t => Yr v s.2.1 t l 0 := ⟨_, rfl⟩
  rw [← hF]
  have ok : ∀ k, itr F s.1 k < 20000 := fun k => by rw [hF]; exact (itr_ok hP hs.1 hs.2.1 _ _ k).1
  obtain ⟨m1, em1, f1, t1⟩ := q_laysTables (m := m) (ch := s.2.1) hW hR (fun p hp => by rw [show 19 + p = 15 + (4 + p) by omega]; exact hb.2.1 p hp)
  have A1 : ∀ r, ¬ (5 ≤ r ∧ r ≤ 8) → Ar58 r = false := fun r hr => by
    unfold Ar58
    simp only [Bool.or_eq_false_iff, decide_eq_false_iff_not]
    omega
  unfold gX12_laysLed
  simp (disch := omega) only [n_lit, n_of, n_o1, nI_add, pk_mul, nI_ltI, nI_leI, nI_eq, ↓lift_lt, ↓k_mt, ↓k_mp, if_true, if_false, Bool.false_eq_true, Nat.not_lt_zero, Nat.zero_le, Nat.reduceEqDiff, Nat.reduceLeDiff, Nat.reduceLT, em1]
  unfold gX12_laysLed_6
  have L := lpw_all (body := fun q : Int32 × Mu => gX12_laysLed_6b q.2 (nI l) q.1)
    (fun k q => q.1 = nI k ∧ q.2.1 = m1.1 ∧ q.2.2.2 = m1.2.2 ∧ (∀ r, ¬ r = 12 → q.2.2.1 r = m1.2.1 r) ∧ ∀ j, j < k → q.2.2.1 12 j = -nI 1)
    (fun m' => LED F s.1 m' ∧ lfr m m') 20000 ?_ ?_ (nI 0, m1) ⟨rfl, rfl, rfl, fun _ _ => rfl, fun j hj => by omega⟩
  · exact L
  · intro k q hk ⟨e1, e2, e3, e4, e5⟩
    have k1 : ¬ 20000 ≤ k := by omega
    show ∃ s', gX12_laysLed_6b q.2 (nI l) q.1 = some (.inl s') ∧ _
    rw [e1]
    unfold gX12_laysLed_6b
    simp (disch := omega) only [n_lit, n_of, n_o1, nI_add, pk_mul, nI_ltI, nI_leI, nI_eq, ↓lift_lt, ↓k_mt, ↓k_mp, if_true, if_false, Bool.false_eq_true, Nat.not_lt_zero, Nat.zero_le, Nat.reduceEqDiff, Nat.reduceLeDiff, Nat.reduceLT, k1, mW_12]
    refine ⟨_, rfl, rfl, e2, e3, fun r hr => ?_, fun j hj => ?_⟩
    · rw [← e4 r hr]; exact mS_ne _ _ _ hr
    · rw [mS_a, if_pos rfl]
      by_cases z : j = k
      · rw [if_pos z]
      · rw [if_neg z]; exact e5 j (by omega)
  · intro q ⟨e1, e2, e3, e4, e5⟩
    have r1 : q.2.2.1 1 = m.2.1 1 := by rw [e4 1 (by decide)]; exact f1.2.2 1 rfl
    have T2 : tabs v s.2.1 q.2 := by
      unfold tabs
      rw [e4 7 (by decide), e4 8 (by decide)]
      exact t1
    have Q2 : RD q.2 v s := by unfold RD; rw [r1]; exact ⟨hR, hb, hW, hs⟩
    have M : ∃ m', gX12_laysLed_33 q.2 (nI l) (nI s.1) (nI 0) = some m' ∧ LED F s.1 m' ∧ lfr m m' := by
      unfold gX12_laysLed_33
      have K := lpw_meas (body := fun z : Int32 × Int32 × Mu => gX12_laysLed_33b z.2.2 (nI l) z.1 z.2.1)
        (fun z => ∃ n, n ≤ 20000 ∧ z.1 = nI (itr F s.1 n) ∧ z.2.1 = nI n ∧ (∀ i j, i < j → j < n → itr F s.1 i ≠ itr F s.1 j) ∧ z.2.2.1 = m1.1 ∧ z.2.2.2.2 = m1.2.2 ∧ (∀ r, ¬ r = 11 → ¬ r = 12 → z.2.2.2.1 r = m1.2.1 r) ∧ (∀ i, i < n → z.2.2.2.1 11 i = nI (itr F s.1 i)) ∧ (∀ i, i < n → z.2.2.2.1 12 (itr F s.1 i) = nI i) ∧ ∀ t, t < 20000 → (∀ i, i < n → itr F s.1 i ≠ t) → z.2.2.2.1 12 t = -nI 1)
        (fun m' => LED F s.1 m' ∧ lfr m m') (fun z => 20001 - z.2.1.toNatClampNeg) ?_ (nI s.1, nI 0, q.2) ⟨0, by decide, rfl, rfl, fun i j _ h2 => by omega, e2, e3, fun r _ h2 => e4 r h2, fun i hi => by omega, fun i hi => by omega, fun t ht _ => e5 t ht⟩
      · exact K
      · rintro ⟨z1, z2, z3⟩ ⟨n, hn, g1, g2, g3, g4, g5, g6, g7, g8, g9⟩
        have g1 : z1 = nI (itr F s.1 n) := g1
        have g2 : z2 = nI n := g2
        subst g1 g2
        have okn := ok n
        show (∃ s', gX12_laysLed_33b z3 (nI l) (nI (itr F s.1 n)) (nI n) = some (.inl s') ∧ _) ∨ (∃ r, gX12_laysLed_33b z3 (nI l) (nI (itr F s.1 n)) (nI n) = some (.inr r) ∧ _)
        unfold gX12_laysLed_33b
        by_cases hx : ∃ i, i < n ∧ itr F s.1 i = itr F s.1 n
        · obtain ⟨i, hi, ei⟩ := hx
          refine Or.inr ?_
          have gi : z3.2.1 12 (itr F s.1 n) = nI i := by rw [← ei]; exact g8 i hi
          have i1 := nI_ne1 (n := i) (by omega)
          unfold gX12_laysLed_71
          have k27 : (mI z3 27 (nI i)).1 27 = nI i := by rw [mI_f, if_pos rfl]
          simp (disch := omega) only [n_lit, n_of, n_o1, nI_add, pk_mul, nI_ltI, nI_leI, nI_eq, ↓lift_lt, ↓k_mt, ↓k_mp, if_true, if_false, Bool.false_eq_true, Nat.not_lt_zero, Nat.zero_le, Nat.reduceEqDiff, Nat.reduceLeDiff, Nat.reduceLT, mA_12, gi, i1, k27, pk_sub]
          refine ⟨_, rfl, ⟨i, n, ?_, ?_, hi, hn, ei, g7⟩, fun r a b => ?_, ?_, fun r a b c => ?_⟩
          · rw [mI_f, if_neg (by decide), mI_f, if_pos rfl]
          · rw [mI_f, if_pos rfl]
          · rw [mI_f, if_neg b, mI_f, if_neg a]
            show z3.1 r = m.1 r
            have g4 : z3.1 = m1.1 := g4
            rw [g4, f1.1]
          · show z3.2.2 = m.2.2
            have g5 : z3.2.2 = m1.2.2 := g5
            rw [g5, f1.2.1]
          · show z3.2.1 r = m.2.1 r
            have g6 := g6 r b c
            have g6 : z3.2.1 r = m1.2.1 r := g6
            rw [g6]
            exact f1.2.2 r (A1 r a)
        · refine Or.inl ?_
          have hne : ∀ i, i < n → itr F s.1 i ≠ itr F s.1 n := fun i hi e => hx ⟨i, hi, e⟩
          have hinj : ∀ i j, i < j → j < n + 1 → itr F s.1 i ≠ itr F s.1 j := fun i j h1 h2 => by
            by_cases z : j = n
            · rw [z]; exact hne i (by omega)
            · exact g3 i j h1 (by omega)
          have hn1 : n + 1 ≤ 20000 := inj_le hinj (fun i _ => ok i)
          have gn : z3.2.1 12 (itr F s.1 n) = -nI 1 := g9 _ okn hne
          have y1 : (mS (mS z3 12 (itr F s.1 n) (nI n)) 11 n (nI (itr F s.1 n))).2.1 1 1 = nI (vP v) := by
            have g6 := g6 1 (by decide) (by decide)
            have g6 : z3.2.1 1 = m1.2.1 1 := g6
            rw [mS_a, if_neg (by decide), mS_a, if_neg (by decide), g6, f1.2.2 1 rfl]
            exact hR.2.1
          have tT : tabs v s.2.1 (mS (mS z3 12 (itr F s.1 n) (nI n)) 11 n (nI (itr F s.1 n))) := by
            have g7' : z3.2.1 7 = m1.2.1 7 := g6 7 (by decide) (by decide)
            have g8' : z3.2.1 8 = m1.2.1 8 := g6 8 (by decide) (by decide)
            unfold tabs
            rw [mS_ne _ _ _ (by decide), mS_ne _ _ _ (by decide), mS_ne _ _ _ (by decide), mS_ne _ _ _ (by decide), g7', g8']
            exact t1
          have ey := q_yearBy (m := mS (mS z3 12 (itr F s.1 n) (nI n)) 11 n (nI (itr F s.1 n))) (v := v) (ch := s.2.1) (s := itr F s.1 n) (l := l) (dry := 0) hP y1 tT okn hl (by decide)
          have eF : Yr v s.2.1 (itr F s.1 n) l 0 = itr F s.1 (n + 1) := by
            show _ = F (itr F s.1 n)
            rw [hF]
          rw [eF] at ey
          simp (disch := omega) only [n_lit, n_of, n_o1, nI_add, pk_mul, nI_ltI, nI_leI, nI_eq, ↓lift_lt, ↓k_mt, ↓k_mp, if_true, if_false, Bool.false_eq_true, Nat.not_lt_zero, Nat.zero_le, Nat.reduceEqDiff, Nat.reduceLeDiff, Nat.reduceLT, mA_12, gn, mW_12, mW_11, ey]
          refine ⟨_, rfl, ⟨n + 1, hn1, rfl, rfl, hinj, g4, g5, fun r a b => ?_, fun i hi => ?_, fun i hi => ?_, fun t ht htn => ?_⟩, ?_⟩
          · show (mS (mS z3 12 (itr F s.1 n) (nI n)) 11 n (nI (itr F s.1 n))).2.1 r = _
            rw [mS_ne _ _ _ a, mS_ne _ _ _ b]; exact g6 r a b
          · rw [mS_a, if_pos rfl]
            by_cases z : i = n
            · rw [if_pos z, z]
            · rw [if_neg z, mS_a, if_neg (by decide)]; exact g7 i (by omega)
          · rw [mS_a, if_neg (by decide), mS_a, if_pos rfl]
            by_cases z : i = n
            · rw [if_pos (by rw [z]), z]
            · rw [if_neg (hne i (by omega))]; exact g8 i (by omega)
          · rw [mS_a, if_neg (by decide), mS_a, if_pos rfl, if_neg (fun q => htn n (by omega) q.symm)]
            exact g9 t ht (fun i hi => htn i (by omega))
          · show 20001 - (nI (n + 1)).toNatClampNeg < 20001 - (nI n).toNatClampNeg
            rw [nI_clamp (by omega), nI_clamp (by omega)]
            omega
    obtain ⟨m', em, a1, a2⟩ := M
    show ∃ r, gX12_laysLed_6b q.2 (nI l) q.1 = some (.inr r) ∧ _
    rw [e1]
    unfold gX12_laysLed_6b gX12_laysLed_26
    simp (disch := omega) only [n_lit, n_of, n_o1, nI_add, pk_mul, nI_ltI, nI_leI, nI_eq, ↓lift_lt, ↓k_mt, ↓k_mp, if_true, if_false, Bool.false_eq_true, Nat.not_lt_zero, Nat.zero_le, Nat.reduceEqDiff, Nat.reduceLeDiff, Nat.reduceLT, Nat.le_refl, q_nowD Q2, em]
    exact ⟨_, rfl, a1, a2⟩
theorem q_ledAt {F : Nat → Nat} {t n : Nat} (hL : LED F t m) (hn : n < 100000) : gX12_ledAt m (nI n) = some (nI (itr F t n)) := by
  obtain ⟨tl, N, a1, a2, a3, a4, a5, a6⟩ := hL
  unfold gX12_ledAt gX12_ledAt_32
  by_cases h1 : tl ≤ n
  · have h2 : (n - tl) % (N - tl) < N - tl := Nat.mod_lt _ (by omega)
    have h3 : tl + (n - tl) % (N - tl) < 20001 := by omega
    have h4 : m.2.1 11 (tl + (n - tl) % (N - tl)) = nI (itr F t n) := by rw [a6 _ (by omega), ← itr_mod a3 a5 n h1]
    simp (disch := omega) only [n_lit, n_of, n_o1, nI_add, pk_mul, nI_ltI, nI_leI, nI_eq, ↓lift_lt, ↓k_mt, ↓k_mp, if_true, if_false, Bool.false_eq_true, Nat.not_lt_zero, Nat.zero_le, Nat.reduceEqDiff, Nat.reduceLeDiff, Nat.reduceLT, a1, a2, h1, pk_sub, n_rm, mA_11, h4]
  · simp (disch := omega) only [n_lit, n_of, n_o1, nI_add, pk_mul, nI_ltI, nI_leI, nI_eq, ↓lift_lt, ↓k_mt, ↓k_mp, if_true, if_false, Bool.false_eq_true, Nat.not_lt_zero, Nat.zero_le, Nat.reduceEqDiff, Nat.reduceLeDiff, Nat.reduceLT, a1, h1, mA_11, a6 n (by omega)]
/-- found among those that are laid, or nowhere -/
theorem led_all {F : Nat → Nat} {t tl N : Nat} {Q : Nat → Prop} (a3 : tl < N) (a5 : itr F t tl = itr F t N) (h : ∀ i, i < N → ¬ Q (itr F t i)) : ∀ n, ¬ Q (itr F t n) := by
  intro n
  by_cases h1 : n < N
  · exact h n h1
  · rw [itr_mod a3 a5 n (by omega)]
    have h2 : (n - tl) % (N - tl) < N - tl := Nat.mod_lt _ (by omega)
    exact h _ (by omega)
theorem q_metAt {F : Nat → Nat} {t p : Nat} (hL : LED F t m) (hok : ∀ k, itr F t k < 20000) (hp : p < 4) : ∃ r, gX12_metAt m (nI p) = some r ∧ fst1 (fun n => dg (itr F t n) p = 0) r := by
  obtain ⟨tl, N, a1, a2, a3, a4, a5, a6⟩ := hL
  unfold gX12_metAt gX12_metAt_2
  have eN : tl + (N - tl) = N := by omega
  refine lpw_inv (body := fun q : Int32 => gX12_metAt_2b m (nI p) q) (fun k q => q = nI k ∧ ∀ i, i < k → ¬ dg (itr F t i) p = 0) (fun r => fst1 (fun n => dg (itr F t n) p = 0) r) N ?_ ?_ (nI 0) ⟨rfl, fun i hi => by omega⟩
  · intro k q hk ⟨e1, e2⟩
    subst e1
    have k1 : ¬ N ≤ k := by omega
    have okk := hok k
    have hdg := dg_lt (itr F t k) p
    show (∃ s', gX12_metAt_2b m (nI p) (nI k) = some (.inl s') ∧ _) ∨ (∃ r, gX12_metAt_2b m (nI p) (nI k) = some (.inr r) ∧ _)
    unfold gX12_metAt_2b
    by_cases z : dg (itr F t k) p = 0
    · refine Or.inr ⟨nI k, ?_, Or.inl ⟨k, by omega, rfl, z, e2⟩⟩
      simp (disch := omega) only [n_lit, n_of, n_o1, nI_add, pk_mul, nI_ltI, nI_leI, nI_eq, ↓lift_lt, ↓k_mt, ↓k_mp, if_true, if_false, Bool.false_eq_true, Nat.not_lt_zero, Nat.zero_le, Nat.reduceEqDiff, Nat.reduceLeDiff, Nat.reduceLT, a1, a2, eN, k1, mA_11, a6 k hk, q_gapIn, z]
    · refine Or.inl ⟨nI (k + 1), ?_, rfl, fun i hi => ?_⟩
      · simp (disch := omega) only [n_lit, n_of, n_o1, nI_add, pk_mul, nI_ltI, nI_leI, nI_eq, ↓lift_lt, ↓k_mt, ↓k_mp, if_true, if_false, Bool.false_eq_true, Nat.not_lt_zero, Nat.zero_le, Nat.reduceEqDiff, Nat.reduceLeDiff, Nat.reduceLT, a1, a2, eN, k1, mA_11, a6 k hk, q_gapIn, z]
      · by_cases zz : i = k
        · rw [zz]; exact z
        · exact e2 i (by omega)
  · intro q ⟨e1, e2⟩
    subst e1
    show ∃ r, gX12_metAt_2b m (nI p) (nI N) = some (.inr r) ∧ _
    unfold gX12_metAt_2b
    refine ⟨-nI 1, ?_, Or.inr ⟨rfl, led_all (Q := fun s => dg s p = 0) a3 a5 e2⟩⟩
    simp (disch := omega) only [n_lit, n_of, n_o1, nI_add, pk_mul, nI_ltI, nI_leI, nI_eq, ↓lift_lt, ↓k_mt, ↓k_mp, if_true, if_false, Bool.false_eq_true, Nat.not_lt_zero, Nat.zero_le, Nat.reduceEqDiff, Nat.reduceLeDiff, Nat.reduceLT, a1, a2, eN, Nat.le_refl]
theorem q_fallsAt {F : Nat → Nat} {t : Nat} (hL : LED F t m) (hok : ∀ k, itr F t k < 20000) : ∃ r, gX12_falls_18 m (nI 0) = some (r, m) ∧ fst1 (fun n => 10000 ≤ itr F t n) r := by
  obtain ⟨tl, N, a1, a2, a3, a4, a5, a6⟩ := hL
  unfold gX12_falls_18
  have eN : tl + (N - tl) = N := by omega
  have i1 : ¬ (1 = 0) := by decide
  have K := lpw_inv (body := fun q : Int32 => gX12_falls_18b m q) (fun k q => q = nI k ∧ ∀ i, i < k → ¬ 10000 ≤ itr F t i) (fun r => r.2 = m ∧ fst1 (fun n => 10000 ≤ itr F t n) r.1) N ?_ ?_ (nI 0) ⟨rfl, fun i hi => by omega⟩
  · obtain ⟨r, e, e1, e2⟩ := K
    exact ⟨r.1, by rw [e]; exact congrArg some (Prod.ext rfl e1), e2⟩
  · intro k q hk ⟨e1, e2⟩
    subst e1
    have k1 : ¬ N ≤ k := by omega
    have okk := hok k
    show (∃ s', gX12_falls_18b m (nI k) = some (.inl s') ∧ _) ∨ (∃ r, gX12_falls_18b m (nI k) = some (.inr r) ∧ _)
    unfold gX12_falls_18b
    by_cases z : 10000 ≤ itr F t k
    · refine Or.inr ⟨(nI k, m), ?_, rfl, Or.inl ⟨k, by omega, rfl, z, e2⟩⟩
      simp (disch := omega) only [n_lit, n_of, n_o1, nI_add, pk_mul, nI_ltI, nI_leI, nI_eq, ↓lift_lt, ↓k_mt, ↓k_mp, if_true, if_false, Bool.false_eq_true, Nat.not_lt_zero, Nat.zero_le, Nat.reduceEqDiff, Nat.reduceLeDiff, Nat.reduceLT, a1, a2, eN, k1, mA_11, a6 k hk, q_hasFallen, z, i1]
    · refine Or.inl ⟨nI (k + 1), ?_, rfl, fun i hi => ?_⟩
      · simp (disch := omega) only [n_lit, n_of, n_o1, nI_add, pk_mul, nI_ltI, nI_leI, nI_eq, ↓lift_lt, ↓k_mt, ↓k_mp, if_true, if_false, Bool.false_eq_true, Nat.not_lt_zero, Nat.zero_le, Nat.reduceEqDiff, Nat.reduceLeDiff, Nat.reduceLT, a1, a2, eN, k1, mA_11, a6 k hk, q_hasFallen, z]
      · by_cases zz : i = k
        · rw [zz]; exact z
        · exact e2 i (by omega)
  · intro q ⟨e1, e2⟩
    subst e1
    show ∃ r, gX12_falls_18b m (nI N) = some (.inr r) ∧ _
    unfold gX12_falls_18b
    refine ⟨(-nI 1, m), ?_, rfl, Or.inr ⟨rfl, led_all (Q := fun s => 10000 ≤ s) a3 a5 e2⟩⟩
    simp (disch := omega) only [n_lit, n_of, n_o1, nI_add, pk_mul, nI_ltI, nI_leI, nI_eq, ↓lift_lt, ↓k_mt, ↓k_mp, if_true, if_false, Bool.false_eq_true, Nat.not_lt_zero, Nat.zero_le, Nat.reduceEqDiff, Nat.reduceLeDiff, Nat.reduceLT, a1, a2, eN, Nat.le_refl]
end LEDM
