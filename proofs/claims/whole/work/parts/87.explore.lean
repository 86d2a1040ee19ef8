/-! the class looks through what leadings can bring -/
theorem nxt_ab (v : Cv) (ch : Nat) : ∀ i s, 10000 ≤ s → nxt v ch i s = s := fun i s hs => Yr_fallen hs ch _ 0
theorem ecn_s {nx : Nat → Nat → Nat} {k s t : Nat} (hs : s < 10000) : ecn nx (k + 1) s t = ecn nx k s t + (if nx k s = t then 1 else 0) := by
  unfold ecn
  rw [if_pos hs, if_pos hs]
  rfl
theorem ecn_0 {nx : Nat → Nat → Nat} {k s t : Nat} (h : s < 10000 → ∀ i, i < k → ¬ nx i s = t) : ecn nx k s t = 0 := by
  unfold ecn
  by_cases hs : s < 10000
  · rw [if_pos hs, csum_eq (g := fun _ => 0) (fun i hi => if_neg (h hs i hi)), csum_0]
  · rw [if_neg hs]
theorem entr_next {nx : Nat → Nat → Nat} {L : Nat} {q : Nat → Nat} {hd k t : Nat} (h : k = L ∨ 10000 ≤ q hd) : entr nx L q (hd + 1) 0 t = entr nx L q hd k t := by
  unfold entr
  show csum (fun i => ecn nx L (q i) t) hd + ecn nx L (q hd) t + ecn nx 0 (q (hd + 1)) t = _
  rw [ecn_0 (k := 0) (fun _ i hi => by omega), Nat.add_zero]
  rcases h with h | h
  · rw [h]
  · rw [ecn_0 (k := L) (fun q => by omega), ecn_0 (k := k) (fun q => by omega)]
theorem entr_ext {nx : Nat → Nat → Nat} {L : Nat} {q q' : Nat → Nat} {hd k t : Nat} (h : ∀ i, i ≤ hd → q' i = q i) : entr nx L q' hd k t = entr nx L q hd k t := by
  unfold entr
  rw [h hd (Nat.le_refl _), csum_eq (fun i hi => by rw [h i (by omega)])]
theorem entr_new {nx : Nat → Nat → Nat} {L s0 : Nat} {q D W : Nat → Nat} {n hd k t : Nat} (hB : Bq nx L s0 q D W n hd k) (hh : hd < n) (hk : k ≤ L) (ht : ∀ j, j < n → q j ≠ t) : entr nx L q hd k t = 0 := by
  obtain ⟨-, -, -, -, -, -, h7, -⟩ := hB
  have A1 : ∀ i, i < hd → ecn nx L (q i) t = 0 := fun i hi => ecn_0 (fun hs kk hkk e => by
    obtain ⟨j, j1, j2, -⟩ := h7 i kk (by omega) hkk (Or.inl hi) hs
    exact ht j j1 (j2.trans e))
  have A2 : ecn nx k (q hd) t = 0 := ecn_0 (fun hs kk hkk e => by
    obtain ⟨j, j1, j2, -⟩ := h7 hd kk hh (by omega) (Or.inr ⟨rfl, hkk⟩) hs
    exact ht j j1 (j2.trans e))
  have A3 : csum (fun i => ecn nx L (q i) t) hd = 0 := by
    rw [csum_eq (f := fun i => ecn nx L (q i) t) (g := fun _ => 0) A1]
    exact csum_0 hd
  unfold entr
  rw [A2, A3]
theorem csum_bm {f : Nat → Nat} {b : Nat} (hf : ∀ i, f i ≤ b) : ∀ n, csum f n ≤ n * b
  | 0 => Nat.zero_le _
  | n + 1 => by
    show csum f n + f n ≤ (n + 1) * b
    have := csum_bm hf n
    have := hf n
    rw [Nat.add_mul, Nat.one_mul]
    omega
theorem ecn_b (nx : Nat → Nat → Nat) (k s t : Nat) : ecn nx k s t ≤ k := by
  unfold ecn
  split
  · exact csum_b (fun i => by split <;> omega) k
  · omega
theorem entr_b {nx : Nat → Nat → Nat} {L : Nat} {q : Nat → Nat} {hd k t : Nat} (hL : L ≤ 35) (hk : k ≤ L) (hh : hd ≤ 20000) : entr nx L q hd k t ≤ 35 * 20000 + 35 := by
  unfold entr
  have h1 := csum_bm (f := fun i => ecn nx L (q i) t) (b := 35) (fun i => Nat.le_trans (ecn_b _ _ _ _) hL) hd
  have h2 := ecn_b nx k (q hd) t
  omega
section EXQ
variable {h : Hp} {V : Nat → Cv} {c c0 : Ch} {a ch s0 st : Nat} {q D W : Nat → Nat} {n hd k : Nat} {goal : Int32}
def KSx (c0 : Ch) (h : Hp) (V : Nat → Cv) (a ch : Nat) (c : Ch) : Prop := sfr c0 c ∧ CT h V c a ch ∧ c.2.2.1 116 1 = some a ∧ c.1 116 2 = nI ch ∧ c.1 116 13 = nI 0
theorem KSx_S {r i : Nat} {y : Int32} (H : KSx c0 h V a ch c) (hr : 117 ≤ r ∧ r < 121) : KSx c0 h V a ch (cS c r i y) := ⟨sfr_S H.1 hr, CT_w H.2.1 (by omega) (by omega), H.2.2.1, H.2.2.2.1, H.2.2.2.2⟩
theorem KSx_12 {y : Int32} (H : KSx c0 h V a ch c) : KSx c0 h V a ch (cI c 116 12 y) := ⟨sfr_I H.1, CT_116 H.2.1, H.2.2.1, by rw [cI_1, if_pos rfl, if_neg (by decide)]; exact H.2.2.2.1, by rw [cI_1, if_pos rfl, if_neg (by decide)]; exact H.2.2.2.2⟩
theorem KSx_w {c' : Ch} (H : KSx c0 h V a ch c) (hT : CT h V c' a ch) (f : cfr Aw c c') : KSx c0 h V a ch c' := ⟨sfr_tr H.1 (sfr_w f), hT, by rw [f.2.2.1]; exact H.2.2.1, by rw [f.1]; exact H.2.2.2.1, by rw [f.1]; exact H.2.2.2.2⟩
theorem QB_w {c' : Ch} (f : cfr Aw c c') (H : QB (V a) ch c s0 st q D W n hd k) : QB (V a) ch c' s0 st q D W n hd k := QB_eq (by rw [f.1]) (by rw [f.1]) (f.2.2.2.1 117 rfl) (f.2.2.2.1 118 rfl) (f.2.2.2.1 119 rfl) H
/-- one more is reached -/
theorem QB_new (hW : wV (V a)) (hh : hd < n) (hk : k < nL (V a)) (hf : q hd < 10000) (e : ∀ j, j < n → q j ≠ nxt (V a) ch k (q hd)) (H : QB (V a) ch c s0 st q D W n hd k) (H12 : c.1 116 4 = nI st) :
    n < 20000 ∧ nxt (V a) ch k (q hd) < 20000 ∧ QB (V a) ch (cI (cS (cS (cS (cS c 117 (nxt (V a) ch k (q hd)) (nI st)) 119 (nxt (V a) ch k (q hd)) (nI (q hd * 35 + k))) 120 (nxt (V a) ch k (q hd)) (nI 0)) 118 n (nI (nxt (V a) ch k (q hd)))) 116 12 (nI (n + 1))) s0 st (fun i => if i = n then nxt (V a) ch k (q hd) else q i) (fun i => if i = n then D hd + 1 else D i) (fun i => if i = n then W hd * 35 + k else W i) (n + 1) hd (k + 1) := by
  obtain ⟨hL0, hL⟩ := nL_b hW
  have hP := hW.1
  obtain ⟨hB, hkL, hn, x12, x4, xq, x119, x119', xm⟩ := H
  have B' := Bq_new hL hB hh hk hf e
  have row := Bq_row hL hB hh
  obtain ⟨o1, o2, -⟩ := xq hd hh
  have ok := Yr_ok hP o1 o2 ch (ld (V a) k) 0
  have t1 : nxt (V a) ch k (q hd) < 20000 := ok.1
  have t2 : nxt (V a) ch k (q hd) % 10000 < 10 ^ vP (V a) := ok.2
  obtain ⟨t, et⟩ : ∃ t, t = nxt (V a) ch k (q hd) := ⟨_, rfl⟩
  rw [← et] at e B' t1 t2 ⊢
  have n1 : n + 1 ≤ 20000 := inj_le (f := fun i => if i = n then t else q i) (fun i j hij hj => B'.2.2.2.2.2.2.2 i j hij hj) (fun i hi => by
    show (if i = n then t else q i) < 20000
    by_cases z : i = n
    · rw [if_pos z]; exact t1
    · rw [if_neg z]; exact (xq i (by omega)).1)
  have lo : ∀ i, i < n → ¬ i = n := fun i hi => by omega
  have hn0 := hB.1
  refine ⟨by omega, t1, B', by omega, n1, by rw [cI_1, if_pos rfl, if_pos rfl], by rw [cI_1, if_pos rfl, if_neg (by decide)]; exact x4, fun i hi => ?_, ?_, fun i h0 hi => ?_, fun s hs => ?_⟩
  · show (if i = n then t else q i) < 20000 ∧ (if i = n then t else q i) % 10000 < 10 ^ vP (V a) ∧ (cS (cS (cS (cS c 117 t (nI st)) 119 t (nI (q hd * 35 + k))) 120 t (nI 0)) 118 n (nI t)).2.2.2.1 118 i = nI (if i = n then t else q i)
    rw [cS_4, if_pos rfl]
    by_cases z : i = n
    · rw [if_pos z, if_pos z]; exact ⟨t1, t2, rfl⟩
    · rw [if_neg z, if_neg z, cS_n _ (by decide), cS_n _ (by decide), cS_n _ (by decide)]; exact xq i (by omega)
  · show (cS (cS (cS (cS c 117 t (nI st)) 119 t (nI (q hd * 35 + k))) 120 t (nI 0)) 118 n (nI t)).2.2.2.1 119 (if 0 = n then t else q 0) = _
    rw [if_neg (lo 0 hn0), cS_n _ (by decide), cS_n _ (by decide), cS_4, if_pos rfl, if_neg (e 0 hn0), cS_n _ (by decide)]
    exact x119
  · show (cS (cS (cS (cS c 117 t (nI st)) 119 t (nI (q hd * 35 + k))) 120 t (nI 0)) 118 n (nI t)).2.2.2.1 119 (if i = n then t else q i) = nI (rn (nxt (V a) ch) s0 ((if i = n then D hd + 1 else D i) - 1) ((if i = n then W hd * 35 + k else W i) / 35) * 35 + (if i = n then W hd * 35 + k else W i) % 35)
    rw [cS_n _ (by decide), cS_n _ (by decide), cS_4, if_pos rfl]
    by_cases z : i = n
    · rw [if_pos z, if_pos z, if_pos z, if_pos rfl]
      have e1 : (W hd * 35 + k) % 35 = k := by omega
      have e2 : (W hd * 35 + k) / 35 = W hd := by omega
      rw [e1, e2, Nat.add_sub_cancel, row.2.1]
    · rw [if_neg z, if_neg z, if_neg z, if_neg (e i (by omega)), cS_n _ (by decide)]
      exact x119' i h0 (by omega)
  · show ((cS (cS (cS (cS c 117 t (nI st)) 119 t (nI (q hd * 35 + k))) 120 t (nI 0)) 118 n (nI t)).2.2.2.1 117 s = nI st ∧ ∃ i, i < n + 1 ∧ (if i = n then t else q i) = s) ∨ ((∃ z, z < st ∧ (cS (cS (cS (cS c 117 t (nI st)) 119 t (nI (q hd * 35 + k))) 120 t (nI 0)) 118 n (nI t)).2.2.2.1 117 s = nI z) ∧ ∀ i, i < n + 1 → (if i = n then t else q i) ≠ s)
    rw [cS_n _ (by decide), cS_n _ (by decide), cS_n _ (by decide), cS_4, if_pos rfl]
    by_cases z : s = t
    · rw [if_pos z]
      exact Or.inl ⟨rfl, n, by omega, by rw [if_pos rfl, z]⟩
    · rw [if_neg z]
      rcases xm s hs with ⟨m1, i, m2, m3⟩ | ⟨m1, m2⟩
      · exact Or.inl ⟨m1, i, by omega, by rw [if_neg (lo i m2)]; exact m3⟩
      · refine Or.inr ⟨m1, fun i hi => ?_⟩
        by_cases zz : i = n
        · rw [if_pos zz]; exact fun w => z w.symm
        · rw [if_neg zz]; exact m2 i (by omega)
/-- what the search told -/
def XR (v : Cv) (ch : Nat) (c : Ch) (s0 st : Nat) (goal r : Int32) : Prop := ∃ q D W n hd k, QB v ch c s0 st q D W n hd k ∧
  ((r = -nI 1 ∧ hd = n ∧ k = 0 ∧ (∀ i, i < n → ¬ Gp (vP v) goal (q i)) ∧ ENT v ch c q n hd k) ∨ (r = nI (q (n - 1)) ∧ Best (nxt v ch) (nL v) s0 (Gp (vP v) goal) (D (n - 1)) (W (n - 1))))
/-- a turn of the inner loop: a leading more -/
theorem rg_turn (hg : okg (vP (V a)) goal) (hst : st < 2 ^ 31) (hh : hd < n) (hk : k < nL (V a)) (hf : q hd < 10000) (F : KSx c0 h V a ch c) (H : QB (V a) ch c s0 st q D W n hd k) (no : ∀ i, i < n → ¬ Gp (vP (V a)) goal (q i)) (hE : ENT (V a) ch c q n hd k) (h22 : ∀ i, i < nL (V a) → c.2.2.2.1 122 i = nI (nxt (V a) ch i (q hd))) :
    (∃ c' q' D' W' n', gX7_reachGoal_74b h c goal (nI hd) (nI (q hd)) (nI k) = some (.inl (nI (k + 1), c')) ∧ KSx c0 h V a ch c' ∧ QB (V a) ch c' s0 st q' D' W' n' hd (k + 1) ∧ hd < n' ∧ q' hd = q hd ∧ (∀ i, i < n' → ¬ Gp (vP (V a)) goal (q' i)) ∧ ENT (V a) ch c' q' n' hd (k + 1) ∧ ∀ i, i < nL (V a) → c'.2.2.2.1 122 i = nI (nxt (V a) ch i (q hd))) ∨
    (∃ r c', gX7_reachGoal_74b h c goal (nI hd) (nI (q hd)) (nI k) = some (.inr (.inr (r, c'))) ∧ KSx c0 h V a ch c' ∧ c'.1 116 4 = nI st ∧ XR (V a) ch c' s0 st goal r) := by
  have hW := F.2.1.2.2.1
  have hC := F.2.1.2.1
  have hP := hW.1
  obtain ⟨hL0, hL⟩ := nL_b hW
  obtain ⟨la, g1, g2, -⟩ := cv_la hW hC
  have k1 : ¬ nL (V a) ≤ k := by omega
  have H0 := H
  obtain ⟨hB, hkL, hn, x12, x4, xq, x119, x119', xm⟩ := H
  obtain ⟨o1, o2, -⟩ := xq hd hh
  have ok := (Yr_ok hP o1 o2 ch (ld (V a) k) 0).1
  have t1 : nxt (V a) ch k (q hd) < 20000 := ok
  have i1 : ¬ (1 = 0) := by decide
  have e122 := h22 k hk
  unfold gX7_reachGoal_74b gX7_reachGoal_132 gX7_reachGoal_151 gX7_isNew gX7_isNew_24 gX7_isNew_25
  rcases xm _ t1 with ⟨m1, j, j1, j2⟩ | ⟨⟨z, z1, m1⟩, m2⟩
  · -- it was there
    have eb := entr_b (nx := nxt (V a) ch) (q := q) (hd := hd) (k := k) (t := nxt (V a) ch k (q hd)) hL (by omega) (by omega)
    have ej : c.2.2.2.1 120 (nxt (V a) ch k (q hd)) = nI (entr (nxt (V a) ch) (nL (V a)) q hd k (nxt (V a) ch k (q hd))) := by rw [← j2]; exact hE j j1
    refine Or.inl ⟨cS c 120 (nxt (V a) ch k (q hd)) (nI (entr (nxt (V a) ch) (nL (V a)) q hd k (nxt (V a) ch k (q hd)) + 1)), q, D, W, n, ?_, KSx_S F (by omega), ?_, hh, rfl, no, fun i hi => ?_, h22⟩
    · simp (disch := omega) only [n_lit, n_of, n_o1, nI_add, pk_mul, nI_ltI, nI_leI, nI_eq, ↓lift_lt, ↓k_mt, ↓k_mp, if_true, if_false, Bool.false_eq_true, Nat.not_lt_zero, Nat.zero_le, Nat.reduceEqDiff, Nat.reduceLeDiff, Nat.reduceLT, F.2.2.1, g1, g2, k1, cA_g, e122, c_isState t1, i1, m1, x4, n_bl0, ej, cW0_g]
    · refine QB_eq (c := c) rfl rfl (cS_n _ (by decide)) (cS_n _ (by decide)) (cS_n _ (by decide)) ⟨Bq_old hL hB hh hk j1 j2, by omega, hn, x12, x4, xq, x119, x119', xm⟩
    · rw [cS_4, if_pos rfl]
      unfold entr
      rw [ecn_s hf, ← Nat.add_assoc]
      by_cases e : q i = nxt (V a) ch k (q hd)
      · rw [if_pos e, e, if_pos rfl]
      · rw [if_neg e, if_neg (fun w => e w.symm), hE i hi]
        rfl
  · -- it is new
    have zs : ¬ z = st := by omega
    obtain ⟨n2, -, Q⟩ := QB_new hW hh hk hf m2 H0 x4
    have er := c_reach (h := h) (c := c) (link := nI (q hd * 35 + k)) t1 x12 n2
    rw [x4] at er
    have en := entr_new hB hh hkL m2
    have lo : ∀ i, i < n → ¬ i = n := fun i hi => by omega
    obtain ⟨t, et⟩ : ∃ t, t = nxt (V a) ch k (q hd) := ⟨_, rfl⟩
    rw [← et] at er Q m1 m2 t1 e122 en
    obtain ⟨cn, ecn'⟩ : ∃ cn, cn = cI (cS (cS (cS (cS c 117 t (nI st)) 119 t (nI (q hd * 35 + k))) 120 t (nI 0)) 118 n (nI t)) 116 12 (nI (n + 1)) := ⟨_, rfl⟩
    rw [← ecn'] at er Q
    have Fn : KSx c0 h V a ch cn := by rw [ecn']; exact KSx_12 (KSx_S (KSx_S (KSx_S (KSx_S F (by omega)) (by omega)) (by omega)) (by omega))
    have eg := c_isGoal (h := h) (V := V) (goal := goal) (s := t) Fn.2.2.1 hC hP hg t1
    by_cases gg : Gp (vP (V a)) goal t
    · rw [ib_t gg] at eg
      refine Or.inr ⟨nI t, cn, ?_, Fn, Q.2.2.2.2.1, _, _, _, n + 1, hd, k + 1, Q, Or.inr ⟨?_, ?_⟩⟩
      · simp (disch := omega) only [n_lit, n_of, n_o1, nI_add, pk_mul, nI_ltI, nI_leI, nI_eq, ↓lift_lt, ↓k_mt, ↓k_mp, if_true, if_false, Bool.false_eq_true, Nat.not_lt_zero, Nat.zero_le, Nat.reduceEqDiff, Nat.reduceLeDiff, Nat.reduceLT, F.2.2.1, g1, g2, k1, cA_g, e122, c_isState t1, i1, m1, x4, zs, n_bl1, er, eg]
      · show nI t = nI (if n + 1 - 1 = n then t else q (n + 1 - 1))
        rw [if_pos (by omega)]
      · have BQ := Q.1
        have row := Bq_row hL BQ (i := n) (by omega)
        rw [show n + 1 - 1 = n by omega]
        refine ⟨row.1, ?_, fun d' w' hw hG => ?_⟩
        · rw [row.2.1]
          show Gp (vP (V a)) goal (if n = n then t else q n)
          rw [if_pos rfl]
          exact gg
        · rcases Bq_cover hL (by omega) (nxt_ab (V a) ch) BQ d' w' hw with ⟨j, j1, j2, j3⟩ | ⟨j1, j3⟩
          · by_cases ej : j = n
            · rw [ej] at j3; exact j3
            · refine absurd hG ?_
              rw [← j2]
              show ¬ Gp (vP (V a)) goal (if j = n then t else q j)
              rw [if_neg ej]
              exact no j (by omega)
          · refine lex_tr ?_ j3
            show lex (if n = n then D hd + 1 else D n) (if n = n then W hd * 35 + k else W n) ((if hd = n then D hd + 1 else D hd) + 1) ((if hd = n then W hd * 35 + k else W hd) * 35 + (k + 1))
            rw [if_pos rfl, if_pos rfl, if_neg (lo hd hh), if_neg (lo hd hh)]
            exact Or.inr ⟨rfl, by omega⟩
    · rw [ib_f gg] at eg
      have v0 : cn.2.2.2.1 120 t = nI 0 := by
        rw [ecn']
        show (cS (cS (cS (cS c 117 t (nI st)) 119 t (nI (q hd * 35 + k))) 120 t (nI 0)) 118 n (nI t)).2.2.2.1 120 t = _
        rw [cS_n _ (by decide), cS_4, if_pos rfl, if_pos rfl]
      refine Or.inl ⟨cS cn 120 t (nI (0 + 1)), (fun i => if i = n then t else q i), (fun i => if i = n then D hd + 1 else D i), (fun i => if i = n then W hd * 35 + k else W i), n + 1, ?_, KSx_S Fn (by omega), ?_, by omega, if_neg (lo hd hh), fun i hi => ?_, fun i hi => ?_, fun i hi => ?_⟩
      · simp (disch := omega) only [n_lit, n_of, n_o1, nI_add, pk_mul, nI_ltI, nI_leI, nI_eq, ↓lift_lt, ↓k_mt, ↓k_mp, if_true, if_false, Bool.false_eq_true, Nat.not_lt_zero, Nat.zero_le, Nat.reduceEqDiff, Nat.reduceLeDiff, Nat.reduceLT, F.2.2.1, g1, g2, k1, cA_g, e122, c_isState t1, i1, m1, x4, zs, n_bl1, er, eg, v0, cW0_g]
      · exact QB_eq (c := cn) rfl rfl (cS_n _ (by decide)) (cS_n _ (by decide)) (cS_n _ (by decide)) Q
      · show ¬ Gp (vP (V a)) goal (if i = n then t else q i)
        by_cases z : i = n
        · rw [if_pos z]; exact gg
        · rw [if_neg z]; exact no i (by omega)
      · show (cS cn 120 t (nI (0 + 1))).2.2.2.1 120 (if i = n then t else q i) = nI (entr (nxt (V a) ch) (nL (V a)) (fun i => if i = n then t else q i) hd (k + 1) (if i = n then t else q i))
        rw [entr_ext (q := q) (fun i hi => if_neg (lo i (by omega)))]
        unfold entr
        rw [ecn_s hf, ← Nat.add_assoc, ← et, cS_4, if_pos rfl]
        by_cases z : i = n
        · rw [if_pos z, if_pos rfl, if_pos rfl]
          unfold entr at en
          rw [en]
        · have ne := m2 i (by omega)
          rw [if_neg z, if_neg ne, if_neg (fun w => ne w.symm), ecn']
          show (cS (cS (cS (cS c 117 t (nI st)) 119 t (nI (q hd * 35 + k))) 120 t (nI 0)) 118 n (nI t)).2.2.2.1 120 (q i) = _
          rw [cS_n _ (by decide), cS_4, if_pos rfl, if_neg ne, cS_n _ (by decide), cS_n _ (by decide)]
          exact hE i (by omega)
      · rw [cS_n _ (by decide), ecn']
        show (cS (cS (cS (cS c 117 t (nI st)) 119 t (nI (q hd * 35 + k))) 120 t (nI 0)) 118 n (nI t)).2.2.2.1 122 i = _
        rw [cS_n _ (by decide), cS_n _ (by decide), cS_n _ (by decide), cS_n _ (by decide)]
        exact h22 i hi
/-- all leadings of one stand -/
theorem rg_inner (hg : okg (vP (V a)) goal) (hst : st < 2 ^ 31) (hh : hd < n) (hf : q hd < 10000) (F : KSx c0 h V a ch c) (H : QB (V a) ch c s0 st q D W n hd 0) (no : ∀ i, i < n → ¬ Gp (vP (V a)) goal (q i)) (hE : ENT (V a) ch c q n hd 0) (h22 : ∀ i, i < nL (V a) → c.2.2.2.1 122 i = nI (nxt (V a) ch i (q hd))) :
    ∃ r, gX7_reachGoal_74 h c goal (nI hd) (nI (q hd)) (nI 0) = some r ∧
    ((∃ c' q' D' W' n', r = .inl (nI (hd + 1), c') ∧ KSx c0 h V a ch c' ∧ QB (V a) ch c' s0 st q' D' W' n' (hd + 1) 0 ∧ hd < n' ∧ (∀ i, i < n' → ¬ Gp (vP (V a)) goal (q' i)) ∧ ENT (V a) ch c' q' n' (hd + 1) 0) ∨
    (∃ u c', r = .inr (u, c') ∧ KSx c0 h V a ch c' ∧ c'.1 116 4 = nI st ∧ XR (V a) ch c' s0 st goal u)) := by
  obtain ⟨sH, esH⟩ : ∃ sH, sH = q hd := ⟨_, rfl⟩
  rw [← esH] at hf h22 ⊢
  unfold gX7_reachGoal_74
  refine lpw_inv (body := fun z : Int32 × Ch => gX7_reachGoal_74b h z.2 goal (nI hd) (nI sH) z.1)
    (fun k z => z.1 = nI k ∧ KSx c0 h V a ch z.2 ∧ ∃ q' D' W' n', QB (V a) ch z.2 s0 st q' D' W' n' hd k ∧ hd < n' ∧ q' hd = sH ∧ (∀ i, i < n' → ¬ Gp (vP (V a)) goal (q' i)) ∧ ENT (V a) ch z.2 q' n' hd k ∧ ∀ i, i < nL (V a) → z.2.2.2.2.1 122 i = nI (nxt (V a) ch i sH)) _ (nL (V a)) ?_ ?_ (nI 0, c) ⟨rfl, F, q, D, W, n, H, hh, esH.symm, no, hE, h22⟩
  · rintro k ⟨z1, z2⟩ hk ⟨g1, g2, q', D', W', n', g3, g4, g5, g6, g7, g8⟩
    have g1 : z1 = nI k := g1
    subst g1
    have g2 : KSx c0 h V a ch z2 := g2
    have g3 : QB (V a) ch z2 s0 st q' D' W' n' hd k := g3
    have g7 : ENT (V a) ch z2 q' n' hd k := g7
    have g8 : ∀ i, i < nL (V a) → z2.2.2.2.1 122 i = nI (nxt (V a) ch i sH) := g8
    rw [← g5] at hf g8
    have K := rg_turn (goal := goal) hg hst g4 hk hf g2 g3 g6 g7 g8
    rw [g5] at K
    show (∃ s', gX7_reachGoal_74b h z2 goal (nI hd) (nI sH) (nI k) = some (.inl s') ∧ _) ∨ (∃ r, gX7_reachGoal_74b h z2 goal (nI hd) (nI sH) (nI k) = some (.inr r) ∧ _)
    rcases K with ⟨c', q2, D2, W2, n2, e, a1, a2, a3, a4, a5, a6, a7⟩ | ⟨u, c', e, a1, a2, a3⟩
    · exact Or.inl ⟨_, e, rfl, a1, q2, D2, W2, n2, a2, a3, a4, a5, a6, a7⟩
    · exact Or.inr ⟨_, e, Or.inr ⟨u, c', rfl, a1, a2, a3⟩⟩
  · rintro ⟨z1, z2⟩ ⟨g1, g2, q', D', W', n', g3, g4, g5, g6, g7, g8⟩
    have g1 : z1 = nI (nL (V a)) := g1
    subst g1
    have g2 : KSx c0 h V a ch z2 := g2
    have g3 : QB (V a) ch z2 s0 st q' D' W' n' hd (nL (V a)) := g3
    have g7 : ENT (V a) ch z2 q' n' hd (nL (V a)) := g7
    have hW := g2.2.1.2.2.1
    obtain ⟨la, l1, l2, -⟩ := cv_la hW g2.2.1.2.1
    show ∃ r, gX7_reachGoal_74b h z2 goal (nI hd) (nI sH) (nI (nL (V a))) = some (.inr r) ∧ _
    refine ⟨.inl (nI (hd + 1), z2), ?_, Or.inl ⟨z2, q', D', W', n', rfl, g2, ⟨Bq_next g3.1 (Or.inl rfl), Nat.zero_le _, g3.2.2⟩, g4, g6, fun i hi => ?_⟩⟩
    · have lb := (nL_b hW).2
      unfold gX7_reachGoal_74b gX7_reachGoal_157
      simp (disch := omega) only [n_lit, n_of, n_o1, nI_add, pk_mul, nI_ltI, nI_leI, nI_eq, ↓lift_lt, ↓k_mt, ↓k_mp, if_true, if_false, Bool.false_eq_true, Nat.not_lt_zero, Nat.zero_le, Nat.reduceEqDiff, Nat.reduceLeDiff, Nat.reduceLT, g2.2.2.1, l1, l2, Nat.le_refl, Option.map_some]
    · rw [entr_next (Or.inl rfl)]
      exact g7 i hi
theorem rg_outer (hg : okg (vP (V a)) goal) (hst : st < 2 ^ 31) (F : KSx c0 h V a ch c) (H : QB (V a) ch c s0 st q D W n 0 0) (no : ∀ i, i < n → ¬ Gp (vP (V a)) goal (q i)) (hE : ENT (V a) ch c q n 0 0) :
    ∃ r c', gX7_reachGoal_23 h c goal (nI 0) = some (r, c') ∧ KSx c0 h V a ch c' ∧ c'.1 116 4 = nI st ∧ XR (V a) ch c' s0 st goal r := by
  unfold gX7_reachGoal_23
  have K := lpw_inv (body := fun z : Int32 × Ch => gX7_reachGoal_23b h z.2 goal z.1)
    (fun hd z => z.1 = nI hd ∧ KSx c0 h V a ch z.2 ∧ ∃ q' D' W' n', QB (V a) ch z.2 s0 st q' D' W' n' hd 0 ∧ hd ≤ n' ∧ (∀ i, i < n' → ¬ Gp (vP (V a)) goal (q' i)) ∧ ENT (V a) ch z.2 q' n' hd 0)
    (fun r => KSx c0 h V a ch r.2 ∧ r.2.1 116 4 = nI st ∧ XR (V a) ch r.2 s0 st goal r.1) 20000 ?_ ?_ (nI 0, c) ⟨rfl, F, q, D, W, n, H, Nat.zero_le _, no, hE⟩
  · obtain ⟨r, e, e2⟩ := K
    exact ⟨r.1, r.2, e, e2⟩
  · rintro hd ⟨z1, z2⟩ hk ⟨g1, g2, q', D', W', n', g3, g4, g5, g6⟩
    have g1 : z1 = nI hd := g1
    subst g1
    have g2 : KSx c0 h V a ch z2 := g2
    have g3 : QB (V a) ch z2 s0 st q' D' W' n' hd 0 := g3
    have g6 : ENT (V a) ch z2 q' n' hd 0 := g6
    have hn := g3.2.2.1
    have x12 := g3.2.2.2.1
    have hd2 : ¬ 20000 ≤ hd := by omega
    show (∃ s', gX7_reachGoal_23b h z2 goal (nI hd) = some (.inl s') ∧ _) ∨ (∃ r, gX7_reachGoal_23b h z2 goal (nI hd) = some (.inr r) ∧ _)
    by_cases zn : n' ≤ hd
    · have e : hd = n' := by omega
      refine Or.inr ⟨(-nI 1, z2), ?_, g2, g3.2.2.2.2.1, q', D', W', n', hd, 0, g3, Or.inl ⟨rfl, e, rfl, g5, g6⟩⟩
      unfold gX7_reachGoal_23b gX7_reachGoal_163
      simp (disch := omega) only [n_lit, n_of, n_o1, nI_add, pk_mul, nI_ltI, nI_leI, nI_eq, ↓lift_lt, ↓k_mt, ↓k_mp, if_true, if_false, Bool.false_eq_true, Nat.not_lt_zero, Nat.zero_le, Nat.reduceEqDiff, Nat.reduceLeDiff, Nat.reduceLT, x12, zn, Option.map_some]
    · obtain ⟨o1, o2, o3⟩ := g3.2.2.2.2.2.1 hd (by omega)
      by_cases zf : q' hd < 10000
      · obtain ⟨c5, e5, T5, f5, r5⟩ := c_spread (w := 0) (dry := 0) g2.2.1 zf (by decide)
        have F5 := KSx_w g2 T5 f5
        have Q5 : QB (V a) ch c5 s0 st q' D' W' n' hd 0 := QB_w f5 g3
        have E5 : ENT (V a) ch c5 q' n' hd 0 := by unfold ENT at *; rw [f5.2.2.2.1 120 rfl]; exact g6
        obtain ⟨r, er, hr⟩ := rg_inner (goal := goal) hg hst (show hd < n' by omega) zf F5 Q5 g5 E5 r5
        have eb : gX7_reachGoal_23b h z2 goal (nI hd) = some r := by
          unfold gX7_reachGoal_23b
          simp (disch := omega) only [n_lit, n_of, n_o1, nI_add, pk_mul, nI_ltI, nI_leI, nI_eq, ↓lift_lt, ↓k_mt, ↓k_mp, if_true, if_false, Bool.false_eq_true, Nat.not_lt_zero, Nat.zero_le, Nat.reduceEqDiff, Nat.reduceLeDiff, Nat.reduceLT, x12, zn, hd2, cA_g, o3, zf, e5, er]
        rcases hr with ⟨c', q2, D2, W2, n2, e, a1, a2, a3, a4, a5⟩ | ⟨u, c', e, a1, a2, a3⟩
        · exact Or.inl ⟨_, by rw [eb, e], rfl, a1, q2, D2, W2, n2, a2, a3, a4, a5⟩
        · exact Or.inr ⟨_, by rw [eb, e], a1, a2, a3⟩
      · refine Or.inl ⟨(nI (hd + 1), z2), ?_, rfl, g2, q', D', W', n', ⟨Bq_next g3.1 (Or.inr (by omega)), Nat.zero_le _, g3.2.2⟩, by omega, g5, fun i hi => ?_⟩
        · unfold gX7_reachGoal_23b gX7_reachGoal_157
          simp (disch := omega) only [n_lit, n_of, n_o1, nI_add, pk_mul, nI_ltI, nI_leI, nI_eq, ↓lift_lt, ↓k_mt, ↓k_mp, if_true, if_false, Bool.false_eq_true, Nat.not_lt_zero, Nat.zero_le, Nat.reduceEqDiff, Nat.reduceLeDiff, Nat.reduceLT, x12, zn, hd2, cA_g, o3, zf]
        · rw [entr_next (Or.inr (by omega))]
          exact g6 i hi
  · rintro ⟨z1, z2⟩ ⟨g1, g2, q', D', W', n', g3, g4, g5, g6⟩
    have g1 : z1 = nI 20000 := g1
    subst g1
    have g3 : QB (V a) ch z2 s0 st q' D' W' n' 20000 0 := g3
    have hn := g3.2.2.1
    have x12 := g3.2.2.2.1
    have zn : n' ≤ 20000 := hn
    show ∃ r, gX7_reachGoal_23b h z2 goal (nI 20000) = some (.inr r) ∧ _
    refine ⟨(-nI 1, z2), ?_, g2, g3.2.2.2.2.1, q', D', W', n', 20000, 0, g3, Or.inl ⟨rfl, by omega, rfl, g5, g6⟩⟩
    unfold gX7_reachGoal_23b gX7_reachGoal_163
    simp (disch := omega) only [n_lit, n_of, n_o1, nI_add, pk_mul, nI_ltI, nI_leI, nI_eq, ↓lift_lt, ↓k_mt, ↓k_mp, if_true, if_false, Bool.false_eq_true, Nat.not_lt_zero, Nat.zero_le, Nat.reduceEqDiff, Nat.reduceLeDiff, Nat.reduceLT, x12, zn, Option.map_some]
theorem c_reachGoal {B : Nat} (hS : SE B h V c a ch) (hB : B < 2 ^ 30) (hs : s0 < 20000) (hm : s0 % 10000 < 10 ^ vP (V a)) (hg : okg (vP (V a)) goal) :
    ∃ r c' st, gX7_reachGoal h c (nI s0) goal = some (r, c') ∧ KSx c h V a ch c' ∧ st ≤ B + 1 ∧ c'.1 116 4 = nI st ∧ XR (V a) ch c' s0 st goal r := by
  obtain ⟨b1, b2, b3, st, b4, b5, b6, -⟩ := hS
  have hW := b3.2.2.1
  have hC := b3.2.1
  have hP := hW.1
  obtain ⟨c3, e3⟩ : ∃ c3, c3 = cI (cI (cI c 116 13 (nI 0)) 116 4 (nI (st + 1))) 116 12 (nI 0) := ⟨_, rfl⟩
  have v4 : c3.1 116 4 = nI (st + 1) := by rw [e3, cI_1, if_pos rfl, if_neg (by decide), cI_1, if_pos rfl, if_pos rfl]
  have v12 : c3.1 116 12 = nI 0 := by rw [e3, cI_1, if_pos rfl, if_pos rfl]
  have F3 : KSx c h V a ch c3 := by
    rw [e3]
    exact ⟨sfr_I (sfr_I (sfr_I (sfr_rfl c))), CT_116 (CT_116 (CT_116 b3)), b1, by rw [cI_1, if_pos rfl, if_neg (by decide), cI_1, if_pos rfl, if_neg (by decide), cI_1, if_pos rfl, if_neg (by decide)]; exact b2, by rw [cI_1, if_pos rfl, if_neg (by decide), cI_1, if_pos rfl, if_neg (by decide), cI_1, if_pos rfl, if_pos rfl]⟩
  have r3 : c3.2 = c.2 := by rw [e3]; rfl
  have eb : gX7_begin h c = some c3 := by
    have w4 : (cI c 116 13 (nI 0)).1 116 4 = nI st := by rw [cI_1, if_pos rfl, if_neg (by decide)]; exact b4
    rw [e3]
    unfold gX7_begin
    simp (disch := omega) only [n_lit, n_of, n_o1, nI_add, pk_mul, nI_ltI, nI_leI, nI_eq, ↓lift_lt, ↓k_mt, ↓k_mp, if_true, if_false, Bool.false_eq_true, Nat.not_lt_zero, Nat.zero_le, Nat.reduceEqDiff, Nat.reduceLeDiff, Nat.reduceLT, w4]
  have er := c_reach (h := h) (c := c3) (link := -nI 1) hs v12 (by decide)
  rw [v4] at er
  obtain ⟨c4, e4⟩ : ∃ c4, c4 = cI (cS (cS (cS (cS c3 117 s0 (nI (st + 1))) 119 s0 (-nI 1)) 120 s0 (nI 0)) 118 0 (nI s0)) 116 12 (nI (0 + 1)) := ⟨_, rfl⟩
  rw [← e4] at er
  have F4 : KSx c h V a ch c4 := by rw [e4]; exact KSx_12 (KSx_S (KSx_S (KSx_S (KSx_S F3 (by omega)) (by omega)) (by omega)) (by omega))
  have Q4 : QB (V a) ch c4 s0 (st + 1) (fun _ => s0) (fun _ => 0) (fun _ => 0) 1 0 0 := by
    rw [e4]
    refine ⟨Bq_start _ _ _ rfl rfl rfl, Nat.zero_le _, by decide, by rw [cI_1, if_pos rfl, if_pos rfl], by rw [cI_1, if_pos rfl, if_neg (by decide)]; exact v4, fun i hi => ⟨hs, hm, ?_⟩, ?_, fun i h0 h1 => by omega, fun s hs' => ?_⟩
    · show (cS (cS (cS (cS c3 117 s0 (nI (st + 1))) 119 s0 (-nI 1)) 120 s0 (nI 0)) 118 0 (nI s0)).2.2.2.1 118 i = nI s0
      rw [cS_4, if_pos rfl, if_pos (by omega)]
    · show (cS (cS (cS (cS c3 117 s0 (nI (st + 1))) 119 s0 (-nI 1)) 120 s0 (nI 0)) 118 0 (nI s0)).2.2.2.1 119 s0 = _
      rw [cS_n _ (by decide), cS_n _ (by decide), cS_4, if_pos rfl, if_pos rfl]
    · show ((cS (cS (cS (cS c3 117 s0 (nI (st + 1))) 119 s0 (-nI 1)) 120 s0 (nI 0)) 118 0 (nI s0)).2.2.2.1 117 s = _ ∧ _) ∨ ((∃ z, z < st + 1 ∧ (cS (cS (cS (cS c3 117 s0 (nI (st + 1))) 119 s0 (-nI 1)) 120 s0 (nI 0)) 118 0 (nI s0)).2.2.2.1 117 s = nI z) ∧ _)
      rw [cS_n _ (by decide), cS_n _ (by decide), cS_n _ (by decide), cS_4, if_pos rfl]
      by_cases z : s = s0
      · rw [if_pos z]
        exact Or.inl ⟨rfl, 0, by decide, z.symm⟩
      · rw [if_neg z]
        obtain ⟨y, y1, y2⟩ := b6 s hs'
        exact Or.inr ⟨⟨y, by omega, by rw [r3]; exact y2⟩, fun i _ => fun w => z w.symm⟩
  have E4 : ENT (V a) ch c4 (fun _ => s0) 1 0 0 := by
    intro i hi
    show c4.2.2.2.1 120 s0 = nI (entr (nxt (V a) ch) (nL (V a)) (fun _ => s0) 0 0 s0)
    have e0 : entr (nxt (V a) ch) (nL (V a)) (fun _ => s0) 0 0 s0 = 0 := by
      unfold entr
      rw [ecn_0 (k := 0) (fun _ i hi => by omega)]
      rfl
    rw [e0, e4]
    show (cS (cS (cS (cS c3 117 s0 (nI (st + 1))) 119 s0 (-nI 1)) 120 s0 (nI 0)) 118 0 (nI s0)).2.2.2.1 120 s0 = _
    rw [cS_n _ (by decide), cS_4, if_pos rfl, if_pos rfl]
  have eg := c_isGoal (h := h) (V := V) (goal := goal) (s := s0) F4.2.2.1 hC hP hg hs
  unfold gX7_reachGoal
  by_cases gg : Gp (vP (V a)) goal s0
  · rw [ib_t gg] at eg
    have i1 : ¬ (1 = 0) := by decide
    refine ⟨nI s0, c4, st + 1, ?_, F4, by omega, Q4.2.2.2.2.1, _, _, _, 1, 0, 0, Q4, Or.inr ⟨rfl, rfl, gg, fun d' w' hw _ => ?_⟩⟩
    · simp (disch := omega) only [n_lit, n_of, n_o1, nI_add, pk_mul, nI_ltI, nI_leI, nI_eq, ↓lift_lt, ↓k_mt, ↓k_mp, if_true, if_false, Bool.false_eq_true, Nat.not_lt_zero, Nat.zero_le, Nat.reduceEqDiff, Nat.reduceLeDiff, Nat.reduceLT, eb, er, eg, i1]
    · show lex 0 0 d' w'
      unfold lex
      omega
  · rw [ib_f gg] at eg
    obtain ⟨r, c', e', F', v', X'⟩ := rg_outer (goal := goal) hg (by omega) F4 Q4 (fun _ _ => gg) E4
    refine ⟨r, c', st + 1, ?_, F', by omega, v', X'⟩
    simp (disch := omega) only [n_lit, n_of, n_o1, nI_add, pk_mul, nI_ltI, nI_leI, nI_eq, ↓lift_lt, ↓k_mt, ↓k_mp, if_true, if_false, Bool.false_eq_true, Nat.not_lt_zero, Nat.zero_le, Nat.reduceEqDiff, Nat.reduceLeDiff, Nat.reduceLT, eb, er, eg, e']
theorem c_explore {B : Nat} (hS : SE B h V c a ch) (hB : B < 2 ^ 30) (hs : s0 < 20000) (hm : s0 % 10000 < 10 ^ vP (V a)) (hg : okg (vP (V a)) goal) :
    ∃ r c', gX7_explore h c (nI s0) goal = some (r, c') ∧ sfr c c' ∧ SE (B + 1) h V c' a ch ∧ ∃ st, XR (V a) ch c' s0 st goal r := by
  have run : ∃ r c', gX7_explore_23 h c (nI s0) goal = some (r, c') ∧ sfr c c' ∧ SE (B + 1) h V c' a ch ∧ ∃ st, XR (V a) ch c' s0 st goal r := by
    obtain ⟨r, c1, st, e1, F1, l1, v1, X1⟩ := c_reachGoal hS hB hs hm hg
    obtain ⟨c5, e5⟩ : ∃ c5, c5 = cI (cI (cI (cI c1 116 16 r) 116 14 (nI s0)) 116 15 goal) 116 13 (nI 1) := ⟨_, rfl⟩
    have ok : ∀ k, ¬ k = 16 → ¬ k = 14 → ¬ k = 15 → ¬ k = 13 → c5.1 116 k = c1.1 116 k := fun k q1 q2 q3 q4 => by
      rw [e5, cI_1, if_pos rfl, if_neg q4, cI_1, if_pos rfl, if_neg q3, cI_1, if_pos rfl, if_neg q2, cI_1, if_pos rfl, if_neg q1]
    have ok2 : c5.2 = c1.2 := by rw [e5]; rfl
    have X5 : XR (V a) ch c5 s0 st goal r := by
      unfold XR QB ENT at *
      rw [ok 12 (by decide) (by decide) (by decide) (by decide), ok 4 (by decide) (by decide) (by decide) (by decide), ok2]
      exact X1
    have w16 : c5.1 116 16 = r := by rw [e5, cI_1, if_pos rfl, if_neg (by decide), cI_1, if_pos rfl, if_neg (by decide), cI_1, if_pos rfl, if_neg (by decide), cI_1, if_pos rfl, if_pos rfl]
    have w14 : c5.1 116 14 = nI s0 := by rw [e5, cI_1, if_pos rfl, if_neg (by decide), cI_1, if_pos rfl, if_neg (by decide), cI_1, if_pos rfl, if_pos rfl]
    have w15 : c5.1 116 15 = goal := by rw [e5, cI_1, if_pos rfl, if_neg (by decide), cI_1, if_pos rfl, if_pos rfl]
    have w13 : c5.1 116 13 = nI 1 := by rw [e5, cI_1, if_pos rfl, if_pos rfl]
    refine ⟨r, c5, ?_, by rw [e5]; exact sfr_I (sfr_I (sfr_I (sfr_I F1.1))), ⟨by rw [ok2]; exact F1.2.2.1, by rw [ok 2 (by decide) (by decide) (by decide) (by decide)]; exact F1.2.2.2.1, by rw [e5]; exact CT_116 (CT_116 (CT_116 (CT_116 F1.2.1))), st, by rw [ok 4 (by decide) (by decide) (by decide) (by decide)]; exact v1, l1, fun i hi => ?_, Or.inr ⟨w13, ?_⟩⟩, st, X5⟩
    · unfold gX7_explore_23 gX7_explore_48
      rw [e5] at w16
      simp (disch := omega) only [n_lit, n_of, n_o1, nI_add, pk_mul, nI_ltI, nI_leI, nI_eq, ↓lift_lt, ↓k_mt, ↓k_mp, if_true, if_false, Bool.false_eq_true, Nat.not_lt_zero, Nat.zero_le, Nat.reduceEqDiff, Nat.reduceLeDiff, Nat.reduceLT, e1, w16, e5]
    · obtain ⟨q, D, W, n, hd, k, Q, -⟩ := X1
      rcases Q.2.2.2.2.2.2.2.2 i hi with ⟨m1, -⟩ | ⟨⟨z, z1, m1⟩, -⟩
      · exact ⟨st, Nat.le_refl _, by rw [ok2]; exact m1⟩
      · exact ⟨z, by omega, by rw [ok2]; exact m1⟩
    · obtain ⟨q, D, W, n, hd, k, Q, R⟩ := X5
      exact ⟨s0, goal, r, st, q, D, W, n, hd, k, w14, hs, hm, w15, w16, Q, R⟩
  obtain ⟨b1, b2, b3, st, b4, b5, b6, b7⟩ := hS
  unfold gX7_explore
  rcases b7 with b7 | ⟨b7, s0', goal', res, st', q, D, W, n, hd, k, x14, l0, l1, x15, x16, Q, R⟩
  · obtain ⟨r, c', e, rest⟩ := run
    refine ⟨r, c', ?_, rest⟩
    simp (disch := omega) only [n_lit, n_of, n_o1, nI_add, pk_mul, nI_ltI, nI_leI, nI_eq, ↓lift_lt, ↓k_mt, ↓k_mp, if_true, if_false, Bool.false_eq_true, Nat.not_lt_zero, Nat.zero_le, Nat.reduceEqDiff, Nat.reduceLeDiff, Nat.reduceLT, b7, e]
  · have i1 : ¬ (1 = 0) := by decide
    by_cases z1 : s0' = s0
    · by_cases z2 : goal' = goal
      · subst z1 z2
        refine ⟨res, c, ?_, sfr_rfl c, ⟨b1, b2, b3, st, b4, by omega, b6, Or.inr ⟨b7, s0', goal', res, st', q, D, W, n, hd, k, x14, l0, l1, x15, x16, Q, R⟩⟩, st', q, D, W, n, hd, k, Q, R⟩
        unfold gX7_explore_48
        simp (disch := omega) only [n_lit, n_of, n_o1, nI_add, pk_mul, nI_ltI, nI_leI, nI_eq, ↓lift_lt, ↓k_mt, ↓k_mp, if_true, if_false, Bool.false_eq_true, Nat.not_lt_zero, Nat.zero_le, Nat.reduceEqDiff, Nat.reduceLeDiff, Nat.reduceLT, b7, i1, x14, x15, x16]
      · obtain ⟨r, c', e, rest⟩ := run
        refine ⟨r, c', ?_, rest⟩
        simp (disch := omega) only [n_lit, n_of, n_o1, nI_add, pk_mul, nI_ltI, nI_leI, nI_eq, ↓lift_lt, ↓k_mt, ↓k_mp, if_true, if_false, Bool.false_eq_true, Nat.not_lt_zero, Nat.zero_le, Nat.reduceEqDiff, Nat.reduceLeDiff, Nat.reduceLT, b7, i1, x14, z1, x15, z2, e]
    · obtain ⟨r, c', e, rest⟩ := run
      refine ⟨r, c', ?_, rest⟩
      simp (disch := omega) only [n_lit, n_of, n_o1, nI_add, pk_mul, nI_ltI, nI_leI, nI_eq, ↓lift_lt, ↓k_mt, ↓k_mp, if_true, if_false, Bool.false_eq_true, Nat.not_lt_zero, Nat.zero_le, Nat.reduceEqDiff, Nat.reduceLeDiff, Nat.reduceLT, b7, i1, x14, z1, e]
end EXQ
