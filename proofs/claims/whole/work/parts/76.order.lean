/-! in which order they meet -/
theorem csum_le {f g : Nat → Nat} : ∀ {n : Nat}, (∀ i, i < n → f i ≤ g i) → csum f n ≤ csum g n
  | 0, _ => Nat.le_refl 0
  | n + 1, h => Nat.add_le_add (csum_le (n := n) (fun i hi => h i (by omega))) (h n (by omega))
theorem csum_lt {f g : Nat → Nat} : ∀ {n : Nat}, (∀ i, i < n → f i ≤ g i) → (∃ i, i < n ∧ f i < g i) → csum f n < csum g n
  | 0, _, ⟨i, hi, _⟩ => by omega
  | n + 1, h, ⟨i, hi, hl⟩ => by
    show csum f n + f n < csum g n + g n
    have h1 := csum_le (n := n) (f := f) (g := g) (fun i hi => h i (by omega))
    have h2 := h n (by omega)
    by_cases e : i = n
    · subst e; omega
    · have := csum_lt (n := n) (f := f) (g := g) (fun i hi => h i (by omega)) ⟨i, by omega, hl⟩
      omega
theorem csum_b {f : Nat → Nat} (hf : ∀ i, f i ≤ 1) : ∀ n, csum f n ≤ n
  | 0 => Nat.le_refl 0
  | n + 1 => by
    show csum f n + f n ≤ n + 1
    have := csum_b hf n
    have := hf n
    omega
theorem csum_eq {f g : Nat → Nat} : ∀ {n : Nat}, (∀ i, i < n → f i = g i) → csum f n = csum g n
  | 0, _ => rfl
  | n + 1, h => by
    show csum f n + f n = csum g n + g n
    rw [csum_eq (n := n) (fun i hi => h i (by omega)), h n (by omega)]
def Yn (M : Nat → Int32) (p : Nat) : Nat := (M p).toNatClampNeg
/-- p meets at all, in year Yn; q does ahead of p -/
def okM (M : Nat → Int32) (P : Nat) : Prop := ∀ p, p < P → (Yn M p < 2 ^ 30 ∧ M p = nI (Yn M p)) ∨ M p = -nI 1
def erl (M : Nat → Int32) (q y p : Nat) : Nat := if ¬ M q = -nI 1 ∧ (Yn M q < y ∨ (Yn M q = y ∧ q < p)) then 1 else 0
def rnk (M : Nat → Int32) (P p : Nat) : Nat := csum (fun q => erl M q (Yn M p) p) P
theorem erl_b (M : Nat → Int32) (q y p : Nat) : erl M q y p ≤ 1 := by unfold erl; split <;> omega
theorem rnk_lt {M : Nat → Int32} {P p p' : Nat} (hp : p < P) (h1 : ¬ M p = -nI 1) (hl : Yn M p < Yn M p' ∨ (Yn M p = Yn M p' ∧ p < p')) : rnk M P p < rnk M P p' := by
  refine csum_lt (fun q _ => ?_) ⟨p, hp, ?_⟩
  · unfold erl
    by_cases z : ¬ M q = -nI 1 ∧ (Yn M q < Yn M p ∨ (Yn M q = Yn M p ∧ q < p))
    · rw [if_pos z, if_pos ⟨z.1, by omega⟩]; exact Nat.le_refl 1
    · rw [if_neg z]; exact Nat.zero_le _
  · unfold erl
    rw [if_neg (by omega), if_pos ⟨h1, hl⟩]
    decide
theorem rnk_inj {M : Nat → Int32} {P p p' : Nat} (hp : p < P) (hp' : p' < P) (h1 : ¬ M p = -nI 1) (h1' : ¬ M p' = -nI 1) (e : rnk M P p = rnk M P p') : p = p' := by
  apply Classical.byContradiction
  intro hne
  by_cases z : Yn M p < Yn M p' ∨ (Yn M p = Yn M p' ∧ p < p')
  · have := rnk_lt hp h1 z
    omega
  · have := rnk_lt hp' h1' (show Yn M p' < Yn M p ∨ (Yn M p' = Yn M p ∧ p' < p) by omega)
    omega
/-- the answer -/
def ordA (M : Nat → Int32) (P : Nat) (i r : Int32) : Prop := (∃ p, p < P ∧ r = nI p ∧ ¬ M p = -nI 1 ∧ nI (rnk M P p) = i) ∨ (r = -nI 1 ∧ ∀ p, p < P → ¬ M p = -nI 1 → ¬ nI (rnk M P p) = i)
theorem rnk_b (M : Nat → Int32) (P p : Nat) : rnk M P p ≤ P := csum_b (fun q => erl_b M q _ p) P
theorem ordA_one {M : Nat → Int32} {P : Nat} {i r r' : Int32} (hP : P ≤ 4) (h : ordA M P i r) (h' : ordA M P i r') : r = r' := by
  rcases h with ⟨p, a1, a2, a3, a4⟩ | ⟨a1, a2⟩
  · rcases h' with ⟨p', b1, b2, b3, b4⟩ | ⟨b1, b2⟩
    · have e : rnk M P p = rnk M P p' := by
        have u := rnk_b M P p
        have u' := rnk_b M P p'
        exact (nI_eq (by omega) (by omega)).mp (a4.trans b4.symm)
      rw [a2, b2, rnk_inj a1 b1 a3 b3 e]
    · exact absurd a4 (b2 p a1 a3)
  · rcases h' with ⟨p', b1, b2, b3, b4⟩ | ⟨b1, b2⟩
    · exact absurd b4 (a2 p' b1 b3)
    · rw [a1, b1]
section COR
variable {h : Hp} {c : Ch} {a : Nat} {v : Cv} {M : Nat → Int32}
theorem c_countEarlier {p : Nat} (hP : vP v ≤ 4) (e1 : c.2.2.1 80 3 = some a) (hC : CaveAt h a v) (hM : ∀ q, q < vP v → c.2.2.2.1 125 q = M q) (hok : okM M (vP v)) (hp : p < vP v) (hf : ¬ M p = -nI 1) : gX11_countEarlier h c (nI p) = some (nI (rnk M (vP v) p)) := by
  have mp := (hok p hp).resolve_right hf
  unfold gX11_countEarlier gX11_countEarlier_4
  have K := lpw_iter (body := fun z : Int32 × Int32 => gX11_countEarlier_4b h c (nI p) z.1 z.2) (fun k => (nI (csum (fun q => erl M q (Yn M p) p) k), nI k)) (vP v) (nI (rnk M (vP v) p)) ?_ ?_
  · exact K
  · intro q hq
    have q1 : ¬ vP v ≤ q := by omega
    show gX11_countEarlier_4b h c (nI p) (nI (csum (fun q => erl M q (Yn M p) p) q)) (nI q) = some (.inl (nI (csum (fun q => erl M q (Yn M p) p) q + erl M q (Yn M p) p), nI (q + 1)))
    generalize csum (fun q => erl M q (Yn M p) p) q = n
    have mq := hM q hq
    have mp' := hM p hp
    unfold gX11_countEarlier_4b gX11_countEarlier_50 gX11_countEarlier_54 gX11_countEarlier_55 gX11_countEarlier_75
    rcases hok q hq with ⟨y1, y2⟩ | y1
    · have nq := nI_ne1 (n := Yn M q) (by omega)
      have nq' : ¬ M q = -nI 1 := by rw [y2]; exact nq
      rw [y2] at mq
      rw [mp.2] at mp'
      have mb := mp.1
      by_cases z1 : Yn M q < Yn M p
      · have z2 : erl M q (Yn M p) p = 1 := if_pos ⟨nq', Or.inl z1⟩
        rw [z2]
        simp (disch := omega) only [n_lit, n_of, n_o1, nI_add, pk_mul, nI_ltI, nI_leI, nI_eq, ↓lift_lt, ↓k_mt, ↓k_mp, if_true, if_false, Bool.false_eq_true, Nat.not_lt_zero, Nat.zero_le, Nat.reduceEqDiff, Nat.reduceLeDiff, Nat.reduceLT, e1, cv_P hC, q1, cA_g, mq, mp', z1, nq]
      · by_cases z3 : Yn M q = Yn M p
        · by_cases z4 : q < p
          · have z5 : ¬ p ≤ q := by omega
            have z2 : erl M q (Yn M p) p = 1 := if_pos ⟨nq', Or.inr ⟨z3, z4⟩⟩
            rw [z2]
            rw [z3] at mq nq
            have z1' : ¬ Yn M p < Yn M p := by omega
            simp (disch := omega) only [n_lit, n_of, n_o1, nI_add, pk_mul, nI_ltI, nI_leI, nI_eq, ↓lift_lt, ↓k_mt, ↓k_mp, if_true, if_false, Bool.false_eq_true, Nat.not_lt_zero, Nat.zero_le, Nat.reduceEqDiff, Nat.reduceLeDiff, Nat.reduceLT, e1, cv_P hC, q1, cA_g, mq, mp', z1', z5, nq]
          · have z5 : p ≤ q := by omega
            have z2 : erl M q (Yn M p) p = 0 := if_neg (by omega)
            rw [z2]
            rw [z3] at mq nq
            have z1' : ¬ Yn M p < Yn M p := by omega
            simp (disch := omega) only [n_lit, n_of, n_o1, nI_add, pk_mul, nI_ltI, nI_leI, nI_eq, ↓lift_lt, ↓k_mt, ↓k_mp, if_true, if_false, Bool.false_eq_true, Nat.not_lt_zero, Nat.zero_le, Nat.reduceEqDiff, Nat.reduceLeDiff, Nat.reduceLT, e1, cv_P hC, q1, cA_g, mq, mp', z1', z5, nq, Nat.add_zero]
        · have z2 : erl M q (Yn M p) p = 0 := if_neg (by omega)
          rw [z2]
          simp (disch := omega) only [n_lit, n_of, n_o1, nI_add, pk_mul, nI_ltI, nI_leI, nI_eq, ↓lift_lt, ↓k_mt, ↓k_mp, if_true, if_false, Bool.false_eq_true, Nat.not_lt_zero, Nat.zero_le, Nat.reduceEqDiff, Nat.reduceLeDiff, Nat.reduceLT, e1, cv_P hC, q1, cA_g, mq, mp', z1, z3, nq, Nat.add_zero]
    · rw [y1] at mq
      rw [mp.2] at mp'
      have z2 : erl M q (Yn M p) p = 0 := if_neg (fun w => w.1 y1)
      rw [z2]
      have key : ∀ s0 : Int32, gX11_countEarlier_55 h c (nI p) (nI n) (nI q) s0 = some (.inl (nI n, nI (q + 1))) := by
        intro s0
        unfold gX11_countEarlier_55 gX11_countEarlier_75
        simp (disch := omega) only [n_lit, n_of, n_o1, nI_add, pk_mul, nI_ltI, nI_leI, nI_eq, ↓lift_lt, ↓k_mt, ↓k_mp, if_true, if_false, Bool.false_eq_true, Nat.not_lt_zero, Nat.zero_le, Nat.reduceEqDiff, Nat.reduceLeDiff, Nat.reduceLT, cA_g, mq]
      unfold gX11_countEarlier_55 gX11_countEarlier_75 at key
      by_cases w1 : -nI 1 < nI (Yn M p)
      · simp (disch := omega) only [n_lit, n_of, n_o1, nI_add, pk_mul, nI_ltI, nI_leI, nI_eq, ↓lift_lt, ↓k_mt, ↓k_mp, if_true, if_false, Bool.false_eq_true, Nat.not_lt_zero, Nat.zero_le, Nat.reduceEqDiff, Nat.reduceLeDiff, Nat.reduceLT, e1, cv_P hC, q1, cA_g, mq, mp', w1, Nat.add_zero]
      · by_cases w2 : -nI 1 = nI (Yn M p)
        · exact absurd w2.symm (nI_ne1 (by have := mp.1; omega))
        · simp (disch := omega) only [n_lit, n_of, n_o1, nI_add, pk_mul, nI_ltI, nI_leI, nI_eq, ↓lift_lt, ↓k_mt, ↓k_mp, if_true, if_false, Bool.false_eq_true, Nat.not_lt_zero, Nat.zero_le, Nat.reduceEqDiff, Nat.reduceLeDiff, Nat.reduceLT, e1, cv_P hC, q1, cA_g, mq, mp', w1, w2, Nat.add_zero]
  · show gX11_countEarlier_4b h c (nI p) (nI (rnk M (vP v) p)) (nI (vP v)) = _
    unfold gX11_countEarlier_4b
    simp (disch := omega) only [n_lit, n_of, n_o1, nI_add, pk_mul, nI_ltI, nI_leI, nI_eq, ↓lift_lt, ↓k_mt, ↓k_mp, if_true, if_false, Bool.false_eq_true, Nat.not_lt_zero, Nat.zero_le, Nat.reduceEqDiff, Nat.reduceLeDiff, Nat.reduceLT, e1, cv_P hC, Nat.le_refl]
theorem c_order {i : Int32} (hP : vP v ≤ 4) (e1 : c.2.2.1 80 3 = some a) (hC : CaveAt h a v) (hM : ∀ q, q < vP v → c.2.2.2.1 125 q = M q) (hok : okM M (vP v)) : ∃ r, gX11_order_39 h c i (nI 0) = some (r, c) ∧ ordA M (vP v) i r := by
  unfold gX11_order_39
  have K := lpw_inv (body := fun q : Int32 => gX11_order_39b h c i q) (fun k q => q = nI k ∧ ∀ p, p < k → ¬ M p = -nI 1 → ¬ nI (rnk M (vP v) p) = i) (fun r => r.2 = c ∧ ordA M (vP v) i r.1) (vP v) ?_ ?_ (nI 0) ⟨rfl, fun p hp => by omega⟩
  · obtain ⟨r, e, e2, e3⟩ := K
    exact ⟨r.1, by rw [e]; exact congrArg some (Prod.ext rfl e2), e3⟩
  · intro k q hk ⟨g1, g2⟩
    subst g1
    have k1 : ¬ vP v ≤ k := by omega
    have mk := hM k hk
    show (∃ s', gX11_order_39b h c i (nI k) = some (.inl s') ∧ _) ∨ (∃ r, gX11_order_39b h c i (nI k) = some (.inr r) ∧ _)
    unfold gX11_order_39b gX11_order_71
    by_cases z1 : M k = -nI 1
    · refine Or.inl ⟨nI (k + 1), ?_, rfl, fun p hp hf => ?_⟩
      · rw [z1] at mk
        simp (disch := omega) only [n_lit, n_of, n_o1, nI_add, pk_mul, nI_ltI, nI_leI, nI_eq, ↓lift_lt, ↓k_mt, ↓k_mp, if_true, if_false, Bool.false_eq_true, Nat.not_lt_zero, Nat.zero_le, Nat.reduceEqDiff, Nat.reduceLeDiff, Nat.reduceLT, e1, cv_P hC, k1, cA_g, mk]
      · by_cases z : p = k
        · rw [z] at hf; exact absurd z1 hf
        · exact g2 p (by omega) hf
    · have ce := c_countEarlier hP e1 hC hM hok hk z1
      by_cases z2 : nI (rnk M (vP v) k) = i
      · refine Or.inr ⟨(nI k, c), ?_, rfl, Or.inl ⟨k, hk, rfl, z1, z2⟩⟩
        simp (disch := omega) only [n_lit, n_of, n_o1, nI_add, pk_mul, nI_ltI, nI_leI, nI_eq, ↓lift_lt, ↓k_mt, ↓k_mp, if_true, if_false, Bool.false_eq_true, Nat.not_lt_zero, Nat.zero_le, Nat.reduceEqDiff, Nat.reduceLeDiff, Nat.reduceLT, e1, cv_P hC, k1, cA_g, mk, z1, ce, eq_true z2]
      · refine Or.inl ⟨nI (k + 1), ?_, rfl, fun p hp hf => ?_⟩
        · simp (disch := omega) only [n_lit, n_of, n_o1, nI_add, pk_mul, nI_ltI, nI_leI, nI_eq, ↓lift_lt, ↓k_mt, ↓k_mp, if_true, if_false, Bool.false_eq_true, Nat.not_lt_zero, Nat.zero_le, Nat.reduceEqDiff, Nat.reduceLeDiff, Nat.reduceLT, e1, cv_P hC, k1, cA_g, mk, z1, ce, z2]
        · by_cases z : p = k
          · rw [z]; exact z2
          · exact g2 p (by omega) hf
  · intro q ⟨g1, g2⟩
    subst g1
    show ∃ r, gX11_order_39b h c i (nI (vP v)) = some (.inr r) ∧ _
    unfold gX11_order_39b
    refine ⟨(-nI 1, c), ?_, rfl, Or.inr ⟨rfl, g2⟩⟩
    simp (disch := omega) only [n_lit, n_of, n_o1, nI_add, pk_mul, nI_ltI, nI_leI, nI_eq, ↓lift_lt, ↓k_mt, ↓k_mp, if_true, if_false, Bool.false_eq_true, Nat.not_lt_zero, Nat.zero_le, Nat.reduceEqDiff, Nat.reduceLeDiff, Nat.reduceLT, e1, cv_P hC, Nat.le_refl]
end COR
/-- how many have met ahead of a year and a pair -/
def cnA (M : Nat → Int32) (P y p : Nat) : Nat := csum (fun q => erl M q y p) P
theorem cnA_b (M : Nat → Int32) (P y p : Nat) : cnA M P y p ≤ P := csum_b (fun q => erl_b M q _ p) P
theorem csum_one {f g : Nat → Nat} {k : Nat} (hk : g k = f k + 1) (ho : ∀ i, ¬ i = k → g i = f i) : ∀ n, csum g n = csum f n + (if k < n then 1 else 0)
  | 0 => rfl
  | n + 1 => by
    show csum g n + g n = csum f n + f n + (if k < n + 1 then 1 else 0)
    rw [csum_one hk ho n]
    by_cases e : n = k
    · subst e
      rw [hk, if_neg (by omega), if_pos (by omega)]
      omega
    · rw [ho n e]
      by_cases z : k < n
      · rw [if_pos z, if_pos (by omega)]; omega
      · rw [if_neg z, if_neg (by omega)]; omega
theorem cnA_hit {M : Nat → Int32} {P y p : Nat} (hp : p < P) (h1 : ¬ M p = -nI 1) (hy : Yn M p = y) : cnA M P y (p + 1) = cnA M P y p + 1 := by
  unfold cnA
  rw [csum_one (f := fun q => erl M q y p) (g := fun q => erl M q y (p + 1)) (k := p) ?_ ?_ P, if_pos hp]
  · show erl M p y (p + 1) = erl M p y p + 1
    unfold erl
    rw [if_pos ⟨h1, Or.inr ⟨hy, by omega⟩⟩, if_neg (by omega)]
  · intro q hq
    show erl M q y (p + 1) = erl M q y p
    unfold erl
    by_cases z : ¬ M q = -nI 1 ∧ (Yn M q < y ∨ (Yn M q = y ∧ q < p))
    · rw [if_pos z, if_pos ⟨z.1, by omega⟩]
    · rw [if_neg z, if_neg]
      intro w
      exact z ⟨w.1, by omega⟩
theorem cnA_miss {M : Nat → Int32} {P y p : Nat} (h : M p = -nI 1 ∨ ¬ Yn M p = y) : cnA M P y (p + 1) = cnA M P y p := by
  unfold cnA
  refine csum_eq (fun q _ => ?_)
  unfold erl
  by_cases z : ¬ M q = -nI 1 ∧ (Yn M q < y ∨ (Yn M q = y ∧ q < p))
  · rw [if_pos z, if_pos ⟨z.1, by omega⟩]
  · rw [if_neg z, if_neg]
    intro w
    by_cases e : q = p
    · subst e
      rcases h with h | h
      · exact w.1 h
      · exact z ⟨w.1, by omega⟩
    · exact z ⟨w.1, by omega⟩
theorem cnA_next (M : Nat → Int32) (P y : Nat) : cnA M P (y + 1) 0 = cnA M P y P := by
  unfold cnA
  refine csum_eq (fun q hq => ?_)
  unfold erl
  by_cases z : ¬ M q = -nI 1 ∧ (Yn M q < y ∨ (Yn M q = y ∧ q < P))
  · rw [if_pos z, if_pos ⟨z.1, by omega⟩]
  · rw [if_neg z, if_neg]
    intro w
    exact z ⟨w.1, by omega⟩
section MOR
variable {m : Mu} {P : Nat} {M : Nat → Int32}
theorem q_order {i : Int32} {F : Nat → Nat} {t : Nat} (hP : P ≤ 4) (h1 : m.2.1 1 1 = nI P) (hL : LED F t m) (hM : ∀ p, p < P → gX12_metAt m (nI p) = some (M p) ∧ fst1 (fun n => dg (itr F t n) p = 0) (M p)) (hok : okM M P) : ∃ r, gX12_order_27 m i (nI 0) (nI 0) = some (r, m) ∧ ordA M P i r := by
  obtain ⟨tl, N, a1, a2, a3, a4, a5, a6⟩ := hL
  have eN : tl + (N - tl) = N := by omega
  -- those that meet do within what is laid
  have hin : ∀ p, p < P → ¬ M p = -nI 1 → Yn M p < N := by
    intro p hp hf
    rcases (hM p hp).2 with ⟨n, n1, n2, n3, n4⟩ | ⟨n1, -⟩
    · have en : Yn M p = n := by unfold Yn; rw [n2]; exact nI_clamp (by omega)
      rw [en]
      apply Classical.byContradiction
      intro hge
      have hm := itr_mod a3 a5 n (by omega)
      have hlt : (n - tl) % (N - tl) < N - tl := Nat.mod_lt _ (by omega)
      refine n4 (tl + (n - tl) % (N - tl)) (by omega) ?_
      show dg (itr F t (tl + (n - tl) % (N - tl))) p = 0
      rw [← hm]
      exact n3
    · exact absurd n1 hf
  -- none so far
  have st0 : ∀ y p, (∀ q, q < P → ¬ M q = -nI 1 → (Yn M q < y ∨ (Yn M q = y ∧ q < p)) → ¬ nI (rnk M P q) = i) → True := fun _ _ _ => trivial
  unfold gX12_order_27
  have K := lpw_inv (body := fun z : Int32 × Int32 => gX12_order_27b m i z.1 z.2)
    (fun y z => z.1 = nI (cnA M P y 0) ∧ z.2 = nI y ∧ ∀ q, q < P → ¬ M q = -nI 1 → Yn M q < y → ¬ nI (rnk M P q) = i)
    (fun r => r.2 = m ∧ ordA M P i r.1) N ?_ ?_ (nI 0, nI 0) ⟨?_, rfl, fun q _ _ hq => by omega⟩
  · obtain ⟨r, e, e2, e3⟩ := K
    exact ⟨r.1, by rw [e]; exact congrArg some (Prod.ext rfl e2), e3⟩
  · rintro y ⟨z1, z2⟩ hy ⟨g1, g2, g3⟩
    have g1 : z1 = nI (cnA M P y 0) := g1
    have g2 : z2 = nI y := g2
    subst g1 g2
    have y1 : ¬ N ≤ y := by omega
    show (∃ s', gX12_order_27b m i (nI (cnA M P y 0)) (nI y) = some (.inl s') ∧ _) ∨ (∃ r, gX12_order_27b m i (nI (cnA M P y 0)) (nI y) = some (.inr r) ∧ _)
    have eb : gX12_order_27b m i (nI (cnA M P y 0)) (nI y) = gX12_order_43 m i (nI (cnA M P y 0)) (nI y) (nI 0) := by
      unfold gX12_order_27b
      simp (disch := omega) only [n_lit, n_of, n_o1, nI_add, pk_mul, nI_ltI, nI_leI, nI_eq, ↓lift_lt, ↓k_mt, ↓k_mp, if_true, if_false, Bool.false_eq_true, Nat.not_lt_zero, Nat.zero_le, Nat.reduceEqDiff, Nat.reduceLeDiff, Nat.reduceLT, a1, a2, eN, y1]
    rw [eb]
    unfold gX12_order_43
    have J := lpw_inv (body := fun z : Int32 × Int32 => gX12_order_43b m i (nI y) z.1 z.2)
      (fun p z => z.1 = nI (cnA M P y p) ∧ z.2 = nI p ∧ ∀ q, q < P → ¬ M q = -nI 1 → (Yn M q < y ∨ (Yn M q = y ∧ q < p)) → ¬ nI (rnk M P q) = i)
      (fun r => (r = .inl (nI (cnA M P (y + 1) 0), nI (y + 1)) ∧ ∀ q, q < P → ¬ M q = -nI 1 → Yn M q < y + 1 → ¬ nI (rnk M P q) = i) ∨ ∃ w, r = .inr (w, m) ∧ ordA M P i w) P ?_ ?_ (nI (cnA M P y 0), nI 0) ⟨rfl, rfl, fun q h1 h2 h3 => g3 q h1 h2 (by omega)⟩
    · obtain ⟨r, er, hr⟩ := J
      rcases hr with ⟨hr, hh⟩ | ⟨w, hr, hh⟩
      · exact Or.inl ⟨_, by rw [← hr]; exact er, rfl, rfl, hh⟩
      · exact Or.inr ⟨_, by rw [← hr]; exact er, rfl, hh⟩
    · rintro p ⟨z1, z2⟩ hp ⟨x1, x2, x3⟩
      have x1 : z1 = nI (cnA M P y p) := x1
      have x2 : z2 = nI p := x2
      subst x1 x2
      have p1 : ¬ P ≤ p := by omega
      have cb := cnA_b M P y p
      have em := (hM p hp).1
      show (∃ s', gX12_order_43b m i (nI y) (nI (cnA M P y p)) (nI p) = some (.inl s') ∧ _) ∨ (∃ r, gX12_order_43b m i (nI y) (nI (cnA M P y p)) (nI p) = some (.inr r) ∧ _)
      unfold gX12_order_43b gX12_order_78
      by_cases hm : ¬ M p = -nI 1 ∧ Yn M p = y
      · have me := ((hok p hp).resolve_right hm.1).2
        have er : rnk M P p = cnA M P y p := by unfold rnk cnA; rw [hm.2]
        have mv : M p = nI y := by rw [me, hm.2]
        by_cases hi : nI (cnA M P y p) = i
        · refine Or.inr ⟨.inr (nI p, m), ?_, Or.inr ⟨nI p, rfl, Or.inl ⟨p, hp, rfl, hm.1, by rw [er]; exact hi⟩⟩⟩
          simp (disch := omega) only [n_lit, n_of, n_o1, nI_add, pk_mul, nI_ltI, nI_leI, nI_eq, ↓lift_lt, ↓k_mt, ↓k_mp, if_true, if_false, Bool.false_eq_true, Nat.not_lt_zero, Nat.zero_le, Nat.reduceEqDiff, Nat.reduceLeDiff, Nat.reduceLT, mA_1, h1, p1, em, mv, eq_true hi]
        · refine Or.inl ⟨(nI (cnA M P y (p + 1)), nI (p + 1)), ?_, rfl, rfl, fun q h1 h2 h3 => ?_⟩
          · rw [cnA_hit hp hm.1 hm.2]
            simp (disch := omega) only [n_lit, n_of, n_o1, nI_add, pk_mul, nI_ltI, nI_leI, nI_eq, ↓lift_lt, ↓k_mt, ↓k_mp, if_true, if_false, Bool.false_eq_true, Nat.not_lt_zero, Nat.zero_le, Nat.reduceEqDiff, Nat.reduceLeDiff, Nat.reduceLT, mA_1, h1, p1, em, mv, hi]
          · by_cases z : q = p
            · rw [z, er]; exact hi
            · exact x3 q h1 h2 (by omega)
      · have hne : ¬ M p = nI y := by
          intro e
          refine hm ⟨by rw [e]; exact nI_ne1 (by omega), ?_⟩
          unfold Yn
          rw [e]
          exact nI_clamp (by omega)
        refine Or.inl ⟨(nI (cnA M P y (p + 1)), nI (p + 1)), ?_, rfl, rfl, fun q h1 h2 h3 => ?_⟩
        · rw [cnA_miss (show M p = -nI 1 ∨ ¬ Yn M p = y by
            by_cases z : M p = -nI 1
            · exact Or.inl z
            · exact Or.inr (fun w => hm ⟨z, w⟩))]
          simp (disch := omega) only [n_lit, n_of, n_o1, nI_add, pk_mul, nI_ltI, nI_leI, nI_eq, ↓lift_lt, ↓k_mt, ↓k_mp, if_true, if_false, Bool.false_eq_true, Nat.not_lt_zero, Nat.zero_le, Nat.reduceEqDiff, Nat.reduceLeDiff, Nat.reduceLT, mA_1, h1, p1, em, hne]
        · by_cases z : q = p
          · subst z
            by_cases zz : Yn M q < y
            · exact x3 q h1 h2 (Or.inl zz)
            · exact absurd ⟨h2, by omega⟩ hm
          · exact x3 q h1 h2 (by omega)
    · rintro ⟨z1, z2⟩ ⟨x1, x2, x3⟩
      have x1 : z1 = nI (cnA M P y P) := x1
      have x2 : z2 = nI P := x2
      subst x1 x2
      show ∃ r, gX12_order_43b m i (nI y) (nI (cnA M P y P)) (nI P) = some (.inr r) ∧ _
      unfold gX12_order_43b gX12_order_84
      refine ⟨_, ?_, Or.inl ⟨rfl, fun q h1 h2 h3 => x3 q h1 h2 (by omega)⟩⟩
      rw [cnA_next]
      simp (disch := omega) only [n_lit, n_of, n_o1, nI_add, pk_mul, nI_ltI, nI_leI, nI_eq, ↓lift_lt, ↓k_mt, ↓k_mp, if_true, if_false, Bool.false_eq_true, Nat.not_lt_zero, Nat.zero_le, Nat.reduceEqDiff, Nat.reduceLeDiff, Nat.reduceLT, mA_1, h1, Nat.le_refl]
  · rintro ⟨z1, z2⟩ ⟨g1, g2, g3⟩
    have g2 : z2 = nI N := g2
    subst g2
    show ∃ r, gX12_order_27b m i z1 (nI N) = some (.inr r) ∧ _
    unfold gX12_order_27b
    refine ⟨(-nI 1, m), ?_, rfl, Or.inr ⟨rfl, fun p hp hf => g3 p hp hf (hin p hp hf)⟩⟩
    simp (disch := omega) only [n_lit, n_of, n_o1, nI_add, pk_mul, nI_ltI, nI_leI, nI_eq, ↓lift_lt, ↓k_mt, ↓k_mp, if_true, if_false, Bool.false_eq_true, Nat.not_lt_zero, Nat.zero_le, Nat.reduceEqDiff, Nat.reduceLeDiff, Nat.reduceLT, a1, a2, eN, Nat.le_refl]
  · have : cnA M P 0 0 = 0 := by
      unfold cnA
      have e : csum (fun q => erl M q 0 0) P = csum (fun _ => 0) P := csum_eq (fun q _ => if_neg (by omega))
      rw [e]
      have : ∀ n, csum (fun _ => 0) n = 0 := by
        intro n
        induction n with
        | zero => rfl
        | succ n ih => show csum (fun _ => 0) n + 0 = 0; rw [ih]
      exact this P
    show nI 0 = nI (cnA M P 0 0)
    rw [this]
end MOR
section OPS9
variable {T : Nat} {h : Hp} {V : Nat → Cv} {c : Ch} {m : Mu} {x : Sp}
theorem op_order (x1 : Int32) (gC : RC T h V c x) (gM : RM m x) (hw : WF x) : OKs T h V (gX11_order h c x1) (gX12_order m x1) := by
  have hP := hw.2.2.1.1
  obtain ⟨hl, hok⟩ := led_of hw
  have N := RD_now gM hw
  have m23 : (mI m 0 (nI 0)).2.1 1 23 = nI (zS x).2.2.1 := N.2.1.2.2.1
  unfold gX11_order gX12_order
  by_cases h0 : nI 0 ≤ x1
  · obtain ⟨a, c1, e1, eV, T1, f1, R1, k80, s1, C1⟩ := cl_tuned gC hw
    obtain ⟨c', er, T', q', -, D'⟩ := c_tellMeetings (s := (zS x).1) (l := (zS x).2.2.1) (j := 0) (F := fun t => Yr (zV x) (zS x).2.1 t (zS x).2.2.1 0) (by rw [eV]) hok hl T1
    obtain ⟨m', em, L, fm⟩ := q_laysLed (l := (zS x).2.2.1) N hl
    obtain ⟨M, eM⟩ : ∃ M : Nat → Int32, M = fun p => c'.2.2.2.1 125 p := ⟨_, rfl⟩
    have D' : ∀ p, p < vP (zV x) → fst1 (fun n => dg (itr (fun t => Yr (zV x) (zS x).2.1 t (zS x).2.2.1 0) (zS x).1 n) p = 0) (M p) := fun p hp => by rw [eM]; exact D' p (by rw [eV]; exact hp)
    have okm : okM M (vP (zV x)) := by
      intro p hp
      rcases D' p hp with ⟨n, n1, n2, -⟩ | ⟨n1, -⟩
      · have en : Yn M p = n := by unfold Yn; rw [n2]; exact nI_clamp (by omega)
        exact Or.inl ⟨by omega, by rw [en]; exact n2⟩
      · exact Or.inr n1
    have hMm : ∀ p, p < vP (zV x) → gX12_metAt m' (nI p) = some (M p) ∧ fst1 (fun n => dg (itr (fun t => Yr (zV x) (zS x).2.1 t (zS x).2.2.1 0) (zS x).1 n) p = 0) (M p) := fun p hp => by
      obtain ⟨r, er', fr⟩ := q_metAt L hok (show p < 4 by omega)
      exact ⟨by rw [er', fst1_one fr (D' p hp)], D' p hp⟩
    have k80' : c'.2.2.1 80 3 = some a := by rw [q'.2.1 80 (by decide)]; exact k80
    obtain ⟨r, e2, o2⟩ := c_order (h := h) (c := c') (a := a) (v := zV x) (M := M) (i := x1) hP k80' C1 (fun q hq => by rw [eM]) okm
    obtain ⟨r', e3, o3⟩ := q_order (i := x1) hP (lfr_RD fm N).1.2.1 L hMm okm
    refine ⟨r, c', m', x, ?_, ?_, RC_T (by omega) (RC_q R1 q' ⟨a, _, T'⟩), RM_kp (RM_0 gM _) (lfr_kp fm), hw⟩
    · simp (disch := omega) only [n_lit, n_of, n_o1, nI_add, pk_mul, nI_ltI, nI_leI, nI_eq, ↓lift_lt, ↓k_mt, ↓k_mp, if_true, if_false, Bool.false_eq_true, Nat.not_lt_zero, Nat.zero_le, Nat.reduceEqDiff, Nat.reduceLeDiff, Nat.reduceLT, h0, e1, s1.1, s1.2.2.1, er, e2]
    · simp (disch := omega) only [n_lit, n_of, n_o1, nI_add, pk_mul, nI_ltI, nI_leI, nI_eq, ↓lift_lt, ↓k_mt, ↓k_mp, if_true, if_false, Bool.false_eq_true, Nat.not_lt_zero, Nat.zero_le, Nat.reduceEqDiff, Nat.reduceLeDiff, Nat.reduceLT, n_litL, h0, mA_1, m23, em, e3, ordA_one hP o3 o2]
  · refine OK_no gC gM hw (-nI 3) ?_ ?_
    · simp (disch := omega) only [n_lit, n_of, n_o1, nI_add, pk_mul, nI_ltI, nI_leI, nI_eq, ↓lift_lt, ↓k_mt, ↓k_mp, if_true, if_false, Bool.false_eq_true, Nat.not_lt_zero, Nat.zero_le, Nat.reduceEqDiff, Nat.reduceLeDiff, Nat.reduceLT, h0]
    · simp (disch := omega) only [n_lit, n_of, n_o1, nI_add, pk_mul, nI_ltI, nI_leI, nI_eq, ↓lift_lt, ↓k_mt, ↓k_mp, if_true, if_false, Bool.false_eq_true, Nat.not_lt_zero, Nat.zero_le, Nat.reduceEqDiff, Nat.reduceLeDiff, Nat.reduceLT, h0]
end OPS9
