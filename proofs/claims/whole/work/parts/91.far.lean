/-! the reference lays how far it is  -/
def fin1 (F : Nat → Nat) (n : Nat) : Nat := csum (fun j => if F j = 268435456 then 0 else 1) n
def FI (G : Nat → Prop) (nx : Nat → Nat → Nat) (L : Nat) (q : Nat → Nat) (n : Nat) (F : Nat → Nat) : Prop :=
  (∀ i, i < n → F i = 268435456 ∨ (F i ≤ fin1 F n ∧ ∃ x, okd L (F i) x ∧ G (rn nx (q i) (F i) x))) ∧ ∀ i, i < n → G (q i) → F i = 0
def mnl (F J : Nat → Nat) : Nat → Nat
  | 0 => 268435456
  | k + 1 => if mnl F J k ≤ F (J k) then mnl F J k else F (J k)
def lsb (F J : Nat → Nat) (L : Nat) : Nat := if mnl F J L = 268435456 then 268435456 else mnl F J L + 1
theorem mnl_b (F J : Nat → Nat) : ∀ k, mnl F J k ≤ 268435456
  | 0 => Nat.le_refl _
  | k + 1 => by
    have := mnl_b F J k
    show (if mnl F J k ≤ F (J k) then mnl F J k else F (J k)) ≤ 268435456
    split <;> omega
theorem mnl_le {F J : Nat → Nat} : ∀ {k i : Nat}, i < k → mnl F J k ≤ F (J i)
  | k + 1, i, hi => by
    show (if mnl F J k ≤ F (J k) then mnl F J k else F (J k)) ≤ F (J i)
    by_cases e : i = k
    · subst e
      split <;> omega
    · have := mnl_le (F := F) (J := J) (k := k) (i := i) (by omega)
      split <;> omega
theorem mnl_in (F J : Nat → Nat) : ∀ k, mnl F J k = 268435456 ∨ ∃ i, i < k ∧ mnl F J k = F (J i)
  | 0 => Or.inl rfl
  | k + 1 => by
    show (if mnl F J k ≤ F (J k) then mnl F J k else F (J k)) = 268435456 ∨ ∃ i, i < k + 1 ∧ (if mnl F J k ≤ F (J k) then mnl F J k else F (J k)) = F (J i)
    by_cases z : mnl F J k ≤ F (J k)
    · rw [if_pos z]
      rcases mnl_in F J k with h | ⟨i, h1, h2⟩
      · exact Or.inl h
      · exact Or.inr ⟨i, by omega, h2⟩
    · rw [if_neg z]
      exact Or.inr ⟨k, by omega, rfl⟩
theorem mnl_eq {F J J' : Nat → Nat} : ∀ {k : Nat}, (∀ i, i < k → J' i = J i) → mnl F J' k = mnl F J k
  | 0, _ => rfl
  | k + 1, h => by
    have h1 := mnl_eq (F := F) (k := k) (fun i hi => h i (by omega))
    have h2 := h k (by omega)
    show (if mnl F J' k ≤ F (J' k) then mnl F J' k else F (J' k)) = (if mnl F J k ≤ F (J k) then mnl F J k else F (J k))
    rw [h1, h2]
section FAR
variable {v : Cv} {s : St} {m m0 : Mu} {q D W F : Nat → Nat} {n : Nat}
/-- how far is laid as F tells -/
def FV (m : Mu) (q : Nat → Nat) (n : Nat) (F : Nat → Nat) : Prop := ∀ i, i < n → F i ≤ 268435456 ∧ m.2.1 15 (q i) = nI (F i)
/-- where the leadings lead, as places of the row of stands -/
theorem J_of (hW : wV v) (A : ALL v s m q D W n) {i : Nat} (hi : i < n) : ∃ J : Nat → Nat, ∀ kk, kk < nL v → J kk < n ∧ q (J kk) = nxt v s.2.1 kk (q i) := by
  have hch : ∀ kk, ∃ j, kk < nL v → (j < n ∧ q j = nxt v s.2.1 kk (q i)) := fun kk => by
    by_cases z : kk < nL v
    · by_cases zf : q i < 10000
      · obtain ⟨j, j1, j2, -⟩ := A.1.2.2.2.2.2.2.1 i kk hi z (Or.inl hi) zf
        exact ⟨j, fun _ => ⟨j1, j2⟩⟩
      · exact ⟨i, fun _ => ⟨hi, (nxt_ab v s.2.1 kk (q i) (by omega)).symm⟩⟩
    · exact ⟨0, fun w => absurd w z⟩
  exact Classical.axiomOfChoice hch
theorem q_leastBy {i : Nat} {J : Nat → Nat} (B : MBx m0 v s m) (A : ALL v s m q D W n) (hF : FV m q n F) (hi : i < n) (hJ : ∀ kk, kk < nL v → J kk < n ∧ q (J kk) = nxt v s.2.1 kk (q i)) : gX12_leastBy m (nI (q i)) = some (nI (lsb F J (nL v))) := by
  obtain ⟨hL0, hL⟩ := nL_b B.1.2.2.1
  have o1 := (A.2.2.2.2.1 i hi).1
  show gX12_leastBy_6 m (nI (q i)) (nI 268435456) (nI 0) = _
  unfold gX12_leastBy_6
  refine lpw_iter (body := fun z : Int32 × Int32 => gX12_leastBy_6b m (nI (q i)) z.1 z.2) (fun k => (nI (mnl F J k), nI k)) (nL v) _ ?_ ?_
  · intro k hk
    obtain ⟨j1, j2⟩ := hJ k hk
    obtain ⟨f1, f2⟩ := hF _ j1
    have o2 := (A.2.2.2.2.1 _ j1).1
    have k1 : ¬ nL v ≤ k := by omega
    have e14 : m.2.1 14 (35 * q i + k) = nI (q (J k)) := by rw [j2]; exact A.2.2.2.2.2.2 i k hi hk (Or.inl hi)
    have mb := mnl_b F J k
    show gX12_leastBy_6b m (nI (q i)) (nI (mnl F J k)) (nI k) = some (.inl (nI (if mnl F J k ≤ F (J k) then mnl F J k else F (J k)), nI (k + 1)))
    unfold gX12_leastBy_6b gX12_leastBy_54
    by_cases z : mnl F J k ≤ F (J k)
    · rw [if_pos z]
      simp (disch := omega) only [n_lit, n_of, n_o1, nI_add, pk_mul, nI_ltI, nI_leI, nI_eq, ↓lift_lt, ↓k_mt, ↓k_mp, if_true, if_false, Bool.false_eq_true, Nat.not_lt_zero, Nat.zero_le, Nat.reduceEqDiff, Nat.reduceLeDiff, Nat.reduceLT, B.2.2.1, k1, mA_14, e14, mA_15, f2, z]
    · rw [if_neg z]
      simp (disch := omega) only [n_lit, n_of, n_o1, nI_add, pk_mul, nI_ltI, nI_leI, nI_eq, ↓lift_lt, ↓k_mt, ↓k_mp, if_true, if_false, Bool.false_eq_true, Nat.not_lt_zero, Nat.zero_le, Nat.reduceEqDiff, Nat.reduceLeDiff, Nat.reduceLT, B.2.2.1, k1, mA_14, e14, mA_15, f2, z]
  · have mb := mnl_b F J (nL v)
    show gX12_leastBy_6b m (nI (q i)) (nI (mnl F J (nL v))) (nI (nL v)) = some (.inr (nI (lsb F J (nL v))))
    unfold gX12_leastBy_6b gX12_leastBy_61 gX12_leastBy_77 lsb
    by_cases z : mnl F J (nL v) = 268435456
    · rw [if_pos z]
      simp (disch := omega) only [n_lit, n_of, n_o1, nI_add, pk_mul, nI_ltI, nI_leI, nI_eq, ↓lift_lt, ↓k_mt, ↓k_mp, if_true, if_false, Bool.false_eq_true, Nat.not_lt_zero, Nat.zero_le, Nat.reduceEqDiff, Nat.reduceLeDiff, Nat.reduceLT, B.2.2.1, Nat.le_refl, eq_true z, Option.map_some]
    · rw [if_neg z]
      simp (disch := omega) only [n_lit, n_of, n_o1, nI_add, pk_mul, nI_ltI, nI_leI, nI_eq, ↓lift_lt, ↓k_mt, ↓k_mp, if_true, if_false, Bool.false_eq_true, Nat.not_lt_zero, Nat.zero_le, Nat.reduceEqDiff, Nat.reduceLeDiff, Nat.reduceLT, B.2.2.1, Nat.le_refl, z, Option.map_some]
theorem fin1_le (F : Nat → Nat) (n : Nat) : fin1 F n ≤ n := csum_b (fun i => by
  show (if F i = 268435456 then 0 else 1) ≤ 1
  split <;> omega) n
/-- once nothing is nearer by a leading, F is how far it is -/
theorem far_end {G : Nat → Prop} (hW : wV v) (A : ALL v s m q D W n) (hI : FI G (nxt v s.2.1) (nL v) q n F) (hs : ∀ i, i < n → ∀ J : Nat → Nat, (∀ kk, kk < nL v → J kk < n ∧ q (J kk) = nxt v s.2.1 kk (q i)) → F i ≤ lsb F J (nL v)) :
    ∀ e x i, i < n → okd (nL v) e x → G (rn (nxt v s.2.1) (q i) e x) → F i ≤ e ∧ F i < 268435456 := by
  obtain ⟨hL0, hL⟩ := nL_b hW
  have fb := fin1_le F n
  have hn := A.2.2.1
  intro e
  induction e with
  | zero =>
    intro x i hi hx hG
    have := hI.2 i hi hG
    omega
  | succ e ih =>
    intro x i hi hx hG
    have hx' : okd (nL v) (1 + e) x := by rw [Nat.add_comm]; exact hx
    have h1 := okd_hi (d := 1) (e := e) hx'
    have h2 := okd_lo hL0 1 (e := e) hx'
    have hkk : x / 35 ^ e % 35 < nL v := h1.1
    have er : rn (nxt v s.2.1) (q i) (1 + e) x = rn (nxt v s.2.1) (nxt v s.2.1 (x / 35 ^ e % 35) (q i)) e (x % 35 ^ e) := by
      rw [rn_app, rn_mod]
      rfl
    rw [Nat.add_comm e 1, er] at hG
    obtain ⟨J, hJ⟩ := J_of hW A hi
    obtain ⟨j1, j2⟩ := hJ _ hkk
    rw [← j2] at hG
    have b1 := ih (x % 35 ^ e) _ j1 h2 hG
    have b2 := (hI.1 _ j1).resolve_left (by omega)
    have b3 := hs i hi J hJ
    have b4 := mnl_le (F := F) (J := J) hkk
    have b5 : ¬ mnl F J (nL v) = 268435456 := by omega
    have b6 : lsb F J (nL v) = mnl F J (nL v) + 1 := if_neg b5
    have b7 := b2.1
    omega
/-- one sweep, from the last to the first -/
theorem far_step {G : Nat → Prop} {i : Nat} {J : Nat → Nat} (A : ALL v s m q D W n) (hI : FI G (nxt v s.2.1) (nL v) q n F) (hi : i < n) (hJ : ∀ kk, kk < nL v → J kk < n ∧ q (J kk) = nxt v s.2.1 kk (q i)) (hl : lsb F J (nL v) < F i) (hL : nL v ≤ 35) :
    FI G (nxt v s.2.1) (nL v) q n (fun j => if j = i then lsb F J (nL v) else F j) ∧ csum (fun j => if j = i then lsb F J (nL v) else F j) n < csum F n := by
  have hb : ¬ mnl F J (nL v) = 268435456 := fun z => by
    have e : lsb F J (nL v) = 268435456 := if_pos z
    rcases hI.1 i hi with w | ⟨w, -⟩
    · omega
    · have fb : fin1 F n ≤ n := fin1_le F n
      have hn := A.2.2.1
      omega
  have el : lsb F J (nL v) = mnl F J (nL v) + 1 := if_neg hb
  obtain ⟨kk, k1, k2⟩ := (mnl_in F J (nL v)).resolve_left hb
  obtain ⟨j1, j2⟩ := hJ kk k1
  have fj := (hI.1 _ j1).resolve_left (by rw [← k2]; exact hb)
  have up : fin1 F n ≤ fin1 (fun j => if j = i then lsb F J (nL v) else F j) n := csum_le (fun j _ => by
    show (if F j = 268435456 then 0 else 1) ≤ (if (if j = i then lsb F J (nL v) else F j) = 268435456 then 0 else 1)
    by_cases z : j = i
    · rw [if_pos z]
      have fb : fin1 F n ≤ n := fin1_le F n
      have hn := A.2.2.1
      have : ¬ lsb F J (nL v) = 268435456 := by omega
      rw [if_neg this]
      split <;> omega
    · rw [if_neg z]; exact Nat.le_refl _)
  refine ⟨⟨fun j hj => ?_, fun j hj hG => ?_⟩, ?_⟩
  · show (if j = i then lsb F J (nL v) else F j) = 268435456 ∨ ((if j = i then lsb F J (nL v) else F j) ≤ _ ∧ ∃ x, okd (nL v) (if j = i then lsb F J (nL v) else F j) x ∧ G (rn (nxt v s.2.1) (q j) (if j = i then lsb F J (nL v) else F j) x))
    by_cases z : j = i
    · subst z
      rw [if_pos rfl, el, k2]
      refine Or.inr ⟨?_, ?_⟩
      · rcases hI.1 j hj with w | ⟨w, -⟩
        · have c1 := csum_one (f := fun y => if F y = 268435456 then 0 else 1) (g := fun y => if (if y = j then lsb F J (nL v) else F y) = 268435456 then 0 else 1) (k := j) (by
            show (if (if j = j then lsb F J (nL v) else F j) = 268435456 then 0 else 1) = (if F j = 268435456 then 0 else 1) + 1
            rw [if_pos rfl, if_neg (by omega), if_pos w]) (fun y hy => by
            show (if (if y = j then lsb F J (nL v) else F y) = 268435456 then 0 else 1) = (if F y = 268435456 then 0 else 1)
            rw [if_neg hy]) n
          rw [if_pos hj] at c1
          have c2 : fin1 (fun y => if y = j then lsb F J (nL v) else F y) n = fin1 F n + 1 := c1
          rw [el, k2] at c2
          have := fj.1
          omega
        · have := fj.1
          have : F (J kk) + 1 < F j := by omega
          rw [el, k2] at up
          omega
      · obtain ⟨x, x1, x2⟩ := fj.2
        have hp : okd (nL v) 1 kk := ⟨by omega, show kk / 35 = 0 by omega⟩
        obtain ⟨q1, q2, q3⟩ := okd_app hL hp x1
        refine ⟨kk * 35 ^ F (J kk) + x, by rw [Nat.add_comm]; exact q1, ?_⟩
        have er : rn (nxt v s.2.1) (q j) (1 + F (J kk)) (kk * 35 ^ F (J kk) + x) = rn (nxt v s.2.1) (nxt v s.2.1 kk (q j)) (F (J kk)) x := by
          rw [rn_app, q2, ← rn_mod, q3]
          show rn (nxt v s.2.1) (nxt v s.2.1 (kk % 35) (q j)) (F (J kk)) x = _
          rw [show kk % 35 = kk by omega]
        rw [Nat.add_comm (F (J kk)) 1, er, ← j2]
        exact x2
    · rw [if_neg z]
      rcases hI.1 j hj with w | ⟨w1, w2⟩
      · exact Or.inl w
      · exact Or.inr ⟨by omega, w2⟩
  · show (if j = i then lsb F J (nL v) else F j) = 0
    by_cases z : j = i
    · subst z
      have := hI.2 j hj hG
      omega
    · rw [if_neg z]; exact hI.2 j hj hG
  · exact csum_lt (fun j _ => by
      show (if j = i then lsb F J (nL v) else F j) ≤ F j
      by_cases z : j = i
      · subst z; rw [if_pos rfl]; omega
      · rw [if_neg z]; exact Nat.le_refl _) ⟨i, hi, by
      show (if i = i then lsb F J (nL v) else F i) < F i
      rw [if_pos rfl]; exact hl⟩
def dn (r : Nat) : Int32 := nI r - nI 1
theorem dn_s (r : Nat) : dn (r + 1) = nI r := by
  show nI (r + 1) - nI 1 = nI r
  rw [← nI_add, Int32.add_sub_cancel]
theorem dn_z : dn 0 = -nI 1 := by decide
theorem dn_d (r : Nat) : nI r + Int32.ofInt (-1) = dn r := by
  have e : Int32.ofInt (-1) = - nI 1 := by decide
  rw [e]
  show _ = nI r - nI 1
  rw [Int32.sub_eq_add_neg]
theorem ALL_15 {i : Nat} {y : Int32} (A : ALL v s m q D W n) : ALL v s (mS m 15 i y) q D W n := by
  unfold ALL QMx at *
  rw [mS_f, mS_ne _ _ _ (by decide), mS_ne _ _ _ (by decide), mS_ne _ _ _ (by decide)]
  exact A
theorem FV_S {i y : Nat} (A : ALL v s m q D W n) (hF : FV m q n F) (hi : i < n) (hy : y ≤ 268435456) : FV (mS m 15 (q i) (nI y)) q n (fun j => if j = i then y else F j) := by
  intro j hj
  show (if j = i then y else F j) ≤ 268435456 ∧ _
  rw [mS_a, if_pos rfl]
  by_cases z : j = i
  · rw [if_pos z, if_pos (by rw [z])]
    exact ⟨hy, congrArg nI (if_pos z).symm⟩
  · have ne : ¬ q j = q i := fun w => by
      have inj := A.1.2.2.2.2.2.2.2
      by_cases l : j < i
      · exact inj j i l hi w
      · exact inj i j (by omega) hj w.symm
    rw [if_neg z, if_neg ne]
    refine ⟨(hF j hj).1, (hF j hj).2.trans ?_⟩
    exact congrArg nI (if_neg z).symm
theorem far_sweep {G : Nat → Prop} (B : MBx m0 v s m) (A : ALL v s m q D W n) (hF : FV m q n F) (hI : FI G (nxt v s.2.1) (nL v) q n F) :
    ∃ b m' F', gX12_laysFar_15 m (nI 0) (dn n) = some (.inl (nI b, m')) ∧ MBx m0 v s m' ∧ ALL v s m' q D W n ∧ FV m' q n F' ∧ FI G (nxt v s.2.1) (nL v) q n F' ∧
      ((b = 0 ∧ F' = F ∧ ∀ i, i < n → ∀ J : Nat → Nat, (∀ kk, kk < nL v → J kk < n ∧ q (J kk) = nxt v s.2.1 kk (q i)) → F i ≤ lsb F J (nL v)) ∨ (b = 1 ∧ csum F' n < csum F n)) := by
  have hW := B.1.2.2.1
  obtain ⟨hL0, hL⟩ := nL_b hW
  have hn := A.2.2.1
  have K := lpw_all (body := fun z : Int32 × Int32 × Mu => gX12_laysFar_15b z.2.2 z.1 z.2.1)
    (fun k z => ∃ b F', z.1 = nI b ∧ z.2.1 = dn (n - k) ∧ MBx m0 v s z.2.2 ∧ ALL v s z.2.2 q D W n ∧ FV z.2.2 q n F' ∧ FI G (nxt v s.2.1) (nL v) q n F' ∧
      ((b = 0 ∧ F' = F ∧ ∀ i, n - k ≤ i → i < n → ∀ J : Nat → Nat, (∀ kk, kk < nL v → J kk < n ∧ q (J kk) = nxt v s.2.1 kk (q i)) → F i ≤ lsb F J (nL v)) ∨ (b = 1 ∧ csum F' n < csum F n)))
    (fun r => ∃ b m' F', r = .inl (nI b, m') ∧ MBx m0 v s m' ∧ ALL v s m' q D W n ∧ FV m' q n F' ∧ FI G (nxt v s.2.1) (nL v) q n F' ∧
      ((b = 0 ∧ F' = F ∧ ∀ i, i < n → ∀ J : Nat → Nat, (∀ kk, kk < nL v → J kk < n ∧ q (J kk) = nxt v s.2.1 kk (q i)) → F i ≤ lsb F J (nL v)) ∨ (b = 1 ∧ csum F' n < csum F n))) n ?_ ?_ (nI 0, dn n, m) ⟨0, F, rfl, rfl, B, A, hF, hI, Or.inl ⟨rfl, rfl, fun i h1 h2 => by omega⟩⟩
  · obtain ⟨r, e, b, m', F', e2, a⟩ := K
    subst e2
    exact ⟨b, m', F', e, a⟩
  · rintro k ⟨z1, z2, z3⟩ hk ⟨b, F', g1, g2, g3, g4, g5, g6, g7⟩
    have g1 : z1 = nI b := g1
    have g2 : z2 = dn (n - k) := g2
    obtain ⟨i, ei⟩ : ∃ i, n - k = i + 1 := ⟨n - k - 1, by omega⟩
    have e2 : dn (n - k) = nI i := by rw [ei, dn_s]
    subst g1
    subst g2
    have g3 : MBx m0 v s z3 := g3
    have g4 : ALL v s z3 q D W n := g4
    have g5 : FV z3 q n F' := g5
    have hi : i < n := by omega
    have hi2 : i < 20000 := by omega
    obtain ⟨J, hJ⟩ := J_of hW g4 hi
    obtain ⟨o1, -, o3⟩ := g4.2.2.2.2.1 i hi
    obtain ⟨f1, f2⟩ := g5 i hi
    have lb := q_leastBy g3 g4 g5 hi hJ
    have lle : lsb F' J (nL v) ≤ 268435456 + 1 := by
      have := mnl_b F' J (nL v)
      unfold lsb
      split <;> omega
    have nk : n - (k + 1) = i := by omega
    show ∃ s', gX12_laysFar_15b z3 (nI b) (dn (n - k)) = some (.inl s') ∧ _
    rw [e2]
    by_cases z : lsb F' J (nL v) < F' i
    · obtain ⟨p1, p2⟩ := far_step g4 g6 hi hJ z hL
      refine ⟨(nI 1, dn i, mS z3 15 (q i) (nI (lsb F' J (nL v)))), ?_, 1, _, rfl, by rw [nk], MBx_S g3 (by omega), ALL_15 g4, FV_S g4 g5 hi (by omega), p1, Or.inr ⟨rfl, ?_⟩⟩
      · unfold gX12_laysFar_15b gX12_laysFar_62
        simp (disch := omega) only [n_lit, n_of, n_o1, nI_add, pk_mul, nI_ltI, nI_leI, nI_eq, ↓lift_lt, ↓k_mt, ↓k_mp, if_true, if_false, Bool.false_eq_true, Nat.not_lt_zero, Nat.zero_le, Nat.reduceEqDiff, Nat.reduceLeDiff, Nat.reduceLT, mA_13, o3, lb, mA_15, f2, eq_true z, mW_15, dn_d]
      · rcases g7 with ⟨-, w, -⟩ | ⟨-, w⟩
        · rw [w] at p2 ⊢
          exact p2
        · exact Nat.lt_trans p2 w
    · refine ⟨(nI b, dn i, z3), ?_, b, F', rfl, by rw [nk], g3, g4, g5, g6, ?_⟩
      · unfold gX12_laysFar_15b gX12_laysFar_62
        simp (disch := omega) only [n_lit, n_of, n_o1, nI_add, pk_mul, nI_ltI, nI_leI, nI_eq, ↓lift_lt, ↓k_mt, ↓k_mp, if_true, if_false, Bool.false_eq_true, Nat.not_lt_zero, Nat.zero_le, Nat.reduceEqDiff, Nat.reduceLeDiff, Nat.reduceLT, mA_13, o3, lb, mA_15, f2, eq_false z, dn_d]
      · rcases g7 with ⟨w1, w2, w3⟩ | w
        · refine Or.inl ⟨w1, w2, fun j j1 j2 J' hJ' => ?_⟩
          by_cases zj : j = i
          · subst zj
            have e14 : mnl F J' (nL v) = mnl F J (nL v) := by
              have inj := g4.1.2.2.2.2.2.2.2
              have same : ∀ kk, kk < nL v → J' kk = J kk := fun kk hkk => by
                have a1 := hJ' kk hkk
                have a2 := hJ kk hkk
                have a3 : q (J' kk) = q (J kk) := by rw [a1.2, a2.2]
                rcases Nat.lt_trichotomy (J' kk) (J kk) with l | l | l
                · exact absurd a3 (inj _ _ l a2.1)
                · exact l
                · exact absurd a3.symm (inj _ _ l a1.1)
              exact mnl_eq same
            unfold lsb
            rw [e14]
            have z' : ¬ lsb F J (nL v) < F j := by rw [← w2]; exact z
            unfold lsb at z'
            omega
          · exact w3 j (by omega) j2 J' hJ'
        · exact Or.inr w
  · rintro ⟨z1, z2, z3⟩ ⟨b, F', g1, g2, g3, g4, g5, g6, g7⟩
    have g1 : z1 = nI b := g1
    have g2 : z2 = dn (n - n) := g2
    subst g1
    subst g2
    show ∃ r, gX12_laysFar_15b z3 (nI b) (dn (n - n)) = some (.inr r) ∧ _
    rw [Nat.sub_self, dn_z]
    have lm : (-nI 1 < nI 0) = True := eq_true (by decide)
    refine ⟨.inl (nI b, z3), ?_, b, z3, F', rfl, g3, g4, g5, g6, ?_⟩
    · unfold gX12_laysFar_15b
      simp (disch := omega) only [n_lit, n_of, n_o1, nI_add, pk_mul, nI_ltI, nI_leI, nI_eq, ↓lift_lt, ↓k_mt, ↓k_mp, if_true, if_false, Bool.false_eq_true, Nat.not_lt_zero, Nat.zero_le, Nat.reduceEqDiff, Nat.reduceLeDiff, Nat.reduceLT, lm]
    · rcases g7 with ⟨w1, w2, w3⟩ | w
      · exact Or.inl ⟨w1, w2, fun i hi => w3 i (by omega) hi⟩
      · exact Or.inr w
/-- how far it is, laid for all stands -/
def FAR (G : Nat → Prop) (v : Cv) (ch : Nat) (q : Nat → Nat) (n : Nat) (F : Nat → Nat) : Prop := ∀ i, i < n → (F i = 268435456 ∧ ∀ e x, okd (nL v) e x → ¬ G (rn (nxt v ch) (q i) e x)) ∨ (F i < 20001 ∧ Dst (nxt v ch) (nL v) G (q i) (F i))
theorem q_laysFar {G : Nat → Prop} (B : MBx m0 v s m) (A : ALL v s m q D W n) (hF : FV m q n F) (hI : FI G (nxt v s.2.1) (nL v) q n F) :
    ∃ m' F', gX12_laysFar m = some (nI (F' 0), m') ∧ MBx m0 v s m' ∧ ALL v s m' q D W n ∧ FV m' q n F' ∧ FAR G v s.2.1 q n F' := by
  have hW := B.1.2.2.1
  obtain ⟨hL0, hL⟩ := nL_b hW
  have hn := A.2.2.1
  have K := lpw_meas (body := fun z : Int32 × Mu => gX12_laysFar_2b z.2 z.1)
    (fun z => ∃ b F', z.1 = nI b ∧ MBx m0 v s z.2 ∧ ALL v s z.2 q D W n ∧ FV z.2 q n F' ∧ FI G (nxt v s.2.1) (nL v) q n F' ∧ z.2 = z.2 ∧ (b = 1 ∨ (b = 0 ∧ FAR G v s.2.1 q n F')))
    (fun r => ∃ m' F', r = (nI (F' 0), m') ∧ MBx m0 v s m' ∧ ALL v s m' q D W n ∧ FV m' q n F' ∧ FAR G v s.2.1 q n F')
    (fun z => csum (fun i => (z.2.2.1 15 (q i)).toInt.toNat) n + (if z.1 = nI 0 then 0 else 1)) ?_ (nI 1, m) ⟨1, F, rfl, B, A, hF, hI, rfl, Or.inl rfl⟩
  · obtain ⟨r, e, m', F', e2, a⟩ := K
    subst e2
    exact ⟨m', F', e, a⟩
  · rintro ⟨z1, z2⟩ ⟨b, F', g1, g2, g3, g4, g5, -, g6⟩
    have g1 : z1 = nI b := g1
    subst g1
    have g2 : MBx m0 v s z2 := g2
    have g3 : ALL v s z2 q D W n := g3
    have g4 : FV z2 q n F' := g4
    have ms : ∀ (m' : Mu) (F2 : Nat → Nat), FV m' q n F2 → csum (fun i => (m'.2.1 15 (q i)).toInt.toNat) n = csum F2 n := fun m' F2 h => csum_eq (fun i hi => by
      have l := (h i hi).1
      show (m'.2.1 15 (q i)).toInt.toNat = F2 i
      rw [(h i hi).2, nI_toInt (by omega)]
      exact Int.toNat_natCast _)
    rcases g6 with w | ⟨w, g6⟩
    · subst w
      refine Or.inl ?_
      have x33 := g3.2.2.2.1
      obtain ⟨b', m', F2, e, p1, p2, p3, p4, p5⟩ := far_sweep g2 g3 g4 g5
      have e : gX12_laysFar_15 z2 (nI 0) (nI n - nI 1) = some (.inl (nI b', m')) := e
      have i1 : ¬ (1 = 0) := by decide
      refine ⟨(nI b', m'), ?_, ⟨b', F2, rfl, p1, p2, p3, p4, rfl, ?_⟩, ?_⟩
      · show gX12_laysFar_2b z2 (nI 1) = _
        unfold gX12_laysFar_2b
        rw [x33]
        simp (disch := omega) only [n_lit, n_of, n_o1, nI_add, pk_mul, nI_ltI, nI_leI, nI_eq, ↓lift_lt, ↓k_mt, ↓k_mp, if_true, if_false, Bool.false_eq_true, Nat.not_lt_zero, Nat.zero_le, Nat.reduceEqDiff, Nat.reduceLeDiff, Nat.reduceLT, i1, e]
      · rcases p5 with ⟨w1, w2, w3⟩ | ⟨w1, w2⟩
        · refine Or.inr ⟨w1, fun i hi => ?_⟩
          subst w2
          have fe := far_end hW p2 p4 w3
          have fb := fin1_le F2 n
          rcases p4.1 i hi with u | ⟨u1, x, u2, u3⟩
          · exact Or.inl ⟨u, fun e x hx hG => by have := fe e x i hi hx hG; omega⟩
          · exact Or.inr ⟨by omega, ⟨x, u2, u3⟩, fun e' x' he hx' hG => by have := fe e' x' i hi hx' hG; omega⟩
        · exact Or.inl w1
      · show csum (fun i => (m'.2.1 15 (q i)).toInt.toNat) n + (if nI b' = nI 0 then 0 else 1) < csum (fun i => (z2.2.1 15 (q i)).toInt.toNat) n + (if nI 1 = nI 0 then 0 else 1)
        rw [ms _ _ p3, ms _ _ g4, if_neg (show ¬ nI 1 = nI 0 by decide)]
        rcases p5 with ⟨w1, w2, w3⟩ | ⟨w1, w2⟩
        · rw [w1, if_pos rfl, w2]
          omega
        · rw [w1, if_neg (show ¬ nI 1 = nI 0 by decide)]
          omega
    · subst w
      refine Or.inr ⟨(nI (F' 0), z2), ?_, z2, F', rfl, g2, g3, g4, g6⟩
      have h0 := g3.1.1
      have nw := q_nowD g2.1
      have f2 := (g4 0 h0).2
      rw [g3.1.2.1] at f2
      have l1 := B.1.2.2.2.1
      show gX12_laysFar_2b z2 (nI 0) = _
      unfold gX12_laysFar_2b gX12_laysFar_71
      simp (disch := omega) only [n_lit, n_of, n_o1, nI_add, pk_mul, nI_ltI, nI_leI, nI_eq, ↓lift_lt, ↓k_mt, ↓k_mp, if_true, if_false, Bool.false_eq_true, Nat.not_lt_zero, Nat.zero_le, Nat.reduceEqDiff, Nat.reduceLeDiff, Nat.reduceLT, nw, mA_15, Option.map_some]
      rw [f2]
end FAR
