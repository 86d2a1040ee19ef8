/-! rows of leadings as numbers (the last one is the lowest digit, of base 35), looked through by their order -/
def rn (nx : Nat → Nat → Nat) (s : Nat) : Nat → Nat → Nat
  | 0, _ => s
  | d + 1, w => nx (w % 35) (rn nx s d (w / 35))
def okd (L : Nat) : Nat → Nat → Prop
  | 0, w => w = 0
  | d + 1, w => w % 35 < L ∧ okd L d (w / 35)
def lex (d w d' w' : Nat) : Prop := d < d' ∨ (d = d' ∧ w ≤ w')
theorem lex_tr {a b c d e f : Nat} (h : lex a b c d) (h' : lex c d e f) : lex a b e f := by unfold lex at *; omega
theorem lex_rfl (a b : Nat) : lex a b a b := Or.inr ⟨rfl, Nat.le_refl _⟩
theorem lex_up {d w d' w' k k' : Nat} (h : lex d w d' w') (hk : k < 35) (hk' : k' < 35) (h2 : w = w' → d = d' → k ≤ k') : lex (d + 1) (w * 35 + k) (d' + 1) (w' * 35 + k') := by
  unfold lex at *
  rcases h with h | ⟨h, h3⟩
  · exact Or.inl (by omega)
  · refine Or.inr ⟨by omega, ?_⟩
    by_cases e : w = w'
    · have := h2 e h
      omega
    · omega
theorem rn_mod (nx : Nat → Nat → Nat) (t : Nat) : ∀ e w : Nat, rn nx t e (w % 35 ^ e) = rn nx t e w
  | 0, w => rfl
  | e + 1, w => by
    show nx (w % 35 ^ (e + 1) % 35) (rn nx t e (w % 35 ^ (e + 1) / 35)) = nx (w % 35) (rn nx t e (w / 35))
    have h1 : w % 35 ^ (e + 1) % 35 = w % 35 := Nat.mod_mod_of_dvd _ ⟨35 ^ e, by rw [Nat.pow_succ, Nat.mul_comm]⟩
    have h2 : w % 35 ^ (e + 1) / 35 = w / 35 % 35 ^ e := by
      rw [Nat.pow_succ, Nat.mul_comm, Nat.mod_mul_right_div_self]
    rw [h1, h2, rn_mod nx t e]
theorem rn_app (nx : Nat → Nat → Nat) (s d : Nat) : ∀ e w : Nat, rn nx s (d + e) w = rn nx (rn nx s d (w / 35 ^ e)) e w
  | 0, w => by
    show rn nx s d w = rn nx s d (w / 1)
    rw [Nat.div_one]
  | e + 1, w => by
    show nx (w % 35) (rn nx s (d + e) (w / 35)) = nx (w % 35) (rn nx (rn nx s d (w / 35 ^ (e + 1))) e (w / 35))
    rw [rn_app nx s d e, Nat.div_div_eq_div_mul, Nat.pow_succ, Nat.mul_comm 35]
theorem okd_lt {L : Nat} (hL : L ≤ 35) : ∀ {d w : Nat}, okd L d w → w < 35 ^ d
  | 0, w, h => by
    have h : w = 0 := h
    subst h; exact Nat.one_pos
  | d + 1, w, h => by
    have h2 := okd_lt hL h.2
    rw [Nat.pow_succ]
    omega
/-- a row, and another one behind it -/
theorem okd_app {L : Nat} (hL : L ≤ 35) {d p : Nat} (hp : okd L d p) : ∀ {e x : Nat}, okd L e x → okd L (d + e) (p * 35 ^ e + x) ∧ (p * 35 ^ e + x) / 35 ^ e = p ∧ (p * 35 ^ e + x) % 35 ^ e = x
  | 0, x, hx => by
    have hx : x = 0 := hx
    subst hx
    rw [Nat.pow_zero, Nat.mul_one]
    exact ⟨hp, Nat.div_one _, Nat.mod_one _⟩
  | e + 1, x, hx => by
    have hlt := okd_lt hL hx
    have h1 := (okd_app hL hp hx.2).1
    have e1 : p * 35 ^ (e + 1) + x = 35 * (p * 35 ^ e + x / 35) + x % 35 := by
      rw [Nat.pow_succ, Nat.mul_add, ← Nat.mul_assoc p, Nat.mul_comm 35 (p * 35 ^ e)]
      omega
    refine ⟨⟨?_, ?_⟩, ?_, ?_⟩
    · rw [e1, Nat.mul_add_mod]
      have := hx.1
      omega
    · show okd L (d + e) ((p * 35 ^ (e + 1) + x) / 35)
      rw [e1, Nat.mul_add_div (by decide), Nat.div_eq_of_lt (Nat.mod_lt x (by decide)), Nat.add_zero]
      exact h1
    · rw [Nat.mul_comm p, Nat.mul_add_div (Nat.pow_pos (by decide)), Nat.div_eq_of_lt hlt, Nat.add_zero]
    · rw [Nat.mul_comm p, Nat.mul_add_mod, Nat.mod_eq_of_lt hlt]
theorem okd_hi {L d : Nat} : ∀ {e w : Nat}, okd L (d + e) w → okd L d (w / 35 ^ e)
  | 0, w, h => by
    rw [Nat.pow_zero, Nat.div_one]
    exact h
  | e + 1, w, h => by
    have h : w % 35 < L ∧ okd L (d + e) (w / 35) := h
    have := okd_hi h.2
    rw [Nat.div_div_eq_div_mul, Nat.mul_comm] at this
    rw [Nat.pow_succ]
    exact this
theorem okd_lo {L : Nat} (hL : 0 < L) (d : Nat) : ∀ {e w : Nat}, okd L (d + e) w → okd L e (w % 35 ^ e)
  | 0, w, h => Nat.mod_one _
  | e + 1, w, h => by
    have h : w % 35 < L ∧ okd L (d + e) (w / 35) := h
    have h1 : w % 35 ^ (e + 1) % 35 = w % 35 := Nat.mod_mod_of_dvd _ ⟨35 ^ e, by rw [Nat.pow_succ, Nat.mul_comm]⟩
    have h2 : w % 35 ^ (e + 1) / 35 = w / 35 % 35 ^ e := by
      rw [Nat.pow_succ, Nat.mul_comm, Nat.mod_mul_right_div_self]
    refine ⟨by rw [h1]; exact h.1, ?_⟩
    show okd L e (w % 35 ^ (e + 1) / 35)
    rw [h2]
    exact okd_lo hL d h.2
def Best (nx : Nat → Nat → Nat) (L s : Nat) (G : Nat → Prop) (d w : Nat) : Prop := okd L d w ∧ G (rn nx s d w) ∧ ∀ d' w', okd L d' w' → G (rn nx s d' w') → lex d w d' w'
theorem Best_one {nx : Nat → Nat → Nat} {L s : Nat} {G : Nat → Prop} {d w d' w' : Nat} (h : Best nx L s G d w) (h' : Best nx L s G d' w') : d = d' ∧ w = w' := by
  have a := h.2.2 d' w' h'.1 h'.2.1
  have b := h'.2.2 d w h.1 h.2.1
  unfold lex at a b
  omega
/-- how far it is from a stand to such ones -/
def Dst (nx : Nat → Nat → Nat) (L : Nat) (G : Nat → Prop) (t e : Nat) : Prop := (∃ x, okd L e x ∧ G (rn nx t e x)) ∧ ∀ e' x, e' < e → okd L e' x → ¬ G (rn nx t e' x)
theorem Dst_one {nx : Nat → Nat → Nat} {L : Nat} {G : Nat → Prop} {t e e' : Nat} (h : Dst nx L G t e) (h' : Dst nx L G t e') : e = e' := by
  rcases Nat.lt_trichotomy e e' with c | c | c
  · obtain ⟨x, h1, h2⟩ := h.1
    exact absurd h2 (h'.2 e x c h1)
  · exact c
  · obtain ⟨x, h1, h2⟩ := h'.1
    exact absurd h2 (h.2 e' x c h1)
/-- the best row, leading by leading: the first one from which it is as near as can be -/
theorem Best_step {nx : Nat → Nat → Nat} {L s : Nat} {G : Nat → Prop} {d w : Nat} (hL0 : 0 < L) (hL : L ≤ 35) (h : Best nx L s G d w) {i : Nat} (hi : i < d) :
    let t := rn nx s i (w / 35 ^ (d - i))
    let j := w / 35 ^ (d - i - 1) % 35
    j < L ∧ Dst nx L G (nx j t) (d - i - 1) ∧ rn nx s (i + 1) (w / 35 ^ (d - (i + 1))) = nx j t ∧ ∀ j', j' < j → ¬ Dst nx L G (nx j' t) (d - i - 1) := by
  intro t j
  obtain ⟨e, rfl⟩ : ∃ e, d = i + 1 + e := ⟨d - (i + 1), by omega⟩
  have e1 : i + 1 + e - i - 1 = e := by omega
  have e2 : i + 1 + e - (i + 1) = e := by omega
  have e3 : i + 1 + e - i = e + 1 := by omega
  have hj : j = w / 35 ^ e % 35 := by show w / 35 ^ (i + 1 + e - i - 1) % 35 = _; rw [e1]
  have ht : t = rn nx s i (w / 35 ^ e / 35) := by
    show rn nx s i (w / 35 ^ (i + 1 + e - i)) = _
    rw [e3, Nat.pow_succ, Nat.div_div_eq_div_mul]
  rw [e1, e2]
  obtain ⟨h1, h2, h3⟩ := h
  have hhi := okd_hi (d := i + 1) (e := e) h1
  have hlo := okd_lo hL0 (i + 1) (e := e) h1
  have hrun : rn nx s (i + 1) (w / 35 ^ e) = nx j t := by rw [hj, ht]; rfl
  have hjL : j < L := by rw [hj]; exact hhi.1
  have hG : G (rn nx (nx j t) e (w % 35 ^ e)) := by
    rw [rn_mod, ← hrun, ← rn_app]
    exact h2
  -- a row from there would be one from the beginning
  have back : ∀ j' x e', j' < L → okd L e' x → G (rn nx (nx j' t) e' x) → lex (i + 1 + e) w (i + 1 + e') ((w / 35 ^ e / 35 * 35 + j') * 35 ^ e' + x) := by
    intro j' x e' hj' hx hg
    have hp : okd L (i + 1) (w / 35 ^ e / 35 * 35 + j') := by
      refine ⟨?_, ?_⟩
      · rw [Nat.mul_comm, Nat.mul_add_mod]
        omega
      · show okd L i ((w / 35 ^ e / 35 * 35 + j') / 35)
        have a2 : (w / 35 ^ e / 35 * 35 + j') / 35 = w / 35 ^ e / 35 := by omega
        rw [a2]
        exact hhi.2
    obtain ⟨q1, q2, q3⟩ := okd_app hL hp hx
    refine h3 _ _ q1 ?_
    rw [rn_app, q2, ← rn_mod, q3]
    have : rn nx s (i + 1) (w / 35 ^ e / 35 * 35 + j') = nx j' t := by
      show nx ((w / 35 ^ e / 35 * 35 + j') % 35) (rn nx s i ((w / 35 ^ e / 35 * 35 + j') / 35)) = _
      have a1 : (w / 35 ^ e / 35 * 35 + j') % 35 = j' := by omega
      have a2 : (w / 35 ^ e / 35 * 35 + j') / 35 = w / 35 ^ e / 35 := by omega
      rw [a1, a2, ht]
    rw [this]
    exact hg
  refine ⟨hjL, ⟨⟨_, hlo, hG⟩, fun e' x he' hx hg => ?_⟩, hrun, fun j' hj' hD => ?_⟩
  · have := back j x e' hjL hx hg
    unfold lex at this
    omega
  · obtain ⟨⟨x, hx, hg⟩, -⟩ := hD
    have hb := back j' x e (by omega) hx hg
    have hxl := okd_lt hL hx
    unfold lex at hb
    rcases hb with hb | ⟨-, hb⟩
    · omega
    · have h35 : 0 < 35 ^ e := Nat.pow_pos (by decide)
      have hw : w = (w / 35 ^ e) * 35 ^ e + w % 35 ^ e := by rw [Nat.mul_comm]; exact (Nat.div_add_mod w (35 ^ e)).symm
      have hle : w / 35 ^ e / 35 * 35 + j' + 1 ≤ w / 35 ^ e := by omega
      have hm := Nat.mul_le_mul_right (35 ^ e) hle
      rw [Nat.add_mul, Nat.one_mul] at hm
      omega
/-! stands looked through, the nearest first -/
def Bq (nx : Nat → Nat → Nat) (L s0 : Nat) (q D W : Nat → Nat) (n hd k : Nat) : Prop :=
  0 < n ∧ q 0 = s0 ∧ D 0 = 0 ∧ W 0 = 0 ∧
  (∀ i, 0 < i → i < n → ∃ j kk, j < i ∧ kk < L ∧ (j < hd ∨ (j = hd ∧ kk < k)) ∧ q j < 10000 ∧ q i = nx kk (q j) ∧ D i = D j + 1 ∧ W i = W j * 35 + kk) ∧
  (∀ i i', i < i' → i' < n → D i < D i' ∨ (D i = D i' ∧ W i < W i')) ∧
  (∀ i kk, i < n → kk < L → (i < hd ∨ (i = hd ∧ kk < k)) → q i < 10000 → ∃ j, j < n ∧ q j = nx kk (q i) ∧ lex (D j) (W j) (D i + 1) (W i * 35 + kk)) ∧
  (∀ i i', i < i' → i' < n → q i ≠ q i')
section BQ
variable {nx : Nat → Nat → Nat} {L s0 : Nat} {q D W : Nat → Nat} {n hd k : Nat}
theorem Bq_start (q D W : Nat → Nat) (hq : q 0 = s0) (hD : D 0 = 0) (hW : W 0 = 0) : Bq nx L s0 q D W 1 0 0 :=
  ⟨by decide, hq, hD, hW, fun i h0 h1 => by omega, fun i i' h1 h2 => by omega, fun i kk h1 h2 h3 => by omega, fun i i' h1 h2 => by omega⟩
theorem Bq_mono (h : Bq nx L s0 q D W n hd k) {i i' : Nat} (hi : i ≤ i') (hn : i' < n) : lex (D i) (W i) (D i') (W i') := by
  obtain ⟨-, -, -, -, -, h6, -, -⟩ := h
  by_cases e : i = i'
  · subst e; exact lex_rfl _ _
  · have := h6 i i' (by omega) hn
    unfold lex
    omega
theorem Bq_old (hL : L ≤ 35) (h : Bq nx L s0 q D W n hd k) (hh : hd < n) (hk : k < L) {j : Nat} (hj : j < n) (e : q j = nx k (q hd)) : Bq nx L s0 q D W n hd (k + 1) := by
  have hmono := fun {i i' : Nat} (a : i ≤ i') (b : i' < n) => Bq_mono h a b
  obtain ⟨h1, h2, h3, h4, h5, h6, h7, h8⟩ := h
  refine ⟨h1, h2, h3, h4, fun i a b => ?_, h6, fun i kk a b c d => ?_, h8⟩
  · obtain ⟨j, kk, q1, q2, q3, q4⟩ := h5 i a b
    exact ⟨j, kk, q1, q2, by omega, q4⟩
  · by_cases z : i = hd ∧ kk = k
    · obtain ⟨rfl, rfl⟩ := z
      refine ⟨j, hj, e, ?_⟩
      by_cases j0 : j = 0
      · subst j0
        rw [h3]
        exact Or.inl (by omega)
      · obtain ⟨j', kk', p1, p2, p3, p4, p5, p6, p7⟩ := h5 j (by omega) hj
        rw [p6, p7]
        refine lex_up (hmono (i := j') (by omega) hh) (by omega) (by omega) (fun w1 w2 => ?_)
        by_cases z : j' = i
        · omega
        · have := h6 j' i (by omega) hh
          omega
    · exact h7 i kk a b (by omega) d
theorem Bq_new (hL : L ≤ 35) (h : Bq nx L s0 q D W n hd k) (hh : hd < n) (hk : k < L) (hf : q hd < 10000) (e : ∀ j, j < n → q j ≠ nx k (q hd)) :
    Bq nx L s0 (fun i => if i = n then nx k (q hd) else q i) (fun i => if i = n then D hd + 1 else D i) (fun i => if i = n then W hd * 35 + k else W i) (n + 1) hd (k + 1) := by
  have hmono := fun {i i' : Nat} (a : i ≤ i') (b : i' < n) => Bq_mono h a b
  obtain ⟨h1, h2, h3, h4, h5, h6, h7, h8⟩ := h
  have lo : ∀ i, i < n → ¬ i = n := fun i hi => by omega
  refine ⟨by omega, ?_, ?_, ?_, fun i a b => ?_, fun i i' a b => ?_, fun i kk a b c d => ?_, fun i i' a b => ?_⟩
  · show (if 0 = n then _ else _) = _
    rw [if_neg (lo 0 h1)]; exact h2
  · show (if 0 = n then _ else _) = _
    rw [if_neg (lo 0 h1)]; exact h3
  · show (if 0 = n then _ else _) = _
    rw [if_neg (lo 0 h1)]; exact h4
  · by_cases z : i = n
    · refine ⟨hd, k, by omega, hk, by omega, ?_⟩
      simp only [if_pos z, if_neg (lo hd hh)]
      refine ⟨hf, ?_, ?_, ?_⟩ <;> trivial
    · obtain ⟨j, kk, q1, q2, q3, q4⟩ := h5 i a (by omega)
      refine ⟨j, kk, q1, q2, by omega, ?_⟩
      simp only [if_neg z, if_neg (lo j (by omega))]
      exact q4
  · by_cases z : i' = n
    · simp only [if_pos z, if_neg (lo i (by omega))]
      by_cases i0 : i = 0
      · subst i0
        rw [h3]
        exact Or.inl (by omega)
      · obtain ⟨j, kk, p1, p2, p3, p4, p5, p6, p7⟩ := h5 i (by omega) (by omega)
        rw [p6, p7]
        by_cases z2 : j = hd
        · subst z2
          exact Or.inr ⟨rfl, by omega⟩
        · have := h6 j hd (by omega) hh
          omega
    · simp only [if_neg z, if_neg (lo i (by omega))]
      exact h6 i i' a (by omega)
  · by_cases z : i = n
    · omega
    · simp only [if_neg z] at d ⊢
      by_cases z2 : i = hd ∧ kk = k
      · refine ⟨n, by omega, ?_⟩
        simp only [if_pos]
        rw [z2.1, z2.2]
        exact ⟨rfl, lex_rfl _ _⟩
      · obtain ⟨j, q1, q2, q3⟩ := h7 i kk (by omega) b (by omega) d
        refine ⟨j, by omega, ?_⟩
        simp only [if_neg (lo j q1)]
        exact ⟨q2, q3⟩
  · by_cases z : i' = n
    · simp only [if_pos z, if_neg (lo i (by omega))]
      exact e i (by omega)
    · simp only [if_neg z, if_neg (lo i (by omega))]
      exact h8 i i' a (by omega)
theorem Bq_next (h : Bq nx L s0 q D W n hd k) (hk : k = L ∨ 10000 ≤ q hd) : Bq nx L s0 q D W n (hd + 1) 0 := by
  obtain ⟨h1, h2, h3, h4, h5, h6, h7, h8⟩ := h
  refine ⟨h1, h2, h3, h4, fun i a b => ?_, h6, fun i kk a b c d => ?_, h8⟩
  · obtain ⟨j, kk, q1, q2, q3, q4⟩ := h5 i a b
    exact ⟨j, kk, q1, q2, by omega, q4⟩
  · by_cases z : i = hd
    · subst z
      rcases hk with hk | hk
      · exact h7 i kk a b (Or.inr ⟨rfl, by omega⟩) d
      · omega
    · exact h7 i kk a b (by omega) d
/-- each has its row -/
theorem Bq_row (hL : L ≤ 35) (h : Bq nx L s0 q D W n hd k) : ∀ {i : Nat}, i < n → okd L (D i) (W i) ∧ rn nx s0 (D i) (W i) = q i ∧ D i ≤ i := by
  obtain ⟨h1, h2, h3, h4, h5, -⟩ := h
  intro i
  induction i using Nat.strongRecOn with
  | _ i ih =>
    intro hi
    by_cases i0 : i = 0
    · subst i0
      rw [h3, h4, h2]
      exact ⟨rfl, rfl, Nat.le_refl 0⟩
    · obtain ⟨j, kk, p1, p2, p3, p4, p5, p6, p7⟩ := h5 i (by omega) hi
      obtain ⟨a1, a2, a3⟩ := ih j p1 (by omega)
      rw [p6, p7, p5]
      have e1 : (W j * 35 + kk) % 35 = kk := by omega
      have e2 : (W j * 35 + kk) / 35 = W j := by omega
      refine ⟨⟨by rw [e1]; exact p2, by rw [e2]; exact a1⟩, ?_, by omega⟩
      show nx ((W j * 35 + kk) % 35) (rn nx s0 (D j) ((W j * 35 + kk) / 35)) = _
      rw [e1, e2, a2]
/-- every row leads to one that is there, ahead of it; or it is behind all that was looked at -/
theorem Bq_cover (hL : L ≤ 35) (hkL : k ≤ L) (hab : ∀ i s, 10000 ≤ s → nx i s = s) (h : Bq nx L s0 q D W n hd k) : ∀ d w, okd L d w → (∃ j, j < n ∧ q j = rn nx s0 d w ∧ lex (D j) (W j) d w) ∨ (hd < n ∧ lex (D hd + 1) (W hd * 35 + k) d w) := by
  have hmono := fun {i i' : Nat} (a : i ≤ i') (b : i' < n) => Bq_mono h a b
  obtain ⟨h1, h2, h3, h4, h5, h6, h7, h8⟩ := h
  intro d
  induction d with
  | zero =>
    intro w hw
    have hw : w = 0 := hw
    subst hw
    exact Or.inl ⟨0, h1, h2, by rw [h3, h4]; exact lex_rfl _ _⟩
  | succ d ih =>
    intro w hw
    have hk35 : w % 35 < 35 := Nat.mod_lt _ (by decide)
    have hw35 : w = w / 35 * 35 + w % 35 := by omega
    rcases ih (w / 35) hw.2 with ⟨i, a1, a2, a3⟩ | ⟨a1, a2⟩
    · by_cases hf : 10000 ≤ q i
      · refine Or.inl ⟨i, a1, ?_, ?_⟩
        · show q i = nx (w % 35) (rn nx s0 d (w / 35))
          rw [← a2, hab _ _ hf]
        · unfold lex at a3 ⊢
          omega
      · have up : lex (D i + 1) (W i * 35 + w % 35) (d + 1) w := by
          have := lex_up (k := w % 35) (k' := w % 35) a3 hk35 hk35 (fun _ _ => Nat.le_refl _)
          rw [← hw35] at this
          exact this
        by_cases hp : i < hd ∨ (i = hd ∧ w % 35 < k)
        · obtain ⟨j, b1, b2, b3⟩ := h7 i (w % 35) a1 hw.1 hp (by omega)
          refine Or.inl ⟨j, b1, ?_, lex_tr b3 up⟩
          show q j = nx (w % 35) (rn nx s0 d (w / 35))
          rw [b2, a2]
        · refine Or.inr ⟨by omega, lex_tr ?_ up⟩
          by_cases z : i = hd
          · subst z
            exact Or.inr ⟨rfl, by omega⟩
          · have := h6 hd i (by omega) a1
            unfold lex
            omega
    · refine Or.inr ⟨a1, ?_⟩
      unfold lex at a2 ⊢
      omega
end BQ
