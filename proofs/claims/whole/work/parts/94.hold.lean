/-! how long the roof can be held: rows of leadings by which it doesn't fall -/
section HOLDA
variable {nx : Nat → Nat → Nat} {L s : Nat}
theorem rn_cons (hL : L ≤ 35) {kk l x : Nat} (hk : kk < L) (hx : okd L l x) : okd L (l + 1) (kk * 35 ^ l + x) ∧ rn nx s (l + 1) (kk * 35 ^ l + x) = rn nx (nx kk s) l x := by
  have hp : okd L 1 kk := ⟨by omega, show kk / 35 = 0 by omega⟩
  obtain ⟨q1, q2, q3⟩ := okd_app hL hp hx
  have er : rn nx s (1 + l) (kk * 35 ^ l + x) = rn nx (nx kk s) l x := by
    rw [rn_app, q2, ← rn_mod, q3]
    show rn nx (nx (kk % 35) s) l x = _
    rw [show kk % 35 = kk by omega]
  rw [Nat.add_comm l 1]
  exact ⟨q1, er⟩
theorem rn_unc (hL0 : 0 < L) {l x : Nat} (hx : okd L (l + 1) x) : x / 35 ^ l % 35 < L ∧ okd L l (x % 35 ^ l) ∧ rn nx s (l + 1) x = rn nx (nx (x / 35 ^ l % 35) s) l (x % 35 ^ l) := by
  rw [Nat.add_comm] at hx ⊢
  have h1 := okd_hi (d := 1) (e := l) hx
  have h2 := okd_lo hL0 1 (e := l) hx
  refine ⟨h1.1, h2, ?_⟩
  rw [rn_app, rn_mod]
  rfl
def HLd (nx : Nat → Nat → Nat) (L s l : Nat) : Prop := ∃ x, okd L l x ∧ rn nx s l x < 10000
def Exc (nx : Nat → Nat → Nat) (L s e : Nat) : Prop := (∀ l, l < e → HLd nx L s l) ∧ ¬ HLd nx L s e
theorem Exc_one {e e' : Nat} (h : Exc nx L s e) (h' : Exc nx L s e') : e = e' := by
  rcases Nat.lt_trichotomy e e' with c | c | c
  · exact absurd (h'.1 e c) h.2
  · exact c
  · exact absurd (h.1 e' c) h'.2
theorem HLd_dn (hab : ∀ i s, 10000 ≤ s → nx i s = s) {l : Nat} (h : HLd nx L s (l + 1)) : HLd nx L s l := by
  obtain ⟨x, h1, h2⟩ := h
  refine ⟨x / 35, h1.2, ?_⟩
  apply Classical.byContradiction
  intro hc
  have e : rn nx s (l + 1) x = rn nx s l (x / 35) := hab _ _ (by omega)
  omega
theorem HLd_le (hab : ∀ i s, 10000 ≤ s → nx i s = s) {l : Nat} : ∀ j, HLd nx L s (l + j) → HLd nx L s l
  | 0, h => h
  | j + 1, h => HLd_le hab j (HLd_dn hab h)
theorem HLd_cons (hL : L ≤ 35) {kk l : Nat} (hk : kk < L) (h : HLd nx L (nx kk s) l) : HLd nx L s (l + 1) := by
  obtain ⟨x, h1, h2⟩ := h
  have r := rn_cons (nx := nx) (s := s) hL hk h1
  exact ⟨_, r.1, by rw [r.2]; exact h2⟩
theorem HLd_unc (hL0 : 0 < L) {l : Nat} (h : HLd nx L s (l + 1)) : ∃ kk, kk < L ∧ HLd nx L (nx kk s) l := by
  obtain ⟨x, h1, h2⟩ := h
  have r := rn_unc (nx := nx) (s := s) hL0 h1
  exact ⟨_, r.1, _, r.2.1, by rw [← r.2.2]; exact h2⟩
theorem HLd_app (hL : L ≤ 35) {d w l : Nat} (hw : okd L d w) (h : HLd nx L (rn nx s d w) l) : HLd nx L s (d + l) := by
  obtain ⟨x, h1, h2⟩ := h
  obtain ⟨q1, q2, q3⟩ := okd_app hL hw h1
  refine ⟨_, q1, ?_⟩
  rw [rn_app, q2, ← rn_mod, q3]
  exact h2
/-- a step more: the longest of those behind it -/
theorem Exc_up (hab : ∀ i s, 10000 ≤ s → nx i s = s) (hL0 : 0 < L) (hL : L ≤ 35) {f : Nat → Nat} (hs : s < 10000) (hf : ∀ kk, kk < L → Exc nx L (nx kk s) (f kk)) {M : Nat} (hM : ∀ kk, kk < L → f kk ≤ M) (hm : ∃ kk, kk < L ∧ f kk = M) : Exc nx L s (M + 1) := by
  refine ⟨fun l hl => ?_, fun h => ?_⟩
  · cases l with
    | zero => exact ⟨0, rfl, hs⟩
    | succ l =>
      obtain ⟨kk, k1, k2⟩ := hm
      exact HLd_cons hL k1 ((hf kk k1).1 l (by omega))
  · obtain ⟨kk, k1, k2⟩ := HLd_unc hL0 h
    have e := hf kk k1
    have := hM kk k1
    exact e.2 (HLd_le hab (M - f kk) (by rw [show f kk + (M - f kk) = M by omega]; exact k2))
end HOLDA
/-! sums over lists without a thing twice -/
theorem csum_idx {f p : Nat → Nat} {B : Nat} : ∀ {r : Nat}, (∀ i j, i < j → j < r → p i ≠ p j) → (∀ i, i < r → p i < B) → csum (fun i => f (p i)) r = csum (fun t => ib (∃ i, i < r ∧ p i = t) * f t) B
  | 0, _, _ => by
    have e : csum (fun t => ib (∃ i, i < 0 ∧ p i = t) * f t) B = csum (fun _ => 0) B := csum_eq (fun t _ => by
      show ib (∃ i, i < 0 ∧ p i = t) * f t = 0
      rw [ib_f (fun ⟨i, h, _⟩ => by omega), Nat.zero_mul])
    rw [e, csum_0]
    rfl
  | r + 1, h1, h2 => by
    have ih := csum_idx (f := f) (p := p) (B := B) (r := r) (fun i j a b => h1 i j a (by omega)) (fun i a => h2 i (by omega))
    have e : csum (fun t => ib (∃ i, i < r + 1 ∧ p i = t) * f t) B = csum (fun t => (if t = p r then ib (∃ i, i < r ∧ p i = t) + 1 else ib (∃ i, i < r ∧ p i = t)) * f t) B := csum_eq (fun t _ => by
      show ib (∃ i, i < r + 1 ∧ p i = t) * f t = (if t = p r then ib (∃ i, i < r ∧ p i = t) + 1 else ib (∃ i, i < r ∧ p i = t)) * f t
      by_cases z : t = p r
      · rw [if_pos z, ib_t ⟨r, by omega, z.symm⟩, ib_f (fun ⟨i, w1, w2⟩ => h1 i r w1 (by omega) (by rw [w2, z]))]
      · rw [if_neg z]
        by_cases y : ∃ i, i < r ∧ p i = t
        · obtain ⟨i, y1, y2⟩ := y
          rw [ib_t ⟨i, by omega, y2⟩, ib_t ⟨i, y1, y2⟩]
        · rw [ib_f y, ib_f (fun ⟨i, w1, w2⟩ => by
            by_cases e : i = r
            · exact z (by rw [← w2, e])
            · exact y ⟨i, by omega, w2⟩)])
    rw [e, csum_upd, if_pos (h2 r (by omega)), Nat.one_mul, ← ih]
    rfl
theorem csum_sub {f p g : Nat → Nat} {r n B : Nat} (h1 : ∀ i j, i < j → j < r → p i ≠ p j) (h2 : ∀ i j, i < j → j < n → g i ≠ g j) (hp : ∀ i, i < r → p i < B) (hg : ∀ i, i < n → g i < B) (hc : ∀ i, i < r → 0 < f (p i) → ∃ j, j < n ∧ g j = p i) : csum (fun i => f (p i)) r ≤ csum (fun i => f (g i)) n := by
  rw [csum_idx h1 hp, csum_idx h2 hg]
  refine csum_le (fun t _ => ?_)
  show ib (∃ i, i < r ∧ p i = t) * f t ≤ ib (∃ i, i < n ∧ g i = t) * f t
  by_cases y : ∃ i, i < r ∧ p i = t
  · by_cases z : 0 < f t
    · obtain ⟨i, y1, y2⟩ := y
      obtain ⟨j, j1, j2⟩ := hc i y1 (by rw [y2]; exact z)
      rw [ib_t ⟨i, y1, y2⟩, ib_t ⟨j, j1, by rw [j2, y2]⟩]
      exact Nat.le_refl _
    · have : f t = 0 := by omega
      rw [this, Nat.mul_zero, Nat.mul_zero]
      exact Nat.le_refl _
  · rw [ib_f y, Nat.zero_mul]
    exact Nat.zero_le _
/-! what has all its entries behind it, is reached -/
section KHN
variable {nx : Nat → Nat → Nat} {L s0 n0 : Nat} {q0 D0 W0 : Nat → Nat} {p l : Nat → Nat} {r hd k : Nat}
theorem ecn_pos {u t kk : Nat} (hu : u < 10000) (hk : kk < L) (e : nx kk u = t) : 0 < ecn nx L u t := by
  unfold ecn
  rw [if_pos hu]
  have h1 := csum_ge (f := fun i => if nx i u = t then 1 else 0) hk
  have h2 : (if nx kk u = t then 1 else 0) = 1 := if_pos e
  have h3 : (if nx kk u = t then 1 else 0) ≤ csum (fun i => if nx i u = t then 1 else 0) L := h1
  omega
theorem csum_pos {f : Nat → Nat} : ∀ {n : Nat}, 0 < csum f n → ∃ i, i < n ∧ 0 < f i
  | 0, h => absurd h (by show ¬ 0 < 0; omega)
  | n + 1, h => by
    have h : 0 < csum f n + f n := h
    by_cases z : 0 < f n
    · exact ⟨n, by omega, z⟩
    · obtain ⟨i, i1, i2⟩ := csum_pos (f := f) (n := n) (by omega)
      exact ⟨i, by omega, i2⟩
theorem ecn_ex {u t : Nat} (h : 0 < ecn nx L u t) : u < 10000 ∧ ∃ kk, kk < L ∧ nx kk u = t := by
  unfold ecn at h
  by_cases z : u < 10000
  · rw [if_pos z] at h
    obtain ⟨i, i1, i2⟩ := csum_pos h
    refine ⟨z, i, i1, ?_⟩
    apply Classical.byContradiction
    intro hc
    have i2 : 0 < (if nx i u = t then 1 else 0) := i2
    rw [if_neg hc] at i2
    omega
  · rw [if_neg z] at h
    omega
theorem ecn_mono {u t : Nat} (h : k ≤ L) : ecn nx k u t ≤ ecn nx L u t := by
  unfold ecn
  by_cases z : u < 10000
  · rw [if_pos z, if_pos z]
    obtain ⟨d, rfl⟩ : ∃ d, L = k + d := ⟨L - k, by omega⟩
    clear h
    induction d with
    | zero => exact Nat.le_refl _
    | succ d ih => exact Nat.le_trans ih (Nat.le_add_right _ _)
  · rw [if_neg z, if_neg z]
    exact Nat.le_refl _
/-- how many lead into a stand, of all -/
def entA (nx : Nat → Nat → Nat) (L : Nat) (q0 : Nat → Nat) (n0 t : Nat) : Nat := csum (fun i => ecn nx L (q0 i) t) n0
/-- what was looked through whole -/
def FUL (nx : Nat → Nat → Nat) (L s0 : Nat) (q0 D0 W0 : Nat → Nat) (n0 : Nat) : Prop := Bq nx L s0 q0 D0 W0 n0 n0 0 ∧ (∀ i, i < n0 → q0 i < 20000) ∧ (∀ i s, 10000 ≤ s → nx i s = s) ∧ 0 < L ∧ L ≤ 35 ∧ s0 < 10000
/-- stands that are reached, those before hd with all that they lead to, hd with its first k -/
def KHx (nx : Nat → Nat → Nat) (L s0 : Nat) (q0 : Nat → Nat) (n0 : Nat) (p l : Nat → Nat) (r hd k : Nat) : Prop :=
  0 < r ∧ p 0 = s0 ∧ l 0 = 0 ∧ (∀ i j, i < j → j < r → p i ≠ p j) ∧ (∀ i, i < r → p i < 10000 ∧ ∃ j, j < n0 ∧ q0 j = p i) ∧ hd ≤ r ∧ k ≤ L ∧
  (∀ i j, i ≤ j → j < r → l i ≤ l j) ∧ (hd < r → l (r - 1) ≤ l hd + 1) ∧
  (∀ i, i < r → (∃ x, okd L (l i) x ∧ rn nx s0 (l i) x = p i) ∧ ∀ d x, okd L d x → rn nx s0 d x = p i → d ≤ l i) ∧
  (∀ j, j < n0 → q0 j < 10000 → (∀ i, i < r → p i ≠ q0 j) → entr nx L p hd k (q0 j) < entA nx L q0 n0 (q0 j)) ∧
  (∀ i, i < r → entr nx L p hd k (p i) = entA nx L q0 n0 (p i))
theorem FUL_in (F : FUL nx L s0 q0 D0 W0 n0) {d w : Nat} (hw : okd L d w) : ∃ j, j < n0 ∧ q0 j = rn nx s0 d w := by
  obtain ⟨F1, F2, F3, F4, F5, F6⟩ := F
  rcases Bq_cover F5 (Nat.zero_le _) F3 F1 d w hw with ⟨j, j1, j2, -⟩ | ⟨j1, -⟩
  · exact ⟨j, j1, j2⟩
  · omega
theorem ent_le (F : FUL nx L s0 q0 D0 W0 n0) (H : KHx nx L s0 q0 n0 p l r hd k) (hh : hd < r) {k' : Nat} (hk : k' ≤ L) (t : Nat) : entr nx L p hd k' t ≤ entA nx L q0 n0 t := by
  obtain ⟨h1, h2, h3, h4, h5, h6, -⟩ := H
  have a := csum_sub (f := fun u => ecn nx L u t) (p := p) (g := q0) (r := hd + 1) (n := n0) (B := 20000) (fun i j a b => h4 i j a (by omega)) (fun i j a b => F.1.2.2.2.2.2.2.2 i j a b) (fun i hi => by have := (h5 i (by omega)).1; omega) (fun i hi => F.2.1 i hi) (fun i hi _ => (h5 i (by omega)).2)
  have b : csum (fun i => ecn nx L (p i) t) (hd + 1) = csum (fun i => ecn nx L (p i) t) hd + ecn nx L (p hd) t := rfl
  have c := ecn_mono (nx := nx) (u := p hd) (t := t) hk
  unfold entr entA
  omega
/-- if all that lead to it are counted, they are among those looked at -/
theorem ent_all (F : FUL nx L s0 q0 D0 W0 n0) (H : KHx nx L s0 q0 n0 p l r hd k) (hh : hd < r) {k' t u kk : Nat} (hk : k' ≤ L) (e : entr nx L p hd k' t = entA nx L q0 n0 t) (hu : u < 10000) (hj : ∃ j, j < n0 ∧ q0 j = u) (hkk : kk < L) (he : nx kk u = t) : ∃ i, i ≤ hd ∧ p i = u := by
  apply Classical.byContradiction
  intro hc
  obtain ⟨h1, h2, h3, h4, h5, h6, -⟩ := H
  have lo : ∀ i, i < hd + 1 → ¬ i = hd + 1 := fun i hi => by omega
  have a := csum_sub (f := fun y => ecn nx L y t) (p := fun i => if i = hd + 1 then u else p i) (g := q0) (r := hd + 1 + 1) (n := n0) (B := 20000) (fun i j a b => by
    show (if i = hd + 1 then u else p i) ≠ (if j = hd + 1 then u else p j)
    rw [if_neg (by omega)]
    by_cases z : j = hd + 1
    · rw [if_pos z]
      exact fun w => hc ⟨i, by omega, w⟩
    · rw [if_neg z]
      exact h4 i j a (by omega)) (fun i j a b => F.1.2.2.2.2.2.2.2 i j a b) (fun i hi => by
    show (if i = hd + 1 then u else p i) < 20000
    by_cases z : i = hd + 1
    · rw [if_pos z]; omega
    · rw [if_neg z]; have := (h5 i (by omega)).1; omega) (fun i hi => F.2.1 i hi) (fun i hi _ => by
    show ∃ j, j < n0 ∧ q0 j = (if i = hd + 1 then u else p i)
    by_cases z : i = hd + 1
    · rw [if_pos z]; exact hj
    · rw [if_neg z]; exact (h5 i (by omega)).2)
  have b : csum (fun i => ecn nx L (if i = hd + 1 then u else p i) t) (hd + 1 + 1) = csum (fun i => ecn nx L (if i = hd + 1 then u else p i) t) (hd + 1) + ecn nx L (if hd + 1 = hd + 1 then u else p (hd + 1)) t := rfl
  have b2 : csum (fun i => ecn nx L (if i = hd + 1 then u else p i) t) (hd + 1) = csum (fun i => ecn nx L (p i) t) (hd + 1) := csum_eq (fun i hi => by
    show ecn nx L (if i = hd + 1 then u else p i) t = ecn nx L (p i) t
    rw [if_neg (lo i hi)])
  have b3 : csum (fun i => ecn nx L (p i) t) (hd + 1) = csum (fun i => ecn nx L (p i) t) hd + ecn nx L (p hd) t := rfl
  rw [if_pos rfl] at b
  have c := ecn_mono (nx := nx) (u := p hd) (t := t) hk
  have d := ecn_pos (nx := nx) hu hkk he
  have a : csum (fun i => ecn nx L (if i = hd + 1 then u else p i) t) (hd + 1 + 1) ≤ csum (fun i => ecn nx L (q0 i) t) n0 := a
  unfold entr entA at e
  omega
theorem KH_start (F : FUL nx L s0 q0 D0 W0 n0) (h0 : entA nx L q0 n0 s0 = 0) : KHx nx L s0 q0 n0 (fun _ => s0) (fun _ => 0) 1 0 0 := by
  have F' := F
  obtain ⟨F1, F2, F3, F4, F5, F6⟩ := F'
  have z : ∀ u t, ecn nx 0 u t = 0 := fun u t => by
    unfold ecn
    split <;> rfl
  refine ⟨by decide, rfl, rfl, fun i j a b => by omega, fun i _ => ⟨F6, 0, F1.1, F1.2.1⟩, by decide, Nat.zero_le _, fun i j _ _ => Nat.le_refl _, fun _ => Nat.zero_le _, fun i _ => ⟨⟨0, rfl, rfl⟩, fun d x hx hr => ?_⟩, fun j hj hf hn => ?_, fun i _ => ?_⟩
  · cases d with
    | zero => exact Nat.le_refl _
    | succ d =>
      exfalso
      have hr : nx (x % 35) (rn nx s0 d (x / 35)) = s0 := hr
      obtain ⟨j, j1, j2⟩ := FUL_in F hx.2
      have hu : rn nx s0 d (x / 35) < 10000 := by
        apply Classical.byContradiction
        intro hc
        have := F3 (x % 35) _ (show 10000 ≤ rn nx s0 d (x / 35) by omega)
        omega
      have e1 := ecn_pos (nx := nx) hu hx.1 hr
      have e2 := csum_ge (f := fun i => ecn nx L (q0 i) s0) j1
      have e2 : ecn nx L (q0 j) s0 ≤ csum (fun i => ecn nx L (q0 i) s0) n0 := e2
      rw [j2] at e2
      unfold entA at h0
      omega
  · have e1 : entr nx L (fun _ => s0) 0 0 (q0 j) = 0 := by
      unfold entr
      rw [z]
      rfl
    rw [e1]
    have j0 : 0 < j := by
      apply Classical.byContradiction
      intro hc
      have : j = 0 := by omega
      subst this
      exact hn 0 (by decide) F1.2.1.symm
    obtain ⟨i, kk, i1, i2, -, i4, i5, -⟩ := F1.2.2.2.2.1 j j0 hj
    have e2 := ecn_pos (nx := nx) i4 i2 i5.symm
    have e3 := csum_ge (f := fun i => ecn nx L (q0 i) (q0 j)) (show i < n0 by omega)
    have e3 : ecn nx L (q0 i) (q0 j) ≤ csum (fun i => ecn nx L (q0 i) (q0 j)) n0 := e3
    unfold entA
    omega
  · have e1 : entr nx L (fun _ => s0) 0 0 s0 = 0 := by
      unfold entr
      rw [z]
      rfl
    show entr nx L (fun _ => s0) 0 0 s0 = entA nx L q0 n0 s0
    rw [e1, h0]
theorem entr_k {t : Nat} (hf : p hd < 10000) : entr nx L p hd (k + 1) t = entr nx L p hd k t + (if nx k (p hd) = t then 1 else 0) := by
  unfold entr ecn
  rw [if_pos hf, if_pos hf]
  exact (Nat.add_assoc _ _ _).symm
theorem entr_p {p' : Nat → Nat} {t : Nat} (h : ∀ i, i ≤ hd → p' i = p i) : entr nx L p' hd k t = entr nx L p hd k t := by
  unfold entr
  rw [h hd (Nat.le_refl _)]
  have e : csum (fun i => ecn nx L (p' i) t) hd = csum (fun i => ecn nx L (p i) t) hd := csum_eq (fun i hi => by
    show ecn nx L (p' i) t = ecn nx L (p i) t
    rw [h i (by omega)])
  rw [e]
/-- what is reached isn't led to any more -/
theorem KH_ne (F : FUL nx L s0 q0 D0 W0 n0) (H : KHx nx L s0 q0 n0 p l r hd k) (hh : hd < r) (hk : k < L) : ∀ i, i < r → p i ≠ nx k (p hd) := by
  intro i hi w
  have a := H.2.2.2.2.2.2.2.2.2.2.2 i hi
  have b := ent_le F H hh (k' := k + 1) (by omega) (p i)
  rw [entr_k (H.2.2.2.2.1 hd hh).1, if_pos w.symm] at b
  omega
/-- a leading more, nothing is reached -/
theorem KH_old (F : FUL nx L s0 q0 D0 W0 n0) (H : KHx nx L s0 q0 n0 p l r hd k) (hh : hd < r) (hk : k < L) (ht : 10000 ≤ nx k (p hd) ∨ entr nx L p hd (k + 1) (nx k (p hd)) < entA nx L q0 n0 (nx k (p hd))) : KHx nx L s0 q0 n0 p l r hd (k + 1) := by
  have ne := KH_ne F H hh hk
  obtain ⟨h1, h2, h3, h4, h5, h6, h7, h8, h9, h10, h11, h12⟩ := H
  refine ⟨h1, h2, h3, h4, h5, h6, by omega, h8, h9, h10, fun j hj hf hn => ?_, fun i hi => ?_⟩
  · have := h11 j hj hf hn
    by_cases z : nx k (p hd) = q0 j
    · rcases ht with w | w
      · omega
      · rw [← z]; exact w
    · rw [entr_k (h5 hd hh).1, if_neg z]
      exact this
  · rw [entr_k (h5 hd hh).1, if_neg (fun w => ne i hi w.symm)]
    exact h12 i hi
/-- a leading more, and what it leads to is reached -/
theorem KH_new (F : FUL nx L s0 q0 D0 W0 n0) (H : KHx nx L s0 q0 n0 p l r hd k) (hh : hd < r) (hk : k < L) (ht : nx k (p hd) < 10000) (e : entr nx L p hd (k + 1) (nx k (p hd)) = entA nx L q0 n0 (nx k (p hd))) :
    KHx nx L s0 q0 n0 (fun i => if i = r then nx k (p hd) else p i) (fun i => if i = r then l hd + 1 else l i) (r + 1) hd (k + 1) := by
  have hnew := KH_ne F H hh hk
  have al := fun {u kk : Nat} (hu : u < 10000) (hj : ∃ j, j < n0 ∧ q0 j = u) (hkk : kk < L) (he : nx kk u = nx k (p hd)) => ent_all F H hh (k' := k + 1) (by omega) e hu hj hkk he
  have H' := H
  obtain ⟨h1, h2, h3, h4, h5, h6, h7, h8, h9, h10, h11, h12⟩ := H'
  have F3 := F.2.2.1
  obtain ⟨⟨x, x1, x2⟩, x3⟩ := h10 hd hh
  have kx : (x * 35 + k) % 35 = k := by have := F.2.2.2.2.1; omega
  have dx : (x * 35 + k) / 35 = x := by have := F.2.2.2.2.1; omega
  have hrow : okd L (l hd + 1) (x * 35 + k) ∧ rn nx s0 (l hd + 1) (x * 35 + k) = nx k (p hd) := by
    refine ⟨⟨by rw [kx]; exact hk, by rw [dx]; exact x1⟩, ?_⟩
    show nx ((x * 35 + k) % 35) (rn nx s0 (l hd) ((x * 35 + k) / 35)) = nx k (p hd)
    rw [kx, dx, x2]
  have lo : ∀ i, i < r → ¬ i = r := fun i hi => by omega
  have ep : ∀ t, entr nx L (fun i => if i = r then nx k (p hd) else p i) hd (k + 1) t = entr nx L p hd (k + 1) t := fun t => entr_p (fun i hi => if_neg (lo i (by omega)))
  have l9 := h9 hh
  refine ⟨by omega, ?_, ?_, fun i j a b => ?_, fun i hi => ?_, by omega, by omega, fun i j a b => ?_, fun _ => ?_, fun i hi => ?_, fun j hj hf hn => ?_, fun i hi => ?_⟩
  · show (if 0 = r then _ else p 0) = s0
    rw [if_neg (lo 0 h1)]; exact h2
  · show (if 0 = r then _ else l 0) = 0
    rw [if_neg (lo 0 h1)]; exact h3
  · show (if i = r then nx k (p hd) else p i) ≠ (if j = r then nx k (p hd) else p j)
    rw [if_neg (by omega)]
    by_cases z : j = r
    · rw [if_pos z]; exact hnew i (by omega)
    · rw [if_neg z]; exact h4 i j a (by omega)
  · show (if i = r then nx k (p hd) else p i) < 10000 ∧ ∃ j, j < n0 ∧ q0 j = (if i = r then nx k (p hd) else p i)
    by_cases z : i = r
    · rw [if_pos z]
      obtain ⟨j, j1, j2⟩ := FUL_in F hrow.1
      exact ⟨ht, j, j1, by rw [j2, hrow.2]⟩
    · rw [if_neg z]; exact h5 i (by omega)
  · show (if i = r then l hd + 1 else l i) ≤ (if j = r then l hd + 1 else l j)
    by_cases z : j = r
    · rw [if_pos z]
      by_cases y : i = r
      · rw [if_pos y]; exact Nat.le_refl _
      · rw [if_neg y]
        have := h8 i (r - 1) (by omega) (by omega)
        omega
    · rw [if_neg z, if_neg (by omega)]; exact h8 i j a (by omega)
  · show (if r + 1 - 1 = r then l hd + 1 else l (r + 1 - 1)) ≤ (if hd = r then l hd + 1 else l hd) + 1
    rw [if_pos (by omega), if_neg (lo hd hh)]
    exact Nat.le_refl _
  · show (∃ x, okd L (if i = r then l hd + 1 else l i) x ∧ rn nx s0 (if i = r then l hd + 1 else l i) x = (if i = r then nx k (p hd) else p i)) ∧ ∀ d x, okd L d x → rn nx s0 d x = (if i = r then nx k (p hd) else p i) → d ≤ (if i = r then l hd + 1 else l i)
    by_cases z : i = r
    · rw [if_pos z, if_pos z]
      refine ⟨⟨_, hrow.1, hrow.2⟩, fun d y hy hr => ?_⟩
      cases d with
      | zero => omega
      | succ d =>
        have hr : nx (y % 35) (rn nx s0 d (y / 35)) = nx k (p hd) := hr
        have hu : rn nx s0 d (y / 35) < 10000 := by
          apply Classical.byContradiction
          intro hc
          have := F3 (y % 35) _ (show 10000 ≤ rn nx s0 d (y / 35) by omega)
          omega
        obtain ⟨i', i1, i2⟩ := al hu (FUL_in F hy.2) hy.1 hr
        have a := (h10 i' (by omega)).2 d _ hy.2 i2.symm
        have b := h8 i' hd i1 hh
        omega
    · rw [if_neg z, if_neg z]; exact h10 i (by omega)
  · rw [ep]
    have hn' : ∀ i, i < r → p i ≠ q0 j := fun i hi w => hn i (by omega) (by
      show (if i = r then nx k (p hd) else p i) = q0 j
      rw [if_neg (lo i hi)]; exact w)
    have nt : ¬ nx k (p hd) = q0 j := fun w => hn r (by omega) (by
      show (if r = r then nx k (p hd) else p r) = q0 j
      rw [if_pos rfl]; exact w)
    rw [entr_k (h5 hd hh).1, if_neg nt]
    exact h11 j hj hf hn'
  · rw [ep]
    show entr nx L p hd (k + 1) (if i = r then nx k (p hd) else p i) = entA nx L q0 n0 (if i = r then nx k (p hd) else p i)
    by_cases z : i = r
    · rw [if_pos z]; exact e
    · rw [if_neg z, entr_k (h5 hd hh).1, if_neg (fun w => hnew i (by omega) w.symm)]
      exact h12 i (by omega)
theorem KH_next (H : KHx nx L s0 q0 n0 p l r hd L) (hh : hd < r) : KHx nx L s0 q0 n0 p l r (hd + 1) 0 := by
  obtain ⟨h1, h2, h3, h4, h5, h6, h7, h8, h9, h10, h11, h12⟩ := H
  have e : ∀ t, entr nx L p (hd + 1) 0 t = entr nx L p hd L t := fun t => by
    have z : ecn nx 0 (p (hd + 1)) t = 0 := by
      unfold ecn
      split <;> rfl
    unfold entr
    rw [z]
    rfl
  refine ⟨h1, h2, h3, h4, h5, by omega, Nat.zero_le _, h8, fun w => ?_, h10, fun j hj hf hn => by rw [e]; exact h11 j hj hf hn, fun i hi => by rw [e]; exact h12 i hi⟩
  have a := h9 hh
  have b := h8 hd (hd + 1) (by omega) w
  omega
/-- all that doesn't fall is reached: the last one is the farthest -/
theorem KH_exc (F : FUL nx L s0 q0 D0 W0 n0) (H : KHx nx L s0 q0 n0 p l r hd k) (ha : ∀ j, j < n0 → q0 j < 10000 → ∃ i, i < r ∧ p i = q0 j) : Exc nx L s0 (l (r - 1) + 1) := by
  obtain ⟨h1, h2, h3, h4, h5, h6, h7, h8, h9, h10, h11, h12⟩ := H
  refine ⟨fun d hd => ?_, fun h => ?_⟩
  · obtain ⟨⟨x, x1, x2⟩, -⟩ := h10 (r - 1) (by omega)
    refine HLd_le F.2.2.1 (l (r - 1) - d) ⟨x, ?_, ?_⟩
    · rw [show d + (l (r - 1) - d) = l (r - 1) by omega]; exact x1
    · rw [show d + (l (r - 1) - d) = l (r - 1) by omega, x2]; exact (h5 (r - 1) (by omega)).1
  · obtain ⟨x, x1, x2⟩ := h
    obtain ⟨j, j1, j2⟩ := FUL_in F x1
    obtain ⟨i, i1, i2⟩ := ha j j1 (by rw [j2]; exact x2)
    have a := (h10 i i1).2 _ _ x1 (by rw [i2, j2])
    have b := h8 i (r - 1) (by omega) (by omega)
    omega
theorem FUL_row (F : FUL nx L s0 q0 D0 W0 n0) {j : Nat} (hj : j < n0) : ∃ d w, okd L d w ∧ rn nx s0 d w = q0 j := by
  obtain ⟨a, b, -⟩ := Bq_row F.2.2.2.2.1 F.1 hj
  exact ⟨_, _, a, b⟩
/-- something that doesn't fall isn't reached: there is a row without an end -/
theorem KH_inf (F : FUL nx L s0 q0 D0 W0 n0) (H : KHx nx L s0 q0 n0 p l r r 0) {j0 : Nat} (hj0 : j0 < n0) (hf0 : q0 j0 < 10000) (hn0 : ∀ i, i < r → p i ≠ q0 j0) : ∀ d, HLd nx L s0 d := by
  obtain ⟨h1, h2, h3, h4, h5, h6, h7, h8, h9, h10, h11, h12⟩ := H
  have hL := F.2.2.2.2.1
  have pred : ∀ j, j < n0 → q0 j < 10000 → (∀ i, i < r → p i ≠ q0 j) → ∃ j' kk, j' < n0 ∧ q0 j' < 10000 ∧ (∀ i, i < r → p i ≠ q0 j') ∧ kk < L ∧ nx kk (q0 j') = q0 j := by
    intro j hj hf hn
    have a := h11 j hj hf hn
    apply Classical.byContradiction
    intro hc
    have b := csum_sub (f := fun u => ecn nx L u (q0 j)) (p := q0) (g := p) (r := n0) (n := r) (B := 20000) (fun i j a b => F.1.2.2.2.2.2.2.2 i j a b) (fun i j a b => h4 i j a b) (fun i hi => F.2.1 i hi) (fun i hi => by have := (h5 i hi).1; omega) (fun i hi hp => by
      obtain ⟨u1, kk, u2, u3⟩ := ecn_ex hp
      apply Classical.byContradiction
      intro hc2
      exact hc ⟨i, kk, hi, u1, fun i' hi' w => hc2 ⟨i', hi', w⟩, u2, u3⟩)
    have b : csum (fun i => ecn nx L (q0 i) (q0 j)) n0 ≤ csum (fun i => ecn nx L (p i) (q0 j)) r := b
    unfold entr entA at a
    omega
  have chain : ∀ d, ∃ j, j < n0 ∧ q0 j < 10000 ∧ (∀ i, i < r → p i ≠ q0 j) ∧ HLd nx L (q0 j) d := by
    intro d
    induction d with
    | zero => exact ⟨j0, hj0, hf0, hn0, 0, rfl, hf0⟩
    | succ d ih =>
      obtain ⟨j, g1, g2, g3, g4⟩ := ih
      obtain ⟨j', kk, p1, p2, p3, p4, p5⟩ := pred j g1 g2 g3
      exact ⟨j', p1, p2, p3, HLd_cons hL p4 (by rw [p5]; exact g4)⟩
  intro d
  obtain ⟨j, g1, g2, g3, g4⟩ := chain d
  obtain ⟨e, w, w1, w2⟩ := FUL_row F g1
  have := HLd_app (nx := nx) (s := s0) hL w1 (by rw [w2]; exact g4)
  exact HLd_le F.2.2.1 e (by rw [Nat.add_comm]; exact this)
/-- something leads to the beginning: the same -/
theorem KH_cyc (F : FUL nx L s0 q0 D0 W0 n0) (h : 0 < entA nx L q0 n0 s0) : ∀ d, HLd nx L s0 d := by
  have hL := F.2.2.2.2.1
  obtain ⟨j, j1, j2⟩ := csum_pos h
  obtain ⟨u1, kk, u2, u3⟩ := ecn_ex j2
  obtain ⟨e, w, w1, w2⟩ := FUL_row F j1
  intro d
  induction d with
  | zero => exact ⟨0, rfl, F.2.2.2.2.2⟩
  | succ d ih =>
    have a : HLd nx L (q0 j) (d + 1) := HLd_cons hL u2 (by rw [u3]; exact ih)
    have := HLd_app (nx := nx) (s := s0) hL w1 (by rw [w2]; exact a)
    exact HLd_le F.2.2.1 e (by rw [Nat.add_comm]; exact this)
theorem csum_1 {f : Nat → Nat} : ∀ {n : Nat}, (∀ i, i < n → f i = 1) → csum f n = n
  | 0, _ => rfl
  | n + 1, h => by
    show csum f n + f n = n + 1
    rw [csum_1 (fun i hi => h i (by omega)), h n (by omega)]
def unf (q : Nat → Nat) (i : Nat) : Nat := if q i < 10000 then 1 else 0
theorem KH_cnt (F : FUL nx L s0 q0 D0 W0 n0) (H : KHx nx L s0 q0 n0 p l r hd k) : (csum (unf q0) n0 ≤ r ∧ ∀ j, j < n0 → q0 j < 10000 → ∃ i, i < r ∧ p i = q0 j) ∨ (r < csum (unf q0) n0 ∧ ∃ j, j < n0 ∧ q0 j < 10000 ∧ ∀ i, i < r → p i ≠ q0 j) := by
  obtain ⟨h1, h2, h3, h4, h5, h6, h7, h8, h9, h10, h11, h12⟩ := H
  have i0 := fun i j a b => F.1.2.2.2.2.2.2.2 i j a b
  by_cases z : ∃ j, j < n0 ∧ q0 j < 10000 ∧ ∀ i, i < r → p i ≠ q0 j
  · refine Or.inr ⟨?_, z⟩
    obtain ⟨j, j1, j2, j3⟩ := z
    have lo : ∀ i, i < r → ¬ i = r := fun i hi => by omega
    have pb : ∀ i, i < r + 1 → (if i = r then q0 j else p i) < 10000 := fun i hi => by
      by_cases y : i = r
      · rw [if_pos y]; exact j2
      · rw [if_neg y]; exact (h5 i (by omega)).1
    have a := csum_sub (f := fun t => if t < 10000 then 1 else 0) (p := fun i => if i = r then q0 j else p i) (g := q0) (r := r + 1) (n := n0) (B := 20000) (fun i j' a b => by
      show (if i = r then q0 j else p i) ≠ (if j' = r then q0 j else p j')
      rw [if_neg (by omega)]
      by_cases y : j' = r
      · rw [if_pos y]; exact j3 i (by omega)
      · rw [if_neg y]; exact h4 i j' a (by omega)) i0 (fun i hi => by
      show (if i = r then q0 j else p i) < 20000
      have := pb i hi
      omega) (fun i hi => F.2.1 i hi) (fun i hi _ => by
      show ∃ j', j' < n0 ∧ q0 j' = (if i = r then q0 j else p i)
      by_cases y : i = r
      · rw [if_pos y]; exact ⟨j, j1, rfl⟩
      · rw [if_neg y]; exact (h5 i (by omega)).2)
    have b : csum (fun i => (fun t => if t < 10000 then 1 else 0) ((fun i => if i = r then q0 j else p i) i)) (r + 1) = r + 1 := csum_1 (fun i hi => if_pos (pb i hi))
    have c : csum (fun i => (fun t => if t < 10000 then 1 else 0) (q0 i)) n0 = csum (unf q0) n0 := rfl
    rw [b, c] at a
    omega
  · have all : ∀ j, j < n0 → q0 j < 10000 → ∃ i, i < r ∧ p i = q0 j := fun j j1 j2 => by
      apply Classical.byContradiction
      intro hc
      exact z ⟨j, j1, j2, fun i hi w => hc ⟨i, hi, w⟩⟩
    refine Or.inl ⟨?_, all⟩
    have a := csum_sub (f := fun t => if t < 10000 then 1 else 0) (p := q0) (g := p) (r := n0) (n := r) (B := 20000) i0 (fun i j a b => h4 i j a b) (fun i hi => F.2.1 i hi) (fun i hi => by have := (h5 i hi).1; omega) (fun i hi hp => by
      refine all i hi ?_
      apply Classical.byContradiction
      intro hc
      have hp : 0 < (if q0 i < 10000 then 1 else 0) := hp
      rw [if_neg hc] at hp
      omega)
    have b : csum (fun i => (fun t => if t < 10000 then 1 else 0) (p i)) r = r := csum_1 (fun i hi => if_pos (h5 i hi).1)
    have c : csum (fun i => (fun t => if t < 10000 then 1 else 0) (q0 i)) n0 = csum (unf q0) n0 := rfl
    rw [b, c] at a
    exact a
end KHN
