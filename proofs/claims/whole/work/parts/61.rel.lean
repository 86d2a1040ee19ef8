/-! what both sides stand for: the tape, the cave, how it stands, what can be undone, images, trays, the fault -/
abbrev Sp : Type := (Nat × (Nat → Nat)) × Cv × St × List St × (Nat → Option (Cv × St)) × (Nat → Option (Nat × Nat × (Nat → Int64))) × (Int32 × Int32)
def zT (x : Sp) : Nat × (Nat → Nat) := x.1
def zV (x : Sp) : Cv := x.2.1
def zS (x : Sp) : St := x.2.2.1
def zH (x : Sp) : List St := x.2.2.2.1
def zI (x : Sp) : Nat → Option (Cv × St) := x.2.2.2.2.1
def zR (x : Sp) : Nat → Option (Nat × Nat × (Nat → Int64)) := x.2.2.2.2.2.1
def zF (x : Sp) : Int32 × Int32 := x.2.2.2.2.2.2
def imOK (o : Option (Cv × St)) : Prop := match o with
  | none => True
  | some (v, s) => wV v ∧ wS v s
def trOK (o : Option (Nat × Nat × (Nat → Int64))) : Prop := match o with
  | none => True
  | some (so, n, _) => so < 4 ∧ n ≤ 40
def WF (x : Sp) : Prop := (zT x).1 ≤ 900 ∧ (∀ i, (zT x).2 i < 256) ∧ wV (zV x) ∧ wS (zV x) (zS x) ∧ (zH x).length ≤ 10 ∧ (∀ s, s ∈ zH x → wS (zV x) s) ∧ (∀ i, imOK (zI x i)) ∧ (∀ t, trOK (zR x t))
/-! the reference -/
def imR (f g : Nat → Int32) (i : Nat) (o : Option (Cv × St)) : Prop := match o with
  | none => g i = nI 0
  | some (v, s) => g i = nI 1 ∧ Rv (fun k => f (1038 * (i + 1) + k)) v ∧ blk (fun k => f (1038 * (i + 1) + k)) 15 s
def trR (f g : Nat → Int32) (l : Nat → Int64) (t : Nat) (o : Option (Nat × Nat × (Nat → Int64))) : Prop := match o with
  | none => f t = -nI 1
  | some (so, n, w) => f t = nI so ∧ g t = nI n ∧ ∀ i, i < n → l (40 * t + i) = w i
def RM (m : Mu) (x : Sp) : Prop := m.1 5 = nI (zT x).1 ∧ (∀ i, i < (zT x).1 → m.2.1 3 i = nI ((zT x).2 i)) ∧ Rv (m.2.1 1) (zV x) ∧ blk (m.2.1 1) 15 (zS x) ∧ m.2.1 1 26 = nI (zH x).length ∧ (∀ i (hi : i < (zH x).length), blk (m.2.1 1) (27 + 11 * i) (zH x)[i]) ∧
  (∀ i, i < 2 → imR (m.2.1 1) (m.2.1 2) i (zI x i)) ∧ (∀ t, t < 4 → trR (m.2.1 21) (m.2.1 22) (m.2.2 23) t (zR x t)) ∧ m.1 13 = (zF x).1 ∧ m.1 14 = (zF x).2
def kpM (m m' : Mu) : Prop := m'.2.1 1 = m.2.1 1 ∧ m'.2.1 2 = m.2.1 2 ∧ m'.2.1 3 = m.2.1 3 ∧ m'.2.1 21 = m.2.1 21 ∧ m'.2.1 22 = m.2.1 22 ∧ m'.2.2 23 = m.2.2 23 ∧ m'.1 5 = m.1 5 ∧ m'.1 13 = m.1 13 ∧ m'.1 14 = m.1 14
theorem kpM_rfl (m : Mu) : kpM m m := ⟨rfl, rfl, rfl, rfl, rfl, rfl, rfl, rfl, rfl⟩
theorem kpM_tr {m m' m'' : Mu} (h : kpM m m') (h' : kpM m' m'') : kpM m m'' := ⟨h'.1.trans h.1, h'.2.1.trans h.2.1, h'.2.2.1.trans h.2.2.1, h'.2.2.2.1.trans h.2.2.2.1, h'.2.2.2.2.1.trans h.2.2.2.2.1, h'.2.2.2.2.2.1.trans h.2.2.2.2.2.1, h'.2.2.2.2.2.2.1.trans h.2.2.2.2.2.2.1, h'.2.2.2.2.2.2.2.1.trans h.2.2.2.2.2.2.2.1, h'.2.2.2.2.2.2.2.2.trans h.2.2.2.2.2.2.2.2⟩
theorem RM_kp {m m' : Mu} {x : Sp} (h : RM m x) (k : kpM m m') : RM m' x := by
  obtain ⟨k1, k2, k3, k4, k5, k6, k7, k8, k9⟩ := k
  unfold RM at *
  rw [k1, k2, k3, k4, k5, k6, k7, k8, k9]
  exact h
theorem kpM_fr {A : Nat → Bool} {m m' : Mu} (h : mfr A m m') (h1 : A 1 = false) (h2 : A 2 = false) (h3 : A 3 = false) (h4 : A 21 = false) (h5 : A 22 = false) : kpM m m' :=
  ⟨h.2.2 1 h1, h.2.2 2 h2, h.2.2 3 h3, h.2.2 21 h4, h.2.2 22 h5, by rw [h.2.1], by rw [h.1], by rw [h.1], by rw [h.1]⟩
/-- a field of the reference that isn't one of these -/
theorem kpM_I (m : Mu) {k : Nat} (v : Int32) (h5 : ¬ 5 = k) (h13 : ¬ 13 = k) (h14 : ¬ 14 = k) : kpM m (mI m k v) := ⟨rfl, rfl, rfl, rfl, rfl, rfl, if_neg h5, if_neg h13, if_neg h14⟩
/-! the class -/
def stc (c : Ch) (j : Nat) (s : St) : Prop := c.1 (sadr j) 0 = nI s.1 ∧ c.1 (sadr j) 1 = nI s.2.1 ∧ c.1 (sadr j) 2 = nI s.2.2.1 ∧ c.1 (sadr j) 3 = s.2.2.2
def sgn (b : Nat) : Int32 := (nI b).toInt8.toInt32
def imC (h : Hp) (V : Nat → Cv) (c : Ch) (i : Nat) (o : Option (Cv × St)) : Prop := match o with
  | none => c.2.2.2.2.2 106 i = none
  | some (v, s) => ∃ a, c.2.2.2.2.2 106 i = some a ∧ V a = v ∧ CaveAt h a v ∧ stc c (13 + i) s
def trC (c : Ch) (t : Nat) (o : Option (Nat × Nat × (Nat → Int64))) : Prop := match o with
  | none => c.1 (tadr t) 2 = nI 1
  | some (so, n, w) => c.1 (tadr t) 2 = nI 0 ∧ c.1 (tadr t) 1 = nI so ∧ c.1 (tadr t) 3 = nI n ∧ ∀ i, i < n → c.2.2.2.2.1 (tadr t + 1) i = w i
def pastC (c : Ch) (H : List St) : Prop := c.1 93 2 = nI H.length ∧ ∃ nx, nx < 10 ∧ c.1 93 1 = nI nx ∧ ∀ i (hi : i < H.length), stc c (3 + (nx + 10 - H.length + i) % 10) H[i]
/-- what is told of the class by x, but for the course and the search -/
def RS (h : Hp) (V : Nat → Cv) (c : Ch) (x : Sp) : Prop := c.1 80 1 = nI (zT x).1 ∧ (∀ i, i < (zT x).1 → c.2.2.2.1 81 i = sgn ((zT x).2 i)) ∧ (∃ a, c.2.2.1 80 3 = some a ∧ V a = zV x ∧ CaveAt h a (zV x)) ∧ stc c 0 (zS x) ∧ pastC c (zH x) ∧
  (∀ i, i < 2 → imC h V c i (zI x i)) ∧ (∀ t, t < 4 → trC c t (zR x t)) ∧ c.1 82 5 = (zF x).1 ∧ c.1 82 6 = (zF x).2
def Kr (r : Nat) : Bool := decide (r = 82) || decide (r = 93) || decide (r = 90) || (decide (95 ≤ r) && decide (r < 105)) || (decide (128 ≤ r) && decide (r < 138))
def kpC (c c' : Ch) : Prop := (∀ r, Kr r = true → c'.1 r = c.1 r) ∧ c'.1 80 1 = c.1 80 1 ∧ c'.2.2.1 80 3 = c.2.2.1 80 3 ∧ c'.2.2.2.1 81 = c.2.2.2.1 81 ∧ (∀ t, c'.2.2.2.2.1 (tadr t + 1) = c.2.2.2.2.1 (tadr t + 1)) ∧ c'.2.2.2.2.2 = c.2.2.2.2.2
theorem kpC_rfl (c : Ch) : kpC c c := ⟨fun _ _ => rfl, rfl, rfl, rfl, fun _ => rfl, rfl⟩
theorem kpC_tr {c c' c'' : Ch} (h : kpC c c') (h' : kpC c' c'') : kpC c c'' := ⟨fun r hr => (h'.1 r hr).trans (h.1 r hr), h'.2.1.trans h.2.1, h'.2.2.1.trans h.2.2.1, h'.2.2.2.1.trans h.2.2.2.1, fun t => (h'.2.2.2.2.1 t).trans (h.2.2.2.2.1 t), h'.2.2.2.2.2.trans h.2.2.2.2.2⟩
theorem Kr_s {j : Nat} (h : j = 0 ∨ (3 ≤ j ∧ j < 15)) : Kr (sadr j) = true := by
  unfold sadr
  by_cases h1 : j < 3
  · have : j = 0 := by omega
    subst this; decide
  · rw [if_neg h1]
    by_cases h2 : j < 13
    · rw [if_pos h2]
      unfold Kr
      have a1 : decide (95 ≤ 92 + j) = true := decide_eq_true (by omega)
      have a2 : decide (92 + j < 105) = true := decide_eq_true (by omega)
      rw [a1, a2]
      simp
    · rw [if_neg h2, if_pos (by omega)]
      unfold Kr
      have a1 : decide (128 ≤ 123 + j) = true := decide_eq_true (by omega)
      have a2 : decide (123 + j < 138) = true := decide_eq_true (by omega)
      rw [a1, a2]
      simp
theorem Kr_t (t : Nat) : Kr (tadr t) = true := by
  unfold tadr
  split
  · unfold Kr
    rename_i h
    have a1 : decide (128 ≤ 128 + 2 * t) = true := decide_eq_true (by omega)
    have a2 : decide (128 + 2 * t < 138) = true := decide_eq_true (by omega)
    rw [a1, a2]
    simp
  · decide
theorem stc_eq {c c' : Ch} {j : Nat} {s : St} (h : c'.1 (sadr j) = c.1 (sadr j)) (hs : stc c j s) : stc c' j s := by
  unfold stc at *
  rw [h]
  exact hs
theorem RS_kp {h : Hp} {V : Nat → Cv} {c c' : Ch} {x : Sp} (H : RS h V c x) (k : kpC c c') : RS h V c' x := by
  obtain ⟨k1, k2, k3, k4, k5, k6⟩ := k
  obtain ⟨h1, h2, h3, h4, ⟨h5, nx, h5a, h5b, h5c⟩, h6, h7, h8, h9⟩ := H
  refine ⟨by rw [k2]; exact h1, by rw [k4]; exact h2, by rw [k3]; exact h3, stc_eq (k1 _ (Kr_s (by omega))) h4, ⟨by rw [k1 93 rfl]; exact h5, nx, h5a, by rw [k1 93 rfl]; exact h5b, fun i hi => stc_eq (k1 _ (Kr_s (by omega))) (h5c i hi)⟩, fun i hi => ?_, fun t ht => ?_, by rw [k1 82 rfl]; exact h8, by rw [k1 82 rfl]; exact h9⟩
  · have := h6 i hi
    unfold imC at *
    cases hz : zI x i with
    | none => rw [hz] at this; simp only [k6]; exact this
    | some p =>
      rw [hz] at this
      obtain ⟨a, b1, b2, b3, b4⟩ := this
      exact ⟨a, by rw [k6]; exact b1, b2, b3, stc_eq (k1 _ (Kr_s (by omega))) b4⟩
  · have := h7 t ht
    unfold trC at *
    rw [k1 _ (Kr_t t), k5 t]
    exact this
/-- the rest of the heap may grow -/
theorem RS_h {h h' : Hp} {V : Nat → Cv} {c : Ch} {x : Sp} (hh : ∀ a, fre a → ∀ c, h.2.2 a = some c → h'.2.2 a = some c) (H : RS h V c x) : RS h' V c x := by
  obtain ⟨h1, h2, ⟨a, h3a, h3b, h3c⟩, h4, h5, h6, h7⟩ := H
  refine ⟨h1, h2, ⟨a, h3a, h3b, CaveAt_fr hh h3c⟩, h4, h5, fun i hi => ?_, h7⟩
  have := h6 i hi
  unfold imC at *
  cases hz : zI x i with
  | none => rw [hz] at this; exact this
  | some p =>
    rw [hz] at this
    obtain ⟨a, b1, b2, b3, b4⟩ := this
    exact ⟨a, b1, b2, CaveAt_fr hh b3, b4⟩
/-! what was explored: states in the order in which they were come to -/
def nxt (v : Cv) (ch : Nat) (k s : Nat) : Nat := Yr v ch s (ld v k) 0
def nxd (v : Cv) (ch : Nat) (k s : Nat) : Nat := Yr v ch s (ld v k) 1
def csum (f : Nat → Nat) : Nat → Nat
  | 0 => 0
  | n + 1 => csum f n + f n
/-- how many leadings lead from a state to another one, of the first k -/
def ecn (nx : Nat → Nat → Nat) (k s t : Nat) : Nat := if s < 10000 then csum (fun i => if nx i s = t then 1 else 0) k else 0
def entr (nx : Nat → Nat → Nat) (L : Nat) (q : Nat → Nat) (hd k t : Nat) : Nat := csum (fun i => ecn nx L (q i) t) hd + ecn nx k (q hd) t
/-- goals of the search -/
def Gp (P : Nat) (goal : Int32) (s : Nat) : Prop := (∃ b, b < 2 ^ P ∧ goal = nI b ∧ metb P s &&& b = b) ∨ (goal = -nI 1 ∧ 10000 ≤ s)
/-- the rows of the search hold it -/
def QB (v : Cv) (ch : Nat) (c : Ch) (s0 st : Nat) (q D W : Nat → Nat) (n hd k : Nat) : Prop :=
  Bq (nxt v ch) (nL v) s0 q D W n hd k ∧ k ≤ nL v ∧ n ≤ 20000 ∧ c.1 116 12 = nI n ∧ c.1 116 4 = nI st ∧ (∀ i, i < n → q i < 20000 ∧ q i % 10000 < 10 ^ vP v ∧ c.2.2.2.1 118 i = nI (q i)) ∧
  c.2.2.2.1 119 (q 0) = -nI 1 ∧ (∀ i, 0 < i → i < n → c.2.2.2.1 119 (q i) = nI (rn (nxt v ch) s0 (D i - 1) (W i / 35) * 35 + W i % 35)) ∧
  (∀ s, s < 20000 → ((c.2.2.2.1 117 s = nI st ∧ ∃ i, i < n ∧ q i = s) ∨ ((∃ z, z < st ∧ c.2.2.2.1 117 s = nI z) ∧ ∀ i, i < n → q i ≠ s)))
def ENT (v : Cv) (ch : Nat) (c : Ch) (q : Nat → Nat) (n hd k : Nat) : Prop := ∀ i, i < n → c.2.2.2.1 120 (q i) = nI (entr (nxt v ch) (nL v) q hd k (q i))
def EXP (v : Cv) (ch : Nat) (c : Ch) : Prop := ∃ s0 goal res st q D W n hd k, c.1 116 14 = nI s0 ∧ s0 < 20000 ∧ s0 % 10000 < 10 ^ vP v ∧ c.1 116 15 = goal ∧ c.1 116 16 = res ∧ QB v ch c s0 st q D W n hd k ∧
  ((res = -nI 1 ∧ hd = n ∧ k = 0 ∧ (∀ i, i < n → ¬ Gp (vP v) goal (q i)) ∧ ENT v ch c q n hd k) ∨ (res = nI (q (n - 1)) ∧ Best (nxt v ch) (nL v) s0 (Gp (vP v) goal) (D (n - 1)) (W (n - 1))))
def SI (T : Nat) (h : Hp) (V : Nat → Cv) (c : Ch) : Prop := ∃ a ch st, c.2.2.1 116 1 = some a ∧ CaveAt h a (V a) ∧ wV (V a) ∧ c.1 116 2 = nI ch ∧ ch < 10000 ∧ c.1 116 4 = nI st ∧ st ≤ 10 * T ∧ (∀ i, i < 20000 → ∃ z, z ≤ st ∧ c.2.2.2.1 117 i = nI z) ∧ (c.1 116 13 = nI 0 ∨ (c.1 116 13 = nI 1 ∧ EXP (V a) ch c))
theorem QB_eq {v : Cv} {ch : Nat} {c c' : Ch} {s0 st : Nat} {q D W : Nat → Nat} {n hd k : Nat} (h1 : c'.1 116 12 = c.1 116 12) (h2 : c'.1 116 4 = c.1 116 4) (h3 : c'.2.2.2.1 117 = c.2.2.2.1 117) (h4 : c'.2.2.2.1 118 = c.2.2.2.1 118) (h5 : c'.2.2.2.1 119 = c.2.2.2.1 119) (H : QB v ch c s0 st q D W n hd k) : QB v ch c' s0 st q D W n hd k := by
  unfold QB at *
  rw [h1, h2, h3, h4, h5]
  exact H
theorem SI_eq {T : Nat} {h : Hp} {V : Nat → Cv} {c c' : Ch} (h1 : c'.1 116 = c.1 116) (h2 : c'.2.2.1 116 1 = c.2.2.1 116 1) (h3 : c'.2.2.2.1 117 = c.2.2.2.1 117) (h4 : c'.2.2.2.1 118 = c.2.2.2.1 118) (h5 : c'.2.2.2.1 119 = c.2.2.2.1 119) (h6 : c'.2.2.2.1 120 = c.2.2.2.1 120) (H : SI T h V c) : SI T h V c' := by
  unfold SI EXP QB ENT at *
  rw [h1, h2, h3, h4, h5, h6]
  exact H
theorem SI_T {T T' : Nat} {h : Hp} {V : Nat → Cv} {c : Ch} (hT : T ≤ T') (H : SI T h V c) : SI T' h V c := by
  obtain ⟨a, ch, st, h1, h2, h3, h4, h5, h6, h7, h8⟩ := H
  exact ⟨a, ch, st, h1, h2, h3, h4, h5, h6, by omega, h8⟩
theorem SI_h {T : Nat} {h h' : Hp} {V : Nat → Cv} {c : Ch} (hh : ∀ a, fre a → ∀ c, h.2.2 a = some c → h'.2.2 a = some c) (H : SI T h V c) : SI T h' V c := by
  obtain ⟨a, ch, st, h1, h2, h3⟩ := H
  exact ⟨a, ch, st, h1, CaveAt_fr hh h2, h3⟩
theorem CT_h {h h' : Hp} {V : Nat → Cv} {c : Ch} {a ch : Nat} (hh : ∀ a, fre a → ∀ c, h.2.2 a = some c → h'.2.2 a = some c) (H : CT h V c a ch) : CT h' V c a ch := by
  obtain ⟨h1, h2, h3⟩ := H
  exact ⟨h1, CaveAt_fr hh h2, h3⟩
def RC (T : Nat) (h : Hp) (V : Nat → Cv) (c : Ch) (x : Sp) : Prop := RS h V c x ∧ (∃ a ch, CT h V c a ch) ∧ SI T h V c
