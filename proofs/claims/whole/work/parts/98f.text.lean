/-! texts: words and signs of both sides -/
def ks (x : Nat) : List Nat := (strB.getD (x - 3) []).map (fun b => b.toInt.toNat)
/-- words by their numbers, signs from 30 on -/
def kt (k : Nat) : List Nat := if k < 19 then ks ([4, 5, 7, 8, 9, 10, 11, 12, 34, 16, 25, 26, 27, 28, 29, 30, 23, 24, 17].getD k 3) else [(ks 3).getD (k - 30) 0]
def vk (k : Nat) : Bool := decide (k < 19) || (decide (30 ≤ k) && decide (k < 42))
/-- the number of a token that the class looks for -/
def kx (x : Nat) : Nat := [0, 0, 0, 0, 0, 1, 30, 2, 3, 4, 5, 6, 7, 31, 35, 36, 9, 18, 37, 38, 40, 41, 39, 16, 17, 10, 11, 12, 13, 14, 15, 34, 32, 33, 8].getD x 0
set_option maxRecDepth 100000 in
theorem kx_ok : ∀ x, x < 35 → 4 ≤ x → vk (kx x) = true ∧ ks x = kt (kx x) := by decide +kernel
set_option maxRecDepth 100000 in
theorem kt_inj : ∀ k, k < 42 → vk k = true → ∀ j, j < 42 → vk j = true → kt k = kt j → k = j := by decide +kernel
set_option maxRecDepth 100000 in
theorem kt_sm0 : ∀ k, k < 42 → vk k = true → (k < 19 ∧ 0 < (kt k).length ∧ (kt k).all (fun b => decide (97 ≤ b) && decide (b ≤ 122)) = true) ∨ (30 ≤ k ∧ (kt k).length = 1 ∧ (kt k).all (fun b => (decide (b < 48) || decide (57 < b)) && (decide (b < 97) || decide (122 < b))) = true) := by decide +kernel
theorem kt_sm (k : Nat) (h1 : k < 42) (h2 : vk k = true) : (k < 19 ∧ 0 < (kt k).length ∧ (∀ b, b ∈ kt k → 97 ≤ b ∧ b ≤ 122)) ∨ (30 ≤ k ∧ (kt k).length = 1 ∧ ∀ b, b ∈ kt k → (b < 48 ∨ 57 < b) ∧ (b < 97 ∨ 122 < b)) := by
  rcases kt_sm0 k h1 h2 with ⟨a, b, q⟩ | ⟨a, b, q⟩
  · refine Or.inl ⟨a, b, fun y hy => ?_⟩
    have := List.all_eq_true.mp q y hy
    simp only [Bool.and_eq_true, decide_eq_true_eq] at this
    exact this
  · refine Or.inr ⟨a, b, fun y hy => ?_⟩
    have := List.all_eq_true.mp q y hy
    simp only [Bool.and_eq_true, Bool.or_eq_true, decide_eq_true_eq] at this
    exact this
theorem vk_lt {k : Nat} (h : vk k = true) : k < 42 := by
  unfold vk at h
  simp only [Bool.or_eq_true, Bool.and_eq_true, decide_eq_true_eq] at h
  omega
set_option maxRecDepth 100000 in
theorem x_len : ∀ x, x < 37 → 3 ≤ x → isT x = true ∧ cJ_len x = some (nI (ks x).length) ∧ (ks x).length < 100 := by decide +kernel
set_option maxRecDepth 100000 in
theorem x_chr : ∀ x, x < 37 → 3 ≤ x → ∀ i, i < (ks x).length → cJ_chr x (nI i) = some (nI ((ks x).getD i 0)) ∧ (ks x).getD i 0 < 128 := by decide +kernel
theorem gT_y {α : Type} {x : Nat} (h : isT x = true) (e : Option α) : gT x e = e := if_pos h
/-- where the words begin in the reference's row of words -/
def kpos : Nat → Nat
  | 0 => 1
  | n + 1 => kpos n + (kt n).length + 1
set_option maxRecDepth 100000 in
theorem kpos_ok : (∀ n, n < 19 → (∀ i, i < (kt n).length → (ks 35).getD (kpos n + i) 0 = (kt n).getD i 0 ∧ kpos n + i < (ks 35).length) ∧ (ks 35).getD (kpos n + (kt n).length) 0 = 32 ∧ kpos n + (kt n).length < (ks 35).length) ∧ kpos 19 = (ks 35).length := by decide +kernel
def cont (t : Nat → Nat) (a b : Nat) : List Nat := (List.range (b - a)).map (fun i => t (a + i))
theorem cont_len (t : Nat → Nat) (a b : Nat) : (cont t a b).length = b - a := by
  unfold cont
  rw [List.length_map, List.length_range]
theorem cont_get (t : Nat → Nat) {a b i : Nat} (h : i < b - a) : (cont t a b).getD i 0 = t (a + i) := by
  unfold cont
  rw [List.getD_eq_getElem?_getD, List.getElem?_map, List.getElem?_range h]
  rfl
theorem list_eq {l l' : List Nat} (h : l.length = l'.length) (h2 : ∀ i, i < l.length → l.getD i 0 = l'.getD i 0) : l = l' := by
  apply List.ext_getElem h
  intro i h3 h4
  have := h2 i h3
  rw [List.getD_eq_getElem?_getD, List.getD_eq_getElem?_getD, List.getElem?_eq_getElem h3, List.getElem?_eq_getElem h4] at this
  exact this
theorem cont_eq {t : Nat → Nat} {a b : Nat} {l : List Nat} : cont t a b = l ↔ b - a = l.length ∧ ∀ i, i < l.length → t (a + i) = l.getD i 0 := by
  constructor
  · intro h
    have h1 : b - a = l.length := by rw [← h, cont_len]
    refine ⟨h1, fun i hi => ?_⟩
    rw [← cont_get t (a := a) (b := b) (by omega), h]
  · rintro ⟨h1, h2⟩
    refine list_eq (by rw [cont_len]; exact h1) (fun i hi => ?_)
    rw [cont_len] at hi
    rw [cont_get t hi]
    exact h2 i (by omega)
theorem sgn_small : ∀ n, n < 256 → (n < 128 → sgn n = nI n) ∧ (128 ≤ n → sgn n < nI 0) := by decide +kernel
theorem sgn_lt {n k : Nat} (hn : n < 256) (hk : k < 128) : (sgn n < nI k) ↔ (n < k ∨ 128 ≤ n) := by
  have h := sgn_small n hn
  by_cases z : n < 128
  · rw [h.1 z, nI_ltI (by omega) (by omega)]
    omega
  · have h2 := h.2 (by omega)
    rw [Int32.lt_iff_toInt_lt] at h2 ⊢
    rw [nI_toInt (by omega)] at h2 ⊢
    omega
theorem sgn_gt {n k : Nat} (hn : n < 256) (hk : k < 128) : (nI k < sgn n) ↔ (k < n ∧ n < 128) := by
  have h := sgn_small n hn
  by_cases z : n < 128
  · rw [h.1 z, nI_ltI (by omega) (by omega)]
    omega
  · have h2 := h.2 (by omega)
    rw [Int32.lt_iff_toInt_lt] at h2 ⊢
    rw [nI_toInt (by omega)] at h2 ⊢
    omega
theorem sgn_eq {n k : Nat} (hn : n < 256) (hk : k < 128) : (sgn n = nI k) ↔ n = k := by
  have h := sgn_small n hn
  by_cases z : n < 128
  · rw [h.1 z, nI_eq (by omega) (by omega)]
  · have h2 := h.2 (by omega)
    constructor
    · intro q
      rw [q, nI_ltI (by omega) (by omega)] at h2
      omega
    · intro q; omega
/-- the text of both sides -/
def TXx (t : Nat → Nat) (N : Nat) (m : Mu) (h : Hp) (c : Ch) : Prop := N ≤ 900 ∧ (∀ i, t i < 256) ∧ m.1 8 = nI N ∧ (∀ i, i < N → m.2.1 3 i = nI (t i)) ∧ c.2.2.1 83 0 = some 81 ∧ c.1 83 1 = nI N ∧ (∀ i, i < N → c.2.2.2.1 81 i = sgn (t i)) ∧ c.1 82 5 = nI 0 ∧ c.1 82 6 = -nI 1
section TXT
variable {t : Nat → Nat} {N : Nat} {m : Mu} {h : Hp} {c : Ch}
theorem q_see {i : Nat} (H : TXx t N m h c) (hi : i < 2 ^ 30) : gX12_see m (nI i) = some (if i < N then nI (t i) else -nI 1) := by
  obtain ⟨h1, h2, h3, h4, -⟩ := H
  unfold gX12_see gX12_see_18
  by_cases z : i < N
  · have z' : ¬ N ≤ i := by omega
    rw [if_pos z]
    simp (disch := omega) only [n_lit, n_of, n_o1, nI_add, pk_mul, nI_ltI, nI_leI, nI_eq, ↓lift_lt, ↓k_mt, ↓k_mp, if_true, if_false, Bool.false_eq_true, Nat.not_lt_zero, Nat.zero_le, Nat.reduceEqDiff, Nat.reduceLeDiff, Nat.reduceLT, h3, z', mA_3, h4 i z]
  · have z' : N ≤ i := by omega
    rw [if_neg z]
    simp (disch := omega) only [n_lit, n_of, n_o1, nI_add, pk_mul, nI_ltI, nI_leI, nI_eq, ↓lift_lt, ↓k_mt, ↓k_mp, if_true, if_false, Bool.false_eq_true, Nat.not_lt_zero, Nat.zero_le, Nat.reduceEqDiff, Nat.reduceLeDiff, Nat.reduceLT, h3, z']
theorem c_txt {i : Nat} (H : TXx t N m h c) (hi : i < N) : aI 1 (cput h c) 81 (nI i) = some (sgn (t i)) := by
  obtain ⟨h1, h2, -, -, -, -, h7⟩ := H
  rw [caI_81, cA_g c (show i < 900 by omega) (by decide), h7.1 i hi]
theorem c_isAt {x a b : Nat} (H : TXx t N m h c) (hx : x < 35) (hx4 : 4 ≤ x) (h4 : c.1 83 4 = nI a) (h2 : c.1 83 2 = nI b) (hab : a ≤ b) (hb : b ≤ N) (h3 : c.1 83 3 = nI 1 ∨ c.1 83 3 = nI 3) : gX6_isAt h c x = some (nI (if cont t a b = ks x then 1 else 0)) := by
  obtain ⟨x1, x2, x3⟩ := x_len x (by omega) (by omega)
  have N9 := H.1
  have nb : nI b - nI a = nI (b - a) := pk_sub hab
  have e16 : gX6_isAt h c x = gX6_isAt_16 h c x := by
    unfold gX6_isAt
    have i1 : ¬ (3 = 1) := by decide
    rcases h3 with h3 | h3
    · simp (disch := omega) only [n_lit, n_of, n_o1, nI_add, pk_mul, nI_ltI, nI_leI, nI_eq, ↓lift_lt, ↓k_mt, ↓k_mp, if_true, if_false, Bool.false_eq_true, Nat.not_lt_zero, Nat.zero_le, Nat.reduceEqDiff, Nat.reduceLeDiff, Nat.reduceLT, h3]
    · simp (disch := omega) only [n_lit, n_of, n_o1, nI_add, pk_mul, nI_ltI, nI_leI, nI_eq, ↓lift_lt, ↓k_mt, ↓k_mp, if_true, if_false, Bool.false_eq_true, Nat.not_lt_zero, Nat.zero_le, Nat.reduceEqDiff, Nat.reduceLeDiff, Nat.reduceLT, h3, i1]
  rw [e16]
  unfold gX6_isAt_16 gX6_isAt_32
  rw [gT_y x1]
  by_cases zl : (ks x).length = b - a
  · have run : ∀ d i, i + d = (ks x).length → (∀ j, j < i → t (a + j) = (ks x).getD j 0) → gX6_isAt_36 h c x (nI i) = some (nI (if cont t a b = ks x then 1 else 0)) := by
      intro d
      induction d with
      | zero =>
        intro i hi hp
        have e : cont t a b = ks x := cont_eq.mpr ⟨by omega, fun j hj => hp j (by omega)⟩
        rw [if_pos e]
        have le : (ks x).length ≤ i := by omega
        have eb : gX6_isAt_36b h c x (nI i) = some (.inr (nI 1)) := by
          unfold gX6_isAt_36b gX6_isAt_84
          rw [gT_y x1]
          simp (disch := omega) only [n_lit, n_of, n_o1, nI_add, pk_mul, nI_ltI, nI_leI, nI_eq, ↓lift_lt, ↓k_mt, ↓k_mp, if_true, if_false, Bool.false_eq_true, Nat.not_lt_zero, Nat.zero_le, Nat.reduceEqDiff, Nat.reduceLeDiff, Nat.reduceLT, x2, le, Option.map_some]
        unfold gX6_isAt_36
        exact lpw_r eb
      | succ d ih =>
        intro i hi hp
        have nl : ¬ (ks x).length ≤ i := by omega
        obtain ⟨y1, y2⟩ := x_chr x (by omega) (by omega) i (by omega)
        have ni : ¬ N ≤ a + i := by omega
        have ct := c_txt (i := a + i) H (by omega)
        have se := sgn_eq (n := t (a + i)) (k := (ks x).getD i 0) (H.2.1 _) y2
        by_cases z : t (a + i) = (ks x).getD i 0
        · have eb : gX6_isAt_36b h c x (nI i) = some (.inl (nI (i + 1))) := by
            unfold gX6_isAt_36b
            rw [gT_y x1]
            simp (disch := omega) only [n_lit, n_of, n_o1, nI_add, pk_mul, nI_ltI, nI_leI, nI_eq, ↓lift_lt, ↓k_mt, ↓k_mp, if_true, if_false, Bool.false_eq_true, Nat.not_lt_zero, Nat.zero_le, Nat.reduceEqDiff, Nat.reduceLeDiff, Nat.reduceLT, x2, nl, H.2.2.2.2.2.1, h4, ni, H.2.2.2.2.1, ct, gT_y x1, y1, se, eq_true z]
          unfold gX6_isAt_36
          refine (lpw_l eb).trans (ih (i + 1) (by omega) (fun j hj => ?_))
          by_cases zj : j = i
          · subst zj; exact z
          · exact hp j (by omega)
        · have e : ¬ cont t a b = ks x := fun w => z ((cont_eq.mp w).2 i (by omega))
          rw [if_neg e]
          have eb : gX6_isAt_36b h c x (nI i) = some (.inr (nI 0)) := by
            unfold gX6_isAt_36b
            rw [gT_y x1]
            simp (disch := omega) only [n_lit, n_of, n_o1, nI_add, pk_mul, nI_ltI, nI_leI, nI_eq, ↓lift_lt, ↓k_mt, ↓k_mp, if_true, if_false, Bool.false_eq_true, Nat.not_lt_zero, Nat.zero_le, Nat.reduceEqDiff, Nat.reduceLeDiff, Nat.reduceLT, x2, nl, H.2.2.2.2.2.1, h4, ni, H.2.2.2.2.1, ct, gT_y x1, y1, se, z]
          unfold gX6_isAt_36
          exact lpw_r eb
    have r0 := run (ks x).length 0 (by omega) (fun j hj => by omega)
    simp (disch := omega) only [n_lit, n_of, n_o1, nI_add, pk_mul, nI_ltI, nI_leI, nI_eq, ↓lift_lt, ↓k_mt, ↓k_mp, if_true, if_false, Bool.false_eq_true, Nat.not_lt_zero, Nat.zero_le, Nat.reduceEqDiff, Nat.reduceLeDiff, Nat.reduceLT, x2, h2, h4, nb, eq_true zl, r0]
  · have e : ¬ cont t a b = ks x := fun w => zl (cont_eq.mp w).1.symm
    rw [if_neg e]
    simp (disch := omega) only [n_lit, n_of, n_o1, nI_add, pk_mul, nI_ltI, nI_leI, nI_eq, ↓lift_lt, ↓k_mt, ↓k_mp, if_true, if_false, Bool.false_eq_true, Nat.not_lt_zero, Nat.zero_le, Nat.reduceEqDiff, Nat.reduceLeDiff, Nat.reduceLT, x2, h2, h4, nb, zl]
/-- the reference's number of a word -/
theorem q_keyAt {a b : Nat} (H : TXx t N m h c) (h6 : m.1 6 = nI a) (h7 : m.1 7 = nI b) (hab : a ≤ b) (hb : b ≤ N) : ∃ kd, gX12_keyAt m = some (nI kd) ∧ ((kd < 19 ∧ cont t a b = kt kd) ∨ (kd = 22 ∧ ∀ k, k < 19 → ¬ cont t a b = kt k)) := by
  have N9 := H.1
  obtain ⟨kp, kpe⟩ := kpos_ok
  obtain ⟨x1, x2, x3⟩ := x_len 35 (by decide) (by decide)
  have chr := fun i hi => (x_chr 35 (by decide) (by decide) i hi).1
  have pb : ∀ n, n ≤ 19 → kpos n ≤ 100 := fun n hn => by
    have mono : ∀ d, n + d = 19 → kpos n ≤ kpos 19 := fun d => by
      induction d generalizing n with
      | zero => intro e; rw [show n = 19 by omega]; exact Nat.le_refl _
      | succ d ih =>
        intro e
        have := ih (n + 1) (by omega) (by omega)
        have e2 : kpos (n + 1) = kpos n + (kt n).length + 1 := rfl
        omega
    have := mono (19 - n) (by omega)
    omega
  -- one word
  have one : ∀ n, n < 19 → gX12_keyAt_15 m (nI n) (nI (kpos n)) (nI 0) = if cont t a b = kt n then some (.inr (nI n)) else some (.inl (nI (n + 1), nI (kpos (n + 1)))) := by
    intro n hn
    obtain ⟨k1, k2, k3⟩ := kp n hn
    have pn := pb n (by omega)
    have skip : ∀ d i, i + d = (kt n).length → gX12_keyAt_97 m (nI n) (nI (kpos n + i)) = some (.inl (nI (n + 1), nI (kpos (n + 1)))) := by
      intro d
      induction d with
      | zero =>
        intro i hi
        have e : i = (kt n).length := by omega
        subst e
        have ch := chr _ k3
        rw [k2] at ch
        have eb : gX12_keyAt_97b m (nI n) (nI (kpos n + (kt n).length)) = some (.inr (.inl (nI (n + 1), nI (kpos n + (kt n).length + 1)))) := by
          unfold gX12_keyAt_97b gX12_keyAt_114
          rw [gT_y x1]
          simp (disch := omega) only [n_lit, n_of, n_o1, nI_add, pk_mul, nI_ltI, nI_leI, nI_eq, ↓lift_lt, ↓k_mt, ↓k_mp, if_true, if_false, Bool.false_eq_true, Nat.not_lt_zero, Nat.zero_le, Nat.reduceEqDiff, Nat.reduceLeDiff, Nat.reduceLT, ch, Option.map_some]
        unfold gX12_keyAt_97
        exact lpw_r eb
      | succ d ih =>
        intro i hi
        obtain ⟨q1, q2⟩ := k1 i (by omega)
        have ch := chr _ q2
        rw [q1] at ch
        have sm := (kt_sm n (by omega) (by unfold vk; simp only [Bool.or_eq_true, decide_eq_true_eq]; exact Or.inl hn))
        have ne : ¬ (kt n).getD i 0 = 32 := fun w => by
          have mem : (kt n).getD i 0 ∈ kt n := by
            rw [List.getD_eq_getElem?_getD, List.getElem?_eq_getElem (show i < (kt n).length by omega)]
            exact List.getElem_mem _
          rcases sm with ⟨-, -, q⟩ | ⟨q, -⟩
          · have := q _ mem
            omega
          · omega
        have lb : (kt n).getD i 0 < 128 := by rw [← q1]; exact (x_chr 35 (by decide) (by decide) _ q2).2
        have eb : gX12_keyAt_97b m (nI n) (nI (kpos n + i)) = some (.inl (nI (kpos n + i + 1))) := by
          unfold gX12_keyAt_97b
          rw [gT_y x1]
          simp (disch := omega) only [n_lit, n_of, n_o1, nI_add, pk_mul, nI_ltI, nI_leI, nI_eq, ↓lift_lt, ↓k_mt, ↓k_mp, if_true, if_false, Bool.false_eq_true, Nat.not_lt_zero, Nat.zero_le, Nat.reduceEqDiff, Nat.reduceLeDiff, Nat.reduceLT, ch, ne]
        unfold gX12_keyAt_97
        exact (lpw_l eb).trans (ih (i + 1) (by omega))
    have skip0 := skip (kt n).length 0 (by omega)
    rw [Nat.add_zero] at skip0
    have run : ∀ d i, i + d = (kt n).length → i ≤ b - a → (∀ j, j < i → t (a + j) = (kt n).getD j 0) → gX12_keyAt_15 m (nI n) (nI (kpos n)) (nI i) = if cont t a b = kt n then some (.inr (nI n)) else some (.inl (nI (n + 1), nI (kpos (n + 1)))) := by
      intro d
      induction d with
      | zero =>
        intro i hi hib hp
        have e : i = (kt n).length := by omega
        subst e
        have ch := chr _ k3
        rw [k2] at ch
        have e69 : gX12_keyAt_69 m (nI n) (nI (kpos n)) (nI (kt n).length) = if cont t a b = kt n then some (.inr (nI n)) else some (.inl (nI (n + 1), nI (kpos (n + 1)))) := by
          unfold gX12_keyAt_69
          rw [gT_y x1]
          by_cases z : a + (kt n).length = b
          · rw [if_pos (cont_eq.mpr ⟨by omega, hp⟩)]
            simp (disch := omega) only [n_lit, n_of, n_o1, nI_add, pk_mul, nI_ltI, nI_leI, nI_eq, ↓lift_lt, ↓k_mt, ↓k_mp, if_true, if_false, Bool.false_eq_true, Nat.not_lt_zero, Nat.zero_le, Nat.reduceEqDiff, Nat.reduceLeDiff, Nat.reduceLT, ch, h6, h7, eq_true z]
          · have hne : ¬ cont t a b = kt n := fun w => z (by have := (cont_eq.mp w).1; omega)
            rw [if_neg hne]
            simp (disch := omega) only [n_lit, n_of, n_o1, nI_add, pk_mul, nI_ltI, nI_leI, nI_eq, ↓lift_lt, ↓k_mt, ↓k_mp, if_true, if_false, Bool.false_eq_true, Nat.not_lt_zero, Nat.zero_le, Nat.reduceEqDiff, Nat.reduceLeDiff, Nat.reduceLT, ch, h6, h7, z, skip0]
        obtain ⟨r, er⟩ : ∃ r, gX12_keyAt_69 m (nI n) (nI (kpos n)) (nI (kt n).length) = some r := by
          rw [e69]; split <;> exact ⟨_, rfl⟩
        rw [← e69, er]
        have eb : gX12_keyAt_15b m (nI n) (nI (kpos n)) (nI (kt n).length) = some (.inr r) := by
          unfold gX12_keyAt_15b
          rw [gT_y x1]
          simp (disch := omega) only [n_lit, n_of, n_o1, nI_add, pk_mul, nI_ltI, nI_leI, nI_eq, ↓lift_lt, ↓k_mt, ↓k_mp, if_true, if_false, Bool.false_eq_true, Nat.not_lt_zero, Nat.zero_le, Nat.reduceEqDiff, Nat.reduceLeDiff, Nat.reduceLT, ch, er, Option.map_some]
        unfold gX12_keyAt_15
        exact lpw_r eb
      | succ d ih =>
        intro i hi hib hp
        obtain ⟨q1, q2⟩ := k1 i (by omega)
        have ch := chr _ q2
        rw [q1] at ch
        have lb : (kt n).getD i 0 < 128 := by rw [← q1]; exact (x_chr 35 (by decide) (by decide) _ q2).2
        have sm := (kt_sm n (by omega) (by unfold vk; simp only [Bool.or_eq_true, decide_eq_true_eq]; exact Or.inl hn))
        have ne : ¬ (kt n).getD i 0 = 32 := fun w => by
          have mem : (kt n).getD i 0 ∈ kt n := by
            rw [List.getD_eq_getElem?_getD, List.getElem?_eq_getElem (show i < (kt n).length by omega)]
            exact List.getElem_mem _
          rcases sm with ⟨-, -, q⟩ | ⟨q, -⟩
          · have := q _ mem
            omega
          · omega
        have e69 : gX12_keyAt_69 m (nI n) (nI (kpos n)) (nI i) = some (.inl (nI (n + 1), nI (kpos (n + 1)))) := by
          unfold gX12_keyAt_69
          rw [gT_y x1]
          simp (disch := omega) only [n_lit, n_of, n_o1, nI_add, pk_mul, nI_ltI, nI_leI, nI_eq, ↓lift_lt, ↓k_mt, ↓k_mp, if_true, if_false, Bool.false_eq_true, Nat.not_lt_zero, Nat.zero_le, Nat.reduceEqDiff, Nat.reduceLeDiff, Nat.reduceLT, ch, ne, skip0]
        by_cases z : b ≤ a + i
        · rw [if_neg (fun w => by have := (cont_eq.mp w).1; omega)]
          have eb : gX12_keyAt_15b m (nI n) (nI (kpos n)) (nI i) = some (.inr (.inl (nI (n + 1), nI (kpos (n + 1))))) := by
            unfold gX12_keyAt_15b
            rw [gT_y x1]
            simp (disch := omega) only [n_lit, n_of, n_o1, nI_add, pk_mul, nI_ltI, nI_leI, nI_eq, ↓lift_lt, ↓k_mt, ↓k_mp, if_true, if_false, Bool.false_eq_true, Nat.not_lt_zero, Nat.zero_le, Nat.reduceEqDiff, Nat.reduceLeDiff, Nat.reduceLT, ch, ne, h6, h7, z, e69, Option.map_some]
          unfold gX12_keyAt_15
          exact lpw_r eb
        · have ti := H.2.2.2.1 (a + i) (by omega)
          have tb := H.2.1 (a + i)
          by_cases y : t (a + i) = (kt n).getD i 0
          · have eb : gX12_keyAt_15b m (nI n) (nI (kpos n)) (nI i) = some (.inl (nI (i + 1))) := by
              unfold gX12_keyAt_15b
              rw [gT_y x1]
              simp (disch := omega) only [n_lit, n_of, n_o1, nI_add, pk_mul, nI_ltI, nI_leI, nI_eq, ↓lift_lt, ↓k_mt, ↓k_mp, if_true, if_false, Bool.false_eq_true, Nat.not_lt_zero, Nat.zero_le, Nat.reduceEqDiff, Nat.reduceLeDiff, Nat.reduceLT, ch, ne, h6, h7, z, mA_3, ti, gT_y x1, eq_true y]
            unfold gX12_keyAt_15
            refine (lpw_l eb).trans (ih (i + 1) (by omega) (by omega) (fun j hj => ?_))
            by_cases zj : j = i
            · subst zj; exact y
            · exact hp j (by omega)
          · rw [if_neg (fun w => y ((cont_eq.mp w).2 i (by omega)))]
            have eb : gX12_keyAt_15b m (nI n) (nI (kpos n)) (nI i) = some (.inr (.inl (nI (n + 1), nI (kpos (n + 1))))) := by
              unfold gX12_keyAt_15b
              rw [gT_y x1]
              simp (disch := omega) only [n_lit, n_of, n_o1, nI_add, pk_mul, nI_ltI, nI_leI, nI_eq, ↓lift_lt, ↓k_mt, ↓k_mp, if_true, if_false, Bool.false_eq_true, Nat.not_lt_zero, Nat.zero_le, Nat.reduceEqDiff, Nat.reduceLeDiff, Nat.reduceLT, ch, ne, h6, h7, z, mA_3, ti, gT_y x1, y, e69, Option.map_some]
            unfold gX12_keyAt_15
            exact lpw_r eb
    exact run (kt n).length 0 (by omega) (Nat.zero_le _) (fun j hj => by omega)
  have K := lpw_inv (body := fun z : Int32 × Int32 => gX12_keyAt_4b m z.1 z.2)
    (fun n z => z = (nI n, nI (kpos n)) ∧ ∀ k, k < n → ¬ cont t a b = kt k)
    (fun r => ∃ kd, r = nI kd ∧ ((kd < 19 ∧ cont t a b = kt kd) ∨ (kd = 22 ∧ ∀ k, k < 19 → ¬ cont t a b = kt k))) 19 ?_ ?_ (nI 0, nI 1) ⟨rfl, fun k hk => by omega⟩
  · obtain ⟨r, e, kd, e2, rest⟩ := K
    subst e2
    exact ⟨kd, e, rest⟩
  · rintro n z hn ⟨g1, g2⟩
    subst g1
    have o := one n hn
    have k3 := (kp n hn).2.2
    have pn := pb n (by omega)
    have nl : ¬ (ks 35).length ≤ kpos n := by omega
    show (∃ s', gX12_keyAt_4b m (nI n) (nI (kpos n)) = some (.inl s') ∧ _) ∨ (∃ r, gX12_keyAt_4b m (nI n) (nI (kpos n)) = some (.inr r) ∧ _)
    have e4 : gX12_keyAt_4b m (nI n) (nI (kpos n)) = gX12_keyAt_15 m (nI n) (nI (kpos n)) (nI 0) := by
      unfold gX12_keyAt_4b
      rw [gT_y x1]
      simp (disch := omega) only [n_lit, n_of, n_o1, nI_add, pk_mul, nI_ltI, nI_leI, nI_eq, ↓lift_lt, ↓k_mt, ↓k_mp, if_true, if_false, Bool.false_eq_true, Nat.not_lt_zero, Nat.zero_le, Nat.reduceEqDiff, Nat.reduceLeDiff, Nat.reduceLT, x2, nl]
    rw [e4, o]
    by_cases z : cont t a b = kt n
    · rw [if_pos z]
      exact Or.inr ⟨_, rfl, n, rfl, Or.inl ⟨hn, z⟩⟩
    · rw [if_neg z]
      refine Or.inl ⟨_, rfl, rfl, fun k hk => ?_⟩
      by_cases e : k = n
      · subst e; exact z
      · exact g2 k (by omega)
  · rintro z ⟨g1, g2⟩
    subst g1
    have pn := pb 19 (by omega)
    have le : (ks 35).length ≤ kpos 19 := by omega
    show ∃ r, gX12_keyAt_4b m (nI 19) (nI (kpos 19)) = some (.inr r) ∧ _
    refine ⟨nI 22, ?_, 22, rfl, Or.inr ⟨rfl, g2⟩⟩
    unfold gX12_keyAt_4b
    rw [gT_y x1]
    simp (disch := omega) only [n_lit, n_of, n_o1, nI_add, pk_mul, nI_ltI, nI_leI, nI_eq, ↓lift_lt, ↓k_mt, ↓k_mp, if_true, if_false, Bool.false_eq_true, Nat.not_lt_zero, Nat.zero_le, Nat.reduceEqDiff, Nat.reduceLeDiff, Nat.reduceLT, x2, le]
end TXT
