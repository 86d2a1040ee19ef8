/-! a cave made of what was told -/
def K4 (g : Hp) (n s : Nat) (A B C D : Option Cl) : Hp := (g.1 + n, g.2.1 + s, fun j => if j = g.1 then A else if j = g.1 + 1 then B else if j = g.1 + 2 then C else if j = g.1 + 3 then D else g.2.2 j)
section KFO
variable {g : Hp} {n s : Nat} {A B C D : Option Cl}
theorem K4_a0 : (K4 g n s A B C D).2.2 g.1 = A := if_pos rfl
theorem K4_a1 : (K4 g n s A B C D).2.2 (g.1 + 1) = B := (if_neg (by omega)).trans (if_pos rfl)
theorem K4_a2 : (K4 g n s A B C D).2.2 (g.1 + 2) = C := (if_neg (by omega)).trans ((if_neg (by omega)).trans (if_pos rfl))
theorem K4_a3 : (K4 g n s A B C D).2.2 (g.1 + 3) = D := (if_neg (by omega)).trans ((if_neg (by omega)).trans ((if_neg (by omega)).trans (if_pos rfl)))
theorem K4_lo {x : Nat} (hx : x < g.1) : (K4 g n s A B C D).2.2 x = g.2.2 x := (if_neg (by omega)).trans ((if_neg (by omega)).trans ((if_neg (by omega)).trans (if_neg (by omega))))
theorem K4_s0 (x : Cl) : hp_set (K4 g n s A B C D) g.1 x = K4 g n s (some x) B C D := by
  refine Prod.ext rfl (Prod.ext rfl ?_)
  funext j
  show (if j = g.1 then some x else if j = g.1 then A else if j = g.1 + 1 then B else if j = g.1 + 2 then C else if j = g.1 + 3 then D else g.2.2 j) = (if j = g.1 then some x else if j = g.1 + 1 then B else if j = g.1 + 2 then C else if j = g.1 + 3 then D else g.2.2 j)
  by_cases z : j = g.1
  · rw [if_pos z, if_pos z]
  · rw [if_neg z, if_neg z, if_neg z]
theorem K4_s1 (x : Cl) : hp_set (K4 g n s A B C D) (g.1 + 1) x = K4 g n s A (some x) C D := by
  refine Prod.ext rfl (Prod.ext rfl ?_)
  funext j
  show (if j = g.1 + 1 then some x else if j = g.1 then A else if j = g.1 + 1 then B else if j = g.1 + 2 then C else if j = g.1 + 3 then D else g.2.2 j) = (if j = g.1 then A else if j = g.1 + 1 then some x else if j = g.1 + 2 then C else if j = g.1 + 3 then D else g.2.2 j)
  by_cases z : j = g.1 + 1
  · rw [if_pos z, if_neg (by omega), if_pos z]
  · rw [if_neg z, if_neg z, if_neg z]
theorem K4_s3 (x : Cl) : hp_set (K4 g n s A B C D) (g.1 + 3) x = K4 g n s A B C (some x) := by
  refine Prod.ext rfl (Prod.ext rfl ?_)
  funext j
  show (if j = g.1 + 3 then some x else if j = g.1 then A else if j = g.1 + 1 then B else if j = g.1 + 2 then C else if j = g.1 + 3 then D else g.2.2 j) = (if j = g.1 then A else if j = g.1 + 1 then B else if j = g.1 + 2 then C else if j = g.1 + 3 then some x else g.2.2 j)
  by_cases z : j = g.1 + 3
  · rw [if_pos z, if_neg (by omega), if_neg (by omega), if_neg (by omega), if_pos z]
  · rw [if_neg z, if_neg z, if_neg z]
theorem K4_n0 (hn : ∀ a, g.1 ≤ a → g.2.2 a = none) (k : Nat) (x : Cl) : hp_new g k x = K4 g 1 k (some x) none none none := by
  refine Prod.ext rfl (Prod.ext rfl ?_)
  funext j
  show (if j = g.1 then some x else g.2.2 j) = (if j = g.1 then some x else if j = g.1 + 1 then none else if j = g.1 + 2 then none else if j = g.1 + 3 then none else g.2.2 j)
  by_cases z : j = g.1
  · rw [if_pos z, if_pos z]
  · rw [if_neg z, if_neg z]
    by_cases z1 : g.1 ≤ j
    · rw [hn j z1]
      repeat' split
      all_goals rfl
    · rw [if_neg (by omega), if_neg (by omega), if_neg (by omega)]
theorem K4_n1 (k : Nat) (x : Cl) : hp_new (K4 g 1 s A B C D) k x = K4 g 2 (s + k) A (some x) C D := by
  refine Prod.ext rfl (Prod.ext (Nat.add_assoc _ _ _) ?_)
  funext j
  show (if j = g.1 + 1 then some x else if j = g.1 then A else if j = g.1 + 1 then B else if j = g.1 + 2 then C else if j = g.1 + 3 then D else g.2.2 j) = (if j = g.1 then A else if j = g.1 + 1 then some x else if j = g.1 + 2 then C else if j = g.1 + 3 then D else g.2.2 j)
  by_cases z : j = g.1 + 1
  · rw [if_pos z, if_neg (by omega), if_pos z]
  · rw [if_neg z, if_neg z, if_neg z]
theorem K4_n2 (k : Nat) (x : Cl) : hp_new (K4 g 2 s A B C D) k x = K4 g 3 (s + k) A B (some x) D := by
  refine Prod.ext rfl (Prod.ext (Nat.add_assoc _ _ _) ?_)
  funext j
  show (if j = g.1 + 2 then some x else if j = g.1 then A else if j = g.1 + 1 then B else if j = g.1 + 2 then C else if j = g.1 + 3 then D else g.2.2 j) = (if j = g.1 then A else if j = g.1 + 1 then B else if j = g.1 + 2 then some x else if j = g.1 + 3 then D else g.2.2 j)
  by_cases z : j = g.1 + 2
  · rw [if_pos z, if_neg (by omega), if_neg (by omega), if_pos z]
  · rw [if_neg z, if_neg z, if_neg z]
theorem K4_n3 (k : Nat) (x : Cl) : hp_new (K4 g 3 s A B C D) k x = K4 g 4 (s + k) A B C (some x) := by
  refine Prod.ext rfl (Prod.ext (Nat.add_assoc _ _ _) ?_)
  funext j
  show (if j = g.1 + 3 then some x else if j = g.1 then A else if j = g.1 + 1 then B else if j = g.1 + 2 then C else if j = g.1 + 3 then D else g.2.2 j) = (if j = g.1 then A else if j = g.1 + 1 then B else if j = g.1 + 2 then C else if j = g.1 + 3 then some x else g.2.2 j)
  by_cases z : j = g.1 + 3
  · rw [if_pos z, if_neg (by omega), if_neg (by omega), if_neg (by omega), if_pos z]
  · rw [if_neg z, if_neg z, if_neg z]
theorem K4_sV {fs fs' : List Value} {v : Value} {k : Nat} (e : fs.set k v = fs') : sV (K4 g n s (some (.inr (0, fs))) B C D) 0 g.1 k v = some (K4 g n s (some (.inr (0, fs'))) B C D) := by
  unfold sV
  rw [K4_a0]
  show (if 0 = 0 then some (hp_set (K4 g n s (some (.inr (0, fs))) B C D) g.1 (.inr (0, fs.set k v))) else none) = _
  rw [if_pos rfl, K4_s0, e]
theorem K4_gI {fs : List Value} {v : Int32} {k : Nat} (e : fs[k]? = some (.int v)) : gI (K4 g n s (some (.inr (0, fs))) B C D) 0 g.1 k = some v := by
  unfold gI gV
  rw [K4_a0]
  show (match (if 0 = 0 then fs[k]? else none) with | some (.int v) => some v | _ => none) = _
  rw [if_pos rfl, e]
theorem K4_gN {fs : List Value} {v k : Nat} (e : fs[k]? = some (.ref v)) : gN (K4 g n s (some (.inr (0, fs))) B C D) 0 g.1 k = some v := by
  unfold gN gV
  rw [K4_a0]
  show (match (if 0 = 0 then fs[k]? else none) with | some (.ref v) => some v | _ => none) = _
  rw [if_pos rfl, e]
theorem K4_x {x : Nat} {ps : List Value} {v : Int32} {k : Nat} (hx : x < g.1) (hp : g.2.2 x = some (.inr (4, ps))) (e : ps[k]? = some (.int v)) : gI (K4 g n s A B C D) 4 x k = some v := by
  unfold gI gV
  rw [K4_lo hx, hp]
  show (match (if 4 = 4 then ps[k]? else none) with | some (.int v) => some v | _ => none) = _
  rw [if_pos rfl, e]
theorem K4_xr {x : Nat} {ps : List Value} {o : Option Nat} {k : Nat} (hx : x < g.1) (hp : g.2.2 x = some (.inr (4, ps))) (e : ps[k]? = some (va_rf o)) : gR (K4 g n s A B C D) 4 x k = some o := by
  unfold gR gV
  rw [K4_lo hx, hp]
  show (match (if 4 = 4 then ps[k]? else none) with | some (.ref v) => some (some v) | some .null => some none | _ => none) = _
  rw [if_pos rfl, e]
  cases o <;> rfl
theorem K4_w1 {m i : Nat} {f : Nat → Int32} {x : Int32} (hi : i < m) (hm : m < 2 ^ 31) : wI 0 (K4 g n s A (some (.inl (0, m, .inl f))) C D) (g.1 + 1) (nI i) x = some (K4 g n s A (some (.inl (0, m, .inl (fun j => if j = i then x else f j)))) C D) := by
  unfold wI
  rw [K4_a1]
  show (if 0 = 0 ∧ inB (nI i) m = true then some (hp_set (K4 g n s A (some (.inl (0, m, .inl f))) C D) (g.1 + 1) (.inl (0, m, .inl (upd f (nI i).toNatClampNeg (nar 0 x))))) else none) = _
  rw [if_pos ⟨rfl, n_inB hi hm⟩, nI_clamp (by omega), K4_s1]
  rfl
theorem K4_w3 {m i : Nat} {f : Nat → Int32} {x : Int32} (hi : i < m) (hm : m < 2 ^ 31) : wI 0 (K4 g n s A B C (some (.inl (0, m, .inl f)))) (g.1 + 3) (nI i) x = some (K4 g n s A B C (some (.inl (0, m, .inl (fun j => if j = i then x else f j))))) := by
  unfold wI
  rw [K4_a3]
  show (if 0 = 0 ∧ inB (nI i) m = true then some (hp_set (K4 g n s A B C (some (.inl (0, m, .inl f)))) (g.1 + 3) (.inl (0, m, .inl (upd f (nI i).toNatClampNeg (nar 0 x))))) else none) = _
  rw [if_pos ⟨rfl, n_inB hi hm⟩, nI_clamp (by omega), K4_s3]
  rfl
theorem K4_L2 {m : Nat} {f : Nat → Int32} : aL (K4 g n s A B (some (.inl (0, m, .inl f))) D) (g.1 + 2) = some (nI m) := by
  unfold aL
  rw [K4_a2]
  rfl
theorem K4_L3 {m : Nat} {f : Nat → Int32} : aL (K4 g n s A B C (some (.inl (0, m, .inl f)))) (g.1 + 3) = some (nI m) := by
  unfold aL
  rw [K4_a3]
  rfl
theorem K4_r2 {m i : Nat} {f : Nat → Int32} (hi : i < m) (hm : m < 2 ^ 31) : aI 0 (K4 g n s A B (some (.inl (0, m, .inl f))) D) (g.1 + 2) (nI i) = some (f i) := by
  unfold aI
  rw [K4_a2]
  show (if 0 = 0 ∧ inB (nI i) m = true then some (f (nI i).toNatClampNeg) else none) = _
  rw [if_pos ⟨rfl, n_inB hi hm⟩, nI_clamp (by omega)]
end KFO
theorem g_nA {h : Hp} {n : Nat} (hn : n ≤ 10000000) : nA 0 h (nI n) = some (hp_new h n (.inl (0, n, .inl (fun _ => nI 0)))) := by
  unfold nA
  have n0 : ¬ nI n < 0 := by
    show ¬ nI n < nI 0
    rw [nI_ltI (by omega) (by omega)]
    omega
  rw [nI_clamp (by omega), if_pos ⟨n0, hn⟩]
  rfl
/-- a copy of the first len of an int row -/
theorem g_copyOf {H : Hp} {r n len : Nat} {f : Nat → Int32} (hr : r < H.1) (hget : H.2.2 r = some (.inl (0, n, .inl f))) (hn : n < 2 ^ 20) (hl : len ≤ n) :
    ∃ f' : Nat → Int32, fJ7_copyOf_59c91 H r (nI len) = some (H.1, hp_new H len (.inl (0, len, .inl f'))) ∧ ∀ k, k < len → f' k = f k := by
  have aLr : aL H r = some (nI n) := by
    unfold aL
    rw [hget]
    rfl
  unfold fJ7_copyOf_59c91
  by_cases z : len = n
  · subst z
    refine ⟨f, ?_, fun k _ => rfl⟩
    have e1 : cln H r = some (hp_new H len (.inl (0, len, .inl f))) := by
      unfold cln
      rw [hget]
      rfl
    have e2 : ∀ e : Option (Nat × Hp), gA (hp_new H len (.inl (0, len, .inl f))) H.1 e = e := fun e => by
      unfold gA
      show (match (if H.1 = H.1 then some (.inl (0, len, .inl f)) else H.2.2 H.1 : Option Cl) with | some (.inl (t', _, .inl _)) => if t' = 0 then e else none | _ => none) = e
      rw [if_pos rfl]
      rfl
    simp (disch := omega) only [n_lit, n_of, n_o1, nI_add, pk_mul, nI_ltI, nI_leI, nI_eq, ↓lift_lt, ↓k_mt, ↓k_mp, if_true, if_false, Bool.false_eq_true, Nat.not_lt_zero, Nat.zero_le, Nat.reduceEqDiff, Nat.reduceLeDiff, Nat.reduceLT, aLr, e1, e2]
  · obtain ⟨h1, eh1⟩ : ∃ h1, h1 = hp_new H len (.inl (0, len, .inl (fun _ => nI 0))) := ⟨_, rfl⟩
    have lt : (nI len).toNatClampNeg = len := nI_clamp (by omega)
    have e1 : nA 0 H (nI len) = some h1 := by rw [eh1]; exact g_nA (by omega)
    have hget1 : h1.2.2 r = some (.inl (0, n, .inl f)) := by
      rw [eh1]
      show (if r = H.1 then _ else H.2.2 r) = _
      rw [if_neg (by omega), hget]
    have aLr1 : aL h1 r = some (nI n) := by
      unfold aL
      rw [hget1]
      rfl
    have new1 : h1.2.2 H.1 = some (.inl (0, len, .inl (fun _ => nI 0))) := by
      rw [eh1]
      exact if_pos rfl
    have mn : imin (nI n) (nI len) = nI len := by
      unfold imin
      by_cases q : len < n
      · rw [if_pos ((nI_ltI (by omega) (by omega)).mpr q)]
      · omega
    have e2 : acp h1 r (nI 0) H.1 (nI 0) (nI len) = some (hp_set h1 H.1 (.inl (0, len, .inl (va_cpy f (fun _ => nI 0) 0 0 len)))) := by
      unfold acp
      rw [hget1]
      show (match h1.2.2 H.1 with | some (.inl (t1, n1, .inl g)) => _ | _ => none) = _
      rw [new1]
      have z0 : ¬ nI 0 < 0 := by decide
      have zl : ¬ nI len < 0 := by
        show ¬ nI len < nI 0
        rw [nI_ltI (by omega) (by omega)]
        omega
      have c0 : (nI 0).toNatClampNeg = 0 := nI_clamp (by decide)
      show (if (0 = 0 ∧ 0 = 0) ∧ ¬ nI 0 < 0 ∧ ¬ nI 0 < 0 ∧ ¬ nI len < 0 ∧ (nI 0).toNatClampNeg + (nI len).toNatClampNeg ≤ n ∧ (nI 0).toNatClampNeg + (nI len).toNatClampNeg ≤ len then some (hp_set h1 H.1 (.inl (0, len, .inl (va_cpy f (fun _ => nI 0) (nI 0).toNatClampNeg (nI 0).toNatClampNeg (nI len).toNatClampNeg)))) else none) = _
      rw [lt, c0, if_pos ⟨⟨rfl, rfl⟩, z0, z0, zl, by omega, by omega⟩]
    have hs : hp_set h1 H.1 (.inl (0, len, .inl (va_cpy f (fun _ => nI 0) 0 0 len))) = hp_new H len (.inl (0, len, .inl (va_cpy f (fun _ => nI 0) 0 0 len))) := by
      rw [eh1]
      unfold hp_set hp_new
      refine Prod.ext rfl (Prod.ext rfl ?_)
      funext j
      show (if j = H.1 then some _ else if j = H.1 then some _ else H.2.2 j) = (if j = H.1 then some _ else H.2.2 j)
      by_cases q : j = H.1
      · rw [if_pos q, if_pos q]
      · rw [if_neg q, if_neg q, if_neg q]
    rw [hs] at e2
    refine ⟨va_cpy f (fun _ => nI 0) 0 0 len, ?_, fun k hk => ?_⟩
    · simp (disch := omega) only [n_lit, n_of, n_o1, nI_add, pk_mul, nI_ltI, nI_leI, nI_eq, ↓lift_lt, ↓k_mt, ↓k_mp, if_true, if_false, Bool.false_eq_true, Nat.not_lt_zero, Nat.zero_le, Nat.reduceEqDiff, Nat.reduceLeDiff, Nat.reduceLT, aLr, z, e1, aLr1, mn, e2]
    · show (if 0 ≤ k ∧ k < 0 + len then f (0 + (k - 0)) else (0 : Int32)) = f k
      rw [if_pos (by omega), Nat.zero_add, Nat.sub_zero]
/-! the leadings, in a row -/
theorem g_dropsOf {h : Hp} {s p : Nat} (hs : s < 2 ^ 31) (hp : p < 4) : fX11_dropsOf h (nI s) (nI p) = some (nI (d5 s p)) := by
  have h0 : ¬ p < 0 := by omega
  have h1 : 5 ^ p ≤ 625 := pow5_le (by omega)
  have h2 : 0 < 5 ^ p := Nat.pow_pos (by decide)
  have h3 : s / 5 ^ p < 2 ^ 31 := Nat.lt_of_le_of_lt (Nat.div_le_self _ _) hs
  unfold fX11_dropsOf fX11_dropsOf_22
  simp (disch := omega) only [n_lit, n_of, n_o1, nI_add, pk_mul, nI_ltI, nI_leI, nI_eq, ↓lift_lt, ↓k_mt, ↓k_mp, if_true, if_false, Bool.false_eq_true, Nat.not_lt_zero, Nat.zero_le, Nat.reduceEqDiff, Nat.reduceLeDiff, Nat.reduceLT, h0, hp, n_tT2, n_dv, n_rm]
  rfl
theorem g_allDrops {h : Hp} {s : Nat} (hs : s < 2 ^ 31) : fX0_allDrops h (nI s) = some (nI (dsum 4 s)) := by
  unfold fX0_allDrops fX0_allDrops_4
  have K := lpw_iter (body := fun q : Int32 × Int32 => fX0_allDrops_4b h (nI s) q.1 q.2) (fun k => (nI (dsum k s), nI k)) 4 (nI (dsum 4 s)) ?_ ?_
  · exact K
  · intro k hk
    show fX0_allDrops_4b h (nI s) (nI (dsum k s)) (nI k) = some (.inl (nI (dsum k s + d5 s k), nI (k + 1)))
    unfold fX0_allDrops_4b
    have : ¬ 4 ≤ k := by omega
    simp (disch := omega) only [n_lit, n_of, n_o1, nI_add, pk_mul, nI_ltI, nI_leI, nI_eq, ↓lift_lt, ↓k_mt, ↓k_mp, if_true, if_false, Bool.false_eq_true, Nat.not_lt_zero, Nat.zero_le, Nat.reduceEqDiff, Nat.reduceLeDiff, Nat.reduceLT, this, g_dropsOf hs hk]
  · show fX0_allDrops_4b h (nI s) (nI (dsum 4 s)) (nI 4) = some (.inr (nI (dsum 4 s)))
    unfold fX0_allDrops_4b
    simp (disch := omega) only [n_lit, n_of, n_o1, nI_add, pk_mul, nI_ltI, nI_leI, nI_eq, ↓lift_lt, ↓k_mt, ↓k_mp, if_true, if_false, Bool.false_eq_true, Nat.not_lt_zero, Nat.zero_le, Nat.reduceEqDiff, Nat.reduceLeDiff, Nat.reduceLT, Nat.le_refl]
theorem ds4 {s P : Nat} (hs : s < 5 ^ P) : ∀ k, P ≤ k → dsum k s = dsum P s := by
  intro k hk
  induction k with
  | zero => rw [show P = 0 by omega]
  | succ k ih =>
    by_cases z : P = k + 1
    · rw [z]
    · show dsum k s + d5 s k = _
      rw [ih (by omega)]
      have : d5 s k = 0 := by
        unfold d5
        rw [Nat.div_eq_of_lt (Nat.lt_of_lt_of_le hs (Nat.pow_le_pow_right (by decide) (by omega)))]
      omega
def Lk (P D k : Nat) : List Nat := (List.range k).filter (isLb P D)
theorem Lk_s {P D k : Nat} : Lk P D (k + 1) = Lk P D k ++ (if isLb P D k = true then [k] else []) := by
  unfold Lk
  rw [List.range_succ, List.filter_append, List.filter_cons, List.filter_nil]
theorem Lk_pre {P D k : Nat} : ∀ d, ∃ r, Lk P D (k + d) = Lk P D k ++ r
  | 0 => ⟨[], (List.append_nil _).symm⟩
  | d + 1 => by
    obtain ⟨r, e⟩ := Lk_pre (P := P) (D := D) (k := k) d
    refine ⟨r ++ (if isLb P D (k + d) = true then [k + d] else []), ?_⟩
    rw [← List.append_assoc, ← e]
    exact Lk_s
theorem Lk_lim0 : ∀ P : Fin 5, ∀ D : Fin 5, Lk P.1 D.1 (5 ^ P.1) = leadL P.1 D.1 := by decide +kernel
theorem Lk_lim {P D : Nat} (hP : P ≤ 4) (hD : D ≤ 4) : Lk P D (5 ^ P) = leadL P D := Lk_lim0 ⟨P, by omega⟩ ⟨D, by omega⟩
theorem Lk_full {P D k : Nat} (hP : P ≤ 4) (hD : D ≤ 4) (hk : k ≤ 5 ^ P) (h : 35 ≤ (Lk P D k).length) : Lk P D k = leadL P D := by
  obtain ⟨r, e⟩ := Lk_pre (P := P) (D := D) (k := k) (5 ^ P - k)
  rw [show k + (5 ^ P - k) = 5 ^ P by omega, Lk_lim hP hD] at e
  have b := (leadL_b (P := P) (D := D) (by omega) (by omega)).2
  have l : (leadL P D).length = (Lk P D k).length + r.length := by rw [e, List.length_append]
  have : r = [] := List.length_eq_zero_iff.mp (by omega)
  rw [e, this, List.append_nil]
theorem isLb_y {P D k : Nat} (hP : P ≤ 4) (hk : k < 5 ^ P) : (dsum 4 k = if 0 < P then D else 0) ↔ isLb P D k = true := by
  rw [isLb_iff, ds4 hk 4 hP]
  unfold isL
  by_cases z : 0 < P
  · rw [if_pos z]
    exact ⟨fun q => ⟨hk, fun _ => q⟩, fun q => q.2 z⟩
  · have : P = 0 := by omega
    subst this
    exact ⟨fun _ => ⟨hk, fun q => absurd q z⟩, fun _ => rfl⟩
section LDS
variable {g : Hp} {s P D : Nat} {A : Option Cl}
theorem g_list (hP : P ≤ 4) (hD : D ≤ 4) : ∀ d k f, k + d = 5 ^ P → (Lk P D k).length ≤ 35 → (∀ i, i < (Lk P D k).length → f i = nI ((Lk P D k).getD i 0)) →
    ∃ f', fX0_listLeadings_43 (K4 g 2 s A (some (.inl (0, 35, .inl f))) none none) (g.1 + 1) (nI (Lk P D k).length) (nI (5 ^ P)) (nI (if 0 < P then D else 0)) (nI k) = fX0_listLeadings_80 (K4 g 2 s A (some (.inl (0, 35, .inl f'))) none none) (g.1 + 1) (nI (leadL P D).length) ∧ ∀ i, i < (leadL P D).length → f' i = nI ((leadL P D).getD i 0) := by
  intro d
  have p5 := pow5_le hP
  induction d with
  | zero =>
    intro k f hk hl hf
    have ek : k = 5 ^ P := by omega
    rw [ek, Lk_lim hP hD] at hf
    refine ⟨f, ?_, hf⟩
    rw [ek, Lk_lim hP hD]
    have eb : fX0_listLeadings_43b (K4 g 2 s A (some (.inl (0, 35, .inl f))) none none) (g.1 + 1) (nI (5 ^ P)) (nI (if 0 < P then D else 0)) (nI (leadL P D).length) (nI (5 ^ P)) = (fX0_listLeadings_80 (K4 g 2 s A (some (.inl (0, 35, .inl f))) none none) (g.1 + 1) (nI (leadL P D).length)).map (fun q => .inr q) := by
      unfold fX0_listLeadings_43b
      simp (disch := omega) only [n_lit, n_of, n_o1, nI_add, pk_mul, nI_ltI, nI_leI, nI_eq, ↓lift_lt, ↓k_mt, ↓k_mp, if_true, if_false, Bool.false_eq_true, Nat.not_lt_zero, Nat.zero_le, Nat.reduceEqDiff, Nat.reduceLeDiff, Nat.reduceLT, Nat.le_refl]
    unfold fX0_listLeadings_43
    exact lpw_m eb
  | succ d ih =>
    intro k f hk hl hf
    have kl : ¬ 5 ^ P ≤ k := by omega
    by_cases z : 35 ≤ (Lk P D k).length
    · have ef := Lk_full hP hD (by omega) z
      rw [ef] at hf z ⊢
      refine ⟨f, ?_, hf⟩
      have lb := (leadL_b (P := P) (D := D) (by omega) (by omega)).2
      have eb : fX0_listLeadings_43b (K4 g 2 s A (some (.inl (0, 35, .inl f))) none none) (g.1 + 1) (nI (5 ^ P)) (nI (if 0 < P then D else 0)) (nI (leadL P D).length) (nI k) = (fX0_listLeadings_80 (K4 g 2 s A (some (.inl (0, 35, .inl f))) none none) (g.1 + 1) (nI (leadL P D).length)).map (fun q => .inr q) := by
        unfold fX0_listLeadings_43b
        generalize (leadL P D).length = y at z lb ⊢
        simp (disch := omega) only [n_lit, n_of, n_o1, nI_add, pk_mul, nI_ltI, nI_leI, nI_eq, ↓lift_lt, ↓k_mt, ↓k_mp, if_true, if_false, Bool.false_eq_true, Nat.not_lt_zero, Nat.zero_le, Nat.reduceEqDiff, Nat.reduceLeDiff, Nat.reduceLT, kl, eq_true z]
      unfold fX0_listLeadings_43
      exact lpw_m eb
    · have tg : (if 0 < P then D else 0) ≤ 4 := by split <;> omega
      have db : dsum 4 k < 2 ^ 20 := by
        show (((0 + d5 k 0) + d5 k 1) + d5 k 2) + d5 k 3 < 2 ^ 20
        have q : ∀ p, d5 k p < 5 := fun p => Nat.mod_lt _ (by decide)
        have := q 0; have := q 1; have := q 2; have := q 3
        omega
      have iy := isLb_y (D := D) hP (show k < 5 ^ P by omega)
      have ls := Lk_s (P := P) (D := D) (k := k)
      generalize (if 0 < P then D else 0) = tgt at tg iy ih ⊢
      by_cases y : isLb P D k = true
      · rw [if_pos y] at ls
        have dy := iy.mpr y
        have ll : (Lk P D (k + 1)).length = (Lk P D k).length + 1 := by rw [ls, List.length_append]; rfl
        obtain ⟨f', e', hf'⟩ := ih (k + 1) (fun j => if j = (Lk P D k).length then nI k else f j) (by omega) (by omega) (fun i hi => by
          rw [ll] at hi
          rw [ls, List.getD_eq_getElem?_getD]
          by_cases q : i = (Lk P D k).length
          · rw [if_pos q, q, List.getElem?_append_right (Nat.le_refl _), Nat.sub_self]
            rfl
          · rw [if_neg q, List.getElem?_append_left (by omega), ← List.getD_eq_getElem?_getD]
            exact hf i (by omega))
        refine ⟨f', ?_, hf'⟩
        rw [← e', ll]
        have w1 := K4_w1 (g := g) (n := 2) (s := s) (A := A) (C := none) (D := none) (m := 35) (i := (Lk P D k).length) (f := f) (x := nI k) (by omega) (by decide)
        have eb : fX0_listLeadings_43b (K4 g 2 s A (some (.inl (0, 35, .inl f))) none none) (g.1 + 1) (nI (5 ^ P)) (nI tgt) (nI (Lk P D k).length) (nI k) = some (.inl (nI ((Lk P D k).length + 1), nI (k + 1), K4 g 2 s A (some (.inl (0, 35, .inl (fun j => if j = (Lk P D k).length then nI k else f j)))) none none)) := by
          unfold fX0_listLeadings_43b fX0_listLeadings_74
          generalize (Lk P D k).length = yl at z hl w1 ⊢
          have ga := g_allDrops (h := K4 g 2 s A (some (.inl (0, 35, .inl f))) none none) (s := k) (by omega)
          rw [dy] at ga
          simp (disch := omega) only [n_lit, n_of, n_o1, nI_add, pk_mul, nI_ltI, nI_leI, nI_eq, ↓lift_lt, ↓k_mt, ↓k_mp, if_true, if_false, Bool.false_eq_true, Nat.not_lt_zero, Nat.zero_le, Nat.reduceEqDiff, Nat.reduceLeDiff, Nat.reduceLT, kl, z, ga, w1]
        unfold fX0_listLeadings_43
        exact lpw_l eb
      · rw [if_neg y, List.append_nil] at ls
        have dn : ¬ dsum 4 k = tgt := fun q => y (iy.mp q)
        obtain ⟨f', e', hf'⟩ := ih (k + 1) f (by omega) (by rw [ls]; exact hl) (by rw [ls]; exact hf)
        refine ⟨f', ?_, hf'⟩
        rw [← e', ls]
        have eb : fX0_listLeadings_43b (K4 g 2 s A (some (.inl (0, 35, .inl f))) none none) (g.1 + 1) (nI (5 ^ P)) (nI tgt) (nI (Lk P D k).length) (nI k) = some (.inl (nI (Lk P D k).length, nI (k + 1), K4 g 2 s A (some (.inl (0, 35, .inl f))) none none)) := by
          unfold fX0_listLeadings_43b fX0_listLeadings_74
          generalize (Lk P D k).length = yl at z hl ⊢
          have ga := g_allDrops (h := K4 g 2 s A (some (.inl (0, 35, .inl f))) none none) (s := k) (by omega)
          simp (disch := omega) only [n_lit, n_of, n_o1, nI_add, pk_mul, nI_ltI, nI_leI, nI_eq, ↓lift_lt, ↓k_mt, ↓k_mp, if_true, if_false, Bool.false_eq_true, Nat.not_lt_zero, Nat.zero_le, Nat.reduceEqDiff, Nat.reduceLeDiff, Nat.reduceLT, kl, z, ga, dn]
        unfold fX0_listLeadings_43
        exact lpw_l eb
theorem g_leadings (hP : P ≤ 4) (hD : D ≤ 4) : ∃ f35 fl : Nat → Int32, fX0_listLeadings (K4 g 1 s A none none none) (nI P) (nI D) = some (g.1 + 2, K4 g 3 (s + 35 + (leadL P D).length) A (some (.inl (0, 35, .inl f35))) (some (.inl (0, (leadL P D).length, .inl fl))) none) ∧ ∀ i, i < (leadL P D).length → fl i = nI ((leadL P D).getD i 0) := by
  have lb := leadL_b (P := P) (D := D) (by omega) (by omega)
  have l0 : (Lk P D 0).length = 0 := rfl
  obtain ⟨f35, e1, hf⟩ := g_list (g := g) (s := s + 35) (A := A) hP hD (5 ^ P) 0 (fun _ => nI 0) (by omega) (by omega) (fun i hi => absurd hi (by rw [l0]; omega))
  rw [l0] at e1
  obtain ⟨fl, e2, hl⟩ := g_copyOf (H := K4 g 2 (s + 35) A (some (.inl (0, 35, .inl f35))) none none) (r := g.1 + 1) (n := 35) (len := (leadL P D).length) (f := f35) (by show g.1 + 1 < g.1 + 2; omega) K4_a1 (by decide) lb.2
  rw [K4_n2] at e2
  refine ⟨f35, fl, ?_, fun i hi => (hl i hi).trans (hf i hi)⟩
  have na : nA 0 (K4 g 1 s A none none none) (nI 35) = some (K4 g 2 (s + 35) A (some (.inl (0, 35, .inl (fun _ => nI 0)))) none none) := by rw [g_nA (by decide), K4_n1]
  have e80 : fX0_listLeadings_80 (K4 g 2 (s + 35) A (some (.inl (0, 35, .inl f35))) none none) (g.1 + 1) (nI (leadL P D).length) = some (g.1 + 2, K4 g 3 (s + 35 + (leadL P D).length) A (some (.inl (0, 35, .inl f35))) (some (.inl (0, (leadL P D).length, .inl fl))) none) := by
    unfold fX0_listLeadings_80
    rw [e2]
    rfl
  rw [e80] at e1
  have e27 : fX0_listLeadings_27 (K4 g 2 (s + 35) A (some (.inl (0, 35, .inl (fun _ => nI 0)))) none none) (nI P) (nI D) (g.1 + 1) (nI 0) (nI (5 ^ P)) = some (g.1 + 2, K4 g 3 (s + 35 + (leadL P D).length) A (some (.inl (0, 35, .inl f35))) (some (.inl (0, (leadL P D).length, .inl fl))) none) := by
    unfold fX0_listLeadings_27 fX0_listLeadings_38
    by_cases z : 0 < P
    · rw [if_pos z] at e1
      have : ¬ P ≤ 0 := by omega
      simp (disch := omega) only [n_lit, n_of, n_o1, nI_add, pk_mul, nI_ltI, nI_leI, nI_eq, ↓lift_lt, ↓k_mt, ↓k_mp, if_true, if_false, Bool.false_eq_true, Nat.not_lt_zero, Nat.zero_le, Nat.reduceEqDiff, Nat.reduceLeDiff, Nat.reduceLT, this, e1]
    · rw [if_neg z] at e1
      have : P ≤ 0 := by omega
      simp (disch := omega) only [n_lit, n_of, n_o1, nI_add, pk_mul, nI_ltI, nI_leI, nI_eq, ↓lift_lt, ↓k_mt, ↓k_mp, if_true, if_false, Bool.false_eq_true, Nat.not_lt_zero, Nat.zero_le, Nat.reduceEqDiff, Nat.reduceLeDiff, Nat.reduceLT, this, e1]
  have cH : (K4 g 1 s A none none none).1 = g.1 + 1 := rfl
  unfold fX0_listLeadings
  by_cases z : 4 ≤ P
  · have e4 : P = 4 := by omega
    rw [show nI (5 ^ P) = nI 625 by rw [e4]] at e27
    simp (disch := omega) only [n_lit, n_of, n_o1, nI_add, pk_mul, nI_ltI, nI_leI, nI_eq, ↓lift_lt, ↓k_mt, ↓k_mp, if_true, if_false, Bool.false_eq_true, Nat.not_lt_zero, Nat.zero_le, Nat.reduceEqDiff, Nat.reduceLeDiff, Nat.reduceLT, cH, na, eq_true z, e27]
  · have mx : imax (nI P) (nI 0) = nI P := by rw [imax_n (by omega) (by omega), if_neg (by omega)]
    simp (disch := omega) only [n_lit, n_of, n_o1, nI_add, pk_mul, nI_ltI, nI_leI, nI_eq, ↓lift_lt, ↓k_mt, ↓k_mp, if_true, if_false, Bool.false_eq_true, Nat.not_lt_zero, Nat.zero_le, Nat.reduceEqDiff, Nat.reduceLeDiff, Nat.reduceLT, cH, na, z, mx, n_tT2, e27]
theorem g_shares {n : Nat} {fs : List Value} {B : Option Cl} {fl : Nat → Int32} (h9 : fs[9]? = some (.ref (g.1 + 2))) (h10 : fs[10]? = some (.ref (g.1 + 3))) (hn : n ≤ 35) (lv : Nat → Nat) (hlv : ∀ i, i < n → fl i = nI (lv i) ∧ lv i < 625) : ∀ d k f, k + d = 4 * n → (∀ i, i < k → f i = nI (i % 4 * 5 + d5 (lv (i / 4)) (i % 4))) →
    ∃ f', fX0_init_142 (K4 g 4 s (some (.inr (0, fs))) B (some (.inl (0, n, .inl fl))) (some (.inl (0, 4 * n, .inl f)))) g.1 (nI k) = some (K4 g 4 s (some (.inr (0, fs))) B (some (.inl (0, n, .inl fl))) (some (.inl (0, 4 * n, .inl f')))) ∧ ∀ i, i < 4 * n → f' i = nI (i % 4 * 5 + d5 (lv (i / 4)) (i % 4)) := by
  intro d
  induction d with
  | zero =>
    intro k f hk hf
    have ek : k = 4 * n := by omega
    rw [ek] at hf
    refine ⟨f, ?_, hf⟩
    have eb : fX0_init_142b (K4 g 4 s (some (.inr (0, fs))) B (some (.inl (0, n, .inl fl))) (some (.inl (0, 4 * n, .inl f)))) g.1 (nI k) = some (.inr (K4 g 4 s (some (.inr (0, fs))) B (some (.inl (0, n, .inl fl))) (some (.inl (0, 4 * n, .inl f))))) := by
      unfold fX0_init_142b
      have kk : 4 * n ≤ k := by omega
      simp (disch := omega) only [n_lit, n_of, n_o1, nI_add, pk_mul, nI_ltI, nI_leI, nI_eq, ↓lift_lt, ↓k_mt, ↓k_mp, if_true, if_false, Bool.false_eq_true, Nat.not_lt_zero, Nat.zero_le, Nat.reduceEqDiff, Nat.reduceLeDiff, Nat.reduceLT, K4_gN h10, K4_L3, kk]
    unfold fX0_init_142
    exact lpw_r eb
  | succ d ih =>
    intro k f hk hf
    have kk : ¬ 4 * n ≤ k := by omega
    have k4 : k / 4 < n := by omega
    have k5 : k % 4 < 4 := Nat.mod_lt _ (by decide)
    obtain ⟨l1, l2⟩ := hlv (k / 4) k4
    obtain ⟨f', e', hf'⟩ := ih (k + 1) (fun j => if j = k then nI (k % 4 * 5 + d5 (lv (k / 4)) (k % 4)) else f j) (by omega) (fun i hi => by
      by_cases q : i = k
      · rw [if_pos q, q]
      · rw [if_neg q]
        exact hf i (by omega))
    refine ⟨f', ?_, hf'⟩
    rw [← e']
    have w3 := K4_w3 (g := g) (n := 4) (s := s) (A := some (.inr (0, fs))) (B := B) (C := some (.inl (0, n, .inl fl))) (m := 4 * n) (i := k) (f := f) (x := nI (k % 4 * 5 + d5 (lv (k / 4)) (k % 4))) (by omega) (by omega)
    have r2 := K4_r2 (g := g) (n := 4) (s := s) (A := some (.inr (0, fs))) (B := B) (D := some (.inl (0, 4 * n, .inl f))) (m := n) (f := fl) k4 (by omega)
    rw [l1] at r2
    have eb : fX0_init_142b (K4 g 4 s (some (.inr (0, fs))) B (some (.inl (0, n, .inl fl))) (some (.inl (0, 4 * n, .inl f)))) g.1 (nI k) = some (.inl (nI (k + 1), K4 g 4 s (some (.inr (0, fs))) B (some (.inl (0, n, .inl fl))) (some (.inl (0, 4 * n, .inl (fun j => if j = k then nI (k % 4 * 5 + d5 (lv (k / 4)) (k % 4)) else f j)))))) := by
      unfold fX0_init_142b
      have dr := g_dropsOf (h := K4 g 4 s (some (.inr (0, fs))) B (some (.inl (0, n, .inl fl))) (some (.inl (0, 4 * n, .inl f)))) (s := lv (k / 4)) (p := k % 4) (by omega) k5
      simp (disch := omega) only [n_lit, n_of, n_o1, nI_add, pk_mul, nI_ltI, nI_leI, nI_eq, ↓lift_lt, ↓k_mt, ↓k_mp, if_true, if_false, Bool.false_eq_true, Nat.not_lt_zero, Nat.zero_le, Nat.reduceEqDiff, Nat.reduceLeDiff, Nat.reduceLT, K4_gN h10, K4_gN h9, K4_L3, kk, n_rm, n_dv, r2, dr, w3]
    unfold fX0_init_142
    exact lpw_l eb
end LDS
