/-! the reference: what reckons with numbers alone, or reads its row -/
theorem lg_1 {x y : Int64} (h : x < y) : lg_cmp x y = -1 := by
  have h1 : ¬ y < x := fun q => Int64.lt_irrefl (Int64.lt_trans h q)
  have h2 : ¬ x = y := fun q => by rw [q] at h; exact Int64.lt_irrefl h
  unfold lg_cmp
  rw [if_neg h1, if_neg h2]
theorem lg_2 {x y : Int64} (h : y < x) : lg_cmp x y = 1 := by
  unfold lg_cmp
  rw [if_pos h]
theorem lg_3 (x : Int64) : lg_cmp x x = 0 := by
  unfold lg_cmp
  rw [if_neg Int64.lt_irrefl, if_pos rfl]
theorem lg_t (x y : Int64) : x < y ∨ y < x ∨ x = y := by
  by_cases h : x < y
  · exact Or.inl h
  · by_cases h2 : y < x
    · exact Or.inr (Or.inl h2)
    · exact Or.inr (Or.inr (Int64.le_antisymm (Int64.not_lt.mp h2) (Int64.not_lt.mp h)))
theorem lg_l (x y : Int64) : lg_cmp x y < 0 ↔ x < y := by
  rcases lg_t x y with h | h | h
  · rw [lg_1 h]; exact ⟨fun _ => h, fun _ => by decide⟩
  · rw [lg_2 h]; exact ⟨fun q => absurd q (by decide), fun q => absurd (Int64.lt_trans q h) Int64.lt_irrefl⟩
  · rw [h, lg_3]; exact ⟨fun q => absurd q (by decide), fun q => absurd q Int64.lt_irrefl⟩
theorem lg_g (x y : Int64) : 0 < lg_cmp x y ↔ y < x := by
  rcases lg_t x y with h | h | h
  · rw [lg_1 h]; exact ⟨fun q => absurd q (by decide), fun q => absurd (Int64.lt_trans q h) Int64.lt_irrefl⟩
  · rw [lg_2 h]; exact ⟨fun _ => h, fun _ => by decide⟩
  · rw [h, lg_3]; exact ⟨fun q => absurd q (by decide), fun q => absurd q Int64.lt_irrefl⟩
theorem lg_e (x y : Int64) : lg_cmp x y = 0 ↔ x = y := by
  rcases lg_t x y with h | h | h
  · rw [lg_1 h]; exact ⟨fun q => absurd q (by decide), fun q => by rw [q] at h; exact absurd h Int64.lt_irrefl⟩
  · rw [lg_2 h]; exact ⟨fun q => absurd q (by decide), fun q => by rw [q] at h; exact absurd h Int64.lt_irrefl⟩
  · rw [h, lg_3]; exact ⟨fun _ => rfl, fun _ => rfl⟩
theorem i_nlt (a b : Int32) : ¬ a < b ↔ b ≤ a := Int32.not_lt
theorem lg_le (x y : Int64) : lg_cmp x y ≤ 0 ↔ x ≤ y := by
  rw [← i_nlt, lg_g, Int64.not_lt]
theorem lg_ge (x y : Int64) : 0 ≤ lg_cmp x y ↔ y ≤ x := by
  rw [← i_nlt, lg_l, Int64.not_lt]
theorem q_within (x lo hi : Int64) : gX12_within x lo hi = some (if lo ≤ x ∧ x ≤ hi then nI 1 else nI 0) := by
  unfold gX12_within gX12_within_17 gX12_within_18
  simp only [lg_l, lg_g]
  by_cases h : x < lo
  · rw [if_pos h, if_neg (fun q => Int64.not_lt.mpr q.1 h)]; rfl
  · rw [if_neg h]
    by_cases h2 : hi < x
    · rw [if_pos h2, if_neg (fun q => Int64.not_lt.mpr q.2 h2)]; rfl
    · rw [if_neg h2, if_pos ⟨Int64.not_lt.mp h, Int64.not_lt.mp h2⟩]; rfl
theorem n_shlN {a p : Nat} (hp : p < 32) (h : a * 2 ^ p < 2 ^ 32) : nI a <<< nI (p &&& 31) = nI (a * 2 ^ p) := by
  rw [← n_and]; exact n_shl hp h
theorem n_shrN {a p : Nat} (hp : p < 32) (h : a < 2 ^ 31) : nI a >>> nI (p &&& 31) = nI (a / 2 ^ p) := by
  rw [← n_and]; exact n_shr hp h
theorem q_gapIn {s p : Nat} (hs : s < 2 ^ 31) (hp : p < 2 ^ 31) : gX12_gapIn (nI s) (nI p) = some (nI (dg s p)) := by
  unfold gX12_gapIn gX12_gapIn_4
  have h := lpw_iter (body := fun q : Int32 × Int32 => gX12_gapIn_4b (nI p) q.1 q.2) (fun k => (nI (s / 10 ^ k), nI k)) p (nI (dg s p)) ?_ ?_
  · rw [show s / 10 ^ 0 = s by simp] at h; exact h
  · intro k hk
    have h1 : s / 10 ^ k < 2 ^ 31 := Nat.lt_of_le_of_lt (Nat.div_le_self _ _) hs
    have h2 : ¬ p ≤ k := by omega
    unfold gX12_gapIn_4b
    simp (disch := omega) only [n_lit, n_of, n_o1, nI_add, pk_mul, nI_ltI, nI_leI, nI_eq, lift_lt, k_bs, k_ms, k_mb, k_bm, k_mm, n_dv, h2, if_false, Nat.div_div_eq_div_mul, ← Nat.pow_succ]
  · have h1 : s / 10 ^ p < 2 ^ 31 := Nat.lt_of_le_of_lt (Nat.div_le_self _ _) hs
    unfold gX12_gapIn_4b
    simp (disch := omega) only [n_lit, n_of, n_o1, nI_add, pk_mul, nI_ltI, nI_leI, nI_eq, lift_lt, k_bs, k_ms, k_mb, k_bm, k_mm, n_rm, Nat.le_refl, if_true]
    rfl
theorem q_dropsIn {s p : Nat} (hs : s < 2 ^ 31) (hp : p < 2 ^ 31) : gX12_dropsIn (nI s) (nI p) = some (nI (d5 s p)) := by
  unfold gX12_dropsIn gX12_dropsIn_4
  have h := lpw_iter (body := fun q : Int32 × Int32 => gX12_dropsIn_4b (nI p) q.1 q.2) (fun k => (nI (s / 5 ^ k), nI k)) p (nI (d5 s p)) ?_ ?_
  · rw [show s / 5 ^ 0 = s by simp] at h; exact h
  · intro k hk
    have h1 : s / 5 ^ k < 2 ^ 31 := Nat.lt_of_le_of_lt (Nat.div_le_self _ _) hs
    have h2 : ¬ p ≤ k := by omega
    unfold gX12_dropsIn_4b
    simp (disch := omega) only [n_lit, n_of, n_o1, nI_add, pk_mul, nI_ltI, nI_leI, nI_eq, lift_lt, k_bs, k_ms, k_mb, k_bm, k_mm, n_dv, h2, if_false, Nat.div_div_eq_div_mul, ← Nat.pow_succ]
  · have h1 : s / 5 ^ p < 2 ^ 31 := Nat.lt_of_le_of_lt (Nat.div_le_self _ _) hs
    unfold gX12_dropsIn_4b
    simp (disch := omega) only [n_lit, n_of, n_o1, nI_add, pk_mul, nI_ltI, nI_leI, nI_eq, lift_lt, k_bs, k_ms, k_mb, k_bm, k_mm, n_rm, Nat.le_refl, if_true]
    rfl
theorem q_hasFallen {s : Nat} (hs : s < 2 ^ 31) : gX12_hasFallen (nI s) = some (if 10000 ≤ s then nI 1 else nI 0) := by
  unfold gX12_hasFallen gX12_hasFallen_12
  simp (disch := omega) only [n_lit, n_of, n_o1, nI_add, pk_mul, nI_ltI, nI_leI, nI_eq, lift_lt, k_bs, k_ms, k_mb, k_bm, k_mm, n_bl0, n_bl1]
  by_cases h : s < 10000
  · rw [if_pos h, if_neg (by omega)]
  · rw [if_neg h, if_pos (by omega)]
def bct (b : Nat) : Nat → Nat
  | 0 => 0
  | k + 1 => bct b k + b / 2 ^ k % 2
theorem q_bitsOf {b : Nat} (hb : b < 2 ^ 31) : gX12_bitsOf (nI b) = some (nI (bct b 10)) := by
  unfold gX12_bitsOf gX12_bitsOf_4
  have h := lpw_iter (body := fun q : Int32 × Int32 => gX12_bitsOf_4b (nI b) q.1 q.2) (fun k => (nI (bct b k), nI k)) 10 (nI (bct b 10)) ?_ ?_
  · exact h
  · intro k hk
    have h2 : ¬ 10 ≤ k := by omega
    unfold gX12_bitsOf_4b
    simp (disch := omega) only [n_lit, n_of, n_o1, nI_add, pk_mul, nI_ltI, nI_leI, nI_eq, lift_lt, k_bs, k_ms, k_mb, k_bm, k_mm, n_shrN, n_and, h2, if_false, Nat.and_one_is_mod]
    rfl
  · unfold gX12_bitsOf_4b
    simp (disch := omega) only [n_lit, n_of, n_o1, nI_add, pk_mul, nI_ltI, nI_leI, nI_eq, lift_lt, k_bs, k_ms, k_mb, k_bm, k_mm, Nat.le_refl, if_true]
theorem bct_metb {P : Nat} (hP : P ≤ 4) (s : Nat) : bct (metb P s) 10 = mets P s := by
  have hc : P = 0 ∨ P = 1 ∨ P = 2 ∨ P = 3 ∨ P = 4 := by omega
  rcases hc with e | e | e | e | e <;> subst e <;> simp only [metb, mets] <;> (repeat' split) <;> decide
section REFROW
variable {m : Mu} {P : Nat}
theorem q_standNow {F : Nat} {f : Nat → Nat} (hP : P ≤ 4) (h1 : m.2.1 1 1 = nI P) (hF : m.2.1 1 24 = nI F) (hf : ∀ p, p < 4 → m.2.1 1 (15 + p) = nI (f p)) : gX12_standNow m = some (nI (F * 10000 + cod f P)) := by
  unfold gX12_standNow gX12_standNow_16
  simp (disch := omega) only [n_lit, n_of, n_o1, nI_add, pk_mul, lift_lt, k_bs, k_ms, k_mb, k_bm, k_mm, mA_1, hF]
  have h : lpw (fun q : Int32 × Int32 × Int32 => gX12_standNow_16b m q.1 q.2.1 q.2.2) (nI (F * 10000 + cod f 0), nI (10 ^ 0), nI 0) = some (nI (F * 10000 + cod f P)) := lpw_iter (fun k => (nI (F * 10000 + cod f k), nI (10 ^ k), nI k)) P (nI (F * 10000 + cod f P)) ?_ ?_
  · rw [show cod f 0 = 0 from rfl, Nat.add_zero, Nat.pow_zero] at h; exact h
  · intro k hk
    have h2 : ¬ P ≤ k := by omega
    unfold gX12_standNow_16b
    simp (disch := omega) only [n_lit, n_of, n_o1, nI_add, pk_mul, nI_ltI, nI_leI, nI_eq, lift_lt, k_bs, k_ms, k_mb, k_bm, k_mm, mA_1, h1, h2, if_false, hf k (by omega), ← Nat.pow_succ]
    rw [show F * 10000 + cod f (k + 1) = F * 10000 + cod f k + 10 ^ k * f k by show F * 10000 + (cod f k + f k * 10 ^ k) = _; rw [Nat.mul_comm (f k)]; omega]
  · unfold gX12_standNow_16b
    simp (disch := omega) only [n_lit, n_of, n_o1, nI_add, pk_mul, nI_ltI, nI_leI, nI_eq, lift_lt, k_bs, k_ms, k_mb, k_bm, k_mm, mA_1, h1, Nat.le_refl, if_true]
theorem q_metIn {s : Nat} (hP : P ≤ 4) (h1 : m.2.1 1 1 = nI P) (hs : s < 2 ^ 31) : gX12_metIn m (nI s) = some (nI (metb P s)) := by
  unfold gX12_metIn gX12_metIn_4
  have h := lpw_iter (body := fun q : Int32 × Int32 => gX12_metIn_4b m (nI s) q.1 q.2) (fun k => (nI (metb k s), nI k)) P (nI (metb P s)) ?_ ?_
  · exact h
  · intro k hk
    have h2 : ¬ P ≤ k := by omega
    have h3 := dg_lt s k
    have h4 : 1 * 2 ^ k < 2 ^ 32 := by
      have : 2 ^ k ≤ 2 ^ 4 := Nat.pow_le_pow_right (by decide) (by omega)
      omega
    unfold gX12_metIn_4b gX12_metIn_30
    simp (disch := omega) only [n_lit, n_of, n_o1, nI_add, pk_mul, nI_ltI, nI_leI, nI_eq, lift_lt, k_bs, k_ms, k_mb, k_bm, k_mm, mA_1, h1, h2, if_false, q_gapIn, n_or, n_and, n_shlN]
    show _ = some (Sum.inl (nI (metb k s + (if dg s k = 0 then 2 ^ k else 0)), nI (k + 1)))
    by_cases h5 : dg s k = 0
    · rw [if_pos h5, if_pos h5, Nat.or_comm, Nat.one_mul]
      have := Nat.two_pow_add_eq_or_of_lt (metb_lt k s) 1
      rw [Nat.mul_one] at this
      rw [← this, Nat.add_comm]
    · simp only [if_neg h5, Nat.or_zero, Nat.add_zero]
  · unfold gX12_metIn_4b
    simp (disch := omega) only [n_lit, n_of, n_o1, nI_add, pk_mul, nI_ltI, nI_leI, nI_eq, lift_lt, k_bs, k_ms, k_mb, k_bm, k_mm, mA_1, h1, Nat.le_refl, if_true]
theorem q_gapsIn {s : Nat} (hP : P ≤ 4) (h1 : m.2.1 1 1 = nI P) (hs : s < 2 ^ 31) : gX12_gapsIn m (nI s) = some (nI (gsum P s)) := by
  unfold gX12_gapsIn gX12_gapsIn_4
  have h := lpw_iter (body := fun q : Int32 × Int32 => gX12_gapsIn_4b m (nI s) q.1 q.2) (fun k => (nI (gsum k s), nI k)) P (nI (gsum P s)) ?_ ?_
  · exact h
  · intro k hk
    have h2 : ¬ P ≤ k := by omega
    unfold gX12_gapsIn_4b
    simp (disch := omega) only [n_lit, n_of, n_o1, nI_add, pk_mul, nI_ltI, nI_leI, nI_eq, lift_lt, k_bs, k_ms, k_mb, k_bm, k_mm, mA_1, h1, h2, if_false, q_gapIn]
    rfl
  · unfold gX12_gapsIn_4b
    simp (disch := omega) only [n_lit, n_of, n_o1, nI_add, pk_mul, nI_ltI, nI_leI, nI_eq, lift_lt, k_bs, k_ms, k_mb, k_bm, k_mm, mA_1, h1, Nat.le_refl, if_true]
theorem q_widestIn {s : Nat} (hP : P ≤ 4) (h1 : m.2.1 1 1 = nI P) (hs : s < 2 ^ 31) : gX12_widestIn m (nI s) = some (nI (gwid P s)) := by
  unfold gX12_widestIn gX12_widestIn_4
  have h := lpw_iter (body := fun q : Int32 × Int32 => gX12_widestIn_4b m (nI s) q.1 q.2) (fun k => (nI (gwid k s), nI k)) P (nI (gwid P s)) ?_ ?_
  · exact h
  · intro k hk
    have h2 : ¬ P ≤ k := by omega
    have h3 := dg_lt s k
    have h4 := gwid_le k s
    unfold gX12_widestIn_4b gX12_widestIn_32
    simp (disch := omega) only [n_lit, n_of, n_o1, nI_add, pk_mul, nI_ltI, nI_leI, nI_eq, lift_lt, k_bs, k_ms, k_mb, k_bm, k_mm, mA_1, h1, h2, if_false, q_gapIn]
    show _ = some (Sum.inl (nI (if gwid k s < dg s k then dg s k else gwid k s), nI (k + 1)))
    by_cases h5 : dg s k ≤ gwid k s
    · rw [if_pos h5, if_neg (by omega)]
    · rw [if_neg h5, if_pos (by omega)]
  · unfold gX12_widestIn_4b
    simp (disch := omega) only [n_lit, n_of, n_o1, nI_add, pk_mul, nI_ltI, nI_leI, nI_eq, lift_lt, k_bs, k_ms, k_mb, k_bm, k_mm, mA_1, h1, Nat.le_refl, if_true]
end REFROW
