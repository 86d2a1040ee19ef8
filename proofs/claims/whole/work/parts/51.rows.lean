/-! what a cave is, how it stands; the reference's rows of it -/
abbrev Cv : Type := Nat × Nat × Nat × Nat × Nat × Nat × Nat × Option (List Nat) × Option (List Nat)
def vP (v : Cv) : Nat := v.1
def vD (v : Cv) : Nat := v.2.1
def vY (v : Cv) : Nat := v.2.2.1
def vN (v : Cv) : Nat := v.2.2.2.1
def vG (v : Cv) : Nat := v.2.2.2.2.1
def vC (v : Cv) : Nat := v.2.2.2.2.2.1
def vL (v : Cv) : Nat := v.2.2.2.2.2.2.1
def vg (v : Cv) : Option (List Nat) := v.2.2.2.2.2.2.2.1
def vf (v : Cv) : Option (List Nat) := v.2.2.2.2.2.2.2.2
/-- gaps and whether it has fallen, chalk, leading, years -/
abbrev St : Type := Nat × Nat × Nat × Int32
/-- the stand behind a year -/
def Yr (v : Cv) (ch s l dry : Nat) : Nat := yr (grw (vg v) ch) (roof (vf v) (vP v)) (vP v) s l dry
def dsum : Nat → Nat → Nat
  | 0, _ => 0
  | P + 1, l => dsum P l + d5 l P
def isL (P D l : Nat) : Prop := l < 5 ^ P ∧ (0 < P → dsum P l = D)
def wV (v : Cv) : Prop := vP v ≤ 4 ∧ vD v ≤ 4 ∧ vY v ≤ 10 ∧ vN v < 2 ^ 31 ∧ vG v < 10 ^ vP v ∧ vC v < 10 ^ vP v ∧ isL (vP v) (vD v) (vL v) ∧ (∀ code, vg v = some code → tys true code [] = some [false] ∧ code.length ≤ 900) ∧ (∀ code, vf v = some code → tys false code [] = some [true] ∧ code.length ≤ 900)
def wS (v : Cv) (s : St) : Prop := s.1 < 20000 ∧ s.1 % 10000 < 10 ^ vP v ∧ s.2.1 < 10 ^ vP v ∧ isL (vP v) (vD v) s.2.2.1
def lawR (f : Nat → Int32) (law : Nat) : Option (List Nat) → Prop
  | none => f (5 + law) = nI 0
  | some code => f (5 + law) = nI 1 ∧ ∃ fr, f (7 + law) = nI fr ∧ f (9 + law) = nI code.length ∧ fr + code.length ≤ 900 ∧ ∀ k (hk : k < code.length), f (138 + fr + k) = nI code[k]
def Rv (f : Nat → Int32) (v : Cv) : Prop := f 0 = nI (vN v) ∧ f 1 = nI (vP v) ∧ f 2 = nI (vD v) ∧ f 4 = nI (vY v) ∧ (∀ p, p < 4 → f (11 + p) = nI (dg (vG v) p)) ∧ lawR f 0 (vg v) ∧ lawR f 1 (vf v)
def blk (f : Nat → Int32) (o : Nat) (s : St) : Prop := (∀ p, p < 4 → f (o + p) = nI (dg s.1 p)) ∧ (∀ p, p < 4 → f (o + (4 + p)) = nI (dg s.2.1 p)) ∧ f (o + 8) = nI s.2.2.1 ∧ f (o + 9) = nI (s.1 / 10000) ∧ f (o + 10) = s.2.2.2
theorem blk_eq {f f' : Nat → Int32} {o o' : Nat} {s : St} (h : ∀ k, k < 11 → f' (o' + k) = f (o + k)) (hb : blk f o s) : blk f' o' s :=
  ⟨fun p hp => by rw [h p (by omega)]; exact hb.1 p hp, fun p hp => by rw [h (4 + p) (by omega)]; exact hb.2.1 p hp, by rw [h 8 (by omega)]; exact hb.2.2.1, by rw [h 9 (by omega)]; exact hb.2.2.2.1, by rw [h 10 (by omega)]; exact hb.2.2.2.2⟩
theorem lawR_eq {f f' : Nat → Int32} {law : Nat} {gl : Option (List Nat)} (hlaw : law < 2) (h : ∀ k, k < 1038 → f' k = f k) (hl : lawR f law gl) : lawR f' law gl := by
  cases gl with
  | none =>
    show f' (5 + law) = nI 0
    rw [h _ (by omega)]; exact hl
  | some code =>
    obtain ⟨h5, fr, h7, h9, hin, hc⟩ := hl
    exact ⟨by rw [h _ (by omega)]; exact h5, fr, by rw [h _ (by omega)]; exact h7, by rw [h _ (by omega)]; exact h9, hin, fun k hk => by rw [h _ (by omega)]; exact hc k hk⟩
theorem Rv_eq {f f' : Nat → Int32} {v : Cv} (h : ∀ k, k < 1038 → f' k = f k) (hv : Rv f v) : Rv f' v := by
  obtain ⟨a1, a2, a3, a4, a5, a6, a7⟩ := hv
  exact ⟨by rw [h _ (by omega)]; exact a1, by rw [h _ (by omega)]; exact a2, by rw [h _ (by omega)]; exact a3, by rw [h _ (by omega)]; exact a4, fun p hp => by rw [h _ (by omega)]; exact a5 p hp, lawR_eq (by omega) h a6, lawR_eq (by omega) h a7⟩
/-- only what changes with deeds may change -/
theorem Rv_eq2 {f f' : Nat → Int32} {v : Cv} (h : ∀ k, (k < 15 ∨ 138 ≤ k) → f' k = f k) (hv : Rv f v) : Rv f' v := by
  have key : ∀ {law : Nat} {gl : Option (List Nat)}, law < 2 → lawR f law gl → lawR f' law gl := by
    intro law gl hlaw hl
    cases gl with
    | none =>
      show f' (5 + law) = nI 0
      rw [h _ (by omega)]; exact hl
    | some code =>
      obtain ⟨h5, fr, h7, h9, hin, hc⟩ := hl
      exact ⟨by rw [h _ (by omega)]; exact h5, fr, by rw [h _ (by omega)]; exact h7, by rw [h _ (by omega)]; exact h9, hin, fun k hk => by rw [h _ (by omega)]; exact hc k hk⟩
  obtain ⟨a1, a2, a3, a4, a5, a6, a7⟩ := hv
  exact ⟨by rw [h _ (by omega)]; exact a1, by rw [h _ (by omega)]; exact a2, by rw [h _ (by omega)]; exact a3, by rw [h _ (by omega)]; exact a4, fun p hp => by rw [h _ (by omega)]; exact a5 p hp, key (by omega) a6, key (by omega) a7⟩
/-! digits -/
theorem dg_s (s p : Nat) : dg (s / 10) p = dg s (p + 1) := by
  unfold dg
  rw [Nat.div_div_eq_div_mul, Nat.pow_succ, Nat.mul_comm]
theorem cod_dg : ∀ P s : Nat, cod (dg s) P = s % 10 ^ P
  | 0, s => by show 0 = s % 1; omega
  | P + 1, s => by
    show cod (dg s) P + dg s P * 10 ^ P = s % 10 ^ (P + 1)
    rw [cod_dg P s, Nat.pow_succ, Nat.mod_mul, Nat.mul_comm (dg s P)]
    rfl
theorem cod_eq {f g : Nat → Nat} : ∀ P : Nat, (∀ p, p < P → f p = g p) → cod f P = cod g P
  | 0, _ => rfl
  | P + 1, h => by
    show cod f P + f P * 10 ^ P = cod g P + g P * 10 ^ P
    rw [cod_eq P (fun p hp => h p (by omega)), h P (by omega)]
theorem dg_cod {f : Nat → Nat} (hf : ∀ p, f p < 10) : ∀ P p : Nat, p < P → dg (cod f P) p = f p
  | 0, p, hp => by omega
  | P + 1, p, hp => by
    show dg (cod f P + f P * 10 ^ P) p = f p
    by_cases e : p = P
    · subst e
      unfold dg
      rw [Nat.add_mul_div_right _ _ (Nat.pow_pos (by decide)), Nat.div_eq_of_lt (cod_lt f hf p), Nat.zero_add, Nat.mod_eq_of_lt (hf p)]
    · have h1 : p < P := by omega
      have h2 := dg_cod hf P p h1
      unfold dg at h2 ⊢
      obtain ⟨j, rfl⟩ : ∃ j, P = p + 1 + j := ⟨P - (p + 1), by omega⟩
      rw [Nat.pow_add, Nat.pow_succ, ← Nat.mul_assoc, Nat.mul_comm (f (p + 1 + j)), Nat.mul_assoc, Nat.mul_assoc, Nat.add_mul_div_left _ _ (Nat.pow_pos (by decide)), Nat.add_mul_mod_self_left]
      exact h2
theorem dg_hi {s P p : Nat} (h : s < 10 ^ P) (hp : P ≤ p) : dg s p = 0 := by
  unfold dg
  have : s < 10 ^ p := Nat.lt_of_lt_of_le h (Nat.pow_le_pow_right (by decide) hp)
  rw [Nat.div_eq_of_lt this]
theorem pow10_le {P : Nat} (h : P ≤ 4) : 10 ^ P ≤ 10000 := Nat.pow_le_pow_right (n := 10) (by decide) h
theorem pow5_le {P : Nat} (h : P ≤ 4) : 5 ^ P ≤ 625 := Nat.pow_le_pow_right (n := 5) (by decide) h
theorem pow2_le {P : Nat} (h : P ≤ 4) : 2 ^ P ≤ 16 := Nat.pow_le_pow_right (n := 2) (by decide) h
/-- digits don't see whether it has fallen -/
theorem dg_mod {s p : Nat} (hp : p < 4) : dg (s % 10000) p = dg s p := by
  unfold dg
  match p, hp with
  | 0, _ => show s % 10000 / 1 % 10 = s / 1 % 10; omega
  | 1, _ => show s % 10000 / 10 % 10 = s / 10 % 10; omega
  | 2, _ => show s % 10000 / 100 % 10 = s / 100 % 10; omega
  | 3, _ => show s % 10000 / 1000 % 10 = s / 1000 % 10; omega
theorem mets_mod {P : Nat} (hP : P ≤ 4) (s : Nat) : mets P (s % 10000) = mets P s := by
  induction P with
  | zero => rfl
  | succ P ih =>
    show mets P (s % 10000) + (if dg (s % 10000) P = 0 then 1 else 0) = mets P s + (if dg s P = 0 then 1 else 0)
    rw [ih (by omega), dg_mod (by omega)]
theorem metb_mod {P : Nat} (hP : P ≤ 4) (s : Nat) : metb P (s % 10000) = metb P s := by
  induction P with
  | zero => rfl
  | succ P ih =>
    show metb P (s % 10000) + (if dg (s % 10000) P = 0 then 2 ^ P else 0) = metb P s + (if dg s P = 0 then 2 ^ P else 0)
    rw [ih (by omega), dg_mod (by omega)]
theorem gsum_mod {P : Nat} (hP : P ≤ 4) (s : Nat) : gsum P (s % 10000) = gsum P s := by
  induction P with
  | zero => rfl
  | succ P ih =>
    show gsum P (s % 10000) + dg (s % 10000) P = gsum P s + dg s P
    rw [ih (by omega), dg_mod (by omega)]
/-- a year's stand is one -/
theorem Yr_ok {v : Cv} (hP : vP v ≤ 4) {s : Nat} (hs : s < 20000) (hm : s % 10000 < 10 ^ vP v) (ch l dry : Nat) : Yr v ch s l dry < 20000 ∧ Yr v ch s l dry % 10000 < 10 ^ vP v := by
  unfold Yr yr
  by_cases h : 10000 ≤ s
  · rw [if_pos h]; exact ⟨hs, hm⟩
  · rw [if_neg h]
    have h1 : yto (grw (vg v) ch) (vP v) s l dry < 10 ^ vP v := cod_lt _ (fun p => ygap_lt _ _ _ _ _ p) _
    have h2 := pow10_le hP
    split
    · exact ⟨by omega, by omega⟩
    · exact ⟨by omega, by omega⟩
theorem Yr_fallen {v : Cv} {s : Nat} (h : 10000 ≤ s) (ch l dry : Nat) : Yr v ch s l dry = s := if_pos h
/-! the reference: how much a pair grows, whether the roof falls, a year -/
def Ar56 (r : Nat) : Bool := decide (r = 5) || decide (r = 6)
theorem clip9 (x : Int32) (m : Mu) : (if -nI 9 ≤ x then (if x ≤ nI 9 then some (x, m) else some (nI 9, m)) else some (-nI 9, m)) = some (cl9 x, m) := by
  show (if -9 ≤ x then (if x ≤ 9 then some (x, m) else some (9, m)) else some (-9, m)) = some ((if x < -9 then -9 else if 9 < x then 9 else x), m)
  by_cases h : x < -9
  · rw [if_neg (Int32.not_le.mpr h), if_pos h]
  · rw [if_pos (Int32.not_lt.mp h), if_neg h]
    by_cases h2 : 9 < x
    · rw [if_neg (Int32.not_le.mpr h2), if_pos h2]
    · rw [if_pos (Int32.not_lt.mp h2), if_neg h2]
theorem q_growsBy {m : Mu} {gl : Option (List Nat)} {ch p drops gap met dry : Nat} (hl : lawR (m.2.1 1) 0 gl) (hty : ∀ code, gl = some code → tys true code [] = some [false]) (hd : dry < 2) :
    ∃ m1, gX12_growsBy m (nI p) (nI (dg ch p)) (nI drops) (nI gap) (nI met) (nI dry) = some (grw gl ch p drops gap met dry, m1) ∧ mfr Ar56 m m1 := by
  unfold gX12_growsBy gX12_growsBy_20 gX12_growsBy_99
  cases gl with
  | none =>
    refine ⟨m, ?_, mfr_rfl _ m⟩
    have h5 : m.2.1 1 5 = nI 0 := hl
    simp (disch := omega) only [n_lit, n_of, n_o1, nI_add, pk_mul, nI_ltI, nI_leI, nI_eq, ↓lift_lt, ↓k_mt, ↓k_mp, if_true, if_false, Bool.false_eq_true, Nat.not_lt_zero, Nat.zero_le, mA_1, h5]
    show _ = some ((if dry = 1 then 0 else nI drops), m)
    by_cases e : dry = 1
    · rw [if_pos e, if_pos e]; rfl
    · rw [if_neg e, if_neg e]
  | some code =>
    obtain ⟨h5, fr, h7, h9, hin, hc⟩ := hl
    have h5 : m.2.1 1 5 = nI 1 := h5
    have h10 : ¬ (1 = 0) := by decide
    simp (disch := omega) only [n_lit, n_of, n_o1, nI_add, pk_mul, nI_ltI, nI_leI, nI_eq, ↓lift_lt, ↓k_mt, ↓k_mp, if_true, if_false, Bool.false_eq_true, Nat.not_lt_zero, Nat.zero_le, mA_1, mW_6, h5, h10]
    obtain ⟨m7, e7⟩ : ∃ m7, m7 = mS (mS (mS (mS (mS (mS m 6 0 (nI met)) 6 1 (nI dry)) 6 2 (nI p)) 6 3 (nI (dg ch p))) 6 4 (nI drops)) 6 5 (nI gap) := ⟨_, rfl⟩
    rw [← e7]
    have r1 : m7.2.1 1 = m.2.1 1 := by rw [e7]; rfl
    have r6 : ∀ j, okw true j = true → m7.2.1 6 j = wG p (dg ch p) drops gap met dry j := by
      intro j hj
      have hj : j < 6 := by
        unfold okw at hj
        rw [if_pos rfl] at hj
        exact of_decide_eq_true hj
      rw [e7]
      match j, hj with
      | 0, _ => rfl
      | 1, _ => rfl
      | 2, _ => rfl
      | 3, _ => rfl
      | 4, _ => rfl
      | 5, _ => rfl
    have f7 : mfr Ar56 m m7 := by
      rw [e7]
      exact mfr_S (mfr_S (mfr_S (mfr_S (mfr_S (mfr_S (mfr_rfl _ m) rfl) rfl) rfl) rfl) rfl) rfl
    obtain ⟨m8, e8, f8⟩ := q_reckons (m := m7) (law := 0) (fr := fr) (code := code) (w := wG p (dg ch p) drops gap met dry) (g := true) (b := false) (by decide) (by rw [r1]; exact h9) (by rw [r1]; exact h7) hin (fun k hk => by rw [r1]; exact hc k hk) r6 (hty code rfl)
    rw [e8]
    refine ⟨m8, ?_, mfr_tr f7 (mfr_le f8 (fun r hr => ?_))⟩
    · exact clip9 _ m8
    · unfold Ar56 at hr; unfold Ar5
      simp only [Bool.or_eq_false_iff] at hr
      exact hr.1
theorem q_fallsBy {m : Mu} {fl : Option (List Nat)} {P s dry : Nat} (hP : P ≤ 4) (h1 : m.2.1 1 1 = nI P) (hs : s < 20000) (hl : lawR (m.2.1 1) 1 fl) (hty : ∀ code, fl = some code → tys false code [] = some [true]) :
    ∃ m1, gX12_fallsBy m (nI s) (nI dry) = some (if roof fl P s dry = true then nI 1 else nI 0, m1) ∧ mfr Ar56 m m1 := by
  unfold gX12_fallsBy gX12_fallsBy_71
  cases fl with
  | none =>
    refine ⟨m, ?_, mfr_rfl _ m⟩
    have h5 : m.2.1 1 6 = nI 0 := hl
    simp (disch := omega) only [n_lit, n_of, n_o1, nI_add, pk_mul, nI_ltI, nI_leI, nI_eq, ↓lift_lt, ↓k_mt, ↓k_mp, if_true, if_false, Bool.false_eq_true, Nat.not_lt_zero, Nat.zero_le, mA_1, h5]
    rfl
  | some code =>
    obtain ⟨h5, fr, h7, h9, hin, hc⟩ := hl
    have h5 : m.2.1 1 6 = nI 1 := h5
    have h10 : ¬ (1 = 0) := by decide
    have hb := metb_lt P s
    have hp2 := pow2_le hP
    simp (disch := omega) only [n_lit, n_of, n_o1, nI_add, pk_mul, nI_ltI, nI_leI, nI_eq, ↓lift_lt, ↓k_mt, ↓k_mp, if_true, if_false, Bool.false_eq_true, Nat.not_lt_zero, Nat.zero_le, mA_1, mW_6, h5, h10, q_metIn hP h1 (show s < 2 ^ 31 by omega), q_bitsOf, bct_metb hP]
    rw [q_gapsIn (m := mS (mS m 6 0 (nI (mets P s))) 6 1 (nI dry)) hP h1 (show s < 2 ^ 31 by omega)]
    simp (disch := omega) only [n_lit, n_of, n_o1, nI_add, pk_mul, nI_ltI, nI_leI, nI_eq, ↓lift_lt, ↓k_mt, ↓k_mp, if_true, if_false, Bool.false_eq_true, Nat.not_lt_zero, Nat.zero_le, mA_1, mW_6]
    rw [q_widestIn (m := mS (mS (mS m 6 0 (nI (mets P s))) 6 1 (nI dry)) 6 6 (nI (gsum P s))) hP h1 (show s < 2 ^ 31 by omega)]
    simp (disch := omega) only [n_lit, n_of, n_o1, nI_add, pk_mul, nI_ltI, nI_leI, nI_eq, ↓lift_lt, ↓k_mt, ↓k_mp, if_true, if_false, Bool.false_eq_true, Nat.not_lt_zero, Nat.zero_le, mA_1, mW_6]
    obtain ⟨m7, e7⟩ : ∃ m7, m7 = mS (mS (mS (mS m 6 0 (nI (mets P s))) 6 1 (nI dry)) 6 6 (nI (gsum P s))) 6 7 (nI (gwid P s)) := ⟨_, rfl⟩
    rw [← e7]
    have r1 : m7.2.1 1 = m.2.1 1 := by rw [e7]; rfl
    have r6 : ∀ j, okw false j = true → m7.2.1 6 j = wF (mets P s) dry (gsum P s) (gwid P s) j := by
      intro j hj
      have hj : j < 2 ∨ j = 6 ∨ j = 7 := by
        unfold okw at hj
        simp at hj
        omega
      rw [e7]
      rcases hj with hj | hj | hj
      · match j, hj with
        | 0, _ => rfl
        | 1, _ => rfl
      · subst hj; rfl
      · subst hj; rfl
    have f7 : mfr Ar56 m m7 := by
      rw [e7]
      exact mfr_S (mfr_S (mfr_S (mfr_S (mfr_rfl _ m) rfl) rfl) rfl) rfl
    obtain ⟨m8, e8, f8⟩ := q_reckons (m := m7) (law := 1) (fr := fr) (code := code) (w := wF (mets P s) dry (gsum P s) (gwid P s)) (g := false) (b := true) (by decide) (by rw [r1]; exact h9) (by rw [r1]; exact h7) hin (fun k hk => by rw [r1]; exact hc k hk) r6 (hty code rfl)
    rw [e8]
    refine ⟨m8, ?_, mfr_tr f7 (mfr_le f8 (fun r hr => ?_))⟩
    · show (if lawv _ code = nI 1 then bl (nI 1) (some (nI 1, m8)) else bl (nI 0) (some (nI 0, m8))) = some ((if decide (lawv _ code = 1) = true then nI 1 else nI 0), m8)
      rw [n_bl0, n_bl1]
      by_cases hh : lawv (wF (mets P s) dry (gsum P s) (gwid P s)) code = nI 1
      · rw [if_pos hh]
        exact (congrArg (fun z => some (z, m8)) (if_pos (decide_eq_true hh))).symm
      · rw [if_neg hh]
        exact (congrArg (fun z => some (z, m8)) (if_neg (fun q => hh (of_decide_eq_true q)))).symm
    · unfold Ar56 at hr; unfold Ar5
      simp only [Bool.or_eq_false_iff] at hr
      exact hr.1
theorem ref_kept (x : Int32) {α : Type} (A : Int32 → Option α) : (if nI 0 ≤ x then (if x ≤ nI 9 then A x else A (nI 9)) else A (nI 0)) = A (nI (kN x)) := by
  rw [← (kp_n x).1]
  show (if 0 ≤ x then (if x ≤ 9 then A x else A 9) else A 0) = A (if x < 0 then 0 else if 9 < x then 9 else x)
  by_cases h : x < 0
  · rw [if_neg (Int32.not_le.mpr h), if_pos h]
  · rw [if_pos (Int32.not_lt.mp h), if_neg h]
    by_cases h2 : 9 < x
    · rw [if_neg (Int32.not_le.mpr h2), if_pos h2]
    · rw [if_pos (Int32.not_lt.mp h2), if_neg h2]
theorem kN_0 : kN (nI 0) = 0 := by decide
section REFYEAR
variable {m : Mu} {v : Cv} {ch : Nat}
theorem q_yearTo {s l dry : Nat} (hW : wV v) (hR : Rv (m.2.1 1) v) (hch : ∀ p, p < 4 → m.2.1 1 (19 + p) = nI (dg ch p)) (hs : s < 20000) (hl : l < 2 ^ 31) (hd : dry < 2) :
    ∃ m1, gX12_yearTo m (nI s) (nI l) (nI dry) = some (nI (Yr v ch s l dry), m1) ∧ mfr Ar56 m m1 := by
  obtain ⟨hP, -, -, -, -, -, -, hg, hf⟩ := hW
  obtain ⟨-, r1, -, -, -, rg, rf⟩ := hR
  have hb := metb_lt (vP v) s
  have hp2 := pow2_le hP
  unfold gX12_yearTo
  by_cases hF : 10000 ≤ s
  · refine ⟨m, ?_, mfr_rfl _ m⟩
    have h10 : ¬ (1 = 0) := by decide
    simp (disch := omega) only [n_lit, n_of, n_o1, nI_add, pk_mul, nI_ltI, nI_leI, nI_eq, ↓lift_lt, ↓k_mt, ↓k_mp, if_true, if_false, Bool.false_eq_true, Nat.not_lt_zero, Nat.zero_le, q_hasFallen, hF, h10]
    rw [Yr_fallen hF]
  · simp (disch := omega) only [n_lit, n_of, n_o1, nI_add, pk_mul, nI_ltI, nI_leI, nI_eq, ↓lift_lt, ↓k_mt, ↓k_mp, if_true, if_false, Bool.false_eq_true, Nat.not_lt_zero, Nat.zero_le, q_hasFallen, hF, q_metIn hP r1 (show s < 2 ^ 31 by omega), q_bitsOf, bct_metb hP]
    unfold gX12_yearTo_28
    have H := lpw_all (body := fun q : Int32 × Int32 × Int32 × Mu => gX12_yearTo_28b q.2.2.2 (nI s) (nI l) (nI dry) (nI (mets (vP v) s)) q.1 q.2.1 q.2.2.1)
      (fun k q => q.1 = nI (cod (ygap (grw (vg v) ch) (vP v) s l dry) k) ∧ q.2.1 = nI (10 ^ k) ∧ q.2.2.1 = nI k ∧ mfr Ar56 m q.2.2.2)
      (fun r => r.1 = nI (Yr v ch s l dry) ∧ mfr Ar56 m r.2) (vP v) ?_ ?_ (nI 0, nI 1, nI 0, m) ⟨rfl, rfl, rfl, mfr_rfl _ m⟩
    · obtain ⟨r, e, h1, h2⟩ := H
      exact ⟨r.2, by rw [← h1]; exact e, h2⟩
    · intro k q hk ⟨e1, e2, e3, hfr⟩
      have R1 : q.2.2.2.2.1 1 = m.2.1 1 := hfr.2.2 1 rfl
      have h1 : q.2.2.2.2.1 1 1 = nI (vP v) := by rw [R1]; exact r1
      have h2 : ¬ vP v ≤ k := by omega
      have h19 : q.2.2.2.2.1 1 (19 + k) = nI (dg ch k) := by rw [R1]; exact hch k (by omega)
      have hdg := dg_lt s k
      have h5 := d5_lt l k
      show ∃ s', gX12_yearTo_28b q.2.2.2 (nI s) (nI l) (nI dry) (nI (mets (vP v) s)) q.1 q.2.1 q.2.2.1 = some (.inl s') ∧ _
      rw [e1, e2, e3]
      unfold gX12_yearTo_28b gX12_yearTo_86 gX12_yearTo_115
      have key : ∀ (x : Int32) (m' : Mu), mfr Ar56 m m' → kN x = ygap (grw (vg v) ch) (vP v) s l dry k → ∃ s', (if nI 0 ≤ x then (if x ≤ nI 9 then (some (Sum.inl (nI (cod (ygap (grw (vg v) ch) (vP v) s l dry) k) + nI (10 ^ k) * x, nI (10 ^ k * 10), nI (k + 1), m')) : Option ((Int32 × Int32 × Int32 × Mu) ⊕ (Int32 × Mu))) else some (Sum.inl (nI (cod (ygap (grw (vg v) ch) (vP v) s l dry) k) + nI (10 ^ k) * nI 9, nI (10 ^ k * 10), nI (k + 1), m'))) else some (Sum.inl (nI (cod (ygap (grw (vg v) ch) (vP v) s l dry) k) + nI (10 ^ k) * nI 0, nI (10 ^ k * 10), nI (k + 1), m'))) = some (.inl s') ∧ s'.1 = nI (cod (ygap (grw (vg v) ch) (vP v) s l dry) (k + 1)) ∧ s'.2.1 = nI (10 ^ (k + 1)) ∧ s'.2.2.1 = nI (k + 1) ∧ mfr Ar56 m s'.2.2.2 := by
        intro x m' hm' hx
        rw [ref_kept x (fun z => some (Sum.inl (nI (cod (ygap (grw (vg v) ch) (vP v) s l dry) k) + nI (10 ^ k) * z, nI (10 ^ k * 10), nI (k + 1), m')))]
        refine ⟨_, rfl, ?_, ?_, rfl, hm'⟩
        · show nI _ + nI _ * nI _ = nI (cod (ygap (grw (vg v) ch) (vP v) s l dry) k + ygap (grw (vg v) ch) (vP v) s l dry k * 10 ^ k)
          rw [pk_mul, nI_add, hx, Nat.mul_comm]
        · rw [Nat.pow_succ]
      by_cases h0 : dg s k = 0
      · simp (disch := omega) only [n_lit, n_of, n_o1, nI_add, pk_mul, nI_ltI, nI_leI, nI_eq, ↓lift_lt, ↓k_mt, ↓k_mp, if_true, if_false, Bool.false_eq_true, Nat.not_lt_zero, Nat.zero_le, mA_1, h1, h2, q_gapIn, h0]
        have K := key (nI 0) q.2.2.2 hfr (by rw [kN_0]; unfold ygap; rw [if_pos h0])
        simp only [pk_mul, nI_add] at K
        simp (disch := omega) only [nI_leI] at K ⊢
        exact K
      · obtain ⟨m1, em1, fm1⟩ := q_growsBy (m := q.2.2.2) (gl := vg v) (ch := ch) (p := k) (drops := d5 l k) (gap := dg s k) (met := mets (vP v) s) (dry := dry) (by rw [R1]; exact rg) (fun code hc => (hg code hc).1) hd
        simp (disch := omega) only [n_lit, n_of, n_o1, nI_add, pk_mul, nI_ltI, nI_leI, nI_eq, ↓lift_lt, ↓k_mt, ↓k_mp, if_true, if_false, Bool.false_eq_true, Nat.not_lt_zero, Nat.zero_le, mA_1, h1, h2, q_gapIn, h0, h19, q_dropsIn, em1]
        have K := key (nI (dg s k) - grw (vg v) ch k (d5 l k) (dg s k) (mets (vP v) s) dry) m1 (mfr_tr hfr fm1) (by unfold ygap; rw [if_neg h0])
        simp only [pk_mul, nI_add] at K
        exact K
    · intro q ⟨e1, e2, e3, hfr⟩
      have R1 : q.2.2.2.2.1 1 = m.2.1 1 := hfr.2.2 1 rfl
      have h1 : q.2.2.2.2.1 1 1 = nI (vP v) := by rw [R1]; exact r1
      have hY : cod (ygap (grw (vg v) ch) (vP v) s l dry) (vP v) = yto (grw (vg v) ch) (vP v) s l dry := rfl
      have hlt : yto (grw (vg v) ch) (vP v) s l dry < 10 ^ vP v := cod_lt _ (fun p => ygap_lt _ _ _ _ _ p) _
      have hp10 := pow10_le hP
      obtain ⟨m1, em1, fm1⟩ := q_fallsBy (m := q.2.2.2) (fl := vf v) (P := vP v) (s := yto (grw (vg v) ch) (vP v) s l dry) (dry := dry) hP h1 (by omega) (by rw [R1]; exact rf) (fun code hc => (hf code hc).1)
      show ∃ r, gX12_yearTo_28b q.2.2.2 (nI s) (nI l) (nI dry) (nI (mets (vP v) s)) q.1 q.2.1 q.2.2.1 = some (.inr r) ∧ _
      rw [e1, e2, e3, hY]
      unfold gX12_yearTo_28b gX12_yearTo_132 gX12_yearTo_153
      have h10 : ¬ (1 = 0) := by decide
      by_cases hr : roof (vf v) (vP v) (yto (grw (vg v) ch) (vP v) s l dry) dry = true
      · rw [if_pos hr] at em1
        simp (disch := omega) only [n_lit, n_of, n_o1, nI_add, pk_mul, nI_ltI, nI_leI, nI_eq, ↓lift_lt, ↓k_mt, ↓k_mp, if_true, if_false, Bool.false_eq_true, Nat.not_lt_zero, Nat.zero_le, mA_1, h1, Nat.le_refl, em1, h10]
        refine ⟨_, rfl, ?_, mfr_tr hfr fm1⟩
        unfold Yr yr
        rw [if_neg hF, if_pos hr]
      · rw [if_neg hr] at em1
        simp (disch := omega) only [n_lit, n_of, n_o1, nI_add, pk_mul, nI_ltI, nI_leI, nI_eq, ↓lift_lt, ↓k_mt, ↓k_mp, if_true, if_false, Bool.false_eq_true, Nat.not_lt_zero, Nat.zero_le, mA_1, h1, Nat.le_refl, em1]
        refine ⟨_, rfl, ?_, mfr_tr hfr fm1⟩
        unfold Yr yr
        rw [if_neg hF, if_neg hr]
end REFYEAR
