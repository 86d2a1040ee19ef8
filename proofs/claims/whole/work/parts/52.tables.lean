/-! the reference: its tables of growth and of the roof, a year by them -/
def gix (dry p drops gap met : Nat) : Nat := (((dry * 4 + p) * 5 + drops) * 10 + gap) * 5 + met
def fox (dry met gaps wid : Nat) : Nat := ((dry * 5 + met) * 37 + gaps) * 10 + wid
def roofq (fl : Option (List Nat)) (met dry gaps wid : Nat) : Bool := match fl with
  | none => false
  | some code => decide (lawv (wF met dry gaps wid) code = 1)
theorem roof_q (fl : Option (List Nat)) (P s dry : Nat) : roof fl P s dry = roofq fl (mets P s) dry (gsum P s) (gwid P s) := by
  cases fl <;> rfl
def Ar58 (r : Nat) : Bool := decide (r = 5) || decide (r = 6) || decide (r = 7) || decide (r = 8)
theorem Ar58_5 {r : Nat} (h : Ar58 r = false) : Ar56 r = false := by
  unfold Ar58 at h
  unfold Ar56
  simp only [Bool.or_eq_false_iff] at h ⊢
  exact h.1.1
def TB (v : Cv) (ch : Nat) (m0 m : Mu) (QG : Nat → Nat → Nat → Nat → Nat → Prop) (QF : Nat → Nat → Nat → Nat → Prop) : Prop :=
  mfr Ar58 m0 m ∧ (∀ d t p r g, d < 2 → t < 5 → p < vP v → r < 5 → 0 < g → g < 10 → QG d t p r g → m.2.1 7 (gix d p r g t) = grw (vg v) ch p r g t d)
    ∧ (∀ d t s w, d < 2 → t < 5 → s < 37 → w < 10 → QF d t s w → m.2.1 8 (fox d t s w) = if roofq (vf v) t d s w = true then nI 1 else nI 0)
theorem TB_le {v : Cv} {ch : Nat} {m0 m : Mu} {QG QG' : Nat → Nat → Nat → Nat → Nat → Prop} {QF QF' : Nat → Nat → Nat → Nat → Prop} (h : TB v ch m0 m QG QF) (h1 : ∀ d t p r g, d < 2 → t < 5 → p < vP v → r < 5 → 0 < g → g < 10 → QG' d t p r g → QG d t p r g) (h2 : ∀ d t s w, d < 2 → t < 5 → s < 37 → w < 10 → QF' d t s w → QF d t s w) : TB v ch m0 m QG' QF' :=
  ⟨h.1, fun d t p r g a1 a2 a3 a4 a5 a6 q => h.2.1 d t p r g a1 a2 a3 a4 a5 a6 (h1 d t p r g a1 a2 a3 a4 a5 a6 q), fun d t s w a1 a2 a3 a4 q => h.2.2 d t s w a1 a2 a3 a4 (h2 d t s w a1 a2 a3 a4 q)⟩
theorem TB_fr {v : Cv} {ch : Nat} {m0 m m' : Mu} {QG : Nat → Nat → Nat → Nat → Nat → Prop} {QF : Nat → Nat → Nat → Nat → Prop} (h : TB v ch m0 m QG QF) (hf : mfr Ar56 m m') : TB v ch m0 m' QG QF := by
  have e7 : m'.2.1 7 = m.2.1 7 := hf.2.2 7 rfl
  have e8 : m'.2.1 8 = m.2.1 8 := hf.2.2 8 rfl
  exact ⟨mfr_tr h.1 (mfr_le hf (fun r hr => Ar58_5 hr)), by rw [e7]; exact h.2.1, by rw [e8]; exact h.2.2⟩
theorem gix_inj {d p r g t d' p' r' g' t' : Nat} (hp : p < 4) (hr : r < 5) (hg : g < 10) (ht : t < 5) (hp' : p' < 4) (hr' : r' < 5) (hg' : g' < 10) (ht' : t' < 5) (h : gix d p r g t = gix d' p' r' g' t') : d = d' ∧ p = p' ∧ r = r' ∧ g = g' ∧ t = t' := by
  unfold gix at h
  have e1 : t = t' := by omega
  have h2 : ((d * 4 + p) * 5 + r) * 10 + g = ((d' * 4 + p') * 5 + r') * 10 + g' := by omega
  have e2 : g = g' := by omega
  have h3 : (d * 4 + p) * 5 + r = (d' * 4 + p') * 5 + r' := by omega
  have e3 : r = r' := by omega
  exact ⟨by omega, by omega, e3, e2, e1⟩
theorem fox_inj {d t s w d' t' s' w' : Nat} (ht : t < 5) (hs : s < 37) (hw : w < 10) (ht' : t' < 5) (hs' : s' < 37) (hw' : w' < 10) (h : fox d t s w = fox d' t' s' w') : d = d' ∧ t = t' ∧ s = s' ∧ w = w' := by
  unfold fox at h
  have e1 : w = w' := by omega
  have h2 : (d * 5 + t) * 37 + s = (d' * 5 + t') * 37 + s' := by omega
  have e2 : s = s' := by omega
  exact ⟨by omega, by omega, e2, e1⟩
theorem TB_7 {v : Cv} {ch : Nat} {m0 m : Mu} {QG : Nat → Nat → Nat → Nat → Nat → Prop} {QF : Nat → Nat → Nat → Nat → Prop} (hP : vP v ≤ 4) (h : TB v ch m0 m QG QF) {d t p r g : Nat} (hp : p < 4) (hr : r < 5) (hg : g < 10) (ht : t < 5) : TB v ch m0 (mS m 7 (gix d p r g t) (grw (vg v) ch p r g t d)) (fun d' t' p' r' g' => QG d' t' p' r' g' ∨ (d' = d ∧ t' = t ∧ p' = p ∧ r' = r ∧ g' = g)) QF := by
  refine ⟨mfr_S h.1 rfl, fun d' t' p' r' g' a1 a2 a3 a4 a5 a6 q => ?_, fun d' t' s w a1 a2 a3 a4 q => ?_⟩
  · rw [mS_a, if_pos rfl]
    by_cases e : gix d' p' r' g' t' = gix d p r g t
    · rw [if_pos e]
      obtain ⟨q1, q2, q3, q4, q5⟩ := gix_inj (by omega) a4 a6 a2 hp hr hg ht e
      rw [q1, q2, q3, q4, q5]
    · rw [if_neg e]
      refine h.2.1 d' t' p' r' g' a1 a2 a3 a4 a5 a6 (q.resolve_right fun z => e ?_)
      rw [z.1, z.2.1, z.2.2.1, z.2.2.2.1, z.2.2.2.2]
  · rw [mS_a, if_neg (by decide)]
    exact h.2.2 d' t' s w a1 a2 a3 a4 q
theorem TB_8 {v : Cv} {ch : Nat} {m0 m : Mu} {QG : Nat → Nat → Nat → Nat → Nat → Prop} {QF : Nat → Nat → Nat → Nat → Prop} (h : TB v ch m0 m QG QF) {d t s w : Nat} (ht : t < 5) (hs : s < 37) (hw : w < 10) {x : Int32} (hx : x = if roofq (vf v) t d s w = true then nI 1 else nI 0) : TB v ch m0 (mS m 8 (fox d t s w) x) QG (fun d' t' s' w' => QF d' t' s' w' ∨ (d' = d ∧ t' = t ∧ s' = s ∧ w' = w)) := by
  refine ⟨mfr_S h.1 rfl, fun d' t' p' r' g' a1 a2 a3 a4 a5 a6 q => ?_, fun d' t' s' w' a1 a2 a3 a4 q => ?_⟩
  · rw [mS_a, if_neg (by decide)]
    exact h.2.1 d' t' p' r' g' a1 a2 a3 a4 a5 a6 q
  · rw [mS_a, if_pos rfl]
    by_cases e : fox d' t' s' w' = fox d t s w
    · rw [if_pos e, hx]
      obtain ⟨q1, q2, q3, q4⟩ := fox_inj a2 a3 a4 ht hs hw e
      rw [q1, q2, q3, q4]
    · rw [if_neg e]
      refine h.2.2 d' t' s' w' a1 a2 a3 a4 (q.resolve_right fun z => e ?_)
      rw [z.1, z.2.1, z.2.2.1, z.2.2.2]
section REFTAB
variable {m0 : Mu} {v : Cv} {ch : Nat} {QG : Nat → Nat → Nat → Nat → Nat → Prop} {QF : Nat → Nat → Nat → Nat → Prop}
theorem lt38 {m : Mu} {dry met p drops : Nat} (hW : wV v) (hR : Rv (m0.2.1 1) v) (hch : ∀ p, p < 4 → m0.2.1 1 (19 + p) = nI (dg ch p)) (hd : dry < 2) (hm : met < 5) (hp : p < vP v) (hr : drops < 5) (h : TB v ch m0 m QG QF) :
    ∃ m', gX12_laysTables_38 m (nI dry) (nI met) (nI p) (nI drops) (nI 1) = some (.inl (nI (drops + 1), m')) ∧ TB v ch m0 m' (fun d t p' r g => QG d t p' r g ∨ (d = dry ∧ t = met ∧ p' = p ∧ r = drops)) QF := by
  obtain ⟨hP, -, -, -, -, -, -, hg, hf⟩ := hW
  obtain ⟨-, r1, -, -, -, rg, rf⟩ := hR
  unfold gX12_laysTables_38
  have H := lpw_all (body := fun q : Int32 × Mu => gX12_laysTables_38b q.2 (nI dry) (nI met) (nI p) (nI drops) q.1)
    (fun k q => q.1 = nI (k + 1) ∧ TB v ch m0 q.2 (fun d t p' r g => QG d t p' r g ∨ (d = dry ∧ t = met ∧ p' = p ∧ r = drops ∧ g < k + 1)) QF)
    (fun r => ∃ m', r = .inl (nI (drops + 1), m') ∧ TB v ch m0 m' (fun d t p' r g => QG d t p' r g ∨ (d = dry ∧ t = met ∧ p' = p ∧ r = drops)) QF) 9 ?_ ?_ (nI 1, m) ⟨rfl, TB_le h (fun d t p r g _ _ _ _ a5 _ q => q.resolve_right (by omega)) (fun _ _ _ _ _ _ _ _ q => q)⟩
  · obtain ⟨r, e, m', e1, h1⟩ := H
    exact ⟨m', by rw [e, e1], h1⟩
  · intro k q hk ⟨e1, hT⟩
    have R1 : q.2.2.1 1 = m0.2.1 1 := hT.1.2.2 1 rfl
    have h19 : q.2.2.1 1 (19 + p) = nI (dg ch p) := by rw [R1]; exact hch p (by omega)
    have h9 : ¬ 9 < k + 1 := by omega
    obtain ⟨m1, em1, fm1⟩ := q_growsBy (m := q.2) (gl := vg v) (ch := ch) (p := p) (drops := drops) (gap := k + 1) (met := met) (dry := dry) (by rw [R1]; exact rg) (fun code hc => (hg code hc).1) hd
    show ∃ s', gX12_laysTables_38b q.2 (nI dry) (nI met) (nI p) (nI drops) q.1 = some (.inl s') ∧ _
    rw [e1]
    unfold gX12_laysTables_38b gX12_growOf
    have hix : (((dry * 4 + p) * 5 + drops) * 10 + (k + 1)) * 5 + met < 2000 := by omega
    simp (disch := omega) only [n_lit, n_of, n_o1, nI_add, pk_mul, nI_ltI, nI_leI, nI_eq, ↓lift_lt, ↓k_mt, ↓k_mp, if_true, if_false, Bool.false_eq_true, Nat.not_lt_zero, Nat.zero_le, mA_1, h9, h19, em1, mW_7]
    refine ⟨_, rfl, rfl, TB_le (TB_7 (d := dry) (t := met) (p := p) (r := drops) (g := k + 1) hP (TB_fr hT fm1) (by omega) hr (by omega) hm) (fun d t p' r g _ _ _ _ _ _ z => ?_) (fun _ _ _ _ _ _ _ _ z => z)⟩
    rcases z with z | ⟨z1, z2, z3, z4, z5⟩
    · exact Or.inl (Or.inl z)
    · by_cases e : g = k + 1
      · exact Or.inr ⟨z1, z2, z3, z4, e⟩
      · exact Or.inl (Or.inr ⟨z1, z2, z3, z4, by omega⟩)
  · intro q ⟨e1, hT⟩
    show ∃ r, gX12_laysTables_38b q.2 (nI dry) (nI met) (nI p) (nI drops) q.1 = some (.inr r) ∧ _
    rw [e1]
    unfold gX12_laysTables_38b gX12_laysTables_86
    have h9 : 9 < 9 + 1 := by decide
    simp (disch := omega) only [n_lit, n_of, n_o1, nI_add, pk_mul, nI_ltI, nI_leI, nI_eq, ↓lift_lt, ↓k_mt, ↓k_mp, if_true, if_false, Bool.false_eq_true, Nat.not_lt_zero, Nat.zero_le, h9]
    exact ⟨_, rfl, q.2, rfl, TB_le hT (fun d t p' r g _ _ _ _ _ a6 z => z.imp id fun z => ⟨z.1, z.2.1, z.2.2.1, z.2.2.2, by omega⟩) (fun _ _ _ _ _ _ _ _ z => z)⟩
theorem lt29 {m : Mu} {dry met p : Nat} (hW : wV v) (hR : Rv (m0.2.1 1) v) (hch : ∀ p, p < 4 → m0.2.1 1 (19 + p) = nI (dg ch p)) (hd : dry < 2) (hm : met < 5) (hp : p < vP v) (h : TB v ch m0 m QG QF) :
    ∃ m', gX12_laysTables_29 m (nI dry) (nI met) (nI p) (nI 0) = some (.inl (nI (p + 1), m')) ∧ TB v ch m0 m' (fun d t p' r g => QG d t p' r g ∨ (d = dry ∧ t = met ∧ p' = p)) QF := by
  unfold gX12_laysTables_29
  have H := lpw_all (body := fun q : Int32 × Mu => gX12_laysTables_29b q.2 (nI dry) (nI met) (nI p) q.1)
    (fun k q => q.1 = nI k ∧ TB v ch m0 q.2 (fun d t p' r g => QG d t p' r g ∨ (d = dry ∧ t = met ∧ p' = p ∧ r < k)) QF)
    (fun r => ∃ m', r = .inl (nI (p + 1), m') ∧ TB v ch m0 m' (fun d t p' r g => QG d t p' r g ∨ (d = dry ∧ t = met ∧ p' = p)) QF) 5 ?_ ?_ (nI 0, m) ⟨rfl, TB_le h (fun d t p r g _ _ _ _ a5 _ q => q.resolve_right (by omega)) (fun _ _ _ _ _ _ _ _ q => q)⟩
  · obtain ⟨r, e, m', e1, h1⟩ := H
    exact ⟨m', by rw [e, e1], h1⟩
  · intro k q hk ⟨e1, hT⟩
    have h9 : ¬ 4 < k := by omega
    obtain ⟨m1, em1, fm1⟩ := lt38 (m := q.2) (drops := k) hW hR hch hd hm hp hk hT
    show ∃ s', gX12_laysTables_29b q.2 (nI dry) (nI met) (nI p) q.1 = some (.inl s') ∧ _
    rw [e1]
    unfold gX12_laysTables_29b
    simp (disch := omega) only [n_lit, n_of, n_o1, nI_add, pk_mul, nI_ltI, nI_leI, nI_eq, ↓lift_lt, ↓k_mt, ↓k_mp, if_true, if_false, Bool.false_eq_true, Nat.not_lt_zero, Nat.zero_le, h9, em1]
    refine ⟨_, rfl, rfl, TB_le fm1 (fun d t p' r g _ _ _ _ _ _ z => ?_) (fun _ _ _ _ _ _ _ _ z => z)⟩
    rcases z with z | ⟨z1, z2, z3, z4⟩
    · exact Or.inl (Or.inl z)
    · by_cases e : r = k
      · exact Or.inr ⟨z1, z2, z3, e⟩
      · exact Or.inl (Or.inr ⟨z1, z2, z3, by omega⟩)
  · intro q ⟨e1, hT⟩
    show ∃ r, gX12_laysTables_29b q.2 (nI dry) (nI met) (nI p) q.1 = some (.inr r) ∧ _
    rw [e1]
    unfold gX12_laysTables_29b gX12_laysTables_92
    have h9 : 4 < 5 := by decide
    simp (disch := omega) only [n_lit, n_of, n_o1, nI_add, pk_mul, nI_ltI, nI_leI, nI_eq, ↓lift_lt, ↓k_mt, ↓k_mp, if_true, if_false, Bool.false_eq_true, Nat.not_lt_zero, Nat.zero_le, h9]
    exact ⟨_, rfl, q.2, rfl, TB_le hT (fun d t p' r g _ _ _ a4 _ _ z => z.imp id fun z => ⟨z.1, z.2.1, z.2.2, by omega⟩) (fun _ _ _ _ _ _ _ _ z => z)⟩
theorem lt109 {m : Mu} {dry met gaps : Nat} (hW : wV v) (hR : Rv (m0.2.1 1) v) (hd : dry < 2) (hm : met < 5) (hs : gaps < 37) (h : TB v ch m0 m QG QF) :
    ∃ m', gX12_laysTables_109 m (nI dry) (nI met) (nI gaps) (nI 0) = some (.inl (nI (gaps + 1), m')) ∧ TB v ch m0 m' QG (fun d t s w => QF d t s w ∨ (d = dry ∧ t = met ∧ s = gaps)) := by
  obtain ⟨hP, -, -, -, -, -, -, hg, hf⟩ := hW
  obtain ⟨-, r1, -, -, -, rg, rf⟩ := hR
  unfold gX12_laysTables_109
  have H := lpw_all (body := fun q : Int32 × Mu => gX12_laysTables_109b q.2 (nI dry) (nI met) (nI gaps) q.1)
    (fun k q => q.1 = nI k ∧ TB v ch m0 q.2 QG (fun d t s w => QF d t s w ∨ (d = dry ∧ t = met ∧ s = gaps ∧ w < k)))
    (fun r => ∃ m', r = .inl (nI (gaps + 1), m') ∧ TB v ch m0 m' QG (fun d t s w => QF d t s w ∨ (d = dry ∧ t = met ∧ s = gaps))) 10 ?_ ?_ (nI 0, m) ⟨rfl, TB_le h (fun _ _ _ _ _ _ _ _ _ _ _ q => q) (fun d t s w _ _ _ _ q => q.resolve_right (by omega))⟩
  · obtain ⟨r, e, m', e1, h1⟩ := H
    exact ⟨m', by rw [e, e1], h1⟩
  · intro k q hk ⟨e1, hT⟩
    have R1 : q.2.2.1 1 = m0.2.1 1 := hT.1.2.2 1 rfl
    have h9 : ¬ 9 < k := by omega
    have hix : ((dry * 5 + met) * 37 + gaps) * 10 + k < 3700 := by omega
    have fin : ∀ (x : Int32) (m1 : Mu), mfr Ar56 q.2 m1 → x = (if roofq (vf v) met dry gaps k = true then nI 1 else nI 0) → TB v ch m0 (mS m1 8 (((dry * 5 + met) * 37 + gaps) * 10 + k) x) QG (fun d t s w => QF d t s w ∨ (d = dry ∧ t = met ∧ s = gaps ∧ w < k + 1)) := by
      intro x m1 fm1 hx
      refine TB_le (TB_8 (d := dry) (t := met) (s := gaps) (w := k) (TB_fr hT fm1) hm hs hk hx) (fun _ _ _ _ _ _ _ _ _ _ _ z => z) (fun d t s w _ _ _ _ z => ?_)
      rcases z with z | ⟨z1, z2, z3, z4⟩
      · exact Or.inl (Or.inl z)
      · by_cases e : w = k
        · exact Or.inr ⟨z1, z2, z3, e⟩
        · exact Or.inl (Or.inr ⟨z1, z2, z3, by omega⟩)
    show ∃ s', gX12_laysTables_109b q.2 (nI dry) (nI met) (nI gaps) q.1 = some (.inl s') ∧ _
    rw [e1]
    unfold gX12_laysTables_109b gX12_fallOf gX12_laysTables_155 gX12_laysTables_156
    cases hfl : vf v with
    | none =>
      have h6 : q.2.2.1 1 6 = nI 0 := by rw [R1]; rw [hfl] at rf; exact rf
      have h01 : ¬ (0 = 1) := by decide
      simp (disch := omega) only [n_lit, n_of, n_o1, nI_add, pk_mul, nI_ltI, nI_leI, nI_eq, ↓lift_lt, ↓k_mt, ↓k_mp, if_true, if_false, Bool.false_eq_true, Nat.not_lt_zero, Nat.zero_le, mA_1, h9, h6, h01, mW_8_0]
      exact ⟨_, rfl, rfl, fin (nI 0) q.2 (mfr_rfl _ _) (by rw [hfl]; rfl)⟩
    | some code =>
      rw [hfl] at rf
      obtain ⟨h5, fr, h7, h9', hin, hc⟩ := rf
      have h6 : q.2.2.1 1 6 = nI 1 := by rw [R1]; exact h5
      obtain ⟨m7, e7⟩ : ∃ m7, m7 = mS (mS (mS (mS q.2 6 0 (nI met)) 6 1 (nI dry)) 6 6 (nI gaps)) 6 7 (nI k) := ⟨_, rfl⟩
      have r1' : m7.2.1 1 = m0.2.1 1 := by rw [e7, ← R1]; rfl
      have r6 : ∀ j, okw false j = true → m7.2.1 6 j = wF met dry gaps k j := by
        intro j hj
        have hj : j < 2 ∨ j = 6 ∨ j = 7 := by
          unfold okw at hj
          simp at hj
          omega
        rw [e7]
        rcases hj with hj | hj | hj
        · match j, hj with
          | 0, _ => rfl
          | 1, _ => rfl
        · subst hj; rfl
        · subst hj; rfl
      have f7 : mfr Ar56 q.2 m7 := by
        rw [e7]
        exact mfr_S (mfr_S (mfr_S (mfr_S (mfr_rfl _ _) rfl) rfl) rfl) rfl
      obtain ⟨m8, e8, f8⟩ := q_reckons (m := m7) (law := 1) (fr := fr) (code := code) (w := wF met dry gaps k) (g := false) (b := true) (by decide) (by rw [r1']; exact h9') (by rw [r1']; exact h7) hin (fun j hj => by rw [r1']; exact hc j hj) r6 (hf code hfl).1
      have f78 : mfr Ar56 q.2 m8 := mfr_tr f7 (mfr_le f8 (fun r hr => by
        unfold Ar56 at hr; unfold Ar5
        simp only [Bool.or_eq_false_iff] at hr
        exact hr.1))
      unfold gX12_fallsSo gX12_fallsSo_45
      by_cases hh : lawv (wF met dry gaps k) code = nI 1
      · simp (disch := omega) only [n_lit, n_of, n_o1, nI_add, pk_mul, nI_ltI, nI_leI, nI_eq, ↓lift_lt, ↓k_mt, ↓k_mp, if_true, if_false, Bool.false_eq_true, Nat.not_lt_zero, Nat.zero_le, mA_1, h9, h6, mW_6, ← e7, e8, hh, n_bl1, mW_8_1]
        exact ⟨_, rfl, rfl, fin (nI 1) m8 f78 (by rw [hfl]; exact (if_pos (decide_eq_true hh)).symm)⟩
      · simp (disch := omega) only [n_lit, n_of, n_o1, nI_add, pk_mul, nI_ltI, nI_leI, nI_eq, ↓lift_lt, ↓k_mt, ↓k_mp, if_true, if_false, Bool.false_eq_true, Nat.not_lt_zero, Nat.zero_le, mA_1, h9, h6, mW_6, ← e7, e8, hh, n_bl0, mW_8_0]
        exact ⟨_, rfl, rfl, fin (nI 0) m8 f78 (by rw [hfl]; exact (if_neg (fun q => hh (of_decide_eq_true q))).symm)⟩
  · intro q ⟨e1, hT⟩
    show ∃ r, gX12_laysTables_109b q.2 (nI dry) (nI met) (nI gaps) q.1 = some (.inr r) ∧ _
    rw [e1]
    unfold gX12_laysTables_109b gX12_laysTables_163
    have h9 : 9 < 10 := by decide
    simp (disch := omega) only [n_lit, n_of, n_o1, nI_add, pk_mul, nI_ltI, nI_leI, nI_eq, ↓lift_lt, ↓k_mt, ↓k_mp, if_true, if_false, Bool.false_eq_true, Nat.not_lt_zero, Nat.zero_le, h9]
    exact ⟨_, rfl, q.2, rfl, TB_le hT (fun _ _ _ _ _ _ _ _ _ _ _ z => z) (fun d t s w _ _ _ a4 z => z.imp id fun z => ⟨z.1, z.2.1, z.2.2, by omega⟩)⟩
theorem lt100 {m : Mu} {dry met : Nat} (hW : wV v) (hR : Rv (m0.2.1 1) v) (hd : dry < 2) (hm : met < 5) (h : TB v ch m0 m QG QF) :
    ∃ m', gX12_laysTables_100 m (nI dry) (nI met) (nI 0) = some (.inl (nI (met + 1), m')) ∧ TB v ch m0 m' QG (fun d t s w => QF d t s w ∨ (d = dry ∧ t = met)) := by
  unfold gX12_laysTables_100
  have H := lpw_all (body := fun q : Int32 × Mu => gX12_laysTables_100b q.2 (nI dry) (nI met) q.1)
    (fun k q => q.1 = nI k ∧ TB v ch m0 q.2 QG (fun d t s w => QF d t s w ∨ (d = dry ∧ t = met ∧ s < k)))
    (fun r => ∃ m', r = .inl (nI (met + 1), m') ∧ TB v ch m0 m' QG (fun d t s w => QF d t s w ∨ (d = dry ∧ t = met))) 37 ?_ ?_ (nI 0, m) ⟨rfl, TB_le h (fun _ _ _ _ _ _ _ _ _ _ _ q => q) (fun d t s w _ _ _ _ q => q.resolve_right (by omega))⟩
  · obtain ⟨r, e, m', e1, h1⟩ := H
    exact ⟨m', by rw [e, e1], h1⟩
  · intro k q hk ⟨e1, hT⟩
    have h9 : ¬ 36 < k := by omega
    obtain ⟨m1, em1, fm1⟩ := lt109 (m := q.2) (gaps := k) hW hR hd hm hk hT
    show ∃ s', gX12_laysTables_100b q.2 (nI dry) (nI met) q.1 = some (.inl s') ∧ _
    rw [e1]
    unfold gX12_laysTables_100b
    simp (disch := omega) only [n_lit, n_of, n_o1, nI_add, pk_mul, nI_ltI, nI_leI, nI_eq, ↓lift_lt, ↓k_mt, ↓k_mp, if_true, if_false, Bool.false_eq_true, Nat.not_lt_zero, Nat.zero_le, h9, em1]
    refine ⟨_, rfl, rfl, TB_le fm1 (fun _ _ _ _ _ _ _ _ _ _ _ z => z) (fun d t s w _ _ _ _ z => ?_)⟩
    rcases z with z | ⟨z1, z2, z3⟩
    · exact Or.inl (Or.inl z)
    · by_cases e : s = k
      · exact Or.inr ⟨z1, z2, e⟩
      · exact Or.inl (Or.inr ⟨z1, z2, by omega⟩)
  · intro q ⟨e1, hT⟩
    show ∃ r, gX12_laysTables_100b q.2 (nI dry) (nI met) q.1 = some (.inr r) ∧ _
    rw [e1]
    unfold gX12_laysTables_100b gX12_laysTables_169
    have h9 : 36 < 37 := by decide
    simp (disch := omega) only [n_lit, n_of, n_o1, nI_add, pk_mul, nI_ltI, nI_leI, nI_eq, ↓lift_lt, ↓k_mt, ↓k_mp, if_true, if_false, Bool.false_eq_true, Nat.not_lt_zero, Nat.zero_le, h9]
    exact ⟨_, rfl, q.2, rfl, TB_le hT (fun _ _ _ _ _ _ _ _ _ _ _ z => z) (fun d t s w _ _ a3 _ z => z.imp id fun z => ⟨z.1, z.2, by omega⟩)⟩
theorem lt16 {m : Mu} {dry met : Nat} (hW : wV v) (hR : Rv (m0.2.1 1) v) (hch : ∀ p, p < 4 → m0.2.1 1 (19 + p) = nI (dg ch p)) (hd : dry < 2) (hm : met < 5) (h : TB v ch m0 m QG QF) :
    ∃ m', gX12_laysTables_16 m (nI dry) (nI met) (nI 0) = some (.inl (nI (met + 1), m')) ∧ TB v ch m0 m' (fun d t p' r g => QG d t p' r g ∨ (d = dry ∧ t = met)) (fun d t s w => QF d t s w ∨ (d = dry ∧ t = met)) := by
  have hP := hW.1
  unfold gX12_laysTables_16
  have H := lpw_all (body := fun q : Int32 × Mu => gX12_laysTables_16b q.2 (nI dry) (nI met) q.1)
    (fun k q => q.1 = nI k ∧ TB v ch m0 q.2 (fun d t p' r g => QG d t p' r g ∨ (d = dry ∧ t = met ∧ p' < k)) QF)
    (fun r => ∃ m', r = .inl (nI (met + 1), m') ∧ TB v ch m0 m' (fun d t p' r g => QG d t p' r g ∨ (d = dry ∧ t = met)) (fun d t s w => QF d t s w ∨ (d = dry ∧ t = met))) (vP v) ?_ ?_ (nI 0, m) ⟨rfl, TB_le h (fun d t p r g _ _ _ _ a5 _ q => q.resolve_right (by omega)) (fun _ _ _ _ _ _ _ _ q => q)⟩
  · obtain ⟨r, e, m', e1, h1⟩ := H
    exact ⟨m', by rw [e, e1], h1⟩
  · intro k q hk ⟨e1, hT⟩
    have h9 : ¬ vP v ≤ k := by omega
    have R1 : q.2.2.1 1 1 = nI (vP v) := by rw [hT.1.2.2 1 rfl]; exact hR.2.1
    obtain ⟨m1, em1, fm1⟩ := lt29 (m := q.2) (p := k) hW hR hch hd hm hk hT
    show ∃ s', gX12_laysTables_16b q.2 (nI dry) (nI met) q.1 = some (.inl s') ∧ _
    rw [e1]
    unfold gX12_laysTables_16b
    simp (disch := omega) only [n_lit, n_of, n_o1, nI_add, pk_mul, nI_ltI, nI_leI, nI_eq, ↓lift_lt, ↓k_mt, ↓k_mp, if_true, if_false, Bool.false_eq_true, Nat.not_lt_zero, Nat.zero_le, mA_1, R1, h9, em1]
    refine ⟨_, rfl, rfl, TB_le fm1 (fun d t p' r g _ _ _ _ _ _ z => ?_) (fun _ _ _ _ _ _ _ _ z => z)⟩
    rcases z with z | ⟨z1, z2, z3⟩
    · exact Or.inl (Or.inl z)
    · by_cases e : p' = k
      · exact Or.inr ⟨z1, z2, e⟩
      · exact Or.inl (Or.inr ⟨z1, z2, by omega⟩)
  · intro q ⟨e1, hT⟩
    have R1 : q.2.2.1 1 1 = nI (vP v) := by rw [hT.1.2.2 1 rfl]; exact hR.2.1
    have hT' : TB v ch m0 q.2 (fun d t p' r g => QG d t p' r g ∨ (d = dry ∧ t = met)) QF := TB_le hT (fun d t p' r g _ _ a3 _ _ _ z => z.imp id fun z => ⟨z.1, z.2, by omega⟩) (fun _ _ _ _ _ _ _ _ z => z)
    obtain ⟨m1, em1, fm1⟩ := lt100 (m := q.2) hW hR hd hm hT'
    show ∃ r, gX12_laysTables_16b q.2 (nI dry) (nI met) q.1 = some (.inr r) ∧ _
    rw [e1]
    unfold gX12_laysTables_16b gX12_laysTables_98
    simp (disch := omega) only [n_lit, n_of, n_o1, nI_add, pk_mul, nI_ltI, nI_leI, nI_eq, ↓lift_lt, ↓k_mt, ↓k_mp, if_true, if_false, Bool.false_eq_true, Nat.not_lt_zero, Nat.zero_le, mA_1, R1, Nat.le_refl, em1]
    exact ⟨_, rfl, m1, rfl, fm1⟩
theorem lt9 {m : Mu} {dry : Nat} (hW : wV v) (hR : Rv (m0.2.1 1) v) (hch : ∀ p, p < 4 → m0.2.1 1 (19 + p) = nI (dg ch p)) (hd : dry < 2) (h : TB v ch m0 m QG QF) :
    ∃ m', gX12_laysTables_9 m (nI dry) (nI 0) = some (.inl (nI (dry + 1), m')) ∧ TB v ch m0 m' (fun d t p' r g => QG d t p' r g ∨ d = dry) (fun d t s w => QF d t s w ∨ d = dry) := by
  unfold gX12_laysTables_9
  have H := lpw_all (body := fun q : Int32 × Mu => gX12_laysTables_9b q.2 (nI dry) q.1)
    (fun k q => q.1 = nI k ∧ TB v ch m0 q.2 (fun d t p' r g => QG d t p' r g ∨ (d = dry ∧ t < k)) (fun d t s w => QF d t s w ∨ (d = dry ∧ t < k)))
    (fun r => ∃ m', r = .inl (nI (dry + 1), m') ∧ TB v ch m0 m' (fun d t p' r g => QG d t p' r g ∨ d = dry) (fun d t s w => QF d t s w ∨ d = dry)) 5 ?_ ?_ (nI 0, m) ⟨rfl, TB_le h (fun d t p r g _ _ _ _ a5 _ q => q.resolve_right (by omega)) (fun d t s w _ _ _ _ q => q.resolve_right (by omega))⟩
  · obtain ⟨r, e, m', e1, h1⟩ := H
    exact ⟨m', by rw [e, e1], h1⟩
  · intro k q hk ⟨e1, hT⟩
    have h9 : ¬ 4 < k := by omega
    obtain ⟨m1, em1, fm1⟩ := lt16 (m := q.2) (met := k) hW hR hch hd hk hT
    show ∃ s', gX12_laysTables_9b q.2 (nI dry) q.1 = some (.inl s') ∧ _
    rw [e1]
    unfold gX12_laysTables_9b
    simp (disch := omega) only [n_lit, n_of, n_o1, nI_add, pk_mul, nI_ltI, nI_leI, nI_eq, ↓lift_lt, ↓k_mt, ↓k_mp, if_true, if_false, Bool.false_eq_true, Nat.not_lt_zero, Nat.zero_le, h9, em1]
    refine ⟨_, rfl, rfl, TB_le fm1 (fun d t p' r g _ _ _ _ _ _ z => ?_) (fun d t s w _ _ _ _ z => ?_)⟩
    · rcases z with z | ⟨z1, z2⟩
      · exact Or.inl (Or.inl z)
      · by_cases e : t = k
        · exact Or.inr ⟨z1, e⟩
        · exact Or.inl (Or.inr ⟨z1, by omega⟩)
    · rcases z with z | ⟨z1, z2⟩
      · exact Or.inl (Or.inl z)
      · by_cases e : t = k
        · exact Or.inr ⟨z1, e⟩
        · exact Or.inl (Or.inr ⟨z1, by omega⟩)
  · intro q ⟨e1, hT⟩
    show ∃ r, gX12_laysTables_9b q.2 (nI dry) q.1 = some (.inr r) ∧ _
    rw [e1]
    unfold gX12_laysTables_9b gX12_laysTables_175
    have h9 : 4 < 5 := by decide
    simp (disch := omega) only [n_lit, n_of, n_o1, nI_add, pk_mul, nI_ltI, nI_leI, nI_eq, ↓lift_lt, ↓k_mt, ↓k_mp, if_true, if_false, Bool.false_eq_true, Nat.not_lt_zero, Nat.zero_le, h9]
    exact ⟨_, rfl, q.2, rfl, TB_le hT (fun d t p' r g _ a2 _ _ _ _ z => z.imp id fun z => ⟨z, a2⟩) (fun d t s w _ a2 _ _ z => z.imp id fun z => ⟨z, a2⟩)⟩
end REFTAB
def tabs (v : Cv) (ch : Nat) (m : Mu) : Prop := (∀ d t p r g, d < 2 → t < 5 → p < vP v → r < 5 → 0 < g → g < 10 → m.2.1 7 (gix d p r g t) = grw (vg v) ch p r g t d)
    ∧ (∀ d t s w, d < 2 → t < 5 → s < 37 → w < 10 → m.2.1 8 (fox d t s w) = if roofq (vf v) t d s w = true then nI 1 else nI 0)
theorem q_laysTables {m : Mu} {v : Cv} {ch : Nat} (hW : wV v) (hR : Rv (m.2.1 1) v) (hch : ∀ p, p < 4 → m.2.1 1 (19 + p) = nI (dg ch p)) :
    ∃ m', gX12_laysTables m = some m' ∧ mfr Ar58 m m' ∧ tabs v ch m' := by
  unfold gX12_laysTables gX12_laysTables_2
  have H := lpw_all (body := fun q : Int32 × Mu => gX12_laysTables_2b q.2 q.1)
    (fun k q => q.1 = nI k ∧ TB v ch m q.2 (fun d t p' r g => d < k) (fun d t s w => d < k))
    (fun r => TB v ch m r (fun d t p' r g => d < 2) (fun d t s w => d < 2)) 2 ?_ ?_ (nI 0, m) ⟨rfl, mfr_rfl _ m, fun d t p r g _ _ _ _ _ _ q => (by omega), fun d t s w _ _ _ _ q => (by omega)⟩
  · obtain ⟨r, e, h1, h2, h3⟩ := H
    exact ⟨r, e, h1, fun d t p r g a1 a2 a3 a4 a5 a6 => h2 d t p r g a1 a2 a3 a4 a5 a6 a1, fun d t s w a1 a2 a3 a4 => h3 d t s w a1 a2 a3 a4 a1⟩
  · intro k q hk ⟨e1, hT⟩
    have h9 : ¬ 2 ≤ k := by omega
    obtain ⟨m1, em1, fm1⟩ := lt9 (m := q.2) (dry := k) hW hR hch hk hT
    show ∃ s', gX12_laysTables_2b q.2 q.1 = some (.inl s') ∧ _
    rw [e1]
    unfold gX12_laysTables_2b
    simp (disch := omega) only [n_lit, n_of, n_o1, nI_add, pk_mul, nI_ltI, nI_leI, nI_eq, ↓lift_lt, ↓k_mt, ↓k_mp, if_true, if_false, Bool.false_eq_true, Nat.not_lt_zero, Nat.zero_le, h9, em1]
    exact ⟨_, rfl, rfl, TB_le fm1 (fun d t p' r g _ _ _ _ _ _ z => (by omega)) (fun d t s w _ _ _ _ z => (by omega))⟩
  · intro q ⟨e1, hT⟩
    show ∃ r, gX12_laysTables_2b q.2 q.1 = some (.inr r) ∧ _
    rw [e1]
    unfold gX12_laysTables_2b
    simp (disch := omega) only [n_lit, n_of, n_o1, nI_add, pk_mul, nI_ltI, nI_leI, nI_eq, ↓lift_lt, ↓k_mt, ↓k_mp, if_true, if_false, Bool.false_eq_true, Nat.not_lt_zero, Nat.zero_le, Nat.le_refl]
    exact ⟨_, rfl, hT⟩
theorem q_yearBy {m : Mu} {v : Cv} {ch s l dry : Nat} (hP : vP v ≤ 4) (h1 : m.2.1 1 1 = nI (vP v)) (hT : tabs v ch m) (hs : s < 20000) (hl : l < 2 ^ 31) (hd : dry < 2) : gX12_yearBy m (nI s) (nI l) (nI dry) = some (nI (Yr v ch s l dry)) := by
  have hb := metb_lt (vP v) s
  have hp2 := pow2_le hP
  have hp10 := pow10_le hP
  unfold gX12_yearBy
  by_cases hF : 10000 ≤ s
  · have h10 : ¬ (1 = 0) := by decide
    simp (disch := omega) only [n_lit, n_of, n_o1, nI_add, pk_mul, nI_ltI, nI_leI, nI_eq, ↓lift_lt, ↓k_mt, ↓k_mp, if_true, if_false, Bool.false_eq_true, Nat.not_lt_zero, Nat.zero_le, q_hasFallen, hF, h10]
    rw [Yr_fallen hF]
  · simp (disch := omega) only [n_lit, n_of, n_o1, nI_add, pk_mul, nI_ltI, nI_leI, nI_eq, ↓lift_lt, ↓k_mt, ↓k_mp, if_true, if_false, Bool.false_eq_true, Nat.not_lt_zero, Nat.zero_le, q_hasFallen, hF, q_metIn hP h1 (show s < 2 ^ 31 by omega), q_bitsOf, bct_metb hP]
    obtain ⟨T, hTe⟩ : ∃ T, T = yto (grw (vg v) ch) (vP v) s l dry := ⟨_, rfl⟩
    have hTd : ∀ k, k < vP v → dg T k = ygap (grw (vg v) ch) (vP v) s l dry k := fun k hk => by rw [hTe]; exact dg_cod (fun p => ygap_lt _ _ _ _ _ p) _ _ hk
    have hTl : T < 10 ^ vP v := by rw [hTe]; exact cod_lt _ (fun p => ygap_lt _ _ _ _ _ p) _
    have hm4 := mets_le (vP v) s
    unfold gX12_yearBy_37
    have H : lpw (fun q : Int32 × Int32 × Int32 × Int32 × Int32 × Int32 => gX12_yearBy_37b m (nI s) (nI l) (nI dry) (nI (mets (vP v) s)) q.1 q.2.1 q.2.2.1 q.2.2.2.1 q.2.2.2.2.1 q.2.2.2.2.2) (nI 0, nI 1, nI 0, nI 0, nI 0, nI 0) = some (nI (Yr v ch s l dry)) := by
      refine lpw_iter (fun k => (nI (cod (ygap (grw (vg v) ch) (vP v) s l dry) k), nI (10 ^ k), nI (gsum k T), nI (gwid k T), nI (mets k T), nI k)) (vP v) _ (fun k hk => ?_) ?_
      · have h2 : ¬ vP v ≤ k := by omega
        have hdg := dg_lt s k
        have h5 := d5_lt l k
        have hw := gwid_le k T
        have hy := ygap_lt (grw (vg v) ch) (vP v) s l dry k
        have h10k : 10 ^ k ≤ 10000 := pow10_le (by omega)
        have h10p : 0 < 10 ^ k := Nat.pow_pos (by decide)
        have hq : s / 10 ^ k < 2 ^ 31 := Nat.lt_of_le_of_lt (Nat.div_le_self _ _) (by omega)
        have edg : s / 10 ^ k % 10 = dg s k := rfl
        unfold gX12_yearBy_37b gX12_yearBy_90
        have key : ∀ x : Int32, kN x = ygap (grw (vg v) ch) (vP v) s l dry k → (if nI 0 ≤ x then (if x ≤ nI 9 then gX12_yearBy_115 m (nI s) (nI l) (nI dry) (nI (mets (vP v) s)) (nI (cod (ygap (grw (vg v) ch) (vP v) s l dry) k)) (nI (10 ^ k)) (nI (gsum k T)) (nI (gwid k T)) (nI (mets k T)) (nI k) x else gX12_yearBy_115 m (nI s) (nI l) (nI dry) (nI (mets (vP v) s)) (nI (cod (ygap (grw (vg v) ch) (vP v) s l dry) k)) (nI (10 ^ k)) (nI (gsum k T)) (nI (gwid k T)) (nI (mets k T)) (nI k) (nI 9)) else gX12_yearBy_115 m (nI s) (nI l) (nI dry) (nI (mets (vP v) s)) (nI (cod (ygap (grw (vg v) ch) (vP v) s l dry) k)) (nI (10 ^ k)) (nI (gsum k T)) (nI (gwid k T)) (nI (mets k T)) (nI k) (nI 0)) = some (.inl (nI (cod (ygap (grw (vg v) ch) (vP v) s l dry) (k + 1)), nI (10 ^ (k + 1)), nI (gsum (k + 1) T), nI (gwid (k + 1) T), nI (mets (k + 1) T), nI (k + 1))) := by
          intro x hx
          rw [ref_kept x (fun z => gX12_yearBy_115 m (nI s) (nI l) (nI dry) (nI (mets (vP v) s)) (nI (cod (ygap (grw (vg v) ch) (vP v) s l dry) k)) (nI (10 ^ k)) (nI (gsum k T)) (nI (gwid k T)) (nI (mets k T)) (nI k) z), hx]
          have c1 : cod (ygap (grw (vg v) ch) (vP v) s l dry) (k + 1) = cod (ygap (grw (vg v) ch) (vP v) s l dry) k + 10 ^ k * ygap (grw (vg v) ch) (vP v) s l dry k := by
            show cod (ygap (grw (vg v) ch) (vP v) s l dry) k + ygap (grw (vg v) ch) (vP v) s l dry k * 10 ^ k = _
            rw [Nat.mul_comm (10 ^ k)]
          have c2 : gsum (k + 1) T = gsum k T + ygap (grw (vg v) ch) (vP v) s l dry k := by
            show gsum k T + dg T k = _
            rw [hTd k hk]
          have c3 : gwid (k + 1) T = if gwid k T < ygap (grw (vg v) ch) (vP v) s l dry k then ygap (grw (vg v) ch) (vP v) s l dry k else gwid k T := by
            show (if gwid k T < dg T k then dg T k else gwid k T) = _
            rw [hTd k hk]
          have c4 : mets (k + 1) T = mets k T + (if ygap (grw (vg v) ch) (vP v) s l dry k = 0 then 1 else 0) := by
            show mets k T + (if dg T k = 0 then 1 else 0) = _
            rw [hTd k hk]
          rw [c1, c2, c3, c4, Nat.pow_succ]
          generalize ygap (grw (vg v) ch) (vP v) s l dry k = y at hy
          unfold gX12_yearBy_115 gX12_yearBy_148 gX12_yearBy_162
          by_cases a1 : gwid k T < y
          · have a2 : ¬ y ≤ gwid k T := by omega
            by_cases a3 : y = 0
            · omega
            · simp (disch := omega) only [n_lit, n_of, n_o1, nI_add, pk_mul, nI_ltI, nI_leI, nI_eq, ↓lift_lt, ↓k_mt, ↓k_mp, if_true, if_false, Bool.false_eq_true, Nat.not_lt_zero, Nat.zero_le, a1, a2, a3, Nat.add_zero]
          · have a2 : y ≤ gwid k T := by omega
            by_cases a3 : y = 0
            · simp (disch := omega) only [n_lit, n_of, n_o1, nI_add, pk_mul, nI_ltI, nI_leI, nI_eq, ↓lift_lt, ↓k_mt, ↓k_mp, if_true, if_false, Bool.false_eq_true, Nat.not_lt_zero, Nat.zero_le, a1, a2, a3]
            · simp (disch := omega) only [n_lit, n_of, n_o1, nI_add, pk_mul, nI_ltI, nI_leI, nI_eq, ↓lift_lt, ↓k_mt, ↓k_mp, if_true, if_false, Bool.false_eq_true, Nat.not_lt_zero, Nat.zero_le, a1, a2, a3, Nat.add_zero]
        by_cases h0 : dg s k = 0
        · simp (disch := omega) only [n_lit, n_of, n_o1, nI_add, pk_mul, nI_ltI, nI_leI, nI_eq, ↓lift_lt, ↓k_mt, ↓k_mp, if_true, if_false, Bool.false_eq_true, Nat.not_lt_zero, Nat.zero_le, mA_1, h1, h2, n_dv, n_rm, edg, h0]
          have K := key (nI 0) (by rw [kN_0]; unfold ygap; rw [if_pos h0])
          simp (disch := omega) only [n_lit, n_of, n_o1, nI_add, pk_mul, nI_ltI, nI_leI, nI_eq, ↓lift_lt, ↓k_mt, ↓k_mp, if_true, if_false, Bool.false_eq_true, Nat.not_lt_zero, Nat.zero_le] at K
          exact K
        · have hix : gix dry k (d5 l k) (dg s k) (mets (vP v) s) < 2000 := by unfold gix; omega
          have hgv := hT.1 dry (mets (vP v) s) k (d5 l k) (dg s k) hd (by omega) hk h5 (by omega) hdg
          unfold gX12_growOf
          unfold gix at hix hgv
          simp (disch := omega) only [n_lit, n_of, n_o1, nI_add, pk_mul, nI_ltI, nI_leI, nI_eq, ↓lift_lt, ↓k_mt, ↓k_mp, if_true, if_false, Bool.false_eq_true, Nat.not_lt_zero, Nat.zero_le, mA_1, mA_7, h1, h2, n_dv, n_rm, edg, h0, q_dropsIn, hgv]
          have K := key (nI (dg s k) - grw (vg v) ch k (d5 l k) (dg s k) (mets (vP v) s) dry) (by unfold ygap; rw [if_neg h0])
          exact K
      · have hcY : cod (ygap (grw (vg v) ch) (vP v) s l dry) (vP v) = T := hTe.symm
        have hg := gsum_le (vP v) T
        have hw := gwid_le (vP v) T
        have hmm := mets_le (vP v) T
        have hix : fox dry (mets (vP v) T) (gsum (vP v) T) (gwid (vP v) T) < 3700 := by unfold fox; omega
        have hfv := hT.2 dry (mets (vP v) T) (gsum (vP v) T) (gwid (vP v) T) hd (by omega) (by omega) (by omega)
        unfold fox at hix hfv
        show gX12_yearBy_37b m (nI s) (nI l) (nI dry) (nI (mets (vP v) s)) (nI (cod (ygap (grw (vg v) ch) (vP v) s l dry) (vP v))) (nI (10 ^ vP v)) (nI (gsum (vP v) T)) (nI (gwid (vP v) T)) (nI (mets (vP v) T)) (nI (vP v)) = _
        rw [hcY]
        unfold gX12_yearBy_37b gX12_yearBy_178 gX12_yearBy_207 gX12_fallOf
        simp (disch := omega) only [n_lit, n_of, n_o1, nI_add, pk_mul, nI_ltI, nI_leI, nI_eq, ↓lift_lt, ↓k_mt, ↓k_mp, if_true, if_false, Bool.false_eq_true, Nat.not_lt_zero, Nat.zero_le, mA_1, mA_8, h1, Nat.le_refl, hfv]
        unfold Yr yr
        rw [if_neg hF, ← hTe, roof_q]
        by_cases hr : roofq (vf v) (mets (vP v) T) dry (gsum (vP v) T) (gwid (vP v) T) = true
        · have h10 : ¬ (1 = 0) := by decide
          simp (disch := omega) only [n_lit, n_of, n_o1, nI_add, pk_mul, nI_ltI, nI_leI, nI_eq, ↓lift_lt, ↓k_mt, ↓k_mp, if_true, if_false, Bool.false_eq_true, Nat.not_lt_zero, Nat.zero_le, hr, h10]
        · simp (disch := omega) only [n_lit, n_of, n_o1, nI_add, pk_mul, nI_ltI, nI_leI, nI_eq, ↓lift_lt, ↓k_mt, ↓k_mp, if_true, if_false, Bool.false_eq_true, Nat.not_lt_zero, Nat.zero_le, hr]
    exact H
