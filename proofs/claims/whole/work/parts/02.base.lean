/-! THE SMALL MACHINE. The heap since the law's entry as a function from numbers of cells to cells; a method's contract 'Call' and the judgement 'Go' hide the machine. -/
abbrev Cl : Type := (Nat × vp_A) ⊕ (Nat × List Value)
/-- cells so far (from 80 on), slots so far, the cells -/
abbrev Hp : Type := Nat × Nat × (Nat → Option Cl)
def hp_set (h : Hp) (a : Nat) (c : Cl) : Hp := (h.1, h.2.1, fun j => if j = a then some c else h.2.2 j)
def hp_new (h : Hp) (n : Nat) (c : Cl) : Hp := (h.1 + 1, h.2.1 + n, fun j => if j = h.1 then some c else h.2.2 j)
def aty (t : Nat) : FieldType := if t = 0 then .int else if t = 1 then .byte else if t = 2 then .long else if t = 3 then .boolean else if t = 4 then .object "StoneMeet$Stand" else if t = 5 then .object "StoneMeet$Tray" else .object "StoneMeet$Cave"
abbrev cls : List vw_C := [(RX0, TX0, 11), (RX1, TX1, 7), (RX2, TX2, 12), (RX3, TX3, 1), (RX4, TX4, 16), (RX5, TX5, 3), (RX6, TX6, 6), (RX7, TX7, 17), (RX8, TX8, 4), (RX9, TX9, 4), (RX10, TX10, 7), (RX11, TX11, 19), (RX12, TX12, 41)]
/-- a method: its name, its bytes, its locals, its answer's type -/
abbrev Mt : Type := MethodName × ByteArray × Nat × Option FieldType
/-- where a cell lies: numbers below 80 are cells that were there before the law -/
def ad (s0 : State) (ol : Nat → Nat) (n : Nat) : Nat := if n < 80 then ol n else s0.heap.size + (n - 80)
def rv (f : Nat → Nat) (v : Value) : Value := match v with
  | .ref n => .ref (f n)
  | w => w
def rx (f : Nat → Nat) (x : (Nat → Int32) ⊕ (Nat → Int64) ⊕ (Nat → UInt32) ⊕ (Nat → UInt64) ⊕ (Nat → Option Nat)) : (Nat → Int32) ⊕ (Nat → Int64) ⊕ (Nat → UInt32) ⊕ (Nat → UInt64) ⊕ (Nat → Option Nat) := match x with
  | .inr (.inr (.inr (.inr g))) => .inr (.inr (.inr (.inr (fun i => (g i).map f))))
  | y => y
/-- terms of the statement for the old cells: the script, two tables, the texts, their bytes -/
def strL : List (String × Nat) := [("StoneMeet$Reader", 44), ("StoneMeet$Parser", 106), ("StoneMeet$Parser", 111), ("StoneMeet$Parser", 115), ("StoneMeet$Parser", 117), ("StoneMeet$Parser", 140), ("StoneMeet$Parser", 145), ("StoneMeet$Parser", 122), ("StoneMeet$Parser", 127), ("StoneMeet$Parser", 132), ("StoneMeet$Parser", 150), ("StoneMeet$Parser", 182), ("StoneMeet$Parser", 187), ("StoneMeet$Parser", 189), ("StoneMeet$Parser", 225), ("StoneMeet$Parser", 227), ("StoneMeet$Parser", 229), ("StoneMeet$Parser", 234), ("StoneMeet$Parser", 236), ("StoneMeet$Parser", 238), ("StoneMeet$Parser", 223), ("StoneMeet$Parser", 218), ("StoneMeet$Parser", 198), ("StoneMeet$Parser", 200), ("StoneMeet$Parser", 202), ("StoneMeet$Parser", 204), ("StoneMeet$Parser", 212), ("StoneMeet$Parser", 213), ("StoneMeet$Parser", 180), ("StoneMeet$Parser", 169), ("StoneMeet$Parser", 175), ("StoneMeet$Parser", 136), ("StoneMeetModel", 99), ("StoneMeetModel", 137)]
def oldT : List Term := [.arg 0, .static "StoneMeet" "TENS" "[I", .static "StoneMeet" "FIVES" "[I"] ++ strL.map (fun q => .string q.1 q.2) ++ strL.map (fun q => .field (.string q.1 q.2) "java/lang/String" "value" "[B")
abbrev fmtT : Term := .static "jdk/internal/util/Preconditions" "SIOOBE_FORMATTER" "Ljava/util/function/BiFunction;"
def Wd (s0 : State) (D : va_G) (ol : Nat → Nat) (N : Nat) (xs : Nat → Int32) : Prop :=
  (∀ w ∈ lw_tbl, w.before #[Value.ref (ol 0)] s0 = true) ∧ (∀ (k : Nat) (q : vw_C), cls[k]? = some q → u_Kn s0 q.1 q.2.1 q.2.2 (D.1 k) (D.2 k)) ∧ (Jvm.Cond.and given_1 narrow_1).before #[Value.ref (ol 0)] s0 = true ∧ va_X (ol 0) N xs s0 s0.heap ∧ (∀ j, j < 71 → ol j < s0.heap.size) ∧ (∀ (j : Nat) (t : Term), oldT[j]? = some t → t.eval #[Value.ref (ol 0)] s0 none [] s0 = some (.ref (ol j))) ∧ (fmtT.eval #[Value.ref (ol 0)] s0 none [] s0 = some .null ∨ fmtT.eval #[Value.ref (ol 0)] s0 none [] s0 = some (.ref (ol 71)))
def cellAt (s0 : State) (D : va_G) (f : Nat → Nat) (H : Heap) (n : Nat) (c : Cl) : Prop := match c with
  | .inl (t, k, x) => ∃ cA : ClassId, ArrOfT s0 cA (aty t) ∧ va_RA s0 cA (aty t) ∧ H[f n]? = some (vp_cell cA (k, rx f x))
  | .inr (ci, fs) => ∃ r : vw_C, cls[ci]? = some r ∧ fs.length = r.2.2 ∧ t_OB (f n) (D.1 ci) r.2.2 (D.2 ci) H (vp_V (fs.map (rv f)))
def Rep (s0 : State) (D : va_G) (ol : Nat → Nat) (h : Hp) (H : Heap) : Prop :=
  80 ≤ h.1 ∧ H.size = s0.heap.size + (h.1 - 80) ∧ (∀ q : Nat, q < s0.heap.size → H[q]? = s0.heap[q]?) ∧ ∀ (n : Nat) (c : Cl), h.2.2 n = some c → 80 ≤ n ∧ n < h.1 ∧ cellAt s0 D (ad s0 ol) H n c
def Cx (s0 : State) (d : Nat) (M : Mt) (p : Program) (R : Room) (s : State) (m : MethodId) (meth : Method) (c : Code) : Prop :=
  p.tables.exec = Jvm.exec ∧ c.code = M.2.1 ∧ c.maxLocals = M.2.2.1 ∧ meth.sig.returnType = M.2.2.2 ∧ meth.locks = false ∧ s.vm.findClass M.1.cls = some m.cls ∧ meth.name = M.1.name ∧ s0.WarmedH s.vm ∧ d ≤ R.frames ∧ 41 * d ≤ R.locals ∧ s0.heap.size ≤ s.heap.size
/-- the locals -/
def LV (f : Nat → Nat) (ls : Array Slot) (n : Nat) (L : List (Option Value)) : Prop := ls.size = n ∧ lv_wf ls ∧ ∀ (i : Nat) (v : Value), L[i]? = some (some v) → ls[i]? = some (.val (rv f v))
def Qg (s0 : State) (D : va_G) (ol : Nat → Nat) (r : Option Value) (h' : Hp) : Array Value → State → Outcome → State → Prop := fun _ _ o t => o = .returned (r.map (rv (ad s0 ol))) ∧ Rep s0 D ol h' t.heap
def Pg (s0 : State) (D : va_G) (ol : Nat → Nat) (As : List Value) (h : Hp) : Array Value → State → Prop := fun a U => a = (As.map (rv (ad s0 ol))).toArray ∧ Rep s0 D ol h U.heap ∧ s0.WarmedH U.vm
/-- from pc, with these locals and this stack, in the heap h, the method answers r and leaves h' -/
def Go (d : Nat) (M : Mt) (pc : Nat) (L : List (Option Value)) (st : List Value) (h : Hp) (r : Option Value) (h' : Hp) : Prop :=
  h.1 ≤ h'.1 ∧ h.2.1 ≤ h'.2.1 ∧ ∀ (s0 : State) (D : va_G) (ol : Nat → Nat) (N : Nat) (xs : Nat → Int32), Wd s0 D ol N xs → ∀ (p : Program) (l : Launch) (e : Env) (R : Room) (s : State) (m : MethodId) (args : Array Value) (below : List Frame) (meth : Method) (c : Code), Cx s0 d M p R s m meth c →
    ∀ (ls : Array Slot) (H : Heap) (locs : List Loc) (cells slots : Nat), LV (ad s0 ol) ls M.2.2.1 L → Rep s0 D ol h H → (∀ q ∈ locs, s0.heap.size ≤ q.base) → cells + (h'.1 - h.1) ≤ R.cells → slots + (h'.2.1 - h.2.1) ≤ R.slots →
      W p l e R s m args below meth c H locs cells slots (MQ below (Qg s0 D ol r h') args s R.cells R.slots (fun q => s0.heap.size ≤ q)) (F0 m pc ls (st.map (rv (ad s0 ol))))
/-- the method, called with these arguments in the heap h, answers r and leaves h' -/
def Call (d : Nat) (M : Mt) (As : List Value) (h : Hp) (r : Option Value) (h' : Hp) : Prop :=
  h.1 ≤ h'.1 ∧ h.2.1 ≤ h'.2.1 ∧ ∀ (s0 : State) (D : va_G) (ol : Nat → Nat) (N : Nat) (xs : Nat → Int32), Wd s0 D ol N xs → ∀ l : Launch,
    Met l M.1 [.code M.1 M.2.1 M.2.2.1 M.2.2.2] { frames := d, locals := 41 * d, cells := h'.1 - h.1, slots := h'.2.1 - h.2.1 } (Pg s0 D ol As h) (Qg s0 D ol r h') (h'.1 - h.1) (h'.2.1 - h.2.1) (fun q => s0.heap.size ≤ q)
theorem rv_cat (f : Nat → Nat) (v : Value) : (rv f v).category = v.category := by cases v <;> rfl
/-- the numbers of the locals that are held, as the kit lists them -/
def lvl (f : Nat → Nat) (L : List (Option Value)) : List (Nat × Value) := (List.range L.length).filterMap (fun i => (L[i]?.join).map (fun v => (i, rv f v)))
theorem lvl_mem {f : Nat → Nat} {L : List (Option Value)} {q : Nat × Value} : q ∈ lvl f L ↔ ∃ v, L[q.1]? = some (some v) ∧ q.2 = rv f v := by
  unfold lvl
  rw [List.mem_filterMap]
  constructor
  · rintro ⟨i, hi, h⟩
    cases hx : L[i]? with
    | none => rw [hx] at h; simp at h
    | some o =>
      cases o with
      | none => rw [hx] at h; simp at h
      | some v =>
        rw [hx] at h
        simp at h
        subst h
        exact ⟨v, hx, rfl⟩
  · rintro ⟨v, h1, h2⟩
    refine ⟨q.1, ?_, ?_⟩
    · rw [List.mem_range]
      exact (List.getElem?_eq_some_iff.mp h1).1
    · rw [h1]
      simp
      rw [← h2]
theorem LV.has {f : Nat → Nat} {ls : Array Slot} {n : Nat} {L : List (Option Value)} (h : LV f ls n L) : lv_has ls n (lvl f L) := by
  refine ⟨h.1, h.2.1, fun q hq => ?_⟩
  obtain ⟨v, h1, h2⟩ := lvl_mem.mp hq
  rw [h2]
  exact h.2.2 q.1 v h1
theorem LV.at {f : Nat → Nat} {ls : Array Slot} {n : Nat} {L : List (Option Value)} (h : LV f ls n L) {i : Nat} {v : Value} (hi : L[i]? = some (some v)) : ls[i]? = some (.val (rv f v)) := h.2.2 i v hi
/-- what stays of the locals when number i is written: not a long that begins just below -/
def Lclr (L : List (Option Value)) (i : Nat) : List (Option Value) := match i with
  | 0 => L
  | j + 1 => if (L[j]?.join).any (fun v => v.category == 2) then L.set j none else L
def L1 (L : List (Option Value)) (i : Nat) (v : Value) : List (Option Value) := (Lclr L i).set i (some v)
def L2 (L : List (Option Value)) (i : Nat) (v : Value) : List (Option Value) := ((Lclr L i).set i (some v)).set (i + 1) none
theorem Lclr_get {L : List (Option Value)} {i j : Nat} {v : Value} (h : (Lclr L i)[j]? = some (some v)) : L[j]? = some (some v) ∧ ¬ (j + 1 = i ∧ v.category = 2) := by
  cases i with
  | zero => exact ⟨h, fun q => by omega⟩
  | succ k =>
    unfold Lclr at h
    by_cases hc : (L[k]?.join).any (fun v => v.category == 2) = true
    · simp only [hc, if_true] at h
      by_cases hj : j = k
      · subst hj
        by_cases hl : j < L.length
        · rw [List.getElem?_set_self hl] at h
          cases h
        · rw [List.getElem?_eq_none (by simp; omega)] at h
          cases h
      · rw [List.getElem?_set_ne (Ne.symm hj)] at h
        exact ⟨h, fun q => by omega⟩
    · simp only [hc] at h
      refine ⟨h, fun q => hc ?_⟩
      obtain ⟨q1, q2⟩ := q
      have : j = k := by omega
      subst this
      have h2 : L[j]? = some (some v) := h
      rw [h2]
      simp [q2]
theorem L1_has {f : Nat → Nat} {ls : Array Slot} {n : Nat} {L : List (Option Value)} {i : Nat} {v : Value} (h : lv_has ls n ((i, rv f v) :: (lvl f L).filter (fun q => !(q.1 == i) && !(q.1 + 1 == i && q.2.category == 2)))) : LV f ls n (L1 L i v) := by
  refine ⟨h.1, h.2.1, fun j w hj => ?_⟩
  unfold L1 at hj
  by_cases hji : j = i
  · subst hji
    have hw : w = v := by
      by_cases hl : j < (Lclr L j).length
      · rw [List.getElem?_set_self hl] at hj
        cases hj
        rfl
      · rw [List.getElem?_eq_none (by simp; omega)] at hj
        cases hj
    subst hw
    exact h.2.2 (j, rv f w) List.mem_cons_self
  · rw [List.getElem?_set_ne (Ne.symm hji)] at hj
    obtain ⟨h1, h2⟩ := Lclr_get hj
    refine h.2.2 (j, rv f w) (List.mem_cons_of_mem _ (List.mem_filter.mpr ⟨lvl_mem.mpr ⟨w, h1, rfl⟩, ?_⟩))
    simp only [rv_cat, Bool.and_eq_true, Bool.not_eq_true', beq_eq_false_iff_ne, ne_eq, Bool.and_eq_false_iff]
    refine ⟨hji, ?_⟩
    by_cases q : j + 1 = i
    · right
      exact fun z => h2 ⟨q, z⟩
    · left
      exact q
theorem L2_has {f : Nat → Nat} {ls : Array Slot} {n : Nat} {L : List (Option Value)} {i : Nat} {v : Value} (h : lv_has ls n ((i, rv f v) :: (lvl f L).filter (fun q => !(q.1 == i) && (!(q.1 == i + 1) && !(q.1 + 1 == i && q.2.category == 2))))) : LV f ls n (L2 L i v) := by
  refine ⟨h.1, h.2.1, fun j w hj => ?_⟩
  unfold L2 at hj
  by_cases hj1 : j = i + 1
  · subst hj1
    by_cases hl : i + 1 < ((Lclr L i).set i (some v)).length
    · rw [List.getElem?_set_self hl] at hj
      cases hj
    · rw [List.getElem?_eq_none (by simp at hl ⊢; omega)] at hj
      cases hj
  · rw [List.getElem?_set_ne (Ne.symm hj1)] at hj
    by_cases hji : j = i
    · subst hji
      have hw : w = v := by
        by_cases hl : j < (Lclr L j).length
        · rw [List.getElem?_set_self hl] at hj
          cases hj
          rfl
        · rw [List.getElem?_eq_none (by simp; omega)] at hj
          cases hj
      subst hw
      exact h.2.2 (j, rv f w) List.mem_cons_self
    · rw [List.getElem?_set_ne (Ne.symm hji)] at hj
      obtain ⟨h1, h2⟩ := Lclr_get hj
      refine h.2.2 (j, rv f w) (List.mem_cons_of_mem _ (List.mem_filter.mpr ⟨lvl_mem.mpr ⟨w, h1, rfl⟩, ?_⟩))
      simp only [rv_cat, Bool.and_eq_true, Bool.not_eq_true', beq_eq_false_iff_ne, ne_eq, Bool.and_eq_false_iff]
      refine ⟨hji, hj1, ?_⟩
      by_cases q : j + 1 = i
      · right
        exact fun z => h2 ⟨q, z⟩
      · left
        exact q
/-- a step of the machine that touches locals and stack alone -/
theorem go_pure {d : Nat} {M : Mt} {pc pc' : Nat} {L L' : List (Option Value)} {st st' : List Value} {h h' : Hp} {r : Option Value}
    (hstep : ∀ (p : Program) (l : Launch) (e : Env) (R : Room) (s : State) (m : MethodId) (args : Array Value) (below : List Frame) (meth : Method) (c : Code) (H : Heap) (locs : List Loc) (cells slots : Nat) (Q : State → Prop) (ls : Array Slot) (f : Nat → Nat), p.tables.exec = Jvm.exec → c.code = M.2.1 → LV f ls M.2.2.1 L →
      (∀ ls' : Array Slot, LV f ls' M.2.2.1 L' → W p l e R s m args below meth c H locs cells slots Q (F0 m pc' ls' (st'.map (rv f)))) → W p l e R s m args below meth c H locs cells slots Q (F0 m pc ls (st.map (rv f))))
    (k : Go d M pc' L' st' h r h') : Go d M pc L st h r h' :=
  ⟨k.1, k.2.1, fun s0 D ol N xs hw p l e R s m args below meth c C ls H locs cells slots hl hR hf b1 b2 =>
    hstep p l e R s m args below meth c H locs cells slots _ ls (ad s0 ol) C.1 C.2.1 hl (fun ls' hl' => k.2.2 s0 D ol N xs hw p l e R s m args below meth c C ls' H locs cells slots hl' hR hf b1 b2)⟩
