/-! THE CLAIM OUT OF ONE WALK OF THE LAW'S BODY. Your part is whole_start (and what it stands on); all else here is the same for every law, but numbers. -/
def R_law : String := "StoneMeetLaw"
def lw_P (b : Addr) (xs : List Int32) (args : Array Value) (s : State) : Prop := args = #[.ref b] ∧ s.IntsAt b xs ∧ xs.length ≤ 3072 ∧ (Jvm.Cond.and given_1 narrow_1).before args s = true
def lw_Q (_ : Array Value) (s : State) (o : Outcome) (t : State) : Prop := o = .returned (some (.int 1)) ∧ Framed s o t [] 600000 7302250
def lw_Z (below : List Frame) (a : Array Value) (s : State) : State → Prop := fun t => ∃ o, t.status = .running ∧ Ended t below o ∧ lw_Q a s o t
/-- the law's own end, with 1 on the stack, nothing written that was there before, its room as the claim has it -/
theorem lw_ret {p : Program} {l : Launch} {e : Env} {s : State} {m : MethodId} {below : List Frame} {meth : Method} {c : Code} {b : Nat} (hx : p.tables.exec = Jvm.exec) (hb : c.code = code) (hr : meth.sig.returnType = ret) (hlocks : meth.locks = false) {pc : Nat} {H : Heap} {ls : Array Slot} (hdg : decode code pc = .ok (.ireturn, 1)) : W p l e room_1 s m #[Value.ref b] below meth c H [] 600000 7302250 (lw_Z below #[Value.ref b] s) (F0 m pc ls [.int 1]) := by
  intro T hT X
  obtain ⟨fs, hret, hrun, hended, hW, hframe⟩ := X.leave (v := some (.int 1)) (hlocks := hlocks) (fun h => by rw [hr] at h; cases h)
  have hmeth' : T.vm.method? m = some meth := X.method'
  refine ⟨T.setFrames fs, ?_, .returned (some (.int 1)), hrun, hended, rfl, ⟨_, rfl⟩, hW, hframe⟩
  jvm_step X.here [X.here.top, hx, hb, hdg, hmeth', hr, ret, narrow_b1]
  (try refine ⟨rfl, ?_⟩); (try refine ⟨rfl, ?_⟩)
  first | (intro acts; rw [hret _ acts rfl rfl rfl]) | rw [hret _ _ rfl rfl rfl]
  exact Steps.refl _
/-- what holds at the law's entry: the machine, the code, the tables' words (any of lw_tbl by 'hts w (by decide +kernel)'), the script of L ints xs at the cell b, what the Statement gives of the start (any of its parts by flat_of_before) -/
def lw_At (p : Program) (s : State) (m : MethodId) (meth : Method) (c : Code) (b L : Nat) (xs : Nat → Int32) : Prop :=
  p.tables.exec = Jvm.exec ∧ c.code = code ∧ meth.sig.returnType = ret ∧ c.maxLocals = 4 ∧ s.vm.findClass R_law = some m.cls ∧ (∀ w ∈ lw_tbl, w.before #[Value.ref b] s = true) ∧ va_X b L xs s s.heap ∧ b < s.heap.size ∧ meth.locks = false ∧ (Jvm.Cond.and given_1 narrow_1).before #[Value.ref b] s = true ∧ meth.name = "law"
/-- the heap at the law's entry -/
def h0 : Hp := (80, 0, fun _ => none)
/-- WHAT IS LEFT: the law's function answers 1 on every script, in its room. No word of the machine. -/
def PureOK : Prop := ∀ (N : Nat) (xs : Nat → Int32), N ≤ 3072 → ∃ h' : Hp, fL_law N xs h0 = some (1, h') ∧ h'.1 ≤ 600080 ∧ h'.2.1 ≤ 7302250
theorem lw_known {s : State} {args : Array Value} (hts : ∀ w ∈ lw_tbl, w.before args s = true) : ∃ D : va_G, ∀ (k : Nat) (q : vw_C), cls[k]? = some q → u_Kn s q.1 q.2.1 q.2.2 (D.1 k) (D.2 k) := by
  have h : ∀ k : Nat, ∃ (cI : ClassId) (iS : Nat → Nat), ∀ q : vw_C, cls[k]? = some q → u_Kn s q.1 q.2.1 q.2.2 cI iS := by
    intro k
    match k with
    | 0 => exact ⟨_, _, fun q hq => by cases hq; exact (u_known (n := 11) hts (fun w h => (ckX0 w h).1) (hts (.instantiable RX0 11) (List.mem_of_getElem? (i := 260) (by decide +kernel)))).choose_spec.choose_spec⟩
    | 1 => exact ⟨_, _, fun q hq => by cases hq; exact (u_known (n := 7) hts (fun w h => (ckX1 w h).1) (hts (.instantiable RX1 7) (List.mem_of_getElem? (i := 398) (by decide +kernel)))).choose_spec.choose_spec⟩
    | 2 => exact ⟨_, _, fun q hq => by cases hq; exact (u_known (n := 12) hts (fun w h => (ckX2 w h).1) (hts (.instantiable RX2 12) (List.mem_of_getElem? (i := 454) (by decide +kernel)))).choose_spec.choose_spec⟩
    | 3 => exact ⟨_, _, fun q hq => by cases hq; exact (u_known (n := 1) hts (fun w h => (ckX3 w h).1) (hts (.instantiable RX3 1) (List.mem_of_getElem? (i := 916) (by decide +kernel)))).choose_spec.choose_spec⟩
    | 4 => exact ⟨_, _, fun q hq => by cases hq; exact (u_known (n := 16) hts (fun w h => (ckX4 w h).1) (hts (.instantiable RX4 16) (List.mem_of_getElem? (i := 164) (by decide +kernel)))).choose_spec.choose_spec⟩
    | 5 => exact ⟨_, _, fun q hq => by cases hq; exact (u_known (n := 3) hts (fun w h => (ckX5 w h).1) (hts (.instantiable RX5 3) (List.mem_of_getElem? (i := 375) (by decide +kernel)))).choose_spec.choose_spec⟩
    | 6 => exact ⟨_, _, fun q hq => by cases hq; exact (u_known (n := 6) hts (fun w h => (ckX6 w h).1) (hts (.instantiable RX6 6) (List.mem_of_getElem? (i := 170) (by decide +kernel)))).choose_spec.choose_spec⟩
    | 7 => exact ⟨_, _, fun q hq => by cases hq; exact (u_known (n := 17) hts (fun w h => (ckX7 w h).1) (hts (.instantiable RX7 17) (List.mem_of_getElem? (i := 505) (by decide +kernel)))).choose_spec.choose_spec⟩
    | 8 => exact ⟨_, _, fun q hq => by cases hq; exact (u_known (n := 4) hts (fun w h => (ckX8 w h).1) (hts (.instantiable RX8 4) (List.mem_of_getElem? (i := 352) (by decide +kernel)))).choose_spec.choose_spec⟩
    | 9 => exact ⟨_, _, fun q hq => by cases hq; exact (u_known (n := 4) hts (fun w h => (ckX9 w h).1) (hts (.instantiable RX9 4) (List.mem_of_getElem? (i := 564) (by decide +kernel)))).choose_spec.choose_spec⟩
    | 10 => exact ⟨_, _, fun q hq => by cases hq; exact (u_known (n := 7) hts (fun w h => (ckX10 w h).1) (hts (.instantiable RX10 7) (List.mem_of_getElem? (i := 426) (by decide +kernel)))).choose_spec.choose_spec⟩
    | 11 => exact ⟨_, _, fun q hq => by cases hq; exact (u_known (n := 19) hts (fun w h => (ckX11 w h).1) (hts (.instantiable RX11 19) (List.mem_of_getElem? (i := 156) (by decide +kernel)))).choose_spec.choose_spec⟩
    | 12 => exact ⟨_, _, fun q hq => by cases hq; exact (u_known (n := 41) hts (fun w h => (ckX12 w h).1) (hts (.instantiable RX12 41) (List.mem_of_getElem? (i := 1489) (by decide +kernel)))).choose_spec.choose_spec⟩
    | k + 13 => exact ⟨0, fun _ => 0, fun q hq => by simp at hq⟩
  exact ⟨(fun k => (h k).choose, fun k => (h k).choose_spec.choose), fun k q hq => (h k).choose_spec.choose_spec q hq⟩
theorem lw_olds {s : State} {b : Nat} (hbl : b < s.heap.size) (hgv : (Jvm.Cond.and given_1 narrow_1).before #[Value.ref b] s = true) : ∀ j : Nat, ∃ a : Nat, j < 71 → a < s.heap.size ∧ ∀ tm : Term, oldT[j]? = some tm → tm.eval #[Value.ref b] s none [] s = some (.ref a) := by
  have hs := flat_of_before _ hgv
  intro j
  by_cases hj : j < 71
  · have key : ∃ (a : Nat) (tm : Term), a < s.heap.size ∧ oldT[j]? = some tm ∧ tm.eval #[Value.ref b] s none [] s = some (.ref a) := by
      by_cases j0 : j = 0
      · subst j0
        exact ⟨b, _, hbl, rfl, rfl⟩
      · by_cases j1 : j = 1
        · subst j1
          obtain ⟨t, ht, cell, q1, -⟩ := va_Tof (tm := .static "StoneMeet" "TENS" "[I") (ty := .int) (N := 4) (f := fun j => .int (tabv 1 j)) (A := fun q => s.heap.size ≤ q) (by decide) (hs _ (by decide +kernel)) (va_eqt (hs _ (by decide +kernel))) (fun j hj => by
            match j, hj with
            | 0, _ => exact va_eqt (hs (.eq (.elem (.static "StoneMeet" "TENS" "[I") (.int 0)) (.int 1)) (by decide +kernel))
            | 1, _ => exact va_eqt (hs (.eq (.elem (.static "StoneMeet" "TENS" "[I") (.int 1)) (.int 10)) (by decide +kernel))
            | 2, _ => exact va_eqt (hs (.eq (.elem (.static "StoneMeet" "TENS" "[I") (.int 2)) (.int 100)) (by decide +kernel))
            | 3, _ => exact va_eqt (hs (.eq (.elem (.static "StoneMeet" "TENS" "[I") (.int 3)) (.int 1000)) (by decide +kernel))) (oldA s)
          exact ⟨t, _, (Array.getElem?_eq_some_iff.mp q1).1, rfl, ht⟩
        · by_cases j2 : j = 2
          · subst j2
            obtain ⟨t, ht, cell, q1, -⟩ := va_Tof (tm := .static "StoneMeet" "FIVES" "[I") (ty := .int) (N := 4) (f := fun j => .int (tabv 2 j)) (A := fun q => s.heap.size ≤ q) (by decide) (hs _ (by decide +kernel)) (va_eqt (hs _ (by decide +kernel))) (fun j hj => by
              match j, hj with
              | 0, _ => exact va_eqt (hs (.eq (.elem (.static "StoneMeet" "FIVES" "[I") (.int 0)) (.int 1)) (by decide +kernel))
              | 1, _ => exact va_eqt (hs (.eq (.elem (.static "StoneMeet" "FIVES" "[I") (.int 1)) (.int 5)) (by decide +kernel))
              | 2, _ => exact va_eqt (hs (.eq (.elem (.static "StoneMeet" "FIVES" "[I") (.int 2)) (.int 25)) (by decide +kernel))
              | 3, _ => exact va_eqt (hs (.eq (.elem (.static "StoneMeet" "FIVES" "[I") (.int 3)) (.int 125)) (by decide +kernel))) (oldA s)
            exact ⟨t, _, (Array.getElem?_eq_some_iff.mp q1).1, rfl, ht⟩
          · by_cases j3 : j < 37
            · obtain ⟨i, hi, rfl⟩ : ∃ i, i < 34 ∧ j = 3 + i := ⟨j - 3, by omega, by omega⟩
              have h1 := strOK i hi _ (show Cond.exactly (strTm i) "java/lang/String" ∈ strE i by simp [strE])
              obtain ⟨a, c, cA, kA, q1, q2, q3, -⟩ := Cond.exactly_spec (args := #[Value.ref b]) (first := s) (o := none) (s := s) (idx := []) (t := strTm i) (cls := "java/lang/String") (hs _ h1)
              exact ⟨a, _, (Array.getElem?_eq_some_iff.mp q3).1, (oldS i hi).1, q1⟩
            · obtain ⟨i, hi, rfl⟩ : ∃ i, i < 34 ∧ j = 37 + i := ⟨j - 37, by omega, by omega⟩
              have hc := strOK i hi
              have h3 := hc _ (show Cond.arrayOf (strVl i) .byte ∈ strE i by simp [strE])
              have h4 := hc _ (show Cond.eq (.length (strVl i)) (.int (Int32.ofNat (strB.getD i []).length)) ∈ strE i by simp [strE])
              have h5 : ∀ k, k < (strB.getD i []).length → Cond.eq (.elem (strVl i) (.int (Int32.ofNat k))) (.int ((strB.getD i []).getD k 0)) ∈ strF := fun k hk => hc _ (List.mem_append_right _ (List.mem_map.mpr ⟨k, List.mem_range.mpr hk, rfl⟩))
              obtain ⟨t, ht, cell, q1, -⟩ := va_Tof (f := fun k => .int ((strB.getD i []).getD k 0)) (A := fun q => s.heap.size ≤ q) (strLen i hi) (hs _ h3) (va_eqt (hs _ h4)) (fun k hk => va_eqt (hs _ (h5 k hk))) (oldA s)
              exact ⟨t, _, (Array.getElem?_eq_some_iff.mp q1).1, (oldS i hi).2, ht⟩
    obtain ⟨a, tm, h1, h2, h3⟩ := key
    exact ⟨a, fun _ => ⟨h1, fun tm2 h4 => by rw [h2] at h4; cases h4; exact h3⟩⟩
  · exact ⟨0, fun h => absurd h hj⟩
theorem lw_fmt {s : State} {b : Nat} (hgv : (Jvm.Cond.and given_1 narrow_1).before #[Value.ref b] s = true) : ∃ a : Nat, fmtT.eval #[Value.ref b] s none [] s = some .null ∨ fmtT.eval #[Value.ref b] s none [] s = some (.ref a) := by
  have hs := flat_of_before _ hgv
  have h : (Cond.isRef fmtT).before #[Value.ref b] s = true := hs _ (by decide +kernel)
  obtain ⟨v, hv, hr⟩ := Cond.isRef_spec h
  cases v with
  | null => exact ⟨0, Or.inl hv⟩
  | ref a => exact ⟨a, Or.inr hv⟩
  | _ => cases hr
set_option maxHeartbeats 4000000 in
theorem whole_start_of (hpure : PureOK) {p : Program} {e : Env} {s : State} {m : MethodId} {below : List Frame} {meth : Method} {c : Code} (l : Launch) (hflags : l.flags = flags0) {b L : Nat} {xs : Nat → Int32} (hL : L ≤ 3072) (C0 : lw_At p s m meth c b L xs) : W p l e room_1 s m #[Value.ref b] below meth c s.heap [] 0 0 (lw_Z below #[Value.ref b] s) (entryFrame m ([Value.ref b] : List Value).toArray 4) := by
  obtain ⟨hx, hb, hr, hml, hown, hts, hX, hbl, hlocks, hgv, hnm⟩ := C0
  obtain ⟨D, hD⟩ := lw_known hts
  obtain ⟨fa, hfa⟩ := lw_fmt hgv
  obtain ⟨ol1, hol1⟩ := Classical.axiomOfChoice (lw_olds hbl hgv)
  have hol0 : ol1 0 = b := by
    have h1 := (hol1 0 (by decide)).2 _ rfl
    exact (Value.ref.inj (Option.some.inj h1)).symm
  obtain ⟨ol, hola, holb⟩ : ∃ ol : Nat → Nat, (∀ j, j < 71 → ol j = ol1 j) ∧ ol 71 = fa := ⟨fun j => if j = 71 then fa else ol1 j, fun j hj => if_neg (by omega), if_pos rfl⟩
  have e0 : ol 0 = b := by rw [hola 0 (by decide)]; exact hol0
  have hw : Wd s D ol L xs := by
    refine ⟨by rw [e0]; exact hts, hD, by rw [e0]; exact hgv, by rw [e0]; exact hX, fun j hj => by rw [hola j hj]; exact (hol1 j hj).1, fun j tm h => ?_, ?_⟩
    · have hj : j < 71 := (List.getElem?_eq_some_iff.mp h).1
      rw [e0, hola j hj]
      exact (hol1 j hj).2 tm h
    · rw [e0, holb]
      exact hfa
  obtain ⟨h', hs, hc1, hc2⟩ := hpure L xs hL
  have G := oL_law_0 (d := 2048) (by decide) hs ⟨rfl, rfl⟩
  have hl := lv_entry ([.ref b]) (n := 4) (Nat.le_of_ble_eq_true rfl)
  rw [lg_entry_eq]
  generalize (lg_sl ([.ref b]) ++ List.replicate (4 - (lg_sl ([.ref b])).length) Slot.unset).toArray = ls at hl ⊢
  have hLV : LV (ad s ol) ls 4 [some (.ref 0), none, none, none] := by
    refine ⟨hl.1, hl.2.1, fun i v hi => ?_⟩
    match i, hi with
    | 0, hi =>
      cases hi
      have : rv (ad s ol) (.ref 0) = .ref b := by show Value.ref (ad s ol 0) = _; rw [show ad s ol 0 = ol 0 from if_pos (by decide), e0]
      rw [this]
      exact hl.2.2 (0, .ref b) List.mem_cons_self
    | 1, hi => cases hi
    | 2, hi => cases hi
    | 3, hi => cases hi
    | k + 4, hi => simp at hi
  have hRep : Rep s D ol h0 s.heap := ⟨Nat.le_refl _, by show _ = _ + (80 - 80); omega, fun _ _ => rfl, fun n c h => by cases h⟩
  have K := (gx_subL (L := [some (.ref 0), none, none, none]) (by simp [subL]) G).2.2 s D ol hw p l e room_1 s m #[Value.ref b] below meth c ⟨hx, hb, hml, hr, hlocks, hown, hnm, State.WarmedH.refl s, Nat.le_refl _, by decide, Nat.le_refl _⟩ ls s.heap [] 0 0 hLV hRep (fun q hq => by cases hq) (by show 0 + (h'.1 - 80) ≤ 600000; omega) (by show 0 + (h'.2.1 - 0) ≤ 7302250; omega)
  intro T hT X
  obtain ⟨t, a1, o, b1, b2, ⟨hq, -⟩, LL, ⟨hv, hW, hframe⟩, hLL⟩ := K T hT X
  refine ⟨t, a1, o, b1, b2, hq, hv, hW, ?_⟩
  exact hframe.weaken (fun y hy hlt => absurd hlt (Nat.not_lt.mpr (hLL y hy))) (Nat.le_refl _) (Nat.le_refl _)
