/-! the small machine: calls -/
def entL (As : List Value) : List (Option Value) := As.flatMap (fun v => if v.category = 2 then [some v, none] else [some v])
def ent (As : List Value) (n : Nat) : List (Option Value) := entL As ++ List.replicate (n - (entL As).length) none
theorem entL_at (f : Nat → Nat) : ∀ (As : List Value) (b i : Nat) (v : Value), (entL As)[i]? = some (some v) → (b + i, rv f v) ∈ lv_args b (As.map (rv f))
  | [], b, i, v, h => by simp [entL] at h
  | a :: As, b, i, v, h => by
    have ih := entL_at f As
    simp only [List.map_cons, lv_args, rv_cat]
    by_cases hc : a.category = 2
    · have e : entL (a :: As) = some a :: none :: entL As := by simp [entL, hc]
      rw [e] at h
      match i, h with
      | 0, h => simp at h; subst h; exact List.mem_cons_self
      | 1, h => simp at h
      | j + 2, h =>
        have h2 : (entL As)[j]? = some (some v) := h
        rw [if_pos hc]
        refine List.mem_cons_of_mem _ ?_
        have := ih (b + 2) j v h2
        rw [show b + (j + 2) = b + 2 + j by omega]
        exact this
    · have e : entL (a :: As) = some a :: entL As := by simp [entL, hc]
      rw [e] at h
      match i, h with
      | 0, h => simp at h; subst h; exact List.mem_cons_self
      | j + 1, h =>
        have h2 : (entL As)[j]? = some (some v) := h
        rw [if_neg hc]
        refine List.mem_cons_of_mem _ ?_
        have := ih (b + 1) j v h2
        rw [show b + (j + 1) = b + 1 + j by omega]
        exact this
theorem entL_len (f : Nat → Nat) (As : List Value) : (lg_sl (As.map (rv f))).length = (entL As).length := by
  induction As with
  | nil => rfl
  | cons a As ih =>
    have e1 : lg_sl ((a :: As).map (rv f)) = (if a.category = 2 then [.val (rv f a), .second] else [.val (rv f a)]) ++ lg_sl (As.map (rv f)) := by simp [lg_sl, rv_cat]
    have e2 : entL (a :: As) = (if a.category = 2 then [some a, none] else [some a]) ++ entL As := by simp [entL]
    rw [e1, e2, List.length_append, List.length_append, ih]
    split <;> rfl
/-- a contract out of the walk of the body -/
theorem call_of {d : Nat} {M : Mt} {As : List Value} {h h' : Hp} {r : Option Value} (hn : plainName M.1.cls = true) (hlen : (entL As).length ≤ M.2.2.1) (k : Go d M 0 (ent As M.2.2.1) [] h r h') : Call d M As h r h' := by
  refine ⟨k.1, k.2.1, fun s0 D ol N xs hw l => ?_⟩
  refine Met.ofW (cc := M.2.1) (maxL := M.2.2.1) (ret := M.2.2.2) hn rfl ?_
  intro p e s m args below meth c s₁ B hml hv
  obtain ⟨rfl, hR, hW⟩ := hv
  have hlen2 : (lg_sl (As.map (rv (ad s0 ol)))).length ≤ M.2.2.1 := by rw [entL_len]; exact hlen
  have hl := lv_entry (As.map (rv (ad s0 ol))) (n := M.2.2.1) hlen2
  rw [lg_entry_eq]
  generalize (lg_sl (As.map (rv (ad s0 ol))) ++ List.replicate (M.2.2.1 - (lg_sl (As.map (rv (ad s0 ol)))).length) Slot.unset).toArray = ls at hl ⊢
  have hLV : LV (ad s0 ol) ls M.2.2.1 (ent As M.2.2.1) := by
    refine ⟨hl.1, hl.2.1, fun i v hi => ?_⟩
    unfold ent at hi
    by_cases hlt : i < (entL As).length
    · rw [List.getElem?_append_left hlt] at hi
      have h1 := entL_at (ad s0 ol) As 0 i v hi
      rw [Nat.zero_add] at h1
      exact hl.2.2 _ h1
    · rw [List.getElem?_append_right (by omega)] at hi
      have h2 := List.mem_of_getElem? hi
      have h3 := List.eq_of_mem_replicate h2
      cases h3
  have hown : s.vm.findClass M.1.cls = some m.cls := findClass_of_methodNamed B.named
  have hnm : meth.name = M.1.name := (name_of_methodNamed B.named B.method).1
  exact k.2.2 s0 D ol N xs hw p l e _ s m _ below meth c ⟨B.exec, B.bytes, hml, B.returns, B.notSynchronized, hown, hnm, hW, Nat.le_refl _, Nat.le_refl _, by rw [hR.2.1]; omega⟩ ls s.heap [] 0 0 hLV hR (fun q hq => by cases hq) (by show 0 + _ ≤ _; rw [Nat.zero_add]; exact Nat.le_refl _) (by show 0 + _ ≤ _; rw [Nat.zero_add]; exact Nat.le_refl _)
theorem run_go {p : Program} {l : Launch} {e : Env} {R : Room} {s : State} {m : MethodId} {args : Array Value} {below : List Frame} {meth : Method} {c : Code} {H : Heap} {locs : List Loc} {cells slots mc ms : Nat} {Q : State → Prop} {pc : Nat} {ls : Array Slot} {rest st0 : List Value} {a : Array Value} {s0 : State} {D : va_G} {ol : Nat → Nat} {r1 : Option Value} {h1 : Hp}
    (hr : va_Run p l e R s m args below meth c H locs cells slots mc ms (F0 m pc ls st0) rest (Qg s0 D ol r1 h1 a) (fun q => s0.heap.size ≤ q)) (hf : ∀ q ∈ locs, s0.heap.size ≤ q.base)
    (kk : ∀ (H1 : Heap) (locs1 : List Loc), Rep s0 D ol h1 H1 → (∀ q ∈ locs1, s0.heap.size ≤ q.base) → W p l e R s m args below meth c H1 locs1 (cells + mc) (slots + ms) Q (F0 m (pc + 3) ls ((r1.map (rv (ad s0 ol))).toList ++ rest))) : W p l e R s m args below meth c H locs cells slots Q (F0 m pc ls st0) := by
  intro T hT X
  obtain ⟨v, st₀, t, T', LL, h0, X', hL, e1, e2, ⟨hv, hR⟩, st⟩ := hr T hT X
  have hv := Outcome.returned.inj hv
  subst hv
  obtain ⟨t2, a1, b1⟩ := kk T'.heap (locs ++ LL) (by rw [e1]; exact hR) (fun q hq => by
    rcases List.mem_append.mp hq with w | w
    · exact hf q w
    · exact hL q w) T' rfl X'
  exact ⟨t2, st t2 a1, b1⟩
theorem Pg_blind (s0 : State) (D : va_G) (ol : Nat → Nat) (As : List Value) (h : Hp) : FrameBlind (Pg s0 D ol As h) := fun _ _ _ _ q => ⟨q.1, q.2.1, q.2.2⟩
/-- what the tables say of a method that is called with n arguments (the receiver apart) -/
def MB (M : Mt) (n : Nat) : Prop := Wg (.code M.1 M.2.1 M.2.2.1 M.2.2.2) ∧ Wg (.initialized M.1.cls) ∧ (M.1.cls ≠ "java/lang/invoke/MethodHandle" ∧ M.1.cls ≠ "java/lang/invoke/VarHandle") ∧ (parseMethodDescriptor M.1.desc).map (fun q => q.parameters.length) = some n ∧ M.2.2.1 ≤ 22
theorem MB.parts {s0 s : State} {D : va_G} {ol : Nat → Nat} {N : Nat} {xs : Nat → Int32} (hw : Wd s0 D ol N xs) (hW : s0.WarmedH s.vm) {M : Mt} {n : Nat} (h : MB M n) : (∀ w ∈ [Cond.code M.1 M.2.1 M.2.2.1 M.2.2.2], ∀ (a' : Array Value) (U : State), s.WarmedH U.vm → w.before a' U = true) ∧ ∀ sig, parseMethodDescriptor M.1.desc = some sig → n = sig.parameters.length := by
  refine ⟨fun w hm a' U hU => ?_, fun sig hs => ?_⟩
  · rw [List.mem_singleton.mp hm]
    exact word hw (State.WarmedH.trans hW hU) h.1
  · have h2 := h.2.2.2.1
    rw [hs] at h2
    exact (Option.some.inj h2).symm
theorem cat_map (f : Nat → Nat) (st : List Value) (h : (st.map fun v => v.category).sum ≤ 8) : ((st.map (rv f)).map fun v => v.category).sum ≤ 8 := by
  rw [List.map_map]
  have e : ((fun v : Value => v.category) ∘ rv f) = fun v => v.category := by funext v; exact rv_cat f v
  rw [e]
  exact h
theorem ret_map (f : Nat → Nat) (r1 : Option Value) (st : List Value) : (r1.map (rv f)).toList ++ st.map (rv f) = (r1.toList ++ st).map (rv f) := by cases r1 <;> simp
theorem go_invV {d : Nat} {M : Mt} {pc : Nat} {L : List (Option Value)} {st : List Value} {h h' : Hp} {r : Option Value} {M1 : Mt} {d1 index : Nat} {As : List Value} {h1 : Hp} {r1 : Option Value} {b ci : Nat} {q : vw_C} {fs : List Value} (hb0 : h.2.2 b = some (.inr (ci, fs))) (hc : cls[ci]? = some q) (hcn : q.1 = M1.1.cls) (hcall : Call d1 M1 (.ref b :: As) h r1 h1) (hdd : d1 + 1 ≤ d) (hm : MB M1 As.length) (hlk : Wg (.methodLink M.1.cls index M1.1)) (hin : Wg (.instanceMethod M1.1)) (hse : Wg (.selects M1.1.cls M1.1 M1.1)) (hst : (st.map fun v => v.category).sum ≤ 8) (hd : decode M.2.1 pc = .ok (.invokevirtual index, 3))
    (kk : Go d M (pc + 3) L (r1.toList ++ st) h1 r h') : Go d M pc L (As.reverse ++ .ref b :: st) h r h' := by
  have c1 := hcall.1
  have c2 := hcall.2.1
  have k1 := kk.1
  have k2 := kk.2.1
  refine ⟨Nat.le_trans c1 k1, Nat.le_trans c2 k2, fun s0 D ol N xs hw p l e R s m args below meth c C ls H locs cells slots hl hR hf b1 b2 => ?_⟩
  have K := kk.2.2 s0 D ol N xs hw p l e R s m args below meth c C ls
  obtain ⟨hx, hb, hml, hr, hlo, hown, hnm, hW, hfr, hlc, hsz⟩ := C
  have hp := hm.parts hw hW
  have hmet := hcall.2.2 s0 D ol N xs hw l
  have ml := hm.2.2.2.2
  obtain ⟨-, -, q', hq', hlen, cell, e1, e2, e3, e4⟩ := hR.2.2.2 b _ hb0
  have hqq : q' = q := Option.some.inj (hq'.symm.trans hc)
  subst hqq
  have hrecv : ∃ cellB : Cell, H[ad s0 ol b]? = some cellB ∧ cellB.vm.isStatics = false ∧ s.vm.findClass q'.1 = some cellB.cls := ⟨cell, e1, by rw [e3]; rfl, by rw [e2]; exact (u_Kn_moved hW.alike (hw.2.1 ci q' hc)).2.1⟩
  refine run_go (rest := st.map (rv (ad s0 ol))) (va_runV (As := As.map (rv (ad s0 ol))) (rest := st.map (rv (ad s0 ol))) (n := As.length) ⟨hx, hb, hml, hown, fun w hq => by cases hq⟩ (Ts := []) hmet (C := q'.1) ⟨⟨rfl, rfl, by show d1 + 1 ≤ _; omega, by show 8 + (M1.2.2.1 + 11) + 41 * d1 ≤ _; omega, hp.1, List.mem_singleton.mpr rfl, word hw hW hm.1, word hw hW hm.2.1, hm.2.2.1, hp.2, word hw hW hlk⟩, word hw hW hin, by rw [hcn]; exact word hw hW hse⟩ ⟨Pg_blind _ _ _ _ _, hrecv, fun U hU hWU => ⟨rfl, by rw [hU]; exact hR, State.WarmedH.trans hW hWU⟩⟩ rfl (by rw [List.length_map]) hl.1 (by simp [rv]) (lv_room (cat_map _ st hst)) hd ⟨by omega, by omega⟩) hf (fun H1 locs1 hR1 hf1 => ?_)
  rw [ret_map]
  exact K H1 locs1 _ _ hl hR1 hf1 (by omega) (by omega)
theorem go_invVN {d : Nat} {M : Mt} {pc : Nat} {L : List (Option Value)} {st : List Value} {h h' : Hp} {r : Option Value} {M1 : Mt} {d1 index : Nat} {As : List Value} {h1 : Hp} {r1 : Option Value} {b ci : Nat} {q : vw_C} {fs : List Value} {host : String} (hb0 : h.2.2 b = some (.inr (ci, fs))) (hc : cls[ci]? = some q) (hcn : q.1 = M1.1.cls) (hcall : Call d1 M1 (.ref b :: As) h r1 h1) (hdd : d1 + 1 ≤ d) (hm : MB M1 As.length) (hlk : Cond.methodLinkNest M.1.cls index M1.1 host ∈ lw_tbl) (hin : Wg (.instanceMethod M1.1)) (hse : Wg (.selects M1.1.cls M1.1 M1.1)) (hst : (st.map fun v => v.category).sum ≤ 8) (hd : decode M.2.1 pc = .ok (.invokevirtual index, 3))
    (kk : Go d M (pc + 3) L (r1.toList ++ st) h1 r h') : Go d M pc L (As.reverse ++ .ref b :: st) h r h' := by
  have c1 := hcall.1
  have c2 := hcall.2.1
  have k1 := kk.1
  have k2 := kk.2.1
  refine ⟨Nat.le_trans c1 k1, Nat.le_trans c2 k2, fun s0 D ol N xs hw p l e R s m args below meth c C ls H locs cells slots hl hR hf b1 b2 => ?_⟩
  have K := kk.2.2 s0 D ol N xs hw p l e R s m args below meth c C ls
  obtain ⟨hx, hb, hml, hr, hlo, hown, hnm, hW, hfr, hlc, hsz⟩ := C
  have hp := hm.parts hw hW
  have hmet := hcall.2.2 s0 D ol N xs hw l
  have ml := hm.2.2.2.2
  obtain ⟨-, -, q', hq', hlen, cell, e1, e2, e3, e4⟩ := hR.2.2.2 b _ hb0
  have hqq : q' = q := Option.some.inj (hq'.symm.trans hc)
  subst hqq
  have hrecv : ∃ cellB : Cell, H[ad s0 ol b]? = some cellB ∧ cellB.vm.isStatics = false ∧ s.vm.findClass q'.1 = some cellB.cls := ⟨cell, e1, by rw [e3]; rfl, by rw [e2]; exact (u_Kn_moved hW.alike (hw.2.1 ci q' hc)).2.1⟩
  refine run_go (rest := st.map (rv (ad s0 ol))) (va_runVN (As := As.map (rv (ad s0 ol))) (rest := st.map (rv (ad s0 ol))) (n := As.length) ⟨hx, hb, hml, hown, fun w hq => by cases hq⟩ (Ts := []) hmet (C := q'.1) ⟨⟨⟨rfl, rfl, by show d1 + 1 ≤ _; omega, by show 8 + (M1.2.2.1 + 11) + 41 * d1 ≤ _; omega, hp.1, List.mem_singleton.mpr rfl⟩, word hw hW hm.1, word hw hW hm.2.1, hm.2.2.1, hp.2, va_Nw.use rfl (va_Nw.warmM hW (va_Nw.of rfl (hw.1 _ hlk)))⟩, word hw hW hin, by rw [hcn]; exact word hw hW hse⟩ ⟨Pg_blind _ _ _ _ _, hrecv, fun U hU hWU => ⟨rfl, by rw [hU]; exact hR, State.WarmedH.trans hW hWU⟩⟩ rfl (by rw [List.length_map]) hl.1 (by simp [rv]) (lv_room (cat_map _ st hst)) hd ⟨by omega, by omega⟩) hf (fun H1 locs1 hR1 hf1 => ?_)
  rw [ret_map]
  exact K H1 locs1 _ _ hl hR1 hf1 (by omega) (by omega)
theorem go_invS {d : Nat} {M : Mt} {pc : Nat} {L : List (Option Value)} {st : List Value} {h h' : Hp} {r : Option Value} {M1 : Mt} {d1 index : Nat} {As : List Value} {h1 : Hp} {r1 : Option Value} (hcall : Call d1 M1 As h r1 h1) (hdd : d1 + 1 ≤ d) (hm : MB M1 As.length) (hlk : Wg (.methodLink M.1.cls index M1.1)) (hsa : Wg (.static M1.1)) (hst : (st.map fun v => v.category).sum ≤ 8) (hd : decode M.2.1 pc = .ok (.invokestatic index, 3))
    (kk : Go d M (pc + 3) L (r1.toList ++ st) h1 r h') : Go d M pc L (As.reverse ++ st) h r h' := by
  have c1 := hcall.1
  have c2 := hcall.2.1
  have k1 := kk.1
  have k2 := kk.2.1
  refine ⟨Nat.le_trans c1 k1, Nat.le_trans c2 k2, fun s0 D ol N xs hw p l e R s m args below meth c C ls H locs cells slots hl hR hf b1 b2 => ?_⟩
  have K := kk.2.2 s0 D ol N xs hw p l e R s m args below meth c C ls
  obtain ⟨hx, hb, hml, hr, hlo, hown, hnm, hW, hfr, hlc, hsz⟩ := C
  have hp := hm.parts hw hW
  have hmet := hcall.2.2 s0 D ol N xs hw l
  have ml := hm.2.2.2.2

  refine run_go (rest := st.map (rv (ad s0 ol))) (va_runS (As := As.map (rv (ad s0 ol))) (rest := st.map (rv (ad s0 ol))) (n := As.length) ⟨hx, hb, hml, hown, fun w hq => by cases hq⟩ (Ts := []) hmet ⟨⟨rfl, rfl, by show d1 + 1 ≤ _; omega, by show 8 + (M1.2.2.1 + 11) + 41 * d1 ≤ _; omega, hp.1, List.mem_singleton.mpr rfl, word hw hW hm.1, word hw hW hm.2.1, hm.2.2.1, hp.2, word hw hW hlk⟩, word hw hW hsa⟩ ⟨Pg_blind _ _ _ _ _, fun U hU hWU => ⟨rfl, by rw [hU]; exact hR, State.WarmedH.trans hW hWU⟩⟩ rfl (by rw [List.length_map]) hl.1 (by simp [rv]) (lv_room (cat_map _ st hst)) hd ⟨by omega, by omega⟩) hf (fun H1 locs1 hR1 hf1 => ?_)
  rw [ret_map]
  exact K H1 locs1 _ _ hl hR1 hf1 (by omega) (by omega)
theorem go_invSN {d : Nat} {M : Mt} {pc : Nat} {L : List (Option Value)} {st : List Value} {h h' : Hp} {r : Option Value} {M1 : Mt} {d1 index : Nat} {As : List Value} {h1 : Hp} {r1 : Option Value} {host : String} (hcall : Call d1 M1 As h r1 h1) (hdd : d1 + 1 ≤ d) (hm : MB M1 As.length) (hlk : Cond.methodLinkNest M.1.cls index M1.1 host ∈ lw_tbl) (hsa : Wg (.static M1.1)) (hst : (st.map fun v => v.category).sum ≤ 8) (hd : decode M.2.1 pc = .ok (.invokestatic index, 3))
    (kk : Go d M (pc + 3) L (r1.toList ++ st) h1 r h') : Go d M pc L (As.reverse ++ st) h r h' := by
  have c1 := hcall.1
  have c2 := hcall.2.1
  have k1 := kk.1
  have k2 := kk.2.1
  refine ⟨Nat.le_trans c1 k1, Nat.le_trans c2 k2, fun s0 D ol N xs hw p l e R s m args below meth c C ls H locs cells slots hl hR hf b1 b2 => ?_⟩
  have K := kk.2.2 s0 D ol N xs hw p l e R s m args below meth c C ls
  obtain ⟨hx, hb, hml, hr, hlo, hown, hnm, hW, hfr, hlc, hsz⟩ := C
  have hp := hm.parts hw hW
  have hmet := hcall.2.2 s0 D ol N xs hw l
  have ml := hm.2.2.2.2

  refine run_go (rest := st.map (rv (ad s0 ol))) (va_runSN (As := As.map (rv (ad s0 ol))) (rest := st.map (rv (ad s0 ol))) (n := As.length) ⟨hx, hb, hml, hown, fun w hq => by cases hq⟩ (Ts := []) hmet ⟨⟨⟨rfl, rfl, by show d1 + 1 ≤ _; omega, by show 8 + (M1.2.2.1 + 11) + 41 * d1 ≤ _; omega, hp.1, List.mem_singleton.mpr rfl⟩, word hw hW hm.1, word hw hW hm.2.1, hm.2.2.1, hp.2, va_Nw.use rfl (va_Nw.warmM hW (va_Nw.of rfl (hw.1 _ hlk)))⟩, word hw hW hsa, trivial⟩ ⟨Pg_blind _ _ _ _ _, fun U hU hWU => ⟨rfl, by rw [hU]; exact hR, State.WarmedH.trans hW hWU⟩⟩ rfl (by rw [List.length_map]) hl.1 (by simp [rv]) (lv_room (cat_map _ st hst)) hd ⟨by omega, by omega⟩) hf (fun H1 locs1 hR1 hf1 => ?_)
  rw [ret_map]
  exact K H1 locs1 _ _ hl hR1 hf1 (by omega) (by omega)
theorem go_invI {d : Nat} {M : Mt} {pc : Nat} {L : List (Option Value)} {st : List Value} {h h' : Hp} {r : Option Value} {M1 : Mt} {d1 index : Nat} {As : List Value} {h1 : Hp} {r1 : Option Value} {b : Nat} (hret : M1.2.2.2 = none) (hnm1 : M1.1.name = "<init>") (hcall : Call d1 M1 (.ref b :: As) h r1 h1) (hdd : d1 + 1 ≤ d) (hm : MB M1 As.length) (hlk : Wg (.methodLink M.1.cls index M1.1)) (hin : Wg (.instanceMethod M1.1)) (hst : (st.map fun v => v.category).sum ≤ 8) (hd : decode M.2.1 pc = .ok (.invokespecial index, 3))
    (kk : Go d M (pc + 3) L (r1.toList ++ st) h1 r h') : Go d M pc L (As.reverse ++ .ref b :: st) h r h' := by
  have c1 := hcall.1
  have c2 := hcall.2.1
  have k1 := kk.1
  have k2 := kk.2.1
  refine ⟨Nat.le_trans c1 k1, Nat.le_trans c2 k2, fun s0 D ol N xs hw p l e R s m args below meth c C ls H locs cells slots hl hR hf b1 b2 => ?_⟩
  have K := kk.2.2 s0 D ol N xs hw p l e R s m args below meth c C ls
  obtain ⟨hx, hb, hml, hr, hlo, hown, hnm, hW, hfr, hlc, hsz⟩ := C
  have hp := hm.parts hw hW
  have hmet := hcall.2.2 s0 D ol N xs hw l
  have ml := hm.2.2.2.2
  rw [hret] at hmet hp
  have hmc := hm.1
  rw [hret] at hmc
  refine run_go (rest := st.map (rv (ad s0 ol))) (va_runI (As := As.map (rv (ad s0 ol))) (rest := st.map (rv (ad s0 ol))) (n := As.length) ⟨hx, hb, hml, hown, fun w hq => by cases hq⟩ (Ts := []) hmet ⟨⟨rfl, rfl, by show d1 + 1 ≤ _; omega, by show 8 + (M1.2.2.1 + 11) + 41 * d1 ≤ _; omega, hp.1, List.mem_singleton.mpr rfl, word hw hW hmc, word hw hW hm.2.1, hm.2.2.1, hp.2, word hw hW hlk⟩, hnm1, word hw hW hin⟩ ⟨Pg_blind _ _ _ _ _, fun U hU hWU => ⟨rfl, by rw [hU]; exact hR, State.WarmedH.trans hW hWU⟩⟩ rfl (by rw [List.length_map]) hl.1 (by simp [rv]) (lv_room (cat_map _ st hst)) hd ⟨by omega, by omega⟩) hf (fun H1 locs1 hR1 hf1 => ?_)
  rw [ret_map]
  exact K H1 locs1 _ _ hl hR1 hf1 (by omega) (by omega)
theorem go_invIN {d : Nat} {M : Mt} {pc : Nat} {L : List (Option Value)} {st : List Value} {h h' : Hp} {r : Option Value} {M1 : Mt} {d1 index : Nat} {As : List Value} {h1 : Hp} {r1 : Option Value} {b : Nat} {host : String} (hret : M1.2.2.2 = none) (hnm1 : M1.1.name = "<init>") (hcall : Call d1 M1 (.ref b :: As) h r1 h1) (hdd : d1 + 1 ≤ d) (hm : MB M1 As.length) (hlk : Cond.methodLinkNest M.1.cls index M1.1 host ∈ lw_tbl) (hin : Wg (.instanceMethod M1.1)) (hst : (st.map fun v => v.category).sum ≤ 8) (hd : decode M.2.1 pc = .ok (.invokespecial index, 3))
    (kk : Go d M (pc + 3) L (r1.toList ++ st) h1 r h') : Go d M pc L (As.reverse ++ .ref b :: st) h r h' := by
  have c1 := hcall.1
  have c2 := hcall.2.1
  have k1 := kk.1
  have k2 := kk.2.1
  refine ⟨Nat.le_trans c1 k1, Nat.le_trans c2 k2, fun s0 D ol N xs hw p l e R s m args below meth c C ls H locs cells slots hl hR hf b1 b2 => ?_⟩
  have K := kk.2.2 s0 D ol N xs hw p l e R s m args below meth c C ls
  obtain ⟨hx, hb, hml, hr, hlo, hown, hnm, hW, hfr, hlc, hsz⟩ := C
  have hp := hm.parts hw hW
  have hmet := hcall.2.2 s0 D ol N xs hw l
  have ml := hm.2.2.2.2
  rw [hret] at hmet hp
  have hmc := hm.1
  rw [hret] at hmc
  refine run_go (rest := st.map (rv (ad s0 ol))) (va_runIN (As := As.map (rv (ad s0 ol))) (rest := st.map (rv (ad s0 ol))) (n := As.length) ⟨hx, hb, hml, hown, fun w hq => by cases hq⟩ (Ts := []) hmet ⟨⟨⟨rfl, rfl, by show d1 + 1 ≤ _; omega, by show 8 + (M1.2.2.1 + 11) + 41 * d1 ≤ _; omega, hp.1, List.mem_singleton.mpr rfl⟩, word hw hW hmc, word hw hW hm.2.1, hm.2.2.1, hp.2, va_Nw.use rfl (va_Nw.warmM hW (va_Nw.of rfl (hw.1 _ hlk)))⟩, hnm1, word hw hW hin⟩ ⟨Pg_blind _ _ _ _ _, fun U hU hWU => ⟨rfl, by rw [hU]; exact hR, State.WarmedH.trans hW hWU⟩⟩ rfl (by rw [List.length_map]) hl.1 (by simp [rv]) (lv_room (cat_map _ st hst)) hd ⟨by omega, by omega⟩) hf (fun H1 locs1 hR1 hf1 => ?_)
  rw [ret_map]
  exact K H1 locs1 _ _ hl hR1 hf1 (by omega) (by omega)
theorem go_objInit {d : Nat} {M : Mt} {pc : Nat} {L : List (Option Value)} {st : List Value} {h h' : Hp} {r : Option Value} {index b : Nat} (hlk : Wg (.methodLink M.1.cls index Lib.objectInit)) (hin : Wg (.instanceMethod Lib.objectInit)) (hco : Wg (.code Lib.objectInit ⟨#[0xb1]⟩ 1 none)) (hdd : 1 ≤ d) (hst : (st.map fun v => v.category).sum ≤ 8) (hd : decode M.2.1 pc = .ok (.invokespecial index, 3)) (kk : Go d M (pc + 3) L st h r h') : Go d M pc L (.ref b :: st) h r h' := by
  refine ⟨kk.1, kk.2.1, fun s0 D ol N xs hw p l e R s m args below meth c C ls H locs cells slots hl hR hf b1 b2 => ?_⟩
  have K := kk.2.2 s0 D ol N xs hw p l e R s m args below meth c C ls H locs cells slots hl hR hf b1 b2
  obtain ⟨hx, hb, hml, hr, hlo, hown, hnm, hW, hfr, hlc, hsz⟩ := C
  exact W.objInit hx hb hown (word hw hW hlk) (word hw hW hin) (word hw hW hco) rfl (hl.1.trans hml.symm) rfl hd (by omega) (by have := cat_map (ad s0 ol) st hst; show 2 * 0 + _ + 12 ≤ _; omega) K

