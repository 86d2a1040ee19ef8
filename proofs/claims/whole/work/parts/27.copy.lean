/-! clone of an int array, arraycopy, a cast of an int array -/
def cln (h : Hp) (a : Nat) : Option Hp := match h.2.2 a with
  | some (.inl (t', n, .inl g)) => if t' = 0 then some (hp_new h n (.inl (0, n, .inl g))) else none
  | _ => none
def gA {α : Type} (h : Hp) (a : Nat) (e : Option α) : Option α := match h.2.2 a with
  | some (.inl (t', _, .inl _)) => if t' = 0 then e else none
  | _ => none
def acp (h : Hp) (a : Nat) (sp : Int32) (b : Nat) (dp n : Int32) : Option Hp := match h.2.2 a with
  | some (.inl (t0, n0, .inl f)) => match h.2.2 b with
    | some (.inl (t1, n1, .inl g)) => if (t0 = 0 ∧ t1 = 0) ∧ ¬ sp < 0 ∧ ¬ dp < 0 ∧ ¬ n < 0 ∧ sp.toNatClampNeg + n.toNatClampNeg ≤ n0 ∧ dp.toNatClampNeg + n.toNatClampNeg ≤ n1 then some (hp_set h b (.inl (0, n1, .inl (va_cpy f g sp.toNatClampNeg dp.toNatClampNeg n.toNatClampNeg)))) else none
    | _ => none
  | _ => none
def imax (x y : Int32) : Int32 := if x < y then y else x
def imin (x y : Int32) : Int32 := if y < x then y else x
theorem cw_clone : Wg (.methodLink RJ7 316 ⟨"[I", "clone", "()Ljava/lang/Object;"⟩) ∧ Wg (.sameMethod "[I" "java/lang/Object" "clone" "()Ljava/lang/Object;") ∧ Wg (.native ⟨"java/lang/Object", "clone", "()Ljava/lang/Object;"⟩) ∧ Wg (.instanceMethod ⟨"java/lang/Object", "clone", "()Ljava/lang/Object;"⟩) ∧ Wg (.selects "[I" ⟨"[I", "clone", "()Ljava/lang/Object;"⟩ ⟨"java/lang/Object", "clone", "()Ljava/lang/Object;"⟩) ∧ Cond.castable "[I" "java/lang/Cloneable" ∈ lw_tbl ∧ Wg (.classLink RJ7 317 "[I") := ⟨Wg.of 286 (by decide +kernel) (by decide +kernel), Wg.of 287 (by decide +kernel) (by decide +kernel), Wg.of 288 (by decide +kernel) (by decide +kernel), Wg.of 289 (by decide +kernel) (by decide +kernel), Wg.of 290 (by decide +kernel) (by decide +kernel), List.mem_of_getElem? (i := 291) (by decide +kernel), Wg.of 292 (by decide +kernel) (by decide +kernel)⟩
theorem cw_acopy : Wg (.methodLink RJ7 150 arraycopyName) ∧ Wg (.native arraycopyName) ∧ Wg (.static arraycopyName) ∧ Wg (.initialized "java/lang/System") := ⟨Wg.of 294 (by decide +kernel) (by decide +kernel), Wg.of 296 (by decide +kernel) (by decide +kernel), Wg.of 295 (by decide +kernel) (by decide +kernel), Wg.of 140 (by decide +kernel) (by decide +kernel)⟩
section CPY
variable {d : Nat} {M : Mt} {pc : Nat} {L : List (Option Value)} {st stk : List Value} {h h' : Hp} {r : Option Value}
theorem go_cln {a : Nat} {h1 : Hp} (hM : M.1.cls = RJ7) (hdd : 1 ≤ d) (hv : cln h a = some h1) (hst : (st.map fun v => v.category).sum ≤ 8) (hd : decode M.2.1 pc = .ok (.invokevirtual 316, 3)) (kk : Go d M (pc + 3) L (.ref h.1 :: st) h1 r h') : Go d M pc L (.ref a :: st) h r h' := by
  unfold cln at hv
  split at hv
  · rename_i t' n g hc
    split at hv
    · rename_i ht
      subst ht
      cases hv
      have k1 := kk.1
      have k2 := kk.2.1
      simp only [hp_new] at k1 k2
      refine ⟨by omega, by omega, fun s0 D ol N xs hw p l e R s m args below meth c C ls H locs cells slots hl hR hf b1 b2 => ?_⟩
      have K := kk.2.2 s0 D ol N xs hw p l e R s m args below meth c C ls
      obtain ⟨hx, hb, hml, hr, hlo, hown, hnm, hW, hfr, hlc, hsz⟩ := C
      rw [hM] at hown
      obtain ⟨-, -, cA, q1, q2, q3⟩ := hR.2.2.2 a _ hc
      have htop := hR.top
      have q2s := va_RA.moved hW.alike q2
      have q1s := arrOfT_moved hW.alike q1
      have hnmI : s.vm.findClass "[I" = some cA := va_nm_int q2s
      obtain ⟨c0, t0', f1, f2, f3⟩ := Cond.castable_spec (hw.1 _ cw_clone.2.2.2.2.2.1)
      rw [← hW.alike.findClass] at f1 f2
      rw [← hW.alike.assignable] at f3
      cases hnmI.symm.trans f1
      intro T hT X
      have hcellT : T.heap[ad s0 ol a]? = some (vp_cell cA (n, .inl g)) := by rw [hT]; exact q3
      obtain ⟨-, kA, hkA, comp, hkind⟩ := State.isArrayOf_alike X.warmed.alike (q1s 0 (fun _ => .null))
      obtain ⟨-, kS, hkS, compS, hkindS⟩ := q1s 0 (fun _ => .null)
      obtain ⟨vm', X', stp⟩ := X.cloneArray hx hown (word hw hW cw_clone.1) (word hw hW cw_clone.2.1) (word hw hW cw_clone.2.2.1) (word hw hW cw_clone.2.2.2.1) (word hw hW cw_clone.2.2.2.2.1) (a := ad s0 ol a) (cell := vp_cell cA (n, .inl g)) hcellT (fun k h => by cases h) (fun h => by cases h) hnmI f2 f3
        (fun i v hv => by
          have hk' : T.vm.classes[cA]? = some kA := hkA
          have hvi : ∃ z : Int32, v = .int z := by
            by_cases hin : i < n
            · have e0 : (vp_cell cA (n, .inl g)).slots[i]? = some (.int (g i)) := by show (arrV _ _ _).slots[_]? = _; rw [arrV_read _ _ hin]
              exact ⟨g i, Option.some.inj (hv.symm.trans e0)⟩
            · have hz : (vp_cell cA (n, .inl g)).slots.size = n := by show (arrV _ _ _).slots.size = _; rw [arrV_size]
              have := (Array.getElem?_eq_some_iff.mp hv).1
              omega
          obtain ⟨z, rfl⟩ := hvi
          show T.fitsSlot cA _ i (.int z) = true
          simp [State.fitsSlot, State.slotType?, hk', hkind, vp_cell, arrV, fits, aty])
        (g := F0 m pc ls ((.ref (ad s0 ol a)) :: st.map (rv (ad s0 ol)))) rfl (hl.1.trans hml.symm) rfl (by rw [hb]; exact hd) (by omega) (by have := cat_map (ad s0 ol) st hst; show 2 * 0 + _ + 14 ≤ _; omega) (by omega) (by show slots + (arrV _ _ _).slots.size ≤ _; rw [arrV_size]; omega) (hloader := Vm.clonesLoader_of_array hkS hkindS)
      have hz : (vp_cell cA (n, .inl g)).slots.size = n := by show (arrV _ _ _).slots.size = _; rw [arrV_size]
      rw [hz] at X'
      have K2 := K (H.push (vp_cell cA (n, .inl g))) locs (cells + 1) (slots + n) hl (hR.new (k := n) (by rw [Array.size_push]) (fun x hx => by rw [Array.getElem?_push, if_neg (Nat.ne_of_lt hx)]) ⟨cA, q1, q2, by rw [← htop, Array.getElem?_push_size]; rfl⟩) hf (by simp only [hp_new]; omega) (by simp only [hp_new]; omega)
      obtain ⟨t, g1, g2⟩ := K2 _ (by rw [← hT]; rfl) X'
      refine ⟨t, stp t ?_, g2⟩
      rw [hT, htop]
      exact g1
    · cases hv
  · cases hv
theorem gA_at {α : Type} {a : Nat} {e : Option α} {y : α} (q : gA h a e = some y) : (∃ (n : Nat) (g : Nat → Int32), h.2.2 a = some (.inl (0, n, .inl g))) ∧ e = some y := by
  unfold gA at q
  split at q
  · rename_i t' n g hc
    split at q
    · rename_i ht
      subst ht
      exact ⟨⟨n, g, hc⟩, q⟩
    · cases q
  · cases q
theorem go_castI {a : Nat} (hM : M.1.cls = RJ7) (ha : ∃ (n : Nat) (g : Nat → Int32), h.2.2 a = some (.inl (0, n, .inl g))) (hd : decode M.2.1 pc = .ok (.checkcast 317, 3)) (kk : Go d M (pc + 3) L (.ref a :: st) h r h') : Go d M pc L (.ref a :: st) h r h' := by
  obtain ⟨n, g, hc⟩ := ha
  refine ⟨kk.1, kk.2.1, fun s0 D ol N xs hw p l e R s m args below meth c C ls H locs cells slots hl hR hf b1 b2 => ?_⟩
  have K := kk.2.2 s0 D ol N xs hw p l e R s m args below meth c C ls H locs cells slots hl hR hf b1 b2
  obtain ⟨hx, hb, hml, hr, hlo, hown, hnm, hW, hfr, hlc, hsz⟩ := C
  rw [hM] at hown
  obtain ⟨-, -, cA, q1, q2, q3⟩ := hR.2.2.2 a _ hc
  exact va_castA (D := D) (cl := []) (ws := [(ad s0 ol a, .inl (cA, n, .inl g))]) hx hb hown (word hw hW cw_clone.2.2.2.2.2.2) (fun k q hk => by
    have hz : k < 1 := (List.getElem?_eq_some_iff.mp hk).1
    rw [show k = 0 by omega] at hk
    cases hk
    exact q3) 0 rfl (va_nm_int (va_RA.moved hW.alike q2)) hd K
theorem go_acp {a b : Nat} {sp dp n : Int32} {h1 : Hp} (hM : M.1.cls = RJ7) (hdd : 1 ≤ d) (hv : acp h a sp b dp n = some h1) (hst : (st.map fun v => v.category).sum ≤ 8) (hd : decode M.2.1 pc = .ok (.invokestatic 150, 3)) (kk : Go d M (pc + 3) L st h1 r h') : Go d M pc L (.int n :: .int dp :: .ref b :: .int sp :: .ref a :: st) h r h' := by
  unfold acp at hv
  split at hv
  · rename_i t0 n0 f hc0
    split at hv
    · rename_i t1 n1 g hc1
      split at hv
      · rename_i hh
        obtain ⟨⟨rfl, rfl⟩, g1, g2, g3, g4, g5⟩ := hh
        cases hv
        refine ⟨kk.1, kk.2.1, fun s0 D ol N xs hw p l e R s m args below meth c C ls H locs cells slots hl hR hf b1 b2 => ?_⟩
        have K := kk.2.2 s0 D ol N xs hw p l e R s m args below meth c C ls
        obtain ⟨hx, hb, hml, hr, hlo, hown, hnm, hW, hfr, hlc, hsz⟩ := C
        rw [hM] at hown
        obtain ⟨a1, a2, cA, q1, q2, q3⟩ := hR.2.2.2 a _ hc0
        obtain ⟨b1', b2', cB, p1, p2, p3⟩ := hR.2.2.2 b _ hc1
        have q1s := arrOfT_moved hW.alike q1
        have p1s := arrOfT_moved hW.alike p1
        have nn : ∀ z : Int32, ¬ z < 0 → z.toInt = (z.toNatClampNeg : Int) := by
          intro z hz
          have hz0 : (0 : Int) ≤ z.toInt := by
            have := Int32.not_lt.mp hz
            simpa using Int32.le_iff_toInt_le.mp this
          show z.toInt = ((z.toInt.toNat : Nat) : Int)
          omega
        intro T hT X
        obtain ⟨-, k0, hk0, cm0, hkk0⟩ := q1s n0 (fun j => .int (f j))
        obtain ⟨-, k1, hk1, cm1, hkk1⟩ := p1s n1 (fun j => .int (g j))
        have e0 : nativeFrameWords "java/lang/System" "arraycopy" 5 = 7 := by decide +kernel
        obtain ⟨vm', X', step⟩ := X.arraycopy hx hown (word hw hW cw_acopy.1) (word hw hW cw_acopy.2.1) (word hw hW cw_acopy.2.2.1) (word hw hW cw_acopy.2.2.2) (src := ad s0 ol a) (dst := ad s0 ol b) (cs := vp_cell cA (n0, .inl f)) (cd := vp_cell cB (n1, .inl g)) (srcPos := sp) (destPos := dp) (n := n) (by rw [hT]; exact q3) (by rw [hT]; exact p3)
          (fun _ h => by cases h) (fun _ h => by cases h) (fun h => by cases h) (fun h => by cases h) hk0 hk1 hkk0 hkk1 (by simp [refKind, aty]) g1 g2 g3
          (by rw [nn sp g1, nn n g3]; show ¬ _ > ((arrV cA n0 (fun j => .int (f j))).slots.size : Int); rw [arrV_size]; omega)
          (by rw [nn dp g2, nn n g3]; show ¬ _ > ((arrV cB n1 (fun j => .int (g j))).slots.size : Int); rw [arrV_size]; omega)
          (fun vm₁ _ i hi => by
            have e : (vp_cell cA (n0, .inl f)).slots.getD (sp.toNatClampNeg + i) .null = .int (f (sp.toNatClampNeg + i)) := by
              show (arrV cA n0 (fun j => .int (f j))).slots.getD _ _ = _
              rw [Array.getD_eq_getD_getElem?, arrV_read _ _ (by omega)]
              rfl
            refine ⟨?_, ?_⟩
            · rw [e]
              rfl
            · rw [e]
              exact trivial)
          (g := F0 m pc ls (.int n :: .int dp :: .ref (ad s0 ol b) :: .int sp :: .ref (ad s0 ol a) :: st.map (rv (ad s0 ol)))) rfl (hl.1.trans hml.symm) (rest := st.map (rv (ad s0 ol))) rfl (by rw [hb]; exact hd) (by omega) (by have := cat_map (ad s0 ol) st hst; show 2 * 0 + _ + _ ≤ _; rw [e0]; omega)
        have e1 : copied (vp_cell cA (n0, .inl f)) (vp_cell cB (n1, .inl g)) sp dp n = vp_cell cB (n1, .inl (va_cpy f g sp.toNatClampNeg dp.toNatClampNeg n.toNatClampNeg)) := va_copied (fun z => .int z) cA cB f g g4
        rw [e1] at X' step
        have hlb : ad s0 ol b < H.size := (Array.getElem?_eq_some_iff.mp p3).1
        have oq : ∀ q : Nat, q ≠ ad s0 ol b → (H.setIfInBounds (ad s0 ol b) (vp_cell cB (n1, .inl (va_cpy f g sp.toNatClampNeg dp.toNatClampNeg n.toNatClampNeg))))[q]? = H[q]? := fun q hq => by simp [Array.getElem?_setIfInBounds, Ne.symm hq]
        obtain ⟨t, z1, z2⟩ := K (H.setIfInBounds (ad s0 ol b) (vp_cell cB (n1, .inl (va_cpy f g sp.toNatClampNeg dp.toNatClampNeg n.toNatClampNeg)))) _ cells slots hl (hR.set hc1 (by simp) oq ⟨cB, p1, p2, by simp [Array.getElem?_setIfInBounds, hlb, rx]⟩) (fun q hq => by
          rcases List.mem_append.mp hq with w | w
          · exact hf q w
          · obtain ⟨z, -, hz⟩ := List.mem_map.mp w
            rw [← hz]
            show s0.heap.size ≤ ad s0 ol b
            rw [ad_hi b1']
            omega) b1 b2 _ (by rw [← hT]; rfl) X'
        exact ⟨t, step t z1, z2⟩
      · cases hv
    · cases hv
  · cases hv
theorem go_mmax {idx : Nat} {x y : Int32} (hlk : Wg (.methodLink M.1.cls idx Lib.Math.max.name)) (hsa : Wg (.static Lib.Math.max.name)) (hini : Wg (.initialized "java/lang/Math")) (hco : Wg (.code Lib.Math.max.name Lib.Math.max.code 2 (some .int))) (hdd : 1 ≤ d) (hst : (st.map fun v => v.category).sum ≤ 8) (hd : decode M.2.1 pc = .ok (.invokestatic idx, 3)) (kk : Go d M (pc + 3) L (.int (imax x y) :: st) h r h') : Go d M pc L (.int y :: .int x :: st) h r h' := by
  refine ⟨kk.1, kk.2.1, fun s0 D ol N xs hw p l e R s m args below meth c C ls H locs cells slots hl hR hf b1 b2 => ?_⟩
  have K := kk.2.2 s0 D ol N xs hw p l e R s m args below meth c C ls H locs cells slots hl hR hf b1 b2
  obtain ⟨hx, hb, hml, hr, hlo, hown, hnm, hW, hfr, hlc, hsz⟩ := C
  exact va_mmax hx hb (hml.trans hl.1.symm) hown (word hw hW hlk) (word hw hW hsa) (word hw hW hini) (word hw hW hco) (by omega) (by have := cat_map (ad s0 ol) st hst; omega) (by omega) (by omega) hd K
theorem go_mmin {idx : Nat} {x y : Int32} (hlk : Wg (.methodLink M.1.cls idx Lib.Math.min.name)) (hsa : Wg (.static Lib.Math.min.name)) (hini : Wg (.initialized "java/lang/Math")) (hco : Wg (.code Lib.Math.min.name Lib.Math.min.code 2 (some .int))) (hdd : 1 ≤ d) (hst : (st.map fun v => v.category).sum ≤ 8) (hd : decode M.2.1 pc = .ok (.invokestatic idx, 3)) (kk : Go d M (pc + 3) L (.int (imin x y) :: st) h r h') : Go d M pc L (.int y :: .int x :: st) h r h' := by
  refine ⟨kk.1, kk.2.1, fun s0 D ol N xs hw p l e R s m args below meth c C ls H locs cells slots hl hR hf b1 b2 => ?_⟩
  have K := kk.2.2 s0 D ol N xs hw p l e R s m args below meth c C ls H locs cells slots hl hR hf b1 b2
  obtain ⟨hx, hb, hml, hr, hlo, hown, hnm, hW, hfr, hlc, hsz⟩ := C
  exact va_mmin hx hb (hml.trans hl.1.symm) hown (word hw hW hlk) (word hw hW hsa) (word hw hW hini) (word hw hW hco) (by omega) (by have := cat_map (ad s0 ol) st hst; omega) (by omega) (by omega) hd K
end CPY
