/-! the small machine: fields, arrays, new cells, answers -/
theorem ad_hi {s0 : State} {ol : Nat → Nat} {n : Nat} (h : 80 ≤ n) : ad s0 ol n = s0.heap.size + (n - 80) := if_neg (by omega)
theorem cellAt.kept {s0 : State} {D : va_G} {f : Nat → Nat} {H H1 : Heap} {n : Nat} {c : Cl} (h : cellAt s0 D f H n c) (e : H1[f n]? = H[f n]?) : cellAt s0 D f H1 n c := by
  rcases c with ⟨t, k, x⟩ | ⟨ci, fs⟩
  · obtain ⟨cA, h1, h2, h3⟩ := h
    exact ⟨cA, h1, h2, e.trans h3⟩
  · obtain ⟨r, h1, h2, h3⟩ := h
    exact ⟨r, h1, h2, h3.kept e⟩
theorem Rep.set {s0 : State} {D : va_G} {ol : Nat → Nat} {h : Hp} {H H1 : Heap} {a : Nat} {c c1 : Cl} (hR : Rep s0 D ol h H) (ha : h.2.2 a = some c) (z : H1.size = H.size) (oq : ∀ q : Nat, q ≠ ad s0 ol a → H1[q]? = H[q]?) (hc : cellAt s0 D (ad s0 ol) H1 a c1) : Rep s0 D ol (hp_set h a c1) H1 := by
  obtain ⟨h1, h2, h3, h4⟩ := hR
  obtain ⟨a1, a2, a3⟩ := h4 a c ha
  refine ⟨h1, z.trans h2, fun q hq => ?_, fun n c2 hn => ?_⟩
  · rw [oq q (by rw [ad_hi a1]; omega)]
    exact h3 q hq
  · simp only [hp_set] at hn ⊢
    by_cases e : n = a
    · subst e
      rw [if_pos rfl] at hn
      cases hn
      exact ⟨a1, a2, hc⟩
    · rw [if_neg e] at hn
      obtain ⟨b1, b2, b3⟩ := h4 n c2 hn
      exact ⟨b1, b2, b3.kept (oq _ (by rw [ad_hi a1, ad_hi b1]; omega))⟩
theorem Rep.new {s0 : State} {D : va_G} {ol : Nat → Nat} {h : Hp} {H H1 : Heap} {k : Nat} {c1 : Cl} (hR : Rep s0 D ol h H) (z : H1.size = H.size + 1) (oq : ∀ q : Nat, q < H.size → H1[q]? = H[q]?) (hc : cellAt s0 D (ad s0 ol) H1 h.1 c1) : Rep s0 D ol (hp_new h k c1) H1 := by
  obtain ⟨h1, h2, h3, h4⟩ := hR
  refine ⟨by simp only [hp_new]; omega, by simp only [hp_new]; rw [z, h2]; omega, fun q hq => ?_, fun n c2 hn => ?_⟩
  · rw [oq q (by omega)]
    exact h3 q hq
  · simp only [hp_new] at hn ⊢
    by_cases e : n = h.1
    · subst e
      rw [if_pos rfl] at hn
      cases hn
      exact ⟨h1, by omega, hc⟩
    · rw [if_neg e] at hn
      obtain ⟨b1, b2, b3⟩ := h4 n c2 hn
      exact ⟨b1, by omega, b3.kept (oq _ (by rw [ad_hi b1]; omega))⟩
theorem Rep.top {s0 : State} {D : va_G} {ol : Nat → Nat} {h : Hp} {H : Heap} (hR : Rep s0 D ol h H) : H.size = ad s0 ol h.1 := by rw [ad_hi hR.1]; exact hR.2.1
theorem cls_lays {s0 s : State} {D : va_G} {ol : Nat → Nat} {N : Nat} {xs : Nat → Int32} {args : Array Value} (hw : Wd s0 D ol N xs) (hW : s0.WarmedH s.vm) {ci k : Nat} {q : vw_C} (hc : cls[ci]? = some q) (hk : k < q.2.2) :
    (Cond.lays q.1 (q.2.1 k).1 (q.2.1 k).2.1 (q.2.1 k).2.2.1).before args s = true ∨ (Cond.laysFinal q.1 (q.2.1 k).1 (q.2.1 k).2.1 (q.2.1 k).2.2.1).before args s = true :=
  u_lays (ws := u_ws q.1 q.2.1 q.2.2) (fun w h => word hw hW (cls_ck ci q hc w h)) (fun _ h => h) hk
section HR
variable {d : Nat} {M : Mt} {pc : Nat} {L : List (Option Value)} {st : List Value} {h h' : Hp} {r : Option Value}
theorem go_get {index ci a k : Nat} {q : vw_C} {fs : List Value} {v : Value} (ha : h.2.2 a = some (.inr (ci, fs))) (hc : cls[ci]? = some q) (hk : k < q.2.2) (hv : fs[k]? = some v) (hlk : Wg (.fieldLink M.1.cls index (q.2.1 k).1 (q.2.1 k).2.1 (q.2.1 k).2.2.1)) (hd : decode M.2.1 pc = .ok (.getfield index, 3))
    (kk : Go d M (pc + 3) L (v :: st) h r h') : Go d M pc L (.ref a :: st) h r h' := by
  refine ⟨kk.1, kk.2.1, fun s0 D ol N xs hw p l e R s m args below meth c C ls H locs cells slots hl hR hf b1 b2 => ?_⟩
  have K := kk.2.2 s0 D ol N xs hw p l e R s m args below meth c C ls H locs cells slots hl hR hf b1 b2
  obtain ⟨hx, hb, hml, hr, hlo, hown, hnm, hW, hfr, hlc, hsz⟩ := C
  obtain ⟨-, -, q', hq', hlen, cell, e1, e2, e3, e4⟩ := hR.2.2.2 a _ ha
  have hqq : q' = q := Option.some.inj (hq'.symm.trans hc)
  subst hqq
  obtain ⟨hS, hfc, kC, hkC, hkind⟩ := u_Kn_moved hW.alike (hw.2.1 ci q' hc)
  obtain ⟨cf, kf, fi, f, hi, hsl⟩ := hS k hk
  refine W.getf hx hb hown (word hw hW hlk) hi (u_facts hfc hkC (cls_lays (args := args) hw hW hc hk) hi).1 e1 (by rw [e3]; exact fun h => by cases h) (v := rv (ad s0 ol) v) ?_ rfl rfl hd K
  rw [hsl, e4 k hk]
  simp [vp_V, hv]
theorem nar_rv {ty : FieldType} {v : Value} (f : Nat → Nat) (h : narrow ty v = v) : narrow ty (rv f v) = rv f v := by
  cases v <;> first | exact h | (cases ty <;> rfl)
theorem fits_rv {ty : FieldType} {v : Value} (f : Nat → Nat) (h : fits ty v = true) : fits ty (rv f v) = true := by
  cases v <;> first | exact h | (cases ty <;> first | exact h | rfl)
theorem cls_apart {s0 s : State} {D : va_G} {ol : Nat → Nat} {N : Nat} {xs : Nat → Int32} {args : Array Value} (hw : Wd s0 D ol N xs) (hW : s0.WarmedH s.vm) {ci : Nat} {q : vw_C} (hc : cls[ci]? = some q) : ∀ x y, x < q.2.2 → y < q.2.2 → x ≠ y → (D.2 ci) x ≠ (D.2 ci) y := by
  intro x y hx hy hne
  obtain ⟨hS, -⟩ := u_Kn_moved hW.alike (hw.2.1 ci q hc)
  obtain ⟨_, _, _, fa, hia, ea⟩ := hS x hx
  obtain ⟨_, _, _, fb, hib, eb⟩ := hS y hy
  rw [← ea, ← eb]
  refine u_apart (args := args) (cls_lays hw hW hc hx) (cls_lays hw hW hc hy) hia hib ?_
  rw [(State.fieldFound?_type hia (cls_ty ci q hc x hx)).1, (State.fieldFound?_type hib (cls_ty ci q hc y hy)).1]
  exact cls_nm ci q hc x hx y hy hne
theorem vp_V_map (f : Nat → Nat) (fs : List Value) (k : Nat) (v : Value) (hk : k < fs.length) (j : Nat) : updV (vp_V (fs.map (rv f))) k (rv f v) j = vp_V ((fs.set k v).map (rv f)) j := by
  rw [List.map_set]
  exact vp_updV_set (by simpa using hk) _ j
theorem go_put {index ci a k : Nat} {q : vw_C} {fs : List Value} {v : Value} (ha : h.2.2 a = some (.inr (ci, fs))) (hc : cls[ci]? = some q) (hk : k < q.2.2) (hfin : (q.2.1 k).2.2.2 = false) (hn : narrow (ctyp ci k) v = v) (hfit : fits (ctyp ci k) v = true) (hlk : Wg (.fieldLink M.1.cls index (q.2.1 k).1 (q.2.1 k).2.1 (q.2.1 k).2.2.1)) (hd : decode M.2.1 pc = .ok (.putfield index, 3))
    (kk : Go d M (pc + 3) L st (hp_set h a (.inr (ci, fs.set k v))) r h') : Go d M pc L (v :: .ref a :: st) h r h' := by
  refine ⟨kk.1, kk.2.1, fun s0 D ol N xs hw p l e R s m args below meth c C ls H locs cells slots hl hR hf b1 b2 => ?_⟩
  have K := kk.2.2 s0 D ol N xs hw p l e R s m args below meth c C ls
  obtain ⟨hx, hb, hml, hr, hlo, hown, hnm, hW, hfr, hlc, hsz⟩ := C
  obtain ⟨a1, a2, q', hq', hlen, cell, e1, e2, e3, e4⟩ := hR.2.2.2 a _ ha
  have hqq : q' = q := Option.some.inj (hq'.symm.trans hc)
  subst hqq
  obtain ⟨hS, hfc, kC, hkC, hkind⟩ := u_Kn_moved hW.alike (hw.2.1 ci q' hc)
  obtain ⟨cf, kf, fi, f, hi, hsl⟩ := hS k hk
  have hlay : (u_lay q'.1 q'.2.1 k).before args s = true := word hw hW (cls_ck ci q' hc _ (u_in_lay hk))
  unfold u_lay at hlay
  rw [if_neg (by rw [hfin]; decide)] at hlay
  have hst := (u_facts hfc hkC (cls_lays (args := args) hw hW hc hk) hi).1
  have h6 := u_store hfc hkC hkind hlay hi (cls_ty ci q' hc k hk) (nar_rv (ad s0 ol) hn) (fits_rv (ad s0 ol) hfit)
  refine W.putK hx hb (f := f) ⟨hown, word hw hW hlk, ⟨_, _, _, hi⟩, hst⟩ (by rw [e2]; exact h6) e1 e3 (by rw [hsl]; exact k2_hasslot (e4 k hk)) rfl rfl hd fun H' g1 g2 g3 => ?_
  rw [hsl] at g1 ⊢
  refine K H' _ cells slots hl (hR.set ha g2 g3 ⟨q', hq', by rw [List.length_set]; exact hlen, t_OB.to (V := updV (vp_V (fs.map (rv (ad s0 ol)))) k (rv (ad s0 ol) v)) ⟨_, g1, e2, e3, t_set e4 (cls_apart (args := args) hw hW hc) hk _⟩ (fun j _ => vp_V_map _ fs k v (by rw [hlen]; exact hk) j)⟩) (fun z hz => ?_) b1 b2
  rcases List.mem_append.mp hz with w | w
  · exact hf z w
  · rw [List.mem_singleton.mp w]
    show s0.heap.size ≤ ad s0 ol a
    rw [ad_hi a1]
    omega
theorem go_putF {index ci a k : Nat} {q : vw_C} {fs : List Value} {v : Value} (ha : h.2.2 a = some (.inr (ci, fs))) (hc : cls[ci]? = some q) (hk : k < q.2.2) (hfin : (q.2.1 k).2.2.2 = true) (hin2 : M.1.name = "<init>") (hdecl : (q.2.1 k).1 = M.1.cls) (hn : narrow (ctyp ci k) v = v) (hfit : fits (ctyp ci k) v = true) (hlk : Wg (.fieldLink M.1.cls index (q.2.1 k).1 (q.2.1 k).2.1 (q.2.1 k).2.2.1)) (hd : decode M.2.1 pc = .ok (.putfield index, 3))
    (kk : Go d M (pc + 3) L st (hp_set h a (.inr (ci, fs.set k v))) r h') : Go d M pc L (v :: .ref a :: st) h r h' := by
  refine ⟨kk.1, kk.2.1, fun s0 D ol N xs hw p l e R s m args below meth c C ls H locs cells slots hl hR hf b1 b2 => ?_⟩
  have K := kk.2.2 s0 D ol N xs hw p l e R s m args below meth c C ls
  obtain ⟨hx, hb, hml, hr, hlo, hown, hnm, hW, hfr, hlc, hsz⟩ := C
  obtain ⟨a1, a2, q', hq', hlen, cell, e1, e2, e3, e4⟩ := hR.2.2.2 a _ ha
  have hqq : q' = q := Option.some.inj (hq'.symm.trans hc)
  subst hqq
  obtain ⟨hS, hfc, kC, hkC, hkind⟩ := u_Kn_moved hW.alike (hw.2.1 ci q' hc)
  obtain ⟨cf, kf, fi, f, hi, hsl⟩ := hS k hk
  have hlay : (u_lay q'.1 q'.2.1 k).before args s = true := word hw hW (cls_ck ci q' hc _ (u_in_lay hk))
  unfold u_lay at hlay
  rw [if_pos hfin] at hlay
  have hst := (u_facts hfc hkC (cls_lays (args := args) hw hW hc hk) hi).1
  have hcf : m.cls = cf := by
    obtain ⟨_, _, c', _, _, _, -, -, hf', -, -, -, hown2, -⟩ := Cond.laysFinal_spec hlay
    have e1 : c' = cf := by have := hi.symm.trans hf'; simp at this; exact this.1.symm
    rw [hdecl] at hown2
    rw [← e1]; exact Option.some.inj (hown.symm.trans hown2)
  have h6 := u_fits hfc hkC hkind (Or.inr hlay) hi (cls_ty ci q' hc k hk) (nar_rv (ad s0 ol) hn) (fits_rv (ad s0 ol) hfit)
  refine W.putFinK hx hb hown (word hw hW hlk) hi hst hcf (hnm.trans hin2) (by rw [e2]; exact h6) e1 e3 (by rw [hsl]; exact k2_hasslot (e4 k hk)) rfl rfl hd fun H' g1 g2 g3 => ?_
  rw [hsl] at g1 ⊢
  refine K H' _ cells slots hl (hR.set ha g2 g3 ⟨q', hq', by rw [List.length_set]; exact hlen, t_OB.to (V := updV (vp_V (fs.map (rv (ad s0 ol)))) k (rv (ad s0 ol) v)) ⟨_, g1, e2, e3, t_set e4 (cls_apart (args := args) hw hW hc) hk _⟩ (fun j _ => vp_V_map _ fs k v (by rw [hlen]; exact hk) j)⟩) (fun z hz => ?_) b1 b2
  rcases List.mem_append.mp hz with w | w
  · exact hf z w
  · rw [List.mem_singleton.mp w]
    show s0.heap.size ≤ ad s0 ol a
    rw [ad_hi a1]
    omega
end HR
