/-! the law: its text as a function, and that the machine does just that -/
abbrev kL_law (rf : Option Value) (hf : Hp) : (Int32 × Hp) → Prop := fun y => rf = some (.int y.1) ∧ hf = y.2
abbrev pL_law_18 (N : Nat) (xs : Nat → Int32) (d : Nat) (x1 : Nat) (x2 : Nat) (rf : Option Value) (hf : Hp) : (Int32 × Hp) → Prop := fun s => GoX N xs d mL_law 18 [some (.ref 0), some (.ref x1), some (.ref x2), some (.int s.1)] [] s.2 rf hf
noncomputable def fL_law_1474 (N : Nat) (xs : Nat → Int32) (h : Hp) (x1 : Nat) (x2 : Nat) (x3 : Int32) : Option ((Int32 × Hp) ⊕ (Int32 × Hp)) :=
  some (.inl ((x3 + Int32.ofInt 6), h))
theorem oL_law_1474 {d : Nat} (hd : 112 ≤ d) {N : Nat} {xs : Nat → Int32} {h : Hp} {x1 : Nat} {x2 : Nat} {x3 : Int32} {rf : Option Value} {hf : Hp} {x : ((Int32 × Hp) ⊕ (Int32 × Hp))} (hs : fL_law_1474 N xs h x1 x2 x3 = some x) (hk : (Kx (pL_law_18 N xs d x1 x2 rf hf) (kL_law rf hf)) x) : GoX N xs d mL_law 1474 [some (.ref 0), some (.ref x1), some (.ref x2), some (.int x3)] [] h rf hf := by
  unfold fL_law_1474 at hs
  refine gx_iinc (L' := [some (.ref 0), some (.ref x1), some (.ref x2), some (.int (x3 + Int32.ofInt 6))]) rfl (by decide) rfl rfl dL_law_1474 ?_
  refine gx_goto (tgt := 18) (by decide) dL_law_1477 ?_
  obtain rfl := Option.some.inj hs
  exact gx_subL (L' := [some (.ref 0), some (.ref x1), some (.ref x2), some (.int (x3 + Int32.ofInt 6))]) (by simp [subL, va_rf]) hk
noncomputable def fL_law_18b (N : Nat) (xs : Nat → Int32) (h : Hp) (x1 : Nat) (x2 : Nat) (x3 : Int32) : Option ((Int32 × Hp) ⊕ (Int32 × Hp)) :=
  if ((Int32.ofNat N) - (6 : Int32)) < x3 then (
    some (.inr ((1 : Int32), h))) else (
    (xI N xs x3).bind fun v7 =>
    if (v7 &&& (63 : Int32)) = 0 then (
      (xI N xs (x3 + (1 : Int32))).bind fun v8 =>
      (xI N xs (x3 + (2 : Int32))).bind fun v9 =>
      (xI N xs (x3 + (3 : Int32))).bind fun v10 =>
      (xI N xs (x3 + (4 : Int32))).bind fun v11 =>
      (xI N xs (x3 + (5 : Int32))).bind fun v12 =>
      gO h 11 x1 (
      (fX11_feed h x1 v8 v9 v10 v11 v12).bind fun y13 =>
      (xI N xs (x3 + (1 : Int32))).bind fun v15 =>
      (xI N xs (x3 + (2 : Int32))).bind fun v16 =>
      (xI N xs (x3 + (3 : Int32))).bind fun v17 =>
      (xI N xs (x3 + (4 : Int32))).bind fun v18 =>
      (xI N xs (x3 + (5 : Int32))).bind fun v19 =>
      gO y13.2 12 x2 (
      (fX12_feed y13.2 x2 v15 v16 v17 v18 v19).bind fun y20 =>
      if y13.1 = y20.1 then (
      fL_law_1474 N xs y20.2 x1 x2 x3) else (
        some (.inr ((0 : Int32), y20.2)))))) else (
  if (v7 &&& (63 : Int32)) = 1 then (
      (xI N xs (x3 + (1 : Int32))).bind fun v22 =>
      gO h 11 x1 (
      (fX11_cave h x1 v22).bind fun y23 =>
      (xI N xs (x3 + (1 : Int32))).bind fun v25 =>
      gO y23.2 12 x2 (
      (fX12_cave y23.2 x2 v25).bind fun y26 =>
      if y23.1 = y26.1 then (
      fL_law_1474 N xs y26.2 x1 x2 x3) else (
        some (.inr ((0 : Int32), y26.2)))))) else (
  if (v7 &&& (63 : Int32)) = 2 then (
      (xI N xs (x3 + (1 : Int32))).bind fun v28 =>
      gO h 11 x1 (
      (fX11_fault h x1 v28).bind fun y29 =>
      (xI N xs (x3 + (1 : Int32))).bind fun v31 =>
      gO h 12 x2 (
      (fX12_fault h x2 v31).bind fun y32 =>
      if y29 = y32.1 then (
      fL_law_1474 N xs y32.2 x1 x2 x3) else (
        some (.inr ((0 : Int32), y32.2)))))) else (
  if (v7 &&& (63 : Int32)) = 3 then (
      (xI N xs (x3 + (1 : Int32))).bind fun v34 =>
      (xI N xs (x3 + (2 : Int32))).bind fun v35 =>
      gO h 11 x1 (
      (fX11_pair h x1 v34 v35).bind fun y36 =>
      (xI N xs (x3 + (1 : Int32))).bind fun v38 =>
      (xI N xs (x3 + (2 : Int32))).bind fun v39 =>
      gO h 12 x2 (
      (fX12_pair h x2 v38 v39).bind fun y40 =>
      if y36 = y40.1 then (
      fL_law_1474 N xs y40.2 x1 x2 x3) else (
        some (.inr ((0 : Int32), y40.2)))))) else (
  if (v7 &&& (63 : Int32)) = 4 then (
      (xI N xs (x3 + (1 : Int32))).bind fun v42 =>
      (xI N xs (x3 + (2 : Int32))).bind fun v43 =>
      (xI N xs (x3 + (3 : Int32))).bind fun v44 =>
      gO h 11 x1 (
      (fX11_grown h x1 v42 v43 v44).bind fun y45 =>
      (xI N xs (x3 + (1 : Int32))).bind fun v47 =>
      (xI N xs (x3 + (2 : Int32))).bind fun v48 =>
      (xI N xs (x3 + (3 : Int32))).bind fun v49 =>
      gO y45.2 12 x2 (
      (fX12_grown y45.2 x2 v47 v48 v49).bind fun y50 =>
      if y45.1 = y50.1 then (
      fL_law_1474 N xs y50.2 x1 x2 x3) else (
        some (.inr ((0 : Int32), y50.2)))))) else (
  if (v7 &&& (63 : Int32)) = 5 then (
      gO h 11 x1 (
      (fX11_leadings h x1).bind fun y52 =>
      gO h 12 x2 (
      (fX12_leadings h x2).bind fun y54 =>
      if y52 = y54.1 then (
      fL_law_1474 N xs y54.2 x1 x2 x3) else (
        some (.inr ((0 : Int32), y54.2)))))) else (
  if (v7 &&& (63 : Int32)) = 6 then (
      (xI N xs (x3 + (1 : Int32))).bind fun v56 =>
      gO h 11 x1 (
      (fX11_year h x1 v56).bind fun y57 =>
      (xI N xs (x3 + (1 : Int32))).bind fun v59 =>
      gO y57.2 12 x2 (
      (fX12_year y57.2 x2 v59).bind fun y60 =>
      if y57.1 = y60.1 then (
      fL_law_1474 N xs y60.2 x1 x2 x3) else (
        some (.inr ((0 : Int32), y60.2)))))) else (
  if (v7 &&& (63 : Int32)) = 7 then (
      (xI N xs (x3 + (1 : Int32))).bind fun v62 =>
      gO h 11 x1 (
      (fX11_lead h x1 v62).bind fun y63 =>
      (xI N xs (x3 + (1 : Int32))).bind fun v65 =>
      gO y63.2 12 x2 (
      (fX12_lead y63.2 x2 v65).bind fun y66 =>
      if y63.1 = y66.1 then (
      fL_law_1474 N xs y66.2 x1 x2 x3) else (
        some (.inr ((0 : Int32), y66.2)))))) else (
  if (v7 &&& (63 : Int32)) = 8 then (
      (xI N xs (x3 + (1 : Int32))).bind fun v68 =>
      gO h 11 x1 (
      (fX11_saw h x1 v68).bind fun y69 =>
      (xI N xs (x3 + (1 : Int32))).bind fun v71 =>
      gO y69.2 12 x2 (
      (fX12_saw y69.2 x2 v71).bind fun y72 =>
      if y69.1 = y72.1 then (
      fL_law_1474 N xs y72.2 x1 x2 x3) else (
        some (.inr ((0 : Int32), y72.2)))))) else (
  if (v7 &&& (63 : Int32)) = 9 then (
      (xI N xs (x3 + (1 : Int32))).bind fun v74 =>
      (xI N xs (x3 + (2 : Int32))).bind fun v75 =>
      gO h 11 x1 (
      (fX11_chalk h x1 v74 v75).bind fun y76 =>
      (xI N xs (x3 + (1 : Int32))).bind fun v78 =>
      (xI N xs (x3 + (2 : Int32))).bind fun v79 =>
      gO y76.2 12 x2 (
      (fX12_chalk y76.2 x2 v78 v79).bind fun y80 =>
      if y76.1 = y80.1 then (
      fL_law_1474 N xs y80.2 x1 x2 x3) else (
        some (.inr ((0 : Int32), y80.2)))))) else (
  if (v7 &&& (63 : Int32)) = 10 then (
      (xI N xs (x3 + (1 : Int32))).bind fun v82 =>
      gO h 11 x1 (
      (fX11_undo h x1 v82).bind fun y83 =>
      (xI N xs (x3 + (1 : Int32))).bind fun v85 =>
      gO y83.2 12 x2 (
      (fX12_undo y83.2 x2 v85).bind fun y86 =>
      if y83.1 = y86.1 then (
      fL_law_1474 N xs y86.2 x1 x2 x3) else (
        some (.inr ((0 : Int32), y86.2)))))) else (
  if (v7 &&& (63 : Int32)) = 11 then (
      (xI N xs (x3 + (1 : Int32))).bind fun v88 =>
      (xI N xs (x3 + (2 : Int32))).bind fun v89 =>
      gO h 11 x1 (
      (fX11_judge h x1 v88 v89).bind fun y90 =>
      (xI N xs (x3 + (1 : Int32))).bind fun v92 =>
      (xI N xs (x3 + (2 : Int32))).bind fun v93 =>
      gO y90.2 12 x2 (
      (fX12_judge y90.2 x2 v92 v93).bind fun y94 =>
      if y90.1 = y94.1 then (
      fL_law_1474 N xs y94.2 x1 x2 x3) else (
        some (.inr ((0 : Int32), y94.2)))))) else (
  if (v7 &&& (63 : Int32)) = 12 then (
      (xI N xs (x3 + (1 : Int32))).bind fun v96 =>
      gO h 11 x1 (
      (fX11_perform h x1 v96).bind fun y97 =>
      (xI N xs (x3 + (1 : Int32))).bind fun v99 =>
      gO y97.2 12 x2 (
      (fX12_perform y97.2 x2 v99).bind fun y100 =>
      if y97.1 = y100.1 then (
      fL_law_1474 N xs y100.2 x1 x2 x3) else (
        some (.inr ((0 : Int32), y100.2)))))) else (
  if (v7 &&& (63 : Int32)) = 13 then (
      (xI N xs (x3 + (1 : Int32))).bind fun v102 =>
      (xI N xs (x3 + (2 : Int32))).bind fun v103 =>
      gO h 11 x1 (
      (fX11_age h x1 v102 v103).bind fun y104 =>
      (xI N xs (x3 + (1 : Int32))).bind fun v106 =>
      (xI N xs (x3 + (2 : Int32))).bind fun v107 =>
      gO y104.2 12 x2 (
      (fX12_age y104.2 x2 v106 v107).bind fun y108 =>
      if y104.1 = y108.1 then (
      fL_law_1474 N xs y108.2 x1 x2 x3) else (
        some (.inr ((0 : Int32), y108.2)))))) else (
  if (v7 &&& (63 : Int32)) = 14 then (
      (xI N xs (x3 + (1 : Int32))).bind fun v110 =>
      (xI N xs (x3 + (2 : Int32))).bind fun v111 =>
      gO h 11 x1 (
      (fX11_lies h x1 v110 v111).bind fun y112 =>
      (xI N xs (x3 + (1 : Int32))).bind fun v114 =>
      (xI N xs (x3 + (2 : Int32))).bind fun v115 =>
      gO y112.2 12 x2 (
      (fX12_lies y112.2 x2 v114 v115).bind fun y116 =>
      if y112.1 = y116.1 then (
      fL_law_1474 N xs y116.2 x1 x2 x3) else (
        some (.inr ((0 : Int32), y116.2)))))) else (
  if (v7 &&& (63 : Int32)) = 15 then (
      (xI N xs (x3 + (1 : Int32))).bind fun v118 =>
      gO h 11 x1 (
      (fX11_meets h x1 v118).bind fun y119 =>
      (xI N xs (x3 + (1 : Int32))).bind fun v121 =>
      gO y119.2 12 x2 (
      (fX12_meets y119.2 x2 v121).bind fun y122 =>
      if y119.1 = y122.1 then (
      fL_law_1474 N xs y122.2 x1 x2 x3) else (
        some (.inr ((0 : Int32), y122.2)))))) else (
  if (v7 &&& (63 : Int32)) = 16 then (
      (xI N xs (x3 + (1 : Int32))).bind fun v124 =>
      gO h 11 x1 (
      (fX11_order h x1 v124).bind fun y125 =>
      (xI N xs (x3 + (1 : Int32))).bind fun v127 =>
      gO y125.2 12 x2 (
      (fX12_order y125.2 x2 v127).bind fun y128 =>
      if y125.1 = y128.1 then (
      fL_law_1474 N xs y128.2 x1 x2 x3) else (
        some (.inr ((0 : Int32), y128.2)))))) else (
  if (v7 &&& (63 : Int32)) = 17 then (
      gO h 11 x1 (
      (fX11_falls h x1).bind fun y130 =>
      gO y130.2 12 x2 (
      (fX12_falls y130.2 x2).bind fun y132 =>
      if y130.1 = y132.1 then (
      fL_law_1474 N xs y132.2 x1 x2 x3) else (
        some (.inr ((0 : Int32), y132.2)))))) else (
  if (v7 &&& (63 : Int32)) = 18 then (
      (xI N xs (x3 + (1 : Int32))).bind fun v134 =>
      (xI N xs (x3 + (2 : Int32))).bind fun v135 =>
      (xI N xs (x3 + (3 : Int32))).bind fun v136 =>
      gO h 11 x1 (
      (fX11_moved h x1 v134 v135 v136).bind fun y137 =>
      (xI N xs (x3 + (1 : Int32))).bind fun v139 =>
      (xI N xs (x3 + (2 : Int32))).bind fun v140 =>
      (xI N xs (x3 + (3 : Int32))).bind fun v141 =>
      gO y137.2 12 x2 (
      (fX12_moved y137.2 x2 v139 v140 v141).bind fun y142 =>
      if y137.1 = y142.1 then (
      fL_law_1474 N xs y142.2 x1 x2 x3) else (
        some (.inr ((0 : Int32), y142.2)))))) else (
  if (v7 &&& (63 : Int32)) = 19 then (
      (xI N xs (x3 + (1 : Int32))).bind fun v144 =>
      gO h 11 x1 (
      (fX11_soonest h x1 v144).bind fun y145 =>
      (xI N xs (x3 + (1 : Int32))).bind fun v147 =>
      gO y145.2 12 x2 (
      (fX12_soonest y145.2 x2 v147).bind fun y148 =>
      if y145.1 = y148.1 then (
      fL_law_1474 N xs y148.2 x1 x2 x3) else (
        some (.inr ((0 : Int32), y148.2)))))) else (
  if (v7 &&& (63 : Int32)) = 20 then (
      (xI N xs (x3 + (1 : Int32))).bind fun v150 =>
      (xI N xs (x3 + (2 : Int32))).bind fun v151 =>
      gO h 11 x1 (
      (fX11_way h x1 v150 v151).bind fun y152 =>
      (xI N xs (x3 + (1 : Int32))).bind fun v154 =>
      (xI N xs (x3 + (2 : Int32))).bind fun v155 =>
      gO y152.2 12 x2 (
      (fX12_way y152.2 x2 v154 v155).bind fun y156 =>
      if y152.1 = y156.1 then (
      fL_law_1474 N xs y156.2 x1 x2 x3) else (
        some (.inr ((0 : Int32), y156.2)))))) else (
  if (v7 &&& (63 : Int32)) = 21 then (
      (xI N xs (x3 + (1 : Int32))).bind fun v158 =>
      (xI N xs (x3 + (2 : Int32))).bind fun v159 =>
      gO h 11 x1 (
      (fX11_rows h x1 v158 v159).bind fun y160 =>
      (xI N xs (x3 + (1 : Int32))).bind fun v162 =>
      (xI N xs (x3 + (2 : Int32))).bind fun v163 =>
      gO y160.2 12 x2 (
      (fX12_rows y160.2 x2 v162 v163).bind fun y164 =>
      if (lg_cmp y160.1 y164.1) = 0 then (
      fL_law_1474 N xs y164.2 x1 x2 x3) else (
        some (.inr ((0 : Int32), y164.2)))))) else (
  if (v7 &&& (63 : Int32)) = 22 then (
      gO h 11 x1 (
      (fX11_most h x1).bind fun y166 =>
      gO y166.2 12 x2 (
      (fX12_most y166.2 x2).bind fun y168 =>
      if y166.1 = y168.1 then (
      fL_law_1474 N xs y168.2 x1 x2 x3) else (
        some (.inr ((0 : Int32), y168.2)))))) else (
  if (v7 &&& (63 : Int32)) = 23 then (
      gO h 11 x1 (
      (fX11_holding h x1).bind fun y170 =>
      gO y170.2 12 x2 (
      (fX12_holding y170.2 x2).bind fun y172 =>
      if y170.1 = y172.1 then (
      fL_law_1474 N xs y172.2 x1 x2 x3) else (
        some (.inr ((0 : Int32), y172.2)))))) else (
  if (v7 &&& (63 : Int32)) = 24 then (
      gO h 11 x1 (
      (fX11_felling h x1).bind fun y174 =>
      gO y174.2 12 x2 (
      (fX12_felling y174.2 x2).bind fun y176 =>
      if y174.1 = y176.1 then (
      fL_law_1474 N xs y176.2 x1 x2 x3) else (
        some (.inr ((0 : Int32), y176.2)))))) else (
  if (v7 &&& (63 : Int32)) = 25 then (
      gO h 11 x1 (
      (fX11_stands h x1).bind fun y178 =>
      gO y178.2 12 x2 (
      (fX12_stands y178.2 x2).bind fun y180 =>
      if y178.1 = y180.1 then (
      fL_law_1474 N xs y180.2 x1 x2 x3) else (
        some (.inr ((0 : Int32), y180.2)))))) else (
  if (v7 &&& (63 : Int32)) = 26 then (
      (xI N xs (x3 + (1 : Int32))).bind fun v182 =>
      (xI N xs (x3 + (2 : Int32))).bind fun v183 =>
      gO h 11 x1 (
      (fX11_seen h x1 v182 v183).bind fun y184 =>
      (xI N xs (x3 + (1 : Int32))).bind fun v186 =>
      (xI N xs (x3 + (2 : Int32))).bind fun v187 =>
      gO y184.2 12 x2 (
      (fX12_seen y184.2 x2 v186 v187).bind fun y188 =>
      if y184.1 = y188.1 then (
      fL_law_1474 N xs y188.2 x1 x2 x3) else (
        some (.inr ((0 : Int32), y188.2)))))) else (
  if (v7 &&& (63 : Int32)) = 27 then (
      (xI N xs (x3 + (1 : Int32))).bind fun v190 =>
      (xI N xs (x3 + (2 : Int32))).bind fun v191 =>
      (xI N xs (x3 + (3 : Int32))).bind fun v192 =>
      gO h 11 x1 (
      (fX11_seenDry h x1 v190 v191 v192).bind fun y193 =>
      (xI N xs (x3 + (1 : Int32))).bind fun v195 =>
      (xI N xs (x3 + (2 : Int32))).bind fun v196 =>
      (xI N xs (x3 + (3 : Int32))).bind fun v197 =>
      gO y193.2 12 x2 (
      (fX12_seenDry y193.2 x2 v195 v196 v197).bind fun y198 =>
      if y193.1 = y198.1 then (
      fL_law_1474 N xs y198.2 x1 x2 x3) else (
        some (.inr ((0 : Int32), y198.2)))))) else (
  if (v7 &&& (63 : Int32)) = 28 then (
      (xI N xs (x3 + (1 : Int32))).bind fun v200 =>
      (xI N xs (x3 + (2 : Int32))).bind fun v201 =>
      (xI N xs (x3 + (3 : Int32))).bind fun v202 =>
      gO h 11 x1 (
      (fX11_surely h x1 v200 v201 v202).bind fun y203 =>
      (xI N xs (x3 + (1 : Int32))).bind fun v205 =>
      (xI N xs (x3 + (2 : Int32))).bind fun v206 =>
      (xI N xs (x3 + (3 : Int32))).bind fun v207 =>
      gO y203.2 12 x2 (
      (fX12_surely y203.2 x2 v205 v206 v207).bind fun y208 =>
      if y203.1 = y208.1 then (
      fL_law_1474 N xs y208.2 x1 x2 x3) else (
        some (.inr ((0 : Int32), y208.2)))))) else (
  if (v7 &&& (63 : Int32)) = 29 then (
      (xI N xs (x3 + (1 : Int32))).bind fun v210 =>
      (xI N xs (x3 + (2 : Int32))).bind fun v211 =>
      gO h 11 x1 (
      (fX11_chalks h x1 v210 v211).bind fun y212 =>
      (xI N xs (x3 + (1 : Int32))).bind fun v214 =>
      (xI N xs (x3 + (2 : Int32))).bind fun v215 =>
      gO y212.2 12 x2 (
      (fX12_chalks y212.2 x2 v214 v215).bind fun y216 =>
      if y212.1 = y216.1 then (
      fL_law_1474 N xs y216.2 x1 x2 x3) else (
        some (.inr ((0 : Int32), y216.2)))))) else (
  if (v7 &&& (63 : Int32)) = 30 then (
      (xI N xs (x3 + (1 : Int32))).bind fun v218 =>
      (xI N xs (x3 + (2 : Int32))).bind fun v219 =>
      gO h 11 x1 (
      (fX11_attempt h x1 v218 v219).bind fun y220 =>
      (xI N xs (x3 + (1 : Int32))).bind fun v222 =>
      (xI N xs (x3 + (2 : Int32))).bind fun v223 =>
      gO y220.2 12 x2 (
      (fX12_attempt y220.2 x2 v222 v223).bind fun y224 =>
      if y220.1 = y224.1 then (
      fL_law_1474 N xs y224.2 x1 x2 x3) else (
        some (.inr ((0 : Int32), y224.2)))))) else (
  if (v7 &&& (63 : Int32)) = 31 then (
      (xI N xs (x3 + (1 : Int32))).bind fun v226 =>
      gO h 11 x1 (
      (fX11_forces h x1 v226).bind fun y227 =>
      (xI N xs (x3 + (1 : Int32))).bind fun v229 =>
      gO y227.2 12 x2 (
      (fX12_forces y227.2 x2 v229).bind fun y230 =>
      if y227.1 = y230.1 then (
      fL_law_1474 N xs y230.2 x1 x2 x3) else (
        some (.inr ((0 : Int32), y230.2)))))) else (
  if (v7 &&& (63 : Int32)) = 32 then (
      (xI N xs (x3 + (1 : Int32))).bind fun v232 =>
      gO h 11 x1 (
      (fX11_best h x1 v232).bind fun y233 =>
      (xI N xs (x3 + (1 : Int32))).bind fun v235 =>
      gO y233.2 12 x2 (
      (fX12_best y233.2 x2 v235).bind fun y236 =>
      if y233.1 = y236.1 then (
      fL_law_1474 N xs y236.2 x1 x2 x3) else (
        some (.inr ((0 : Int32), y236.2)))))) else (
  if (v7 &&& (63 : Int32)) = 33 then (
      (xI N xs (x3 + (1 : Int32))).bind fun v238 =>
      (xI N xs (x3 + (2 : Int32))).bind fun v239 =>
      (xI N xs (x3 + (3 : Int32))).bind fun v240 =>
      gO h 11 x1 (
      (fX11_chance h x1 v238 v239 v240).bind fun y241 =>
      (xI N xs (x3 + (1 : Int32))).bind fun v243 =>
      (xI N xs (x3 + (2 : Int32))).bind fun v244 =>
      (xI N xs (x3 + (3 : Int32))).bind fun v245 =>
      gO y241.2 12 x2 (
      (fX12_chance y241.2 x2 v243 v244 v245).bind fun y246 =>
      if y241.1 = y246.1 then (
      fL_law_1474 N xs y246.2 x1 x2 x3) else (
        some (.inr ((0 : Int32), y246.2)))))) else (
  if (v7 &&& (63 : Int32)) = 34 then (
      (xI N xs (x3 + (1 : Int32))).bind fun v248 =>
      (xI N xs (x3 + (2 : Int32))).bind fun v249 =>
      (xI N xs (x3 + (3 : Int32))).bind fun v250 =>
      gO h 11 x1 (
      (fX11_mean h x1 v248 v249 v250).bind fun y251 =>
      (xI N xs (x3 + (1 : Int32))).bind fun v253 =>
      (xI N xs (x3 + (2 : Int32))).bind fun v254 =>
      (xI N xs (x3 + (3 : Int32))).bind fun v255 =>
      gO y251.2 12 x2 (
      (fX12_mean y251.2 x2 v253 v254 v255).bind fun y256 =>
      if y251.1 = y256.1 then (
      fL_law_1474 N xs y256.2 x1 x2 x3) else (
        some (.inr ((0 : Int32), y256.2)))))) else (
  if (v7 &&& (63 : Int32)) = 35 then (
      (xI N xs (x3 + (1 : Int32))).bind fun v258 =>
      (xI N xs (x3 + (2 : Int32))).bind fun v259 =>
      gO h 11 x1 (
      (fX11_fallen h x1 v258 v259).bind fun y260 =>
      (xI N xs (x3 + (1 : Int32))).bind fun v262 =>
      (xI N xs (x3 + (2 : Int32))).bind fun v263 =>
      gO y260.2 12 x2 (
      (fX12_fallen y260.2 x2 v262 v263).bind fun y264 =>
      if y260.1 = y264.1 then (
      fL_law_1474 N xs y264.2 x1 x2 x3) else (
        some (.inr ((0 : Int32), y264.2)))))) else (
  if (v7 &&& (63 : Int32)) = 36 then (
      (xI N xs (x3 + (1 : Int32))).bind fun v266 =>
      (xI N xs (x3 + (2 : Int32))).bind fun v267 =>
      (xI N xs (x3 + (3 : Int32))).bind fun v268 =>
      gO h 11 x1 (
      (fX11_numbers h x1 v266 v267 v268).bind fun y269 =>
      (xI N xs (x3 + (1 : Int32))).bind fun v271 =>
      (xI N xs (x3 + (2 : Int32))).bind fun v272 =>
      (xI N xs (x3 + (3 : Int32))).bind fun v273 =>
      gO y269.2 12 x2 (
      (fX12_numbers y269.2 x2 v271 v272 v273).bind fun y274 =>
      if y269.1 = y274.1 then (
      fL_law_1474 N xs y274.2 x1 x2 x3) else (
        some (.inr ((0 : Int32), y274.2)))))) else (
  if (v7 &&& (63 : Int32)) = 37 then (
      (xI N xs (x3 + (1 : Int32))).bind fun v276 =>
      (xI N xs (x3 + (2 : Int32))).bind fun v277 =>
      (xI N xs (x3 + (3 : Int32))).bind fun v278 =>
      (xI N xs (x3 + (4 : Int32))).bind fun v279 =>
      lt (((v278.toInt64) <<< ((32 : Int32).toInt64 &&& 63)) ||| ((v279.toInt64) &&& (4294967295 : Int64))) fun w280 =>
      gO h 11 x1 (
      (fX11_write h x1 v276 v277 w280).bind fun y281 =>
      (xI N xs (x3 + (1 : Int32))).bind fun v283 =>
      (xI N xs (x3 + (2 : Int32))).bind fun v284 =>
      (xI N xs (x3 + (3 : Int32))).bind fun v285 =>
      (xI N xs (x3 + (4 : Int32))).bind fun v286 =>
      lt (((v285.toInt64) <<< ((32 : Int32).toInt64 &&& 63)) ||| ((v286.toInt64) &&& (4294967295 : Int64))) fun w287 =>
      gO y281.2 12 x2 (
      (fX12_write y281.2 x2 v283 v284 w287).bind fun y288 =>
      if (lg_cmp y281.1 y288.1) = 0 then (
      fL_law_1474 N xs y288.2 x1 x2 x3) else (
        some (.inr ((0 : Int32), y288.2)))))) else (
  if (v7 &&& (63 : Int32)) = 38 then (
      (xI N xs (x3 + (1 : Int32))).bind fun v290 =>
      (xI N xs (x3 + (2 : Int32))).bind fun v291 =>
      gO h 11 x1 (
      (fX11_lists h x1 v290 v291).bind fun y292 =>
      (xI N xs (x3 + (1 : Int32))).bind fun v294 =>
      (xI N xs (x3 + (2 : Int32))).bind fun v295 =>
      gO y292.2 12 x2 (
      (fX12_lists y292.2 x2 v294 v295).bind fun y296 =>
      if y292.1 = y296.1 then (
      fL_law_1474 N xs y296.2 x1 x2 x3) else (
        some (.inr ((0 : Int32), y296.2)))))) else (
  if (v7 &&& (63 : Int32)) = 39 then (
      (xI N xs (x3 + (1 : Int32))).bind fun v298 =>
      gO h 11 x1 (
      (fX11_image h x1 v298).bind fun y299 =>
      (xI N xs (x3 + (1 : Int32))).bind fun v301 =>
      gO y299.2 12 x2 (
      (fX12_image y299.2 x2 v301).bind fun y302 =>
      if y299.1 = y302.1 then (
      fL_law_1474 N xs y302.2 x1 x2 x3) else (
        some (.inr ((0 : Int32), y302.2)))))) else (
  if (v7 &&& (63 : Int32)) = 40 then (
      (xI N xs (x3 + (1 : Int32))).bind fun v304 =>
      gO h 11 x1 (
      (fX11_restore h x1 v304).bind fun y305 =>
      (xI N xs (x3 + (1 : Int32))).bind fun v307 =>
      gO y305.2 12 x2 (
      (fX12_restore y305.2 x2 v307).bind fun y308 =>
      if y305.1 = y308.1 then (
      fL_law_1474 N xs y308.2 x1 x2 x3) else (
        some (.inr ((0 : Int32), y308.2)))))) else (
  if (v7 &&& (63 : Int32)) = 41 then (
      (xI N xs (x3 + (1 : Int32))).bind fun v310 =>
      gO h 11 x1 (
      (fX11_count h x1 v310).bind fun y311 =>
      (xI N xs (x3 + (1 : Int32))).bind fun v313 =>
      gO h 12 x2 (
      (fX12_count h x2 v313).bind fun y314 =>
      if y311 = y314.1 then (
      fL_law_1474 N xs y314.2 x1 x2 x3) else (
        some (.inr ((0 : Int32), y314.2)))))) else (
    fL_law_1474 N xs h x1 x2 x3)))))))))))))))))))))))))))))))))))))))))))
noncomputable def fL_law_18 (N : Nat) (xs : Nat → Int32) (h : Hp) (x1 : Nat) (x2 : Nat) (x3 : Int32) : Option (Int32 × Hp) := lpw (σ := (Int32 × Hp)) (fun s => fL_law_18b N xs s.2 x1 x2 s.1) (x3, h)
theorem oL_law_18b {d : Nat} (hd : 112 ≤ d) {N : Nat} {xs : Nat → Int32} {h : Hp} {x1 : Nat} {x2 : Nat} {x3 : Int32} {rf : Option Value} {hf : Hp} {x : ((Int32 × Hp) ⊕ (Int32 × Hp))} (hs : fL_law_18b N xs h x1 x2 x3 = some x) (hk : (Kx (pL_law_18 N xs d x1 x2 rf hf) (kL_law rf hf)) x) : GoX N xs d mL_law 18 [some (.ref 0), some (.ref x1), some (.ref x2), some (.int x3)] [] h rf hf := by
  unfold fL_law_18b at hs
  refine gx_iload_n (k4 := 3) rfl dL_law_18 ?_
  refine gx_aload_n (k4 := 0) rfl (Or.inr ⟨_, rfl⟩) dL_law_19 ?_
  refine gx_xL dL_law_20 ?_
  refine gx_bipush (v := 6) (by decide) dL_law_21 ?_
  refine gx_isub dL_law_23 ?_
  refine gx_icmp_gt (tgt := 1480) (by decide) dL_law_24 (fun c => ?_) (fun c => ?_)
  · have hs := if_t c hs
    refine gx_iconst (v := 1) (by decide) dL_law_1480 ?_
    obtain rfl := Option.some.inj hs
    obtain ⟨rfl, rfl⟩ := hk
    exact gx_zret (ty := .boolean) rfl rfl dL_law_1481
  · have hs := if_f c hs
    refine gx_aload_n (k4 := 0) rfl (Or.inr ⟨_, rfl⟩) dL_law_27 ?_
    refine gx_iload_n (k4 := 3) rfl dL_law_28 ?_
    obtain ⟨v7, ev7, hs⟩ := bindS hs
    refine gx_xI ev7 dL_law_29 ?_
    refine gx_bipush (v := 63) (by decide) dL_law_30 ?_
    refine gx_iand dL_law_32 ?_
    by_cases c0 : (v7 &&& (63 : Int32)) = 0
    · have hs := if_t c0 hs
      refine gx_tableIn (off := 183) (tgt := 216) (by rw [c0]; decide) (by rw [c0]; decide) (by rw [c0]; rfl) (by decide) dL_law_33 ?_
      refine gx_aload_n (k4 := 1) rfl (Or.inr ⟨_, rfl⟩) dL_law_216 ?_
      refine gx_aload_n (k4 := 0) rfl (Or.inr ⟨_, rfl⟩) dL_law_217 ?_
      refine gx_iload_n (k4 := 3) rfl dL_law_218 ?_
      refine gx_iconst (v := 1) (by decide) dL_law_219 ?_
      refine gx_iadd dL_law_220 ?_
      obtain ⟨v8, ev8, hs⟩ := bindS hs
      refine gx_xI ev8 dL_law_221 ?_
      refine gx_aload_n (k4 := 0) rfl (Or.inr ⟨_, rfl⟩) dL_law_222 ?_
      refine gx_at 223 rfl ?_
      refine gx_iload_n (k4 := 3) rfl dL_law_223 ?_
      refine gx_iconst (v := 2) (by decide) dL_law_224 ?_
      refine gx_iadd dL_law_225 ?_
      obtain ⟨v9, ev9, hs⟩ := bindS hs
      refine gx_xI ev9 dL_law_226 ?_
      refine gx_aload_n (k4 := 0) rfl (Or.inr ⟨_, rfl⟩) dL_law_227 ?_
      refine gx_iload_n (k4 := 3) rfl dL_law_228 ?_
      refine gx_iconst (v := 3) (by decide) dL_law_229 ?_
      refine gx_iadd dL_law_230 ?_
      refine gx_at 231 rfl ?_
      obtain ⟨v10, ev10, hs⟩ := bindS hs
      refine gx_xI ev10 dL_law_231 ?_
      refine gx_aload_n (k4 := 0) rfl (Or.inr ⟨_, rfl⟩) dL_law_232 ?_
      refine gx_iload_n (k4 := 3) rfl dL_law_233 ?_
      refine gx_iconst (v := 4) (by decide) dL_law_234 ?_
      refine gx_iadd dL_law_235 ?_
      obtain ⟨v11, ev11, hs⟩ := bindS hs
      refine gx_xI ev11 dL_law_236 ?_
      refine gx_aload_n (k4 := 0) rfl (Or.inr ⟨_, rfl⟩) dL_law_237 ?_
      refine gx_iload_n (k4 := 3) rfl dL_law_238 ?_
      refine gx_at 239 rfl ?_
      refine gx_iconst (v := 5) (by decide) dL_law_239 ?_
      refine gx_iadd dL_law_240 ?_
      obtain ⟨v12, ev12, hs⟩ := bindS hs
      refine gx_xI ev12 dL_law_241 ?_
      obtain ⟨g14, hs⟩ := gO_at hs
      obtain ⟨y13, ey13, hs⟩ := bindS hs
      refine gx_V1 (As := [.int v8, .int v9, .int v10, .int v11, .int v12]) (st := []) g14 rfl rfl (oX11_feed (d := d - 1) (by omega) ey13) (by omega) mb_X11_feed lm_RL_13 mi_X11_feed (Nat.le_of_ble_eq_true rfl) rfl dL_law_242 ?_
      refine gx_aload_n (k4 := 2) rfl (Or.inr ⟨_, rfl⟩) dL_law_245 ?_
      refine gx_aload_n (k4 := 0) rfl (Or.inr ⟨_, rfl⟩) dL_law_246 ?_
      refine gx_iload_n (k4 := 3) rfl dL_law_247 ?_
      refine gx_iconst (v := 1) (by decide) dL_law_248 ?_
      refine gx_at 249 rfl ?_
      refine gx_iadd dL_law_249 ?_
      obtain ⟨v15, ev15, hs⟩ := bindS hs
      refine gx_xI ev15 dL_law_250 ?_
      refine gx_aload_n (k4 := 0) rfl (Or.inr ⟨_, rfl⟩) dL_law_251 ?_
      refine gx_iload_n (k4 := 3) rfl dL_law_252 ?_
      refine gx_iconst (v := 2) (by decide) dL_law_253 ?_
      refine gx_iadd dL_law_254 ?_
      obtain ⟨v16, ev16, hs⟩ := bindS hs
      refine gx_xI ev16 dL_law_255 ?_
      refine gx_aload_n (k4 := 0) rfl (Or.inr ⟨_, rfl⟩) dL_law_256 ?_
      refine gx_at 257 rfl ?_
      refine gx_iload_n (k4 := 3) rfl dL_law_257 ?_
      refine gx_iconst (v := 3) (by decide) dL_law_258 ?_
      refine gx_iadd dL_law_259 ?_
      obtain ⟨v17, ev17, hs⟩ := bindS hs
      refine gx_xI ev17 dL_law_260 ?_
      refine gx_aload_n (k4 := 0) rfl (Or.inr ⟨_, rfl⟩) dL_law_261 ?_
      refine gx_iload_n (k4 := 3) rfl dL_law_262 ?_
      refine gx_iconst (v := 4) (by decide) dL_law_263 ?_
      refine gx_iadd dL_law_264 ?_
      refine gx_at 265 rfl ?_
      obtain ⟨v18, ev18, hs⟩ := bindS hs
      refine gx_xI ev18 dL_law_265 ?_
      refine gx_aload_n (k4 := 0) rfl (Or.inr ⟨_, rfl⟩) dL_law_266 ?_
      refine gx_iload_n (k4 := 3) rfl dL_law_267 ?_
      refine gx_iconst (v := 5) (by decide) dL_law_268 ?_
      refine gx_iadd dL_law_269 ?_
      obtain ⟨v19, ev19, hs⟩ := bindS hs
      refine gx_xI ev19 dL_law_270 ?_
      obtain ⟨g21, hs⟩ := gO_at hs
      obtain ⟨y20, ey20, hs⟩ := bindS hs
      refine gx_V1 (As := [.int v15, .int v16, .int v17, .int v18, .int v19]) (st := [.int y13.1]) g21 rfl rfl (oX12_feed (d := d - 1) (by omega) ey20) (by omega) mb_X12_feed lm_RL_17 mi_X12_feed (Nat.le_of_ble_eq_true rfl) rfl dL_law_271 ?_
      refine gx_icmp_eq (tgt := 1474) (by decide) dL_law_274 (fun c => ?_) (fun c => ?_)
      · have hs := if_t c hs
        exact gx_subL (L' := [some (.ref 0), some (.ref x1), some (.ref x2), some (.int x3)]) (by simp [subL, va_rf]) (oL_law_1474 hd hs hk)
      · have hs := if_f c hs
        refine gx_iconst (v := 0) (by decide) dL_law_277 ?_
        obtain rfl := Option.some.inj hs
        obtain ⟨rfl, rfl⟩ := hk
        exact gx_zret (ty := .boolean) rfl rfl dL_law_278
    · have hs := if_f c0 hs
      by_cases c1 : (v7 &&& (63 : Int32)) = 1
      · have hs := if_t c1 hs
        refine gx_tableIn (off := 246) (tgt := 279) (by rw [c1]; decide) (by rw [c1]; decide) (by rw [c1]; rfl) (by decide) dL_law_33 ?_
        refine gx_aload_n (k4 := 1) rfl (Or.inr ⟨_, rfl⟩) dL_law_279 ?_
        refine gx_aload_n (k4 := 0) rfl (Or.inr ⟨_, rfl⟩) dL_law_280 ?_
        refine gx_iload_n (k4 := 3) rfl dL_law_281 ?_
        refine gx_iconst (v := 1) (by decide) dL_law_282 ?_
        refine gx_iadd dL_law_283 ?_
        obtain ⟨v22, ev22, hs⟩ := bindS hs
        refine gx_xI ev22 dL_law_284 ?_
        obtain ⟨g24, hs⟩ := gO_at hs
        obtain ⟨y23, ey23, hs⟩ := bindS hs
        refine gx_V1 (As := [.int v22]) (st := []) g24 rfl rfl (oX11_cave (d := d - 1) (by omega) ey23) (by omega) mb_X11_cave lm_RL_18 mi_X11_cave (Nat.le_of_ble_eq_true rfl) rfl dL_law_285 ?_
        refine gx_at 288 rfl ?_
        refine gx_aload_n (k4 := 2) rfl (Or.inr ⟨_, rfl⟩) dL_law_288 ?_
        refine gx_aload_n (k4 := 0) rfl (Or.inr ⟨_, rfl⟩) dL_law_289 ?_
        refine gx_iload_n (k4 := 3) rfl dL_law_290 ?_
        refine gx_iconst (v := 1) (by decide) dL_law_291 ?_
        refine gx_iadd dL_law_292 ?_
        obtain ⟨v25, ev25, hs⟩ := bindS hs
        refine gx_xI ev25 dL_law_293 ?_
        obtain ⟨g27, hs⟩ := gO_at hs
        obtain ⟨y26, ey26, hs⟩ := bindS hs
        refine gx_V1 (As := [.int v25]) (st := [.int y23.1]) g27 rfl rfl (oX12_cave (d := d - 1) (by omega) ey26) (by omega) mb_X12_cave lm_RL_22 mi_X12_cave (Nat.le_of_ble_eq_true rfl) rfl dL_law_294 ?_
        refine gx_icmp_eq (tgt := 1474) (by decide) dL_law_297 (fun c => ?_) (fun c => ?_)
        · have hs := if_t c hs
          exact gx_subL (L' := [some (.ref 0), some (.ref x1), some (.ref x2), some (.int x3)]) (by simp [subL, va_rf]) (oL_law_1474 hd hs hk)
        · have hs := if_f c hs
          refine gx_iconst (v := 0) (by decide) dL_law_300 ?_
          obtain rfl := Option.some.inj hs
          obtain ⟨rfl, rfl⟩ := hk
          exact gx_zret (ty := .boolean) rfl rfl dL_law_301
      · have hs := if_f c1 hs
        by_cases c2 : (v7 &&& (63 : Int32)) = 2
        · have hs := if_t c2 hs
          refine gx_tableIn (off := 269) (tgt := 302) (by rw [c2]; decide) (by rw [c2]; decide) (by rw [c2]; rfl) (by decide) dL_law_33 ?_
          refine gx_aload_n (k4 := 1) rfl (Or.inr ⟨_, rfl⟩) dL_law_302 ?_
          refine gx_aload_n (k4 := 0) rfl (Or.inr ⟨_, rfl⟩) dL_law_303 ?_
          refine gx_iload_n (k4 := 3) rfl dL_law_304 ?_
          refine gx_iconst (v := 1) (by decide) dL_law_305 ?_
          refine gx_iadd dL_law_306 ?_
          obtain ⟨v28, ev28, hs⟩ := bindS hs
          refine gx_xI ev28 dL_law_307 ?_
          obtain ⟨g30, hs⟩ := gO_at hs
          obtain ⟨y29, ey29, hs⟩ := bindS hs
          refine gx_V1 (As := [.int v28]) (st := []) g30 rfl rfl (oX11_fault (d := d - 1) (by omega) ey29) (by omega) mb_X11_fault lm_RL_23 mi_X11_fault (Nat.le_of_ble_eq_true rfl) rfl dL_law_308 ?_
          refine gx_at 311 rfl ?_
          refine gx_aload_n (k4 := 2) rfl (Or.inr ⟨_, rfl⟩) dL_law_311 ?_
          refine gx_aload_n (k4 := 0) rfl (Or.inr ⟨_, rfl⟩) dL_law_312 ?_
          refine gx_iload_n (k4 := 3) rfl dL_law_313 ?_
          refine gx_iconst (v := 1) (by decide) dL_law_314 ?_
          refine gx_iadd dL_law_315 ?_
          obtain ⟨v31, ev31, hs⟩ := bindS hs
          refine gx_xI ev31 dL_law_316 ?_
          obtain ⟨g33, hs⟩ := gO_at hs
          obtain ⟨y32, ey32, hs⟩ := bindS hs
          refine gx_V1 (As := [.int v31]) (st := [.int y29]) g33 rfl rfl (oX12_fault (d := d - 1) (by omega) ey32) (by omega) mb_X12_fault lm_RL_26 mi_X12_fault (Nat.le_of_ble_eq_true rfl) rfl dL_law_317 ?_
          refine gx_icmp_eq (tgt := 1474) (by decide) dL_law_320 (fun c => ?_) (fun c => ?_)
          · have hs := if_t c hs
            exact gx_subL (L' := [some (.ref 0), some (.ref x1), some (.ref x2), some (.int x3)]) (by simp [subL, va_rf]) (oL_law_1474 hd hs hk)
          · have hs := if_f c hs
            refine gx_iconst (v := 0) (by decide) dL_law_323 ?_
            obtain rfl := Option.some.inj hs
            obtain ⟨rfl, rfl⟩ := hk
            exact gx_zret (ty := .boolean) rfl rfl dL_law_324
        · have hs := if_f c2 hs
          by_cases c3 : (v7 &&& (63 : Int32)) = 3
          · have hs := if_t c3 hs
            refine gx_tableIn (off := 292) (tgt := 325) (by rw [c3]; decide) (by rw [c3]; decide) (by rw [c3]; rfl) (by decide) dL_law_33 ?_
            refine gx_aload_n (k4 := 1) rfl (Or.inr ⟨_, rfl⟩) dL_law_325 ?_
            refine gx_aload_n (k4 := 0) rfl (Or.inr ⟨_, rfl⟩) dL_law_326 ?_
            refine gx_iload_n (k4 := 3) rfl dL_law_327 ?_
            refine gx_iconst (v := 1) (by decide) dL_law_328 ?_
            refine gx_iadd dL_law_329 ?_
            obtain ⟨v34, ev34, hs⟩ := bindS hs
            refine gx_xI ev34 dL_law_330 ?_
            refine gx_aload_n (k4 := 0) rfl (Or.inr ⟨_, rfl⟩) dL_law_331 ?_
            refine gx_at 332 rfl ?_
            refine gx_iload_n (k4 := 3) rfl dL_law_332 ?_
            refine gx_iconst (v := 2) (by decide) dL_law_333 ?_
            refine gx_iadd dL_law_334 ?_
            obtain ⟨v35, ev35, hs⟩ := bindS hs
            refine gx_xI ev35 dL_law_335 ?_
            obtain ⟨g37, hs⟩ := gO_at hs
            obtain ⟨y36, ey36, hs⟩ := bindS hs
            refine gx_V1 (As := [.int v34, .int v35]) (st := []) g37 rfl rfl (oX11_pair (d := d - 1) (by omega) ey36) (by omega) mb_X11_pair lm_RL_27 mi_X11_pair (Nat.le_of_ble_eq_true rfl) rfl dL_law_336 ?_
            refine gx_aload_n (k4 := 2) rfl (Or.inr ⟨_, rfl⟩) dL_law_339 ?_
            refine gx_aload_n (k4 := 0) rfl (Or.inr ⟨_, rfl⟩) dL_law_340 ?_
            refine gx_iload_n (k4 := 3) rfl dL_law_341 ?_
            refine gx_at 342 rfl ?_
            refine gx_iconst (v := 1) (by decide) dL_law_342 ?_
            refine gx_iadd dL_law_343 ?_
            obtain ⟨v38, ev38, hs⟩ := bindS hs
            refine gx_xI ev38 dL_law_344 ?_
            refine gx_aload_n (k4 := 0) rfl (Or.inr ⟨_, rfl⟩) dL_law_345 ?_
            refine gx_iload_n (k4 := 3) rfl dL_law_346 ?_
            refine gx_iconst (v := 2) (by decide) dL_law_347 ?_
            refine gx_iadd dL_law_348 ?_
            obtain ⟨v39, ev39, hs⟩ := bindS hs
            refine gx_xI ev39 dL_law_349 ?_
            refine gx_at 350 rfl ?_
            obtain ⟨g41, hs⟩ := gO_at hs
            obtain ⟨y40, ey40, hs⟩ := bindS hs
            refine gx_V1 (As := [.int v38, .int v39]) (st := [.int y36]) g41 rfl rfl (oX12_pair (d := d - 1) (by omega) ey40) (by omega) mb_X12_pair lm_RL_31 mi_X12_pair (Nat.le_of_ble_eq_true rfl) rfl dL_law_350 ?_
            refine gx_icmp_eq (tgt := 1474) (by decide) dL_law_353 (fun c => ?_) (fun c => ?_)
            · have hs := if_t c hs
              exact gx_subL (L' := [some (.ref 0), some (.ref x1), some (.ref x2), some (.int x3)]) (by simp [subL, va_rf]) (oL_law_1474 hd hs hk)
            · have hs := if_f c hs
              refine gx_iconst (v := 0) (by decide) dL_law_356 ?_
              obtain rfl := Option.some.inj hs
              obtain ⟨rfl, rfl⟩ := hk
              exact gx_zret (ty := .boolean) rfl rfl dL_law_357
          · have hs := if_f c3 hs
            by_cases c4 : (v7 &&& (63 : Int32)) = 4
            · have hs := if_t c4 hs
              refine gx_tableIn (off := 325) (tgt := 358) (by rw [c4]; decide) (by rw [c4]; decide) (by rw [c4]; rfl) (by decide) dL_law_33 ?_
              refine gx_aload_n (k4 := 1) rfl (Or.inr ⟨_, rfl⟩) dL_law_358 ?_
              refine gx_aload_n (k4 := 0) rfl (Or.inr ⟨_, rfl⟩) dL_law_359 ?_
              refine gx_iload_n (k4 := 3) rfl dL_law_360 ?_
              refine gx_iconst (v := 1) (by decide) dL_law_361 ?_
              refine gx_iadd dL_law_362 ?_
              obtain ⟨v42, ev42, hs⟩ := bindS hs
              refine gx_xI ev42 dL_law_363 ?_
              refine gx_aload_n (k4 := 0) rfl (Or.inr ⟨_, rfl⟩) dL_law_364 ?_
              refine gx_at 365 rfl ?_
              refine gx_iload_n (k4 := 3) rfl dL_law_365 ?_
              refine gx_iconst (v := 2) (by decide) dL_law_366 ?_
              refine gx_iadd dL_law_367 ?_
              obtain ⟨v43, ev43, hs⟩ := bindS hs
              refine gx_xI ev43 dL_law_368 ?_
              refine gx_aload_n (k4 := 0) rfl (Or.inr ⟨_, rfl⟩) dL_law_369 ?_
              refine gx_iload_n (k4 := 3) rfl dL_law_370 ?_
              refine gx_iconst (v := 3) (by decide) dL_law_371 ?_
              refine gx_iadd dL_law_372 ?_
              refine gx_at 373 rfl ?_
              obtain ⟨v44, ev44, hs⟩ := bindS hs
              refine gx_xI ev44 dL_law_373 ?_
              obtain ⟨g46, hs⟩ := gO_at hs
              obtain ⟨y45, ey45, hs⟩ := bindS hs
              refine gx_V1 (As := [.int v42, .int v43, .int v44]) (st := []) g46 rfl rfl (oX11_grown (d := d - 1) (by omega) ey45) (by omega) mb_X11_grown lm_RL_32 mi_X11_grown (Nat.le_of_ble_eq_true rfl) rfl dL_law_374 ?_
              refine gx_aload_n (k4 := 2) rfl (Or.inr ⟨_, rfl⟩) dL_law_377 ?_
              refine gx_aload_n (k4 := 0) rfl (Or.inr ⟨_, rfl⟩) dL_law_378 ?_
              refine gx_iload_n (k4 := 3) rfl dL_law_379 ?_
              refine gx_iconst (v := 1) (by decide) dL_law_380 ?_
              refine gx_iadd dL_law_381 ?_
              obtain ⟨v47, ev47, hs⟩ := bindS hs
              refine gx_xI ev47 dL_law_382 ?_
              refine gx_at 383 rfl ?_
              refine gx_aload_n (k4 := 0) rfl (Or.inr ⟨_, rfl⟩) dL_law_383 ?_
              refine gx_iload_n (k4 := 3) rfl dL_law_384 ?_
              refine gx_iconst (v := 2) (by decide) dL_law_385 ?_
              refine gx_iadd dL_law_386 ?_
              obtain ⟨v48, ev48, hs⟩ := bindS hs
              refine gx_xI ev48 dL_law_387 ?_
              refine gx_aload_n (k4 := 0) rfl (Or.inr ⟨_, rfl⟩) dL_law_388 ?_
              refine gx_iload_n (k4 := 3) rfl dL_law_389 ?_
              refine gx_iconst (v := 3) (by decide) dL_law_390 ?_
              refine gx_at 391 rfl ?_
              refine gx_iadd dL_law_391 ?_
              obtain ⟨v49, ev49, hs⟩ := bindS hs
              refine gx_xI ev49 dL_law_392 ?_
              obtain ⟨g51, hs⟩ := gO_at hs
              obtain ⟨y50, ey50, hs⟩ := bindS hs
              refine gx_V1 (As := [.int v47, .int v48, .int v49]) (st := [.int y45.1]) g51 rfl rfl (oX12_grown (d := d - 1) (by omega) ey50) (by omega) mb_X12_grown lm_RL_36 mi_X12_grown (Nat.le_of_ble_eq_true rfl) rfl dL_law_393 ?_
              refine gx_icmp_eq (tgt := 1474) (by decide) dL_law_396 (fun c => ?_) (fun c => ?_)
              · have hs := if_t c hs
                exact gx_subL (L' := [some (.ref 0), some (.ref x1), some (.ref x2), some (.int x3)]) (by simp [subL, va_rf]) (oL_law_1474 hd hs hk)
              · have hs := if_f c hs
                refine gx_iconst (v := 0) (by decide) dL_law_399 ?_
                obtain rfl := Option.some.inj hs
                obtain ⟨rfl, rfl⟩ := hk
                exact gx_zret (ty := .boolean) rfl rfl dL_law_400
            · have hs := if_f c4 hs
              by_cases c5 : (v7 &&& (63 : Int32)) = 5
              · have hs := if_t c5 hs
                refine gx_tableIn (off := 368) (tgt := 401) (by rw [c5]; decide) (by rw [c5]; decide) (by rw [c5]; rfl) (by decide) dL_law_33 ?_
                refine gx_aload_n (k4 := 1) rfl (Or.inr ⟨_, rfl⟩) dL_law_401 ?_
                obtain ⟨g53, hs⟩ := gO_at hs
                obtain ⟨y52, ey52, hs⟩ := bindS hs
                refine gx_V1 (As := []) (st := []) g53 rfl rfl (oX11_leadings (d := d - 1) (by omega) ey52) (by omega) mb_X11_leadings lm_RL_37 mi_X11_leadings (Nat.le_of_ble_eq_true rfl) rfl dL_law_402 ?_
                refine gx_aload_n (k4 := 2) rfl (Or.inr ⟨_, rfl⟩) dL_law_405 ?_
                obtain ⟨g55, hs⟩ := gO_at hs
                obtain ⟨y54, ey54, hs⟩ := bindS hs
                refine gx_V1 (As := []) (st := [.int y52]) g55 rfl rfl (oX12_leadings (d := d - 1) (by omega) ey54) (by omega) mb_X12_leadings lm_RL_41 mi_X12_leadings (Nat.le_of_ble_eq_true rfl) rfl dL_law_406 ?_
                refine gx_icmp_eq (tgt := 1474) (by decide) dL_law_409 (fun c => ?_) (fun c => ?_)
                · have hs := if_t c hs
                  exact gx_subL (L' := [some (.ref 0), some (.ref x1), some (.ref x2), some (.int x3)]) (by simp [subL, va_rf]) (oL_law_1474 hd hs hk)
                · have hs := if_f c hs
                  refine gx_iconst (v := 0) (by decide) dL_law_412 ?_
                  obtain rfl := Option.some.inj hs
                  obtain ⟨rfl, rfl⟩ := hk
                  exact gx_zret (ty := .boolean) rfl rfl dL_law_413
              · have hs := if_f c5 hs
                by_cases c6 : (v7 &&& (63 : Int32)) = 6
                · have hs := if_t c6 hs
                  refine gx_tableIn (off := 381) (tgt := 414) (by rw [c6]; decide) (by rw [c6]; decide) (by rw [c6]; rfl) (by decide) dL_law_33 ?_
                  refine gx_aload_n (k4 := 1) rfl (Or.inr ⟨_, rfl⟩) dL_law_414 ?_
                  refine gx_aload_n (k4 := 0) rfl (Or.inr ⟨_, rfl⟩) dL_law_415 ?_
                  refine gx_iload_n (k4 := 3) rfl dL_law_416 ?_
                  refine gx_iconst (v := 1) (by decide) dL_law_417 ?_
                  refine gx_iadd dL_law_418 ?_
                  obtain ⟨v56, ev56, hs⟩ := bindS hs
                  refine gx_xI ev56 dL_law_419 ?_
                  obtain ⟨g58, hs⟩ := gO_at hs
                  obtain ⟨y57, ey57, hs⟩ := bindS hs
                  refine gx_V1 (As := [.int v56]) (st := []) g58 rfl rfl (oX11_year (d := d - 1) (by omega) ey57) (by omega) mb_X11_year lm_RL_42 mi_X11_year (Nat.le_of_ble_eq_true rfl) rfl dL_law_420 ?_
                  refine gx_at 423 rfl ?_
                  refine gx_aload_n (k4 := 2) rfl (Or.inr ⟨_, rfl⟩) dL_law_423 ?_
                  refine gx_aload_n (k4 := 0) rfl (Or.inr ⟨_, rfl⟩) dL_law_424 ?_
                  refine gx_iload_n (k4 := 3) rfl dL_law_425 ?_
                  refine gx_iconst (v := 1) (by decide) dL_law_426 ?_
                  refine gx_iadd dL_law_427 ?_
                  obtain ⟨v59, ev59, hs⟩ := bindS hs
                  refine gx_xI ev59 dL_law_428 ?_
                  obtain ⟨g61, hs⟩ := gO_at hs
                  obtain ⟨y60, ey60, hs⟩ := bindS hs
                  refine gx_V1 (As := [.int v59]) (st := [.int y57.1]) g61 rfl rfl (oX12_year (d := d - 1) (by omega) ey60) (by omega) mb_X12_year lm_RL_45 mi_X12_year (Nat.le_of_ble_eq_true rfl) rfl dL_law_429 ?_
                  refine gx_icmp_eq (tgt := 1474) (by decide) dL_law_432 (fun c => ?_) (fun c => ?_)
                  · have hs := if_t c hs
                    exact gx_subL (L' := [some (.ref 0), some (.ref x1), some (.ref x2), some (.int x3)]) (by simp [subL, va_rf]) (oL_law_1474 hd hs hk)
                  · have hs := if_f c hs
                    refine gx_iconst (v := 0) (by decide) dL_law_435 ?_
                    obtain rfl := Option.some.inj hs
                    obtain ⟨rfl, rfl⟩ := hk
                    exact gx_zret (ty := .boolean) rfl rfl dL_law_436
                · have hs := if_f c6 hs
                  by_cases c7 : (v7 &&& (63 : Int32)) = 7
                  · have hs := if_t c7 hs
                    refine gx_tableIn (off := 404) (tgt := 437) (by rw [c7]; decide) (by rw [c7]; decide) (by rw [c7]; rfl) (by decide) dL_law_33 ?_
                    refine gx_aload_n (k4 := 1) rfl (Or.inr ⟨_, rfl⟩) dL_law_437 ?_
                    refine gx_aload_n (k4 := 0) rfl (Or.inr ⟨_, rfl⟩) dL_law_438 ?_
                    refine gx_iload_n (k4 := 3) rfl dL_law_439 ?_
                    refine gx_iconst (v := 1) (by decide) dL_law_440 ?_
                    refine gx_iadd dL_law_441 ?_
                    obtain ⟨v62, ev62, hs⟩ := bindS hs
                    refine gx_xI ev62 dL_law_442 ?_
                    obtain ⟨g64, hs⟩ := gO_at hs
                    obtain ⟨y63, ey63, hs⟩ := bindS hs
                    refine gx_V1 (As := [.int v62]) (st := []) g64 rfl rfl (oX11_lead (d := d - 1) (by omega) ey63) (by omega) mb_X11_lead lm_RL_46 mi_X11_lead (Nat.le_of_ble_eq_true rfl) rfl dL_law_443 ?_
                    refine gx_at 446 rfl ?_
                    refine gx_aload_n (k4 := 2) rfl (Or.inr ⟨_, rfl⟩) dL_law_446 ?_
                    refine gx_aload_n (k4 := 0) rfl (Or.inr ⟨_, rfl⟩) dL_law_447 ?_
                    refine gx_iload_n (k4 := 3) rfl dL_law_448 ?_
                    refine gx_iconst (v := 1) (by decide) dL_law_449 ?_
                    refine gx_iadd dL_law_450 ?_
                    obtain ⟨v65, ev65, hs⟩ := bindS hs
                    refine gx_xI ev65 dL_law_451 ?_
                    obtain ⟨g67, hs⟩ := gO_at hs
                    obtain ⟨y66, ey66, hs⟩ := bindS hs
                    refine gx_V1 (As := [.int v65]) (st := [.int y63.1]) g67 rfl rfl (oX12_lead (d := d - 1) (by omega) ey66) (by omega) mb_X12_lead lm_RL_49 mi_X12_lead (Nat.le_of_ble_eq_true rfl) rfl dL_law_452 ?_
                    refine gx_icmp_eq (tgt := 1474) (by decide) dL_law_455 (fun c => ?_) (fun c => ?_)
                    · have hs := if_t c hs
                      exact gx_subL (L' := [some (.ref 0), some (.ref x1), some (.ref x2), some (.int x3)]) (by simp [subL, va_rf]) (oL_law_1474 hd hs hk)
                    · have hs := if_f c hs
                      refine gx_iconst (v := 0) (by decide) dL_law_458 ?_
                      obtain rfl := Option.some.inj hs
                      obtain ⟨rfl, rfl⟩ := hk
                      exact gx_zret (ty := .boolean) rfl rfl dL_law_459
                  · have hs := if_f c7 hs
                    by_cases c8 : (v7 &&& (63 : Int32)) = 8
                    · have hs := if_t c8 hs
                      refine gx_tableIn (off := 427) (tgt := 460) (by rw [c8]; decide) (by rw [c8]; decide) (by rw [c8]; rfl) (by decide) dL_law_33 ?_
                      refine gx_aload_n (k4 := 1) rfl (Or.inr ⟨_, rfl⟩) dL_law_460 ?_
                      refine gx_aload_n (k4 := 0) rfl (Or.inr ⟨_, rfl⟩) dL_law_461 ?_
                      refine gx_iload_n (k4 := 3) rfl dL_law_462 ?_
                      refine gx_iconst (v := 1) (by decide) dL_law_463 ?_
                      refine gx_iadd dL_law_464 ?_
                      obtain ⟨v68, ev68, hs⟩ := bindS hs
                      refine gx_xI ev68 dL_law_465 ?_
                      obtain ⟨g70, hs⟩ := gO_at hs
                      obtain ⟨y69, ey69, hs⟩ := bindS hs
                      refine gx_V1 (As := [.int v68]) (st := []) g70 rfl rfl (oX11_saw (d := d - 1) (by omega) ey69) (by omega) mb_X11_saw lm_RL_50 mi_X11_saw (Nat.le_of_ble_eq_true rfl) rfl dL_law_466 ?_
                      refine gx_at 469 rfl ?_
                      refine gx_aload_n (k4 := 2) rfl (Or.inr ⟨_, rfl⟩) dL_law_469 ?_
                      refine gx_aload_n (k4 := 0) rfl (Or.inr ⟨_, rfl⟩) dL_law_470 ?_
                      refine gx_iload_n (k4 := 3) rfl dL_law_471 ?_
                      refine gx_iconst (v := 1) (by decide) dL_law_472 ?_
                      refine gx_iadd dL_law_473 ?_
                      obtain ⟨v71, ev71, hs⟩ := bindS hs
                      refine gx_xI ev71 dL_law_474 ?_
                      obtain ⟨g73, hs⟩ := gO_at hs
                      obtain ⟨y72, ey72, hs⟩ := bindS hs
                      refine gx_V1 (As := [.int v71]) (st := [.int y69.1]) g73 rfl rfl (oX12_saw (d := d - 1) (by omega) ey72) (by omega) mb_X12_saw lm_RL_53 mi_X12_saw (Nat.le_of_ble_eq_true rfl) rfl dL_law_475 ?_
                      refine gx_icmp_eq (tgt := 1474) (by decide) dL_law_478 (fun c => ?_) (fun c => ?_)
                      · have hs := if_t c hs
                        exact gx_subL (L' := [some (.ref 0), some (.ref x1), some (.ref x2), some (.int x3)]) (by simp [subL, va_rf]) (oL_law_1474 hd hs hk)
                      · have hs := if_f c hs
                        refine gx_iconst (v := 0) (by decide) dL_law_481 ?_
                        obtain rfl := Option.some.inj hs
                        obtain ⟨rfl, rfl⟩ := hk
                        exact gx_zret (ty := .boolean) rfl rfl dL_law_482
                    · have hs := if_f c8 hs
                      by_cases c9 : (v7 &&& (63 : Int32)) = 9
                      · have hs := if_t c9 hs
                        refine gx_tableIn (off := 450) (tgt := 483) (by rw [c9]; decide) (by rw [c9]; decide) (by rw [c9]; rfl) (by decide) dL_law_33 ?_
                        refine gx_aload_n (k4 := 1) rfl (Or.inr ⟨_, rfl⟩) dL_law_483 ?_
                        refine gx_aload_n (k4 := 0) rfl (Or.inr ⟨_, rfl⟩) dL_law_484 ?_
                        refine gx_iload_n (k4 := 3) rfl dL_law_485 ?_
                        refine gx_iconst (v := 1) (by decide) dL_law_486 ?_
                        refine gx_iadd dL_law_487 ?_
                        obtain ⟨v74, ev74, hs⟩ := bindS hs
                        refine gx_xI ev74 dL_law_488 ?_
                        refine gx_aload_n (k4 := 0) rfl (Or.inr ⟨_, rfl⟩) dL_law_489 ?_
                        refine gx_at 490 rfl ?_
                        refine gx_iload_n (k4 := 3) rfl dL_law_490 ?_
                        refine gx_iconst (v := 2) (by decide) dL_law_491 ?_
                        refine gx_iadd dL_law_492 ?_
                        obtain ⟨v75, ev75, hs⟩ := bindS hs
                        refine gx_xI ev75 dL_law_493 ?_
                        obtain ⟨g77, hs⟩ := gO_at hs
                        obtain ⟨y76, ey76, hs⟩ := bindS hs
                        refine gx_V1 (As := [.int v74, .int v75]) (st := []) g77 rfl rfl (oX11_chalk (d := d - 1) (by omega) ey76) (by omega) mb_X11_chalk lm_RL_54 mi_X11_chalk (Nat.le_of_ble_eq_true rfl) rfl dL_law_494 ?_
                        refine gx_aload_n (k4 := 2) rfl (Or.inr ⟨_, rfl⟩) dL_law_497 ?_
                        refine gx_aload_n (k4 := 0) rfl (Or.inr ⟨_, rfl⟩) dL_law_498 ?_
                        refine gx_iload_n (k4 := 3) rfl dL_law_499 ?_
                        refine gx_at 500 rfl ?_
                        refine gx_iconst (v := 1) (by decide) dL_law_500 ?_
                        refine gx_iadd dL_law_501 ?_
                        obtain ⟨v78, ev78, hs⟩ := bindS hs
                        refine gx_xI ev78 dL_law_502 ?_
                        refine gx_aload_n (k4 := 0) rfl (Or.inr ⟨_, rfl⟩) dL_law_503 ?_
                        refine gx_iload_n (k4 := 3) rfl dL_law_504 ?_
                        refine gx_iconst (v := 2) (by decide) dL_law_505 ?_
                        refine gx_iadd dL_law_506 ?_
                        obtain ⟨v79, ev79, hs⟩ := bindS hs
                        refine gx_xI ev79 dL_law_507 ?_
                        refine gx_at 508 rfl ?_
                        obtain ⟨g81, hs⟩ := gO_at hs
                        obtain ⟨y80, ey80, hs⟩ := bindS hs
                        refine gx_V1 (As := [.int v78, .int v79]) (st := [.int y76.1]) g81 rfl rfl (oX12_chalk (d := d - 1) (by omega) ey80) (by omega) mb_X12_chalk lm_RL_57 mi_X12_chalk (Nat.le_of_ble_eq_true rfl) rfl dL_law_508 ?_
                        refine gx_icmp_eq (tgt := 1474) (by decide) dL_law_511 (fun c => ?_) (fun c => ?_)
                        · have hs := if_t c hs
                          exact gx_subL (L' := [some (.ref 0), some (.ref x1), some (.ref x2), some (.int x3)]) (by simp [subL, va_rf]) (oL_law_1474 hd hs hk)
                        · have hs := if_f c hs
                          refine gx_iconst (v := 0) (by decide) dL_law_514 ?_
                          obtain rfl := Option.some.inj hs
                          obtain ⟨rfl, rfl⟩ := hk
                          exact gx_zret (ty := .boolean) rfl rfl dL_law_515
                      · have hs := if_f c9 hs
                        by_cases c10 : (v7 &&& (63 : Int32)) = 10
                        · have hs := if_t c10 hs
                          refine gx_tableIn (off := 483) (tgt := 516) (by rw [c10]; decide) (by rw [c10]; decide) (by rw [c10]; rfl) (by decide) dL_law_33 ?_
                          refine gx_aload_n (k4 := 1) rfl (Or.inr ⟨_, rfl⟩) dL_law_516 ?_
                          refine gx_aload_n (k4 := 0) rfl (Or.inr ⟨_, rfl⟩) dL_law_517 ?_
                          refine gx_iload_n (k4 := 3) rfl dL_law_518 ?_
                          refine gx_iconst (v := 1) (by decide) dL_law_519 ?_
                          refine gx_iadd dL_law_520 ?_
                          obtain ⟨v82, ev82, hs⟩ := bindS hs
                          refine gx_xI ev82 dL_law_521 ?_
                          obtain ⟨g84, hs⟩ := gO_at hs
                          obtain ⟨y83, ey83, hs⟩ := bindS hs
                          refine gx_V1 (As := [.int v82]) (st := []) g84 rfl rfl (oX11_undo (d := d - 1) (by omega) ey83) (by omega) mb_X11_undo lm_RL_58 mi_X11_undo (Nat.le_of_ble_eq_true rfl) rfl dL_law_522 ?_
                          refine gx_at 525 rfl ?_
                          refine gx_aload_n (k4 := 2) rfl (Or.inr ⟨_, rfl⟩) dL_law_525 ?_
                          refine gx_aload_n (k4 := 0) rfl (Or.inr ⟨_, rfl⟩) dL_law_526 ?_
                          refine gx_iload_n (k4 := 3) rfl dL_law_527 ?_
                          refine gx_iconst (v := 1) (by decide) dL_law_528 ?_
                          refine gx_iadd dL_law_529 ?_
                          obtain ⟨v85, ev85, hs⟩ := bindS hs
                          refine gx_xI ev85 dL_law_530 ?_
                          obtain ⟨g87, hs⟩ := gO_at hs
                          obtain ⟨y86, ey86, hs⟩ := bindS hs
                          refine gx_V1 (As := [.int v85]) (st := [.int y83.1]) g87 rfl rfl (oX12_undo (d := d - 1) (by omega) ey86) (by omega) mb_X12_undo lm_RL_61 mi_X12_undo (Nat.le_of_ble_eq_true rfl) rfl dL_law_531 ?_
                          refine gx_icmp_eq (tgt := 1474) (by decide) dL_law_534 (fun c => ?_) (fun c => ?_)
                          · have hs := if_t c hs
                            exact gx_subL (L' := [some (.ref 0), some (.ref x1), some (.ref x2), some (.int x3)]) (by simp [subL, va_rf]) (oL_law_1474 hd hs hk)
                          · have hs := if_f c hs
                            refine gx_iconst (v := 0) (by decide) dL_law_537 ?_
                            obtain rfl := Option.some.inj hs
                            obtain ⟨rfl, rfl⟩ := hk
                            exact gx_zret (ty := .boolean) rfl rfl dL_law_538
                        · have hs := if_f c10 hs
                          by_cases c11 : (v7 &&& (63 : Int32)) = 11
                          · have hs := if_t c11 hs
                            refine gx_tableIn (off := 506) (tgt := 539) (by rw [c11]; decide) (by rw [c11]; decide) (by rw [c11]; rfl) (by decide) dL_law_33 ?_
                            refine gx_aload_n (k4 := 1) rfl (Or.inr ⟨_, rfl⟩) dL_law_539 ?_
                            refine gx_aload_n (k4 := 0) rfl (Or.inr ⟨_, rfl⟩) dL_law_540 ?_
                            refine gx_iload_n (k4 := 3) rfl dL_law_541 ?_
                            refine gx_iconst (v := 1) (by decide) dL_law_542 ?_
                            refine gx_iadd dL_law_543 ?_
                            obtain ⟨v88, ev88, hs⟩ := bindS hs
                            refine gx_xI ev88 dL_law_544 ?_
                            refine gx_aload_n (k4 := 0) rfl (Or.inr ⟨_, rfl⟩) dL_law_545 ?_
                            refine gx_at 546 rfl ?_
                            refine gx_iload_n (k4 := 3) rfl dL_law_546 ?_
                            refine gx_iconst (v := 2) (by decide) dL_law_547 ?_
                            refine gx_iadd dL_law_548 ?_
                            obtain ⟨v89, ev89, hs⟩ := bindS hs
                            refine gx_xI ev89 dL_law_549 ?_
                            obtain ⟨g91, hs⟩ := gO_at hs
                            obtain ⟨y90, ey90, hs⟩ := bindS hs
                            refine gx_V1 (As := [.int v88, .int v89]) (st := []) g91 rfl rfl (oX11_judge (d := d - 1) (by omega) ey90) (by omega) mb_X11_judge lm_RL_62 mi_X11_judge (Nat.le_of_ble_eq_true rfl) rfl dL_law_550 ?_
                            refine gx_aload_n (k4 := 2) rfl (Or.inr ⟨_, rfl⟩) dL_law_553 ?_
                            refine gx_aload_n (k4 := 0) rfl (Or.inr ⟨_, rfl⟩) dL_law_554 ?_
                            refine gx_iload_n (k4 := 3) rfl dL_law_555 ?_
                            refine gx_at 556 rfl ?_
                            refine gx_iconst (v := 1) (by decide) dL_law_556 ?_
                            refine gx_iadd dL_law_557 ?_
                            obtain ⟨v92, ev92, hs⟩ := bindS hs
                            refine gx_xI ev92 dL_law_558 ?_
                            refine gx_aload_n (k4 := 0) rfl (Or.inr ⟨_, rfl⟩) dL_law_559 ?_
                            refine gx_iload_n (k4 := 3) rfl dL_law_560 ?_
                            refine gx_iconst (v := 2) (by decide) dL_law_561 ?_
                            refine gx_iadd dL_law_562 ?_
                            obtain ⟨v93, ev93, hs⟩ := bindS hs
                            refine gx_xI ev93 dL_law_563 ?_
                            refine gx_at 564 rfl ?_
                            obtain ⟨g95, hs⟩ := gO_at hs
                            obtain ⟨y94, ey94, hs⟩ := bindS hs
                            refine gx_V1 (As := [.int v92, .int v93]) (st := [.int y90.1]) g95 rfl rfl (oX12_judge (d := d - 1) (by omega) ey94) (by omega) mb_X12_judge lm_RL_65 mi_X12_judge (Nat.le_of_ble_eq_true rfl) rfl dL_law_564 ?_
                            refine gx_icmp_eq (tgt := 1474) (by decide) dL_law_567 (fun c => ?_) (fun c => ?_)
                            · have hs := if_t c hs
                              exact gx_subL (L' := [some (.ref 0), some (.ref x1), some (.ref x2), some (.int x3)]) (by simp [subL, va_rf]) (oL_law_1474 hd hs hk)
                            · have hs := if_f c hs
                              refine gx_iconst (v := 0) (by decide) dL_law_570 ?_
                              obtain rfl := Option.some.inj hs
                              obtain ⟨rfl, rfl⟩ := hk
                              exact gx_zret (ty := .boolean) rfl rfl dL_law_571
                          · have hs := if_f c11 hs
                            by_cases c12 : (v7 &&& (63 : Int32)) = 12
                            · have hs := if_t c12 hs
                              refine gx_tableIn (off := 539) (tgt := 572) (by rw [c12]; decide) (by rw [c12]; decide) (by rw [c12]; rfl) (by decide) dL_law_33 ?_
                              refine gx_aload_n (k4 := 1) rfl (Or.inr ⟨_, rfl⟩) dL_law_572 ?_
                              refine gx_aload_n (k4 := 0) rfl (Or.inr ⟨_, rfl⟩) dL_law_573 ?_
                              refine gx_iload_n (k4 := 3) rfl dL_law_574 ?_
                              refine gx_iconst (v := 1) (by decide) dL_law_575 ?_
                              refine gx_iadd dL_law_576 ?_
                              obtain ⟨v96, ev96, hs⟩ := bindS hs
                              refine gx_xI ev96 dL_law_577 ?_
                              obtain ⟨g98, hs⟩ := gO_at hs
                              obtain ⟨y97, ey97, hs⟩ := bindS hs
                              refine gx_V1 (As := [.int v96]) (st := []) g98 rfl rfl (oX11_perform (d := d - 1) (by omega) ey97) (by omega) mb_X11_perform lm_RL_66 mi_X11_perform (Nat.le_of_ble_eq_true rfl) rfl dL_law_578 ?_
                              refine gx_at 581 rfl ?_
                              refine gx_aload_n (k4 := 2) rfl (Or.inr ⟨_, rfl⟩) dL_law_581 ?_
                              refine gx_aload_n (k4 := 0) rfl (Or.inr ⟨_, rfl⟩) dL_law_582 ?_
                              refine gx_iload_n (k4 := 3) rfl dL_law_583 ?_
                              refine gx_iconst (v := 1) (by decide) dL_law_584 ?_
                              refine gx_iadd dL_law_585 ?_
                              obtain ⟨v99, ev99, hs⟩ := bindS hs
                              refine gx_xI ev99 dL_law_586 ?_
                              obtain ⟨g101, hs⟩ := gO_at hs
                              obtain ⟨y100, ey100, hs⟩ := bindS hs
                              refine gx_V1 (As := [.int v99]) (st := [.int y97.1]) g101 rfl rfl (oX12_perform (d := d - 1) (by omega) ey100) (by omega) mb_X12_perform lm_RL_69 mi_X12_perform (Nat.le_of_ble_eq_true rfl) rfl dL_law_587 ?_
                              refine gx_icmp_eq (tgt := 1474) (by decide) dL_law_590 (fun c => ?_) (fun c => ?_)
                              · have hs := if_t c hs
                                exact gx_subL (L' := [some (.ref 0), some (.ref x1), some (.ref x2), some (.int x3)]) (by simp [subL, va_rf]) (oL_law_1474 hd hs hk)
                              · have hs := if_f c hs
                                refine gx_iconst (v := 0) (by decide) dL_law_593 ?_
                                obtain rfl := Option.some.inj hs
                                obtain ⟨rfl, rfl⟩ := hk
                                exact gx_zret (ty := .boolean) rfl rfl dL_law_594
                            · have hs := if_f c12 hs
                              by_cases c13 : (v7 &&& (63 : Int32)) = 13
                              · have hs := if_t c13 hs
                                refine gx_tableIn (off := 562) (tgt := 595) (by rw [c13]; decide) (by rw [c13]; decide) (by rw [c13]; rfl) (by decide) dL_law_33 ?_
                                refine gx_aload_n (k4 := 1) rfl (Or.inr ⟨_, rfl⟩) dL_law_595 ?_
                                refine gx_aload_n (k4 := 0) rfl (Or.inr ⟨_, rfl⟩) dL_law_596 ?_
                                refine gx_iload_n (k4 := 3) rfl dL_law_597 ?_
                                refine gx_iconst (v := 1) (by decide) dL_law_598 ?_
                                refine gx_iadd dL_law_599 ?_
                                obtain ⟨v102, ev102, hs⟩ := bindS hs
                                refine gx_xI ev102 dL_law_600 ?_
                                refine gx_aload_n (k4 := 0) rfl (Or.inr ⟨_, rfl⟩) dL_law_601 ?_
                                refine gx_at 602 rfl ?_
                                refine gx_iload_n (k4 := 3) rfl dL_law_602 ?_
                                refine gx_iconst (v := 2) (by decide) dL_law_603 ?_
                                refine gx_iadd dL_law_604 ?_
                                obtain ⟨v103, ev103, hs⟩ := bindS hs
                                refine gx_xI ev103 dL_law_605 ?_
                                obtain ⟨g105, hs⟩ := gO_at hs
                                obtain ⟨y104, ey104, hs⟩ := bindS hs
                                refine gx_V1 (As := [.int v102, .int v103]) (st := []) g105 rfl rfl (oX11_age (d := d - 1) (by omega) ey104) (by omega) mb_X11_age lm_RL_70 mi_X11_age (Nat.le_of_ble_eq_true rfl) rfl dL_law_606 ?_
                                refine gx_aload_n (k4 := 2) rfl (Or.inr ⟨_, rfl⟩) dL_law_609 ?_
                                refine gx_aload_n (k4 := 0) rfl (Or.inr ⟨_, rfl⟩) dL_law_610 ?_
                                refine gx_iload_n (k4 := 3) rfl dL_law_611 ?_
                                refine gx_at 612 rfl ?_
                                refine gx_iconst (v := 1) (by decide) dL_law_612 ?_
                                refine gx_iadd dL_law_613 ?_
                                obtain ⟨v106, ev106, hs⟩ := bindS hs
                                refine gx_xI ev106 dL_law_614 ?_
                                refine gx_aload_n (k4 := 0) rfl (Or.inr ⟨_, rfl⟩) dL_law_615 ?_
                                refine gx_iload_n (k4 := 3) rfl dL_law_616 ?_
                                refine gx_iconst (v := 2) (by decide) dL_law_617 ?_
                                refine gx_iadd dL_law_618 ?_
                                obtain ⟨v107, ev107, hs⟩ := bindS hs
                                refine gx_xI ev107 dL_law_619 ?_
                                refine gx_at 620 rfl ?_
                                obtain ⟨g109, hs⟩ := gO_at hs
                                obtain ⟨y108, ey108, hs⟩ := bindS hs
                                refine gx_V1 (As := [.int v106, .int v107]) (st := [.int y104.1]) g109 rfl rfl (oX12_age (d := d - 1) (by omega) ey108) (by omega) mb_X12_age lm_RL_73 mi_X12_age (Nat.le_of_ble_eq_true rfl) rfl dL_law_620 ?_
                                refine gx_icmp_eq (tgt := 1474) (by decide) dL_law_623 (fun c => ?_) (fun c => ?_)
                                · have hs := if_t c hs
                                  exact gx_subL (L' := [some (.ref 0), some (.ref x1), some (.ref x2), some (.int x3)]) (by simp [subL, va_rf]) (oL_law_1474 hd hs hk)
                                · have hs := if_f c hs
                                  refine gx_iconst (v := 0) (by decide) dL_law_626 ?_
                                  obtain rfl := Option.some.inj hs
                                  obtain ⟨rfl, rfl⟩ := hk
                                  exact gx_zret (ty := .boolean) rfl rfl dL_law_627
                              · have hs := if_f c13 hs
                                by_cases c14 : (v7 &&& (63 : Int32)) = 14
                                · have hs := if_t c14 hs
                                  refine gx_tableIn (off := 595) (tgt := 628) (by rw [c14]; decide) (by rw [c14]; decide) (by rw [c14]; rfl) (by decide) dL_law_33 ?_
                                  refine gx_aload_n (k4 := 1) rfl (Or.inr ⟨_, rfl⟩) dL_law_628 ?_
                                  refine gx_aload_n (k4 := 0) rfl (Or.inr ⟨_, rfl⟩) dL_law_629 ?_
                                  refine gx_iload_n (k4 := 3) rfl dL_law_630 ?_
                                  refine gx_iconst (v := 1) (by decide) dL_law_631 ?_
                                  refine gx_iadd dL_law_632 ?_
                                  obtain ⟨v110, ev110, hs⟩ := bindS hs
                                  refine gx_xI ev110 dL_law_633 ?_
                                  refine gx_aload_n (k4 := 0) rfl (Or.inr ⟨_, rfl⟩) dL_law_634 ?_
                                  refine gx_at 635 rfl ?_
                                  refine gx_iload_n (k4 := 3) rfl dL_law_635 ?_
                                  refine gx_iconst (v := 2) (by decide) dL_law_636 ?_
                                  refine gx_iadd dL_law_637 ?_
                                  obtain ⟨v111, ev111, hs⟩ := bindS hs
                                  refine gx_xI ev111 dL_law_638 ?_
                                  obtain ⟨g113, hs⟩ := gO_at hs
                                  obtain ⟨y112, ey112, hs⟩ := bindS hs
                                  refine gx_V1 (As := [.int v110, .int v111]) (st := []) g113 rfl rfl (oX11_lies (d := d - 1) (by omega) ey112) (by omega) mb_X11_lies lm_RL_74 mi_X11_lies (Nat.le_of_ble_eq_true rfl) rfl dL_law_639 ?_
                                  refine gx_aload_n (k4 := 2) rfl (Or.inr ⟨_, rfl⟩) dL_law_642 ?_
                                  refine gx_aload_n (k4 := 0) rfl (Or.inr ⟨_, rfl⟩) dL_law_643 ?_
                                  refine gx_iload_n (k4 := 3) rfl dL_law_644 ?_
                                  refine gx_at 645 rfl ?_
                                  refine gx_iconst (v := 1) (by decide) dL_law_645 ?_
                                  refine gx_iadd dL_law_646 ?_
                                  obtain ⟨v114, ev114, hs⟩ := bindS hs
                                  refine gx_xI ev114 dL_law_647 ?_
                                  refine gx_aload_n (k4 := 0) rfl (Or.inr ⟨_, rfl⟩) dL_law_648 ?_
                                  refine gx_iload_n (k4 := 3) rfl dL_law_649 ?_
                                  refine gx_iconst (v := 2) (by decide) dL_law_650 ?_
                                  refine gx_iadd dL_law_651 ?_
                                  obtain ⟨v115, ev115, hs⟩ := bindS hs
                                  refine gx_xI ev115 dL_law_652 ?_
                                  refine gx_at 653 rfl ?_
                                  obtain ⟨g117, hs⟩ := gO_at hs
                                  obtain ⟨y116, ey116, hs⟩ := bindS hs
                                  refine gx_V1 (As := [.int v114, .int v115]) (st := [.int y112.1]) g117 rfl rfl (oX12_lies (d := d - 1) (by omega) ey116) (by omega) mb_X12_lies lm_RL_77 mi_X12_lies (Nat.le_of_ble_eq_true rfl) rfl dL_law_653 ?_
                                  refine gx_icmp_eq (tgt := 1474) (by decide) dL_law_656 (fun c => ?_) (fun c => ?_)
                                  · have hs := if_t c hs
                                    exact gx_subL (L' := [some (.ref 0), some (.ref x1), some (.ref x2), some (.int x3)]) (by simp [subL, va_rf]) (oL_law_1474 hd hs hk)
                                  · have hs := if_f c hs
                                    refine gx_iconst (v := 0) (by decide) dL_law_659 ?_
                                    obtain rfl := Option.some.inj hs
                                    obtain ⟨rfl, rfl⟩ := hk
                                    exact gx_zret (ty := .boolean) rfl rfl dL_law_660
                                · have hs := if_f c14 hs
                                  by_cases c15 : (v7 &&& (63 : Int32)) = 15
                                  · have hs := if_t c15 hs
                                    refine gx_tableIn (off := 628) (tgt := 661) (by rw [c15]; decide) (by rw [c15]; decide) (by rw [c15]; rfl) (by decide) dL_law_33 ?_
                                    refine gx_aload_n (k4 := 1) rfl (Or.inr ⟨_, rfl⟩) dL_law_661 ?_
                                    refine gx_aload_n (k4 := 0) rfl (Or.inr ⟨_, rfl⟩) dL_law_662 ?_
                                    refine gx_iload_n (k4 := 3) rfl dL_law_663 ?_
                                    refine gx_iconst (v := 1) (by decide) dL_law_664 ?_
                                    refine gx_iadd dL_law_665 ?_
                                    obtain ⟨v118, ev118, hs⟩ := bindS hs
                                    refine gx_xI ev118 dL_law_666 ?_
                                    obtain ⟨g120, hs⟩ := gO_at hs
                                    obtain ⟨y119, ey119, hs⟩ := bindS hs
                                    refine gx_V1 (As := [.int v118]) (st := []) g120 rfl rfl (oX11_meets (d := d - 1) (by omega) ey119) (by omega) mb_X11_meets lm_RL_78 mi_X11_meets (Nat.le_of_ble_eq_true rfl) rfl dL_law_667 ?_
                                    refine gx_at 670 rfl ?_
                                    refine gx_aload_n (k4 := 2) rfl (Or.inr ⟨_, rfl⟩) dL_law_670 ?_
                                    refine gx_aload_n (k4 := 0) rfl (Or.inr ⟨_, rfl⟩) dL_law_671 ?_
                                    refine gx_iload_n (k4 := 3) rfl dL_law_672 ?_
                                    refine gx_iconst (v := 1) (by decide) dL_law_673 ?_
                                    refine gx_iadd dL_law_674 ?_
                                    obtain ⟨v121, ev121, hs⟩ := bindS hs
                                    refine gx_xI ev121 dL_law_675 ?_
                                    obtain ⟨g123, hs⟩ := gO_at hs
                                    obtain ⟨y122, ey122, hs⟩ := bindS hs
                                    refine gx_V1 (As := [.int v121]) (st := [.int y119.1]) g123 rfl rfl (oX12_meets (d := d - 1) (by omega) ey122) (by omega) mb_X12_meets lm_RL_81 mi_X12_meets (Nat.le_of_ble_eq_true rfl) rfl dL_law_676 ?_
                                    refine gx_icmp_eq (tgt := 1474) (by decide) dL_law_679 (fun c => ?_) (fun c => ?_)
                                    · have hs := if_t c hs
                                      exact gx_subL (L' := [some (.ref 0), some (.ref x1), some (.ref x2), some (.int x3)]) (by simp [subL, va_rf]) (oL_law_1474 hd hs hk)
                                    · have hs := if_f c hs
                                      refine gx_iconst (v := 0) (by decide) dL_law_682 ?_
                                      obtain rfl := Option.some.inj hs
                                      obtain ⟨rfl, rfl⟩ := hk
                                      exact gx_zret (ty := .boolean) rfl rfl dL_law_683
                                  · have hs := if_f c15 hs
                                    by_cases c16 : (v7 &&& (63 : Int32)) = 16
                                    · have hs := if_t c16 hs
                                      refine gx_tableIn (off := 651) (tgt := 684) (by rw [c16]; decide) (by rw [c16]; decide) (by rw [c16]; rfl) (by decide) dL_law_33 ?_
                                      refine gx_aload_n (k4 := 1) rfl (Or.inr ⟨_, rfl⟩) dL_law_684 ?_
                                      refine gx_aload_n (k4 := 0) rfl (Or.inr ⟨_, rfl⟩) dL_law_685 ?_
                                      refine gx_iload_n (k4 := 3) rfl dL_law_686 ?_
                                      refine gx_iconst (v := 1) (by decide) dL_law_687 ?_
                                      refine gx_iadd dL_law_688 ?_
                                      obtain ⟨v124, ev124, hs⟩ := bindS hs
                                      refine gx_xI ev124 dL_law_689 ?_
                                      obtain ⟨g126, hs⟩ := gO_at hs
                                      obtain ⟨y125, ey125, hs⟩ := bindS hs
                                      refine gx_V1 (As := [.int v124]) (st := []) g126 rfl rfl (oX11_order (d := d - 1) (by omega) ey125) (by omega) mb_X11_order lm_RL_82 mi_X11_order (Nat.le_of_ble_eq_true rfl) rfl dL_law_690 ?_
                                      refine gx_at 693 rfl ?_
                                      refine gx_aload_n (k4 := 2) rfl (Or.inr ⟨_, rfl⟩) dL_law_693 ?_
                                      refine gx_aload_n (k4 := 0) rfl (Or.inr ⟨_, rfl⟩) dL_law_694 ?_
                                      refine gx_iload_n (k4 := 3) rfl dL_law_695 ?_
                                      refine gx_iconst (v := 1) (by decide) dL_law_696 ?_
                                      refine gx_iadd dL_law_697 ?_
                                      obtain ⟨v127, ev127, hs⟩ := bindS hs
                                      refine gx_xI ev127 dL_law_698 ?_
                                      obtain ⟨g129, hs⟩ := gO_at hs
                                      obtain ⟨y128, ey128, hs⟩ := bindS hs
                                      refine gx_V1 (As := [.int v127]) (st := [.int y125.1]) g129 rfl rfl (oX12_order (d := d - 1) (by omega) ey128) (by omega) mb_X12_order lm_RL_85 mi_X12_order (Nat.le_of_ble_eq_true rfl) rfl dL_law_699 ?_
                                      refine gx_icmp_eq (tgt := 1474) (by decide) dL_law_702 (fun c => ?_) (fun c => ?_)
                                      · have hs := if_t c hs
                                        exact gx_subL (L' := [some (.ref 0), some (.ref x1), some (.ref x2), some (.int x3)]) (by simp [subL, va_rf]) (oL_law_1474 hd hs hk)
                                      · have hs := if_f c hs
                                        refine gx_iconst (v := 0) (by decide) dL_law_705 ?_
                                        obtain rfl := Option.some.inj hs
                                        obtain ⟨rfl, rfl⟩ := hk
                                        exact gx_zret (ty := .boolean) rfl rfl dL_law_706
                                    · have hs := if_f c16 hs
                                      by_cases c17 : (v7 &&& (63 : Int32)) = 17
                                      · have hs := if_t c17 hs
                                        refine gx_tableIn (off := 674) (tgt := 707) (by rw [c17]; decide) (by rw [c17]; decide) (by rw [c17]; rfl) (by decide) dL_law_33 ?_
                                        refine gx_aload_n (k4 := 1) rfl (Or.inr ⟨_, rfl⟩) dL_law_707 ?_
                                        obtain ⟨g131, hs⟩ := gO_at hs
                                        obtain ⟨y130, ey130, hs⟩ := bindS hs
                                        refine gx_V1 (As := []) (st := []) g131 rfl rfl (oX11_falls (d := d - 1) (by omega) ey130) (by omega) mb_X11_falls lm_RL_86 mi_X11_falls (Nat.le_of_ble_eq_true rfl) rfl dL_law_708 ?_
                                        refine gx_aload_n (k4 := 2) rfl (Or.inr ⟨_, rfl⟩) dL_law_711 ?_
                                        obtain ⟨g133, hs⟩ := gO_at hs
                                        obtain ⟨y132, ey132, hs⟩ := bindS hs
                                        refine gx_V1 (As := []) (st := [.int y130.1]) g133 rfl rfl (oX12_falls (d := d - 1) (by omega) ey132) (by omega) mb_X12_falls lm_RL_89 mi_X12_falls (Nat.le_of_ble_eq_true rfl) rfl dL_law_712 ?_
                                        refine gx_icmp_eq (tgt := 1474) (by decide) dL_law_715 (fun c => ?_) (fun c => ?_)
                                        · have hs := if_t c hs
                                          exact gx_subL (L' := [some (.ref 0), some (.ref x1), some (.ref x2), some (.int x3)]) (by simp [subL, va_rf]) (oL_law_1474 hd hs hk)
                                        · have hs := if_f c hs
                                          refine gx_iconst (v := 0) (by decide) dL_law_718 ?_
                                          obtain rfl := Option.some.inj hs
                                          obtain ⟨rfl, rfl⟩ := hk
                                          exact gx_zret (ty := .boolean) rfl rfl dL_law_719
                                      · have hs := if_f c17 hs
                                        by_cases c18 : (v7 &&& (63 : Int32)) = 18
                                        · have hs := if_t c18 hs
                                          refine gx_tableIn (off := 687) (tgt := 720) (by rw [c18]; decide) (by rw [c18]; decide) (by rw [c18]; rfl) (by decide) dL_law_33 ?_
                                          refine gx_aload_n (k4 := 1) rfl (Or.inr ⟨_, rfl⟩) dL_law_720 ?_
                                          refine gx_aload_n (k4 := 0) rfl (Or.inr ⟨_, rfl⟩) dL_law_721 ?_
                                          refine gx_iload_n (k4 := 3) rfl dL_law_722 ?_
                                          refine gx_iconst (v := 1) (by decide) dL_law_723 ?_
                                          refine gx_iadd dL_law_724 ?_
                                          obtain ⟨v134, ev134, hs⟩ := bindS hs
                                          refine gx_xI ev134 dL_law_725 ?_
                                          refine gx_aload_n (k4 := 0) rfl (Or.inr ⟨_, rfl⟩) dL_law_726 ?_
                                          refine gx_at 727 rfl ?_
                                          refine gx_iload_n (k4 := 3) rfl dL_law_727 ?_
                                          refine gx_iconst (v := 2) (by decide) dL_law_728 ?_
                                          refine gx_iadd dL_law_729 ?_
                                          obtain ⟨v135, ev135, hs⟩ := bindS hs
                                          refine gx_xI ev135 dL_law_730 ?_
                                          refine gx_aload_n (k4 := 0) rfl (Or.inr ⟨_, rfl⟩) dL_law_731 ?_
                                          refine gx_iload_n (k4 := 3) rfl dL_law_732 ?_
                                          refine gx_iconst (v := 3) (by decide) dL_law_733 ?_
                                          refine gx_iadd dL_law_734 ?_
                                          refine gx_at 735 rfl ?_
                                          obtain ⟨v136, ev136, hs⟩ := bindS hs
                                          refine gx_xI ev136 dL_law_735 ?_
                                          obtain ⟨g138, hs⟩ := gO_at hs
                                          obtain ⟨y137, ey137, hs⟩ := bindS hs
                                          refine gx_V1 (As := [.int v134, .int v135, .int v136]) (st := []) g138 rfl rfl (oX11_moved (d := d - 1) (by omega) ey137) (by omega) mb_X11_moved lm_RL_90 mi_X11_moved (Nat.le_of_ble_eq_true rfl) rfl dL_law_736 ?_
                                          refine gx_aload_n (k4 := 2) rfl (Or.inr ⟨_, rfl⟩) dL_law_739 ?_
                                          refine gx_aload_n (k4 := 0) rfl (Or.inr ⟨_, rfl⟩) dL_law_740 ?_
                                          refine gx_iload_n (k4 := 3) rfl dL_law_741 ?_
                                          refine gx_iconst (v := 1) (by decide) dL_law_742 ?_
                                          refine gx_iadd dL_law_743 ?_
                                          obtain ⟨v139, ev139, hs⟩ := bindS hs
                                          refine gx_xI ev139 dL_law_744 ?_
                                          refine gx_at 745 rfl ?_
                                          refine gx_aload_n (k4 := 0) rfl (Or.inr ⟨_, rfl⟩) dL_law_745 ?_
                                          refine gx_iload_n (k4 := 3) rfl dL_law_746 ?_
                                          refine gx_iconst (v := 2) (by decide) dL_law_747 ?_
                                          refine gx_iadd dL_law_748 ?_
                                          obtain ⟨v140, ev140, hs⟩ := bindS hs
                                          refine gx_xI ev140 dL_law_749 ?_
                                          refine gx_aload_n (k4 := 0) rfl (Or.inr ⟨_, rfl⟩) dL_law_750 ?_
                                          refine gx_iload_n (k4 := 3) rfl dL_law_751 ?_
                                          refine gx_iconst (v := 3) (by decide) dL_law_752 ?_
                                          refine gx_at 753 rfl ?_
                                          refine gx_iadd dL_law_753 ?_
                                          obtain ⟨v141, ev141, hs⟩ := bindS hs
                                          refine gx_xI ev141 dL_law_754 ?_
                                          obtain ⟨g143, hs⟩ := gO_at hs
                                          obtain ⟨y142, ey142, hs⟩ := bindS hs
                                          refine gx_V1 (As := [.int v139, .int v140, .int v141]) (st := [.int y137.1]) g143 rfl rfl (oX12_moved (d := d - 1) (by omega) ey142) (by omega) mb_X12_moved lm_RL_93 mi_X12_moved (Nat.le_of_ble_eq_true rfl) rfl dL_law_755 ?_
                                          refine gx_icmp_eq (tgt := 1474) (by decide) dL_law_758 (fun c => ?_) (fun c => ?_)
                                          · have hs := if_t c hs
                                            exact gx_subL (L' := [some (.ref 0), some (.ref x1), some (.ref x2), some (.int x3)]) (by simp [subL, va_rf]) (oL_law_1474 hd hs hk)
                                          · have hs := if_f c hs
                                            refine gx_iconst (v := 0) (by decide) dL_law_761 ?_
                                            obtain rfl := Option.some.inj hs
                                            obtain ⟨rfl, rfl⟩ := hk
                                            exact gx_zret (ty := .boolean) rfl rfl dL_law_762
                                        · have hs := if_f c18 hs
                                          by_cases c19 : (v7 &&& (63 : Int32)) = 19
                                          · have hs := if_t c19 hs
                                            refine gx_tableIn (off := 730) (tgt := 763) (by rw [c19]; decide) (by rw [c19]; decide) (by rw [c19]; rfl) (by decide) dL_law_33 ?_
                                            refine gx_aload_n (k4 := 1) rfl (Or.inr ⟨_, rfl⟩) dL_law_763 ?_
                                            refine gx_aload_n (k4 := 0) rfl (Or.inr ⟨_, rfl⟩) dL_law_764 ?_
                                            refine gx_iload_n (k4 := 3) rfl dL_law_765 ?_
                                            refine gx_iconst (v := 1) (by decide) dL_law_766 ?_
                                            refine gx_iadd dL_law_767 ?_
                                            obtain ⟨v144, ev144, hs⟩ := bindS hs
                                            refine gx_xI ev144 dL_law_768 ?_
                                            obtain ⟨g146, hs⟩ := gO_at hs
                                            obtain ⟨y145, ey145, hs⟩ := bindS hs
                                            refine gx_V1 (As := [.int v144]) (st := []) g146 rfl rfl (oX11_soonest (d := d - 1) (by omega) ey145) (by omega) mb_X11_soonest lm_RL_94 mi_X11_soonest (Nat.le_of_ble_eq_true rfl) rfl dL_law_769 ?_
                                            refine gx_at 772 rfl ?_
                                            refine gx_aload_n (k4 := 2) rfl (Or.inr ⟨_, rfl⟩) dL_law_772 ?_
                                            refine gx_aload_n (k4 := 0) rfl (Or.inr ⟨_, rfl⟩) dL_law_773 ?_
                                            refine gx_iload_n (k4 := 3) rfl dL_law_774 ?_
                                            refine gx_iconst (v := 1) (by decide) dL_law_775 ?_
                                            refine gx_iadd dL_law_776 ?_
                                            obtain ⟨v147, ev147, hs⟩ := bindS hs
                                            refine gx_xI ev147 dL_law_777 ?_
                                            obtain ⟨g149, hs⟩ := gO_at hs
                                            obtain ⟨y148, ey148, hs⟩ := bindS hs
                                            refine gx_V1 (As := [.int v147]) (st := [.int y145.1]) g149 rfl rfl (oX12_soonest (d := d - 1) (by omega) ey148) (by omega) mb_X12_soonest lm_RL_97 mi_X12_soonest (Nat.le_of_ble_eq_true rfl) rfl dL_law_778 ?_
                                            refine gx_icmp_eq (tgt := 1474) (by decide) dL_law_781 (fun c => ?_) (fun c => ?_)
                                            · have hs := if_t c hs
                                              exact gx_subL (L' := [some (.ref 0), some (.ref x1), some (.ref x2), some (.int x3)]) (by simp [subL, va_rf]) (oL_law_1474 hd hs hk)
                                            · have hs := if_f c hs
                                              refine gx_iconst (v := 0) (by decide) dL_law_784 ?_
                                              obtain rfl := Option.some.inj hs
                                              obtain ⟨rfl, rfl⟩ := hk
                                              exact gx_zret (ty := .boolean) rfl rfl dL_law_785
                                          · have hs := if_f c19 hs
                                            by_cases c20 : (v7 &&& (63 : Int32)) = 20
                                            · have hs := if_t c20 hs
                                              refine gx_tableIn (off := 753) (tgt := 786) (by rw [c20]; decide) (by rw [c20]; decide) (by rw [c20]; rfl) (by decide) dL_law_33 ?_
                                              refine gx_aload_n (k4 := 1) rfl (Or.inr ⟨_, rfl⟩) dL_law_786 ?_
                                              refine gx_aload_n (k4 := 0) rfl (Or.inr ⟨_, rfl⟩) dL_law_787 ?_
                                              refine gx_iload_n (k4 := 3) rfl dL_law_788 ?_
                                              refine gx_iconst (v := 1) (by decide) dL_law_789 ?_
                                              refine gx_iadd dL_law_790 ?_
                                              obtain ⟨v150, ev150, hs⟩ := bindS hs
                                              refine gx_xI ev150 dL_law_791 ?_
                                              refine gx_aload_n (k4 := 0) rfl (Or.inr ⟨_, rfl⟩) dL_law_792 ?_
                                              refine gx_at 793 rfl ?_
                                              refine gx_iload_n (k4 := 3) rfl dL_law_793 ?_
                                              refine gx_iconst (v := 2) (by decide) dL_law_794 ?_
                                              refine gx_iadd dL_law_795 ?_
                                              obtain ⟨v151, ev151, hs⟩ := bindS hs
                                              refine gx_xI ev151 dL_law_796 ?_
                                              obtain ⟨g153, hs⟩ := gO_at hs
                                              obtain ⟨y152, ey152, hs⟩ := bindS hs
                                              refine gx_V1 (As := [.int v150, .int v151]) (st := []) g153 rfl rfl (oX11_way (d := d - 1) (by omega) ey152) (by omega) mb_X11_way lm_RL_98 mi_X11_way (Nat.le_of_ble_eq_true rfl) rfl dL_law_797 ?_
                                              refine gx_aload_n (k4 := 2) rfl (Or.inr ⟨_, rfl⟩) dL_law_800 ?_
                                              refine gx_aload_n (k4 := 0) rfl (Or.inr ⟨_, rfl⟩) dL_law_801 ?_
                                              refine gx_iload_n (k4 := 3) rfl dL_law_802 ?_
                                              refine gx_at 803 rfl ?_
                                              refine gx_iconst (v := 1) (by decide) dL_law_803 ?_
                                              refine gx_iadd dL_law_804 ?_
                                              obtain ⟨v154, ev154, hs⟩ := bindS hs
                                              refine gx_xI ev154 dL_law_805 ?_
                                              refine gx_aload_n (k4 := 0) rfl (Or.inr ⟨_, rfl⟩) dL_law_806 ?_
                                              refine gx_iload_n (k4 := 3) rfl dL_law_807 ?_
                                              refine gx_iconst (v := 2) (by decide) dL_law_808 ?_
                                              refine gx_iadd dL_law_809 ?_
                                              obtain ⟨v155, ev155, hs⟩ := bindS hs
                                              refine gx_xI ev155 dL_law_810 ?_
                                              refine gx_at 811 rfl ?_
                                              obtain ⟨g157, hs⟩ := gO_at hs
                                              obtain ⟨y156, ey156, hs⟩ := bindS hs
                                              refine gx_V1 (As := [.int v154, .int v155]) (st := [.int y152.1]) g157 rfl rfl (oX12_way (d := d - 1) (by omega) ey156) (by omega) mb_X12_way lm_RL_101 mi_X12_way (Nat.le_of_ble_eq_true rfl) rfl dL_law_811 ?_
                                              refine gx_icmp_eq (tgt := 1474) (by decide) dL_law_814 (fun c => ?_) (fun c => ?_)
                                              · have hs := if_t c hs
                                                exact gx_subL (L' := [some (.ref 0), some (.ref x1), some (.ref x2), some (.int x3)]) (by simp [subL, va_rf]) (oL_law_1474 hd hs hk)
                                              · have hs := if_f c hs
                                                refine gx_iconst (v := 0) (by decide) dL_law_817 ?_
                                                obtain rfl := Option.some.inj hs
                                                obtain ⟨rfl, rfl⟩ := hk
                                                exact gx_zret (ty := .boolean) rfl rfl dL_law_818
                                            · have hs := if_f c20 hs
                                              by_cases c21 : (v7 &&& (63 : Int32)) = 21
                                              · have hs := if_t c21 hs
                                                refine gx_tableIn (off := 786) (tgt := 819) (by rw [c21]; decide) (by rw [c21]; decide) (by rw [c21]; rfl) (by decide) dL_law_33 ?_
                                                refine gx_aload_n (k4 := 1) rfl (Or.inr ⟨_, rfl⟩) dL_law_819 ?_
                                                refine gx_aload_n (k4 := 0) rfl (Or.inr ⟨_, rfl⟩) dL_law_820 ?_
                                                refine gx_iload_n (k4 := 3) rfl dL_law_821 ?_
                                                refine gx_iconst (v := 1) (by decide) dL_law_822 ?_
                                                refine gx_iadd dL_law_823 ?_
                                                obtain ⟨v158, ev158, hs⟩ := bindS hs
                                                refine gx_xI ev158 dL_law_824 ?_
                                                refine gx_aload_n (k4 := 0) rfl (Or.inr ⟨_, rfl⟩) dL_law_825 ?_
                                                refine gx_at 826 rfl ?_
                                                refine gx_iload_n (k4 := 3) rfl dL_law_826 ?_
                                                refine gx_iconst (v := 2) (by decide) dL_law_827 ?_
                                                refine gx_iadd dL_law_828 ?_
                                                obtain ⟨v159, ev159, hs⟩ := bindS hs
                                                refine gx_xI ev159 dL_law_829 ?_
                                                obtain ⟨g161, hs⟩ := gO_at hs
                                                obtain ⟨y160, ey160, hs⟩ := bindS hs
                                                refine gx_V1 (As := [.int v158, .int v159]) (st := []) g161 rfl rfl (oX11_rows (d := d - 1) (by omega) ey160) (by omega) mb_X11_rows lm_RL_102 mi_X11_rows (Nat.le_of_ble_eq_true rfl) rfl dL_law_830 ?_
                                                refine gx_aload_n (k4 := 2) rfl (Or.inr ⟨_, rfl⟩) dL_law_833 ?_
                                                refine gx_aload_n (k4 := 0) rfl (Or.inr ⟨_, rfl⟩) dL_law_834 ?_
                                                refine gx_iload_n (k4 := 3) rfl dL_law_835 ?_
                                                refine gx_at 836 rfl ?_
                                                refine gx_iconst (v := 1) (by decide) dL_law_836 ?_
                                                refine gx_iadd dL_law_837 ?_
                                                obtain ⟨v162, ev162, hs⟩ := bindS hs
                                                refine gx_xI ev162 dL_law_838 ?_
                                                refine gx_aload_n (k4 := 0) rfl (Or.inr ⟨_, rfl⟩) dL_law_839 ?_
                                                refine gx_iload_n (k4 := 3) rfl dL_law_840 ?_
                                                refine gx_iconst (v := 2) (by decide) dL_law_841 ?_
                                                refine gx_iadd dL_law_842 ?_
                                                obtain ⟨v163, ev163, hs⟩ := bindS hs
                                                refine gx_xI ev163 dL_law_843 ?_
                                                refine gx_at 844 rfl ?_
                                                obtain ⟨g165, hs⟩ := gO_at hs
                                                obtain ⟨y164, ey164, hs⟩ := bindS hs
                                                refine gx_V1 (As := [.int v162, .int v163]) (st := [.long y160.1]) g165 rfl rfl (oX12_rows (d := d - 1) (by omega) ey164) (by omega) mb_X12_rows lm_RL_106 mi_X12_rows (Nat.le_of_ble_eq_true rfl) rfl dL_law_844 ?_
                                                refine gx_lcmp dL_law_847 ?_
                                                refine gx_if_eq (tgt := 1474) (by decide) dL_law_848 (fun c => ?_) (fun c => ?_)
                                                · have hs := if_t c hs
                                                  exact gx_subL (L' := [some (.ref 0), some (.ref x1), some (.ref x2), some (.int x3)]) (by simp [subL, va_rf]) (oL_law_1474 hd hs hk)
                                                · have hs := if_f c hs
                                                  refine gx_iconst (v := 0) (by decide) dL_law_851 ?_
                                                  obtain rfl := Option.some.inj hs
                                                  obtain ⟨rfl, rfl⟩ := hk
                                                  exact gx_zret (ty := .boolean) rfl rfl dL_law_852
                                              · have hs := if_f c21 hs
                                                by_cases c22 : (v7 &&& (63 : Int32)) = 22
                                                · have hs := if_t c22 hs
                                                  refine gx_tableIn (off := 820) (tgt := 853) (by rw [c22]; decide) (by rw [c22]; decide) (by rw [c22]; rfl) (by decide) dL_law_33 ?_
                                                  refine gx_aload_n (k4 := 1) rfl (Or.inr ⟨_, rfl⟩) dL_law_853 ?_
                                                  obtain ⟨g167, hs⟩ := gO_at hs
                                                  obtain ⟨y166, ey166, hs⟩ := bindS hs
                                                  refine gx_V1 (As := []) (st := []) g167 rfl rfl (oX11_most (d := d - 1) (by omega) ey166) (by omega) mb_X11_most lm_RL_107 mi_X11_most (Nat.le_of_ble_eq_true rfl) rfl dL_law_854 ?_
                                                  refine gx_aload_n (k4 := 2) rfl (Or.inr ⟨_, rfl⟩) dL_law_857 ?_
                                                  obtain ⟨g169, hs⟩ := gO_at hs
                                                  obtain ⟨y168, ey168, hs⟩ := bindS hs
                                                  refine gx_V1 (As := []) (st := [.int y166.1]) g169 rfl rfl (oX12_most (d := d - 1) (by omega) ey168) (by omega) mb_X12_most lm_RL_110 mi_X12_most (Nat.le_of_ble_eq_true rfl) rfl dL_law_858 ?_
                                                  refine gx_icmp_eq (tgt := 1474) (by decide) dL_law_861 (fun c => ?_) (fun c => ?_)
                                                  · have hs := if_t c hs
                                                    exact gx_subL (L' := [some (.ref 0), some (.ref x1), some (.ref x2), some (.int x3)]) (by simp [subL, va_rf]) (oL_law_1474 hd hs hk)
                                                  · have hs := if_f c hs
                                                    refine gx_iconst (v := 0) (by decide) dL_law_864 ?_
                                                    obtain rfl := Option.some.inj hs
                                                    obtain ⟨rfl, rfl⟩ := hk
                                                    exact gx_zret (ty := .boolean) rfl rfl dL_law_865
                                                · have hs := if_f c22 hs
                                                  by_cases c23 : (v7 &&& (63 : Int32)) = 23
                                                  · have hs := if_t c23 hs
                                                    refine gx_tableIn (off := 833) (tgt := 866) (by rw [c23]; decide) (by rw [c23]; decide) (by rw [c23]; rfl) (by decide) dL_law_33 ?_
                                                    refine gx_aload_n (k4 := 1) rfl (Or.inr ⟨_, rfl⟩) dL_law_866 ?_
                                                    obtain ⟨g171, hs⟩ := gO_at hs
                                                    obtain ⟨y170, ey170, hs⟩ := bindS hs
                                                    refine gx_V1 (As := []) (st := []) g171 rfl rfl (oX11_holding (d := d - 1) (by omega) ey170) (by omega) mb_X11_holding lm_RL_111 mi_X11_holding (Nat.le_of_ble_eq_true rfl) rfl dL_law_867 ?_
                                                    refine gx_aload_n (k4 := 2) rfl (Or.inr ⟨_, rfl⟩) dL_law_870 ?_
                                                    obtain ⟨g173, hs⟩ := gO_at hs
                                                    obtain ⟨y172, ey172, hs⟩ := bindS hs
                                                    refine gx_V1 (As := []) (st := [.int y170.1]) g173 rfl rfl (oX12_holding (d := d - 1) (by omega) ey172) (by omega) mb_X12_holding lm_RL_114 mi_X12_holding (Nat.le_of_ble_eq_true rfl) rfl dL_law_871 ?_
                                                    refine gx_icmp_eq (tgt := 1474) (by decide) dL_law_874 (fun c => ?_) (fun c => ?_)
                                                    · have hs := if_t c hs
                                                      exact gx_subL (L' := [some (.ref 0), some (.ref x1), some (.ref x2), some (.int x3)]) (by simp [subL, va_rf]) (oL_law_1474 hd hs hk)
                                                    · have hs := if_f c hs
                                                      refine gx_iconst (v := 0) (by decide) dL_law_877 ?_
                                                      obtain rfl := Option.some.inj hs
                                                      obtain ⟨rfl, rfl⟩ := hk
                                                      exact gx_zret (ty := .boolean) rfl rfl dL_law_878
                                                  · have hs := if_f c23 hs
                                                    by_cases c24 : (v7 &&& (63 : Int32)) = 24
                                                    · have hs := if_t c24 hs
                                                      refine gx_tableIn (off := 846) (tgt := 879) (by rw [c24]; decide) (by rw [c24]; decide) (by rw [c24]; rfl) (by decide) dL_law_33 ?_
                                                      refine gx_aload_n (k4 := 1) rfl (Or.inr ⟨_, rfl⟩) dL_law_879 ?_
                                                      obtain ⟨g175, hs⟩ := gO_at hs
                                                      obtain ⟨y174, ey174, hs⟩ := bindS hs
                                                      refine gx_V1 (As := []) (st := []) g175 rfl rfl (oX11_felling (d := d - 1) (by omega) ey174) (by omega) mb_X11_felling lm_RL_115 mi_X11_felling (Nat.le_of_ble_eq_true rfl) rfl dL_law_880 ?_
                                                      refine gx_aload_n (k4 := 2) rfl (Or.inr ⟨_, rfl⟩) dL_law_883 ?_
                                                      obtain ⟨g177, hs⟩ := gO_at hs
                                                      obtain ⟨y176, ey176, hs⟩ := bindS hs
                                                      refine gx_V1 (As := []) (st := [.int y174.1]) g177 rfl rfl (oX12_felling (d := d - 1) (by omega) ey176) (by omega) mb_X12_felling lm_RL_118 mi_X12_felling (Nat.le_of_ble_eq_true rfl) rfl dL_law_884 ?_
                                                      refine gx_icmp_eq (tgt := 1474) (by decide) dL_law_887 (fun c => ?_) (fun c => ?_)
                                                      · have hs := if_t c hs
                                                        exact gx_subL (L' := [some (.ref 0), some (.ref x1), some (.ref x2), some (.int x3)]) (by simp [subL, va_rf]) (oL_law_1474 hd hs hk)
                                                      · have hs := if_f c hs
                                                        refine gx_iconst (v := 0) (by decide) dL_law_890 ?_
                                                        obtain rfl := Option.some.inj hs
                                                        obtain ⟨rfl, rfl⟩ := hk
                                                        exact gx_zret (ty := .boolean) rfl rfl dL_law_891
                                                    · have hs := if_f c24 hs
                                                      by_cases c25 : (v7 &&& (63 : Int32)) = 25
                                                      · have hs := if_t c25 hs
                                                        refine gx_tableIn (off := 859) (tgt := 892) (by rw [c25]; decide) (by rw [c25]; decide) (by rw [c25]; rfl) (by decide) dL_law_33 ?_
                                                        refine gx_aload_n (k4 := 1) rfl (Or.inr ⟨_, rfl⟩) dL_law_892 ?_
                                                        obtain ⟨g179, hs⟩ := gO_at hs
                                                        obtain ⟨y178, ey178, hs⟩ := bindS hs
                                                        refine gx_V1 (As := []) (st := []) g179 rfl rfl (oX11_stands (d := d - 1) (by omega) ey178) (by omega) mb_X11_stands lm_RL_119 mi_X11_stands (Nat.le_of_ble_eq_true rfl) rfl dL_law_893 ?_
                                                        refine gx_aload_n (k4 := 2) rfl (Or.inr ⟨_, rfl⟩) dL_law_896 ?_
                                                        obtain ⟨g181, hs⟩ := gO_at hs
                                                        obtain ⟨y180, ey180, hs⟩ := bindS hs
                                                        refine gx_V1 (As := []) (st := [.int y178.1]) g181 rfl rfl (oX12_stands (d := d - 1) (by omega) ey180) (by omega) mb_X12_stands lm_RL_122 mi_X12_stands (Nat.le_of_ble_eq_true rfl) rfl dL_law_897 ?_
                                                        refine gx_icmp_eq (tgt := 1474) (by decide) dL_law_900 (fun c => ?_) (fun c => ?_)
                                                        · have hs := if_t c hs
                                                          exact gx_subL (L' := [some (.ref 0), some (.ref x1), some (.ref x2), some (.int x3)]) (by simp [subL, va_rf]) (oL_law_1474 hd hs hk)
                                                        · have hs := if_f c hs
                                                          refine gx_iconst (v := 0) (by decide) dL_law_903 ?_
                                                          obtain rfl := Option.some.inj hs
                                                          obtain ⟨rfl, rfl⟩ := hk
                                                          exact gx_zret (ty := .boolean) rfl rfl dL_law_904
                                                      · have hs := if_f c25 hs
                                                        by_cases c26 : (v7 &&& (63 : Int32)) = 26
                                                        · have hs := if_t c26 hs
                                                          refine gx_tableIn (off := 872) (tgt := 905) (by rw [c26]; decide) (by rw [c26]; decide) (by rw [c26]; rfl) (by decide) dL_law_33 ?_
                                                          refine gx_aload_n (k4 := 1) rfl (Or.inr ⟨_, rfl⟩) dL_law_905 ?_
                                                          refine gx_aload_n (k4 := 0) rfl (Or.inr ⟨_, rfl⟩) dL_law_906 ?_
                                                          refine gx_iload_n (k4 := 3) rfl dL_law_907 ?_
                                                          refine gx_iconst (v := 1) (by decide) dL_law_908 ?_
                                                          refine gx_iadd dL_law_909 ?_
                                                          obtain ⟨v182, ev182, hs⟩ := bindS hs
                                                          refine gx_xI ev182 dL_law_910 ?_
                                                          refine gx_aload_n (k4 := 0) rfl (Or.inr ⟨_, rfl⟩) dL_law_911 ?_
                                                          refine gx_at 912 rfl ?_
                                                          refine gx_iload_n (k4 := 3) rfl dL_law_912 ?_
                                                          refine gx_iconst (v := 2) (by decide) dL_law_913 ?_
                                                          refine gx_iadd dL_law_914 ?_
                                                          obtain ⟨v183, ev183, hs⟩ := bindS hs
                                                          refine gx_xI ev183 dL_law_915 ?_
                                                          obtain ⟨g185, hs⟩ := gO_at hs
                                                          obtain ⟨y184, ey184, hs⟩ := bindS hs
                                                          refine gx_V1 (As := [.int v182, .int v183]) (st := []) g185 rfl rfl (oX11_seen (d := d - 1) (by omega) ey184) (by omega) mb_X11_seen lm_RL_123 mi_X11_seen (Nat.le_of_ble_eq_true rfl) rfl dL_law_916 ?_
                                                          refine gx_aload_n (k4 := 2) rfl (Or.inr ⟨_, rfl⟩) dL_law_919 ?_
                                                          refine gx_aload_n (k4 := 0) rfl (Or.inr ⟨_, rfl⟩) dL_law_920 ?_
                                                          refine gx_iload_n (k4 := 3) rfl dL_law_921 ?_
                                                          refine gx_at 922 rfl ?_
                                                          refine gx_iconst (v := 1) (by decide) dL_law_922 ?_
                                                          refine gx_iadd dL_law_923 ?_
                                                          obtain ⟨v186, ev186, hs⟩ := bindS hs
                                                          refine gx_xI ev186 dL_law_924 ?_
                                                          refine gx_aload_n (k4 := 0) rfl (Or.inr ⟨_, rfl⟩) dL_law_925 ?_
                                                          refine gx_iload_n (k4 := 3) rfl dL_law_926 ?_
                                                          refine gx_iconst (v := 2) (by decide) dL_law_927 ?_
                                                          refine gx_iadd dL_law_928 ?_
                                                          obtain ⟨v187, ev187, hs⟩ := bindS hs
                                                          refine gx_xI ev187 dL_law_929 ?_
                                                          refine gx_at 930 rfl ?_
                                                          obtain ⟨g189, hs⟩ := gO_at hs
                                                          obtain ⟨y188, ey188, hs⟩ := bindS hs
                                                          refine gx_V1 (As := [.int v186, .int v187]) (st := [.int y184.1]) g189 rfl rfl (oX12_seen (d := d - 1) (by omega) ey188) (by omega) mb_X12_seen lm_RL_126 mi_X12_seen (Nat.le_of_ble_eq_true rfl) rfl dL_law_930 ?_
                                                          refine gx_icmp_eq (tgt := 1474) (by decide) dL_law_933 (fun c => ?_) (fun c => ?_)
                                                          · have hs := if_t c hs
                                                            exact gx_subL (L' := [some (.ref 0), some (.ref x1), some (.ref x2), some (.int x3)]) (by simp [subL, va_rf]) (oL_law_1474 hd hs hk)
                                                          · have hs := if_f c hs
                                                            refine gx_iconst (v := 0) (by decide) dL_law_936 ?_
                                                            obtain rfl := Option.some.inj hs
                                                            obtain ⟨rfl, rfl⟩ := hk
                                                            exact gx_zret (ty := .boolean) rfl rfl dL_law_937
                                                        · have hs := if_f c26 hs
                                                          by_cases c27 : (v7 &&& (63 : Int32)) = 27
                                                          · have hs := if_t c27 hs
                                                            refine gx_tableIn (off := 905) (tgt := 938) (by rw [c27]; decide) (by rw [c27]; decide) (by rw [c27]; rfl) (by decide) dL_law_33 ?_
                                                            refine gx_aload_n (k4 := 1) rfl (Or.inr ⟨_, rfl⟩) dL_law_938 ?_
                                                            refine gx_aload_n (k4 := 0) rfl (Or.inr ⟨_, rfl⟩) dL_law_939 ?_
                                                            refine gx_iload_n (k4 := 3) rfl dL_law_940 ?_
                                                            refine gx_iconst (v := 1) (by decide) dL_law_941 ?_
                                                            refine gx_iadd dL_law_942 ?_
                                                            obtain ⟨v190, ev190, hs⟩ := bindS hs
                                                            refine gx_xI ev190 dL_law_943 ?_
                                                            refine gx_aload_n (k4 := 0) rfl (Or.inr ⟨_, rfl⟩) dL_law_944 ?_
                                                            refine gx_at 945 rfl ?_
                                                            refine gx_iload_n (k4 := 3) rfl dL_law_945 ?_
                                                            refine gx_iconst (v := 2) (by decide) dL_law_946 ?_
                                                            refine gx_iadd dL_law_947 ?_
                                                            obtain ⟨v191, ev191, hs⟩ := bindS hs
                                                            refine gx_xI ev191 dL_law_948 ?_
                                                            refine gx_aload_n (k4 := 0) rfl (Or.inr ⟨_, rfl⟩) dL_law_949 ?_
                                                            refine gx_iload_n (k4 := 3) rfl dL_law_950 ?_
                                                            refine gx_iconst (v := 3) (by decide) dL_law_951 ?_
                                                            refine gx_iadd dL_law_952 ?_
                                                            refine gx_at 953 rfl ?_
                                                            obtain ⟨v192, ev192, hs⟩ := bindS hs
                                                            refine gx_xI ev192 dL_law_953 ?_
                                                            obtain ⟨g194, hs⟩ := gO_at hs
                                                            obtain ⟨y193, ey193, hs⟩ := bindS hs
                                                            refine gx_V1 (As := [.int v190, .int v191, .int v192]) (st := []) g194 rfl rfl (oX11_seenDry (d := d - 1) (by omega) ey193) (by omega) mb_X11_seenDry lm_RL_127 mi_X11_seenDry (Nat.le_of_ble_eq_true rfl) rfl dL_law_954 ?_
                                                            refine gx_aload_n (k4 := 2) rfl (Or.inr ⟨_, rfl⟩) dL_law_957 ?_
                                                            refine gx_aload_n (k4 := 0) rfl (Or.inr ⟨_, rfl⟩) dL_law_958 ?_
                                                            refine gx_iload_n (k4 := 3) rfl dL_law_959 ?_
                                                            refine gx_iconst (v := 1) (by decide) dL_law_960 ?_
                                                            refine gx_iadd dL_law_961 ?_
                                                            obtain ⟨v195, ev195, hs⟩ := bindS hs
                                                            refine gx_xI ev195 dL_law_962 ?_
                                                            refine gx_at 963 rfl ?_
                                                            refine gx_aload_n (k4 := 0) rfl (Or.inr ⟨_, rfl⟩) dL_law_963 ?_
                                                            refine gx_iload_n (k4 := 3) rfl dL_law_964 ?_
                                                            refine gx_iconst (v := 2) (by decide) dL_law_965 ?_
                                                            refine gx_iadd dL_law_966 ?_
                                                            obtain ⟨v196, ev196, hs⟩ := bindS hs
                                                            refine gx_xI ev196 dL_law_967 ?_
                                                            refine gx_aload_n (k4 := 0) rfl (Or.inr ⟨_, rfl⟩) dL_law_968 ?_
                                                            refine gx_iload_n (k4 := 3) rfl dL_law_969 ?_
                                                            refine gx_iconst (v := 3) (by decide) dL_law_970 ?_
                                                            refine gx_at 971 rfl ?_
                                                            refine gx_iadd dL_law_971 ?_
                                                            obtain ⟨v197, ev197, hs⟩ := bindS hs
                                                            refine gx_xI ev197 dL_law_972 ?_
                                                            obtain ⟨g199, hs⟩ := gO_at hs
                                                            obtain ⟨y198, ey198, hs⟩ := bindS hs
                                                            refine gx_V1 (As := [.int v195, .int v196, .int v197]) (st := [.int y193.1]) g199 rfl rfl (oX12_seenDry (d := d - 1) (by omega) ey198) (by omega) mb_X12_seenDry lm_RL_130 mi_X12_seenDry (Nat.le_of_ble_eq_true rfl) rfl dL_law_973 ?_
                                                            refine gx_icmp_eq (tgt := 1474) (by decide) dL_law_976 (fun c => ?_) (fun c => ?_)
                                                            · have hs := if_t c hs
                                                              exact gx_subL (L' := [some (.ref 0), some (.ref x1), some (.ref x2), some (.int x3)]) (by simp [subL, va_rf]) (oL_law_1474 hd hs hk)
                                                            · have hs := if_f c hs
                                                              refine gx_iconst (v := 0) (by decide) dL_law_979 ?_
                                                              obtain rfl := Option.some.inj hs
                                                              obtain ⟨rfl, rfl⟩ := hk
                                                              exact gx_zret (ty := .boolean) rfl rfl dL_law_980
                                                          · have hs := if_f c27 hs
                                                            by_cases c28 : (v7 &&& (63 : Int32)) = 28
                                                            · have hs := if_t c28 hs
                                                              refine gx_tableIn (off := 948) (tgt := 981) (by rw [c28]; decide) (by rw [c28]; decide) (by rw [c28]; rfl) (by decide) dL_law_33 ?_
                                                              refine gx_aload_n (k4 := 1) rfl (Or.inr ⟨_, rfl⟩) dL_law_981 ?_
                                                              refine gx_aload_n (k4 := 0) rfl (Or.inr ⟨_, rfl⟩) dL_law_982 ?_
                                                              refine gx_iload_n (k4 := 3) rfl dL_law_983 ?_
                                                              refine gx_iconst (v := 1) (by decide) dL_law_984 ?_
                                                              refine gx_iadd dL_law_985 ?_
                                                              obtain ⟨v200, ev200, hs⟩ := bindS hs
                                                              refine gx_xI ev200 dL_law_986 ?_
                                                              refine gx_aload_n (k4 := 0) rfl (Or.inr ⟨_, rfl⟩) dL_law_987 ?_
                                                              refine gx_at 988 rfl ?_
                                                              refine gx_iload_n (k4 := 3) rfl dL_law_988 ?_
                                                              refine gx_iconst (v := 2) (by decide) dL_law_989 ?_
                                                              refine gx_iadd dL_law_990 ?_
                                                              obtain ⟨v201, ev201, hs⟩ := bindS hs
                                                              refine gx_xI ev201 dL_law_991 ?_
                                                              refine gx_aload_n (k4 := 0) rfl (Or.inr ⟨_, rfl⟩) dL_law_992 ?_
                                                              refine gx_iload_n (k4 := 3) rfl dL_law_993 ?_
                                                              refine gx_iconst (v := 3) (by decide) dL_law_994 ?_
                                                              refine gx_iadd dL_law_995 ?_
                                                              refine gx_at 996 rfl ?_
                                                              obtain ⟨v202, ev202, hs⟩ := bindS hs
                                                              refine gx_xI ev202 dL_law_996 ?_
                                                              obtain ⟨g204, hs⟩ := gO_at hs
                                                              obtain ⟨y203, ey203, hs⟩ := bindS hs
                                                              refine gx_V1 (As := [.int v200, .int v201, .int v202]) (st := []) g204 rfl rfl (oX11_surely (d := d - 1) (by omega) ey203) (by omega) mb_X11_surely lm_RL_131 mi_X11_surely (Nat.le_of_ble_eq_true rfl) rfl dL_law_997 ?_
                                                              refine gx_aload_n (k4 := 2) rfl (Or.inr ⟨_, rfl⟩) dL_law_1000 ?_
                                                              refine gx_aload_n (k4 := 0) rfl (Or.inr ⟨_, rfl⟩) dL_law_1001 ?_
                                                              refine gx_iload_n (k4 := 3) rfl dL_law_1002 ?_
                                                              refine gx_iconst (v := 1) (by decide) dL_law_1003 ?_
                                                              refine gx_iadd dL_law_1004 ?_
                                                              obtain ⟨v205, ev205, hs⟩ := bindS hs
                                                              refine gx_xI ev205 dL_law_1005 ?_
                                                              refine gx_at 1006 rfl ?_
                                                              refine gx_aload_n (k4 := 0) rfl (Or.inr ⟨_, rfl⟩) dL_law_1006 ?_
                                                              refine gx_iload_n (k4 := 3) rfl dL_law_1007 ?_
                                                              refine gx_iconst (v := 2) (by decide) dL_law_1008 ?_
                                                              refine gx_iadd dL_law_1009 ?_
                                                              obtain ⟨v206, ev206, hs⟩ := bindS hs
                                                              refine gx_xI ev206 dL_law_1010 ?_
                                                              refine gx_aload_n (k4 := 0) rfl (Or.inr ⟨_, rfl⟩) dL_law_1011 ?_
                                                              refine gx_iload_n (k4 := 3) rfl dL_law_1012 ?_
                                                              refine gx_iconst (v := 3) (by decide) dL_law_1013 ?_
                                                              refine gx_at 1014 rfl ?_
                                                              refine gx_iadd dL_law_1014 ?_
                                                              obtain ⟨v207, ev207, hs⟩ := bindS hs
                                                              refine gx_xI ev207 dL_law_1015 ?_
                                                              obtain ⟨g209, hs⟩ := gO_at hs
                                                              obtain ⟨y208, ey208, hs⟩ := bindS hs
                                                              refine gx_V1 (As := [.int v205, .int v206, .int v207]) (st := [.int y203.1]) g209 rfl rfl (oX12_surely (d := d - 1) (by omega) ey208) (by omega) mb_X12_surely lm_RL_134 mi_X12_surely (Nat.le_of_ble_eq_true rfl) rfl dL_law_1016 ?_
                                                              refine gx_icmp_eq (tgt := 1474) (by decide) dL_law_1019 (fun c => ?_) (fun c => ?_)
                                                              · have hs := if_t c hs
                                                                exact gx_subL (L' := [some (.ref 0), some (.ref x1), some (.ref x2), some (.int x3)]) (by simp [subL, va_rf]) (oL_law_1474 hd hs hk)
                                                              · have hs := if_f c hs
                                                                refine gx_iconst (v := 0) (by decide) dL_law_1022 ?_
                                                                obtain rfl := Option.some.inj hs
                                                                obtain ⟨rfl, rfl⟩ := hk
                                                                exact gx_zret (ty := .boolean) rfl rfl dL_law_1023
                                                            · have hs := if_f c28 hs
                                                              by_cases c29 : (v7 &&& (63 : Int32)) = 29
                                                              · have hs := if_t c29 hs
                                                                refine gx_tableIn (off := 991) (tgt := 1024) (by rw [c29]; decide) (by rw [c29]; decide) (by rw [c29]; rfl) (by decide) dL_law_33 ?_
                                                                refine gx_aload_n (k4 := 1) rfl (Or.inr ⟨_, rfl⟩) dL_law_1024 ?_
                                                                refine gx_aload_n (k4 := 0) rfl (Or.inr ⟨_, rfl⟩) dL_law_1025 ?_
                                                                refine gx_iload_n (k4 := 3) rfl dL_law_1026 ?_
                                                                refine gx_iconst (v := 1) (by decide) dL_law_1027 ?_
                                                                refine gx_iadd dL_law_1028 ?_
                                                                obtain ⟨v210, ev210, hs⟩ := bindS hs
                                                                refine gx_xI ev210 dL_law_1029 ?_
                                                                refine gx_aload_n (k4 := 0) rfl (Or.inr ⟨_, rfl⟩) dL_law_1030 ?_
                                                                refine gx_at 1031 rfl ?_
                                                                refine gx_iload_n (k4 := 3) rfl dL_law_1031 ?_
                                                                refine gx_iconst (v := 2) (by decide) dL_law_1032 ?_
                                                                refine gx_iadd dL_law_1033 ?_
                                                                obtain ⟨v211, ev211, hs⟩ := bindS hs
                                                                refine gx_xI ev211 dL_law_1034 ?_
                                                                obtain ⟨g213, hs⟩ := gO_at hs
                                                                obtain ⟨y212, ey212, hs⟩ := bindS hs
                                                                refine gx_V1 (As := [.int v210, .int v211]) (st := []) g213 rfl rfl (oX11_chalks (d := d - 1) (by omega) ey212) (by omega) mb_X11_chalks lm_RL_135 mi_X11_chalks (Nat.le_of_ble_eq_true rfl) rfl dL_law_1035 ?_
                                                                refine gx_aload_n (k4 := 2) rfl (Or.inr ⟨_, rfl⟩) dL_law_1038 ?_
                                                                refine gx_aload_n (k4 := 0) rfl (Or.inr ⟨_, rfl⟩) dL_law_1039 ?_
                                                                refine gx_iload_n (k4 := 3) rfl dL_law_1040 ?_
                                                                refine gx_at 1041 rfl ?_
                                                                refine gx_iconst (v := 1) (by decide) dL_law_1041 ?_
                                                                refine gx_iadd dL_law_1042 ?_
                                                                obtain ⟨v214, ev214, hs⟩ := bindS hs
                                                                refine gx_xI ev214 dL_law_1043 ?_
                                                                refine gx_aload_n (k4 := 0) rfl (Or.inr ⟨_, rfl⟩) dL_law_1044 ?_
                                                                refine gx_iload_n (k4 := 3) rfl dL_law_1045 ?_
                                                                refine gx_iconst (v := 2) (by decide) dL_law_1046 ?_
                                                                refine gx_iadd dL_law_1047 ?_
                                                                obtain ⟨v215, ev215, hs⟩ := bindS hs
                                                                refine gx_xI ev215 dL_law_1048 ?_
                                                                refine gx_at 1049 rfl ?_
                                                                obtain ⟨g217, hs⟩ := gO_at hs
                                                                obtain ⟨y216, ey216, hs⟩ := bindS hs
                                                                refine gx_V1 (As := [.int v214, .int v215]) (st := [.int y212.1]) g217 rfl rfl (oX12_chalks (d := d - 1) (by omega) ey216) (by omega) mb_X12_chalks lm_RL_138 mi_X12_chalks (Nat.le_of_ble_eq_true rfl) rfl dL_law_1049 ?_
                                                                refine gx_icmp_eq (tgt := 1474) (by decide) dL_law_1052 (fun c => ?_) (fun c => ?_)
                                                                · have hs := if_t c hs
                                                                  exact gx_subL (L' := [some (.ref 0), some (.ref x1), some (.ref x2), some (.int x3)]) (by simp [subL, va_rf]) (oL_law_1474 hd hs hk)
                                                                · have hs := if_f c hs
                                                                  refine gx_iconst (v := 0) (by decide) dL_law_1055 ?_
                                                                  obtain rfl := Option.some.inj hs
                                                                  obtain ⟨rfl, rfl⟩ := hk
                                                                  exact gx_zret (ty := .boolean) rfl rfl dL_law_1056
                                                              · have hs := if_f c29 hs
                                                                by_cases c30 : (v7 &&& (63 : Int32)) = 30
                                                                · have hs := if_t c30 hs
                                                                  refine gx_tableIn (off := 1024) (tgt := 1057) (by rw [c30]; decide) (by rw [c30]; decide) (by rw [c30]; rfl) (by decide) dL_law_33 ?_
                                                                  refine gx_aload_n (k4 := 1) rfl (Or.inr ⟨_, rfl⟩) dL_law_1057 ?_
                                                                  refine gx_aload_n (k4 := 0) rfl (Or.inr ⟨_, rfl⟩) dL_law_1058 ?_
                                                                  refine gx_iload_n (k4 := 3) rfl dL_law_1059 ?_
                                                                  refine gx_iconst (v := 1) (by decide) dL_law_1060 ?_
                                                                  refine gx_iadd dL_law_1061 ?_
                                                                  obtain ⟨v218, ev218, hs⟩ := bindS hs
                                                                  refine gx_xI ev218 dL_law_1062 ?_
                                                                  refine gx_aload_n (k4 := 0) rfl (Or.inr ⟨_, rfl⟩) dL_law_1063 ?_
                                                                  refine gx_at 1064 rfl ?_
                                                                  refine gx_iload_n (k4 := 3) rfl dL_law_1064 ?_
                                                                  refine gx_iconst (v := 2) (by decide) dL_law_1065 ?_
                                                                  refine gx_iadd dL_law_1066 ?_
                                                                  obtain ⟨v219, ev219, hs⟩ := bindS hs
                                                                  refine gx_xI ev219 dL_law_1067 ?_
                                                                  obtain ⟨g221, hs⟩ := gO_at hs
                                                                  obtain ⟨y220, ey220, hs⟩ := bindS hs
                                                                  refine gx_V1 (As := [.int v218, .int v219]) (st := []) g221 rfl rfl (oX11_attempt (d := d - 1) (by omega) ey220) (by omega) mb_X11_attempt lm_RL_139 mi_X11_attempt (Nat.le_of_ble_eq_true rfl) rfl dL_law_1068 ?_
                                                                  refine gx_aload_n (k4 := 2) rfl (Or.inr ⟨_, rfl⟩) dL_law_1071 ?_
                                                                  refine gx_aload_n (k4 := 0) rfl (Or.inr ⟨_, rfl⟩) dL_law_1072 ?_
                                                                  refine gx_iload_n (k4 := 3) rfl dL_law_1073 ?_
                                                                  refine gx_at 1074 rfl ?_
                                                                  refine gx_iconst (v := 1) (by decide) dL_law_1074 ?_
                                                                  refine gx_iadd dL_law_1075 ?_
                                                                  obtain ⟨v222, ev222, hs⟩ := bindS hs
                                                                  refine gx_xI ev222 dL_law_1076 ?_
                                                                  refine gx_aload_n (k4 := 0) rfl (Or.inr ⟨_, rfl⟩) dL_law_1077 ?_
                                                                  refine gx_iload_n (k4 := 3) rfl dL_law_1078 ?_
                                                                  refine gx_iconst (v := 2) (by decide) dL_law_1079 ?_
                                                                  refine gx_iadd dL_law_1080 ?_
                                                                  obtain ⟨v223, ev223, hs⟩ := bindS hs
                                                                  refine gx_xI ev223 dL_law_1081 ?_
                                                                  refine gx_at 1082 rfl ?_
                                                                  obtain ⟨g225, hs⟩ := gO_at hs
                                                                  obtain ⟨y224, ey224, hs⟩ := bindS hs
                                                                  refine gx_V1 (As := [.int v222, .int v223]) (st := [.int y220.1]) g225 rfl rfl (oX12_attempt (d := d - 1) (by omega) ey224) (by omega) mb_X12_attempt lm_RL_142 mi_X12_attempt (Nat.le_of_ble_eq_true rfl) rfl dL_law_1082 ?_
                                                                  refine gx_icmp_eq (tgt := 1474) (by decide) dL_law_1085 (fun c => ?_) (fun c => ?_)
                                                                  · have hs := if_t c hs
                                                                    exact gx_subL (L' := [some (.ref 0), some (.ref x1), some (.ref x2), some (.int x3)]) (by simp [subL, va_rf]) (oL_law_1474 hd hs hk)
                                                                  · have hs := if_f c hs
                                                                    refine gx_iconst (v := 0) (by decide) dL_law_1088 ?_
                                                                    obtain rfl := Option.some.inj hs
                                                                    obtain ⟨rfl, rfl⟩ := hk
                                                                    exact gx_zret (ty := .boolean) rfl rfl dL_law_1089
                                                                · have hs := if_f c30 hs
                                                                  by_cases c31 : (v7 &&& (63 : Int32)) = 31
                                                                  · have hs := if_t c31 hs
                                                                    refine gx_tableIn (off := 1057) (tgt := 1090) (by rw [c31]; decide) (by rw [c31]; decide) (by rw [c31]; rfl) (by decide) dL_law_33 ?_
                                                                    refine gx_aload_n (k4 := 1) rfl (Or.inr ⟨_, rfl⟩) dL_law_1090 ?_
                                                                    refine gx_aload_n (k4 := 0) rfl (Or.inr ⟨_, rfl⟩) dL_law_1091 ?_
                                                                    refine gx_iload_n (k4 := 3) rfl dL_law_1092 ?_
                                                                    refine gx_iconst (v := 1) (by decide) dL_law_1093 ?_
                                                                    refine gx_iadd dL_law_1094 ?_
                                                                    obtain ⟨v226, ev226, hs⟩ := bindS hs
                                                                    refine gx_xI ev226 dL_law_1095 ?_
                                                                    obtain ⟨g228, hs⟩ := gO_at hs
                                                                    obtain ⟨y227, ey227, hs⟩ := bindS hs
                                                                    refine gx_V1 (As := [.int v226]) (st := []) g228 rfl rfl (oX11_forces (d := d - 1) (by omega) ey227) (by omega) mb_X11_forces lm_RL_143 mi_X11_forces (Nat.le_of_ble_eq_true rfl) rfl dL_law_1096 ?_
                                                                    refine gx_at 1099 rfl ?_
                                                                    refine gx_aload_n (k4 := 2) rfl (Or.inr ⟨_, rfl⟩) dL_law_1099 ?_
                                                                    refine gx_aload_n (k4 := 0) rfl (Or.inr ⟨_, rfl⟩) dL_law_1100 ?_
                                                                    refine gx_iload_n (k4 := 3) rfl dL_law_1101 ?_
                                                                    refine gx_iconst (v := 1) (by decide) dL_law_1102 ?_
                                                                    refine gx_iadd dL_law_1103 ?_
                                                                    obtain ⟨v229, ev229, hs⟩ := bindS hs
                                                                    refine gx_xI ev229 dL_law_1104 ?_
                                                                    obtain ⟨g231, hs⟩ := gO_at hs
                                                                    obtain ⟨y230, ey230, hs⟩ := bindS hs
                                                                    refine gx_V1 (As := [.int v229]) (st := [.int y227.1]) g231 rfl rfl (oX12_forces (d := d - 1) (by omega) ey230) (by omega) mb_X12_forces lm_RL_146 mi_X12_forces (Nat.le_of_ble_eq_true rfl) rfl dL_law_1105 ?_
                                                                    refine gx_icmp_eq (tgt := 1474) (by decide) dL_law_1108 (fun c => ?_) (fun c => ?_)
                                                                    · have hs := if_t c hs
                                                                      exact gx_subL (L' := [some (.ref 0), some (.ref x1), some (.ref x2), some (.int x3)]) (by simp [subL, va_rf]) (oL_law_1474 hd hs hk)
                                                                    · have hs := if_f c hs
                                                                      refine gx_iconst (v := 0) (by decide) dL_law_1111 ?_
                                                                      obtain rfl := Option.some.inj hs
                                                                      obtain ⟨rfl, rfl⟩ := hk
                                                                      exact gx_zret (ty := .boolean) rfl rfl dL_law_1112
                                                                  · have hs := if_f c31 hs
                                                                    by_cases c32 : (v7 &&& (63 : Int32)) = 32
                                                                    · have hs := if_t c32 hs
                                                                      refine gx_tableIn (off := 1080) (tgt := 1113) (by rw [c32]; decide) (by rw [c32]; decide) (by rw [c32]; rfl) (by decide) dL_law_33 ?_
                                                                      refine gx_aload_n (k4 := 1) rfl (Or.inr ⟨_, rfl⟩) dL_law_1113 ?_
                                                                      refine gx_aload_n (k4 := 0) rfl (Or.inr ⟨_, rfl⟩) dL_law_1114 ?_
                                                                      refine gx_iload_n (k4 := 3) rfl dL_law_1115 ?_
                                                                      refine gx_iconst (v := 1) (by decide) dL_law_1116 ?_
                                                                      refine gx_iadd dL_law_1117 ?_
                                                                      obtain ⟨v232, ev232, hs⟩ := bindS hs
                                                                      refine gx_xI ev232 dL_law_1118 ?_
                                                                      obtain ⟨g234, hs⟩ := gO_at hs
                                                                      obtain ⟨y233, ey233, hs⟩ := bindS hs
                                                                      refine gx_V1 (As := [.int v232]) (st := []) g234 rfl rfl (oX11_best (d := d - 1) (by omega) ey233) (by omega) mb_X11_best lm_RL_147 mi_X11_best (Nat.le_of_ble_eq_true rfl) rfl dL_law_1119 ?_
                                                                      refine gx_at 1122 rfl ?_
                                                                      refine gx_aload_n (k4 := 2) rfl (Or.inr ⟨_, rfl⟩) dL_law_1122 ?_
                                                                      refine gx_aload_n (k4 := 0) rfl (Or.inr ⟨_, rfl⟩) dL_law_1123 ?_
                                                                      refine gx_iload_n (k4 := 3) rfl dL_law_1124 ?_
                                                                      refine gx_iconst (v := 1) (by decide) dL_law_1125 ?_
                                                                      refine gx_iadd dL_law_1126 ?_
                                                                      obtain ⟨v235, ev235, hs⟩ := bindS hs
                                                                      refine gx_xI ev235 dL_law_1127 ?_
                                                                      obtain ⟨g237, hs⟩ := gO_at hs
                                                                      obtain ⟨y236, ey236, hs⟩ := bindS hs
                                                                      refine gx_V1 (As := [.int v235]) (st := [.int y233.1]) g237 rfl rfl (oX12_best (d := d - 1) (by omega) ey236) (by omega) mb_X12_best lm_RL_150 mi_X12_best (Nat.le_of_ble_eq_true rfl) rfl dL_law_1128 ?_
                                                                      refine gx_icmp_eq (tgt := 1474) (by decide) dL_law_1131 (fun c => ?_) (fun c => ?_)
                                                                      · have hs := if_t c hs
                                                                        exact gx_subL (L' := [some (.ref 0), some (.ref x1), some (.ref x2), some (.int x3)]) (by simp [subL, va_rf]) (oL_law_1474 hd hs hk)
                                                                      · have hs := if_f c hs
                                                                        refine gx_iconst (v := 0) (by decide) dL_law_1134 ?_
                                                                        obtain rfl := Option.some.inj hs
                                                                        obtain ⟨rfl, rfl⟩ := hk
                                                                        exact gx_zret (ty := .boolean) rfl rfl dL_law_1135
                                                                    · have hs := if_f c32 hs
                                                                      by_cases c33 : (v7 &&& (63 : Int32)) = 33
                                                                      · have hs := if_t c33 hs
                                                                        refine gx_tableIn (off := 1103) (tgt := 1136) (by rw [c33]; decide) (by rw [c33]; decide) (by rw [c33]; rfl) (by decide) dL_law_33 ?_
                                                                        refine gx_aload_n (k4 := 1) rfl (Or.inr ⟨_, rfl⟩) dL_law_1136 ?_
                                                                        refine gx_aload_n (k4 := 0) rfl (Or.inr ⟨_, rfl⟩) dL_law_1137 ?_
                                                                        refine gx_iload_n (k4 := 3) rfl dL_law_1138 ?_
                                                                        refine gx_iconst (v := 1) (by decide) dL_law_1139 ?_
                                                                        refine gx_iadd dL_law_1140 ?_
                                                                        obtain ⟨v238, ev238, hs⟩ := bindS hs
                                                                        refine gx_xI ev238 dL_law_1141 ?_
                                                                        refine gx_aload_n (k4 := 0) rfl (Or.inr ⟨_, rfl⟩) dL_law_1142 ?_
                                                                        refine gx_at 1143 rfl ?_
                                                                        refine gx_iload_n (k4 := 3) rfl dL_law_1143 ?_
                                                                        refine gx_iconst (v := 2) (by decide) dL_law_1144 ?_
                                                                        refine gx_iadd dL_law_1145 ?_
                                                                        obtain ⟨v239, ev239, hs⟩ := bindS hs
                                                                        refine gx_xI ev239 dL_law_1146 ?_
                                                                        refine gx_aload_n (k4 := 0) rfl (Or.inr ⟨_, rfl⟩) dL_law_1147 ?_
                                                                        refine gx_iload_n (k4 := 3) rfl dL_law_1148 ?_
                                                                        refine gx_iconst (v := 3) (by decide) dL_law_1149 ?_
                                                                        refine gx_iadd dL_law_1150 ?_
                                                                        refine gx_at 1151 rfl ?_
                                                                        obtain ⟨v240, ev240, hs⟩ := bindS hs
                                                                        refine gx_xI ev240 dL_law_1151 ?_
                                                                        obtain ⟨g242, hs⟩ := gO_at hs
                                                                        obtain ⟨y241, ey241, hs⟩ := bindS hs
                                                                        refine gx_V1 (As := [.int v238, .int v239, .int v240]) (st := []) g242 rfl rfl (oX11_chance (d := d - 1) (by omega) ey241) (by omega) mb_X11_chance lm_RL_151 mi_X11_chance (Nat.le_of_ble_eq_true rfl) rfl dL_law_1152 ?_
                                                                        refine gx_aload_n (k4 := 2) rfl (Or.inr ⟨_, rfl⟩) dL_law_1155 ?_
                                                                        refine gx_aload_n (k4 := 0) rfl (Or.inr ⟨_, rfl⟩) dL_law_1156 ?_
                                                                        refine gx_iload_n (k4 := 3) rfl dL_law_1157 ?_
                                                                        refine gx_iconst (v := 1) (by decide) dL_law_1158 ?_
                                                                        refine gx_iadd dL_law_1159 ?_
                                                                        obtain ⟨v243, ev243, hs⟩ := bindS hs
                                                                        refine gx_xI ev243 dL_law_1160 ?_
                                                                        refine gx_at 1161 rfl ?_
                                                                        refine gx_aload_n (k4 := 0) rfl (Or.inr ⟨_, rfl⟩) dL_law_1161 ?_
                                                                        refine gx_iload_n (k4 := 3) rfl dL_law_1162 ?_
                                                                        refine gx_iconst (v := 2) (by decide) dL_law_1163 ?_
                                                                        refine gx_iadd dL_law_1164 ?_
                                                                        obtain ⟨v244, ev244, hs⟩ := bindS hs
                                                                        refine gx_xI ev244 dL_law_1165 ?_
                                                                        refine gx_aload_n (k4 := 0) rfl (Or.inr ⟨_, rfl⟩) dL_law_1166 ?_
                                                                        refine gx_iload_n (k4 := 3) rfl dL_law_1167 ?_
                                                                        refine gx_iconst (v := 3) (by decide) dL_law_1168 ?_
                                                                        refine gx_at 1169 rfl ?_
                                                                        refine gx_iadd dL_law_1169 ?_
                                                                        obtain ⟨v245, ev245, hs⟩ := bindS hs
                                                                        refine gx_xI ev245 dL_law_1170 ?_
                                                                        obtain ⟨g247, hs⟩ := gO_at hs
                                                                        obtain ⟨y246, ey246, hs⟩ := bindS hs
                                                                        refine gx_V1 (As := [.int v243, .int v244, .int v245]) (st := [.int y241.1]) g247 rfl rfl (oX12_chance (d := d - 1) (by omega) ey246) (by omega) mb_X12_chance lm_RL_154 mi_X12_chance (Nat.le_of_ble_eq_true rfl) rfl dL_law_1171 ?_
                                                                        refine gx_icmp_eq (tgt := 1474) (by decide) dL_law_1174 (fun c => ?_) (fun c => ?_)
                                                                        · have hs := if_t c hs
                                                                          exact gx_subL (L' := [some (.ref 0), some (.ref x1), some (.ref x2), some (.int x3)]) (by simp [subL, va_rf]) (oL_law_1474 hd hs hk)
                                                                        · have hs := if_f c hs
                                                                          refine gx_iconst (v := 0) (by decide) dL_law_1177 ?_
                                                                          obtain rfl := Option.some.inj hs
                                                                          obtain ⟨rfl, rfl⟩ := hk
                                                                          exact gx_zret (ty := .boolean) rfl rfl dL_law_1178
                                                                      · have hs := if_f c33 hs
                                                                        by_cases c34 : (v7 &&& (63 : Int32)) = 34
                                                                        · have hs := if_t c34 hs
                                                                          refine gx_tableIn (off := 1146) (tgt := 1179) (by rw [c34]; decide) (by rw [c34]; decide) (by rw [c34]; rfl) (by decide) dL_law_33 ?_
                                                                          refine gx_aload_n (k4 := 1) rfl (Or.inr ⟨_, rfl⟩) dL_law_1179 ?_
                                                                          refine gx_aload_n (k4 := 0) rfl (Or.inr ⟨_, rfl⟩) dL_law_1180 ?_
                                                                          refine gx_iload_n (k4 := 3) rfl dL_law_1181 ?_
                                                                          refine gx_iconst (v := 1) (by decide) dL_law_1182 ?_
                                                                          refine gx_iadd dL_law_1183 ?_
                                                                          obtain ⟨v248, ev248, hs⟩ := bindS hs
                                                                          refine gx_xI ev248 dL_law_1184 ?_
                                                                          refine gx_aload_n (k4 := 0) rfl (Or.inr ⟨_, rfl⟩) dL_law_1185 ?_
                                                                          refine gx_at 1186 rfl ?_
                                                                          refine gx_iload_n (k4 := 3) rfl dL_law_1186 ?_
                                                                          refine gx_iconst (v := 2) (by decide) dL_law_1187 ?_
                                                                          refine gx_iadd dL_law_1188 ?_
                                                                          obtain ⟨v249, ev249, hs⟩ := bindS hs
                                                                          refine gx_xI ev249 dL_law_1189 ?_
                                                                          refine gx_aload_n (k4 := 0) rfl (Or.inr ⟨_, rfl⟩) dL_law_1190 ?_
                                                                          refine gx_iload_n (k4 := 3) rfl dL_law_1191 ?_
                                                                          refine gx_iconst (v := 3) (by decide) dL_law_1192 ?_
                                                                          refine gx_iadd dL_law_1193 ?_
                                                                          refine gx_at 1194 rfl ?_
                                                                          obtain ⟨v250, ev250, hs⟩ := bindS hs
                                                                          refine gx_xI ev250 dL_law_1194 ?_
                                                                          obtain ⟨g252, hs⟩ := gO_at hs
                                                                          obtain ⟨y251, ey251, hs⟩ := bindS hs
                                                                          refine gx_V1 (As := [.int v248, .int v249, .int v250]) (st := []) g252 rfl rfl (oX11_mean (d := d - 1) (by omega) ey251) (by omega) mb_X11_mean lm_RL_155 mi_X11_mean (Nat.le_of_ble_eq_true rfl) rfl dL_law_1195 ?_
                                                                          refine gx_aload_n (k4 := 2) rfl (Or.inr ⟨_, rfl⟩) dL_law_1198 ?_
                                                                          refine gx_aload_n (k4 := 0) rfl (Or.inr ⟨_, rfl⟩) dL_law_1199 ?_
                                                                          refine gx_iload_n (k4 := 3) rfl dL_law_1200 ?_
                                                                          refine gx_iconst (v := 1) (by decide) dL_law_1201 ?_
                                                                          refine gx_iadd dL_law_1202 ?_
                                                                          obtain ⟨v253, ev253, hs⟩ := bindS hs
                                                                          refine gx_xI ev253 dL_law_1203 ?_
                                                                          refine gx_at 1204 rfl ?_
                                                                          refine gx_aload_n (k4 := 0) rfl (Or.inr ⟨_, rfl⟩) dL_law_1204 ?_
                                                                          refine gx_iload_n (k4 := 3) rfl dL_law_1205 ?_
                                                                          refine gx_iconst (v := 2) (by decide) dL_law_1206 ?_
                                                                          refine gx_iadd dL_law_1207 ?_
                                                                          obtain ⟨v254, ev254, hs⟩ := bindS hs
                                                                          refine gx_xI ev254 dL_law_1208 ?_
                                                                          refine gx_aload_n (k4 := 0) rfl (Or.inr ⟨_, rfl⟩) dL_law_1209 ?_
                                                                          refine gx_iload_n (k4 := 3) rfl dL_law_1210 ?_
                                                                          refine gx_iconst (v := 3) (by decide) dL_law_1211 ?_
                                                                          refine gx_at 1212 rfl ?_
                                                                          refine gx_iadd dL_law_1212 ?_
                                                                          obtain ⟨v255, ev255, hs⟩ := bindS hs
                                                                          refine gx_xI ev255 dL_law_1213 ?_
                                                                          obtain ⟨g257, hs⟩ := gO_at hs
                                                                          obtain ⟨y256, ey256, hs⟩ := bindS hs
                                                                          refine gx_V1 (As := [.int v253, .int v254, .int v255]) (st := [.int y251.1]) g257 rfl rfl (oX12_mean (d := d - 1) (by omega) ey256) (by omega) mb_X12_mean lm_RL_158 mi_X12_mean (Nat.le_of_ble_eq_true rfl) rfl dL_law_1214 ?_
                                                                          refine gx_icmp_eq (tgt := 1474) (by decide) dL_law_1217 (fun c => ?_) (fun c => ?_)
                                                                          · have hs := if_t c hs
                                                                            exact gx_subL (L' := [some (.ref 0), some (.ref x1), some (.ref x2), some (.int x3)]) (by simp [subL, va_rf]) (oL_law_1474 hd hs hk)
                                                                          · have hs := if_f c hs
                                                                            refine gx_iconst (v := 0) (by decide) dL_law_1220 ?_
                                                                            obtain rfl := Option.some.inj hs
                                                                            obtain ⟨rfl, rfl⟩ := hk
                                                                            exact gx_zret (ty := .boolean) rfl rfl dL_law_1221
                                                                        · have hs := if_f c34 hs
                                                                          by_cases c35 : (v7 &&& (63 : Int32)) = 35
                                                                          · have hs := if_t c35 hs
                                                                            refine gx_tableIn (off := 1189) (tgt := 1222) (by rw [c35]; decide) (by rw [c35]; decide) (by rw [c35]; rfl) (by decide) dL_law_33 ?_
                                                                            refine gx_aload_n (k4 := 1) rfl (Or.inr ⟨_, rfl⟩) dL_law_1222 ?_
                                                                            refine gx_aload_n (k4 := 0) rfl (Or.inr ⟨_, rfl⟩) dL_law_1223 ?_
                                                                            refine gx_iload_n (k4 := 3) rfl dL_law_1224 ?_
                                                                            refine gx_iconst (v := 1) (by decide) dL_law_1225 ?_
                                                                            refine gx_iadd dL_law_1226 ?_
                                                                            obtain ⟨v258, ev258, hs⟩ := bindS hs
                                                                            refine gx_xI ev258 dL_law_1227 ?_
                                                                            refine gx_aload_n (k4 := 0) rfl (Or.inr ⟨_, rfl⟩) dL_law_1228 ?_
                                                                            refine gx_at 1229 rfl ?_
                                                                            refine gx_iload_n (k4 := 3) rfl dL_law_1229 ?_
                                                                            refine gx_iconst (v := 2) (by decide) dL_law_1230 ?_
                                                                            refine gx_iadd dL_law_1231 ?_
                                                                            obtain ⟨v259, ev259, hs⟩ := bindS hs
                                                                            refine gx_xI ev259 dL_law_1232 ?_
                                                                            obtain ⟨g261, hs⟩ := gO_at hs
                                                                            obtain ⟨y260, ey260, hs⟩ := bindS hs
                                                                            refine gx_V1 (As := [.int v258, .int v259]) (st := []) g261 rfl rfl (oX11_fallen (d := d - 1) (by omega) ey260) (by omega) mb_X11_fallen lm_RL_159 mi_X11_fallen (Nat.le_of_ble_eq_true rfl) rfl dL_law_1233 ?_
                                                                            refine gx_aload_n (k4 := 2) rfl (Or.inr ⟨_, rfl⟩) dL_law_1236 ?_
                                                                            refine gx_aload_n (k4 := 0) rfl (Or.inr ⟨_, rfl⟩) dL_law_1237 ?_
                                                                            refine gx_iload_n (k4 := 3) rfl dL_law_1238 ?_
                                                                            refine gx_at 1239 rfl ?_
                                                                            refine gx_iconst (v := 1) (by decide) dL_law_1239 ?_
                                                                            refine gx_iadd dL_law_1240 ?_
                                                                            obtain ⟨v262, ev262, hs⟩ := bindS hs
                                                                            refine gx_xI ev262 dL_law_1241 ?_
                                                                            refine gx_aload_n (k4 := 0) rfl (Or.inr ⟨_, rfl⟩) dL_law_1242 ?_
                                                                            refine gx_iload_n (k4 := 3) rfl dL_law_1243 ?_
                                                                            refine gx_iconst (v := 2) (by decide) dL_law_1244 ?_
                                                                            refine gx_iadd dL_law_1245 ?_
                                                                            obtain ⟨v263, ev263, hs⟩ := bindS hs
                                                                            refine gx_xI ev263 dL_law_1246 ?_
                                                                            refine gx_at 1247 rfl ?_
                                                                            obtain ⟨g265, hs⟩ := gO_at hs
                                                                            obtain ⟨y264, ey264, hs⟩ := bindS hs
                                                                            refine gx_V1 (As := [.int v262, .int v263]) (st := [.int y260.1]) g265 rfl rfl (oX12_fallen (d := d - 1) (by omega) ey264) (by omega) mb_X12_fallen lm_RL_162 mi_X12_fallen (Nat.le_of_ble_eq_true rfl) rfl dL_law_1247 ?_
                                                                            refine gx_icmp_eq (tgt := 1474) (by decide) dL_law_1250 (fun c => ?_) (fun c => ?_)
                                                                            · have hs := if_t c hs
                                                                              exact gx_subL (L' := [some (.ref 0), some (.ref x1), some (.ref x2), some (.int x3)]) (by simp [subL, va_rf]) (oL_law_1474 hd hs hk)
                                                                            · have hs := if_f c hs
                                                                              refine gx_iconst (v := 0) (by decide) dL_law_1253 ?_
                                                                              obtain rfl := Option.some.inj hs
                                                                              obtain ⟨rfl, rfl⟩ := hk
                                                                              exact gx_zret (ty := .boolean) rfl rfl dL_law_1254
                                                                          · have hs := if_f c35 hs
                                                                            by_cases c36 : (v7 &&& (63 : Int32)) = 36
                                                                            · have hs := if_t c36 hs
                                                                              refine gx_tableIn (off := 1222) (tgt := 1255) (by rw [c36]; decide) (by rw [c36]; decide) (by rw [c36]; rfl) (by decide) dL_law_33 ?_
                                                                              refine gx_aload_n (k4 := 1) rfl (Or.inr ⟨_, rfl⟩) dL_law_1255 ?_
                                                                              refine gx_aload_n (k4 := 0) rfl (Or.inr ⟨_, rfl⟩) dL_law_1256 ?_
                                                                              refine gx_iload_n (k4 := 3) rfl dL_law_1257 ?_
                                                                              refine gx_iconst (v := 1) (by decide) dL_law_1258 ?_
                                                                              refine gx_iadd dL_law_1259 ?_
                                                                              obtain ⟨v266, ev266, hs⟩ := bindS hs
                                                                              refine gx_xI ev266 dL_law_1260 ?_
                                                                              refine gx_aload_n (k4 := 0) rfl (Or.inr ⟨_, rfl⟩) dL_law_1261 ?_
                                                                              refine gx_at 1262 rfl ?_
                                                                              refine gx_iload_n (k4 := 3) rfl dL_law_1262 ?_
                                                                              refine gx_iconst (v := 2) (by decide) dL_law_1263 ?_
                                                                              refine gx_iadd dL_law_1264 ?_
                                                                              obtain ⟨v267, ev267, hs⟩ := bindS hs
                                                                              refine gx_xI ev267 dL_law_1265 ?_
                                                                              refine gx_aload_n (k4 := 0) rfl (Or.inr ⟨_, rfl⟩) dL_law_1266 ?_
                                                                              refine gx_iload_n (k4 := 3) rfl dL_law_1267 ?_
                                                                              refine gx_iconst (v := 3) (by decide) dL_law_1268 ?_
                                                                              refine gx_iadd dL_law_1269 ?_
                                                                              refine gx_at 1270 rfl ?_
                                                                              obtain ⟨v268, ev268, hs⟩ := bindS hs
                                                                              refine gx_xI ev268 dL_law_1270 ?_
                                                                              obtain ⟨g270, hs⟩ := gO_at hs
                                                                              obtain ⟨y269, ey269, hs⟩ := bindS hs
                                                                              refine gx_V1 (As := [.int v266, .int v267, .int v268]) (st := []) g270 rfl rfl (oX11_numbers (d := d - 1) (by omega) ey269) (by omega) mb_X11_numbers lm_RL_163 mi_X11_numbers (Nat.le_of_ble_eq_true rfl) rfl dL_law_1271 ?_
                                                                              refine gx_aload_n (k4 := 2) rfl (Or.inr ⟨_, rfl⟩) dL_law_1274 ?_
                                                                              refine gx_aload_n (k4 := 0) rfl (Or.inr ⟨_, rfl⟩) dL_law_1275 ?_
                                                                              refine gx_iload_n (k4 := 3) rfl dL_law_1276 ?_
                                                                              refine gx_iconst (v := 1) (by decide) dL_law_1277 ?_
                                                                              refine gx_iadd dL_law_1278 ?_
                                                                              obtain ⟨v271, ev271, hs⟩ := bindS hs
                                                                              refine gx_xI ev271 dL_law_1279 ?_
                                                                              refine gx_at 1280 rfl ?_
                                                                              refine gx_aload_n (k4 := 0) rfl (Or.inr ⟨_, rfl⟩) dL_law_1280 ?_
                                                                              refine gx_iload_n (k4 := 3) rfl dL_law_1281 ?_
                                                                              refine gx_iconst (v := 2) (by decide) dL_law_1282 ?_
                                                                              refine gx_iadd dL_law_1283 ?_
                                                                              obtain ⟨v272, ev272, hs⟩ := bindS hs
                                                                              refine gx_xI ev272 dL_law_1284 ?_
                                                                              refine gx_aload_n (k4 := 0) rfl (Or.inr ⟨_, rfl⟩) dL_law_1285 ?_
                                                                              refine gx_iload_n (k4 := 3) rfl dL_law_1286 ?_
                                                                              refine gx_iconst (v := 3) (by decide) dL_law_1287 ?_
                                                                              refine gx_at 1288 rfl ?_
                                                                              refine gx_iadd dL_law_1288 ?_
                                                                              obtain ⟨v273, ev273, hs⟩ := bindS hs
                                                                              refine gx_xI ev273 dL_law_1289 ?_
                                                                              obtain ⟨g275, hs⟩ := gO_at hs
                                                                              obtain ⟨y274, ey274, hs⟩ := bindS hs
                                                                              refine gx_V1 (As := [.int v271, .int v272, .int v273]) (st := [.int y269.1]) g275 rfl rfl (oX12_numbers (d := d - 1) (by omega) ey274) (by omega) mb_X12_numbers lm_RL_166 mi_X12_numbers (Nat.le_of_ble_eq_true rfl) rfl dL_law_1290 ?_
                                                                              refine gx_icmp_eq (tgt := 1474) (by decide) dL_law_1293 (fun c => ?_) (fun c => ?_)
                                                                              · have hs := if_t c hs
                                                                                exact gx_subL (L' := [some (.ref 0), some (.ref x1), some (.ref x2), some (.int x3)]) (by simp [subL, va_rf]) (oL_law_1474 hd hs hk)
                                                                              · have hs := if_f c hs
                                                                                refine gx_iconst (v := 0) (by decide) dL_law_1296 ?_
                                                                                obtain rfl := Option.some.inj hs
                                                                                obtain ⟨rfl, rfl⟩ := hk
                                                                                exact gx_zret (ty := .boolean) rfl rfl dL_law_1297
                                                                            · have hs := if_f c36 hs
                                                                              by_cases c37 : (v7 &&& (63 : Int32)) = 37
                                                                              · have hs := if_t c37 hs
                                                                                refine gx_tableIn (off := 1265) (tgt := 1298) (by rw [c37]; decide) (by rw [c37]; decide) (by rw [c37]; rfl) (by decide) dL_law_33 ?_
                                                                                refine gx_aload_n (k4 := 1) rfl (Or.inr ⟨_, rfl⟩) dL_law_1298 ?_
                                                                                refine gx_aload_n (k4 := 0) rfl (Or.inr ⟨_, rfl⟩) dL_law_1299 ?_
                                                                                refine gx_iload_n (k4 := 3) rfl dL_law_1300 ?_
                                                                                refine gx_iconst (v := 1) (by decide) dL_law_1301 ?_
                                                                                refine gx_iadd dL_law_1302 ?_
                                                                                obtain ⟨v276, ev276, hs⟩ := bindS hs
                                                                                refine gx_xI ev276 dL_law_1303 ?_
                                                                                refine gx_aload_n (k4 := 0) rfl (Or.inr ⟨_, rfl⟩) dL_law_1304 ?_
                                                                                refine gx_at 1305 rfl ?_
                                                                                refine gx_iload_n (k4 := 3) rfl dL_law_1305 ?_
                                                                                refine gx_iconst (v := 2) (by decide) dL_law_1306 ?_
                                                                                refine gx_iadd dL_law_1307 ?_
                                                                                obtain ⟨v277, ev277, hs⟩ := bindS hs
                                                                                refine gx_xI ev277 dL_law_1308 ?_
                                                                                refine gx_aload_n (k4 := 0) rfl (Or.inr ⟨_, rfl⟩) dL_law_1309 ?_
                                                                                refine gx_iload_n (k4 := 3) rfl dL_law_1310 ?_
                                                                                refine gx_iconst (v := 3) (by decide) dL_law_1311 ?_
                                                                                refine gx_iadd dL_law_1312 ?_
                                                                                refine gx_at 1313 rfl ?_
                                                                                obtain ⟨v278, ev278, hs⟩ := bindS hs
                                                                                refine gx_xI ev278 dL_law_1313 ?_
                                                                                refine gx_i2l dL_law_1314 ?_
                                                                                refine gx_bipush (v := 32) (by decide) dL_law_1315 ?_
                                                                                refine gx_lshl dL_law_1317 ?_
                                                                                refine gx_aload_n (k4 := 0) rfl (Or.inr ⟨_, rfl⟩) dL_law_1318 ?_
                                                                                refine gx_iload_n (k4 := 3) rfl dL_law_1319 ?_
                                                                                refine gx_iconst (v := 4) (by decide) dL_law_1320 ?_
                                                                                refine gx_iadd dL_law_1321 ?_
                                                                                refine gx_at 1322 rfl ?_
                                                                                obtain ⟨v279, ev279, hs⟩ := bindS hs
                                                                                refine gx_xI ev279 dL_law_1322 ?_
                                                                                refine gx_i2l dL_law_1323 ?_
                                                                                refine gx_ldc2 lc_RL_167 dL_law_1324 ?_
                                                                                refine gx_land dL_law_1327 ?_
                                                                                refine gx_lor dL_law_1328 ?_
                                                                                obtain ⟨w280, ew280, hs⟩ := lt_at hs
                                                                                rw [← ew280]
                                                                                obtain ⟨g282, hs⟩ := gO_at hs
                                                                                obtain ⟨y281, ey281, hs⟩ := bindS hs
                                                                                refine gx_V1 (As := [.int v276, .int v277, .long w280]) (st := []) g282 rfl rfl (oX11_write (d := d - 1) (by omega) ey281) (by omega) mb_X11_write lm_RL_169 mi_X11_write (Nat.le_of_ble_eq_true rfl) rfl dL_law_1329 ?_
                                                                                refine gx_aload_n (k4 := 2) rfl (Or.inr ⟨_, rfl⟩) dL_law_1332 ?_
                                                                                refine gx_aload_n (k4 := 0) rfl (Or.inr ⟨_, rfl⟩) dL_law_1333 ?_
                                                                                refine gx_at 1334 rfl ?_
                                                                                refine gx_iload_n (k4 := 3) rfl dL_law_1334 ?_
                                                                                refine gx_iconst (v := 1) (by decide) dL_law_1335 ?_
                                                                                refine gx_iadd dL_law_1336 ?_
                                                                                obtain ⟨v283, ev283, hs⟩ := bindS hs
                                                                                refine gx_xI ev283 dL_law_1337 ?_
                                                                                refine gx_aload_n (k4 := 0) rfl (Or.inr ⟨_, rfl⟩) dL_law_1338 ?_
                                                                                refine gx_iload_n (k4 := 3) rfl dL_law_1339 ?_
                                                                                refine gx_iconst (v := 2) (by decide) dL_law_1340 ?_
                                                                                refine gx_iadd dL_law_1341 ?_
                                                                                refine gx_at 1342 rfl ?_
                                                                                obtain ⟨v284, ev284, hs⟩ := bindS hs
                                                                                refine gx_xI ev284 dL_law_1342 ?_
                                                                                refine gx_aload_n (k4 := 0) rfl (Or.inr ⟨_, rfl⟩) dL_law_1343 ?_
                                                                                refine gx_iload_n (k4 := 3) rfl dL_law_1344 ?_
                                                                                refine gx_iconst (v := 3) (by decide) dL_law_1345 ?_
                                                                                refine gx_iadd dL_law_1346 ?_
                                                                                obtain ⟨v285, ev285, hs⟩ := bindS hs
                                                                                refine gx_xI ev285 dL_law_1347 ?_
                                                                                refine gx_i2l dL_law_1348 ?_
                                                                                refine gx_bipush (v := 32) (by decide) dL_law_1349 ?_
                                                                                refine gx_at 1351 rfl ?_
                                                                                refine gx_lshl dL_law_1351 ?_
                                                                                refine gx_aload_n (k4 := 0) rfl (Or.inr ⟨_, rfl⟩) dL_law_1352 ?_
                                                                                refine gx_iload_n (k4 := 3) rfl dL_law_1353 ?_
                                                                                refine gx_iconst (v := 4) (by decide) dL_law_1354 ?_
                                                                                refine gx_iadd dL_law_1355 ?_
                                                                                obtain ⟨v286, ev286, hs⟩ := bindS hs
                                                                                refine gx_xI ev286 dL_law_1356 ?_
                                                                                refine gx_i2l dL_law_1357 ?_
                                                                                refine gx_ldc2 lc_RL_167 dL_law_1358 ?_
                                                                                refine gx_at 1361 rfl ?_
                                                                                refine gx_land dL_law_1361 ?_
                                                                                refine gx_lor dL_law_1362 ?_
                                                                                obtain ⟨w287, ew287, hs⟩ := lt_at hs
                                                                                rw [← ew287]
                                                                                obtain ⟨g289, hs⟩ := gO_at hs
                                                                                obtain ⟨y288, ey288, hs⟩ := bindS hs
                                                                                refine gx_V1 (As := [.int v283, .int v284, .long w287]) (st := [.long y281.1]) g289 rfl rfl (oX12_write (d := d - 1) (by omega) ey288) (by omega) mb_X12_write lm_RL_173 mi_X12_write (Nat.le_of_ble_eq_true rfl) rfl dL_law_1363 ?_
                                                                                refine gx_lcmp dL_law_1366 ?_
                                                                                refine gx_if_eq (tgt := 1474) (by decide) dL_law_1367 (fun c => ?_) (fun c => ?_)
                                                                                · have hs := if_t c hs
                                                                                  exact gx_subL (L' := [some (.ref 0), some (.ref x1), some (.ref x2), some (.int x3)]) (by simp [subL, va_rf]) (oL_law_1474 hd hs hk)
                                                                                · have hs := if_f c hs
                                                                                  refine gx_iconst (v := 0) (by decide) dL_law_1370 ?_
                                                                                  obtain rfl := Option.some.inj hs
                                                                                  obtain ⟨rfl, rfl⟩ := hk
                                                                                  exact gx_zret (ty := .boolean) rfl rfl dL_law_1371
                                                                              · have hs := if_f c37 hs
                                                                                by_cases c38 : (v7 &&& (63 : Int32)) = 38
                                                                                · have hs := if_t c38 hs
                                                                                  refine gx_tableIn (off := 1339) (tgt := 1372) (by rw [c38]; decide) (by rw [c38]; decide) (by rw [c38]; rfl) (by decide) dL_law_33 ?_
                                                                                  refine gx_aload_n (k4 := 1) rfl (Or.inr ⟨_, rfl⟩) dL_law_1372 ?_
                                                                                  refine gx_aload_n (k4 := 0) rfl (Or.inr ⟨_, rfl⟩) dL_law_1373 ?_
                                                                                  refine gx_iload_n (k4 := 3) rfl dL_law_1374 ?_
                                                                                  refine gx_iconst (v := 1) (by decide) dL_law_1375 ?_
                                                                                  refine gx_iadd dL_law_1376 ?_
                                                                                  obtain ⟨v290, ev290, hs⟩ := bindS hs
                                                                                  refine gx_xI ev290 dL_law_1377 ?_
                                                                                  refine gx_aload_n (k4 := 0) rfl (Or.inr ⟨_, rfl⟩) dL_law_1378 ?_
                                                                                  refine gx_at 1379 rfl ?_
                                                                                  refine gx_iload_n (k4 := 3) rfl dL_law_1379 ?_
                                                                                  refine gx_iconst (v := 2) (by decide) dL_law_1380 ?_
                                                                                  refine gx_iadd dL_law_1381 ?_
                                                                                  obtain ⟨v291, ev291, hs⟩ := bindS hs
                                                                                  refine gx_xI ev291 dL_law_1382 ?_
                                                                                  obtain ⟨g293, hs⟩ := gO_at hs
                                                                                  obtain ⟨y292, ey292, hs⟩ := bindS hs
                                                                                  refine gx_V1 (As := [.int v290, .int v291]) (st := []) g293 rfl rfl (oX11_lists (d := d - 1) (by omega) ey292) (by omega) mb_X11_lists lm_RL_174 mi_X11_lists (Nat.le_of_ble_eq_true rfl) rfl dL_law_1383 ?_
                                                                                  refine gx_aload_n (k4 := 2) rfl (Or.inr ⟨_, rfl⟩) dL_law_1386 ?_
                                                                                  refine gx_aload_n (k4 := 0) rfl (Or.inr ⟨_, rfl⟩) dL_law_1387 ?_
                                                                                  refine gx_iload_n (k4 := 3) rfl dL_law_1388 ?_
                                                                                  refine gx_at 1389 rfl ?_
                                                                                  refine gx_iconst (v := 1) (by decide) dL_law_1389 ?_
                                                                                  refine gx_iadd dL_law_1390 ?_
                                                                                  obtain ⟨v294, ev294, hs⟩ := bindS hs
                                                                                  refine gx_xI ev294 dL_law_1391 ?_
                                                                                  refine gx_aload_n (k4 := 0) rfl (Or.inr ⟨_, rfl⟩) dL_law_1392 ?_
                                                                                  refine gx_iload_n (k4 := 3) rfl dL_law_1393 ?_
                                                                                  refine gx_iconst (v := 2) (by decide) dL_law_1394 ?_
                                                                                  refine gx_iadd dL_law_1395 ?_
                                                                                  obtain ⟨v295, ev295, hs⟩ := bindS hs
                                                                                  refine gx_xI ev295 dL_law_1396 ?_
                                                                                  refine gx_at 1397 rfl ?_
                                                                                  obtain ⟨g297, hs⟩ := gO_at hs
                                                                                  obtain ⟨y296, ey296, hs⟩ := bindS hs
                                                                                  refine gx_V1 (As := [.int v294, .int v295]) (st := [.int y292.1]) g297 rfl rfl (oX12_lists (d := d - 1) (by omega) ey296) (by omega) mb_X12_lists lm_RL_177 mi_X12_lists (Nat.le_of_ble_eq_true rfl) rfl dL_law_1397 ?_
                                                                                  refine gx_icmp_eq (tgt := 1474) (by decide) dL_law_1400 (fun c => ?_) (fun c => ?_)
                                                                                  · have hs := if_t c hs
                                                                                    exact gx_subL (L' := [some (.ref 0), some (.ref x1), some (.ref x2), some (.int x3)]) (by simp [subL, va_rf]) (oL_law_1474 hd hs hk)
                                                                                  · have hs := if_f c hs
                                                                                    refine gx_iconst (v := 0) (by decide) dL_law_1403 ?_
                                                                                    obtain rfl := Option.some.inj hs
                                                                                    obtain ⟨rfl, rfl⟩ := hk
                                                                                    exact gx_zret (ty := .boolean) rfl rfl dL_law_1404
                                                                                · have hs := if_f c38 hs
                                                                                  by_cases c39 : (v7 &&& (63 : Int32)) = 39
                                                                                  · have hs := if_t c39 hs
                                                                                    refine gx_tableIn (off := 1372) (tgt := 1405) (by rw [c39]; decide) (by rw [c39]; decide) (by rw [c39]; rfl) (by decide) dL_law_33 ?_
                                                                                    refine gx_aload_n (k4 := 1) rfl (Or.inr ⟨_, rfl⟩) dL_law_1405 ?_
                                                                                    refine gx_aload_n (k4 := 0) rfl (Or.inr ⟨_, rfl⟩) dL_law_1406 ?_
                                                                                    refine gx_iload_n (k4 := 3) rfl dL_law_1407 ?_
                                                                                    refine gx_iconst (v := 1) (by decide) dL_law_1408 ?_
                                                                                    refine gx_iadd dL_law_1409 ?_
                                                                                    obtain ⟨v298, ev298, hs⟩ := bindS hs
                                                                                    refine gx_xI ev298 dL_law_1410 ?_
                                                                                    obtain ⟨g300, hs⟩ := gO_at hs
                                                                                    obtain ⟨y299, ey299, hs⟩ := bindS hs
                                                                                    refine gx_V1 (As := [.int v298]) (st := []) g300 rfl rfl (oX11_image (d := d - 1) (by omega) ey299) (by omega) mb_X11_image lm_RL_178 mi_X11_image (Nat.le_of_ble_eq_true rfl) rfl dL_law_1411 ?_
                                                                                    refine gx_at 1414 rfl ?_
                                                                                    refine gx_aload_n (k4 := 2) rfl (Or.inr ⟨_, rfl⟩) dL_law_1414 ?_
                                                                                    refine gx_aload_n (k4 := 0) rfl (Or.inr ⟨_, rfl⟩) dL_law_1415 ?_
                                                                                    refine gx_iload_n (k4 := 3) rfl dL_law_1416 ?_
                                                                                    refine gx_iconst (v := 1) (by decide) dL_law_1417 ?_
                                                                                    refine gx_iadd dL_law_1418 ?_
                                                                                    obtain ⟨v301, ev301, hs⟩ := bindS hs
                                                                                    refine gx_xI ev301 dL_law_1419 ?_
                                                                                    obtain ⟨g303, hs⟩ := gO_at hs
                                                                                    obtain ⟨y302, ey302, hs⟩ := bindS hs
                                                                                    refine gx_V1 (As := [.int v301]) (st := [.int y299.1]) g303 rfl rfl (oX12_image (d := d - 1) (by omega) ey302) (by omega) mb_X12_image lm_RL_181 mi_X12_image (Nat.le_of_ble_eq_true rfl) rfl dL_law_1420 ?_
                                                                                    refine gx_icmp_eq (tgt := 1474) (by decide) dL_law_1423 (fun c => ?_) (fun c => ?_)
                                                                                    · have hs := if_t c hs
                                                                                      exact gx_subL (L' := [some (.ref 0), some (.ref x1), some (.ref x2), some (.int x3)]) (by simp [subL, va_rf]) (oL_law_1474 hd hs hk)
                                                                                    · have hs := if_f c hs
                                                                                      refine gx_iconst (v := 0) (by decide) dL_law_1426 ?_
                                                                                      obtain rfl := Option.some.inj hs
                                                                                      obtain ⟨rfl, rfl⟩ := hk
                                                                                      exact gx_zret (ty := .boolean) rfl rfl dL_law_1427
                                                                                  · have hs := if_f c39 hs
                                                                                    by_cases c40 : (v7 &&& (63 : Int32)) = 40
                                                                                    · have hs := if_t c40 hs
                                                                                      refine gx_tableIn (off := 1395) (tgt := 1428) (by rw [c40]; decide) (by rw [c40]; decide) (by rw [c40]; rfl) (by decide) dL_law_33 ?_
                                                                                      refine gx_aload_n (k4 := 1) rfl (Or.inr ⟨_, rfl⟩) dL_law_1428 ?_
                                                                                      refine gx_aload_n (k4 := 0) rfl (Or.inr ⟨_, rfl⟩) dL_law_1429 ?_
                                                                                      refine gx_iload_n (k4 := 3) rfl dL_law_1430 ?_
                                                                                      refine gx_iconst (v := 1) (by decide) dL_law_1431 ?_
                                                                                      refine gx_iadd dL_law_1432 ?_
                                                                                      obtain ⟨v304, ev304, hs⟩ := bindS hs
                                                                                      refine gx_xI ev304 dL_law_1433 ?_
                                                                                      obtain ⟨g306, hs⟩ := gO_at hs
                                                                                      obtain ⟨y305, ey305, hs⟩ := bindS hs
                                                                                      refine gx_V1 (As := [.int v304]) (st := []) g306 rfl rfl (oX11_restore (d := d - 1) (by omega) ey305) (by omega) mb_X11_restore lm_RL_182 mi_X11_restore (Nat.le_of_ble_eq_true rfl) rfl dL_law_1434 ?_
                                                                                      refine gx_at 1437 rfl ?_
                                                                                      refine gx_aload_n (k4 := 2) rfl (Or.inr ⟨_, rfl⟩) dL_law_1437 ?_
                                                                                      refine gx_aload_n (k4 := 0) rfl (Or.inr ⟨_, rfl⟩) dL_law_1438 ?_
                                                                                      refine gx_iload_n (k4 := 3) rfl dL_law_1439 ?_
                                                                                      refine gx_iconst (v := 1) (by decide) dL_law_1440 ?_
                                                                                      refine gx_iadd dL_law_1441 ?_
                                                                                      obtain ⟨v307, ev307, hs⟩ := bindS hs
                                                                                      refine gx_xI ev307 dL_law_1442 ?_
                                                                                      obtain ⟨g309, hs⟩ := gO_at hs
                                                                                      obtain ⟨y308, ey308, hs⟩ := bindS hs
                                                                                      refine gx_V1 (As := [.int v307]) (st := [.int y305.1]) g309 rfl rfl (oX12_restore (d := d - 1) (by omega) ey308) (by omega) mb_X12_restore lm_RL_185 mi_X12_restore (Nat.le_of_ble_eq_true rfl) rfl dL_law_1443 ?_
                                                                                      refine gx_icmp_eq (tgt := 1474) (by decide) dL_law_1446 (fun c => ?_) (fun c => ?_)
                                                                                      · have hs := if_t c hs
                                                                                        exact gx_subL (L' := [some (.ref 0), some (.ref x1), some (.ref x2), some (.int x3)]) (by simp [subL, va_rf]) (oL_law_1474 hd hs hk)
                                                                                      · have hs := if_f c hs
                                                                                        refine gx_iconst (v := 0) (by decide) dL_law_1449 ?_
                                                                                        obtain rfl := Option.some.inj hs
                                                                                        obtain ⟨rfl, rfl⟩ := hk
                                                                                        exact gx_zret (ty := .boolean) rfl rfl dL_law_1450
                                                                                    · have hs := if_f c40 hs
                                                                                      by_cases c41 : (v7 &&& (63 : Int32)) = 41
                                                                                      · have hs := if_t c41 hs
                                                                                        refine gx_tableIn (off := 1418) (tgt := 1451) (by rw [c41]; decide) (by rw [c41]; decide) (by rw [c41]; rfl) (by decide) dL_law_33 ?_
                                                                                        refine gx_aload_n (k4 := 1) rfl (Or.inr ⟨_, rfl⟩) dL_law_1451 ?_
                                                                                        refine gx_aload_n (k4 := 0) rfl (Or.inr ⟨_, rfl⟩) dL_law_1452 ?_
                                                                                        refine gx_iload_n (k4 := 3) rfl dL_law_1453 ?_
                                                                                        refine gx_iconst (v := 1) (by decide) dL_law_1454 ?_
                                                                                        refine gx_iadd dL_law_1455 ?_
                                                                                        obtain ⟨v310, ev310, hs⟩ := bindS hs
                                                                                        refine gx_xI ev310 dL_law_1456 ?_
                                                                                        obtain ⟨g312, hs⟩ := gO_at hs
                                                                                        obtain ⟨y311, ey311, hs⟩ := bindS hs
                                                                                        refine gx_V1 (As := [.int v310]) (st := []) g312 rfl rfl (oX11_count (d := d - 1) (by omega) ey311) (by omega) mb_X11_count lm_RL_186 mi_X11_count (Nat.le_of_ble_eq_true rfl) rfl dL_law_1457 ?_
                                                                                        refine gx_at 1460 rfl ?_
                                                                                        refine gx_aload_n (k4 := 2) rfl (Or.inr ⟨_, rfl⟩) dL_law_1460 ?_
                                                                                        refine gx_aload_n (k4 := 0) rfl (Or.inr ⟨_, rfl⟩) dL_law_1461 ?_
                                                                                        refine gx_iload_n (k4 := 3) rfl dL_law_1462 ?_
                                                                                        refine gx_iconst (v := 1) (by decide) dL_law_1463 ?_
                                                                                        refine gx_iadd dL_law_1464 ?_
                                                                                        obtain ⟨v313, ev313, hs⟩ := bindS hs
                                                                                        refine gx_xI ev313 dL_law_1465 ?_
                                                                                        obtain ⟨g315, hs⟩ := gO_at hs
                                                                                        obtain ⟨y314, ey314, hs⟩ := bindS hs
                                                                                        refine gx_V1 (As := [.int v313]) (st := [.int y311]) g315 rfl rfl (oX12_count (d := d - 1) (by omega) ey314) (by omega) mb_X12_count lm_RL_189 mi_X12_count (Nat.le_of_ble_eq_true rfl) rfl dL_law_1466 ?_
                                                                                        refine gx_icmp_eq (tgt := 1474) (by decide) dL_law_1469 (fun c => ?_) (fun c => ?_)
                                                                                        · have hs := if_t c hs
                                                                                          exact gx_subL (L' := [some (.ref 0), some (.ref x1), some (.ref x2), some (.int x3)]) (by simp [subL, va_rf]) (oL_law_1474 hd hs hk)
                                                                                        · have hs := if_f c hs
                                                                                          refine gx_iconst (v := 0) (by decide) dL_law_1472 ?_
                                                                                          obtain rfl := Option.some.inj hs
                                                                                          obtain ⟨rfl, rfl⟩ := hk
                                                                                          exact gx_zret (ty := .boolean) rfl rfl dL_law_1473
                                                                                      · have hs := if_f c41 hs
                                                                                        refine gx_tableOut (tgt := 1474) (tab_out (0) (41) 41 (by decide) (by decide) (by decide) (fun i hi => by
                                                                                          match i, hi with
                                                                                          | 0, _ => rw [show Int32.ofInt ((0 : Int) + ((0 : Nat) : Int)) = (0 : Int32) by decide]; exact c0
                                                                                          | 1, _ => rw [show Int32.ofInt ((0 : Int) + ((1 : Nat) : Int)) = (1 : Int32) by decide]; exact c1
                                                                                          | 2, _ => rw [show Int32.ofInt ((0 : Int) + ((2 : Nat) : Int)) = (2 : Int32) by decide]; exact c2
                                                                                          | 3, _ => rw [show Int32.ofInt ((0 : Int) + ((3 : Nat) : Int)) = (3 : Int32) by decide]; exact c3
                                                                                          | 4, _ => rw [show Int32.ofInt ((0 : Int) + ((4 : Nat) : Int)) = (4 : Int32) by decide]; exact c4
                                                                                          | 5, _ => rw [show Int32.ofInt ((0 : Int) + ((5 : Nat) : Int)) = (5 : Int32) by decide]; exact c5
                                                                                          | 6, _ => rw [show Int32.ofInt ((0 : Int) + ((6 : Nat) : Int)) = (6 : Int32) by decide]; exact c6
                                                                                          | 7, _ => rw [show Int32.ofInt ((0 : Int) + ((7 : Nat) : Int)) = (7 : Int32) by decide]; exact c7
                                                                                          | 8, _ => rw [show Int32.ofInt ((0 : Int) + ((8 : Nat) : Int)) = (8 : Int32) by decide]; exact c8
                                                                                          | 9, _ => rw [show Int32.ofInt ((0 : Int) + ((9 : Nat) : Int)) = (9 : Int32) by decide]; exact c9
                                                                                          | 10, _ => rw [show Int32.ofInt ((0 : Int) + ((10 : Nat) : Int)) = (10 : Int32) by decide]; exact c10
                                                                                          | 11, _ => rw [show Int32.ofInt ((0 : Int) + ((11 : Nat) : Int)) = (11 : Int32) by decide]; exact c11
                                                                                          | 12, _ => rw [show Int32.ofInt ((0 : Int) + ((12 : Nat) : Int)) = (12 : Int32) by decide]; exact c12
                                                                                          | 13, _ => rw [show Int32.ofInt ((0 : Int) + ((13 : Nat) : Int)) = (13 : Int32) by decide]; exact c13
                                                                                          | 14, _ => rw [show Int32.ofInt ((0 : Int) + ((14 : Nat) : Int)) = (14 : Int32) by decide]; exact c14
                                                                                          | 15, _ => rw [show Int32.ofInt ((0 : Int) + ((15 : Nat) : Int)) = (15 : Int32) by decide]; exact c15
                                                                                          | 16, _ => rw [show Int32.ofInt ((0 : Int) + ((16 : Nat) : Int)) = (16 : Int32) by decide]; exact c16
                                                                                          | 17, _ => rw [show Int32.ofInt ((0 : Int) + ((17 : Nat) : Int)) = (17 : Int32) by decide]; exact c17
                                                                                          | 18, _ => rw [show Int32.ofInt ((0 : Int) + ((18 : Nat) : Int)) = (18 : Int32) by decide]; exact c18
                                                                                          | 19, _ => rw [show Int32.ofInt ((0 : Int) + ((19 : Nat) : Int)) = (19 : Int32) by decide]; exact c19
                                                                                          | 20, _ => rw [show Int32.ofInt ((0 : Int) + ((20 : Nat) : Int)) = (20 : Int32) by decide]; exact c20
                                                                                          | 21, _ => rw [show Int32.ofInt ((0 : Int) + ((21 : Nat) : Int)) = (21 : Int32) by decide]; exact c21
                                                                                          | 22, _ => rw [show Int32.ofInt ((0 : Int) + ((22 : Nat) : Int)) = (22 : Int32) by decide]; exact c22
                                                                                          | 23, _ => rw [show Int32.ofInt ((0 : Int) + ((23 : Nat) : Int)) = (23 : Int32) by decide]; exact c23
                                                                                          | 24, _ => rw [show Int32.ofInt ((0 : Int) + ((24 : Nat) : Int)) = (24 : Int32) by decide]; exact c24
                                                                                          | 25, _ => rw [show Int32.ofInt ((0 : Int) + ((25 : Nat) : Int)) = (25 : Int32) by decide]; exact c25
                                                                                          | 26, _ => rw [show Int32.ofInt ((0 : Int) + ((26 : Nat) : Int)) = (26 : Int32) by decide]; exact c26
                                                                                          | 27, _ => rw [show Int32.ofInt ((0 : Int) + ((27 : Nat) : Int)) = (27 : Int32) by decide]; exact c27
                                                                                          | 28, _ => rw [show Int32.ofInt ((0 : Int) + ((28 : Nat) : Int)) = (28 : Int32) by decide]; exact c28
                                                                                          | 29, _ => rw [show Int32.ofInt ((0 : Int) + ((29 : Nat) : Int)) = (29 : Int32) by decide]; exact c29
                                                                                          | 30, _ => rw [show Int32.ofInt ((0 : Int) + ((30 : Nat) : Int)) = (30 : Int32) by decide]; exact c30
                                                                                          | 31, _ => rw [show Int32.ofInt ((0 : Int) + ((31 : Nat) : Int)) = (31 : Int32) by decide]; exact c31
                                                                                          | 32, _ => rw [show Int32.ofInt ((0 : Int) + ((32 : Nat) : Int)) = (32 : Int32) by decide]; exact c32
                                                                                          | 33, _ => rw [show Int32.ofInt ((0 : Int) + ((33 : Nat) : Int)) = (33 : Int32) by decide]; exact c33
                                                                                          | 34, _ => rw [show Int32.ofInt ((0 : Int) + ((34 : Nat) : Int)) = (34 : Int32) by decide]; exact c34
                                                                                          | 35, _ => rw [show Int32.ofInt ((0 : Int) + ((35 : Nat) : Int)) = (35 : Int32) by decide]; exact c35
                                                                                          | 36, _ => rw [show Int32.ofInt ((0 : Int) + ((36 : Nat) : Int)) = (36 : Int32) by decide]; exact c36
                                                                                          | 37, _ => rw [show Int32.ofInt ((0 : Int) + ((37 : Nat) : Int)) = (37 : Int32) by decide]; exact c37
                                                                                          | 38, _ => rw [show Int32.ofInt ((0 : Int) + ((38 : Nat) : Int)) = (38 : Int32) by decide]; exact c38
                                                                                          | 39, _ => rw [show Int32.ofInt ((0 : Int) + ((39 : Nat) : Int)) = (39 : Int32) by decide]; exact c39
                                                                                          | 40, _ => rw [show Int32.ofInt ((0 : Int) + ((40 : Nat) : Int)) = (40 : Int32) by decide]; exact c40
                                                                                          | 41, _ => rw [show Int32.ofInt ((0 : Int) + ((41 : Nat) : Int)) = (41 : Int32) by decide]; exact c41
                                                                                          | k + 42, hi => omega)) (by decide) dL_law_33 ?_
                                                                                        exact gx_subL (L' := [some (.ref 0), some (.ref x1), some (.ref x2), some (.int x3)]) (by simp [subL, va_rf]) (oL_law_1474 hd hs hk)
theorem oL_law_18 {d : Nat} (hd : 112 ≤ d) {N : Nat} {xs : Nat → Int32} {h : Hp} {x1 : Nat} {x2 : Nat} {x3 : Int32} {rf : Option Value} {hf : Hp} {x : (Int32 × Hp)} (hs : fL_law_18 N xs h x1 x2 x3 = some x) (hk : (kL_law rf hf) x) : GoX N xs d mL_law 18 [some (.ref 0), some (.ref x1), some (.ref x2), some (.int x3)] [] h rf hf := by
  unfold fL_law_18 at hs
  exact lpw_go (P := pL_law_18 N xs d x1 x2 rf hf) (fun s x hs hk => oL_law_18b hd hs hk) (x3, h) x hs hk
noncomputable def fL_law (N : Nat) (xs : Nat → Int32) (h : Hp)  : Option (Int32 × Hp) :=
  lt h.1 fun a1 =>
  lt (nO h 11 19) fun h2 =>
  (fX11_init h2 a1).bind fun y3 =>
  lt y3.1 fun a4 =>
  lt (nO y3 12 41) fun h5 =>
  (fX12_init h5 a4).bind fun y6 =>
  fL_law_18 N xs y6 a1 a4 (0 : Int32)
theorem oL_law_0 {d : Nat} (hd : 112 ≤ d) {N : Nat} {xs : Nat → Int32} {h : Hp} {rf : Option Value} {hf : Hp} {x : (Int32 × Hp)} (hs : fL_law N xs h  = some x) (hk : (kL_law rf hf) x) : GoX N xs d mL_law 0 [some (.ref 0), none, none, none] [] h rf hf := by
  unfold fL_law at hs
  obtain ⟨a1, ea1, hs⟩ := lt_at hs
  obtain ⟨h2, eh2, hs⟩ := lt_at hs
  refine gx_nO (ci := 11) rfl ln_RL_7.1 ln_RL_7.2.1 ln_RL_7.2.2 dL_law_0 ?_
  rw [← ea1]
  refine gx_hp eh2.symm ?_
  refine gx_dup rfl dL_law_3 ?_
  obtain ⟨y3, ey3, hs⟩ := bindS hs
  refine gx_I0 (As := []) (st := [.ref a1]) rfl rfl (oX11_init (d := d - 1) (by omega) ey3) (by omega) mb_X11_init lm_RL_9 mi_X11_init (Nat.le_of_ble_eq_true rfl) rfl dL_law_4 ?_
  refine gx_astore_n (k4 := 1) (L' := [some (.ref 0), some (.ref a1), none, none]) (by decide) (Or.inr ⟨_, rfl⟩) rfl dL_law_7 ?_
  obtain ⟨a4, ea4, hs⟩ := lt_at hs
  obtain ⟨h5, eh5, hs⟩ := lt_at hs
  refine gx_nO (ci := 12) rfl ln_RL_10.1 ln_RL_10.2.1 ln_RL_10.2.2 dL_law_8 ?_
  rw [← ea4]
  refine gx_hp eh5.symm ?_
  refine gx_dup rfl dL_law_11 ?_
  obtain ⟨y6, ey6, hs⟩ := bindS hs
  refine gx_I0 (As := []) (st := [.ref a4]) rfl rfl (oX12_init (d := d - 1) (by omega) ey6) (by omega) mb_X12_init lm_RL_12 mi_X12_init (Nat.le_of_ble_eq_true rfl) rfl dL_law_12 ?_
  refine gx_at 15 rfl ?_
  refine gx_astore_n (k4 := 2) (L' := [some (.ref 0), some (.ref a1), some (.ref a4), none]) (by decide) (Or.inr ⟨_, rfl⟩) rfl dL_law_15 ?_
  refine gx_iconst (v := 0) (by decide) dL_law_16 ?_
  refine gx_istore_n (k4 := 3) (L' := [some (.ref 0), some (.ref a1), some (.ref a4), some (.int (0 : Int32))]) (by decide) rfl dL_law_17 ?_
  exact gx_subL (L' := [some (.ref 0), some (.ref a1), some (.ref a4), some (.int (0 : Int32))]) (by simp [subL, va_rf]) (oL_law_18 hd hs hk)
