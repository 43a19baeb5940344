-- the law: its calls, its loop
theorem rI (y : Int32) : -2147483648 ≤ y.toInt ∧ y.toInt ≤ 2147483647 := ⟨Int32.le_toInt y, Int32.toInt_le y⟩
theorem XW.r {M : AM} {σ : ST} (h : XW M σ) : ∃ fs, M 0 = some (zO 9 fs) := by
  obtain ⟨tx, fa, ln, g, un, i0, i1, sd, me, bo⟩ := σ
  obtain ⟨la, sa, hRt, -⟩ := h
  exact ⟨_, hRt.1⟩
theorem YW.r {M : AM} {σ : ST} (h : YW M σ) : ∃ fs, M 276 = some (zO 10 fs) := by
  obtain ⟨tx, fa, ln, g, un, i0, i1, sd, me, bo⟩ := σ
  obtain ⟨⟨a, bg, sg, fg, vl, wr, k⟩, -⟩ := h
  exact ⟨_, k⟩
theorem p_sl {mr : MR} {pc i Ln : Nat} {xs : Nat → Int32} {L st : List Value} {M : AM} {Q : Option Value → AM → Prop} {a : Int} (hi : (mrT mr)[i]? = some (pc, .iaload, 1)) (ha : 0 ≤ a ∧ a < (Ln : Int)) (hL : Ln ≤ 192) (h : P (some (Ln, xs)) mr (pc + 1) L (zI (xs a.toNat).toInt :: st) M Q) : P (some (Ln, xs)) mr pc L (zI a :: .ref 1000000 :: st) M Q := p_sld rfl hi ha (by show Ln < 2147483648; omega) h
theorem p_eqq {sc : Option (Nat × (Nat → Int32))} {mr : MR} {pc i : Nat} {L st : List Value} {M : AM} {Q : Option Value → AM → Prop} {x : Int32} {off : Int} (tgt : Nat) (hi : (mrT mr)[i]? = some (pc, .if_icmp .eq off, 3)) (ht : (pc : Int) + off = (tgt : Int)) (h : P sc mr tgt L st M Q) : P sc mr pc L (.int x :: .int x :: st) M Q := by
  intro p l e R s m args below meth c D cA ad n H0 H locs cells slots ls Z hC hsc hW hS hL hk
  exact lv_icmp_eq hC.1 hC.2.1 (hC.dec hi) ht (fun _ => h p l e R s m args below meth c D cA ad n H0 H locs cells slots ls Z hC hsc hW hS hL hk) (fun q => absurd rfl q)
theorem p_norm {sc : Option (Nat × (Nat → Int32))} {mr : MR} {pc : Nat} {L st : List Value} {M : AM} {Q : Option Value → AM → Prop} {x : Int32} (h : ∀ a : Int, -2147483648 ≤ a ∧ a ≤ 2147483647 → P sc mr pc L (zI a :: st) M Q) : P sc mr pc L (.int x :: st) M Q := by
  have h1 := h x.toInt (rI x)
  have e : Int32.ofInt x.toInt = x := Int32.ofInt_toInt x
  show P sc mr pc L (.int x :: st) M Q
  rw [← e]
  exact h1
def LawQ : Option Value → AM → Prop := fun r _ => r = some (zI 1)
def LawK (Ln : Nat) (xs : Nat → Int32) (i : Nat) : Prop := ∀ (M' : AM) (σ' : ST), XW M' σ' → YW M' σ' → P (some (Ln, xs)) mL_law 1005 [.ref 1000000, .ref 0, .ref 276, zI (i : Nat)] [] M' LawQ
set_option maxRecDepth 20000 in
set_option maxHeartbeats 4000000 in
theorem law_0 {Ln : Nat} {xs : Nat → Int32} {i : Nat} {M : AM} {σ : ST} (hi : i + 3 ≤ Ln) (hL : Ln ≤ 192) (hX : XW M σ) (hY : YW M σ) (h : LawK Ln xs i) : P (some (Ln, xs)) mL_law 180 [.ref 1000000, .ref 0, .ref 276, zI (i : Nat)] []  M LawQ := by
  obtain ⟨tx, fa, ln, g, un, i0, i1, sd, me, bo⟩ := σ
  obtain ⟨f0, k0⟩ := hX.r
  refine p_aload_n (i := 22) rfl rfl ?_
  refine p_aload_n (i := 23) rfl rfl ?_
  refine p_iload_n (i := 24) rfl rfl ?_
  refine p_iconst (i := 25) rfl ?_
  refine p_iadd (i := 26) rfl ?_
  refine p_sl (i := 27) rfl (by omega) hL ?_
  refine p_cV1 (i := 28) rfl ⟨lL_13, rfl, rfl⟩ k0 ⟨_, rfl, rfl⟩ rfl (X_feed hX (rI _) (fun M1 hX1 fr1 => ?_))
  have hY1 := hY.fi fr1 (by omega)
  obtain ⟨f1, k1⟩ := hY1.r
  refine p_aload_n (i := 29) rfl rfl ?_
  refine p_aload_n (i := 30) rfl rfl ?_
  refine p_iload_n (i := 31) rfl rfl ?_
  refine p_iconst (i := 32) rfl ?_
  refine p_iadd (i := 33) rfl ?_
  refine p_sl (i := 34) rfl (by omega) hL ?_
  refine p_cV1 (i := 35) rfl ⟨lL_17, rfl, rfl⟩ k1 ⟨_, rfl, rfl⟩ rfl (Y_feed hY1 (rI _) (fun M2 hY2 fr2 => ?_))
  refine p_eqq (i := 36) 1005 rfl (by decide) ?_
  exact h M2 _ (hX1.fi fr2 (by omega)) hY2
set_option maxRecDepth 20000 in
set_option maxHeartbeats 4000000 in
theorem law_1 {Ln : Nat} {xs : Nat → Int32} {i : Nat} {M : AM} {σ : ST} (hi : i + 3 ≤ Ln) (hL : Ln ≤ 192) (hX : XW M σ) (hY : YW M σ) (h : LawK Ln xs i) : P (some (Ln, xs)) mL_law 203 [.ref 1000000, .ref 0, .ref 276, zI (i : Nat)] []  M LawQ := by
  obtain ⟨tx, fa, ln, g, un, i0, i1, sd, me, bo⟩ := σ
  obtain ⟨f0, k0⟩ := hX.r
  refine p_aload_n (i := 39) rfl rfl ?_
  refine p_cV0 (i := 40) rfl ⟨lL_18, rfl, rfl⟩ k0 ⟨_, rfl, rfl⟩ rfl (X_line hX (fun M1 hX1 fr1 => ?_))
  have hY1 := hY.fi fr1 (by omega)
  obtain ⟨f1, k1⟩ := hY1.r
  refine p_aload_n (i := 41) rfl rfl ?_
  refine p_cV0 (i := 42) rfl ⟨lL_22, rfl, rfl⟩ k1 ⟨_, rfl, rfl⟩ rfl (Y_line hY1 (fun M2 hY2 fr2 => ?_))
  refine p_eqq (i := 43) 1005 rfl (by decide) ?_
  exact h M2 _ (hX1.fi fr2 (by omega)) hY2
set_option maxRecDepth 20000 in
set_option maxHeartbeats 4000000 in
theorem law_2 {Ln : Nat} {xs : Nat → Int32} {i : Nat} {M : AM} {σ : ST} (hi : i + 3 ≤ Ln) (hL : Ln ≤ 192) (hX : XW M σ) (hY : YW M σ) (h : LawK Ln xs i) : P (some (Ln, xs)) mL_law 216 [.ref 1000000, .ref 0, .ref 276, zI (i : Nat)] []  M LawQ := by
  obtain ⟨tx, fa, ln, g, un, i0, i1, sd, me, bo⟩ := σ
  obtain ⟨f0, k0⟩ := hX.r
  refine p_aload_n (i := 46) rfl rfl ?_
  refine p_cV0 (i := 47) rfl ⟨lL_23, rfl, rfl⟩ k0 ⟨_, rfl, rfl⟩ rfl (X_fault hX (fun M1 hX1 fr1 => ?_))
  have hY1 := hY.fi fr1 (by omega)
  obtain ⟨f1, k1⟩ := hY1.r
  refine p_aload_n (i := 48) rfl rfl ?_
  refine p_cV0 (i := 49) rfl ⟨lL_26, rfl, rfl⟩ k1 ⟨_, rfl, rfl⟩ rfl (Y_fault hY1 (fun M2 hY2 fr2 => ?_))
  refine p_eqq (i := 50) 1005 rfl (by decide) ?_
  exact h M2 _ (hX1.fi fr2 (by omega)) hY2
set_option maxRecDepth 20000 in
set_option maxHeartbeats 4000000 in
theorem law_3 {Ln : Nat} {xs : Nat → Int32} {i : Nat} {M : AM} {σ : ST} (hi : i + 3 ≤ Ln) (hL : Ln ≤ 192) (hX : XW M σ) (hY : YW M σ) (h : LawK Ln xs i) : P (some (Ln, xs)) mL_law 229 [.ref 1000000, .ref 0, .ref 276, zI (i : Nat)] []  M LawQ := by
  obtain ⟨tx, fa, ln, g, un, i0, i1, sd, me, bo⟩ := σ
  obtain ⟨f0, k0⟩ := hX.r
  refine p_aload_n (i := 53) rfl rfl ?_
  refine p_aload_n (i := 54) rfl rfl ?_
  refine p_iload_n (i := 55) rfl rfl ?_
  refine p_iconst (i := 56) rfl ?_
  refine p_iadd (i := 57) rfl ?_
  refine p_sl (i := 58) rfl (by omega) hL ?_
  refine p_cV1 (i := 59) rfl ⟨lL_27, rfl, rfl⟩ k0 ⟨_, rfl, rfl⟩ rfl (X_told hX (rI _) (fun M1 hX1 fr1 => ?_))
  have hY1 := hY.fi fr1 (by omega)
  obtain ⟨f1, k1⟩ := hY1.r
  refine p_aload_n (i := 60) rfl rfl ?_
  refine p_aload_n (i := 61) rfl rfl ?_
  refine p_iload_n (i := 62) rfl rfl ?_
  refine p_iconst (i := 63) rfl ?_
  refine p_iadd (i := 64) rfl ?_
  refine p_sl (i := 65) rfl (by omega) hL ?_
  refine p_cV1 (i := 66) rfl ⟨lL_30, rfl, rfl⟩ k1 ⟨_, rfl, rfl⟩ rfl (Y_told hY1 (rI _) (fun M2 hY2 fr2 => ?_))
  refine p_eqq (i := 67) 1005 rfl (by decide) ?_
  exact h M2 _ (hX1.fi fr2 (by omega)) hY2
set_option maxRecDepth 20000 in
set_option maxHeartbeats 4000000 in
theorem law_4 {Ln : Nat} {xs : Nat → Int32} {i : Nat} {M : AM} {σ : ST} (hi : i + 3 ≤ Ln) (hL : Ln ≤ 192) (hX : XW M σ) (hY : YW M σ) (h : LawK Ln xs i) : P (some (Ln, xs)) mL_law 252 [.ref 1000000, .ref 0, .ref 276, zI (i : Nat)] []  M LawQ := by
  obtain ⟨tx, fa, ln, g, un, i0, i1, sd, me, bo⟩ := σ
  obtain ⟨f0, k0⟩ := hX.r
  refine p_aload_n (i := 70) rfl rfl ?_
  refine p_aload_n (i := 71) rfl rfl ?_
  refine p_iload_n (i := 72) rfl rfl ?_
  refine p_iconst (i := 73) rfl ?_
  refine p_iadd (i := 74) rfl ?_
  refine p_sl (i := 75) rfl (by omega) hL ?_
  refine p_aload_n (i := 76) rfl rfl ?_
  refine p_iload_n (i := 77) rfl rfl ?_
  refine p_iconst (i := 78) rfl ?_
  refine p_iadd (i := 79) rfl ?_
  refine p_sl (i := 80) rfl (by omega) hL ?_
  refine p_cV2 (i := 81) rfl ⟨lL_31, rfl, rfl⟩ k0 ⟨_, rfl, rfl⟩ rfl (X_scene hX (rI _) (rI _) (fun M1 hX1 fr1 => ?_))
  have hY1 := hY.fi fr1 (by omega)
  obtain ⟨f1, k1⟩ := hY1.r
  refine p_aload_n (i := 82) rfl rfl ?_
  refine p_aload_n (i := 83) rfl rfl ?_
  refine p_iload_n (i := 84) rfl rfl ?_
  refine p_iconst (i := 85) rfl ?_
  refine p_iadd (i := 86) rfl ?_
  refine p_sl (i := 87) rfl (by omega) hL ?_
  refine p_aload_n (i := 88) rfl rfl ?_
  refine p_iload_n (i := 89) rfl rfl ?_
  refine p_iconst (i := 90) rfl ?_
  refine p_iadd (i := 91) rfl ?_
  refine p_sl (i := 92) rfl (by omega) hL ?_
  refine p_cV2 (i := 93) rfl ⟨lL_35, rfl, rfl⟩ k1 ⟨_, rfl, rfl⟩ rfl (Y_scene hY1 (rI _) (rI _) (fun M2 hY2 fr2 => ?_))
  refine p_eqq (i := 94) 1005 rfl (by decide) ?_
  exact h M2 _ (hX1.fi fr2 (by omega)) hY2
set_option maxRecDepth 20000 in
set_option maxHeartbeats 4000000 in
theorem law_5 {Ln : Nat} {xs : Nat → Int32} {i : Nat} {M : AM} {σ : ST} (hi : i + 3 ≤ Ln) (hL : Ln ≤ 192) (hX : XW M σ) (hY : YW M σ) (h : LawK Ln xs i) : P (some (Ln, xs)) mL_law 285 [.ref 1000000, .ref 0, .ref 276, zI (i : Nat)] []  M LawQ := by
  obtain ⟨tx, fa, ln, g, un, i0, i1, sd, me, bo⟩ := σ
  obtain ⟨f0, k0⟩ := hX.r
  refine p_aload_n (i := 97) rfl rfl ?_
  refine p_aload_n (i := 98) rfl rfl ?_
  refine p_iload_n (i := 99) rfl rfl ?_
  refine p_iconst (i := 100) rfl ?_
  refine p_iadd (i := 101) rfl ?_
  refine p_sl (i := 102) rfl (by omega) hL ?_
  refine p_aload_n (i := 103) rfl rfl ?_
  refine p_iload_n (i := 104) rfl rfl ?_
  refine p_iconst (i := 105) rfl ?_
  refine p_iadd (i := 106) rfl ?_
  refine p_sl (i := 107) rfl (by omega) hL ?_
  refine p_cV2 (i := 108) rfl ⟨lL_36, rfl, rfl⟩ k0 ⟨_, rfl, rfl⟩ rfl (X_wearer hX (rI _) (rI _) (fun M1 hX1 fr1 => ?_))
  have hY1 := hY.fi fr1 (by omega)
  obtain ⟨f1, k1⟩ := hY1.r
  refine p_aload_n (i := 109) rfl rfl ?_
  refine p_aload_n (i := 110) rfl rfl ?_
  refine p_iload_n (i := 111) rfl rfl ?_
  refine p_iconst (i := 112) rfl ?_
  refine p_iadd (i := 113) rfl ?_
  refine p_sl (i := 114) rfl (by omega) hL ?_
  refine p_aload_n (i := 115) rfl rfl ?_
  refine p_iload_n (i := 116) rfl rfl ?_
  refine p_iconst (i := 117) rfl ?_
  refine p_iadd (i := 118) rfl ?_
  refine p_sl (i := 119) rfl (by omega) hL ?_
  refine p_cV2 (i := 120) rfl ⟨lL_39, rfl, rfl⟩ k1 ⟨_, rfl, rfl⟩ rfl (Y_wearer hY1 (rI _) (rI _) (fun M2 hY2 fr2 => ?_))
  refine p_eqq (i := 121) 1005 rfl (by decide) ?_
  exact h M2 _ (hX1.fi fr2 (by omega)) hY2
set_option maxRecDepth 20000 in
set_option maxHeartbeats 4000000 in
theorem law_6 {Ln : Nat} {xs : Nat → Int32} {i : Nat} {M : AM} {σ : ST} (hi : i + 3 ≤ Ln) (hL : Ln ≤ 192) (hX : XW M σ) (hY : YW M σ) (h : LawK Ln xs i) : P (some (Ln, xs)) mL_law 318 [.ref 1000000, .ref 0, .ref 276, zI (i : Nat)] []  M LawQ := by
  obtain ⟨tx, fa, ln, g, un, i0, i1, sd, me, bo⟩ := σ
  obtain ⟨f0, k0⟩ := hX.r
  refine p_aload_n (i := 124) rfl rfl ?_
  refine p_aload_n (i := 125) rfl rfl ?_
  refine p_iload_n (i := 126) rfl rfl ?_
  refine p_iconst (i := 127) rfl ?_
  refine p_iadd (i := 128) rfl ?_
  refine p_sl (i := 129) rfl (by omega) hL ?_
  refine p_aload_n (i := 130) rfl rfl ?_
  refine p_iload_n (i := 131) rfl rfl ?_
  refine p_iconst (i := 132) rfl ?_
  refine p_iadd (i := 133) rfl ?_
  refine p_sl (i := 134) rfl (by omega) hL ?_
  refine p_cV2 (i := 135) rfl ⟨lL_40, rfl, rfl⟩ k0 ⟨_, rfl, rfl⟩ rfl (X_layer hX (rI _) (rI _) (fun M1 hX1 fr1 => ?_))
  have hY1 := hY.fi fr1 (by omega)
  obtain ⟨f1, k1⟩ := hY1.r
  refine p_aload_n (i := 136) rfl rfl ?_
  refine p_aload_n (i := 137) rfl rfl ?_
  refine p_iload_n (i := 138) rfl rfl ?_
  refine p_iconst (i := 139) rfl ?_
  refine p_iadd (i := 140) rfl ?_
  refine p_sl (i := 141) rfl (by omega) hL ?_
  refine p_aload_n (i := 142) rfl rfl ?_
  refine p_iload_n (i := 143) rfl rfl ?_
  refine p_iconst (i := 144) rfl ?_
  refine p_iadd (i := 145) rfl ?_
  refine p_sl (i := 146) rfl (by omega) hL ?_
  refine p_cV2 (i := 147) rfl ⟨lL_43, rfl, rfl⟩ k1 ⟨_, rfl, rfl⟩ rfl (Y_layer hY1 (rI _) (rI _) (fun M2 hY2 fr2 => ?_))
  refine p_eqq (i := 148) 1005 rfl (by decide) ?_
  exact h M2 _ (hX1.fi fr2 (by omega)) hY2
set_option maxRecDepth 20000 in
set_option maxHeartbeats 4000000 in
theorem law_7 {Ln : Nat} {xs : Nat → Int32} {i : Nat} {M : AM} {σ : ST} (hi : i + 3 ≤ Ln) (hL : Ln ≤ 192) (hX : XW M σ) (hY : YW M σ) (h : LawK Ln xs i) : P (some (Ln, xs)) mL_law 351 [.ref 1000000, .ref 0, .ref 276, zI (i : Nat)] []  M LawQ := by
  obtain ⟨tx, fa, ln, g, un, i0, i1, sd, me, bo⟩ := σ
  obtain ⟨f0, k0⟩ := hX.r
  refine p_aload_n (i := 151) rfl rfl ?_
  refine p_aload_n (i := 152) rfl rfl ?_
  refine p_iload_n (i := 153) rfl rfl ?_
  refine p_iconst (i := 154) rfl ?_
  refine p_iadd (i := 155) rfl ?_
  refine p_sl (i := 156) rfl (by omega) hL ?_
  refine p_aload_n (i := 157) rfl rfl ?_
  refine p_iload_n (i := 158) rfl rfl ?_
  refine p_iconst (i := 159) rfl ?_
  refine p_iadd (i := 160) rfl ?_
  refine p_sl (i := 161) rfl (by omega) hL ?_
  refine p_cV2 (i := 162) rfl ⟨lL_44, rfl, rfl⟩ k0 ⟨_, rfl, rfl⟩ rfl (X_logged hX (rI _) (rI _) (fun M1 hX1 fr1 => ?_))
  have hY1 := hY.fi fr1 (by omega)
  obtain ⟨f1, k1⟩ := hY1.r
  refine p_aload_n (i := 163) rfl rfl ?_
  refine p_aload_n (i := 164) rfl rfl ?_
  refine p_iload_n (i := 165) rfl rfl ?_
  refine p_iconst (i := 166) rfl ?_
  refine p_iadd (i := 167) rfl ?_
  refine p_sl (i := 168) rfl (by omega) hL ?_
  refine p_aload_n (i := 169) rfl rfl ?_
  refine p_iload_n (i := 170) rfl rfl ?_
  refine p_iconst (i := 171) rfl ?_
  refine p_iadd (i := 172) rfl ?_
  refine p_sl (i := 173) rfl (by omega) hL ?_
  refine p_cV2 (i := 174) rfl ⟨lL_47, rfl, rfl⟩ k1 ⟨_, rfl, rfl⟩ rfl (Y_logged hY1 (rI _) (rI _) (fun M2 hY2 fr2 => ?_))
  refine p_eqq (i := 175) 1005 rfl (by decide) ?_
  exact h M2 _ (hX1.fi fr2 (by omega)) hY2
set_option maxRecDepth 20000 in
set_option maxHeartbeats 4000000 in
theorem law_8 {Ln : Nat} {xs : Nat → Int32} {i : Nat} {M : AM} {σ : ST} (hi : i + 3 ≤ Ln) (hL : Ln ≤ 192) (hX : XW M σ) (hY : YW M σ) (h : LawK Ln xs i) : P (some (Ln, xs)) mL_law 384 [.ref 1000000, .ref 0, .ref 276, zI (i : Nat)] []  M LawQ := by
  obtain ⟨tx, fa, ln, g, un, i0, i1, sd, me, bo⟩ := σ
  obtain ⟨f0, k0⟩ := hX.r
  refine p_aload_n (i := 178) rfl rfl ?_
  refine p_aload_n (i := 179) rfl rfl ?_
  refine p_iload_n (i := 180) rfl rfl ?_
  refine p_iconst (i := 181) rfl ?_
  refine p_iadd (i := 182) rfl ?_
  refine p_sl (i := 183) rfl (by omega) hL ?_
  refine p_cV1 (i := 184) rfl ⟨lL_48, rfl, rfl⟩ k0 ⟨_, rfl, rfl⟩ rfl (X_year hX (rI _) (fun M1 hX1 fr1 => ?_))
  have hY1 := hY.fi fr1 (by omega)
  obtain ⟨f1, k1⟩ := hY1.r
  refine p_aload_n (i := 185) rfl rfl ?_
  refine p_aload_n (i := 186) rfl rfl ?_
  refine p_iload_n (i := 187) rfl rfl ?_
  refine p_iconst (i := 188) rfl ?_
  refine p_iadd (i := 189) rfl ?_
  refine p_sl (i := 190) rfl (by omega) hL ?_
  refine p_cV1 (i := 191) rfl ⟨lL_51, rfl, rfl⟩ k1 ⟨_, rfl, rfl⟩ rfl (Y_year hY1 (rI _) (fun M2 hY2 fr2 => ?_))
  refine p_eqq (i := 192) 1005 rfl (by decide) ?_
  exact h M2 _ (hX1.fi fr2 (by omega)) hY2
set_option maxRecDepth 20000 in
set_option maxHeartbeats 4000000 in
theorem law_9 {Ln : Nat} {xs : Nat → Int32} {i : Nat} {M : AM} {σ : ST} (hi : i + 3 ≤ Ln) (hL : Ln ≤ 192) (hX : XW M σ) (hY : YW M σ) (h : LawK Ln xs i) : P (some (Ln, xs)) mL_law 407 [.ref 1000000, .ref 0, .ref 276, zI (i : Nat)] []  M LawQ := by
  obtain ⟨tx, fa, ln, g, un, i0, i1, sd, me, bo⟩ := σ
  obtain ⟨f0, k0⟩ := hX.r
  refine p_aload_n (i := 195) rfl rfl ?_
  refine p_aload_n (i := 196) rfl rfl ?_
  refine p_iload_n (i := 197) rfl rfl ?_
  refine p_iconst (i := 198) rfl ?_
  refine p_iadd (i := 199) rfl ?_
  refine p_sl (i := 200) rfl (by omega) hL ?_
  refine p_cV1 (i := 201) rfl ⟨lL_52, rfl, rfl⟩ k0 ⟨_, rfl, rfl⟩ rfl (X_wear hX (rI _) (fun M1 hX1 fr1 => ?_))
  have hY1 := hY.fi fr1 (by omega)
  obtain ⟨f1, k1⟩ := hY1.r
  refine p_aload_n (i := 202) rfl rfl ?_
  refine p_aload_n (i := 203) rfl rfl ?_
  refine p_iload_n (i := 204) rfl rfl ?_
  refine p_iconst (i := 205) rfl ?_
  refine p_iadd (i := 206) rfl ?_
  refine p_sl (i := 207) rfl (by omega) hL ?_
  refine p_cV1 (i := 208) rfl ⟨lL_55, rfl, rfl⟩ k1 ⟨_, rfl, rfl⟩ rfl (Y_wear hY1 (rI _) (fun M2 hY2 fr2 => ?_))
  refine p_eqq (i := 209) 1005 rfl (by decide) ?_
  exact h M2 _ (hX1.fi fr2 (by omega)) hY2
set_option maxRecDepth 20000 in
set_option maxHeartbeats 4000000 in
theorem law_10 {Ln : Nat} {xs : Nat → Int32} {i : Nat} {M : AM} {σ : ST} (hi : i + 3 ≤ Ln) (hL : Ln ≤ 192) (hX : XW M σ) (hY : YW M σ) (h : LawK Ln xs i) : P (some (Ln, xs)) mL_law 430 [.ref 1000000, .ref 0, .ref 276, zI (i : Nat)] []  M LawQ := by
  obtain ⟨tx, fa, ln, g, un, i0, i1, sd, me, bo⟩ := σ
  obtain ⟨f0, k0⟩ := hX.r
  refine p_aload_n (i := 212) rfl rfl ?_
  refine p_cV0 (i := 213) rfl ⟨lL_56, rfl, rfl⟩ k0 ⟨_, rfl, rfl⟩ rfl (X_takeOff hX (fun M1 hX1 fr1 => ?_))
  have hY1 := hY.fi fr1 (by omega)
  obtain ⟨f1, k1⟩ := hY1.r
  refine p_aload_n (i := 214) rfl rfl ?_
  refine p_cV0 (i := 215) rfl ⟨lL_59, rfl, rfl⟩ k1 ⟨_, rfl, rfl⟩ rfl (Y_takeOff hY1 (fun M2 hY2 fr2 => ?_))
  refine p_eqq (i := 216) 1005 rfl (by decide) ?_
  exact h M2 _ (hX1.fi fr2 (by omega)) hY2
set_option maxRecDepth 20000 in
set_option maxHeartbeats 4000000 in
theorem law_11 {Ln : Nat} {xs : Nat → Int32} {i : Nat} {M : AM} {σ : ST} (hi : i + 3 ≤ Ln) (hL : Ln ≤ 192) (hX : XW M σ) (hY : YW M σ) (h : LawK Ln xs i) : P (some (Ln, xs)) mL_law 443 [.ref 1000000, .ref 0, .ref 276, zI (i : Nat)] []  M LawQ := by
  obtain ⟨tx, fa, ln, g, un, i0, i1, sd, me, bo⟩ := σ
  obtain ⟨f0, k0⟩ := hX.r
  refine p_aload_n (i := 219) rfl rfl ?_
  refine p_aload_n (i := 220) rfl rfl ?_
  refine p_iload_n (i := 221) rfl rfl ?_
  refine p_iconst (i := 222) rfl ?_
  refine p_iadd (i := 223) rfl ?_
  refine p_sl (i := 224) rfl (by omega) hL ?_
  refine p_cV1 (i := 225) rfl ⟨lL_60, rfl, rfl⟩ k0 ⟨_, rfl, rfl⟩ rfl (X_wipe hX (rI _) (fun M1 hX1 fr1 => ?_))
  have hY1 := hY.fi fr1 (by omega)
  obtain ⟨f1, k1⟩ := hY1.r
  refine p_aload_n (i := 226) rfl rfl ?_
  refine p_aload_n (i := 227) rfl rfl ?_
  refine p_iload_n (i := 228) rfl rfl ?_
  refine p_iconst (i := 229) rfl ?_
  refine p_iadd (i := 230) rfl ?_
  refine p_sl (i := 231) rfl (by omega) hL ?_
  refine p_cV1 (i := 232) rfl ⟨lL_63, rfl, rfl⟩ k1 ⟨_, rfl, rfl⟩ rfl (Y_wipe hY1 (rI _) (fun M2 hY2 fr2 => ?_))
  refine p_eqq (i := 233) 1005 rfl (by decide) ?_
  exact h M2 _ (hX1.fi fr2 (by omega)) hY2
set_option maxRecDepth 20000 in
set_option maxHeartbeats 4000000 in
theorem law_12 {Ln : Nat} {xs : Nat → Int32} {i : Nat} {M : AM} {σ : ST} (hi : i + 3 ≤ Ln) (hL : Ln ≤ 192) (hX : XW M σ) (hY : YW M σ) (h : LawK Ln xs i) : P (some (Ln, xs)) mL_law 466 [.ref 1000000, .ref 0, .ref 276, zI (i : Nat)] []  M LawQ := by
  obtain ⟨tx, fa, ln, g, un, i0, i1, sd, me, bo⟩ := σ
  obtain ⟨f0, k0⟩ := hX.r
  refine p_aload_n (i := 236) rfl rfl ?_
  refine p_aload_n (i := 237) rfl rfl ?_
  refine p_iload_n (i := 238) rfl rfl ?_
  refine p_iconst (i := 239) rfl ?_
  refine p_iadd (i := 240) rfl ?_
  refine p_sl (i := 241) rfl (by omega) hL ?_
  refine p_aload_n (i := 242) rfl rfl ?_
  refine p_iload_n (i := 243) rfl rfl ?_
  refine p_iconst (i := 244) rfl ?_
  refine p_iadd (i := 245) rfl ?_
  refine p_sl (i := 246) rfl (by omega) hL ?_
  refine p_cV2 (i := 247) rfl ⟨lL_64, rfl, rfl⟩ k0 ⟨_, rfl, rfl⟩ rfl (X_chip hX (rI _) (rI _) (fun M1 hX1 fr1 => ?_))
  have hY1 := hY.fi fr1 (by omega)
  obtain ⟨f1, k1⟩ := hY1.r
  refine p_aload_n (i := 248) rfl rfl ?_
  refine p_aload_n (i := 249) rfl rfl ?_
  refine p_iload_n (i := 250) rfl rfl ?_
  refine p_iconst (i := 251) rfl ?_
  refine p_iadd (i := 252) rfl ?_
  refine p_sl (i := 253) rfl (by omega) hL ?_
  refine p_aload_n (i := 254) rfl rfl ?_
  refine p_iload_n (i := 255) rfl rfl ?_
  refine p_iconst (i := 256) rfl ?_
  refine p_iadd (i := 257) rfl ?_
  refine p_sl (i := 258) rfl (by omega) hL ?_
  refine p_cV2 (i := 259) rfl ⟨lL_67, rfl, rfl⟩ k1 ⟨_, rfl, rfl⟩ rfl (Y_chip hY1 (rI _) (rI _) (fun M2 hY2 fr2 => ?_))
  refine p_eqq (i := 260) 1005 rfl (by decide) ?_
  exact h M2 _ (hX1.fi fr2 (by omega)) hY2
set_option maxRecDepth 20000 in
set_option maxHeartbeats 4000000 in
theorem law_13 {Ln : Nat} {xs : Nat → Int32} {i : Nat} {M : AM} {σ : ST} (hi : i + 3 ≤ Ln) (hL : Ln ≤ 192) (hX : XW M σ) (hY : YW M σ) (h : LawK Ln xs i) : P (some (Ln, xs)) mL_law 499 [.ref 1000000, .ref 0, .ref 276, zI (i : Nat)] []  M LawQ := by
  obtain ⟨tx, fa, ln, g, un, i0, i1, sd, me, bo⟩ := σ
  obtain ⟨f0, k0⟩ := hX.r
  refine p_aload_n (i := 263) rfl rfl ?_
  refine p_aload_n (i := 264) rfl rfl ?_
  refine p_iload_n (i := 265) rfl rfl ?_
  refine p_iconst (i := 266) rfl ?_
  refine p_iadd (i := 267) rfl ?_
  refine p_sl (i := 268) rfl (by omega) hL ?_
  refine p_cV1 (i := 269) rfl ⟨lL_68, rfl, rfl⟩ k0 ⟨_, rfl, rfl⟩ rfl (X_drift hX (rI _) (fun M1 hX1 fr1 => ?_))
  have hY1 := hY.fi fr1 (by omega)
  obtain ⟨f1, k1⟩ := hY1.r
  refine p_aload_n (i := 270) rfl rfl ?_
  refine p_aload_n (i := 271) rfl rfl ?_
  refine p_iload_n (i := 272) rfl rfl ?_
  refine p_iconst (i := 273) rfl ?_
  refine p_iadd (i := 274) rfl ?_
  refine p_sl (i := 275) rfl (by omega) hL ?_
  refine p_cV1 (i := 276) rfl ⟨lL_71, rfl, rfl⟩ k1 ⟨_, rfl, rfl⟩ rfl (Y_drift hY1 (rI _) (fun M2 hY2 fr2 => ?_))
  refine p_eqq (i := 277) 1005 rfl (by decide) ?_
  exact h M2 _ (hX1.fi fr2 (by omega)) hY2
set_option maxRecDepth 20000 in
set_option maxHeartbeats 4000000 in
theorem law_14 {Ln : Nat} {xs : Nat → Int32} {i : Nat} {M : AM} {σ : ST} (hi : i + 3 ≤ Ln) (hL : Ln ≤ 192) (hX : XW M σ) (hY : YW M σ) (h : LawK Ln xs i) : P (some (Ln, xs)) mL_law 522 [.ref 1000000, .ref 0, .ref 276, zI (i : Nat)] []  M LawQ := by
  obtain ⟨tx, fa, ln, g, un, i0, i1, sd, me, bo⟩ := σ
  obtain ⟨f0, k0⟩ := hX.r
  refine p_aload_n (i := 280) rfl rfl ?_
  refine p_aload_n (i := 281) rfl rfl ?_
  refine p_iload_n (i := 282) rfl rfl ?_
  refine p_iconst (i := 283) rfl ?_
  refine p_iadd (i := 284) rfl ?_
  refine p_sl (i := 285) rfl (by omega) hL ?_
  refine p_cV1 (i := 286) rfl ⟨lL_72, rfl, rfl⟩ k0 ⟨_, rfl, rfl⟩ rfl (X_undo hX (rI _) (fun M1 hX1 fr1 => ?_))
  have hY1 := hY.fi fr1 (by omega)
  obtain ⟨f1, k1⟩ := hY1.r
  refine p_aload_n (i := 287) rfl rfl ?_
  refine p_aload_n (i := 288) rfl rfl ?_
  refine p_iload_n (i := 289) rfl rfl ?_
  refine p_iconst (i := 290) rfl ?_
  refine p_iadd (i := 291) rfl ?_
  refine p_sl (i := 292) rfl (by omega) hL ?_
  refine p_cV1 (i := 293) rfl ⟨lL_75, rfl, rfl⟩ k1 ⟨_, rfl, rfl⟩ rfl (Y_undo hY1 (rI _) (fun M2 hY2 fr2 => ?_))
  refine p_eqq (i := 294) 1005 rfl (by decide) ?_
  exact h M2 _ (hX1.fi fr2 (by omega)) hY2
set_option maxRecDepth 20000 in
set_option maxHeartbeats 4000000 in
theorem law_15 {Ln : Nat} {xs : Nat → Int32} {i : Nat} {M : AM} {σ : ST} (hi : i + 3 ≤ Ln) (hL : Ln ≤ 192) (hX : XW M σ) (hY : YW M σ) (h : LawK Ln xs i) : P (some (Ln, xs)) mL_law 545 [.ref 1000000, .ref 0, .ref 276, zI (i : Nat)] []  M LawQ := by
  obtain ⟨tx, fa, ln, g, un, i0, i1, sd, me, bo⟩ := σ
  obtain ⟨f0, k0⟩ := hX.r
  refine p_aload_n (i := 297) rfl rfl ?_
  refine p_aload_n (i := 298) rfl rfl ?_
  refine p_iload_n (i := 299) rfl rfl ?_
  refine p_iconst (i := 300) rfl ?_
  refine p_iadd (i := 301) rfl ?_
  refine p_sl (i := 302) rfl (by omega) hL ?_
  refine p_cV1 (i := 303) rfl ⟨lL_76, rfl, rfl⟩ k0 ⟨_, rfl, rfl⟩ rfl (X_takes hX (rI _) (fun M1 hX1 fr1 => ?_))
  have hY1 := hY.fi fr1 (by omega)
  obtain ⟨f1, k1⟩ := hY1.r
  refine p_aload_n (i := 304) rfl rfl ?_
  refine p_aload_n (i := 305) rfl rfl ?_
  refine p_iload_n (i := 306) rfl rfl ?_
  refine p_iconst (i := 307) rfl ?_
  refine p_iadd (i := 308) rfl ?_
  refine p_sl (i := 309) rfl (by omega) hL ?_
  refine p_cV1 (i := 310) rfl ⟨lL_79, rfl, rfl⟩ k1 ⟨_, rfl, rfl⟩ rfl (Y_takes hY1 (rI _) (fun M2 hY2 fr2 => ?_))
  refine p_eqq (i := 311) 1005 rfl (by decide) ?_
  exact h M2 _ (hX1.fi fr2 (by omega)) hY2
set_option maxRecDepth 20000 in
set_option maxHeartbeats 4000000 in
theorem law_16 {Ln : Nat} {xs : Nat → Int32} {i : Nat} {M : AM} {σ : ST} (hi : i + 3 ≤ Ln) (hL : Ln ≤ 192) (hX : XW M σ) (hY : YW M σ) (h : LawK Ln xs i) : P (some (Ln, xs)) mL_law 568 [.ref 1000000, .ref 0, .ref 276, zI (i : Nat)] []  M LawQ := by
  obtain ⟨tx, fa, ln, g, un, i0, i1, sd, me, bo⟩ := σ
  obtain ⟨f0, k0⟩ := hX.r
  refine p_aload_n (i := 314) rfl rfl ?_
  refine p_aload_n (i := 315) rfl rfl ?_
  refine p_iload_n (i := 316) rfl rfl ?_
  refine p_iconst (i := 317) rfl ?_
  refine p_iadd (i := 318) rfl ?_
  refine p_sl (i := 319) rfl (by omega) hL ?_
  refine p_cV1 (i := 320) rfl ⟨lL_80, rfl, rfl⟩ k0 ⟨_, rfl, rfl⟩ rfl (X_dark hX (rI _) (fun M1 hX1 fr1 => ?_))
  have hY1 := hY.fi fr1 (by omega)
  obtain ⟨f1, k1⟩ := hY1.r
  refine p_aload_n (i := 321) rfl rfl ?_
  refine p_aload_n (i := 322) rfl rfl ?_
  refine p_iload_n (i := 323) rfl rfl ?_
  refine p_iconst (i := 324) rfl ?_
  refine p_iadd (i := 325) rfl ?_
  refine p_sl (i := 326) rfl (by omega) hL ?_
  refine p_cV1 (i := 327) rfl ⟨lL_83, rfl, rfl⟩ k1 ⟨_, rfl, rfl⟩ rfl (Y_dark hY1 (rI _) (fun M2 hY2 fr2 => ?_))
  refine p_eqq (i := 328) 1005 rfl (by decide) ?_
  exact h M2 _ (hX1.fi fr2 (by omega)) hY2
set_option maxRecDepth 20000 in
set_option maxHeartbeats 4000000 in
theorem law_17 {Ln : Nat} {xs : Nat → Int32} {i : Nat} {M : AM} {σ : ST} (hi : i + 3 ≤ Ln) (hL : Ln ≤ 192) (hX : XW M σ) (hY : YW M σ) (h : LawK Ln xs i) : P (some (Ln, xs)) mL_law 591 [.ref 1000000, .ref 0, .ref 276, zI (i : Nat)] []  M LawQ := by
  obtain ⟨tx, fa, ln, g, un, i0, i1, sd, me, bo⟩ := σ
  obtain ⟨f0, k0⟩ := hX.r
  refine p_aload_n (i := 331) rfl rfl ?_
  refine p_aload_n (i := 332) rfl rfl ?_
  refine p_iload_n (i := 333) rfl rfl ?_
  refine p_iconst (i := 334) rfl ?_
  refine p_iadd (i := 335) rfl ?_
  refine p_sl (i := 336) rfl (by omega) hL ?_
  refine p_cV1 (i := 337) rfl ⟨lL_84, rfl, rfl⟩ k0 ⟨_, rfl, rfl⟩ rfl (X_tooDark hX (rI _) (fun M1 hX1 fr1 => ?_))
  have hY1 := hY.fi fr1 (by omega)
  obtain ⟨f1, k1⟩ := hY1.r
  refine p_aload_n (i := 338) rfl rfl ?_
  refine p_aload_n (i := 339) rfl rfl ?_
  refine p_iload_n (i := 340) rfl rfl ?_
  refine p_iconst (i := 341) rfl ?_
  refine p_iadd (i := 342) rfl ?_
  refine p_sl (i := 343) rfl (by omega) hL ?_
  refine p_cV1 (i := 344) rfl ⟨lL_87, rfl, rfl⟩ k1 ⟨_, rfl, rfl⟩ rfl (Y_tooDark hY1 (rI _) (fun M2 hY2 fr2 => ?_))
  refine p_eqq (i := 345) 1005 rfl (by decide) ?_
  exact h M2 _ (hX1.fi fr2 (by omega)) hY2
set_option maxRecDepth 20000 in
set_option maxHeartbeats 4000000 in
theorem law_18 {Ln : Nat} {xs : Nat → Int32} {i : Nat} {M : AM} {σ : ST} (hi : i + 3 ≤ Ln) (hL : Ln ≤ 192) (hX : XW M σ) (hY : YW M σ) (h : LawK Ln xs i) : P (some (Ln, xs)) mL_law 614 [.ref 1000000, .ref 0, .ref 276, zI (i : Nat)] []  M LawQ := by
  obtain ⟨tx, fa, ln, g, un, i0, i1, sd, me, bo⟩ := σ
  obtain ⟨f0, k0⟩ := hX.r
  refine p_aload_n (i := 348) rfl rfl ?_
  refine p_aload_n (i := 349) rfl rfl ?_
  refine p_iload_n (i := 350) rfl rfl ?_
  refine p_iconst (i := 351) rfl ?_
  refine p_iadd (i := 352) rfl ?_
  refine p_sl (i := 353) rfl (by omega) hL ?_
  refine p_aload_n (i := 354) rfl rfl ?_
  refine p_iload_n (i := 355) rfl rfl ?_
  refine p_iconst (i := 356) rfl ?_
  refine p_iadd (i := 357) rfl ?_
  refine p_sl (i := 358) rfl (by omega) hL ?_
  refine p_cV2 (i := 359) rfl ⟨lL_88, rfl, rfl⟩ k0 ⟨_, rfl, rfl⟩ rfl (X_willShow hX (rI _) (rI _) (fun M1 hX1 fr1 => ?_))
  have hY1 := hY.fi fr1 (by omega)
  obtain ⟨f1, k1⟩ := hY1.r
  refine p_aload_n (i := 360) rfl rfl ?_
  refine p_aload_n (i := 361) rfl rfl ?_
  refine p_iload_n (i := 362) rfl rfl ?_
  refine p_iconst (i := 363) rfl ?_
  refine p_iadd (i := 364) rfl ?_
  refine p_sl (i := 365) rfl (by omega) hL ?_
  refine p_aload_n (i := 366) rfl rfl ?_
  refine p_iload_n (i := 367) rfl rfl ?_
  refine p_iconst (i := 368) rfl ?_
  refine p_iadd (i := 369) rfl ?_
  refine p_sl (i := 370) rfl (by omega) hL ?_
  refine p_cV2 (i := 371) rfl ⟨lL_91, rfl, rfl⟩ k1 ⟨_, rfl, rfl⟩ rfl (Y_willShow hY1 (rI _) (rI _) (fun M2 hY2 fr2 => ?_))
  refine p_eqq (i := 372) 1005 rfl (by decide) ?_
  exact h M2 _ (hX1.fi fr2 (by omega)) hY2
set_option maxRecDepth 20000 in
set_option maxHeartbeats 4000000 in
theorem law_19 {Ln : Nat} {xs : Nat → Int32} {i : Nat} {M : AM} {σ : ST} (hi : i + 3 ≤ Ln) (hL : Ln ≤ 192) (hX : XW M σ) (hY : YW M σ) (h : LawK Ln xs i) : P (some (Ln, xs)) mL_law 647 [.ref 1000000, .ref 0, .ref 276, zI (i : Nat)] []  M LawQ := by
  obtain ⟨tx, fa, ln, g, un, i0, i1, sd, me, bo⟩ := σ
  obtain ⟨f0, k0⟩ := hX.r
  refine p_aload_n (i := 375) rfl rfl ?_
  refine p_aload_n (i := 376) rfl rfl ?_
  refine p_iload_n (i := 377) rfl rfl ?_
  refine p_iconst (i := 378) rfl ?_
  refine p_iadd (i := 379) rfl ?_
  refine p_sl (i := 380) rfl (by omega) hL ?_
  refine p_aload_n (i := 381) rfl rfl ?_
  refine p_iload_n (i := 382) rfl rfl ?_
  refine p_iconst (i := 383) rfl ?_
  refine p_iadd (i := 384) rfl ?_
  refine p_sl (i := 385) rfl (by omega) hL ?_
  refine p_cV2 (i := 386) rfl ⟨lL_92, rfl, rfl⟩ k0 ⟨_, rfl, rfl⟩ rfl (X_toWipe hX (rI _) (rI _) (fun M1 hX1 fr1 => ?_))
  have hY1 := hY.fi fr1 (by omega)
  obtain ⟨f1, k1⟩ := hY1.r
  refine p_aload_n (i := 387) rfl rfl ?_
  refine p_aload_n (i := 388) rfl rfl ?_
  refine p_iload_n (i := 389) rfl rfl ?_
  refine p_iconst (i := 390) rfl ?_
  refine p_iadd (i := 391) rfl ?_
  refine p_sl (i := 392) rfl (by omega) hL ?_
  refine p_aload_n (i := 393) rfl rfl ?_
  refine p_iload_n (i := 394) rfl rfl ?_
  refine p_iconst (i := 395) rfl ?_
  refine p_iadd (i := 396) rfl ?_
  refine p_sl (i := 397) rfl (by omega) hL ?_
  refine p_cV2 (i := 398) rfl ⟨lL_95, rfl, rfl⟩ k1 ⟨_, rfl, rfl⟩ rfl (Y_toWipe hY1 (rI _) (rI _) (fun M2 hY2 fr2 => ?_))
  refine p_eqq (i := 399) 1005 rfl (by decide) ?_
  exact h M2 _ (hX1.fi fr2 (by omega)) hY2
set_option maxRecDepth 20000 in
set_option maxHeartbeats 4000000 in
theorem law_20 {Ln : Nat} {xs : Nat → Int32} {i : Nat} {M : AM} {σ : ST} (hi : i + 3 ≤ Ln) (hL : Ln ≤ 192) (hX : XW M σ) (hY : YW M σ) (h : LawK Ln xs i) : P (some (Ln, xs)) mL_law 680 [.ref 1000000, .ref 0, .ref 276, zI (i : Nat)] []  M LawQ := by
  obtain ⟨tx, fa, ln, g, un, i0, i1, sd, me, bo⟩ := σ
  obtain ⟨f0, k0⟩ := hX.r
  refine p_aload_n (i := 402) rfl rfl ?_
  refine p_aload_n (i := 403) rfl rfl ?_
  refine p_iload_n (i := 404) rfl rfl ?_
  refine p_iconst (i := 405) rfl ?_
  refine p_iadd (i := 406) rfl ?_
  refine p_sl (i := 407) rfl (by omega) hL ?_
  refine p_aload_n (i := 408) rfl rfl ?_
  refine p_iload_n (i := 409) rfl rfl ?_
  refine p_iconst (i := 410) rfl ?_
  refine p_iadd (i := 411) rfl ?_
  refine p_sl (i := 412) rfl (by omega) hL ?_
  refine p_cV2 (i := 413) rfl ⟨lL_96, rfl, rfl⟩ k0 ⟨_, rfl, rfl⟩ rfl (X_only hX (rI _) (rI _) (fun M1 hX1 fr1 => ?_))
  have hY1 := hY.fi fr1 (by omega)
  obtain ⟨f1, k1⟩ := hY1.r
  refine p_aload_n (i := 414) rfl rfl ?_
  refine p_aload_n (i := 415) rfl rfl ?_
  refine p_iload_n (i := 416) rfl rfl ?_
  refine p_iconst (i := 417) rfl ?_
  refine p_iadd (i := 418) rfl ?_
  refine p_sl (i := 419) rfl (by omega) hL ?_
  refine p_aload_n (i := 420) rfl rfl ?_
  refine p_iload_n (i := 421) rfl rfl ?_
  refine p_iconst (i := 422) rfl ?_
  refine p_iadd (i := 423) rfl ?_
  refine p_sl (i := 424) rfl (by omega) hL ?_
  refine p_cV2 (i := 425) rfl ⟨lL_99, rfl, rfl⟩ k1 ⟨_, rfl, rfl⟩ rfl (Y_only hY1 (rI _) (rI _) (fun M2 hY2 fr2 => ?_))
  refine p_eqq (i := 426) 1005 rfl (by decide) ?_
  exact h M2 _ (hX1.fi fr2 (by omega)) hY2
set_option maxRecDepth 20000 in
set_option maxHeartbeats 4000000 in
theorem law_21 {Ln : Nat} {xs : Nat → Int32} {i : Nat} {M : AM} {σ : ST} (hi : i + 3 ≤ Ln) (hL : Ln ≤ 192) (hX : XW M σ) (hY : YW M σ) (h : LawK Ln xs i) : P (some (Ln, xs)) mL_law 713 [.ref 1000000, .ref 0, .ref 276, zI (i : Nat)] []  M LawQ := by
  obtain ⟨tx, fa, ln, g, un, i0, i1, sd, me, bo⟩ := σ
  obtain ⟨f0, k0⟩ := hX.r
  refine p_aload_n (i := 429) rfl rfl ?_
  refine p_aload_n (i := 430) rfl rfl ?_
  refine p_iload_n (i := 431) rfl rfl ?_
  refine p_iconst (i := 432) rfl ?_
  refine p_iadd (i := 433) rfl ?_
  refine p_sl (i := 434) rfl (by omega) hL ?_
  refine p_aload_n (i := 435) rfl rfl ?_
  refine p_iload_n (i := 436) rfl rfl ?_
  refine p_iconst (i := 437) rfl ?_
  refine p_iadd (i := 438) rfl ?_
  refine p_sl (i := 439) rfl (by omega) hL ?_
  refine p_cV2 (i := 440) rfl ⟨lL_100, rfl, rfl⟩ k0 ⟨_, rfl, rfl⟩ rfl (X_order hX (rI _) (rI _) (fun M1 hX1 fr1 => ?_))
  have hY1 := hY.fi fr1 (by omega)
  obtain ⟨f1, k1⟩ := hY1.r
  refine p_aload_n (i := 441) rfl rfl ?_
  refine p_aload_n (i := 442) rfl rfl ?_
  refine p_iload_n (i := 443) rfl rfl ?_
  refine p_iconst (i := 444) rfl ?_
  refine p_iadd (i := 445) rfl ?_
  refine p_sl (i := 446) rfl (by omega) hL ?_
  refine p_aload_n (i := 447) rfl rfl ?_
  refine p_iload_n (i := 448) rfl rfl ?_
  refine p_iconst (i := 449) rfl ?_
  refine p_iadd (i := 450) rfl ?_
  refine p_sl (i := 451) rfl (by omega) hL ?_
  refine p_cV2 (i := 452) rfl ⟨lL_103, rfl, rfl⟩ k1 ⟨_, rfl, rfl⟩ rfl (Y_order hY1 (rI _) (rI _) (fun M2 hY2 fr2 => ?_))
  refine p_eqq (i := 453) 1005 rfl (by decide) ?_
  exact h M2 _ (hX1.fi fr2 (by omega)) hY2
set_option maxRecDepth 20000 in
set_option maxHeartbeats 4000000 in
theorem law_22 {Ln : Nat} {xs : Nat → Int32} {i : Nat} {M : AM} {σ : ST} (hi : i + 3 ≤ Ln) (hL : Ln ≤ 192) (hX : XW M σ) (hY : YW M σ) (h : LawK Ln xs i) : P (some (Ln, xs)) mL_law 746 [.ref 1000000, .ref 0, .ref 276, zI (i : Nat)] []  M LawQ := by
  obtain ⟨tx, fa, ln, g, un, i0, i1, sd, me, bo⟩ := σ
  obtain ⟨f0, k0⟩ := hX.r
  refine p_aload_n (i := 456) rfl rfl ?_
  refine p_aload_n (i := 457) rfl rfl ?_
  refine p_iload_n (i := 458) rfl rfl ?_
  refine p_iconst (i := 459) rfl ?_
  refine p_iadd (i := 460) rfl ?_
  refine p_sl (i := 461) rfl (by omega) hL ?_
  refine p_cV1 (i := 462) rfl ⟨lL_104, rfl, rfl⟩ k0 ⟨_, rfl, rfl⟩ rfl (X_ground hX (rI _) (fun M1 hX1 fr1 => ?_))
  have hY1 := hY.fi fr1 (by omega)
  obtain ⟨f1, k1⟩ := hY1.r
  refine p_aload_n (i := 463) rfl rfl ?_
  refine p_aload_n (i := 464) rfl rfl ?_
  refine p_iload_n (i := 465) rfl rfl ?_
  refine p_iconst (i := 466) rfl ?_
  refine p_iadd (i := 467) rfl ?_
  refine p_sl (i := 468) rfl (by omega) hL ?_
  refine p_cV1 (i := 469) rfl ⟨lL_107, rfl, rfl⟩ k1 ⟨_, rfl, rfl⟩ rfl (Y_ground hY1 (rI _) (fun M2 hY2 fr2 => ?_))
  refine p_eqq (i := 470) 1005 rfl (by decide) ?_
  exact h M2 _ (hX1.fi fr2 (by omega)) hY2
set_option maxRecDepth 20000 in
set_option maxHeartbeats 4000000 in
theorem law_23 {Ln : Nat} {xs : Nat → Int32} {i : Nat} {M : AM} {σ : ST} (hi : i + 3 ≤ Ln) (hL : Ln ≤ 192) (hX : XW M σ) (hY : YW M σ) (h : LawK Ln xs i) : P (some (Ln, xs)) mL_law 769 [.ref 1000000, .ref 0, .ref 276, zI (i : Nat)] []  M LawQ := by
  obtain ⟨tx, fa, ln, g, un, i0, i1, sd, me, bo⟩ := σ
  obtain ⟨f0, k0⟩ := hX.r
  refine p_aload_n (i := 473) rfl rfl ?_
  refine p_aload_n (i := 474) rfl rfl ?_
  refine p_iload_n (i := 475) rfl rfl ?_
  refine p_iconst (i := 476) rfl ?_
  refine p_iadd (i := 477) rfl ?_
  refine p_sl (i := 478) rfl (by omega) hL ?_
  refine p_aload_n (i := 479) rfl rfl ?_
  refine p_iload_n (i := 480) rfl rfl ?_
  refine p_iconst (i := 481) rfl ?_
  refine p_iadd (i := 482) rfl ?_
  refine p_sl (i := 483) rfl (by omega) hL ?_
  refine p_cV2 (i := 484) rfl ⟨lL_108, rfl, rfl⟩ k0 ⟨_, rfl, rfl⟩ rfl (X_mist (rI _) (rI _) ?_)
  obtain ⟨f1, k1⟩ := hY.r
  refine p_aload_n (i := 485) rfl rfl ?_
  refine p_aload_n (i := 486) rfl rfl ?_
  refine p_iload_n (i := 487) rfl rfl ?_
  refine p_iconst (i := 488) rfl ?_
  refine p_iadd (i := 489) rfl ?_
  refine p_sl (i := 490) rfl (by omega) hL ?_
  refine p_aload_n (i := 491) rfl rfl ?_
  refine p_iload_n (i := 492) rfl rfl ?_
  refine p_iconst (i := 493) rfl ?_
  refine p_iadd (i := 494) rfl ?_
  refine p_sl (i := 495) rfl (by omega) hL ?_
  refine p_cV2 (i := 496) rfl ⟨lL_111, rfl, rfl⟩ k1 ⟨_, rfl, rfl⟩ rfl (Y_mist (rI _) (rI _) ?_)
  refine p_eqq (i := 497) 1005 rfl (by decide) ?_
  exact h M _ hX hY
set_option maxRecDepth 20000 in
set_option maxHeartbeats 4000000 in
theorem law_24 {Ln : Nat} {xs : Nat → Int32} {i : Nat} {M : AM} {σ : ST} (hi : i + 3 ≤ Ln) (hL : Ln ≤ 192) (hX : XW M σ) (hY : YW M σ) (h : LawK Ln xs i) : P (some (Ln, xs)) mL_law 802 [.ref 1000000, .ref 0, .ref 276, zI (i : Nat)] []  M LawQ := by
  obtain ⟨tx, fa, ln, g, un, i0, i1, sd, me, bo⟩ := σ
  obtain ⟨f0, k0⟩ := hX.r
  have r2 := rI (xs ((i : Int) + 2).toNat)
  refine p_aload_n (i := 500) rfl rfl ?_
  refine p_aload_n (i := 501) rfl rfl ?_
  refine p_iload_n (i := 502) rfl rfl ?_
  refine p_iconst (i := 503) rfl ?_
  refine p_iadd (i := 504) rfl ?_
  refine p_sl (i := 505) rfl (by omega) hL ?_
  refine p_aload_n (i := 506) rfl rfl ?_
  refine p_iload_n (i := 507) rfl rfl ?_
  refine p_iconst (i := 508) rfl ?_
  refine p_iadd (i := 509) rfl ?_
  refine p_sl (i := 510) rfl (by omega) hL ?_
  refine p_if_eq (i := 511) 820 rfl (by decide) (by omega) (fun c813 => ?_) (fun c813 => ?_)
  · refine p_iconst (i := 514) rfl ?_
    refine p_cV2 (i := 515) rfl ⟨lL_112, rfl, rfl⟩ k0 ⟨_, rfl, rfl⟩ rfl (X_meet (v := 0) hX (rI _) (by omega) (fun M1 hX1 fr1 => ?_))
    have hY1 := hY.fi fr1 (by omega)
    obtain ⟨f1, k1⟩ := hY1.r
    refine p_aload_n (i := 516) rfl rfl ?_
    refine p_aload_n (i := 517) rfl rfl ?_
    refine p_iload_n (i := 518) rfl rfl ?_
    refine p_iconst (i := 519) rfl ?_
    refine p_iadd (i := 520) rfl ?_
    refine p_sl (i := 521) rfl (by omega) hL ?_
    refine p_aload_n (i := 522) rfl rfl ?_
    refine p_iload_n (i := 523) rfl rfl ?_
    refine p_iconst (i := 524) rfl ?_
    refine p_iadd (i := 525) rfl ?_
    refine p_sl (i := 526) rfl (by omega) hL ?_
    refine p_if_eq (i := 527) 842 rfl (by decide) (by omega) (fun c835 => ?_) (fun c835 => by exfalso; omega)
    refine p_iconst (i := 530) rfl ?_
    refine p_cV2 (i := 531) rfl ⟨lL_116, rfl, rfl⟩ k1 ⟨_, rfl, rfl⟩ rfl (Y_meet (v := 0) hY1 (rI _) (by omega) (fun M2 hY2 fr2 => ?_))
    refine p_eqq (i := 532) 1005 rfl (by decide) ?_
    exact h M2 _ (hX1.fi fr2 (by omega)) hY2
  · refine p_iconst (i := 512) rfl ?_
    refine p_goto (i := 513) 821 rfl (by decide) ?_
    refine p_cV2 (i := 515) rfl ⟨lL_112, rfl, rfl⟩ k0 ⟨_, rfl, rfl⟩ rfl (X_meet (v := 1) hX (rI _) (by omega) (fun M1 hX1 fr1 => ?_))
    have hY1 := hY.fi fr1 (by omega)
    obtain ⟨f1, k1⟩ := hY1.r
    refine p_aload_n (i := 516) rfl rfl ?_
    refine p_aload_n (i := 517) rfl rfl ?_
    refine p_iload_n (i := 518) rfl rfl ?_
    refine p_iconst (i := 519) rfl ?_
    refine p_iadd (i := 520) rfl ?_
    refine p_sl (i := 521) rfl (by omega) hL ?_
    refine p_aload_n (i := 522) rfl rfl ?_
    refine p_iload_n (i := 523) rfl rfl ?_
    refine p_iconst (i := 524) rfl ?_
    refine p_iadd (i := 525) rfl ?_
    refine p_sl (i := 526) rfl (by omega) hL ?_
    refine p_if_eq (i := 527) 842 rfl (by decide) (by omega) (fun c835 => by exfalso; omega) (fun c835 => ?_)
    refine p_iconst (i := 528) rfl ?_
    refine p_goto (i := 529) 843 rfl (by decide) ?_
    refine p_cV2 (i := 531) rfl ⟨lL_116, rfl, rfl⟩ k1 ⟨_, rfl, rfl⟩ rfl (Y_meet (v := 1) hY1 (rI _) (by omega) (fun M2 hY2 fr2 => ?_))
    refine p_eqq (i := 532) 1005 rfl (by decide) ?_
    exact h M2 _ (hX1.fi fr2 (by omega)) hY2
set_option maxRecDepth 20000 in
set_option maxHeartbeats 4000000 in
theorem law_25 {Ln : Nat} {xs : Nat → Int32} {i : Nat} {M : AM} {σ : ST} (hi : i + 3 ≤ Ln) (hL : Ln ≤ 192) (hX : XW M σ) (hY : YW M σ) (h : LawK Ln xs i) : P (some (Ln, xs)) mL_law 851 [.ref 1000000, .ref 0, .ref 276, zI (i : Nat)] []  M LawQ := by
  obtain ⟨tx, fa, ln, g, un, i0, i1, sd, me, bo⟩ := σ
  obtain ⟨f0, k0⟩ := hX.r
  refine p_aload_n (i := 535) rfl rfl ?_
  refine p_cV0 (i := 536) rfl ⟨lL_117, rfl, rfl⟩ k0 ⟨_, rfl, rfl⟩ rfl (X_couldBe hX (fun M1 hX1 fr1 => ?_))
  have hY1 := hY.fi fr1 (by omega)
  obtain ⟨f1, k1⟩ := hY1.r
  refine p_aload_n (i := 537) rfl rfl ?_
  refine p_cV0 (i := 538) rfl ⟨lL_120, rfl, rfl⟩ k1 ⟨_, rfl, rfl⟩ rfl (Y_couldBe hY1 (fun M2 hY2 fr2 => ?_))
  refine p_eqq (i := 539) 1005 rfl (by decide) ?_
  exact h M2 _ (hX1.fi fr2 (by omega)) hY2
set_option maxRecDepth 20000 in
set_option maxHeartbeats 4000000 in
theorem law_26 {Ln : Nat} {xs : Nat → Int32} {i : Nat} {M : AM} {σ : ST} (hi : i + 3 ≤ Ln) (hL : Ln ≤ 192) (hX : XW M σ) (hY : YW M σ) (h : LawK Ln xs i) : P (some (Ln, xs)) mL_law 864 [.ref 1000000, .ref 0, .ref 276, zI (i : Nat)] []  M LawQ := by
  obtain ⟨tx, fa, ln, g, un, i0, i1, sd, me, bo⟩ := σ
  obtain ⟨f0, k0⟩ := hX.r
  refine p_aload_n (i := 542) rfl rfl ?_
  refine p_cV0 (i := 543) rfl ⟨lL_121, rfl, rfl⟩ k0 ⟨_, rfl, rfl⟩ rfl (X_ask hX (fun M1 hX1 fr1 => ?_))
  have hY1 := hY.fi fr1 (by omega)
  obtain ⟨f1, k1⟩ := hY1.r
  refine p_aload_n (i := 544) rfl rfl ?_
  refine p_cV0 (i := 545) rfl ⟨lL_124, rfl, rfl⟩ k1 ⟨_, rfl, rfl⟩ rfl (Y_ask hY1 (fun M2 hY2 fr2 => ?_))
  refine p_eqq (i := 546) 1005 rfl (by decide) ?_
  exact h M2 _ (hX1.fi fr2 (by omega)) hY2
set_option maxRecDepth 20000 in
set_option maxHeartbeats 4000000 in
theorem law_27 {Ln : Nat} {xs : Nat → Int32} {i : Nat} {M : AM} {σ : ST} (hi : i + 3 ≤ Ln) (hL : Ln ≤ 192) (hX : XW M σ) (hY : YW M σ) (h : LawK Ln xs i) : P (some (Ln, xs)) mL_law 877 [.ref 1000000, .ref 0, .ref 276, zI (i : Nat)] []  M LawQ := by
  obtain ⟨tx, fa, ln, g, un, i0, i1, sd, me, bo⟩ := σ
  obtain ⟨f0, k0⟩ := hX.r
  refine p_aload_n (i := 549) rfl rfl ?_
  refine p_aload_n (i := 550) rfl rfl ?_
  refine p_iload_n (i := 551) rfl rfl ?_
  refine p_iconst (i := 552) rfl ?_
  refine p_iadd (i := 553) rfl ?_
  refine p_sl (i := 554) rfl (by omega) hL ?_
  refine p_aload_n (i := 555) rfl rfl ?_
  refine p_iload_n (i := 556) rfl rfl ?_
  refine p_iconst (i := 557) rfl ?_
  refine p_iadd (i := 558) rfl ?_
  refine p_sl (i := 559) rfl (by omega) hL ?_
  refine p_cV2 (i := 560) rfl ⟨lL_125, rfl, rfl⟩ k0 ⟨_, rfl, rfl⟩ rfl (X_write hX (rI _) (rI _) (fun M1 hX1 fr1 => ?_))
  have hY1 := hY.fi fr1 (by omega)
  obtain ⟨f1, k1⟩ := hY1.r
  refine p_aload_n (i := 561) rfl rfl ?_
  refine p_aload_n (i := 562) rfl rfl ?_
  refine p_iload_n (i := 563) rfl rfl ?_
  refine p_iconst (i := 564) rfl ?_
  refine p_iadd (i := 565) rfl ?_
  refine p_sl (i := 566) rfl (by omega) hL ?_
  refine p_aload_n (i := 567) rfl rfl ?_
  refine p_iload_n (i := 568) rfl rfl ?_
  refine p_iconst (i := 569) rfl ?_
  refine p_iadd (i := 570) rfl ?_
  refine p_sl (i := 571) rfl (by omega) hL ?_
  refine p_cV2 (i := 572) rfl ⟨lL_128, rfl, rfl⟩ k1 ⟨_, rfl, rfl⟩ rfl (Y_write hY1 (rI _) (rI _) (fun M2 hY2 fr2 => ?_))
  refine p_eqq (i := 573) 1005 rfl (by decide) ?_
  exact h M2 _ (hX1.fi fr2 (by omega)) hY2
set_option maxRecDepth 20000 in
set_option maxHeartbeats 4000000 in
theorem law_28 {Ln : Nat} {xs : Nat → Int32} {i : Nat} {M : AM} {σ : ST} (hi : i + 3 ≤ Ln) (hL : Ln ≤ 192) (hX : XW M σ) (hY : YW M σ) (h : LawK Ln xs i) : P (some (Ln, xs)) mL_law 910 [.ref 1000000, .ref 0, .ref 276, zI (i : Nat)] []  M LawQ := by
  obtain ⟨tx, fa, ln, g, un, i0, i1, sd, me, bo⟩ := σ
  obtain ⟨f0, k0⟩ := hX.r
  refine p_aload_n (i := 576) rfl rfl ?_
  refine p_cV0 (i := 577) rfl ⟨lL_129, rfl, rfl⟩ k0 ⟨_, rfl, rfl⟩ rfl (X_judge hX (fun M1 hX1 fr1 => ?_))
  have hY1 := hY.fi fr1 (by omega)
  obtain ⟨f1, k1⟩ := hY1.r
  refine p_aload_n (i := 578) rfl rfl ?_
  refine p_cV0 (i := 579) rfl ⟨lL_132, rfl, rfl⟩ k1 ⟨_, rfl, rfl⟩ rfl (Y_judge hY1 (fun M2 hY2 fr2 => ?_))
  refine p_eqq (i := 580) 1005 rfl (by decide) ?_
  exact h M2 _ (hX1.fi fr2 (by omega)) hY2
set_option maxRecDepth 20000 in
set_option maxHeartbeats 4000000 in
theorem law_29 {Ln : Nat} {xs : Nat → Int32} {i : Nat} {M : AM} {σ : ST} (hi : i + 3 ≤ Ln) (hL : Ln ≤ 192) (hX : XW M σ) (hY : YW M σ) (h : LawK Ln xs i) : P (some (Ln, xs)) mL_law 923 [.ref 1000000, .ref 0, .ref 276, zI (i : Nat)] []  M LawQ := by
  obtain ⟨tx, fa, ln, g, un, i0, i1, sd, me, bo⟩ := σ
  obtain ⟨f0, k0⟩ := hX.r
  refine p_aload_n (i := 583) rfl rfl ?_
  refine p_cV0 (i := 584) rfl ⟨lL_133, rfl, rfl⟩ k0 ⟨_, rfl, rfl⟩ rfl (X_tear hX (fun M1 hX1 fr1 => ?_))
  have hY1 := hY.fi fr1 (by omega)
  obtain ⟨f1, k1⟩ := hY1.r
  refine p_aload_n (i := 585) rfl rfl ?_
  refine p_cV0 (i := 586) rfl ⟨lL_136, rfl, rfl⟩ k1 ⟨_, rfl, rfl⟩ rfl (Y_tear hY1 (fun M2 hY2 fr2 => ?_))
  refine p_eqq (i := 587) 1005 rfl (by decide) ?_
  exact h M2 _ (hX1.fi fr2 (by omega)) hY2
set_option maxRecDepth 20000 in
set_option maxHeartbeats 4000000 in
theorem law_30 {Ln : Nat} {xs : Nat → Int32} {i : Nat} {M : AM} {σ : ST} (hi : i + 3 ≤ Ln) (hL : Ln ≤ 192) (hX : XW M σ) (hY : YW M σ) (h : LawK Ln xs i) : P (some (Ln, xs)) mL_law 936 [.ref 1000000, .ref 0, .ref 276, zI (i : Nat)] []  M LawQ := by
  obtain ⟨tx, fa, ln, g, un, i0, i1, sd, me, bo⟩ := σ
  obtain ⟨f0, k0⟩ := hX.r
  refine p_aload_n (i := 590) rfl rfl ?_
  refine p_aload_n (i := 591) rfl rfl ?_
  refine p_iload_n (i := 592) rfl rfl ?_
  refine p_iconst (i := 593) rfl ?_
  refine p_iadd (i := 594) rfl ?_
  refine p_sl (i := 595) rfl (by omega) hL ?_
  refine p_cV1 (i := 596) rfl ⟨lL_137, rfl, rfl⟩ k0 ⟨_, rfl, rfl⟩ rfl (X_seed hX (rI _) (fun M1 hX1 fr1 => ?_))
  have hY1 := hY.fi fr1 (by omega)
  obtain ⟨f1, k1⟩ := hY1.r
  refine p_aload_n (i := 597) rfl rfl ?_
  refine p_aload_n (i := 598) rfl rfl ?_
  refine p_iload_n (i := 599) rfl rfl ?_
  refine p_iconst (i := 600) rfl ?_
  refine p_iadd (i := 601) rfl ?_
  refine p_sl (i := 602) rfl (by omega) hL ?_
  refine p_cV1 (i := 603) rfl ⟨lL_140, rfl, rfl⟩ k1 ⟨_, rfl, rfl⟩ rfl (Y_seed hY1 (rI _) (fun M2 hY2 fr2 => ?_))
  refine p_eqq (i := 604) 1005 rfl (by decide) ?_
  exact h M2 _ (hX1.fi fr2 (by omega)) hY2
set_option maxRecDepth 20000 in
set_option maxHeartbeats 4000000 in
theorem law_31 {Ln : Nat} {xs : Nat → Int32} {i : Nat} {M : AM} {σ : ST} (hi : i + 3 ≤ Ln) (hL : Ln ≤ 192) (hX : XW M σ) (hY : YW M σ) (h : LawK Ln xs i) : P (some (Ln, xs)) mL_law 959 [.ref 1000000, .ref 0, .ref 276, zI (i : Nat)] []  M LawQ := by
  obtain ⟨tx, fa, ln, g, un, i0, i1, sd, me, bo⟩ := σ
  obtain ⟨f0, k0⟩ := hX.r
  refine p_aload_n (i := 607) rfl rfl ?_
  refine p_aload_n (i := 608) rfl rfl ?_
  refine p_iload_n (i := 609) rfl rfl ?_
  refine p_iconst (i := 610) rfl ?_
  refine p_iadd (i := 611) rfl ?_
  refine p_sl (i := 612) rfl (by omega) hL ?_
  refine p_cV1 (i := 613) rfl ⟨lL_141, rfl, rfl⟩ k0 ⟨_, rfl, rfl⟩ rfl (X_keep hX (rI _) (fun M1 hX1 fr1 => ?_))
  have hY1 := hY.fi fr1 (by omega)
  obtain ⟨f1, k1⟩ := hY1.r
  refine p_aload_n (i := 614) rfl rfl ?_
  refine p_aload_n (i := 615) rfl rfl ?_
  refine p_iload_n (i := 616) rfl rfl ?_
  refine p_iconst (i := 617) rfl ?_
  refine p_iadd (i := 618) rfl ?_
  refine p_sl (i := 619) rfl (by omega) hL ?_
  refine p_cV1 (i := 620) rfl ⟨lL_144, rfl, rfl⟩ k1 ⟨_, rfl, rfl⟩ rfl (Y_keep hY1 (rI _) (fun M2 hY2 fr2 => ?_))
  refine p_eqq (i := 621) 1005 rfl (by decide) ?_
  exact h M2 _ (hX1.fi fr2 (by omega)) hY2
set_option maxRecDepth 20000 in
set_option maxHeartbeats 4000000 in
theorem law_32 {Ln : Nat} {xs : Nat → Int32} {i : Nat} {M : AM} {σ : ST} (hi : i + 3 ≤ Ln) (hL : Ln ≤ 192) (hX : XW M σ) (hY : YW M σ) (h : LawK Ln xs i) : P (some (Ln, xs)) mL_law 982 [.ref 1000000, .ref 0, .ref 276, zI (i : Nat)] []  M LawQ := by
  obtain ⟨tx, fa, ln, g, un, i0, i1, sd, me, bo⟩ := σ
  obtain ⟨f0, k0⟩ := hX.r
  refine p_aload_n (i := 624) rfl rfl ?_
  refine p_aload_n (i := 625) rfl rfl ?_
  refine p_iload_n (i := 626) rfl rfl ?_
  refine p_iconst (i := 627) rfl ?_
  refine p_iadd (i := 628) rfl ?_
  refine p_sl (i := 629) rfl (by omega) hL ?_
  refine p_cV1 (i := 630) rfl ⟨lL_145, rfl, rfl⟩ k0 ⟨_, rfl, rfl⟩ rfl (X_goBack hX (rI _) (fun M1 hX1 fr1 => ?_))
  have hY1 := hY.fi fr1 (by omega)
  obtain ⟨f1, k1⟩ := hY1.r
  refine p_aload_n (i := 631) rfl rfl ?_
  refine p_aload_n (i := 632) rfl rfl ?_
  refine p_iload_n (i := 633) rfl rfl ?_
  refine p_iconst (i := 634) rfl ?_
  refine p_iadd (i := 635) rfl ?_
  refine p_sl (i := 636) rfl (by omega) hL ?_
  refine p_cV1 (i := 637) rfl ⟨lL_148, rfl, rfl⟩ k1 ⟨_, rfl, rfl⟩ rfl (Y_goBack hY1 (rI _) (fun M2 hY2 fr2 => ?_))
  refine p_eqq (i := 638) 1005 rfl (by decide) ?_
  exact h M2 _ (hX1.fi fr2 (by omega)) hY2
set_option maxRecDepth 20000 in
set_option maxHeartbeats 4000000 in
theorem law_loop {Ln : Nat} {xs : Nat → Int32} (hL : Ln ≤ 192) : ∀ (c i : Nat) (M : AM) (σ : ST), Ln < i + 3 * c + 3 → i ≤ 1000 → XW M σ → YW M σ → P (some (Ln, xs)) mL_law 18 [.ref 1000000, .ref 0, .ref 276, zI (i : Nat)] []  M LawQ := by
  intro c
  induction c with
  | zero =>
    intro i M σ hc hi9 hX hY
    refine p_iload_n (i := 10) rfl rfl ?_
    refine p_aload_n (i := 11) rfl rfl ?_
    refine p_slen (i := 12) rfl rfl ?_
    refine p_iconst (i := 13) rfl ?_
    refine p_isub (i := 14) rfl ?_
    show P (some (Ln, xs)) mL_law 23 _ [zI ((Ln : Int) - 3), zI (i : Int)] _ _
    refine p_icmp_gt (i := 15) 1011 rfl (by decide) (by omega) (by omega) (fun c23 => ?_) (fun c23 => by exfalso; omega)
    refine p_iconst (i := 643) rfl ?_
    refine p_iret (i := 644) rfl rfl (by decide) ?_
    exact rfl
  | succ c ih =>
    intro i M σ hc hi9 hX hY
    refine p_iload_n (i := 10) rfl rfl ?_
    refine p_aload_n (i := 11) rfl rfl ?_
    refine p_slen (i := 12) rfl rfl ?_
    refine p_iconst (i := 13) rfl ?_
    refine p_isub (i := 14) rfl ?_
    show P (some (Ln, xs)) mL_law 23 _ [zI ((Ln : Int) - 3), zI (i : Int)] _ _
    refine p_icmp_gt (i := 15) 1011 rfl (by decide) (by omega) (by omega) (fun c23 => ?_) (fun c23 => ?_)
    · refine p_iconst (i := 643) rfl ?_
      refine p_iret (i := 644) rfl rfl (by decide) ?_
      exact rfl
    · have hi : i + 3 ≤ Ln := by omega
      have hK : LawK Ln xs i := fun M' σ' hX' hY' => by
        refine p_iinc (i := 641) rfl rfl rfl ?_
        refine p_goto (i := 642) 18 rfl (by decide) ?_
        exact ih (i + 3) M' σ' (by omega) (by omega) hX' hY'
      refine p_aload_n (i := 16) rfl rfl ?_
      refine p_iload_n (i := 17) rfl rfl ?_
      refine p_sl (i := 18) rfl (by omega) hL ?_
      refine p_bipush (i := 19) rfl (by decide) ?_
      refine p_iand (i := 20) rfl ?_
      refine p_norm (fun a ha => ?_)
      have key : (a < 0 ∨ 32 < a) ∨ a = 0 ∨ a = 1 ∨ a = 2 ∨ a = 3 ∨ a = 4 ∨ a = 5 ∨ a = 6 ∨ a = 7 ∨ a = 8 ∨ a = 9 ∨ a = 10 ∨ a = 11 ∨ a = 12 ∨ a = 13 ∨ a = 14 ∨ a = 15 ∨ a = 16 ∨ a = 17 ∨ a = 18 ∨ a = 19 ∨ a = 20 ∨ a = 21 ∨ a = 22 ∨ a = 23 ∨ a = 24 ∨ a = 25 ∨ a = 26 ∨ a = 27 ∨ a = 28 ∨ a = 29 ∨ a = 30 ∨ a = 31 ∨ a = 32 := by omega
      rcases key with z | rfl | rfl | rfl | rfl | rfl | rfl | rfl | rfl | rfl | rfl | rfl | rfl | rfl | rfl | rfl | rfl | rfl | rfl | rfl | rfl | rfl | rfl | rfl | rfl | rfl | rfl | rfl | rfl | rfl | rfl | rfl | rfl | rfl
      · refine p_tsOut (i := 21) 1005 rfl (by decide) (by omega) z ?_
        exact hK M σ hX hY
      · exact p_tsIn (i := 21) 180 rfl (by decide) (by decide) (by rfl) (by decide) (law_0 hi hL hX hY hK)
      · exact p_tsIn (i := 21) 203 rfl (by decide) (by decide) (by rfl) (by decide) (law_1 hi hL hX hY hK)
      · exact p_tsIn (i := 21) 216 rfl (by decide) (by decide) (by rfl) (by decide) (law_2 hi hL hX hY hK)
      · exact p_tsIn (i := 21) 229 rfl (by decide) (by decide) (by rfl) (by decide) (law_3 hi hL hX hY hK)
      · exact p_tsIn (i := 21) 252 rfl (by decide) (by decide) (by rfl) (by decide) (law_4 hi hL hX hY hK)
      · exact p_tsIn (i := 21) 285 rfl (by decide) (by decide) (by rfl) (by decide) (law_5 hi hL hX hY hK)
      · exact p_tsIn (i := 21) 318 rfl (by decide) (by decide) (by rfl) (by decide) (law_6 hi hL hX hY hK)
      · exact p_tsIn (i := 21) 351 rfl (by decide) (by decide) (by rfl) (by decide) (law_7 hi hL hX hY hK)
      · exact p_tsIn (i := 21) 384 rfl (by decide) (by decide) (by rfl) (by decide) (law_8 hi hL hX hY hK)
      · exact p_tsIn (i := 21) 407 rfl (by decide) (by decide) (by rfl) (by decide) (law_9 hi hL hX hY hK)
      · exact p_tsIn (i := 21) 430 rfl (by decide) (by decide) (by rfl) (by decide) (law_10 hi hL hX hY hK)
      · exact p_tsIn (i := 21) 443 rfl (by decide) (by decide) (by rfl) (by decide) (law_11 hi hL hX hY hK)
      · exact p_tsIn (i := 21) 466 rfl (by decide) (by decide) (by rfl) (by decide) (law_12 hi hL hX hY hK)
      · exact p_tsIn (i := 21) 499 rfl (by decide) (by decide) (by rfl) (by decide) (law_13 hi hL hX hY hK)
      · exact p_tsIn (i := 21) 522 rfl (by decide) (by decide) (by rfl) (by decide) (law_14 hi hL hX hY hK)
      · exact p_tsIn (i := 21) 545 rfl (by decide) (by decide) (by rfl) (by decide) (law_15 hi hL hX hY hK)
      · exact p_tsIn (i := 21) 568 rfl (by decide) (by decide) (by rfl) (by decide) (law_16 hi hL hX hY hK)
      · exact p_tsIn (i := 21) 591 rfl (by decide) (by decide) (by rfl) (by decide) (law_17 hi hL hX hY hK)
      · exact p_tsIn (i := 21) 614 rfl (by decide) (by decide) (by rfl) (by decide) (law_18 hi hL hX hY hK)
      · exact p_tsIn (i := 21) 647 rfl (by decide) (by decide) (by rfl) (by decide) (law_19 hi hL hX hY hK)
      · exact p_tsIn (i := 21) 680 rfl (by decide) (by decide) (by rfl) (by decide) (law_20 hi hL hX hY hK)
      · exact p_tsIn (i := 21) 713 rfl (by decide) (by decide) (by rfl) (by decide) (law_21 hi hL hX hY hK)
      · exact p_tsIn (i := 21) 746 rfl (by decide) (by decide) (by rfl) (by decide) (law_22 hi hL hX hY hK)
      · exact p_tsIn (i := 21) 769 rfl (by decide) (by decide) (by rfl) (by decide) (law_23 hi hL hX hY hK)
      · exact p_tsIn (i := 21) 802 rfl (by decide) (by decide) (by rfl) (by decide) (law_24 hi hL hX hY hK)
      · exact p_tsIn (i := 21) 851 rfl (by decide) (by decide) (by rfl) (by decide) (law_25 hi hL hX hY hK)
      · exact p_tsIn (i := 21) 864 rfl (by decide) (by decide) (by rfl) (by decide) (law_26 hi hL hX hY hK)
      · exact p_tsIn (i := 21) 877 rfl (by decide) (by decide) (by rfl) (by decide) (law_27 hi hL hX hY hK)
      · exact p_tsIn (i := 21) 910 rfl (by decide) (by decide) (by rfl) (by decide) (law_28 hi hL hX hY hK)
      · exact p_tsIn (i := 21) 923 rfl (by decide) (by decide) (by rfl) (by decide) (law_29 hi hL hX hY hK)
      · exact p_tsIn (i := 21) 936 rfl (by decide) (by decide) (by rfl) (by decide) (law_30 hi hL hX hY hK)
      · exact p_tsIn (i := 21) 959 rfl (by decide) (by decide) (by rfl) (by decide) (law_31 hi hL hX hY hK)
      · exact p_tsIn (i := 21) 982 rfl (by decide) (by decide) (by rfl) (by decide) (law_32 hi hL hX hY hK)
