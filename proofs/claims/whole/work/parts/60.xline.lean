-- the class: line
theorem x_empty {M : AM} {tx : List Int} {a : Nat} {b : Int × Int} {Q : Option Value → AM → Prop} (hR : XR M tx a b) (h : ∀ M', XRd M' [] → FrI 1 2 M M' → Q none M') : C mX7_empty [.ref 1] M Q := by
  obtain ⟨i0, i1, f, k1, k2, hf⟩ := id hR
  have fr : FrI 1 2 M M := FrI.rf
  refine C_of okX7_empty (by decide) (Nat.le_of_ble_eq_true rfl) ?_
  show P none mX7_empty 0 [.ref 1] [] _ _
  refine p_aload_n (i := 0) rfl rfl ?_
  refine p_iconst (i := 1) rfl ?_
  refine p_puti (i := 2) rfl gX7_15 k1 rfl (P_gen fun M e => ?_)
  have k2 := aupN e k2 (by omega)
  have fr := fr.up e (by omega)
  have k1 := aupE e
  refine p_ret (i := 3) rfl rfl ?_
  exact h M ⟨by decide, f, _, _, _, k1, k2, fun i hi => absurd hi (Nat.not_lt_zero i)⟩ fr
theorem X_line {M : AM} {tx : List Int} {fa : Int} {ln : LN} {g : GS} {un : List GS} {i0 i1 : Option (GS × Int)} {sd : Int} {me bo : List (Int × Int)} {Q : Option Value → AM → Prop} (hX : XW M (tx, fa, ln, g, un, i0, i1, sd, me, bo)) (h : ∀ M', XW M' (a_line (tx, fa, ln, g, un, i0, i1, sd, me, bo)).2 → FrI 0 276 M M' → Q (some (zI (a_line (tx, fa, ln, g, un, i0, i1, sd, me, bo)).1)) M') : C mX9_line [.ref 0] M Q := by
  dsimp only [a_line] at h
  obtain ⟨la, sa, hRt, hRd, hHi, hIr, hI0, hI1, hPa, hTr, hTu, hMe, hBo, hLi, hLs, b1, b2, b3, b4, b5, b6, b7⟩ := id hX
  obtain ⟨kR, hla⟩ := id hRt
  have hRd0 := hRd
  obtain ⟨v0, rf, ra, rt, rp, r1, r2, r3⟩ := id hRd
  have hch : ∀ i, i < tx.length → 0 ≤ ch tx i := fun i hi => by
    have := (r3 i hi).2.1
    unfold ch
    rw [if_pos hi]
    exact this
  have hrx := rx_read tx hch (b := (0, -1)) rfl 241 0 (0, [], []) ln0_ok
  refine C_of okX9_line (by decide) (Nat.le_of_ble_eq_true rfl) ?_
  show P none mX9_line 0 [.ref 0, .retAddr 0, .retAddr 0, .retAddr 0] [] _ _
  refine p_aload_n (i := 0) rfl rfl ?_
  refine p_getf (i := 1) rfl fX9_10 kR rfl ?_
  refine p_aload_n (i := 2) rfl rfl ?_
  refine p_getf (i := 3) rfl fX9_67 kR rfl ?_
  refine p_cV1 (i := 4) rfl ⟨lX9_87, rfl, rfl⟩ r1 ⟨_, rfl, rfl⟩ rfl (x_readInto hRd hLs (by omega) (fun M1 a1 frT hR1 hL1 => ?_))
  obtain ⟨Ms, s1, s2⟩ := frT.split (by omega)
  have kR := s2.at (s1.at kR (by omega)) (by omega)
  obtain ⟨B, eB⟩ : ∃ B, B = (xRead tx 241 (sk tx 0) (0, -1) (0, [], [])).1 := ⟨_, rfl⟩
  obtain ⟨L, eL⟩ : ∃ L, L = (xRead tx 241 (sk tx 0) (0, -1) (0, [], [])).2 := ⟨_, rfl⟩
  rw [← eB] at hR1 ⊢
  rw [← eL] at hL1
  have fr0 : FrI 0 1 M1 M1 := FrI.rf
  obtain ⟨i0, i1, f1, k1, k2, hf1⟩ := id hR1
  refine p_istore_n (i := 5) rfl rfl ?_
  refine p_aload_n (i := 6) rfl rfl ?_
  refine p_aload_n (i := 7) rfl rfl ?_
  refine p_getf (i := 8) rfl fX9_10 kR rfl ?_
  refine p_getf (i := 9) rfl fX9_91 k1 rfl ?_
  refine p_puti (i := 10) rfl gX9_70 kR rfl (P_gen fun M e => ?_)
  have k1 := aupN e k1 (by omega)
  have k2 := aupN e k2 (by omega)
  have fr0 := fr0.up e (by omega)
  have kR := aupE e
  refine p_aload_n (i := 11) rfl rfl ?_
  refine p_getf (i := 12) rfl fX9_10 kR rfl ?_
  have hR2 : XR M tx a1 B := ⟨i0, i1, f1, k1, k2, hf1⟩
  refine p_cV0 (i := 13) rfl ⟨lX9_92, rfl, rfl⟩ k1 ⟨_, rfl, rfl⟩ rfl (x_empty hR2 (fun M3 hRd3 fr3 => ?_))
  have kR := fr3.at kR (by omega)
  cases hs : sRead tx 241 0 (0, [], []) with
  | error e =>
    rw [hs] at hrx h
    obtain ⟨e1, e2⟩ := hrx
    have e3 := sRead_in tx 241 0 (0, [], []) e (by omega) hs
    rw [← eB] at e1
    subst e1
    obtain ⟨q1, q2, q3, q4⟩ := e3
    dsimp only at h
    refine p_iload_n (i := 14) rfl rfl ?_
    refine p_if_eq (i := 15) 39 rfl (by decide) (by omega) (fun c31 => by exfalso; omega) (fun c31 => ?_)
    refine p_bipush (i := 16) rfl (by decide) ?_
    refine p_iload_n (i := 17) rfl rfl ?_
    refine p_isub (i := 18) rfl ?_
    refine p_iret (i := 19) rfl rfl (rfl) ?_
    exact h M3 ⟨la, sa, ⟨kR, hla⟩, hRd3, ((((hHi.fi s1 (by omega)).fi s2 (by omega)).fi fr0 (by omega)).fi fr3 (by omega)), ((((hIr.fi s1 (by omega)).fi s2 (by omega)).fi fr0 (by omega)).fi fr3 (by omega)), ((((hI0.fi s1 (by omega)).fi s2 (by omega)).fi fr0 (by omega)).fi fr3 (by omega)), ((((hI1.fi s1 (by omega)).fi s2 (by omega)).fi fr0 (by omega)).fi fr3 (by omega)), ((((hPa.fi s1 (by omega)).fi s2 (by omega)).fi fr0 (by omega)).fi fr3 (by omega)), ((((hTr.fi s1 (by omega)).fi s2 (by omega)).fi fr0 (by omega)).fi fr3 (by omega)), ((((hTu.fi s1 (by omega)).fi s2 (by omega)).fi fr0 (by omega)).fi fr3 (by omega)), ((((hMe.fi s1 (by omega)).fi s2 (by omega)).fi fr0 (by omega)).fi fr3 (by omega)), ((((hBo.fi s1 (by omega)).fi s2 (by omega)).fi fr0 (by omega)).fi fr3 (by omega)), ((((hLi.fi s1 (by omega)).fi s2 (by omega)).fi fr0 (by omega)).fi fr3 (by omega)), ((hL1.r.fi fr0 (by omega)).fi fr3 (by omega)), b1, b2, b3, b4, b5, by show (-1 : Int) ≤ B.2; omega, by show B.2 ≤ (240 : Int); omega⟩ ((((s1.weak (by omega)).tr (s2.weak (by omega))).tr (fr0.weak (by omega))).tr (fr3.weak (by omega)))
  | ok l =>
    rw [hs] at hrx h
    obtain ⟨e1, hlo⟩ := hrx
    have eB2 : B = (0, -1) := by rw [eB, e1]
    have eL2 : L = l := by rw [eL, e1]
    subst eL2
    rw [eB2] at kR ⊢
    dsimp only at h
    have hP0 := (((hPa.fi s1 (by omega)).fi s2 (by omega)).fi fr0 (by omega)).fi fr3 (by omega)
    have hH0 := (((hHi.fi s1 (by omega)).fi s2 (by omega)).fi fr0 (by omega)).fi fr3 (by omega)
    have hM0 := (((hMe.fi s1 (by omega)).fi s2 (by omega)).fi fr0 (by omega)).fi fr3 (by omega)
    have hB0 := (((hBo.fi s1 (by omega)).fi s2 (by omega)).fi fr0 (by omega)).fi fr3 (by omega)
    have hIr0 := (((hIr.fi s1 (by omega)).fi s2 (by omega)).fi fr0 (by omega)).fi fr3 (by omega)
    have hI00 := (((hI0.fi s1 (by omega)).fi s2 (by omega)).fi fr0 (by omega)).fi fr3 (by omega)
    have hI10 := (((hI1.fi s1 (by omega)).fi s2 (by omega)).fi fr0 (by omega)).fi fr3 (by omega)
    have hLn0 := ((hL1.a hlo).fi fr0 (by omega)).fi fr3 (by omega)
    have hLo0 := ((((hLi.r.fi s1 (by omega)).fi s2 (by omega)).fi fr0 (by omega)).fi fr3 (by omega))
    have fr4 : FrI 0 1 M3 M3 := FrI.rf
    refine p_iload_n (i := 14) rfl rfl ?_
    refine p_if_eq (i := 15) 39 rfl (by decide) (by omega) (fun c31 => ?_) (fun c31 => by exfalso; omega)
    refine p_aload_n (i := 20) rfl rfl ?_
    refine p_getf (i := 21) rfl fX9_63 kR rfl ?_
    refine p_astore_n (i := 22) rfl rfl ?_
    refine p_aload_n (i := 23) rfl rfl ?_
    refine p_aload_n (i := 24) rfl rfl ?_
    refine p_getf (i := 25) rfl fX9_67 kR rfl ?_
    refine p_puta (i := 26) rfl gX9_63 kR rfl (P_gen fun M e => ?_)
    have fr4 := fr4.up e (by omega)
    have kR := aupE e
    refine p_aload_n (i := 27) rfl rfl ?_
    refine p_aload_n (i := 28) rfl rfl ?_
    refine p_puta (i := 29) rfl gX9_67 kR rfl (P_gen fun M e => ?_)
    have fr4 := fr4.up e (by omega)
    have kR := aupE e
    have hPx := hP0.fi fr4 (by omega)
    have hHx := hH0.fi fr4 (by omega)
    have hMx := hM0.fi fr4 (by omega)
    have hBx := hB0.fi fr4 (by omega)
    have hIrx := hIr0.fi fr4 (by omega)
    have hI0x := hI00.fi fr4 (by omega)
    have hI1x := hI10.fi fr4 (by omega)
    have hLnx := hLn0.fi fr4 (by omega)
    have hLox := hLo0.fi fr4 (by omega)
    obtain ⟨-, sc, wh, st, hs1, lr, lf, lz, ⟨hp, -⟩, -⟩ := id hPx
    refine p_aload_n (i := 30) rfl rfl ?_
    refine p_getf (i := 31) rfl fX9_32 kR rfl ?_
    refine p_cV0 (i := 32) rfl ⟨lX9_95, rfl, rfl⟩ hp ⟨_, rfl, rfl⟩ rfl (x_reset (ns := nS L) (nw := nW L) hPx.r hlo.2.2.1 hlo.2.2.2.1 (fun M5 hP5 fr5 => ?_))
    have kR := fr5.at kR (by omega)
    have hHy := hHx.fi fr5 (by omega)
    obtain ⟨v4, vg, vs, w3, w4, v5⟩ := id hHy
    refine p_aload_n (i := 33) rfl rfl ?_
    refine p_getf (i := 34) rfl fX9_19 kR rfl ?_
    refine p_cV0 (i := 35) rfl ⟨lX9_98, rfl, rfl⟩ w3 ⟨_, rfl, rfl⟩ rfl (x_histForget (ns' := nS L) (nw' := nW L) hHy (fun M6 hH6 fr6 => ?_))
    have kR := fr6.at kR (by omega)
    obtain ⟨gi, w5, gi0, gi1⟩ := id ((hIrx.fi fr5 (by omega)).fi fr6 (by omega))
    obtain ⟨pr0, s0, kk0, w6, -⟩ := id ((hI0x.fi fr5 (by omega)).fi fr6 (by omega))
    obtain ⟨pr1, s1', kk1, w7, -⟩ := id ((hI1x.fi fr5 (by omega)).fi fr6 (by omega))
    have fr8 : FrI 260 1 M6 M6 := FrI.rf
    refine p_iconst (i := 36) rfl ?_
    refine p_istore_n (i := 37) rfl rfl ?_
    refine p_iload_n (i := 38) rfl rfl ?_
    refine p_iconst (i := 39) rfl ?_
    refine p_icmp_ge (i := 40) 94 rfl (by decide) (by omega) (by omega) (fun c75 => by exfalso; omega) (fun c75 => ?_)
    refine p_aload_n (i := 41) rfl rfl ?_
    refine p_getf (i := 42) rfl fX9_25 kR rfl ?_
    refine p_iload_n (i := 43) rfl rfl ?_
    refine p_aaX (i := 44) (0) rfl w5 (by omega) (by omega) (by omega) (by decide) gi0 ?_
    refine p_iconst (i := 45) rfl ?_
    refine p_putz (i := 46) rfl gX9_101 w6 (by omega) rfl (P_gen fun M e => ?_)
    have kR := aupN e kR (by omega)
    have w5 := aupN e w5 (by omega)
    have w7 := aupN e w7 (by omega)
    have fr8 := fr8.up e (by omega)
    have w6 := aupE e
    refine p_iinc (i := 47) rfl rfl rfl ?_
    refine p_goto (i := 48) 73 rfl (by decide) ?_
    have fr9 : FrI 268 1 M M := FrI.rf
    refine p_iload_n (i := 38) rfl rfl ?_
    refine p_iconst (i := 39) rfl ?_
    refine p_icmp_ge (i := 40) 94 rfl (by decide) (by omega) (by omega) (fun c75 => by exfalso; omega) (fun c75 => ?_)
    refine p_aload_n (i := 41) rfl rfl ?_
    refine p_getf (i := 42) rfl fX9_25 kR rfl ?_
    refine p_iload_n (i := 43) rfl rfl ?_
    refine p_aaX (i := 44) (1) rfl w5 (by omega) (by omega) (by omega) (by decide) gi1 ?_
    refine p_iconst (i := 45) rfl ?_
    refine p_putz (i := 46) rfl gX9_101 w7 (by omega) rfl (P_gen fun M e => ?_)
    have kR := aupN e kR (by omega)
    have w5 := aupN e w5 (by omega)
    have w6 := aupN e w6 (by omega)
    have fr9 := fr9.up e (by omega)
    have w7 := aupE e
    refine p_iinc (i := 47) rfl rfl rfl ?_
    refine p_goto (i := 48) 73 rfl (by decide) ?_
    refine p_iload_n (i := 38) rfl rfl ?_
    refine p_iconst (i := 39) rfl ?_
    refine p_icmp_ge (i := 40) 94 rfl (by decide) (by omega) (by omega) (fun c75 => ?_) (fun c75 => by exfalso; omega)
    have hMz := ((((hMx.fi fr5 (by omega)).fi fr6 (by omega)).fi fr8 (by omega)).fi fr9 (by omega))
    have hBz := ((((hBx.fi fr5 (by omega)).fi fr6 (by omega)).fi fr8 (by omega)).fi fr9 (by omega))
    obtain ⟨v6, vm, vn, y5, y6, y7, v7⟩ := id hMz
    refine p_aload_n (i := 49) rfl rfl ?_
    refine p_getf (i := 50) rfl fX9_49 kR rfl ?_
    refine p_cV0 (i := 51) rfl ⟨lX9_105, rfl, rfl⟩ y5 ⟨_, rfl, rfl⟩ rfl (x_metForget hMz (fun M10 hM10 fr10 => ?_))
    have kR := fr10.at kR (by omega)
    have hBy := hBz.fi fr10 (by omega)
    obtain ⟨v8, vbm, vbn, y8, y9, y10, v9⟩ := id hBy
    refine p_aload_n (i := 52) rfl rfl ?_
    refine p_getf (i := 53) rfl fX9_56 kR rfl ?_
    refine p_cV0 (i := 54) rfl ⟨lX9_106, rfl, rfl⟩ y8 ⟨_, rfl, rfl⟩ rfl (x_bookForget hBy (fun M11 hB11 fr11 => ?_))
    have kR := fr11.at kR (by omega)
    have hLnz := ((((((hLnx.fi fr5 (by omega)).fi fr6 (by omega)).fi fr8 (by omega)).fi fr9 (by omega)).fi fr10 (by omega)).fi fr11 (by omega))
    have hLoz := ((((((hLox.fi fr5 (by omega)).fi fr6 (by omega)).fi fr8 (by omega)).fi fr9 (by omega)).fi fr10 (by omega)).fi fr11 (by omega))
    obtain ⟨-, kf, bf, lc, lkf, ⟨hb, hk, hr, hc, ⟨gg, hg, hgi⟩, hrow⟩, -⟩ := id hLnz
    refine p_aload_n (i := 55) rfl rfl ?_
    refine p_getf (i := 56) rfl fX9_63 kR rfl ?_
    refine p_getf (i := 57) rfl fX9_107 hb rfl ?_
    refine p_iret (i := 58) rfl rfl (rfl) ?_
    have mv : ∀ {p : Nat} (q : PairR M6 p), p + 7 ≤ 260 ∨ (261 ≤ p ∧ p + 7 ≤ 268) ∨ 269 ≤ p → (p + 7 ≤ 232 ∨ 238 ≤ p) → PairR M11 p := fun q d1 d2 => (((q.fi fr8 (by omega)).fi fr9 (by omega)).fi fr10 (by omega)).fi fr11 (by omega)
    have w6' := fr11.at (fr10.at w6 (by omega)) (by omega)
    have w7' := fr11.at (fr10.at w7 (by omega)) (by omega)
    refine h M11 ⟨sa, la, ⟨kR, by omega⟩, ((((((hRd3.fi fr4 (by omega)).fi fr5 (by omega)).fi fr6 (by omega)).fi fr8 (by omega)).fi fr9 (by omega)).fi fr10 (by omega)).fi fr11 (by omega), (((hH6.fi fr8 (by omega)).fi fr9 (by omega)).fi fr10 (by omega)).fi fr11 (by omega), ⟨gi, fr11.at (fr10.at w5 (by omega)) (by omega), gi0, gi1⟩, ⟨mv pr0 (by omega) (by omega), s0, 0, w6', rfl⟩, ⟨mv pr1 (by omega) (by omega), s1', 0, w7', rfl⟩, ((((hP5.fi fr6 (by omega)).fi fr8 (by omega)).fi fr9 (by omega)).fi fr10 (by omega)).fi fr11 (by omega), mv ((((((((hTr.fi s1 (by omega)).fi s2 (by omega)).fi fr0 (by omega)).fi fr3 (by omega)).fi fr4 (by omega)).fi fr5 (by omega)).fi fr6 (by omega))) (by omega) (by omega), (((((((((((hTu.fi s1 (by omega)).fi s2 (by omega)).fi fr0 (by omega)).fi fr3 (by omega)).fi fr4 (by omega)).fi fr5 (by omega)).fi fr6 (by omega))).fi fr8 (by omega)).fi fr9 (by omega)).fi fr10 (by omega)).fi fr11 (by omega), hM10.fi fr11 (by omega), hB11, hLnz, hLoz, by decide, b2, b3, fun i hi => absurd hi (Nat.not_lt_zero i), fun i hi => absurd hi (Nat.not_lt_zero i), by decide, by decide⟩ ?_
    exact (((((((((((s1.weak (by omega)).tr (s2.weak (by omega))).tr (fr0.weak (by omega))).tr (fr3.weak (by omega))).tr (fr4.weak (by omega))).tr (fr5.weak (by omega))).tr (fr6.weak (by omega))).tr (fr8.weak (by omega))).tr (fr9.weak (by omega))).tr (fr10.weak (by omega))).tr (fr11.weak (by omega)))
