-- calls of the class that do, and try
theorem byDraw_y {ln : LN} {g : GS} {sd : Int} : (byDraw ln g sd).1.2.2.1 = g.2.2.1 ∧ 0 ≤ (byDraw ln g sd).2 ∧ (byDraw ln g sd).2 ≤ 2147483647 := by
  have d1 := drw_rng (sd := sd)
  have d2 := drw_rng (sd := drw sd)
  have d3 := drw_rng (sd := drw (drw sd))
  unfold byDraw
  split
  · exact ⟨rfl, d2⟩
  · split
    · exact ⟨rfl, d2⟩
    · split
      · exact ⟨rfl, d3⟩
      · split
        · exact ⟨rfl, d1⟩
        · exact ⟨rfl, d1⟩
theorem x_tryYears {M : AM} {la sa : Nat} {fa sd : Int} {ln : LN} {g : GS} {n : Nat} {Q : Option Value → AM → Prop} (hRt : XRt M la sa fa sd) (hP : PairB true M 216 (nS ln) (nW ln) g) (hT : PairR M 223) (hL : LineA M la ln) (hn : n ≤ 60) (hy : g.2.2.1 ≤ 90030) (h : ∀ M', PairB false M' 223 (nS ln) (nW ln) (tryN ln n g) → FrI 223 7 M M' → Q none M') : C mX9_tryYears [.ref 0, zI (n : Int)] M Q := by
  have loop : ∀ (f k : Nat) (M1 : AM) (g1 : GS), k + f = n → PairB false M1 223 (nS ln) (nW ln) g1 → g1.2.2.1 + f ≤ 95000 → FrI 223 7 M M1 → (∀ M', PairB false M' 223 (nS ln) (nW ln) (tryN ln f g1) → FrI 223 7 M M' → Q none M') → P none mX9_tryYears 13 [.ref 0, zI (n : Int), zI (k : Int)] []  M1 Q := by
    intro f
    induction f with
    | zero =>
      intro k M1 g1 hk hP1 hy1 fr h
      refine p_iload_n (i := 7) rfl rfl ?_
      refine p_iload_n (i := 8) rfl rfl ?_
      refine p_icmp_ge (i := 9) 35 rfl (by decide) (by omega) (by omega) (fun c15 => ?_) (fun c15 => by exfalso; omega)
      refine p_ret (i := 17) rfl rfl ?_
      exact h M1 hP1 fr
    | succ f ih =>
      intro k M1 g1 hk hP1 hy1 fr h
      have hRt1 := hRt.fi fr (by omega)
      have hla := hRt.2
      have hL1 := hL.fi fr (by omega)
      obtain ⟨kR, hla⟩ := id hRt1
      obtain ⟨⟨q1, q2, q3, q4, q5, q6, q7, q8, q9, q10, q11⟩, sc, wh, st, hs, lr, lf, lz, ⟨hp, hS, hW, hT, hH, hG, hR⟩, rL, rH, rG⟩ := id hP1
      refine p_iload_n (i := 7) rfl rfl ?_
      refine p_iload_n (i := 8) rfl rfl ?_
      refine p_icmp_ge (i := 9) 35 rfl (by decide) (by omega) (by omega) (fun c15 => by exfalso; omega) (fun c15 => ?_)
      refine p_aload_n (i := 10) rfl rfl ?_
      refine p_getf (i := 11) rfl fX9_36 kR rfl ?_
      refine p_aload_n (i := 12) rfl rfl ?_
      refine p_getf (i := 13) rfl fX9_63 kR rfl ?_
      refine p_cV1 (i := 14) rfl ⟨lX9_216, rfl, rfl⟩ hp ⟨_, rfl, rfl⟩ rfl (x_passYear hP1 hL1 rfl rfl (by omega) (by omega) (fun M2 hP2 fr2 => ?_))
      refine p_iinc (i := 15) rfl rfl rfl ?_
      refine p_goto (i := 16) 13 rfl (by decide) ?_
      have ey := passY_y ln g1
      exact ih (k + 1) M2 (passY ln g1) (by omega) hP2 (by omega) (fr.tr fr2) h
  obtain ⟨kR, hla⟩ := id hRt
  obtain ⟨sc0, wh0, st0, hs0, lr0, lf0, lz0, n0, w0, y0, ⟨kp, kS, kW, kT, kH, kG, kR'⟩, r1, r2, r3, r4⟩ := id hT
  refine C_of okX9_tryYears (by decide) (Nat.le_of_ble_eq_true rfl) ?_
  show P none mX9_tryYears 0 [.ref 0, zI (n : Int), .retAddr 0] [] _ _
  refine p_aload_n (i := 0) rfl rfl ?_
  refine p_getf (i := 1) rfl fX9_36 kR rfl ?_
  refine p_aload_n (i := 2) rfl rfl ?_
  refine p_getf (i := 3) rfl fX9_32 kR rfl ?_
  refine p_cV1 (i := 4) rfl ⟨lX9_238, rfl, rfl⟩ kp ⟨_, rfl, rfl⟩ rfl (x_copyGlass hT hP (by omega) (fun M1 hP1 fr1 => ?_))
  refine p_iconst (i := 5) rfl ?_
  refine p_istore_n (i := 6) rfl rfl ?_
  exact loop n 0 M1 g (by omega) hP1 (by omega) (fr1.weak (by omega)) h
theorem X_drift {M : AM} {tx : List Int} {fa : Int} {ln : LN} {g : GS} {un : List GS} {i0 i1 : Option (GS × Int)} {sd : Int} {me bo : List (Int × Int)} {n : Int} {Q : Option Value → AM → Prop} (hX : XW M (tx, fa, ln, g, un, i0, i1, sd, me, bo)) (hn : -2147483648 ≤ n ∧ n ≤ 2147483647) (h : ∀ M', XW M' (a_drift (tx, fa, ln, g, un, i0, i1, sd, me, bo) n).2 → FrI 0 276 M M' → Q (some (zI (a_drift (tx, fa, ln, g, un, i0, i1, sd, me, bo) n).1)) M') : C mX9_drift [.ref 0, zI n] M Q := by
  dsimp only [a_drift] at h
  obtain ⟨la, sa, hRt, hRd, hHi, hIr, hI0, hI1, hPa, hTr, hTu, hMe, hBo, hLi, hLs, b1, b2, b3, b4, b5, b6, b7⟩ := id hX
  obtain ⟨kR, hla⟩ := id hRt
  have loop : ∀ (f k : Nat) (M : AM) (g : GS) (un : List GS) (sd : Int), (k : Int) + f = n → n ≤ 30 → XW M (tx, fa, ln, g, un, i0, i1, sd, me, bo) → g.2.2.1 + f ≤ 90030 → (∀ M', XW M' (tx, fa, ln, (driftN ln f g un sd).1, (driftN ln f g un sd).2.1, i0, i1, (driftN ln f g un sd).2.2, me, bo) → FrI 0 276 M M' → Q (some (zI (driftN ln f g un sd).1.2.2.1)) M') → P none mX9_drift 14 [.ref 0, zI n, zI 0, zI (k : Int)] []  M Q := by
    intro f
    induction f with
    | zero =>
      intro k M g un sd hk hn30 hX hy h
      obtain ⟨la, sa, hRt, hRd, hHi, hIr, hI0, hI1, hPa, hTr, hTu, hMe, hBo, hLi, hLs, b1, b2, b3, b4, b5, b6, b7⟩ := id hX
      obtain ⟨kR, hla⟩ := id hRt
      obtain ⟨⟨q1, q2, q3, q4, q5, q6, q7, q8, q9, q10, q11⟩, sc, wh, st, hs, lr, lf, lz, ⟨hp, hS, hW, hT, hH, hG, hR⟩, rL, rH, rG⟩ := id hPa
      refine p_iload_n (i := 10) rfl rfl ?_
      refine p_iload_n (i := 11) rfl rfl ?_
      refine p_icmp_ge (i := 12) 51 rfl (by decide) (by omega) (by omega) (fun c16 => ?_) (fun c16 => by exfalso; omega)
      refine p_aload_n (i := 27) rfl rfl ?_
      refine p_getf (i := 28) rfl fX9_32 kR rfl ?_
      refine p_getf (i := 29) rfl fX9_116 hp rfl ?_
      refine p_iret (i := 30) rfl rfl (rfl) ?_
      exact h M hX FrI.rf
    | succ f ih =>
      intro k M g un sd hk hn30 hX hy h
      obtain ⟨la, sa, hRt, hRd, hHi, hIr, hI0, hI1, hPa, hTr, hTu, hMe, hBo, hLi, hLs, b1, b2, b3, b4, b5, b6, b7⟩ := id hX
      obtain ⟨kR, hla⟩ := id hRt
      obtain ⟨⟨q1, q2, q3, q4, q5, q6, q7, q8, q9, q10, q11⟩, sc, wh, st, hs, lr, lf, lz, ⟨hp, hS, hW, hT, hH, hG, hR⟩, rL, rH, rG⟩ := id hPa
      obtain ⟨v4, vg, vs, w3, w4, v5⟩ := id hHi
      refine p_iload_n (i := 10) rfl rfl ?_
      refine p_iload_n (i := 11) rfl rfl ?_
      refine p_icmp_ge (i := 12) 51 rfl (by decide) (by omega) (by omega) (fun c16 => by exfalso; omega) (fun c16 => ?_)
      refine p_aload_n (i := 13) rfl rfl ?_
      refine p_getf (i := 14) rfl fX9_19 kR rfl ?_
      refine p_aload_n (i := 15) rfl rfl ?_
      refine p_getf (i := 16) rfl fX9_32 kR rfl ?_
      refine p_cV1 (i := 17) rfl ⟨lX9_212, rfl, rfl⟩ w3 ⟨_, rfl, rfl⟩ rfl (x_remember hHi hPa b1 (fun M1 hHi1 fr1 => ?_))
      have kR := fr1.at kR (by omega)
      have hp := fr1.at hp (by omega)
      have hRt1 := hRt.fi fr1 (by omega)
      have hPa1 := hPa.fi fr1 (by omega)
      have hLi1 := hLi.fi fr1 (by omega)
      obtain ⟨y1, y2, y3⟩ := byDraw_y (ln := ln) (g := g) (sd := sd)
      refine p_aload_n (i := 18) rfl rfl ?_
      refine p_cV0 (i := 19) rfl ⟨lX9_228, rfl, rfl⟩ kR ⟨_, rfl, rfl⟩ rfl (x_doByDraw hRt1 hPa1 hLi1 ⟨b2, b3⟩ (fun M2 M3 fr2 fr3 hRt3 hPa3 => ?_))
      have hLi3 := (hLi1.fi fr2 (by omega)).fi fr3 (by omega)
      have kR := hRt3.1
      obtain ⟨-, sc, wh, st, hs, lr, lf, lz, ⟨hp, hS, hW, hT, hH, hG, hR⟩, -⟩ := id hPa3
      refine p_aload_n (i := 20) rfl rfl ?_
      refine p_getf (i := 21) rfl fX9_32 kR rfl ?_
      refine p_aload_n (i := 22) rfl rfl ?_
      refine p_getf (i := 23) rfl fX9_63 kR rfl ?_
      refine p_cV1 (i := 24) rfl ⟨lX9_216, rfl, rfl⟩ hp ⟨_, rfl, rfl⟩ rfl (x_passYear hPa3 hLi3 rfl rfl (by omega) (by omega) (fun M4 hPa4 fr4 => ?_))
      refine p_iinc (i := 25) rfl rfl rfl ?_
      refine p_goto (i := 26) 14 rfl (by decide) ?_
      have ey := passY_y ln (byDraw ln g sd).1
      have fr : FrI 0 276 M M4 := (((fr1.weak (by omega)).tr (fr2.weak (by omega))).tr (fr3.weak (by omega))).tr (fr4.weak (by omega))
      exact ih (k + 1) M4 (passY ln (byDraw ln g sd).1) (rem un g) (byDraw ln g sd).2 (by omega) hn30 ⟨la, sa, hRt3.fi fr4 (by omega), ((((hRd.fi fr1 (by omega)).fi fr2 (by omega)).fi fr3 (by omega)).fi fr4 (by omega)), ((hHi1.fi fr2 (by omega)).fi fr3 (by omega)).fi fr4 (by omega), ((((hIr.fi fr1 (by omega)).fi fr2 (by omega)).fi fr3 (by omega)).fi fr4 (by omega)), ((((hI0.fi fr1 (by omega)).fi fr2 (by omega)).fi fr3 (by omega)).fi fr4 (by omega)), ((((hI1.fi fr1 (by omega)).fi fr2 (by omega)).fi fr3 (by omega)).fi fr4 (by omega)), hPa4, ((((hTr.fi fr1 (by omega)).fi fr2 (by omega)).fi fr3 (by omega)).fi fr4 (by omega)), ((((hTu.fi fr1 (by omega)).fi fr2 (by omega)).fi fr3 (by omega)).fi fr4 (by omega)), ((((hMe.fi fr1 (by omega)).fi fr2 (by omega)).fi fr3 (by omega)).fi fr4 (by omega)), ((((hBo.fi fr1 (by omega)).fi fr2 (by omega)).fi fr3 (by omega)).fi fr4 (by omega)), ((((hLi.fi fr1 (by omega)).fi fr2 (by omega)).fi fr3 (by omega)).fi fr4 (by omega)), ((((hLs.fi fr1 (by omega)).fi fr2 (by omega)).fi fr3 (by omega)).fi fr4 (by omega)), by omega, y2, y3, b4, b5, b6, b7⟩ (by omega) (fun M' hX' fr' => h M' hX' (fr.tr fr'))
  refine C_of okX9_drift (by decide) (Nat.le_of_ble_eq_true rfl) ?_
  show P none mX9_drift 0 [.ref 0, zI n, .retAddr 0, .retAddr 0] [] _ _
  refine p_aload_n (i := 0) rfl rfl ?_
  refine p_iload_n (i := 1) rfl rfl ?_
  refine p_cV1 (i := 2) rfl ⟨lX9_209, rfl, rfl⟩ kR ⟨_, rfl, rfl⟩ rfl (x_refusal hRt hPa hLi hn ?_)
  refine p_istore_n (i := 3) rfl rfl ?_
  refine p_iload_n (i := 4) rfl rfl ?_
  have hrr := refs_rng (ln := ln) (g := g) (n := n)
  refine p_if_eq (i := 5) 12 rfl (by decide) (by omega) (fun c7 => ?_) (fun c7 => ?_)
  · rw [if_neg (not_not_intro c7)] at h
    have hn30 := refs_0 c7
    refine p_iconst (i := 8) rfl ?_
    refine p_istore_n (i := 9) rfl rfl ?_
    rw [c7]
    exact loop n.toNat 0 M g un sd (by omega) (by omega) hX (by omega) h
  · refine p_iload_n (i := 6) rfl rfl ?_
    refine p_iret (i := 7) rfl rfl (rfl) ?_
    rw [if_pos c7] at h
    exact h M hX FrI.rf
theorem X_dark {M : AM} {tx : List Int} {fa : Int} {ln : LN} {g : GS} {un : List GS} {i0 i1 : Option (GS × Int)} {sd : Int} {me bo : List (Int × Int)} {n : Int} {Q : Option Value → AM → Prop} (hX : XW M (tx, fa, ln, g, un, i0, i1, sd, me, bo)) (hn : -2147483648 ≤ n ∧ n ≤ 2147483647) (h : ∀ M', XW M' (tx, fa, ln, g, un, i0, i1, sd, me, bo) → FrI 0 276 M M' → Q (some (zI (a_dark (tx, fa, ln, g, un, i0, i1, sd, me, bo) n))) M') : C mX9_dark [.ref 0, zI n] M Q := by
  dsimp only [a_dark] at h
  obtain ⟨la, sa, hRt, hRd, hHi, hIr, hI0, hI1, hPa, hTr, hTu, hMe, hBo, hLi, hLs, b1, b2, b3, b4, b5, b6, b7⟩ := id hX
  obtain ⟨kR, hla⟩ := id hRt
  refine C_of okX9_dark (by decide) (Nat.le_of_ble_eq_true rfl) ?_
  show P none mX9_dark 0 [.ref 0, zI n] [] _ _
  refine p_iload_n (i := 0) rfl rfl ?_
  refine p_if_lt (i := 1) 10 rfl (by decide) (by omega) (fun c1 => ?_) (fun c1 => ?_)
  · rw [if_pos (by omega)] at h
    refine p_ldc (i := 5) rfl kX9_78 ?_
    refine p_iret (i := 6) rfl rfl (rfl) ?_
    exact h M hX FrI.rf
  · refine p_iload_n (i := 2) rfl rfl ?_
    refine p_bipush (i := 3) rfl (by decide) ?_
    refine p_icmp_le (i := 4) 13 rfl (by decide) (by omega) (by omega) (fun c7 => ?_) (fun c7 => ?_)
    · rw [if_neg (by omega)] at h
      refine p_aload_n (i := 7) rfl rfl ?_
      refine p_iload_n (i := 8) rfl rfl ?_
      refine p_top (b := ((n.toNat : Nat) : Int)) (by omega) ?_
      refine p_cV1 (i := 9) rfl ⟨lX9_235, rfl, rfl⟩ kR ⟨_, rfl, rfl⟩ rfl (x_tryYears hRt hPa hTr hLi (by omega) b1 (fun M1 hP1 fr1 => ?_))
      obtain ⟨⟨q1, q2, q3, q4, q5, q6, q7, q8, q9, q10, q11⟩, sc, wh, st, hs, lr, lf, lz, ⟨hp, hS, hW, hT, hH, hG, hR⟩, rL, rH, rG⟩ := id hP1
      have kR := fr1.at kR (by omega)
      refine p_aload_n (i := 10) rfl rfl ?_
      refine p_getf (i := 11) rfl fX9_36 kR rfl ?_
      refine p_cV0 (i := 12) rfl ⟨lX9_125, rfl, rfl⟩ hp ⟨_, rfl, rfl⟩ rfl (x_darkness hP1 ?_)
      refine p_iret (i := 13) rfl rfl (rfl) ?_
      exact h M1 ⟨la, sa, (hRt.fi fr1 (by omega)), (hRd.fi fr1 (by omega)), (hHi.fi fr1 (by omega)), (hIr.fi fr1 (by omega)), (hI0.fi fr1 (by omega)), (hI1.fi fr1 (by omega)), (hPa.fi fr1 (by omega)), hP1.r, (hTu.fi fr1 (by omega)), (hMe.fi fr1 (by omega)), (hBo.fi fr1 (by omega)), (hLi.fi fr1 (by omega)), (hLs.fi fr1 (by omega)), b1, b2, b3, b4, b5, b6, b7⟩ (fr1.weak (by omega))
    · rw [if_pos (by omega)] at h
      refine p_ldc (i := 5) rfl kX9_78 ?_
      refine p_iret (i := 6) rfl rfl (rfl) ?_
      exact h M hX FrI.rf
theorem X_willShow {M : AM} {tx : List Int} {fa : Int} {ln : LN} {g : GS} {un : List GS} {i0 i1 : Option (GS × Int)} {sd : Int} {me bo : List (Int × Int)} {x n : Int} {Q : Option Value → AM → Prop} (hX : XW M (tx, fa, ln, g, un, i0, i1, sd, me, bo)) (hx : -2147483648 ≤ x ∧ x ≤ 2147483647) (hn : -2147483648 ≤ n ∧ n ≤ 2147483647) (h : ∀ M', XW M' (tx, fa, ln, g, un, i0, i1, sd, me, bo) → FrI 0 276 M M' → Q (some (zI (a_willShow (tx, fa, ln, g, un, i0, i1, sd, me, bo) x n))) M') : C mX9_willShow [.ref 0, zI x, zI n] M Q := by
  dsimp only [a_willShow] at h
  obtain ⟨la, sa, hRt, hRd, hHi, hIr, hI0, hI1, hPa, hTr, hTu, hMe, hBo, hLi, hLs, b1, b2, b3, b4, b5, b6, b7⟩ := id hX
  obtain ⟨kR, hla⟩ := id hRt
  obtain ⟨⟨o1, o2, o3, o4, o5, o6, o7⟩, kf, bf, lc, lkf, ⟨hb, hk, hr, hc, ⟨gg, hg, hgi⟩, hrow⟩, hkb, hlk⟩ := id hLi
  refine C_of okX9_willShow (by decide) (Nat.le_of_ble_eq_true rfl) ?_
  show P none mX9_willShow 0 [.ref 0, zI x, zI n] [] _ _
  refine p_aload_n (i := 0) rfl rfl ?_
  refine p_getf (i := 1) rfl fX9_63 kR rfl ?_
  refine p_iload_n (i := 2) rfl rfl ?_
  refine p_cV1 (i := 3) rfl ⟨lX9_154, rfl, rfl⟩ hb ⟨_, rfl, rfl⟩ rfl (x_hasScene hLi hx (fun q => ?_) (fun q => ?_))
  · rw [if_neg (not_not_intro q)] at h
    refine p_if_ne (i := 4) 14 rfl (by decide) (by omega) (fun c8 => ?_) (fun c8 => by exfalso; omega)
    refine p_iload_n (i := 7) rfl rfl ?_
    refine p_if_lt (i := 8) 24 rfl (by decide) (by omega) (fun c15 => ?_) (fun c15 => ?_)
    · rw [if_pos (by omega)] at h
      refine p_ldc (i := 12) rfl kX9_78 ?_
      refine p_iret (i := 13) rfl rfl (rfl) ?_
      exact h M hX FrI.rf
    · refine p_iload_n (i := 9) rfl rfl ?_
      refine p_bipush (i := 10) rfl (by decide) ?_
      refine p_icmp_le (i := 11) 27 rfl (by decide) (by omega) (by omega) (fun c21 => ?_) (fun c21 => ?_)
      · rw [if_neg (by omega)] at h
        refine p_aload_n (i := 14) rfl rfl ?_
        refine p_iload_n (i := 15) rfl rfl ?_
        refine p_top (b := ((n.toNat : Nat) : Int)) (by omega) ?_
        refine p_cV1 (i := 16) rfl ⟨lX9_235, rfl, rfl⟩ kR ⟨_, rfl, rfl⟩ rfl (x_tryYears hRt hPa hTr hLi (by omega) b1 (fun M1 hP1 fr1 => ?_))
        obtain ⟨⟨q1, q2, q3, q4, q5, q6, q7, q8, q9, q10, q11⟩, sc, wh, st, hs, lr, lf, lz, ⟨hp, hS, hW, hT, hH, hG, hR⟩, rL, rH, rG⟩ := id hP1
        have kR := fr1.at kR (by omega)
        refine p_aload_n (i := 17) rfl rfl ?_
        refine p_getf (i := 18) rfl fX9_36 kR rfl ?_
        refine p_iload_n (i := 19) rfl rfl ?_
        refine p_cV1 (i := 20) rfl ⟨lX9_241, rfl, rfl⟩ hp ⟨_, rfl, rfl⟩ rfl (x_strengthOfScene hP1 (by omega) ?_)
        refine p_iret (i := 21) rfl rfl (rfl) ?_
        exact h M1 ⟨la, sa, (hRt.fi fr1 (by omega)), (hRd.fi fr1 (by omega)), (hHi.fi fr1 (by omega)), (hIr.fi fr1 (by omega)), (hI0.fi fr1 (by omega)), (hI1.fi fr1 (by omega)), (hPa.fi fr1 (by omega)), hP1.r, (hTu.fi fr1 (by omega)), (hMe.fi fr1 (by omega)), (hBo.fi fr1 (by omega)), (hLi.fi fr1 (by omega)), (hLs.fi fr1 (by omega)), b1, b2, b3, b4, b5, b6, b7⟩ (fr1.weak (by omega))
      · rw [if_pos (by omega)] at h
        refine p_ldc (i := 12) rfl kX9_78 ?_
        refine p_iret (i := 13) rfl rfl (rfl) ?_
        exact h M hX FrI.rf
  · rw [if_pos q] at h
    refine p_if_ne (i := 4) 14 rfl (by decide) (by omega) (fun c8 => by exfalso; omega) (fun c8 => ?_)
    refine p_ldc (i := 5) rfl kX9_158 ?_
    refine p_iret (i := 6) rfl rfl (rfl) ?_
    exact h M hX FrI.rf
theorem X_tooDark {M : AM} {tx : List Int} {fa : Int} {ln : LN} {g : GS} {un : List GS} {i0 i1 : Option (GS × Int)} {sd : Int} {me bo : List (Int × Int)} {m : Int} {Q : Option Value → AM → Prop} (hX : XW M (tx, fa, ln, g, un, i0, i1, sd, me, bo)) (hm : -2147483648 ≤ m ∧ m ≤ 2147483647) (h : ∀ M', XW M' (tx, fa, ln, g, un, i0, i1, sd, me, bo) → FrI 0 276 M M' → Q (some (zI (a_tooDark (tx, fa, ln, g, un, i0, i1, sd, me, bo) m))) M') : C mX9_tooDark [.ref 0, zI m] M Q := by
  dsimp only [a_tooDark] at h
  obtain ⟨la, sa, hRt, hRd, hHi, hIr, hI0, hI1, hPa, hTr, hTu, hMe, hBo, hLi, hLs, b1, b2, b3, b4, b5, b6, b7⟩ := id hX
  obtain ⟨kR, hla⟩ := id hRt
  have loop : ∀ (f k : Nat) (M1 : AM) (g1 : GS), k + f = 201 → 1 ≤ m ∧ m ≤ 99 → PairB false M1 223 (nS ln) (nW ln) g1 → g1.2.2.1 + f ≤ 95000 → FrI 223 7 M M1 → (∀ M', PairR M' 223 → FrI 223 7 M M' → Q (some (zI (tdk ln m f k g1))) M') → P none mX9_tooDark 27 [.ref 0, zI m, zI (k : Int)] []  M1 Q := by
    intro f
    induction f with
    | zero =>
      intro k M1 g1 hk hm hP1 hy1 fr h
      refine p_iload_n (i := 15) rfl rfl ?_
      refine p_sipush (i := 16) rfl (by decide) ?_
      refine p_icmp_gt (i := 17) 64 rfl (by decide) (by omega) (by omega) (fun c31 => ?_) (fun c31 => by exfalso; omega)
      refine p_iconst (i := 32) rfl ?_
      refine p_iret (i := 33) rfl rfl (rfl) ?_
      exact h M1 hP1.r fr
    | succ f ih =>
      intro k M1 g1 hk hm hP1 hy1 fr h
      have hRt1 := hRt.fi fr (by omega)
      have hLi1 := hLi.fi fr (by omega)
      obtain ⟨kR, hla⟩ := id hRt1
      obtain ⟨⟨q1, q2, q3, q4, q5, q6, q7, q8, q9, q10, q11⟩, sc, wh, st, hs, lr, lf, lz, ⟨hp, hS, hW, hT, hH, hG, hR⟩, rL, rH, rG⟩ := id hP1
      have hsm := smAll_rng hP1.1.ls
      refine p_iload_n (i := 15) rfl rfl ?_
      refine p_sipush (i := 16) rfl (by decide) ?_
      refine p_icmp_gt (i := 17) 64 rfl (by decide) (by omega) (by omega) (fun c31 => by exfalso; omega) (fun c31 => ?_)
      refine p_aload_n (i := 18) rfl rfl ?_
      refine p_getf (i := 19) rfl fX9_36 kR rfl ?_
      refine p_cV0 (i := 20) rfl ⟨lX9_125, rfl, rfl⟩ hp ⟨_, rfl, rfl⟩ rfl (x_darkness hP1 ?_)
      unfold tdk at h
      refine p_iload_n (i := 21) rfl rfl ?_
      refine p_icmp_lt (i := 22) 47 rfl (by decide) (by omega) (by omega) (fun c42 => ?_) (fun c42 => ?_)
      · rw [if_neg (by omega)] at h
        refine p_aload_n (i := 25) rfl rfl ?_
        refine p_getf (i := 26) rfl fX9_36 kR rfl ?_
        refine p_aload_n (i := 27) rfl rfl ?_
        refine p_getf (i := 28) rfl fX9_63 kR rfl ?_
        refine p_cV1 (i := 29) rfl ⟨lX9_216, rfl, rfl⟩ hp ⟨_, rfl, rfl⟩ rfl (x_passYear hP1 hLi1 rfl rfl (by omega) (by omega) (fun M2 hP2 fr2 => ?_))
        refine p_iinc (i := 30) rfl rfl rfl ?_
        refine p_goto (i := 31) 27 rfl (by decide) ?_
        have ey := passY_y ln g1
        exact ih (k + 1) M2 (passY ln g1) (by omega) hm hP2 (by omega) (fr.tr fr2) h
      · rw [if_pos (by omega)] at h
        refine p_iload_n (i := 23) rfl rfl ?_
        refine p_iret (i := 24) rfl rfl (rfl) ?_
        exact h M1 hP1.r fr
  obtain ⟨sc0, wh0, st0, hs0, lr0, lf0, lz0, n0, w0, y0, ⟨kp, kS, kW, kT, kH, kG, kR'⟩, r1, r2, r3, r4⟩ := id hTr
  refine C_of okX9_tooDark (by decide) (Nat.le_of_ble_eq_true rfl) ?_
  show P none mX9_tooDark 0 [.ref 0, zI m, .retAddr 0] [] _ _
  refine p_iload_n (i := 0) rfl rfl ?_
  refine p_iconst (i := 1) rfl ?_
  refine p_icmp_lt (i := 2) 11 rfl (by decide) (by omega) (by omega) (fun c2 => ?_) (fun c2 => ?_)
  · rw [if_pos (by omega)] at h
    refine p_ldc (i := 6) rfl kX9_78 ?_
    refine p_iret (i := 7) rfl rfl (rfl) ?_
    exact h M hX FrI.rf
  · refine p_iload_n (i := 3) rfl rfl ?_
    refine p_bipush (i := 4) rfl (by decide) ?_
    refine p_icmp_le (i := 5) 14 rfl (by decide) (by omega) (by omega) (fun c8 => ?_) (fun c8 => ?_)
    · rw [if_neg (by omega)] at h
      refine p_aload_n (i := 8) rfl rfl ?_
      refine p_getf (i := 9) rfl fX9_36 kR rfl ?_
      refine p_aload_n (i := 10) rfl rfl ?_
      refine p_getf (i := 11) rfl fX9_32 kR rfl ?_
      refine p_cV1 (i := 12) rfl ⟨lX9_238, rfl, rfl⟩ kp ⟨_, rfl, rfl⟩ rfl (x_copyGlass hTr hPa (by omega) (fun M1 hP1 fr1 => ?_))
      refine p_iconst (i := 13) rfl ?_
      refine p_istore_n (i := 14) rfl rfl ?_
      exact loop 201 0 M1 g (by omega) (by omega) hP1 (by omega) (fr1.weak (by omega)) (fun M' hTr' fr' => h M' ⟨la, sa, (hRt.fi fr' (by omega)), (hRd.fi fr' (by omega)), (hHi.fi fr' (by omega)), (hIr.fi fr' (by omega)), (hI0.fi fr' (by omega)), (hI1.fi fr' (by omega)), (hPa.fi fr' (by omega)), hTr', (hTu.fi fr' (by omega)), (hMe.fi fr' (by omega)), (hBo.fi fr' (by omega)), (hLi.fi fr' (by omega)), (hLs.fi fr' (by omega)), b1, b2, b3, b4, b5, b6, b7⟩ (fr'.weak (by omega)))
    · rw [if_pos (by omega)] at h
      refine p_ldc (i := 6) rfl kX9_78 ?_
      refine p_iret (i := 7) rfl rfl (rfl) ?_
      exact h M hX FrI.rf
