-- the reference: tried, met, book, images
theorem y_layAside {M : AM} {ns nw : Nat} {g : GS} {Q : Option Value → AM → Prop} (hH : YH M) (hA : YA M 279 ns nw g) (hN : YNy M) (h : ∀ M', YA M' 280 ns nw g → FrI 280 1 M M' → Q none M') : C mX10_layAside [.ref 276] M Q := by
  obtain ⟨uy, sy, zy, fy, my, by_, ay, gy, ny, hy_, vy, ry, kY⟩ := id hH
  obtain ⟨⟨q1, q2, q3, q4, q5, q6, q7, q8, q9, q10, q11⟩, f, kT, ⟨t0, t1⟩, ⟨u1, u2, u3, u4, u5⟩⟩ := id hA
  obtain ⟨n1, ⟨af, kA⟩, n3⟩ := id hN
  refine C_of okX10_layAside (by decide) (Nat.le_of_ble_eq_true rfl) ?_
  show P none mX10_layAside 0 [.ref 276] [] _ _
  refine p_aload_n (i := 0) rfl rfl ?_
  refine p_getf (i := 1) rfl fX10_16 kY rfl ?_
  refine p_iconst (i := 2) rfl ?_
  refine p_aload_n (i := 3) rfl rfl ?_
  refine p_getf (i := 4) rfl fX10_19 kY rfl ?_
  refine p_iconst (i := 5) rfl ?_
  refine p_bipush (i := 6) rfl (by decide) ?_
  refine p_cS5 (i := 7) rfl ⟨lX10_118, rfl, rfl⟩ rfl (y_copies (i := 0) (j := 0) (m := 120) kT kA (by decide) (by omega) (by omega) (by decide) (fun M2 f2 kA hf2 fr2 => ?_))
  refine p_ret (i := 8) rfl rfl ?_
  refine h M2 ⟨hA.1, f2, kA, YG.cg (f := f) ⟨⟨t0, t1⟩, ⟨u1, u2, u3, u4, u5⟩⟩ hA.1 (fun q hq => ?_)⟩ fr2
  rw [hf2, if_pos (by omega), Nat.zero_add, Nat.sub_zero]
theorem Y_dark {M : AM} {tx : List Int} {fa : Int} {ln : LN} {g : GS} {un : List GS} {i0 i1 : Option (GS × Int)} {sd : Int} {me bo : List (Int × Int)} {Q : Option Value → AM → Prop} {n : Int} (hY : YW M (tx, fa, ln, g, un, i0, i1, sd, me, bo)) (hn : -2147483648 ≤ n ∧ n ≤ 2147483647) (h : ∀ M', YW M' (tx, fa, ln, g, un, i0, i1, sd, me, bo) → FrI 276 12 M M' → Q (some (zI (a_dark (tx, fa, ln, g, un, i0, i1, sd, me, bo) n))) M') : C mX10_dark [.ref 276, zI n] M Q := by
  dsimp only [a_dark] at h
  obtain ⟨hRt, hLn, hA, hPa, hIm, hTx, hMe, hBo, hN, b1, b2, b3, b4, b5, b6, b7⟩ := id hY
  obtain ⟨ay, gy, ny, hy_, vy, ry, kY⟩ := id hRt
  have hL : YL M ln := hLn.l hRt.h
  obtain ⟨⟨o1, o2, o3, o4, o5, o6, o7⟩, lf, kL, l0, l1, l2, l3, l4⟩ := id hLn
  obtain ⟨⟨q1, q2, q3, q4, q5, q6, q7, q8, q9, q10, q11⟩, f, kT, ⟨t0, t1⟩, ⟨u1, u2, u3, u4, u5⟩⟩ := id hA
  have loop : ∀ (c k : Nat) (M1 : AM) (s : GS), (k : Int) + c = n → n ≤ 60 → YA M1 280 (nS ln) (nW ln) s → FrI 280 1 M M1 → s.2.2.1 + c ≤ 90100 → (∀ M', FrI 280 1 M M' → YNy M' → Q (some (zI (smAll (tryN ln c s).1 / 10))) M') → P none mX10_dark 21 [.ref 276, zI n, zI (k : Int)] []  M1 Q := by
    intro c
    induction c with
    | zero =>
      intro k M1 s hk hn60 hS fr hy hq
      have kY := fr.at kY (by omega)
      have hL1 := (hLn.fi fr (by omega)).l (hRt.fi fr (by omega)).h
      refine p_iload_n (i := 12) rfl rfl ?_
      refine p_iload_n (i := 13) rfl rfl ?_
      refine p_icmp_ge (i := 14) 40 rfl (by decide) (by omega) (by omega) (fun c23 => ?_) (fun c23 => by exfalso; omega)
      refine p_aload_n (i := 21) rfl rfl ?_
      refine p_aload_n (i := 22) rfl rfl ?_
      refine p_getf (i := 23) rfl fX10_19 kY rfl ?_
      refine p_cV1 (i := 24) rfl ⟨lX10_175, rfl, rfl⟩ kY ⟨_, rfl, rfl⟩ rfl (y_darkOn hL1 hS ?_)
      refine p_iret (i := 25) rfl rfl (rfl) ?_
      exact hq M1 fr (hN.as fr rfl (by obtain ⟨-, f, hf, -⟩ := hS; exact ⟨f, hf⟩))
    | succ c ih =>
      intro k M1 s hk hn60 hS fr hy hq
      have kY := fr.at kY (by omega)
      have hL1 := (hLn.fi fr (by omega)).l (hRt.fi fr (by omega)).h
      refine p_iload_n (i := 12) rfl rfl ?_
      refine p_iload_n (i := 13) rfl rfl ?_
      refine p_icmp_ge (i := 14) 40 rfl (by decide) (by omega) (by omega) (fun c23 => by exfalso; omega) (fun c23 => ?_)
      refine p_aload_n (i := 15) rfl rfl ?_
      refine p_aload_n (i := 16) rfl rfl ?_
      refine p_getf (i := 17) rfl fX10_19 kY rfl ?_
      refine p_cV1 (i := 18) rfl ⟨lX10_224, rfl, rfl⟩ kY ⟨_, rfl, rfl⟩ rfl (y_yearGoes hL1 hS (by decide) (by omega) (fun M2 hS2 fr2 => ?_))
      refine p_iinc (i := 19) rfl rfl rfl ?_
      refine p_goto (i := 20) 21 rfl (by decide) ?_
      have ey := passY_y ln s
      exact ih (k + 1) M2 (passY ln s) (by omega) hn60 hS2 (fr.tr fr2) (by omega) hq
  refine C_of okX10_dark (by decide) (Nat.le_of_ble_eq_true rfl) ?_
  show P none mX10_dark 0 [.ref 276, zI n, .retAddr 0] [] _ _
  refine p_iload_n (i := 0) rfl rfl ?_
  refine p_i2l (i := 1) rfl (by omega) ?_
  refine p_lconst0 (i := 2) rfl ?_
  refine p_ldc2 (i := 3) rfl kX10_248 ?_
  refine p_cS3 (i := 4) rfl ⟨lX10_59, rfl, rfl⟩ rfl (y_in (by omega) (by omega) (by omega) (fun z => ?_) (fun z => ?_))
  · rw [if_neg (not_not_intro z)] at h
    refine p_if_ne (i := 5) 15 rfl (by decide) (by omega) (fun c9 => ?_) (fun c9 => by exfalso; omega)
    refine p_aload_n (i := 8) rfl rfl ?_
    refine p_cV0 (i := 9) rfl ⟨lX10_250, rfl, rfl⟩ kY ⟨_, rfl, rfl⟩ rfl (y_layAside hL.1 hA hN (fun M1 hA1 fr1 => ?_))
    refine p_iconst (i := 10) rfl ?_
    refine p_istore_n (i := 11) rfl rfl ?_
    exact loop n.toNat 0 M1 g (by omega) (by omega) hA1 fr1 (by omega) (fun M' fr hN' => h M' ⟨(hRt.fi fr (by omega)), (hLn.fi fr (by omega)), (hA.fi fr (by omega)), (hPa.fi fr (by omega)), (hIm.fi fr (by omega)), (hTx.fi fr (by omega)), (hMe.fi fr (by omega)), (hBo.fi fr (by omega)), hN', b1, b2, b3, b4, b5, b6, b7⟩ (fr.weak (by omega)))
  · rw [if_pos z] at h
    refine p_if_ne (i := 5) 15 rfl (by decide) (by omega) (fun c9 => by exfalso; omega) (fun c9 => ?_)
    refine p_ldc (i := 6) rfl kX10_63 ?_
    refine p_iret (i := 7) rfl rfl (rfl) ?_
    exact h M hY FrI.rf
theorem Y_willShow {M : AM} {tx : List Int} {fa : Int} {ln : LN} {g : GS} {un : List GS} {i0 i1 : Option (GS × Int)} {sd : Int} {me bo : List (Int × Int)} {Q : Option Value → AM → Prop} {x n : Int} (hY : YW M (tx, fa, ln, g, un, i0, i1, sd, me, bo)) (hx : -2147483648 ≤ x ∧ x ≤ 2147483647) (hn : -2147483648 ≤ n ∧ n ≤ 2147483647) (h : ∀ M', YW M' (tx, fa, ln, g, un, i0, i1, sd, me, bo) → FrI 276 12 M M' → Q (some (zI (a_willShow (tx, fa, ln, g, un, i0, i1, sd, me, bo) x n))) M') : C mX10_willShow [.ref 276, zI x, zI n] M Q := by
  dsimp only [a_willShow] at h
  obtain ⟨hRt, hLn, hA, hPa, hIm, hTx, hMe, hBo, hN, b1, b2, b3, b4, b5, b6, b7⟩ := id hY
  obtain ⟨ay, gy, ny, hy_, vy, ry, kY⟩ := id hRt
  have hL : YL M ln := hLn.l hRt.h
  obtain ⟨⟨o1, o2, o3, o4, o5, o6, o7⟩, lf, kL, l0, l1, l2, l3, l4⟩ := id hLn
  obtain ⟨⟨q1, q2, q3, q4, q5, q6, q7, q8, q9, q10, q11⟩, f, kT, ⟨t0, t1⟩, ⟨u1, u2, u3, u4, u5⟩⟩ := id hA
  have loop : ∀ (c k : Nat) (M1 : AM) (s : GS), 0 ≤ x ∧ x < nS ln → (k : Int) + c = n → n ≤ 60 → YA M1 280 (nS ln) (nW ln) s → FrI 280 1 M M1 → s.2.2.1 + c ≤ 90100 → (∀ M', FrI 280 1 M M' → YNy M' → Q (some (zI (smOf (tryN ln c s).1 x))) M') → P none mX10_willShow 32 [.ref 276, zI x, zI n, zI (k : Int)] []  M1 Q := by
    intro c
    induction c with
    | zero =>
      intro k M1 s hx0 hk hn60 hS fr hy hq
      have kY := fr.at kY (by omega)
      refine p_iload_n (i := 18) rfl rfl ?_
      refine p_iload_n (i := 19) rfl rfl ?_
      refine p_icmp_ge (i := 20) 51 rfl (by decide) (by omega) (by omega) (fun c34 => ?_) (fun c34 => by exfalso; omega)
      refine p_aload_n (i := 27) rfl rfl ?_
      refine p_aload_n (i := 28) rfl rfl ?_
      refine p_getf (i := 29) rfl fX10_19 kY rfl ?_
      refine p_iload_n (i := 30) rfl rfl ?_
      refine p_cV2 (i := 31) rfl ⟨lX10_137, rfl, rfl⟩ kY ⟨_, rfl, rfl⟩ rfl (y_strengthOn hS (by omega) ?_)
      refine p_iret (i := 32) rfl rfl (rfl) ?_
      rw [st_of _ hx0.1]
      exact hq M1 fr (hN.as fr rfl (by obtain ⟨-, f, hf, -⟩ := hS; exact ⟨f, hf⟩))
    | succ c ih =>
      intro k M1 s hx0 hk hn60 hS fr hy hq
      have kY := fr.at kY (by omega)
      have hL1 := (hLn.fi fr (by omega)).l (hRt.fi fr (by omega)).h
      refine p_iload_n (i := 18) rfl rfl ?_
      refine p_iload_n (i := 19) rfl rfl ?_
      refine p_icmp_ge (i := 20) 51 rfl (by decide) (by omega) (by omega) (fun c34 => by exfalso; omega) (fun c34 => ?_)
      refine p_aload_n (i := 21) rfl rfl ?_
      refine p_aload_n (i := 22) rfl rfl ?_
      refine p_getf (i := 23) rfl fX10_19 kY rfl ?_
      refine p_cV1 (i := 24) rfl ⟨lX10_224, rfl, rfl⟩ kY ⟨_, rfl, rfl⟩ rfl (y_yearGoes hL1 hS (by decide) (by omega) (fun M2 hS2 fr2 => ?_))
      refine p_iinc (i := 25) rfl rfl rfl ?_
      refine p_goto (i := 26) 32 rfl (by decide) ?_
      have ey := passY_y ln s
      exact ih (k + 1) M2 (passY ln s) hx0 (by omega) hn60 hS2 (fr.tr fr2) (by omega) hq
  refine C_of okX10_willShow (by decide) (Nat.le_of_ble_eq_true rfl) ?_
  show P none mX10_willShow 0 [.ref 276, zI x, zI n, .retAddr 0] [] _ _
  refine p_aload_n (i := 0) rfl rfl ?_
  refine p_iload_n (i := 1) rfl rfl ?_
  refine p_cV1 (i := 2) rfl ⟨lX10_194, rfl, rfl⟩ kY ⟨_, rfl, rfl⟩ rfl (y_isScene hL hx (fun q => ?_) (fun q => ?_))
  · rw [if_neg (not_not_intro q)] at h
    refine p_if_ne (i := 3) 11 rfl (by decide) (by omega) (fun c5 => ?_) (fun c5 => by exfalso; omega)
    refine p_iload_n (i := 6) rfl rfl ?_
    refine p_i2l (i := 7) rfl (by omega) ?_
    refine p_lconst0 (i := 8) rfl ?_
    refine p_ldc2 (i := 9) rfl kX10_248 ?_
    refine p_cS3 (i := 10) rfl ⟨lX10_59, rfl, rfl⟩ rfl (y_in (by omega) (by omega) (by omega) (fun z => ?_) (fun z => ?_))
    · rw [if_neg (not_not_intro z)] at h
      refine p_if_ne (i := 11) 26 rfl (by decide) (by omega) (fun c20 => ?_) (fun c20 => by exfalso; omega)
      refine p_aload_n (i := 14) rfl rfl ?_
      refine p_cV0 (i := 15) rfl ⟨lX10_250, rfl, rfl⟩ kY ⟨_, rfl, rfl⟩ rfl (y_layAside hL.1 hA hN (fun M1 hA1 fr1 => ?_))
      refine p_iconst (i := 16) rfl ?_
      refine p_istore_n (i := 17) rfl rfl ?_
      exact loop n.toNat 0 M1 g q (by omega) (by omega) hA1 fr1 (by omega) (fun M' fr hN' => h M' ⟨(hRt.fi fr (by omega)), (hLn.fi fr (by omega)), (hA.fi fr (by omega)), (hPa.fi fr (by omega)), (hIm.fi fr (by omega)), (hTx.fi fr (by omega)), (hMe.fi fr (by omega)), (hBo.fi fr (by omega)), hN', b1, b2, b3, b4, b5, b6, b7⟩ (fr.weak (by omega)))
    · rw [if_pos z] at h
      refine p_if_ne (i := 11) 26 rfl (by decide) (by omega) (fun c20 => by exfalso; omega) (fun c20 => ?_)
      refine p_ldc (i := 12) rfl kX10_63 ?_
      refine p_iret (i := 13) rfl rfl (rfl) ?_
      exact h M hY FrI.rf
  · rw [if_pos q] at h
    refine p_if_ne (i := 3) 11 rfl (by decide) (by omega) (fun c5 => by exfalso; omega) (fun c5 => ?_)
    refine p_ldc (i := 4) rfl kX10_197 ?_
    refine p_iret (i := 5) rfl rfl (rfl) ?_
    exact h M hY FrI.rf
theorem Y_tooDark {M : AM} {tx : List Int} {fa : Int} {ln : LN} {g : GS} {un : List GS} {i0 i1 : Option (GS × Int)} {sd : Int} {me bo : List (Int × Int)} {Q : Option Value → AM → Prop} {m : Int} (hY : YW M (tx, fa, ln, g, un, i0, i1, sd, me, bo)) (hm : -2147483648 ≤ m ∧ m ≤ 2147483647) (h : ∀ M', YW M' (tx, fa, ln, g, un, i0, i1, sd, me, bo) → FrI 276 12 M M' → Q (some (zI (a_tooDark (tx, fa, ln, g, un, i0, i1, sd, me, bo) m))) M') : C mX10_tooDark [.ref 276, zI m] M Q := by
  dsimp only [a_tooDark] at h
  obtain ⟨hRt, hLn, hA, hPa, hIm, hTx, hMe, hBo, hN, b1, b2, b3, b4, b5, b6, b7⟩ := id hY
  obtain ⟨ay, gy, ny, hy_, vy, ry, kY⟩ := id hRt
  have hL : YL M ln := hLn.l hRt.h
  obtain ⟨⟨o1, o2, o3, o4, o5, o6, o7⟩, lf, kL, l0, l1, l2, l3, l4⟩ := id hLn
  obtain ⟨⟨q1, q2, q3, q4, q5, q6, q7, q8, q9, q10, q11⟩, f, kT, ⟨t0, t1⟩, ⟨u1, u2, u3, u4, u5⟩⟩ := id hA
  have loop : ∀ (c k : Nat) (M1 : AM) (s : GS), k + c = 201 → YA M1 280 (nS ln) (nW ln) s → FrI 280 1 M M1 → s.2.2.1 + c ≤ 90300 → (∀ M', FrI 280 1 M M' → YNy M' → Q (some (zI (tdk ln m c k s))) M') → P none mX10_tooDark 21 [.ref 276, zI m, zI (k : Int)] []  M1 Q := by
    intro c
    induction c with
    | zero =>
      intro k M1 s hk hS fr hy hq
      have kY := fr.at kY (by omega)
      refine p_iload_n (i := 12) rfl rfl ?_
      refine p_sipush (i := 13) rfl (by decide) ?_
      refine p_icmp_ge (i := 14) 56 rfl (by decide) (by omega) (by omega) (fun c25 => ?_) (fun c25 => by exfalso; omega)
      refine p_iconst (i := 29) rfl ?_
      refine p_iret (i := 30) rfl rfl (rfl) ?_
      exact hq M1 fr (hN.as fr rfl (by obtain ⟨-, f, hf, -⟩ := hS; exact ⟨f, hf⟩))
    | succ c ih =>
      intro k M1 s hk hS fr hy hq
      have kY := fr.at kY (by omega)
      have hL1 := (hLn.fi fr (by omega)).l (hRt.fi fr (by omega)).h
      have hsm := smAll_rng hS.1.ls
      unfold tdk at hq
      refine p_iload_n (i := 12) rfl rfl ?_
      refine p_sipush (i := 13) rfl (by decide) ?_
      refine p_icmp_ge (i := 14) 56 rfl (by decide) (by omega) (by omega) (fun c25 => by exfalso; omega) (fun c25 => ?_)
      refine p_aload_n (i := 15) rfl rfl ?_
      refine p_aload_n (i := 16) rfl rfl ?_
      refine p_getf (i := 17) rfl fX10_19 kY rfl ?_
      refine p_cV1 (i := 18) rfl ⟨lX10_175, rfl, rfl⟩ kY ⟨_, rfl, rfl⟩ rfl (y_darkOn hL1 hS ?_)
      refine p_iload_n (i := 19) rfl rfl ?_
      refine p_icmp_lt (i := 20) 42 rfl (by decide) (by omega) (by omega) (fun c37 => ?_) (fun c37 => ?_)
      · rw [if_neg (by omega)] at hq
        refine p_aload_n (i := 23) rfl rfl ?_
        refine p_aload_n (i := 24) rfl rfl ?_
        refine p_getf (i := 25) rfl fX10_19 kY rfl ?_
        refine p_cV1 (i := 26) rfl ⟨lX10_224, rfl, rfl⟩ kY ⟨_, rfl, rfl⟩ rfl (y_yearGoes hL1 hS (by decide) (by omega) (fun M2 hS2 fr2 => ?_))
        refine p_iinc (i := 27) rfl rfl rfl ?_
        refine p_goto (i := 28) 21 rfl (by decide) ?_
        have ey := passY_y ln s
        exact ih (k + 1) M2 (passY ln s) (by omega) hS2 (fr.tr fr2) (by omega) hq
      · rw [if_pos (by omega)] at hq
        refine p_iload_n (i := 21) rfl rfl ?_
        refine p_iret (i := 22) rfl rfl (rfl) ?_
        exact hq M1 fr (hN.as fr rfl (by obtain ⟨-, f, hf, -⟩ := hS; exact ⟨f, hf⟩))
  refine C_of okX10_tooDark (by decide) (Nat.le_of_ble_eq_true rfl) ?_
  show P none mX10_tooDark 0 [.ref 276, zI m, .retAddr 0] [] _ _
  refine p_iload_n (i := 0) rfl rfl ?_
  refine p_i2l (i := 1) rfl (by omega) ?_
  refine p_lconst1 (i := 2) rfl ?_
  refine p_ldc2 (i := 3) rfl kX10_228 ?_
  refine p_cS3 (i := 4) rfl ⟨lX10_59, rfl, rfl⟩ rfl (y_in (by omega) (by omega) (by omega) (fun z => ?_) (fun z => ?_))
  · rw [if_neg (not_not_intro z)] at h
    refine p_if_ne (i := 5) 15 rfl (by decide) (by omega) (fun c9 => ?_) (fun c9 => by exfalso; omega)
    refine p_aload_n (i := 8) rfl rfl ?_
    refine p_cV0 (i := 9) rfl ⟨lX10_250, rfl, rfl⟩ kY ⟨_, rfl, rfl⟩ rfl (y_layAside hL.1 hA hN (fun M1 hA1 fr1 => ?_))
    refine p_iconst (i := 10) rfl ?_
    refine p_istore_n (i := 11) rfl rfl ?_
    exact loop 201 0 M1 g (by omega) hA1 fr1 (by omega) (fun M' fr hN' => h M' ⟨(hRt.fi fr (by omega)), (hLn.fi fr (by omega)), (hA.fi fr (by omega)), (hPa.fi fr (by omega)), (hIm.fi fr (by omega)), (hTx.fi fr (by omega)), (hMe.fi fr (by omega)), (hBo.fi fr (by omega)), hN', b1, b2, b3, b4, b5, b6, b7⟩ (fr.weak (by omega)))
  · rw [if_pos z] at h
    refine p_if_ne (i := 5) 15 rfl (by decide) (by omega) (fun c9 => by exfalso; omega) (fun c9 => ?_)
    refine p_ldc (i := 6) rfl kX10_63 ?_
    refine p_iret (i := 7) rfl rfl (rfl) ?_
    exact h M hY FrI.rf
theorem Y_meet {M : AM} {tx : List Int} {fa : Int} {ln : LN} {g : GS} {un : List GS} {i0 i1 : Option (GS × Int)} {sd : Int} {me bo : List (Int × Int)} {Q : Option Value → AM → Prop} {x v : Int} (hY : YW M (tx, fa, ln, g, un, i0, i1, sd, me, bo)) (hx : -2147483648 ≤ x ∧ x ≤ 2147483647) (hv : v = 0 ∨ v = 1) (h : ∀ M', YW M' (a_meet (tx, fa, ln, g, un, i0, i1, sd, me, bo) x v).2 → FrI 276 12 M M' → Q (some (zI (a_meet (tx, fa, ln, g, un, i0, i1, sd, me, bo) x v).1)) M') : C mX10_meet [.ref 276, zI x, zI v] M Q := by
  dsimp only [a_meet] at h
  obtain ⟨hRt, hLn, hA, hPa, hIm, hTx, hMe, hBo, hN, b1, b2, b3, b4, b5, b6, b7⟩ := id hY
  obtain ⟨ay, gy, ny, hy_, vy, ry, kY⟩ := id hRt
  have hL : YL M ln := hLn.l hRt.h
  obtain ⟨⟨o1, o2, o3, o4, o5, o6, o7⟩, lf, kL, l0, l1, l2, l3, l4⟩ := id hLn
  obtain ⟨⟨q1, q2, q3, q4, q5, q6, q7, q8, q9, q10, q11⟩, f, kT, ⟨t0, t1⟩, ⟨u1, u2, u3, u4, u5⟩⟩ := id hA
  obtain ⟨v0, mf, kM, v1⟩ := id hMe
  have tail : ∀ (M1 : AM), M1 285 = some (zA 12 (zup (zup mf (2 * me.length) x) (2 * me.length + 1) v)) → 0 ≤ x ∧ x < nS ln → me.length < 6 → FrI 285 1 M M1 → (∀ M', YW M' (tx, fa, ln, g, un, i0, i1, sd, me ++ [(x, v)], bo) → FrI 276 12 M M' → Q (some (zI ((me ++ [(x, v)]).length : Nat))) M') → P none mX10_meet 57 [.ref 276, zI x, zI v] []  M1 Q := by
    intro M1 kM hx0 hm6 fr1 h
    have kY := fr1.at kY (by omega)
    have fr2 : FrI 276 1 M1 M1 := FrI.rf
    refine p_aload_n (i := 34) rfl rfl ?_
    refine p_dup (i := 35) rfl rfl ?_
    refine p_getf (i := 36) rfl fX10_51 kY rfl ?_
    refine p_iconst (i := 37) rfl ?_
    refine p_iadd (i := 38) rfl ?_
    refine p_puti (i := 39) rfl gX10_51 kY rfl (P_gen fun M e => ?_)
    have kM := aupN e kM (by omega)
    have fr2 := fr2.up e (by omega)
    have kY := aupE e
    refine p_aload_n (i := 40) rfl rfl ?_
    refine p_getf (i := 41) rfl fX10_51 kY rfl ?_
    refine p_iret (i := 42) rfl rfl (rfl) ?_
    have eT : ((me.length : Nat) : Int) + 1 = (((me ++ [(x, v)]).length : Nat) : Int) := by simp
    rw [eT] at kY ⊢
    refine h M ⟨⟨ay, gy, ny, hy_, vy, ry, kY⟩, ((hLn.fi fr1 (by omega)).fi fr2 (by omega)), ((hA.fi fr1 (by omega)).fi fr2 (by omega)), ((hPa.fi fr1 (by omega)).fi fr2 (by omega)), ((hIm.fi fr1 (by omega)).fi fr2 (by omega)), ((hTx.fi fr1 (by omega)).fi fr2 (by omega)), ⟨by simp; omega, _, kM, fun i hi => ?_⟩, ((hBo.fi fr1 (by omega)).fi fr2 (by omega)), ((hN.fi fr1 (by omega)).fi fr2 (by omega)), b1, b2, b3, fun i hi => ?_, b5, b6, b7⟩ ((fr1.weak (by omega)).tr (fr2.weak (by omega)))
    · have hi : i < me.length + 1 := by simpa using hi
      rw [gd_app hi]
      by_cases c : i = me.length
      · rw [if_pos c, c, zup_e, zup_n (by omega), zup_e]
        exact ⟨rfl, rfl, hx0.1, by show x ≤ 7; omega, hv⟩
      · rw [if_neg c, zup_n (by omega), zup_n (by omega), zup_n (by omega), zup_n (by omega)]
        exact v1 i (by omega)
    · have hi : i < me.length + 1 := by simpa using hi
      rw [gd_app hi]
      by_cases c : i = me.length
      · rw [if_pos c]; exact hx0.2
      · rw [if_neg c]; exact b4 i (by omega)
  refine C_of okX10_meet (by decide) (Nat.le_of_ble_eq_true rfl) ?_
  show P none mX10_meet 0 [.ref 276, zI x, zI v] [] _ _
  refine p_aload_n (i := 0) rfl rfl ?_
  refine p_iload_n (i := 1) rfl rfl ?_
  refine p_cV1 (i := 2) rfl ⟨lX10_194, rfl, rfl⟩ kY ⟨_, rfl, rfl⟩ rfl (y_isScene hL hx (fun q => ?_) (fun q => ?_))
  · rw [if_neg (not_not_intro q)] at h
    refine p_if_ne (i := 3) 11 rfl (by decide) (by omega) (fun c5 => ?_) (fun c5 => by exfalso; omega)
    refine p_aload_n (i := 6) rfl rfl ?_
    refine p_getf (i := 7) rfl fX10_51 kY rfl ?_
    refine p_bipush (i := 8) rfl (by decide) ?_
    refine p_icmp_ne (i := 9) 23 rfl (by decide) (by omega) (by omega) (fun c17 => ?_) (fun c17 => ?_)
    · rw [if_neg (by omega)] at h
      have fr1 : FrI 285 1 M M := FrI.rf
      refine p_aload_n (i := 12) rfl rfl ?_
      refine p_getf (i := 13) rfl fX10_39 kY rfl ?_
      refine p_iconst (i := 14) rfl ?_
      refine p_aload_n (i := 15) rfl rfl ?_
      refine p_getf (i := 16) rfl fX10_51 kY rfl ?_
      refine p_imul (i := 17) rfl ?_
      refine p_iload_n (i := 18) rfl rfl ?_
      refine p_isX (i := 19) (2 * me.length) rfl kM (by omega) (by omega) (by decide) (P_gen fun M e => ?_)
      have kY := aupN e kY (by omega)
      have fr1 := fr1.up e (by omega)
      have kM := aupE e
      refine p_aload_n (i := 20) rfl rfl ?_
      refine p_getf (i := 21) rfl fX10_39 kY rfl ?_
      refine p_iconst (i := 22) rfl ?_
      refine p_aload_n (i := 23) rfl rfl ?_
      refine p_getf (i := 24) rfl fX10_51 kY rfl ?_
      refine p_imul (i := 25) rfl ?_
      refine p_iconst (i := 26) rfl ?_
      refine p_iadd (i := 27) rfl ?_
      refine p_iload_n (i := 28) rfl rfl ?_
      refine p_if_eq (i := 29) 55 rfl (by decide) (by omega) (fun c48 => ?_) (fun c48 => ?_)
      · obtain rfl : v = 0 := by omega
        refine p_iconst (i := 32) rfl ?_
        refine p_isX (i := 33) (2 * me.length + 1) rfl kM (by omega) (by omega) (by decide) (P_gen fun M e => ?_)
        have kY := aupN e kY (by omega)
        have fr1 := fr1.up e (by omega)
        have kM := aupE e
        exact tail M kM q (by omega) fr1 h
      · obtain rfl : v = 1 := by omega
        refine p_iconst (i := 30) rfl ?_
        refine p_goto (i := 31) 56 rfl (by decide) ?_
        refine p_isX (i := 33) (2 * me.length + 1) rfl kM (by omega) (by omega) (by decide) (P_gen fun M e => ?_)
        have kY := aupN e kY (by omega)
        have fr1 := fr1.up e (by omega)
        have kM := aupE e
        exact tail M kM q (by omega) fr1 h
    · rw [if_pos (by omega)] at h
      refine p_ldc (i := 10) rfl kX10_67 ?_
      refine p_iret (i := 11) rfl rfl (rfl) ?_
      exact h M hY FrI.rf
  · rw [if_pos q] at h
    refine p_if_ne (i := 3) 11 rfl (by decide) (by omega) (fun c5 => by exfalso; omega) (fun c5 => ?_)
    refine p_ldc (i := 4) rfl kX10_197 ?_
    refine p_iret (i := 5) rfl rfl (rfl) ?_
    exact h M hY FrI.rf
theorem y_couldBe {M : AM} {u sd sz fa bm : Int} {ln : LN} {g : GS} {me : List (Int × Int)} {Q : Option Value → AM → Prop} (hRt : YRt M u sd sz fa (me.length : Nat) bm) (hA : YA M 279 (nS ln) (nW ln) g) (hLn : YLi M ln) (hMe : YMe M me) (h : Q (some (zI (cb ln g.1 me : Nat))) M) : C mX10_couldBe [.ref 276] M Q := by
  have hL := hLn.l hRt.h
  obtain ⟨⟨uy, sy, zy, fy, my, by_, ay, gy, ny, hy_, vy, ry, kY⟩, ⟨o1, o2, o3, o4, o5, o6, o7⟩, lf, kL, l0, l1, l2, l3, l4⟩ := id hL
  obtain ⟨ay, gy, ny, hy_, vy, ry, kY⟩ := id hRt
  obtain ⟨v0, mf, kM, v1⟩ := id hMe
  have hok := hA.1.ls
  have inner : ∀ (c k : Nat) (s x : Nat) (fl : Int), x < nS ln → k + c = me.length → (fl = 0 ∨ fl = 1) → P none mX10_couldBe 87 [.ref 276, zI (s : Int), zI (x : Int), zI (if fl = 0 then 0 else ftL me (tk ln g.1 (x : Int) 0 0) c k), zI ((2 * me.length : Nat) : Int)] []  M Q → P none mX10_couldBe 19 [.ref 276, zI (s : Int), zI (x : Int), zI fl, zI ((2 * k : Nat) : Int)] []  M Q := by
    intro c
    induction c with
    | zero =>
      intro k s x fl hx hkc hfl hq
      obtain rfl : k = me.length := by omega
      refine p_iload (i := 14) rfl rfl ?_
      refine p_iconst (i := 15) rfl ?_
      refine p_aload_n (i := 16) rfl rfl ?_
      refine p_getf (i := 17) rfl fX10_51 kY rfl ?_
      refine p_imul (i := 18) rfl ?_
      refine p_icmp_ge (i := 19) 87 rfl (by decide) (by omega) (by omega) (fun c27 => ?_) (fun c27 => by exfalso; omega)
      have e : (if fl = 0 then 0 else ftL me (tk ln g.1 (x : Int) 0 0) 0 me.length) = fl := by
        rcases hfl with e | e
        · rw [if_pos e, e]
        · rw [if_neg (by omega), e]; rfl
      rw [e] at hq
      exact hq
    | succ c ih =>
      intro k s x fl hx hkc hfl hq
      obtain ⟨m1, m2, m3, m4, m5⟩ := v1 k (by omega)
      have ht := tk_rng (ln := ln) (x := (x : Int)) (m := 0) (wi := 0) hok (Nat.le_refl _) (by omega)
      have ek : ((2 * k : Nat) : Int) + 2 = ((2 * (k + 1) : Nat) : Int) := by omega
      refine p_iload (i := 14) rfl rfl ?_
      refine p_iconst (i := 15) rfl ?_
      refine p_aload_n (i := 16) rfl rfl ?_
      refine p_getf (i := 17) rfl fX10_51 kY rfl ?_
      refine p_imul (i := 18) rfl ?_
      refine p_icmp_ge (i := 19) 87 rfl (by decide) (by omega) (by omega) (fun c27 => by exfalso; omega) (fun c27 => ?_)
      refine p_iload_n (i := 20) rfl rfl ?_
      refine p_if_eq (i := 21) 79 rfl (by decide) (by omega) (fun c31 => ?_) (fun c31 => ?_)
      · rw [if_pos c31] at hq
        refine p_iconst (i := 47) rfl ?_
        refine p_istore_n (i := 48) rfl rfl ?_
        refine p_iinc (i := 49) rfl rfl rfl ?_
        refine p_goto (i := 50) 19 rfl (by decide) ?_
        rw [ek]
        exact ih (k + 1) s x 0 hx (by omega) (Or.inl rfl) hq
      · rw [if_neg c31] at hq
        unfold ftL at hq
        refine p_aload_n (i := 22) rfl rfl ?_
        refine p_iload_n (i := 23) rfl rfl ?_
        refine p_cV1 (i := 24) rfl ⟨lX10_191, rfl, rfl⟩ kY ⟨_, rfl, rfl⟩ rfl (y_takesNow hL hA (by omega) ?_)
        refine p_aload_n (i := 25) rfl rfl ?_
        refine p_getf (i := 26) rfl fX10_39 kY rfl ?_
        refine p_iload (i := 27) rfl rfl ?_
        refine p_iaX (i := 28) (2 * k) rfl kM (by omega) (by omega) (by decide) ?_
        refine p_icmp_ne (i := 29) 53 rfl (by decide) (by omega) (by omega) (fun c46 => ?_) (fun c46 => ?_)
        · refine p_iconst (i := 32) rfl ?_
          refine p_aload_n (i := 33) rfl rfl ?_
          refine p_getf (i := 34) rfl fX10_39 kY rfl ?_
          refine p_iload (i := 35) rfl rfl ?_
          refine p_iconst (i := 36) rfl ?_
          refine p_iadd (i := 37) rfl ?_
          refine p_iaX (i := 38) (2 * k + 1) rfl kM (by omega) (by omega) (by decide) ?_
          refine p_iconst (i := 39) rfl ?_
          refine p_icmp_ne (i := 40) 71 rfl (by decide) (by omega) (by omega) (fun c64 => ?_) (fun c64 => ?_)
          · rw [if_pos (by omega)] at hq
            refine p_iconst (i := 43) rfl ?_
            refine p_icmp_ne (i := 44) 79 rfl (by decide) (by omega) (by omega) (fun c72 => by exfalso; omega) (fun c72 => ?_)
            refine p_iconst (i := 45) rfl ?_
            refine p_goto (i := 46) 80 rfl (by decide) ?_
            refine p_istore_n (i := 48) rfl rfl ?_
            refine p_iinc (i := 49) rfl rfl rfl ?_
            refine p_goto (i := 50) 19 rfl (by decide) ?_
            rw [ek]
            exact ih (k + 1) s x 1 hx (by omega) (Or.inr rfl) hq
          · rw [if_neg (by omega)] at hq
            refine p_iconst (i := 41) rfl ?_
            refine p_goto (i := 42) 72 rfl (by decide) ?_
            refine p_icmp_ne (i := 44) 79 rfl (by decide) (by omega) (by omega) (fun c72 => ?_) (fun c72 => by exfalso; omega)
            refine p_iconst (i := 47) rfl ?_
            refine p_istore_n (i := 48) rfl rfl ?_
            refine p_iinc (i := 49) rfl rfl rfl ?_
            refine p_goto (i := 50) 19 rfl (by decide) ?_
            rw [ek]
            exact ih (k + 1) s x 0 hx (by omega) (Or.inl rfl) hq
        · refine p_iconst (i := 30) rfl ?_
          refine p_goto (i := 31) 54 rfl (by decide) ?_
          refine p_aload_n (i := 33) rfl rfl ?_
          refine p_getf (i := 34) rfl fX10_39 kY rfl ?_
          refine p_iload (i := 35) rfl rfl ?_
          refine p_iconst (i := 36) rfl ?_
          refine p_iadd (i := 37) rfl ?_
          refine p_iaX (i := 38) (2 * k + 1) rfl kM (by omega) (by omega) (by decide) ?_
          refine p_iconst (i := 39) rfl ?_
          refine p_icmp_ne (i := 40) 71 rfl (by decide) (by omega) (by omega) (fun c64 => ?_) (fun c64 => ?_)
          · rw [if_neg (by omega)] at hq
            refine p_iconst (i := 43) rfl ?_
            refine p_icmp_ne (i := 44) 79 rfl (by decide) (by omega) (by omega) (fun c72 => ?_) (fun c72 => by exfalso; omega)
            refine p_iconst (i := 47) rfl ?_
            refine p_istore_n (i := 48) rfl rfl ?_
            refine p_iinc (i := 49) rfl rfl rfl ?_
            refine p_goto (i := 50) 19 rfl (by decide) ?_
            rw [ek]
            exact ih (k + 1) s x 0 hx (by omega) (Or.inl rfl) hq
          · rw [if_pos (by omega)] at hq
            refine p_iconst (i := 41) rfl ?_
            refine p_goto (i := 42) 72 rfl (by decide) ?_
            refine p_icmp_ne (i := 44) 79 rfl (by decide) (by omega) (by omega) (fun c72 => by exfalso; omega) (fun c72 => ?_)
            refine p_iconst (i := 45) rfl ?_
            refine p_goto (i := 46) 80 rfl (by decide) ?_
            refine p_istore_n (i := 48) rfl rfl ?_
            refine p_iinc (i := 49) rfl rfl rfl ?_
            refine p_goto (i := 50) 19 rfl (by decide) ?_
            rw [ek]
            exact ih (k + 1) s x 1 hx (by omega) (Or.inr rfl) hq
  have loop : ∀ (c k s : Nat) (x1 x2 : Value), k + c = nS ln → Q (some (zI ((fo (fun x s => if ftL me (tk ln g.1 (x : Int) 0 0) me.length 0 = 1 then s ||| 2 ^ x else s) c k s : Nat) : Int))) M → P none mX10_couldBe 4 [.ref 276, zI (s : Int), zI (k : Int), x1, x2] []  M Q := by
    intro c
    induction c with
    | zero =>
      intro k s x1 x2 hk hq
      refine p_iload_n (i := 4) rfl rfl ?_
      refine p_aload_n (i := 5) rfl rfl ?_
      refine p_getf (i := 6) rfl fX10_7 kY rfl ?_
      refine p_iconst (i := 7) rfl ?_
      refine p_iaX (i := 8) (1) rfl kL (by omega) (by omega) (by decide) ?_
      refine p_icmp_ge (i := 9) 107 rfl (by decide) (by omega) (by omega) (fun c11 => ?_) (fun c11 => by exfalso; omega)
      refine p_iload_n (i := 63) rfl rfl ?_
      refine p_iret (i := 64) rfl rfl (rfl) ?_
      exact hq
    | succ c ih =>
      intro k s x1 x2 hk hq
      have h01 := ftL_01 me (tk ln g.1 (k : Int) 0 0) me.length 0
      have hq : Q (some (zI ((fo (fun x s => if ftL me (tk ln g.1 (x : Int) 0 0) me.length 0 = 1 then s ||| 2 ^ x else s) c (k + 1) (if ftL me (tk ln g.1 (k : Int) 0 0) me.length 0 = 1 then s ||| 2 ^ k else s) : Nat) : Int))) M := hq
      refine p_iload_n (i := 4) rfl rfl ?_
      refine p_aload_n (i := 5) rfl rfl ?_
      refine p_getf (i := 6) rfl fX10_7 kY rfl ?_
      refine p_iconst (i := 7) rfl ?_
      refine p_iaX (i := 8) (1) rfl kL (by omega) (by omega) (by decide) ?_
      refine p_icmp_ge (i := 9) 107 rfl (by decide) (by omega) (by omega) (fun c11 => by exfalso; omega) (fun c11 => ?_)
      refine p_iconst (i := 10) rfl ?_
      refine p_istore_n (i := 11) rfl rfl ?_
      refine p_iconst (i := 12) rfl ?_
      refine p_istore (i := 13) rfl rfl ?_
      refine inner me.length 0 s k 1 (by omega) (by omega) (Or.inr rfl) ?_
      rw [if_neg (by decide)]
      refine p_iload_n (i := 51) rfl rfl ?_
      refine p_iload_n (i := 52) rfl rfl ?_
      refine p_if_eq (i := 53) 98 rfl (by decide) (by omega) (fun c89 => ?_) (fun c89 => ?_)
      · rw [if_neg (by omega)] at hq
        refine p_iconst (i := 58) rfl ?_
        refine p_iorN (i := 59) rfl ?_
        refine p_istore_n (i := 60) rfl rfl ?_
        refine p_iinc (i := 61) rfl rfl rfl ?_
        refine p_goto (i := 62) 4 rfl (by decide) ?_
        rw [Nat.or_zero]
        exact ih (k + 1) s _ _ (by omega) hq
      · rw [if_pos (by omega)] at hq
        refine p_iconst (i := 54) rfl ?_
        refine p_iload_n (i := 55) rfl rfl ?_
        refine p_ishl1 (i := 56) rfl (by omega) ?_
        refine p_goto (i := 57) 99 rfl (by decide) ?_
        refine p_iorN (i := 59) rfl ?_
        refine p_istore_n (i := 60) rfl rfl ?_
        refine p_iinc (i := 61) rfl rfl rfl ?_
        refine p_goto (i := 62) 4 rfl (by decide) ?_
        exact ih (k + 1) _ _ _ (by omega) hq
  refine C_of okX10_couldBe (by decide) (Nat.le_of_ble_eq_true rfl) ?_
  show P none mX10_couldBe 0 [.ref 276, .retAddr 0, .retAddr 0, .retAddr 0, .retAddr 0] [] _ _
  refine p_iconst (i := 0) rfl ?_
  refine p_istore_n (i := 1) rfl rfl ?_
  refine p_iconst (i := 2) rfl ?_
  refine p_istore_n (i := 3) rfl rfl ?_
  exact loop (nS ln) 0 0 _ _ (by omega) h
theorem Y_couldBe {M : AM} {tx : List Int} {fa : Int} {ln : LN} {g : GS} {un : List GS} {i0 i1 : Option (GS × Int)} {sd : Int} {me bo : List (Int × Int)} {Q : Option Value → AM → Prop} (hY : YW M (tx, fa, ln, g, un, i0, i1, sd, me, bo)) (h : ∀ M', YW M' (tx, fa, ln, g, un, i0, i1, sd, me, bo) → FrI 276 12 M M' → Q (some (zI (a_couldBe (tx, fa, ln, g, un, i0, i1, sd, me, bo)))) M') : C mX10_couldBe [.ref 276] M Q := by
  obtain ⟨hRt, hLn, hA, hPa, hIm, hTx, hMe, hBo, hN, b1, b2, b3, b4, b5, b6, b7⟩ := id hY
  obtain ⟨ay, gy, ny, hy_, vy, ry, kY⟩ := id hRt
  have hL : YL M ln := hLn.l hRt.h
  obtain ⟨⟨o1, o2, o3, o4, o5, o6, o7⟩, lf, kL, l0, l1, l2, l3, l4⟩ := id hLn
  obtain ⟨⟨q1, q2, q3, q4, q5, q6, q7, q8, q9, q10, q11⟩, f, kT, ⟨t0, t1⟩, ⟨u1, u2, u3, u4, u5⟩⟩ := id hA
  exact y_couldBe hRt hA hLn hMe (h M hY FrI.rf)
theorem Y_ask {M : AM} {tx : List Int} {fa : Int} {ln : LN} {g : GS} {un : List GS} {i0 i1 : Option (GS × Int)} {sd : Int} {me bo : List (Int × Int)} {Q : Option Value → AM → Prop} (hY : YW M (tx, fa, ln, g, un, i0, i1, sd, me, bo)) (h : ∀ M', YW M' (tx, fa, ln, g, un, i0, i1, sd, me, bo) → FrI 276 12 M M' → Q (some (zI (a_ask (tx, fa, ln, g, un, i0, i1, sd, me, bo)))) M') : C mX10_ask [.ref 276] M Q := by
  have h := h M hY FrI.rf
  dsimp only [a_ask] at h
  obtain ⟨hRt, hLn, hA, hPa, hIm, hTx, hMe, hBo, hN, b1, b2, b3, b4, b5, b6, b7⟩ := id hY
  obtain ⟨ay, gy, ny, hy_, vy, ry, kY⟩ := id hRt
  have hL : YL M ln := hLn.l hRt.h
  obtain ⟨⟨o1, o2, o3, o4, o5, o6, o7⟩, lf, kL, l0, l1, l2, l3, l4⟩ := id hLn
  obtain ⟨⟨q1, q2, q3, q4, q5, q6, q7, q8, q9, q10, q11⟩, f, kT, ⟨t0, t1⟩, ⟨u1, u2, u3, u4, u5⟩⟩ := id hA
  have hcb := cb_lt (Ls := g.1) (me := me) o3
  obtain ⟨set, hset⟩ : ∃ s, s = cb ln g.1 me := ⟨_, rfl⟩
  rw [← hset] at h hcb
  have hpa := popc_le set
  have loop : ∀ (c k : Nat) (s : Int × Int) (x1 x2 : Value), k + c = nS ln → 0 ≤ s.2 ∧ s.2 ≤ 10 → Q (some (zI (fo (askStep ln g.1 set) c k s).1)) M → P none mX10_ask 15 [.ref 276, zI (set : Int), zI s.2, zI s.1, zI (k : Int), x1, x2] []  M Q := by
    intro c
    induction c with
    | zero =>
      intro k s x1 x2 hk hs hq
      refine p_iload (i := 10) rfl rfl ?_
      refine p_aload_n (i := 11) rfl rfl ?_
      refine p_getf (i := 12) rfl fX10_7 kY rfl ?_
      refine p_iconst (i := 13) rfl ?_
      refine p_iaX (i := 14) (1) rfl kL (by omega) (by omega) (by decide) ?_
      refine p_icmp_ge (i := 15) 79 rfl (by decide) (by omega) (by omega) (fun c23 => ?_) (fun c23 => by exfalso; omega)
      refine p_iload_n (i := 43) rfl rfl ?_
      refine p_iret (i := 44) rfl rfl (rfl) ?_
      exact hq
    | succ c ih =>
      intro k s x1 x2 hk hs hq
      have hq : Q (some (zI (fo (askStep ln g.1 set) c (k + 1) (askStep ln g.1 set k s)).1)) M := hq
      unfold askStep at hq
      have hpb := popc_le (set &&& stf ln g.1 (k : Int))
      refine p_iload (i := 10) rfl rfl ?_
      refine p_aload_n (i := 11) rfl rfl ?_
      refine p_getf (i := 12) rfl fX10_7 kY rfl ?_
      refine p_iconst (i := 13) rfl ?_
      refine p_iaX (i := 14) (1) rfl kL (by omega) (by omega) (by decide) ?_
      refine p_icmp_ge (i := 15) 79 rfl (by decide) (by omega) (by omega) (fun c23 => by exfalso; omega) (fun c23 => ?_)
      refine p_iload_n (i := 16) rfl rfl ?_
      refine p_aload_n (i := 17) rfl rfl ?_
      refine p_iload (i := 18) rfl rfl ?_
      refine p_cV1 (i := 19) rfl ⟨lX10_198, rfl, rfl⟩ kY ⟨_, rfl, rfl⟩ rfl (y_lookFor hL hA (by omega) ?_)
      refine p_iandN (i := 20) rfl ?_
      refine p_cS1 (i := 21) rfl ⟨lX10_169, rfl, rfl⟩ rfl (y_bits (Nat.lt_of_le_of_lt Nat.and_le_left (by omega)) ?_)
      refine p_istore (i := 22) rfl rfl ?_
      refine p_iload (i := 23) rfl rfl ?_
      refine p_iload_n (i := 24) rfl rfl ?_
      refine p_cS1 (i := 25) rfl ⟨lX10_169, rfl, rfl⟩ rfl (y_bits (by omega) ?_)
      refine p_iload (i := 26) rfl rfl ?_
      refine p_isub (i := 27) rfl ?_
      refine p_cS2 (i := 28) rfl ⟨lX10_172, rfl, rfl⟩ rfl (y_greater (by omega) (by omega) ?_)
      refine p_istore (i := 29) rfl rfl ?_
      refine p_iload (i := 30) rfl rfl ?_
      refine p_iload_n (i := 31) rfl rfl ?_
      refine p_icmp_ge (i := 32) 64 rfl (by decide) (by omega) (by omega) (fun c56 => ?_) (fun c56 => ?_)
      · rw [if_neg (by omega)] at hq
        refine p_iload_n (i := 35) rfl rfl ?_
        refine p_istore_n (i := 36) rfl rfl ?_
        refine p_iload (i := 37) rfl rfl ?_
        refine p_iload_n (i := 38) rfl rfl ?_
        refine p_cS2 (i := 39) rfl ⟨lX10_152, rfl, rfl⟩ rfl (y_lesser (by omega) (by omega) ?_)
        refine p_istore_n (i := 40) rfl rfl ?_
        refine p_iinc (i := 41) rfl rfl rfl ?_
        refine p_goto (i := 42) 15 rfl (by decide) ?_
        rw [show min (max ((popc (set &&& stf ln g.1 (k : Int)) : Nat) : Int) ((popc set : Nat) - (popc (set &&& stf ln g.1 (k : Int)) : Nat))) s.2 = s.2 by omega]
        exact ih (k + 1) s _ _ (by omega) hs hq
      · rw [if_pos (by omega)] at hq
        refine p_iload (i := 33) rfl rfl ?_
        refine p_goto (i := 34) 65 rfl (by decide) ?_
        refine p_istore_n (i := 36) rfl rfl ?_
        refine p_iload (i := 37) rfl rfl ?_
        refine p_iload_n (i := 38) rfl rfl ?_
        refine p_cS2 (i := 39) rfl ⟨lX10_152, rfl, rfl⟩ rfl (y_lesser (by omega) (by omega) ?_)
        refine p_istore_n (i := 40) rfl rfl ?_
        refine p_iinc (i := 41) rfl rfl rfl ?_
        refine p_goto (i := 42) 15 rfl (by decide) ?_
        rw [show min (max ((popc (set &&& stf ln g.1 (k : Int)) : Nat) : Int) ((popc set : Nat) - (popc (set &&& stf ln g.1 (k : Int)) : Nat))) s.2 = max ((popc (set &&& stf ln g.1 (k : Int)) : Nat) : Int) ((popc set : Nat) - (popc (set &&& stf ln g.1 (k : Int)) : Nat)) by omega]
        exact ih (k + 1) (_, _) _ _ (by omega) (by show 0 ≤ max _ _ ∧ max _ _ ≤ (10 : Int); omega) hq
  refine C_of okX10_ask (by decide) (Nat.le_of_ble_eq_true rfl) ?_
  show P none mX10_ask 0 [.ref 276, .retAddr 0, .retAddr 0, .retAddr 0, .retAddr 0, .retAddr 0, .retAddr 0] [] _ _
  refine p_aload_n (i := 0) rfl rfl ?_
  refine p_cV0 (i := 1) rfl ⟨lX10_269, rfl, rfl⟩ kY ⟨_, rfl, rfl⟩ rfl (y_couldBe hRt hA hLn hMe ?_)
  rw [← hset]
  refine p_istore_n (i := 2) rfl rfl ?_
  refine p_iload_n (i := 3) rfl rfl ?_
  refine p_cS1 (i := 4) rfl ⟨lX10_169, rfl, rfl⟩ rfl (y_bits (by omega) ?_)
  refine p_istore_n (i := 5) rfl rfl ?_
  refine p_iconst (i := 6) rfl ?_
  refine p_istore_n (i := 7) rfl rfl ?_
  refine p_iconst (i := 8) rfl ?_
  refine p_istore (i := 9) rfl rfl ?_
  exact loop (nS ln) 0 (-1, (popc set : Nat)) _ _ (by omega) (by show (0 : Int) ≤ (popc set : Nat) ∧ ((popc set : Nat) : Int) ≤ 10; omega) h
theorem Y_write {M : AM} {tx : List Int} {fa : Int} {ln : LN} {g : GS} {un : List GS} {i0 i1 : Option (GS × Int)} {sd : Int} {me bo : List (Int × Int)} {Q : Option Value → AM → Prop} {x y : Int} (hY : YW M (tx, fa, ln, g, un, i0, i1, sd, me, bo)) (hx : -2147483648 ≤ x ∧ x ≤ 2147483647) (hy : -2147483648 ≤ y ∧ y ≤ 2147483647) (h : ∀ M', YW M' (a_write (tx, fa, ln, g, un, i0, i1, sd, me, bo) x y).2 → FrI 276 12 M M' → Q (some (zI (a_write (tx, fa, ln, g, un, i0, i1, sd, me, bo) x y).1)) M') : C mX10_write [.ref 276, zI x, zI y] M Q := by
  dsimp only [a_write] at h
  obtain ⟨hRt, hLn, hA, hPa, hIm, hTx, hMe, hBo, hN, b1, b2, b3, b4, b5, b6, b7⟩ := id hY
  obtain ⟨ay, gy, ny, hy_, vy, ry, kY⟩ := id hRt
  have hL : YL M ln := hLn.l hRt.h
  obtain ⟨⟨o1, o2, o3, o4, o5, o6, o7⟩, lf, kL, l0, l1, l2, l3, l4⟩ := id hLn
  obtain ⟨⟨q1, q2, q3, q4, q5, q6, q7, q8, q9, q10, q11⟩, f, kT, ⟨t0, t1⟩, ⟨u1, u2, u3, u4, u5⟩⟩ := id hA
  obtain ⟨v0, mf, kM, v1⟩ := id hBo
  refine C_of okX10_write (by decide) (Nat.le_of_ble_eq_true rfl) ?_
  show P none mX10_write 0 [.ref 276, zI x, zI y] [] _ _
  refine p_aload_n (i := 0) rfl rfl ?_
  refine p_iload_n (i := 1) rfl rfl ?_
  refine p_cV1 (i := 2) rfl ⟨lX10_194, rfl, rfl⟩ kY ⟨_, rfl, rfl⟩ rfl (y_isScene hL hx (fun q => ?_) (fun q => ?_))
  · refine p_if_eq (i := 3) 16 rfl (by decide) (by omega) (fun c5 => by exfalso; omega) (fun c5 => ?_)
    refine p_aload_n (i := 4) rfl rfl ?_
    refine p_iload_n (i := 5) rfl rfl ?_
    refine p_cV1 (i := 6) rfl ⟨lX10_194, rfl, rfl⟩ kY ⟨_, rfl, rfl⟩ rfl (y_isScene hL hy (fun p => ?_) (fun p => ?_))
    · rw [if_neg (by omega)] at h
      refine p_if_ne (i := 7) 19 rfl (by decide) (by omega) (fun c13 => ?_) (fun c13 => by exfalso; omega)
      refine p_aload_n (i := 10) rfl rfl ?_
      refine p_getf (i := 11) rfl fX10_54 kY rfl ?_
      refine p_bipush (i := 12) rfl (by decide) ?_
      refine p_icmp_ne (i := 13) 31 rfl (by decide) (by omega) (by omega) (fun c25 => ?_) (fun c25 => ?_)
      · rw [if_neg (by omega)] at h
        have fr1 : FrI 286 1 M M := FrI.rf
        refine p_aload_n (i := 16) rfl rfl ?_
        refine p_getf (i := 17) rfl fX10_42 kY rfl ?_
        refine p_iconst (i := 18) rfl ?_
        refine p_aload_n (i := 19) rfl rfl ?_
        refine p_getf (i := 20) rfl fX10_54 kY rfl ?_
        refine p_imul (i := 21) rfl ?_
        refine p_iload_n (i := 22) rfl rfl ?_
        refine p_isX (i := 23) (2 * bo.length) rfl kM (by omega) (by omega) (by decide) (P_gen fun M e => ?_)
        have kY := aupN e kY (by omega)
        have fr1 := fr1.up e (by omega)
        have kM := aupE e
        refine p_aload_n (i := 24) rfl rfl ?_
        refine p_getf (i := 25) rfl fX10_42 kY rfl ?_
        refine p_iconst (i := 26) rfl ?_
        refine p_aload_n (i := 27) rfl rfl ?_
        refine p_getf (i := 28) rfl fX10_54 kY rfl ?_
        refine p_imul (i := 29) rfl ?_
        refine p_iconst (i := 30) rfl ?_
        refine p_iadd (i := 31) rfl ?_
        refine p_iload_n (i := 32) rfl rfl ?_
        refine p_isX (i := 33) (2 * bo.length + 1) rfl kM (by omega) (by omega) (by decide) (P_gen fun M e => ?_)
        have kY := aupN e kY (by omega)
        have fr1 := fr1.up e (by omega)
        have kM := aupE e
        have fr2 : FrI 276 1 M M := FrI.rf
        refine p_aload_n (i := 34) rfl rfl ?_
        refine p_dup (i := 35) rfl rfl ?_
        refine p_getf (i := 36) rfl fX10_54 kY rfl ?_
        refine p_iconst (i := 37) rfl ?_
        refine p_iadd (i := 38) rfl ?_
        refine p_puti (i := 39) rfl gX10_54 kY rfl (P_gen fun M e => ?_)
        have kM := aupN e kM (by omega)
        have fr2 := fr2.up e (by omega)
        have kY := aupE e
        refine p_aload_n (i := 40) rfl rfl ?_
        refine p_getf (i := 41) rfl fX10_54 kY rfl ?_
        refine p_iret (i := 42) rfl rfl (rfl) ?_
        have eT : ((bo.length : Nat) : Int) + 1 = (((bo ++ [(x, y)]).length : Nat) : Int) := by simp
        rw [eT] at kY ⊢
        refine h M ⟨⟨ay, gy, ny, hy_, vy, ry, kY⟩, ((hLn.fi fr1 (by omega)).fi fr2 (by omega)), ((hA.fi fr1 (by omega)).fi fr2 (by omega)), ((hPa.fi fr1 (by omega)).fi fr2 (by omega)), ((hIm.fi fr1 (by omega)).fi fr2 (by omega)), ((hTx.fi fr1 (by omega)).fi fr2 (by omega)), ((hMe.fi fr1 (by omega)).fi fr2 (by omega)), ⟨by simp; omega, _, kM, fun i hi => ?_⟩, ((hN.fi fr1 (by omega)).fi fr2 (by omega)), b1, b2, b3, b4, fun i hi => ?_, b6, b7⟩ ((fr1.weak (by omega)).tr (fr2.weak (by omega)))
        · have hi : i < bo.length + 1 := by simpa using hi
          rw [gd_app hi]
          by_cases c : i = bo.length
          · rw [if_pos c, c, zup_e, zup_n (by omega), zup_e]
            exact ⟨rfl, rfl, q.1, by show x ≤ 7; omega, p.1, by show y ≤ 7; omega⟩
          · rw [if_neg c, zup_n (by omega), zup_n (by omega), zup_n (by omega), zup_n (by omega)]
            exact v1 i (by omega)
        · have hi : i < bo.length + 1 := by simpa using hi
          rw [gd_app hi]
          by_cases c : i = bo.length
          · rw [if_pos c]; exact ⟨q.2, p.2⟩
          · rw [if_neg c]; exact b5 i (by omega)
      · rw [if_pos (by omega)] at h
        refine p_ldc (i := 14) rfl kX10_67 ?_
        refine p_iret (i := 15) rfl rfl (rfl) ?_
        exact h M hY FrI.rf
    · rw [if_pos (by omega)] at h
      refine p_if_ne (i := 7) 19 rfl (by decide) (by omega) (fun c13 => by exfalso; omega) (fun c13 => ?_)
      refine p_ldc (i := 8) rfl kX10_197 ?_
      refine p_iret (i := 9) rfl rfl (rfl) ?_
      exact h M hY FrI.rf
  · rw [if_pos (by omega)] at h
    refine p_if_eq (i := 3) 16 rfl (by decide) (by omega) (fun c5 => ?_) (fun c5 => by exfalso; omega)
    refine p_ldc (i := 8) rfl kX10_197 ?_
    refine p_iret (i := 9) rfl rfl (rfl) ?_
    exact h M hY FrI.rf
theorem Y_judge {M : AM} {tx : List Int} {fa : Int} {ln : LN} {g : GS} {un : List GS} {i0 i1 : Option (GS × Int)} {sd : Int} {me bo : List (Int × Int)} {Q : Option Value → AM → Prop} (hY : YW M (tx, fa, ln, g, un, i0, i1, sd, me, bo)) (h : ∀ M', YW M' (tx, fa, ln, g, un, i0, i1, sd, me, bo) → FrI 276 12 M M' → Q (some (zI (a_judge (tx, fa, ln, g, un, i0, i1, sd, me, bo)))) M') : C mX10_judge [.ref 276] M Q := by
  have h := h M hY FrI.rf
  dsimp only [a_judge] at h
  obtain ⟨hRt, hLn, hA, hPa, hIm, hTx, hMe, hBo, hN, b1, b2, b3, b4, b5, b6, b7⟩ := id hY
  obtain ⟨ay, gy, ny, hy_, vy, ry, kY⟩ := id hRt
  have hL : YL M ln := hLn.l hRt.h
  obtain ⟨⟨o1, o2, o3, o4, o5, o6, o7⟩, lf, kL, l0, l1, l2, l3, l4⟩ := id hLn
  obtain ⟨⟨q1, q2, q3, q4, q5, q6, q7, q8, q9, q10, q11⟩, f, kT, ⟨t0, t1⟩, ⟨u1, u2, u3, u4, u5⟩⟩ := id hA
  obtain ⟨v0, mf, kM, v1⟩ := id hBo
  have hok := hA.1.ls
  have loop : ∀ (c k : Nat), k + c = bo.length → Q (some (zI (fi (fun i => decide (tk ln g.1 (bo.getD i (0, 0)).1 0 0 ≠ (bo.getD i (0, 0)).2)) c k))) M → P none mX10_judge 2 [.ref 276, zI (k : Int)] []  M Q := by
    intro c
    induction c with
    | zero =>
      intro k hk hq
      refine p_iload_n (i := 2) rfl rfl ?_
      refine p_aload_n (i := 3) rfl rfl ?_
      refine p_getf (i := 4) rfl fX10_54 kY rfl ?_
      refine p_icmp_ge (i := 5) 43 rfl (by decide) (by omega) (by omega) (fun c7 => ?_) (fun c7 => by exfalso; omega)
      refine p_iconst (i := 27) rfl ?_
      refine p_iret (i := 28) rfl rfl (rfl) ?_
      exact hq
    | succ c ih =>
      intro k hk hq
      obtain ⟨m1, m2, m3, m4, m5, m6⟩ := v1 k (by omega)
      have hb5 := b5 k (by omega)
      have hq : Q (some (zI (if decide (tk ln g.1 (bo.getD k (0, 0)).1 0 0 ≠ (bo.getD k (0, 0)).2) = true then (k : Int) else fi (fun i => decide (tk ln g.1 (bo.getD i (0, 0)).1 0 0 ≠ (bo.getD i (0, 0)).2)) c (k + 1)))) M := hq
      have ht := tk_rng (ln := ln) (x := (bo.getD k (0, 0)).1) (m := 0) (wi := 0) hok (Nat.le_refl _) (by omega)
      refine p_iload_n (i := 2) rfl rfl ?_
      refine p_aload_n (i := 3) rfl rfl ?_
      refine p_getf (i := 4) rfl fX10_54 kY rfl ?_
      refine p_icmp_ge (i := 5) 43 rfl (by decide) (by omega) (by omega) (fun c7 => by exfalso; omega) (fun c7 => ?_)
      refine p_aload_n (i := 6) rfl rfl ?_
      refine p_aload_n (i := 7) rfl rfl ?_
      refine p_getf (i := 8) rfl fX10_42 kY rfl ?_
      refine p_iconst (i := 9) rfl ?_
      refine p_iload_n (i := 10) rfl rfl ?_
      refine p_imul (i := 11) rfl ?_
      refine p_iaX (i := 12) (2 * k) rfl kM (by omega) (by omega) (by decide) ?_
      rw [m1]
      refine p_cV1 (i := 13) rfl ⟨lX10_191, rfl, rfl⟩ kY ⟨_, rfl, rfl⟩ rfl (y_takesNow hL hA (by omega) ?_)
      refine p_aload_n (i := 14) rfl rfl ?_
      refine p_getf (i := 15) rfl fX10_42 kY rfl ?_
      refine p_iconst (i := 16) rfl ?_
      refine p_iload_n (i := 17) rfl rfl ?_
      refine p_imul (i := 18) rfl ?_
      refine p_iconst (i := 19) rfl ?_
      refine p_iadd (i := 20) rfl ?_
      refine p_iaX (i := 21) (2 * k + 1) rfl kM (by omega) (by omega) (by decide) ?_
      rw [m2]
      refine p_icmp_eq (i := 22) 37 rfl (by decide) (by omega) (by omega) (fun c32 => ?_) (fun c32 => ?_)
      · rw [if_neg (by rw [decide_eq_true_eq]; omega)] at hq
        refine p_iinc (i := 25) rfl rfl rfl ?_
        refine p_goto (i := 26) 2 rfl (by decide) ?_
        exact ih (k + 1) (by omega) hq
      · rw [if_pos (by rw [decide_eq_true_eq]; omega)] at hq
        refine p_iload_n (i := 23) rfl rfl ?_
        refine p_iret (i := 24) rfl rfl (rfl) ?_
        exact hq
  refine C_of okX10_judge (by decide) (Nat.le_of_ble_eq_true rfl) ?_
  show P none mX10_judge 0 [.ref 276, .retAddr 0] [] _ _
  refine p_iconst (i := 0) rfl ?_
  refine p_istore_n (i := 1) rfl rfl ?_
  exact loop bo.length 0 (by omega) h
theorem Y_tear {M : AM} {tx : List Int} {fa : Int} {ln : LN} {g : GS} {un : List GS} {i0 i1 : Option (GS × Int)} {sd : Int} {me bo : List (Int × Int)} {Q : Option Value → AM → Prop} (hY : YW M (tx, fa, ln, g, un, i0, i1, sd, me, bo)) (h : ∀ M', YW M' (a_tear (tx, fa, ln, g, un, i0, i1, sd, me, bo)).2 → FrI 276 12 M M' → Q (some (zI (a_tear (tx, fa, ln, g, un, i0, i1, sd, me, bo)).1)) M') : C mX10_tear [.ref 276] M Q := by
  dsimp only [a_tear] at h
  obtain ⟨hRt, hLn, hA, hPa, hIm, hTx, hMe, hBo, hN, b1, b2, b3, b4, b5, b6, b7⟩ := id hY
  obtain ⟨ay, gy, ny, hy_, vy, ry, kY⟩ := id hRt
  have hL : YL M ln := hLn.l hRt.h
  obtain ⟨⟨o1, o2, o3, o4, o5, o6, o7⟩, lf, kL, l0, l1, l2, l3, l4⟩ := id hLn
  obtain ⟨⟨q1, q2, q3, q4, q5, q6, q7, q8, q9, q10, q11⟩, f, kT, ⟨t0, t1⟩, ⟨u1, u2, u3, u4, u5⟩⟩ := id hA
  obtain ⟨v0, mf, kM, v1⟩ := id hMe
  obtain ⟨w0, bf, kB, w1⟩ := id hBo
  have fr2 : FrI 276 1 M M := FrI.rf
  refine C_of okX10_tear (by decide) (Nat.le_of_ble_eq_true rfl) ?_
  show P none mX10_tear 0 [.ref 276, .retAddr 0] [] _ _
  refine p_aload_n (i := 0) rfl rfl ?_
  refine p_getf (i := 1) rfl fX10_51 kY rfl ?_
  refine p_aload_n (i := 2) rfl rfl ?_
  refine p_getf (i := 3) rfl fX10_54 kY rfl ?_
  refine p_iadd (i := 4) rfl ?_
  refine p_istore_n (i := 5) rfl rfl ?_
  refine p_aload_n (i := 6) rfl rfl ?_
  refine p_iconst (i := 7) rfl ?_
  refine p_puti (i := 8) rfl gX10_51 kY rfl (P_gen fun M e => ?_)
  have fr2 := fr2.up e (by omega)
  have kY := aupE e
  refine p_aload_n (i := 9) rfl rfl ?_
  refine p_iconst (i := 10) rfl ?_
  refine p_puti (i := 11) rfl gX10_54 kY rfl (P_gen fun M e => ?_)
  have fr2 := fr2.up e (by omega)
  have kY := aupE e
  refine p_iload_n (i := 12) rfl rfl ?_
  refine p_iret (i := 13) rfl rfl (rfl) ?_
  refine h M ⟨⟨ay, gy, ny, hy_, vy, ry, kY⟩, (hLn.fi fr2 (by omega)), (hA.fi fr2 (by omega)), (hPa.fi fr2 (by omega)), (hIm.fi fr2 (by omega)), (hTx.fi fr2 (by omega)), ⟨by decide, mf, fr2.at kM (by omega), fun i hi => absurd hi (Nat.not_lt_zero i)⟩, ⟨by decide, bf, fr2.at kB (by omega), fun i hi => absurd hi (Nat.not_lt_zero i)⟩, (hN.fi fr2 (by omega)), b1, b2, b3, fun i hi => absurd hi (Nat.not_lt_zero i), fun i hi => absurd hi (Nat.not_lt_zero i), b6, b7⟩ (fr2.weak (by omega))
theorem Y_seed {M : AM} {tx : List Int} {fa : Int} {ln : LN} {g : GS} {un : List GS} {i0 i1 : Option (GS × Int)} {sd : Int} {me bo : List (Int × Int)} {Q : Option Value → AM → Prop} {v : Int} (hY : YW M (tx, fa, ln, g, un, i0, i1, sd, me, bo)) (hv : -2147483648 ≤ v ∧ v ≤ 2147483647) (h : ∀ M', YW M' (a_seed (tx, fa, ln, g, un, i0, i1, sd, me, bo) v).2 → FrI 276 12 M M' → Q (some (zI (a_seed (tx, fa, ln, g, un, i0, i1, sd, me, bo) v).1)) M') : C mX10_seed [.ref 276, zI v] M Q := by
  dsimp only [a_seed] at h
  obtain ⟨hRt, hLn, hA, hPa, hIm, hTx, hMe, hBo, hN, b1, b2, b3, b4, b5, b6, b7⟩ := id hY
  obtain ⟨ay, gy, ny, hy_, vy, ry, kY⟩ := id hRt
  have hL : YL M ln := hLn.l hRt.h
  obtain ⟨⟨o1, o2, o3, o4, o5, o6, o7⟩, lf, kL, l0, l1, l2, l3, l4⟩ := id hLn
  obtain ⟨⟨q1, q2, q3, q4, q5, q6, q7, q8, q9, q10, q11⟩, f, kT, ⟨t0, t1⟩, ⟨u1, u2, u3, u4, u5⟩⟩ := id hA
  have fr2 : FrI 276 1 M M := FrI.rf
  refine C_of okX10_seed (by decide) (Nat.le_of_ble_eq_true rfl) ?_
  show P none mX10_seed 0 [.ref 276, zI v, .retAddr 0] [] _ _
  refine p_iload_n (i := 0) rfl rfl ?_
  refine p_if_ge (i := 1) 7 rfl (by decide) (by omega) (fun c1 => ?_) (fun c1 => ?_)
  · rw [if_neg (by omega)] at h
    refine p_aload_n (i := 4) rfl rfl ?_
    refine p_getf (i := 5) rfl fX10_230 kY rfl ?_
    refine p_l2i (i := 6) rfl ?_
    refine p_istore_n (i := 7) rfl rfl ?_
    refine p_aload_n (i := 8) rfl rfl ?_
    refine p_iload_n (i := 9) rfl rfl ?_
    refine p_i2l (i := 10) rfl (by omega) ?_
    refine p_putl (i := 11) rfl gX10_230 kY rfl (P_gen fun M e => ?_)
    have fr2 := fr2.up e (by omega)
    have kY := aupE e
    refine p_iload_n (i := 12) rfl rfl ?_
    refine p_iret (i := 13) rfl rfl (rfl) ?_
    exact h M ⟨⟨ay, gy, ny, hy_, vy, ry, kY⟩, (hLn.fi fr2 (by omega)), (hA.fi fr2 (by omega)), (hPa.fi fr2 (by omega)), (hIm.fi fr2 (by omega)), (hTx.fi fr2 (by omega)), (hMe.fi fr2 (by omega)), (hBo.fi fr2 (by omega)), (hN.fi fr2 (by omega)), b1, c1, hv.2, b4, b5, b6, b7⟩ (fr2.weak (by omega))
  · rw [if_pos (by omega)] at h
    refine p_ldc (i := 2) rfl kX10_63 ?_
    refine p_iret (i := 3) rfl rfl (rfl) ?_
    exact h M hY FrI.rf
theorem YI1.cg {ns nw : Nat} {f h f1 h1 : Nat → Int} {b : Nat} {o : Option (GS × Int)} (y : YI1 ns nw f h b o) (hf : ∀ q, 121 * b ≤ q → q < 121 * b + 121 → f1 q = f q) (hh : h1 b = h b) : YI1 ns nw f1 h1 b o := by
  cases o with
  | none => exact hh.trans y
  | some p =>
    obtain ⟨y1, y2, y3, y4, y5, y6, y7⟩ := y
    exact ⟨hh.trans y1, (hf _ (by omega) (by omega)).trans y2, y3, y4, y5, y6.cg y5 (fun q hq => hf _ (by omega) (by omega)), y7⟩
theorem Y_keep {M : AM} {tx : List Int} {fa : Int} {ln : LN} {g : GS} {un : List GS} {i0 i1 : Option (GS × Int)} {sd : Int} {me bo : List (Int × Int)} {Q : Option Value → AM → Prop} {i : Int} (hY : YW M (tx, fa, ln, g, un, i0, i1, sd, me, bo)) (hi : -2147483648 ≤ i ∧ i ≤ 2147483647) (h : ∀ M', YW M' (a_keep (tx, fa, ln, g, un, i0, i1, sd, me, bo) i).2 → FrI 276 12 M M' → Q (some (zI (a_keep (tx, fa, ln, g, un, i0, i1, sd, me, bo) i).1)) M') : C mX10_keep [.ref 276, zI i] M Q := by
  dsimp only [a_keep] at h
  obtain ⟨hRt, hLn, hA, hPa, hIm, hTx, hMe, hBo, hN, b1, b2, b3, b4, b5, b6, b7⟩ := id hY
  obtain ⟨ay, gy, ny, hy_, vy, ry, kY⟩ := id hRt
  have hL : YL M ln := hLn.l hRt.h
  obtain ⟨⟨o1, o2, o3, o4, o5, o6, o7⟩, lf, kL, l0, l1, l2, l3, l4⟩ := id hLn
  obtain ⟨⟨q1, q2, q3, q4, q5, q6, q7, q8, q9, q10, q11⟩, f, kT, ⟨t0, t1⟩, ⟨u1, u2, u3, u4, u5⟩⟩ := id hA
  obtain ⟨imf, imh, kI, kK, y0, y1⟩ := id hIm
  obtain ⟨p0, pf, kP, p1⟩ := id hPa
  refine C_of okX10_keep (by decide) (Nat.le_of_ble_eq_true rfl) ?_
  show P none mX10_keep 0 [.ref 276, zI i] [] _ _
  refine p_iload_n (i := 0) rfl rfl ?_
  refine p_i2l (i := 1) rfl (by omega) ?_
  refine p_lconst0 (i := 2) rfl ?_
  refine p_lconst1 (i := 3) rfl ?_
  refine p_cS3 (i := 4) rfl ⟨lX10_59, rfl, rfl⟩ rfl (y_in (by omega) (by omega) (by omega) (fun z => ?_) (fun z => ?_))
  · rw [if_neg (not_not_intro z)] at h
    refine p_if_ne (i := 5) 13 rfl (by decide) (by omega) (fun c7 => ?_) (fun c7 => by exfalso; omega)
    obtain ⟨b, eb⟩ : ∃ b : Nat, i = (b : Int) := ⟨i.toNat, by omega⟩
    subst eb
    refine p_aload_n (i := 8) rfl rfl ?_
    refine p_getf (i := 9) rfl fX10_16 kY rfl ?_
    refine p_iconst (i := 10) rfl ?_
    refine p_aload_n (i := 11) rfl rfl ?_
    refine p_getf (i := 12) rfl fX10_25 kY rfl ?_
    refine p_bipush (i := 13) rfl (by decide) ?_
    refine p_iload_n (i := 14) rfl rfl ?_
    refine p_imul (i := 15) rfl ?_
    refine p_bipush (i := 16) rfl (by decide) ?_
    rw [show (121 : Int) * ((b : Nat) : Int) = ((121 * b : Nat) : Int) by omega]
    refine p_cS5 (i := 17) rfl ⟨lX10_118, rfl, rfl⟩ rfl (y_copies (i := 0) (m := 120) kT kI (by decide) (by omega) (by omega) (by decide) (fun M2 f2 kI hf2 fr1 => ?_))
    have kY := fr1.at kY (by omega)
    have kK := fr1.at kK (by omega)
    have fr3 : FrI 282 2 M2 M2 := FrI.rf
    refine p_aload_n (i := 18) rfl rfl ?_
    refine p_getf (i := 19) rfl fX10_25 kY rfl ?_
    refine p_bipush (i := 20) rfl (by decide) ?_
    refine p_iload_n (i := 21) rfl rfl ?_
    refine p_imul (i := 22) rfl ?_
    refine p_bipush (i := 23) rfl (by decide) ?_
    refine p_iadd (i := 24) rfl ?_
    refine p_aload_n (i := 25) rfl rfl ?_
    refine p_getf (i := 26) rfl fX10_230 kY rfl ?_
    refine p_l2i (i := 27) rfl ?_
    refine p_isX (i := 28) (121 * b + 120) rfl kI (by omega) (by omega) (by decide) (P_gen fun M e => ?_)
    have kY := aupN e kY (by omega)
    have kK := aupN e kK (by omega)
    have fr3 := fr3.up e (by omega)
    have kI := aupE e
    refine p_aload_n (i := 29) rfl rfl ?_
    refine p_getf (i := 30) rfl fX10_28 kY rfl ?_
    refine p_iload_n (i := 31) rfl rfl ?_
    refine p_iconst (i := 32) rfl ?_
    refine p_zsX (i := 33) (b) rfl kK (by omega) (by omega) (by decide) (by omega) (P_gen fun M e => ?_)
    have kY := aupN e kY (by omega)
    have kI := aupN e kI (by omega)
    have fr3 := fr3.up e (by omega)
    have kK := aupE e
    have fr4 : FrI 276 1 M M := FrI.rf
    refine p_aload_n (i := 34) rfl rfl ?_
    refine p_iconst (i := 35) rfl ?_
    refine p_puti (i := 36) rfl gX10_48 kY rfl (P_gen fun M e => ?_)
    have kI := aupN e kI (by omega)
    have kK := aupN e kK (by omega)
    have fr4 := fr4.up e (by omega)
    have kY := aupE e
    refine p_iconst (i := 37) rfl ?_
    refine p_iret (i := 38) rfl rfl (rfl) ?_
    have hPa' : YPa M (nS ln) (nW ln) [] := ⟨by decide, pf, fr4.at (fr3.at (fr1.at kP (by omega)) (by omega)) (by omega), fun i hi => absurd hi (Nat.not_lt_zero i)⟩
    have own : YI1 (nS ln) (nW ln) (zup f2 (121 * b + 120) sd) (zup imh b 1) b (some (g, sd)) := by
      refine ⟨zup_e, zup_e, b2, b3, hA.1, YG.cg (f := f) ⟨⟨t0, t1⟩, ⟨u1, u2, u3, u4, u5⟩⟩ hA.1 (fun q hq => ?_), b1⟩
      show zup f2 (121 * b + 120) sd (121 * b + q) = f q
      rw [zup_n (by omega), hf2, if_pos (by omega), show 0 + (121 * b + q - 121 * b) = q by omega]
    have oth : ∀ (c : Nat) (o : Option (GS × Int)), c ≠ b → YI1 (nS ln) (nW ln) imf imh c o → YI1 (nS ln) (nW ln) (zup f2 (121 * b + 120) sd) (zup imh b 1) c o := fun c o hc y => y.cg (fun q h1 h2 => by rw [zup_n (by omega), hf2, if_neg (by omega)]) (zup_n hc)
    by_cases c0 : b = 0
    · subst c0
      rw [if_pos (by decide)] at h
      exact h M ⟨⟨ay, gy, ny, hy_, vy, ry, kY⟩, (((hLn.fi fr1 (by omega)).fi fr3 (by omega)).fi fr4 (by omega)), (((hA.fi fr1 (by omega)).fi fr3 (by omega)).fi fr4 (by omega)), hPa', ⟨_, _, kI, kK, own, oth 1 _ (by decide) y1⟩, (((hTx.fi fr1 (by omega)).fi fr3 (by omega)).fi fr4 (by omega)), (((hMe.fi fr1 (by omega)).fi fr3 (by omega)).fi fr4 (by omega)), (((hBo.fi fr1 (by omega)).fi fr3 (by omega)).fi fr4 (by omega)), (((hN.fi fr1 (by omega)).fi fr3 (by omega)).fi fr4 (by omega)), b1, b2, b3, b4, b5, b6, b7⟩ ((fr1.weak (by omega)).tr ((fr3.weak (by omega)).tr (fr4.weak (by omega))))
    · obtain rfl : b = 1 := by omega
      rw [if_neg (by decide)] at h
      exact h M ⟨⟨ay, gy, ny, hy_, vy, ry, kY⟩, (((hLn.fi fr1 (by omega)).fi fr3 (by omega)).fi fr4 (by omega)), (((hA.fi fr1 (by omega)).fi fr3 (by omega)).fi fr4 (by omega)), hPa', ⟨_, _, kI, kK, oth 0 _ (by decide) y0, own⟩, (((hTx.fi fr1 (by omega)).fi fr3 (by omega)).fi fr4 (by omega)), (((hMe.fi fr1 (by omega)).fi fr3 (by omega)).fi fr4 (by omega)), (((hBo.fi fr1 (by omega)).fi fr3 (by omega)).fi fr4 (by omega)), (((hN.fi fr1 (by omega)).fi fr3 (by omega)).fi fr4 (by omega)), b1, b2, b3, b4, b5, b6, b7⟩ ((fr1.weak (by omega)).tr ((fr3.weak (by omega)).tr (fr4.weak (by omega))))
  · rw [if_pos z] at h
    refine p_if_ne (i := 5) 13 rfl (by decide) (by omega) (fun c7 => by exfalso; omega) (fun c7 => ?_)
    refine p_ldc (i := 6) rfl kX10_197 ?_
    refine p_iret (i := 7) rfl rfl (rfl) ?_
    exact h M hY FrI.rf
theorem Y_goBack {M : AM} {tx : List Int} {fa : Int} {ln : LN} {g : GS} {un : List GS} {i0 i1 : Option (GS × Int)} {sd : Int} {me bo : List (Int × Int)} {Q : Option Value → AM → Prop} {i : Int} (hY : YW M (tx, fa, ln, g, un, i0, i1, sd, me, bo)) (hi : -2147483648 ≤ i ∧ i ≤ 2147483647) (h : ∀ M', YW M' (a_goBack (tx, fa, ln, g, un, i0, i1, sd, me, bo) i).2 → FrI 276 12 M M' → Q (some (zI (a_goBack (tx, fa, ln, g, un, i0, i1, sd, me, bo) i).1)) M') : C mX10_goBack [.ref 276, zI i] M Q := by
  dsimp only [a_goBack] at h
  obtain ⟨hRt, hLn, hA, hPa, hIm, hTx, hMe, hBo, hN, b1, b2, b3, b4, b5, b6, b7⟩ := id hY
  obtain ⟨ay, gy, ny, hy_, vy, ry, kY⟩ := id hRt
  have hL : YL M ln := hLn.l hRt.h
  obtain ⟨⟨o1, o2, o3, o4, o5, o6, o7⟩, lf, kL, l0, l1, l2, l3, l4⟩ := id hLn
  obtain ⟨⟨q1, q2, q3, q4, q5, q6, q7, q8, q9, q10, q11⟩, f, kT, ⟨t0, t1⟩, ⟨u1, u2, u3, u4, u5⟩⟩ := id hA
  obtain ⟨imf, imh, kI, kK, y0, y1⟩ := id hIm
  obtain ⟨p0, pf, kP, p1⟩ := id hPa
  refine C_of okX10_goBack (by decide) (Nat.le_of_ble_eq_true rfl) ?_
  show P none mX10_goBack 0 [.ref 276, zI i] [] _ _
  refine p_iload_n (i := 0) rfl rfl ?_
  refine p_i2l (i := 1) rfl (by omega) ?_
  refine p_lconst0 (i := 2) rfl ?_
  refine p_lconst1 (i := 3) rfl ?_
  refine p_cS3 (i := 4) rfl ⟨lX10_59, rfl, rfl⟩ rfl (y_in (by omega) (by omega) (by omega) (fun z => ?_) (fun z => ?_))
  · rw [if_neg (not_not_intro z)] at h
    refine p_if_ne (i := 5) 13 rfl (by decide) (by omega) (fun c7 => ?_) (fun c7 => by exfalso; omega)
    obtain ⟨b, eb⟩ : ∃ b : Nat, i = (b : Int) := ⟨i.toNat, by omega⟩
    subst eb
    have hyb : YI1 (nS ln) (nW ln) imf imh b (if (b : Int) = 0 then i0 else i1) := by
      by_cases c0 : b = 0
      · subst c0; exact y0
      · obtain rfl : b = 1 := by omega
        exact y1
    obtain ⟨o, eo⟩ : ∃ o, o = (if (b : Int) = 0 then i0 else i1) := ⟨_, rfl⟩
    rw [← eo] at h hyb
    cases o with
    | none =>
      have hk0 : imh b = 0 := hyb
      refine p_aload_n (i := 8) rfl rfl ?_
      refine p_getf (i := 9) rfl fX10_28 kY rfl ?_
      refine p_iload_n (i := 10) rfl rfl ?_
      refine p_zaX (i := 11) (b) rfl kK (by omega) (by omega) (by decide) ?_
      refine p_if_ne (i := 12) 25 rfl (by decide) (by omega) (fun c19 => by exfalso; omega) (fun c19 => ?_)
      refine p_ldc (i := 13) rfl kX10_216 ?_
      refine p_iret (i := 14) rfl rfl (rfl) ?_
      exact h M hY FrI.rf
    | some p =>
      obtain ⟨w1, w2, w3, w4, w5, w6, w7⟩ := hyb
      refine p_aload_n (i := 8) rfl rfl ?_
      refine p_getf (i := 9) rfl fX10_28 kY rfl ?_
      refine p_iload_n (i := 10) rfl rfl ?_
      refine p_zaX (i := 11) (b) rfl kK (by omega) (by omega) (by decide) ?_
      refine p_if_ne (i := 12) 25 rfl (by decide) (by omega) (fun c19 => ?_) (fun c19 => by exfalso; omega)
      refine p_aload_n (i := 15) rfl rfl ?_
      refine p_getf (i := 16) rfl fX10_25 kY rfl ?_
      refine p_bipush (i := 17) rfl (by decide) ?_
      refine p_iload_n (i := 18) rfl rfl ?_
      refine p_imul (i := 19) rfl ?_
      refine p_aload_n (i := 20) rfl rfl ?_
      refine p_getf (i := 21) rfl fX10_16 kY rfl ?_
      refine p_iconst (i := 22) rfl ?_
      refine p_bipush (i := 23) rfl (by decide) ?_
      rw [show (121 : Int) * ((b : Nat) : Int) = ((121 * b : Nat) : Int) by omega]
      refine p_cS5 (i := 24) rfl ⟨lX10_118, rfl, rfl⟩ rfl (y_copies (j := 0) (m := 120) kI kT (by decide) (by omega) (by omega) (by decide) (fun M2 f2 kT hf2 fr1 => ?_))
      have kY := fr1.at kY (by omega)
      have kK := fr1.at kK (by omega)
      have kI := fr1.at kI (by omega)
      have fr2 : FrI 276 1 M2 M2 := FrI.rf
      refine p_aload_n (i := 25) rfl rfl ?_
      refine p_aload_n (i := 26) rfl rfl ?_
      refine p_getf (i := 27) rfl fX10_25 kY rfl ?_
      refine p_bipush (i := 28) rfl (by decide) ?_
      refine p_iload_n (i := 29) rfl rfl ?_
      refine p_imul (i := 30) rfl ?_
      refine p_bipush (i := 31) rfl (by decide) ?_
      refine p_iadd (i := 32) rfl ?_
      refine p_iaX (i := 33) (121 * b + 120) rfl kI (by omega) (by omega) (by decide) ?_
      refine p_i2l (i := 34) rfl (by omega) ?_
      refine p_putl (i := 35) rfl gX10_230 kY rfl (P_gen fun M e => ?_)
      have kI := aupN e kI (by omega)
      have fr2 := fr2.up e (by omega)
      have kY := aupE e
      refine p_aload_n (i := 36) rfl rfl ?_
      refine p_iconst (i := 37) rfl ?_
      refine p_puti (i := 38) rfl gX10_48 kY rfl (P_gen fun M e => ?_)
      have kI := aupN e kI (by omega)
      have fr2 := fr2.up e (by omega)
      have kY := aupE e
      refine p_iconst (i := 39) rfl ?_
      refine p_iret (i := 40) rfl rfl (rfl) ?_
      rw [w2] at kY
      have hPa' : YPa M (nS ln) (nW ln) [] := ⟨by decide, pf, fr2.at (fr1.at kP (by omega)) (by omega), fun i hi => absurd hi (Nat.not_lt_zero i)⟩
      refine h M ⟨⟨ay, gy, ny, hy_, vy, ry, kY⟩, ((hLn.fi fr1 (by omega)).fi fr2 (by omega)), ⟨w5, f2, fr2.at kT (by omega), w6.cg w5 (fun q hq => ?_)⟩, hPa', ((hIm.fi fr1 (by omega)).fi fr2 (by omega)), ((hTx.fi fr1 (by omega)).fi fr2 (by omega)), ((hMe.fi fr1 (by omega)).fi fr2 (by omega)), ((hBo.fi fr1 (by omega)).fi fr2 (by omega)), ((hN.fi fr1 (by omega)).fi fr2 (by omega)), w7, w3, w4, b4, b5, b6, b7⟩ ((fr1.weak (by omega)).tr (fr2.weak (by omega)))
      show f2 q = imf (121 * b + q)
      rw [hf2, if_pos (by omega), Nat.sub_zero]
  · rw [if_pos z] at h
    refine p_if_ne (i := 5) 13 rfl (by decide) (by omega) (fun c7 => by exfalso; omega) (fun c7 => ?_)
    refine p_ldc (i := 6) rfl kX10_197 ?_
    refine p_iret (i := 7) rfl rfl (rfl) ?_
    exact h M hY FrI.rf
