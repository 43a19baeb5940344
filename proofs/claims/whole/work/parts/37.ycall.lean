-- the reference: the calls that read
theorem Y_feed {M : AM} {tx : List Int} {fa : Int} {ln : LN} {g : GS} {un : List GS} {i0 i1 : Option (GS × Int)} {sd : Int} {me bo : List (Int × Int)} {Q : Option Value → AM → Prop} {a : Int} (hY : YW M (tx, fa, ln, g, un, i0, i1, sd, me, bo)) (ha : -2147483648 ≤ a ∧ a ≤ 2147483647) (h : ∀ M', YW M' (a_feed (tx, fa, ln, g, un, i0, i1, sd, me, bo) a).2 → FrI 276 12 M M' → Q (some (zI (a_feed (tx, fa, ln, g, un, i0, i1, sd, me, bo) a).1)) M') : C mX10_feed [.ref 276, zI a] M Q := by
  dsimp only [a_feed] at h
  obtain ⟨hRt, hLn, hA, hPa, hIm, hTx, hMe, hBo, hN, b1, b2, b3, b4, b5, b6, b7⟩ := id hY
  obtain ⟨ay, gy, ny, hy_, vy, ry, kY⟩ := id hRt
  have hL : YL M ln := hLn.l hRt.h
  obtain ⟨⟨o1, o2, o3, o4, o5, o6, o7⟩, lf, kL, l0, l1, l2, l3, l4⟩ := id hLn
  obtain ⟨⟨q1, q2, q3, q4, q5, q6, q7, q8, q9, q10, q11⟩, f, kT, ⟨t0, t1⟩, ⟨u1, u2, u3, u4, u5⟩⟩ := id hA
  obtain ⟨v0, tf, kX, v1⟩ := id hTx
  have fr : FrI 276 12 M M := FrI.rf
  refine C_of okX10_feed (by decide) (Nat.le_of_ble_eq_true rfl) ?_
  show P none mX10_feed 0 [.ref 276, zI a] [] _ _
  refine p_iload_n (i := 0) rfl rfl ?_
  refine p_i2l (i := 1) rfl (by omega) ?_
  refine p_lconst0 (i := 2) rfl ?_
  refine p_ldc2 (i := 3) rfl kX10_57 ?_
  refine p_cS3 (i := 4) rfl ⟨lX10_59, rfl, rfl⟩ rfl (y_in (by omega) (by omega) (by omega) (fun q => ?_) (fun q => ?_))
  · rw [if_neg (by omega)] at h
    refine p_if_ne (i := 5) 15 rfl (by decide) (by omega) (fun c9 => ?_) (fun c9 => by exfalso; omega)
    refine p_aload_n (i := 8) rfl rfl ?_
    refine p_getf (i := 9) rfl fX10_64 kY rfl ?_
    refine p_sipush (i := 10) rfl (by decide) ?_
    refine p_icmp_ne (i := 11) 28 rfl (by decide) (by omega) (by omega) (fun c22 => ?_) (fun c22 => ?_)
    · rw [if_neg (by omega)] at h
      have fr1 : FrI 284 1 M M := FrI.rf
      refine p_aload_n (i := 14) rfl rfl ?_
      refine p_getf (i := 15) rfl fX10_32 kY rfl ?_
      refine p_aload_n (i := 16) rfl rfl ?_
      refine p_getf (i := 17) rfl fX10_64 kY rfl ?_
      refine p_iload_n (i := 18) rfl rfl ?_
      refine p_isX (i := 19) (tx.length) rfl kX (by omega) (by omega) (by decide) (P_gen fun M e => ?_)
      have kY := aupN e kY (by omega)
      have fr1 := fr1.up e (by omega)
      have kX := aupE e
      have eT : ((tx.length : Nat) : Int) + 1 = (((tx ++ [a]).length : Nat) : Int) := by simp
      have hTx1 : YTx M (tx ++ [a]) := by
        refine ⟨by simp; omega, _, kX, fun i hi => ?_⟩
        have hi : i < tx.length + 1 := by simpa using hi
        rw [gd_app hi]
        by_cases c : i = tx.length
        · rw [if_pos c, c, zup_e]; exact ⟨rfl, q.1, q.2⟩
        · rw [if_neg c, zup_n c]; exact v1 i (by omega)
      have fr2 : FrI 276 1 M M := FrI.rf
      refine p_aload_n (i := 20) rfl rfl ?_
      refine p_dup (i := 21) rfl rfl ?_
      refine p_getf (i := 22) rfl fX10_64 kY rfl ?_
      refine p_iconst (i := 23) rfl ?_
      refine p_iadd (i := 24) rfl ?_
      refine p_puti (i := 25) rfl gX10_64 kY rfl (P_gen fun M e => ?_)
      have kX := aupN e kX (by omega)
      have fr2 := fr2.up e (by omega)
      have kY := aupE e
      refine p_aload_n (i := 26) rfl rfl ?_
      refine p_getf (i := 27) rfl fX10_64 kY rfl ?_
      refine p_iret (i := 28) rfl rfl (rfl) ?_
      rw [eT] at kY
      exact h M ⟨⟨ay, gy, ny, hy_, vy, ry, kY⟩, ((hLn.fi fr1 (by omega)).fi fr2 (by omega)), ((hA.fi fr1 (by omega)).fi fr2 (by omega)), ((hPa.fi fr1 (by omega)).fi fr2 (by omega)), ((hIm.fi fr1 (by omega)).fi fr2 (by omega)), (hTx1.fi fr2 (by omega)), ((hMe.fi fr1 (by omega)).fi fr2 (by omega)), ((hBo.fi fr1 (by omega)).fi fr2 (by omega)), ((hN.fi fr1 (by omega)).fi fr2 (by omega)), b1, b2, b3, b4, b5, b6, b7⟩ ((fr1.weak (by omega)).tr (fr2.weak (by omega)))
    · rw [if_pos (by omega)] at h
      refine p_ldc (i := 12) rfl kX10_67 ?_
      refine p_iret (i := 13) rfl rfl (rfl) ?_
      exact h M hY FrI.rf
  · rw [if_pos (by omega)] at h
    refine p_if_ne (i := 5) 15 rfl (by decide) (by omega) (fun c9 => by exfalso; omega) (fun c9 => ?_)
    refine p_ldc (i := 6) rfl kX10_63 ?_
    refine p_iret (i := 7) rfl rfl (rfl) ?_
    exact h M hY FrI.rf
theorem Y_fault {M : AM} {tx : List Int} {fa : Int} {ln : LN} {g : GS} {un : List GS} {i0 i1 : Option (GS × Int)} {sd : Int} {me bo : List (Int × Int)} {Q : Option Value → AM → Prop} (hY : YW M (tx, fa, ln, g, un, i0, i1, sd, me, bo)) (h : ∀ M', YW M' (tx, fa, ln, g, un, i0, i1, sd, me, bo) → FrI 276 12 M M' → Q (some (zI (a_fault (tx, fa, ln, g, un, i0, i1, sd, me, bo)))) M') : C mX10_fault [.ref 276] M Q := by
  obtain ⟨hRt, hLn, hA, hPa, hIm, hTx, hMe, hBo, hN, b1, b2, b3, b4, b5, b6, b7⟩ := id hY
  obtain ⟨ay, gy, ny, hy_, vy, ry, kY⟩ := id hRt
  have hL : YL M ln := hLn.l hRt.h
  obtain ⟨⟨o1, o2, o3, o4, o5, o6, o7⟩, lf, kL, l0, l1, l2, l3, l4⟩ := id hLn
  obtain ⟨⟨q1, q2, q3, q4, q5, q6, q7, q8, q9, q10, q11⟩, f, kT, ⟨t0, t1⟩, ⟨u1, u2, u3, u4, u5⟩⟩ := id hA
  refine C_of okX10_fault (by decide) (Nat.le_of_ble_eq_true rfl) ?_
  show P none mX10_fault 0 [.ref 276] [] _ _
  refine p_aload_n (i := 0) rfl rfl ?_
  refine p_getf (i := 1) rfl fX10_35 kY rfl ?_
  refine p_iret (i := 2) rfl rfl (rfl) ?_
  exact h M hY FrI.rf
theorem Y_told {M : AM} {tx : List Int} {fa : Int} {ln : LN} {g : GS} {un : List GS} {i0 i1 : Option (GS × Int)} {sd : Int} {me bo : List (Int × Int)} {Q : Option Value → AM → Prop} {a : Int} (hY : YW M (tx, fa, ln, g, un, i0, i1, sd, me, bo)) (ha : -2147483648 ≤ a ∧ a ≤ 2147483647) (h : ∀ M', YW M' (tx, fa, ln, g, un, i0, i1, sd, me, bo) → FrI 276 12 M M' → Q (some (zI (a_told (tx, fa, ln, g, un, i0, i1, sd, me, bo) a))) M') : C mX10_told [.ref 276, zI a] M Q := by
  have h := h M hY FrI.rf
  dsimp only [a_told] at h
  obtain ⟨hRt, hLn, hA, hPa, hIm, hTx, hMe, hBo, hN, b1, b2, b3, b4, b5, b6, b7⟩ := id hY
  obtain ⟨ay, gy, ny, hy_, vy, ry, kY⟩ := id hRt
  have hL : YL M ln := hLn.l hRt.h
  obtain ⟨⟨o1, o2, o3, o4, o5, o6, o7⟩, lf, kL, l0, l1, l2, l3, l4⟩ := id hLn
  obtain ⟨⟨q1, q2, q3, q4, q5, q6, q7, q8, q9, q10, q11⟩, f, kT, ⟨t0, t1⟩, ⟨u1, u2, u3, u4, u5⟩⟩ := id hA
  refine C_of okX10_told (by decide) (Nat.le_of_ble_eq_true rfl) ?_
  show P none mX10_told 0 [.ref 276, zI a] [] _ _
  refine p_iload_n (i := 0) rfl rfl ?_
  by_cases hc : 0 ≤ a ∧ a < 16
  · rw [if_neg (not_not_intro hc)] at h
    rcases (show a = 0 ∨ a = 1 ∨ a = 2 ∨ a = 3 ∨ a = 4 ∨ a = 5 ∨ a = 6 ∨ a = 7 ∨ a = 8 ∨ a = 9 ∨ a = 10 ∨ a = 11 ∨ a = 12 ∨ a = 13 ∨ a = 14 ∨ a = 15 by omega) with rfl | rfl | rfl | rfl | rfl | rfl | rfl | rfl | rfl | rfl | rfl | rfl | rfl | rfl | rfl | rfl
    ·
      refine p_tsIn (i := 1) 80 rfl (by omega) (by omega) (by rfl) (by decide) ?_
      refine p_aload_n (i := 2) rfl rfl ?_
      refine p_getf (i := 3) rfl fX10_7 kY rfl ?_
      refine p_iload_n (i := 4) rfl rfl ?_
      refine p_iaX (i := 5) (0) rfl kL (by omega) (by omega) (by decide) ?_
      refine p_iret (i := 6) rfl rfl (rfl) ?_
      rw [l0]
      exact h
    ·
      refine p_tsIn (i := 1) 80 rfl (by omega) (by omega) (by rfl) (by decide) ?_
      refine p_aload_n (i := 2) rfl rfl ?_
      refine p_getf (i := 3) rfl fX10_7 kY rfl ?_
      refine p_iload_n (i := 4) rfl rfl ?_
      refine p_iaX (i := 5) (1) rfl kL (by omega) (by omega) (by decide) ?_
      refine p_iret (i := 6) rfl rfl (rfl) ?_
      rw [l1]
      exact h
    ·
      refine p_tsIn (i := 1) 80 rfl (by omega) (by omega) (by rfl) (by decide) ?_
      refine p_aload_n (i := 2) rfl rfl ?_
      refine p_getf (i := 3) rfl fX10_7 kY rfl ?_
      refine p_iload_n (i := 4) rfl rfl ?_
      refine p_iaX (i := 5) (2) rfl kL (by omega) (by omega) (by decide) ?_
      refine p_iret (i := 6) rfl rfl (rfl) ?_
      rw [l2]
      exact h
    ·
      refine p_tsIn (i := 1) 87 rfl (by omega) (by omega) (by rfl) (by decide) ?_
      refine p_aload_n (i := 7) rfl rfl ?_
      refine p_getf (i := 8) rfl fX10_64 kY rfl ?_
      refine p_iret (i := 9) rfl rfl (rfl) ?_
      exact h
    ·
      refine p_tsIn (i := 1) 92 rfl (by omega) (by omega) (by rfl) (by decide) ?_
      refine p_aload_n (i := 10) rfl rfl ?_
      refine p_getf (i := 11) rfl fX10_16 kY rfl ?_
      refine p_bipush (i := 12) rfl (by decide) ?_
      refine p_iaX (i := 13) (32) rfl kT (by omega) (by omega) (by decide) ?_
      refine p_iret (i := 14) rfl rfl (rfl) ?_
      rw [u2]
      exact h
    ·
      refine p_tsIn (i := 1) 100 rfl (by omega) (by omega) (by rfl) (by decide) ?_
      refine p_aload_n (i := 15) rfl rfl ?_
      refine p_getf (i := 16) rfl fX10_16 kY rfl ?_
      refine p_bipush (i := 17) rfl (by decide) ?_
      refine p_iaX (i := 18) (31) rfl kT (by omega) (by omega) (by decide) ?_
      refine p_iret (i := 19) rfl rfl (rfl) ?_
      rw [u1]
      exact h
    ·
      refine p_tsIn (i := 1) 108 rfl (by omega) (by omega) (by rfl) (by decide) ?_
      refine p_aload_n (i := 20) rfl rfl ?_
      refine p_getf (i := 21) rfl fX10_16 kY rfl ?_
      refine p_iconst (i := 22) rfl ?_
      refine p_iaX (i := 23) (0) rfl kT (by omega) (by omega) (by decide) ?_
      refine p_iret (i := 24) rfl rfl (rfl) ?_
      rw [t0]
      exact h
    ·
      refine p_tsIn (i := 1) 115 rfl (by omega) (by omega) (by rfl) (by decide) ?_
      refine p_aload_n (i := 25) rfl rfl ?_
      refine p_aload_n (i := 26) rfl rfl ?_
      refine p_getf (i := 27) rfl fX10_16 kY rfl ?_
      refine p_cV1 (i := 28) rfl ⟨lX10_175, rfl, rfl⟩ kY ⟨_, rfl, rfl⟩ rfl (y_darkOn hL hA ?_)
      refine p_iret (i := 29) rfl rfl (rfl) ?_
      exact h
    ·
      refine p_tsIn (i := 1) 124 rfl (by omega) (by omega) (by rfl) (by decide) ?_
      refine p_aload_n (i := 30) rfl rfl ?_
      refine p_cV0 (i := 31) rfl ⟨lX10_179, rfl, rfl⟩ kY ⟨_, rfl, rfl⟩ rfl (y_seenByAll hL hA ?_)
      refine p_iret (i := 32) rfl rfl (rfl) ?_
      exact h
    ·
      refine p_tsIn (i := 1) 129 rfl (by omega) (by omega) (by rfl) (by decide) ?_
      refine p_aload_n (i := 33) rfl rfl ?_
      refine p_cV0 (i := 34) rfl ⟨lX10_182, rfl, rfl⟩ kY ⟨_, rfl, rfl⟩ rfl (y_eyes hL.1 hA ?_)
      refine p_iret (i := 35) rfl rfl (rfl) ?_
      exact h
    ·
      refine p_tsIn (i := 1) 134 rfl (by omega) (by omega) (by rfl) (by decide) ?_
      refine p_aload_n (i := 36) rfl rfl ?_
      refine p_cV0 (i := 37) rfl ⟨lX10_185, rfl, rfl⟩ kY ⟨_, rfl, rfl⟩ rfl (y_strongest hL.1 hA ?_)
      refine p_iret (i := 38) rfl rfl (rfl) ?_
      exact h
    ·
      refine p_tsIn (i := 1) 139 rfl (by omega) (by omega) (by rfl) (by decide) ?_
      refine p_aload_n (i := 39) rfl rfl ?_
      refine p_cV0 (i := 40) rfl ⟨lX10_188, rfl, rfl⟩ kY ⟨_, rfl, rfl⟩ rfl (y_thick hL.1 hA ?_)
      refine p_iret (i := 41) rfl rfl (rfl) ?_
      exact h
    ·
      refine p_tsIn (i := 1) 144 rfl (by omega) (by omega) (by rfl) (by decide) ?_
      refine p_aload_n (i := 42) rfl rfl ?_
      refine p_getf (i := 43) rfl fX10_16 kY rfl ?_
      refine p_bipush (i := 44) rfl (by decide) ?_
      refine p_iaX (i := 45) (39) rfl kT (by omega) (by omega) (by decide) ?_
      refine p_iret (i := 46) rfl rfl (rfl) ?_
      rw [u4]
      exact h
    ·
      refine p_tsIn (i := 1) 152 rfl (by omega) (by omega) (by rfl) (by decide) ?_
      refine p_aload_n (i := 47) rfl rfl ?_
      refine p_getf (i := 48) rfl fX10_51 kY rfl ?_
      refine p_iret (i := 49) rfl rfl (rfl) ?_
      exact h
    ·
      refine p_tsIn (i := 1) 157 rfl (by omega) (by omega) (by rfl) (by decide) ?_
      refine p_aload_n (i := 50) rfl rfl ?_
      refine p_getf (i := 51) rfl fX10_54 kY rfl ?_
      refine p_iret (i := 52) rfl rfl (rfl) ?_
      exact h
    ·
      refine p_tsIn (i := 1) 162 rfl (by omega) (by omega) (by rfl) (by decide) ?_
      refine p_aload_n (i := 53) rfl rfl ?_
      refine p_getf (i := 54) rfl fX10_48 kY rfl ?_
      refine p_iret (i := 55) rfl rfl (rfl) ?_
      exact h
  · rw [if_pos hc] at h
    refine p_tsOut (i := 1) 167 rfl (by decide) (by omega) (by omega) ?_
    refine p_ldc (i := 56) rfl kX10_63 ?_
    refine p_iret (i := 57) rfl rfl (rfl) ?_
    exact h
theorem Y_scene {M : AM} {tx : List Int} {fa : Int} {ln : LN} {g : GS} {un : List GS} {i0 i1 : Option (GS × Int)} {sd : Int} {me bo : List (Int × Int)} {Q : Option Value → AM → Prop} {x a : Int} (hY : YW M (tx, fa, ln, g, un, i0, i1, sd, me, bo)) (hx : -2147483648 ≤ x ∧ x ≤ 2147483647) (ha : -2147483648 ≤ a ∧ a ≤ 2147483647) (h : ∀ M', YW M' (tx, fa, ln, g, un, i0, i1, sd, me, bo) → FrI 276 12 M M' → Q (some (zI (a_scene (tx, fa, ln, g, un, i0, i1, sd, me, bo) x a))) M') : C mX10_scene [.ref 276, zI x, zI a] M Q := by
  have h := h M hY FrI.rf
  dsimp only [a_scene] at h
  obtain ⟨hRt, hLn, hA, hPa, hIm, hTx, hMe, hBo, hN, b1, b2, b3, b4, b5, b6, b7⟩ := id hY
  obtain ⟨ay, gy, ny, hy_, vy, ry, kY⟩ := id hRt
  have hL : YL M ln := hLn.l hRt.h
  obtain ⟨⟨o1, o2, o3, o4, o5, o6, o7⟩, lf, kL, l0, l1, l2, l3, l4⟩ := id hLn
  obtain ⟨⟨q1, q2, q3, q4, q5, q6, q7, q8, q9, q10, q11⟩, f, kT, ⟨t0, t1⟩, ⟨u1, u2, u3, u4, u5⟩⟩ := id hA
  refine C_of okX10_scene (by decide) (Nat.le_of_ble_eq_true rfl) ?_
  show P none mX10_scene 0 [.ref 276, zI x, zI a] [] _ _
  refine p_aload_n (i := 0) rfl rfl ?_
  refine p_iload_n (i := 1) rfl rfl ?_
  refine p_cV1 (i := 2) rfl ⟨lX10_194, rfl, rfl⟩ kY ⟨_, rfl, rfl⟩ rfl (y_isScene hL hx (fun q => ?_) (fun q => ?_))
  · rw [if_neg (not_not_intro q)] at h
    obtain ⟨m1, m2⟩ := l3 x.toNat (by omega)
    refine p_if_ne (i := 3) 11 rfl (by decide) (by omega) (fun c5 => ?_) (fun c5 => by exfalso; omega)
    refine p_iload_n (i := 6) rfl rfl ?_
    by_cases hc : 0 ≤ a ∧ a < 4
    · rw [if_neg (not_not_intro hc)] at h
      rcases (show a = 0 ∨ a = 1 ∨ a = 2 ∨ a = 3 by omega) with rfl | rfl | rfl | rfl
      ·
        refine p_tsIn (i := 7) 44 rfl (by omega) (by omega) (by rfl) (by decide) ?_
        refine p_aload_n (i := 8) rfl rfl ?_
        refine p_getf (i := 9) rfl fX10_7 kY rfl ?_
        refine p_iconst (i := 10) rfl ?_
        refine p_iload_n (i := 11) rfl rfl ?_
        refine p_iadd (i := 12) rfl ?_
        refine p_iaX (i := 13) (3 + x.toNat) rfl kL (by omega) (by omega) (by decide) ?_
        refine p_iret (i := 14) rfl rfl (rfl) ?_
        rw [m1]
        exact h
      ·
        refine p_tsIn (i := 7) 53 rfl (by omega) (by omega) (by rfl) (by decide) ?_
        refine p_aload_n (i := 15) rfl rfl ?_
        refine p_getf (i := 16) rfl fX10_7 kY rfl ?_
        refine p_bipush (i := 17) rfl (by decide) ?_
        refine p_iload_n (i := 18) rfl rfl ?_
        refine p_iadd (i := 19) rfl ?_
        refine p_iaX (i := 20) (11 + x.toNat) rfl kL (by omega) (by omega) (by decide) ?_
        refine p_iret (i := 21) rfl rfl (rfl) ?_
        rw [m2]
        exact h
      ·
        refine p_tsIn (i := 7) 63 rfl (by omega) (by omega) (by rfl) (by decide) ?_
        refine p_aload_n (i := 22) rfl rfl ?_
        refine p_iload_n (i := 23) rfl rfl ?_
        refine p_aload_n (i := 24) rfl rfl ?_
        refine p_getf (i := 25) rfl fX10_7 kY rfl ?_
        refine p_iconst (i := 26) rfl ?_
        refine p_iaX (i := 27) (0) rfl kL (by omega) (by omega) (by decide) ?_
        refine p_cV2 (i := 28) rfl ⟨lX10_129, rfl, rfl⟩ kY ⟨_, rfl, rfl⟩ rfl (y_half hL q (by omega) ?_)
        refine p_iret (i := 29) rfl rfl (rfl) ?_
        rw [show lf 0 = ln.1 + 0 by omega]
        exact h
      ·
        refine p_tsIn (i := 7) 75 rfl (by omega) (by omega) (by rfl) (by decide) ?_
        refine p_aload_n (i := 30) rfl rfl ?_
        refine p_iload_n (i := 31) rfl rfl ?_
        refine p_cV1 (i := 32) rfl ⟨lX10_198, rfl, rfl⟩ kY ⟨_, rfl, rfl⟩ rfl (y_lookFor hL hA hx ?_)
        refine p_iret (i := 33) rfl rfl (rfl) ?_
        exact h
    · rw [if_pos hc] at h
      refine p_tsOut (i := 7) 81 rfl (by decide) (by omega) (by omega) ?_
      refine p_ldc (i := 34) rfl kX10_63 ?_
      refine p_iret (i := 35) rfl rfl (rfl) ?_
      exact h
  · rw [if_pos q] at h
    refine p_if_ne (i := 3) 11 rfl (by decide) (by omega) (fun c5 => by exfalso; omega) (fun c5 => ?_)
    refine p_ldc (i := 4) rfl kX10_197 ?_
    refine p_iret (i := 5) rfl rfl (rfl) ?_
    exact h
theorem Y_wearer {M : AM} {tx : List Int} {fa : Int} {ln : LN} {g : GS} {un : List GS} {i0 i1 : Option (GS × Int)} {sd : Int} {me bo : List (Int × Int)} {Q : Option Value → AM → Prop} {x a : Int} (hY : YW M (tx, fa, ln, g, un, i0, i1, sd, me, bo)) (hx : -2147483648 ≤ x ∧ x ≤ 2147483647) (ha : -2147483648 ≤ a ∧ a ≤ 2147483647) (h : ∀ M', YW M' (tx, fa, ln, g, un, i0, i1, sd, me, bo) → FrI 276 12 M M' → Q (some (zI (a_wearer (tx, fa, ln, g, un, i0, i1, sd, me, bo) x a))) M') : C mX10_wearer [.ref 276, zI x, zI a] M Q := by
  have h := h M hY FrI.rf
  dsimp only [a_wearer] at h
  obtain ⟨hRt, hLn, hA, hPa, hIm, hTx, hMe, hBo, hN, b1, b2, b3, b4, b5, b6, b7⟩ := id hY
  obtain ⟨ay, gy, ny, hy_, vy, ry, kY⟩ := id hRt
  have hL : YL M ln := hLn.l hRt.h
  obtain ⟨⟨o1, o2, o3, o4, o5, o6, o7⟩, lf, kL, l0, l1, l2, l3, l4⟩ := id hLn
  obtain ⟨⟨q1, q2, q3, q4, q5, q6, q7, q8, q9, q10, q11⟩, f, kT, ⟨t0, t1⟩, ⟨u1, u2, u3, u4, u5⟩⟩ := id hA
  refine C_of okX10_wearer (by decide) (Nat.le_of_ble_eq_true rfl) ?_
  show P none mX10_wearer 0 [.ref 276, zI x, zI a] [] _ _
  refine p_aload_n (i := 0) rfl rfl ?_
  refine p_iload_n (i := 1) rfl rfl ?_
  refine p_cV1 (i := 2) rfl ⟨lX10_201, rfl, rfl⟩ kY ⟨_, rfl, rfl⟩ rfl (y_isWearer hL hx (fun q => ?_) (fun q => ?_))
  · rw [if_neg (not_not_intro q)] at h
    obtain ⟨m1, m2⟩ := l4 x.toNat (by omega)
    obtain ⟨n1, n2, n3⟩ := o6 x.toNat (by omega)
    have hxr : 0 ≤ nxt ln g x ∧ nxt ln g x < nS ln := n3 _ (Nat.mod_lt _ (by omega))
    have eh := u3 x.toNat (by omega)
    refine p_if_ne (i := 3) 11 rfl (by decide) (by omega) (fun c5 => ?_) (fun c5 => by exfalso; omega)
    refine p_iload_n (i := 6) rfl rfl ?_
    by_cases hc : 0 ≤ a ∧ a < 5
    · rw [if_neg (not_not_intro hc)] at h
      rcases (show a = 0 ∨ a = 1 ∨ a = 2 ∨ a = 3 ∨ a = 4 by omega) with rfl | rfl | rfl | rfl | rfl
      ·
        refine p_tsIn (i := 7) 48 rfl (by omega) (by omega) (by rfl) (by decide) ?_
        refine p_aload_n (i := 8) rfl rfl ?_
        refine p_getf (i := 9) rfl fX10_7 kY rfl ?_
        refine p_bipush (i := 10) rfl (by decide) ?_
        refine p_iload_n (i := 11) rfl rfl ?_
        refine p_iadd (i := 12) rfl ?_
        refine p_iaX (i := 13) (19 + x.toNat) rfl kL (by omega) (by omega) (by decide) ?_
        refine p_iret (i := 14) rfl rfl (rfl) ?_
        rw [m1]
        exact h
      ·
        refine p_tsIn (i := 7) 58 rfl (by omega) (by omega) (by rfl) (by decide) ?_
        refine p_aload_n (i := 15) rfl rfl ?_
        refine p_getf (i := 16) rfl fX10_16 kY rfl ?_
        refine p_bipush (i := 17) rfl (by decide) ?_
        refine p_iload_n (i := 18) rfl rfl ?_
        refine p_iadd (i := 19) rfl ?_
        refine p_iaX (i := 20) (33 + x.toNat) rfl kT (by omega) (by omega) (by decide) ?_
        refine p_iret (i := 21) rfl rfl (rfl) ?_
        rw [eh]
        exact h
      ·
        refine p_tsIn (i := 7) 68 rfl (by omega) (by omega) (by rfl) (by decide) ?_
        refine p_aload_n (i := 22) rfl rfl ?_
        refine p_iload_n (i := 23) rfl rfl ?_
        refine p_cV1 (i := 24) rfl ⟨lX10_165, rfl, rfl⟩ kY ⟨_, rfl, rfl⟩ rfl (y_sawBy hL.1 hA (by omega) ?_)
        refine p_iret (i := 25) rfl rfl (rfl) ?_
        exact h
      ·
        refine p_tsIn (i := 7) 74 rfl (by omega) (by omega) (by rfl) (by decide) ?_
        refine p_aload_n (i := 26) rfl rfl ?_
        refine p_iload_n (i := 27) rfl rfl ?_
        refine p_top (b := ((x.toNat : Nat) : Int)) (by omega) ?_
        refine p_cV1 (i := 28) rfl ⟨lX10_204, rfl, rfl⟩ kY ⟨_, rfl, rfl⟩ rfl (y_kin hL hA (by omega) ?_)
        refine p_iret (i := 29) rfl rfl (rfl) ?_
        exact h
      ·
        refine p_tsIn (i := 7) 80 rfl (by omega) (by omega) (by rfl) (by decide) ?_
        refine p_aload_n (i := 30) rfl rfl ?_
        refine p_aload_n (i := 31) rfl rfl ?_
        refine p_aload_n (i := 32) rfl rfl ?_
        refine p_getf (i := 33) rfl fX10_16 kY rfl ?_
        refine p_iload_n (i := 34) rfl rfl ?_
        refine p_cV2 (i := 35) rfl ⟨lX10_145, rfl, rfl⟩ kY ⟨_, rfl, rfl⟩ rfl (y_nextScene (f := fun _ => 0) hL hA q ?_)
        refine p_cV1 (i := 36) rfl ⟨lX10_191, rfl, rfl⟩ kY ⟨_, rfl, rfl⟩ rfl (y_takesNow hL hA hxr ?_)
        refine p_iret (i := 37) rfl rfl (rfl) ?_
        exact h
    · rw [if_pos hc] at h
      refine p_tsOut (i := 7) 94 rfl (by decide) (by omega) (by omega) ?_
      refine p_ldc (i := 38) rfl kX10_63 ?_
      refine p_iret (i := 39) rfl rfl (rfl) ?_
      exact h
  · rw [if_pos q] at h
    refine p_if_ne (i := 3) 11 rfl (by decide) (by omega) (fun c5 => by exfalso; omega) (fun c5 => ?_)
    refine p_ldc (i := 4) rfl kX10_197 ?_
    refine p_iret (i := 5) rfl rfl (rfl) ?_
    exact h
theorem Y_layer {M : AM} {tx : List Int} {fa : Int} {ln : LN} {g : GS} {un : List GS} {i0 i1 : Option (GS × Int)} {sd : Int} {me bo : List (Int × Int)} {Q : Option Value → AM → Prop} {x a : Int} (hY : YW M (tx, fa, ln, g, un, i0, i1, sd, me, bo)) (hx : -2147483648 ≤ x ∧ x ≤ 2147483647) (ha : -2147483648 ≤ a ∧ a ≤ 2147483647) (h : ∀ M', YW M' (tx, fa, ln, g, un, i0, i1, sd, me, bo) → FrI 276 12 M M' → Q (some (zI (a_layer (tx, fa, ln, g, un, i0, i1, sd, me, bo) x a))) M') : C mX10_layer [.ref 276, zI x, zI a] M Q := by
  have h := h M hY FrI.rf
  dsimp only [a_layer] at h
  obtain ⟨hRt, hLn, hA, hPa, hIm, hTx, hMe, hBo, hN, b1, b2, b3, b4, b5, b6, b7⟩ := id hY
  obtain ⟨ay, gy, ny, hy_, vy, ry, kY⟩ := id hRt
  have hL : YL M ln := hLn.l hRt.h
  obtain ⟨⟨o1, o2, o3, o4, o5, o6, o7⟩, lf, kL, l0, l1, l2, l3, l4⟩ := id hLn
  obtain ⟨⟨q1, q2, q3, q4, q5, q6, q7, q8, q9, q10, q11⟩, f, kT, ⟨t0, t1⟩, ⟨u1, u2, u3, u4, u5⟩⟩ := id hA
  refine C_of okX10_layer (by decide) (Nat.le_of_ble_eq_true rfl) ?_
  show P none mX10_layer 0 [.ref 276, zI x, zI a] [] _ _
  refine p_aload_n (i := 0) rfl rfl ?_
  refine p_iload_n (i := 1) rfl rfl ?_
  refine p_cV1 (i := 2) rfl ⟨lX10_207, rfl, rfl⟩ kY ⟨_, rfl, rfl⟩ rfl (y_isLayer hL.1 hA hx (fun q => ?_) (fun q => ?_))
  · rw [if_neg (not_not_intro q)] at h
    obtain ⟨e1, e2, e3⟩ := t1 x.toNat (by omega)
    refine p_if_ne (i := 3) 11 rfl (by decide) (by omega) (fun c5 => ?_) (fun c5 => by exfalso; omega)
    refine p_iload_n (i := 6) rfl rfl ?_
    refine p_i2l (i := 7) rfl (by omega) ?_
    refine p_lconst0 (i := 8) rfl ?_
    refine p_ldc2 (i := 9) rfl kX10_210 ?_
    refine p_cS3 (i := 10) rfl ⟨lX10_59, rfl, rfl⟩ rfl (y_in (by omega) (by omega) (by omega) (fun q2 => ?_) (fun q2 => ?_))
    · rw [if_neg (by omega)] at h
      refine p_if_eq (i := 11) 39 rfl (by decide) (by omega) (fun c20 => by exfalso; omega) (fun c20 => ?_)
      rcases (show a = 0 ∨ a = 1 ∨ a = 2 by omega) with rfl | rfl | rfl
      ·
        refine p_aload_n (i := 12) rfl rfl ?_
        refine p_getf (i := 13) rfl fX10_16 kY rfl ?_
        refine p_iconst (i := 14) rfl ?_
        refine p_bipush (i := 15) rfl (by decide) ?_
        refine p_iload_n (i := 16) rfl rfl ?_
        refine p_imul (i := 17) rfl ?_
        refine p_iadd (i := 18) rfl ?_
        refine p_iload_n (i := 19) rfl rfl ?_
        refine p_iadd (i := 20) rfl ?_
        refine p_iaX (i := 21) (1 + x.toNat) rfl kT (by omega) (by omega) (by decide) ?_
        refine p_goto (i := 22) 41 rfl (by decide) ?_
        refine p_iret (i := 24) rfl rfl (rfl) ?_
        rw [e1]
        exact h
      ·
        refine p_aload_n (i := 12) rfl rfl ?_
        refine p_getf (i := 13) rfl fX10_16 kY rfl ?_
        refine p_iconst (i := 14) rfl ?_
        refine p_bipush (i := 15) rfl (by decide) ?_
        refine p_iload_n (i := 16) rfl rfl ?_
        refine p_imul (i := 17) rfl ?_
        refine p_iadd (i := 18) rfl ?_
        refine p_iload_n (i := 19) rfl rfl ?_
        refine p_iadd (i := 20) rfl ?_
        refine p_iaX (i := 21) (11 + x.toNat) rfl kT (by omega) (by omega) (by decide) ?_
        refine p_goto (i := 22) 41 rfl (by decide) ?_
        refine p_iret (i := 24) rfl rfl (rfl) ?_
        rw [e2]
        exact h
      ·
        refine p_aload_n (i := 12) rfl rfl ?_
        refine p_getf (i := 13) rfl fX10_16 kY rfl ?_
        refine p_iconst (i := 14) rfl ?_
        refine p_bipush (i := 15) rfl (by decide) ?_
        refine p_iload_n (i := 16) rfl rfl ?_
        refine p_imul (i := 17) rfl ?_
        refine p_iadd (i := 18) rfl ?_
        refine p_iload_n (i := 19) rfl rfl ?_
        refine p_iadd (i := 20) rfl ?_
        refine p_iaX (i := 21) (21 + x.toNat) rfl kT (by omega) (by omega) (by decide) ?_
        refine p_goto (i := 22) 41 rfl (by decide) ?_
        refine p_iret (i := 24) rfl rfl (rfl) ?_
        rw [e3]
        exact h
    · rw [if_pos (by omega)] at h
      refine p_if_eq (i := 11) 39 rfl (by decide) (by omega) (fun c20 => ?_) (fun c20 => by exfalso; omega)
      refine p_ldc (i := 23) rfl kX10_63 ?_
      refine p_iret (i := 24) rfl rfl (rfl) ?_
      exact h
  · rw [if_pos q] at h
    refine p_if_ne (i := 3) 11 rfl (by decide) (by omega) (fun c5 => by exfalso; omega) (fun c5 => ?_)
    refine p_ldc (i := 4) rfl kX10_197 ?_
    refine p_iret (i := 5) rfl rfl (rfl) ?_
    exact h
theorem Y_logged {M : AM} {tx : List Int} {fa : Int} {ln : LN} {g : GS} {un : List GS} {i0 i1 : Option (GS × Int)} {sd : Int} {me bo : List (Int × Int)} {Q : Option Value → AM → Prop} {x a : Int} (hY : YW M (tx, fa, ln, g, un, i0, i1, sd, me, bo)) (hx : -2147483648 ≤ x ∧ x ≤ 2147483647) (ha : -2147483648 ≤ a ∧ a ≤ 2147483647) (h : ∀ M', YW M' (tx, fa, ln, g, un, i0, i1, sd, me, bo) → FrI 276 12 M M' → Q (some (zI (a_logged (tx, fa, ln, g, un, i0, i1, sd, me, bo) x a))) M') : C mX10_logged [.ref 276, zI x, zI a] M Q := by
  have h := h M hY FrI.rf
  dsimp only [a_logged] at h
  obtain ⟨hRt, hLn, hA, hPa, hIm, hTx, hMe, hBo, hN, b1, b2, b3, b4, b5, b6, b7⟩ := id hY
  obtain ⟨ay, gy, ny, hy_, vy, ry, kY⟩ := id hRt
  have hL : YL M ln := hLn.l hRt.h
  obtain ⟨⟨o1, o2, o3, o4, o5, o6, o7⟩, lf, kL, l0, l1, l2, l3, l4⟩ := id hLn
  obtain ⟨⟨q1, q2, q3, q4, q5, q6, q7, q8, q9, q10, q11⟩, f, kT, ⟨t0, t1⟩, ⟨u1, u2, u3, u4, u5⟩⟩ := id hA
  refine C_of okX10_logged (by decide) (Nat.le_of_ble_eq_true rfl) ?_
  show P none mX10_logged 0 [.ref 276, zI x, zI a] [] _ _
  refine p_iload_n (i := 0) rfl rfl ?_
  refine p_i2l (i := 1) rfl (by omega) ?_
  refine p_lconst0 (i := 2) rfl ?_
  refine p_ldc2 (i := 3) rfl kX10_212 ?_
  refine p_cS3 (i := 4) rfl ⟨lX10_59, rfl, rfl⟩ rfl (y_in (by omega) (by omega) (by omega) (fun q => ?_) (fun q => ?_))
  · rw [if_neg (by omega)] at h
    refine p_if_ne (i := 5) 15 rfl (by decide) (by omega) (fun c9 => ?_) (fun c9 => by exfalso; omega)
    refine p_iload_n (i := 8) rfl rfl ?_
    refine p_i2l (i := 9) rfl (by omega) ?_
    refine p_lconst0 (i := 10) rfl ?_
    refine p_aload_n (i := 11) rfl rfl ?_
    refine p_getf (i := 12) rfl fX10_16 kY rfl ?_
    refine p_bipush (i := 13) rfl (by decide) ?_
    refine p_iaX (i := 14) (39) rfl kT (by omega) (by omega) (by decide) ?_
    refine p_iconst (i := 15) rfl ?_
    refine p_isub (i := 16) rfl ?_
    refine p_i2l (i := 17) rfl (by omega) ?_
    rw [u4]
    refine p_cS3 (i := 18) rfl ⟨lX10_59, rfl, rfl⟩ rfl (y_in (by omega) (by omega) (by omega) (fun q2 => ?_) (fun q2 => ?_))
    · unfold logAt at h
      rw [if_pos (by omega)] at h
      obtain ⟨e1, e2, e3, e4⟩ := u5 (g.2.2.2.2.length - 1 - x.toNat) (by omega)
      refine p_if_eq (i := 19) 60 rfl (by decide) (by omega) (fun c31 => by exfalso; omega) (fun c31 => ?_)
      rcases (show a = 0 ∨ a = 1 ∨ a = 2 ∨ a = 3 by omega) with rfl | rfl | rfl | rfl
      ·
        refine p_aload_n (i := 20) rfl rfl ?_
        refine p_getf (i := 21) rfl fX10_16 kY rfl ?_
        refine p_bipush (i := 22) rfl (by decide) ?_
        refine p_iconst (i := 23) rfl ?_
        refine p_aload_n (i := 24) rfl rfl ?_
        refine p_getf (i := 25) rfl fX10_16 kY rfl ?_
        refine p_bipush (i := 26) rfl (by decide) ?_
        refine p_iaX (i := 27) (39) rfl kT (by omega) (by omega) (by decide) ?_
        refine p_iconst (i := 28) rfl ?_
        refine p_isub (i := 29) rfl ?_
        refine p_iload_n (i := 30) rfl rfl ?_
        refine p_isub (i := 31) rfl ?_
        refine p_imul (i := 32) rfl ?_
        refine p_iadd (i := 33) rfl ?_
        refine p_iload_n (i := 34) rfl rfl ?_
        refine p_iadd (i := 35) rfl ?_
        refine p_iaX (i := 36) (40 + 4 * (g.2.2.2.2.length - 1 - x.toNat)) rfl kT (by omega) (by omega) (by decide) ?_
        refine p_goto (i := 37) 61 rfl (by decide) ?_
        refine p_iret (i := 39) rfl rfl (rfl) ?_
        rw [e1]
        exact h
      ·
        refine p_aload_n (i := 20) rfl rfl ?_
        refine p_getf (i := 21) rfl fX10_16 kY rfl ?_
        refine p_bipush (i := 22) rfl (by decide) ?_
        refine p_iconst (i := 23) rfl ?_
        refine p_aload_n (i := 24) rfl rfl ?_
        refine p_getf (i := 25) rfl fX10_16 kY rfl ?_
        refine p_bipush (i := 26) rfl (by decide) ?_
        refine p_iaX (i := 27) (39) rfl kT (by omega) (by omega) (by decide) ?_
        refine p_iconst (i := 28) rfl ?_
        refine p_isub (i := 29) rfl ?_
        refine p_iload_n (i := 30) rfl rfl ?_
        refine p_isub (i := 31) rfl ?_
        refine p_imul (i := 32) rfl ?_
        refine p_iadd (i := 33) rfl ?_
        refine p_iload_n (i := 34) rfl rfl ?_
        refine p_iadd (i := 35) rfl ?_
        refine p_iaX (i := 36) (40 + 4 * (g.2.2.2.2.length - 1 - x.toNat) + 1) rfl kT (by omega) (by omega) (by decide) ?_
        refine p_goto (i := 37) 61 rfl (by decide) ?_
        refine p_iret (i := 39) rfl rfl (rfl) ?_
        rw [e2]
        exact h
      ·
        refine p_aload_n (i := 20) rfl rfl ?_
        refine p_getf (i := 21) rfl fX10_16 kY rfl ?_
        refine p_bipush (i := 22) rfl (by decide) ?_
        refine p_iconst (i := 23) rfl ?_
        refine p_aload_n (i := 24) rfl rfl ?_
        refine p_getf (i := 25) rfl fX10_16 kY rfl ?_
        refine p_bipush (i := 26) rfl (by decide) ?_
        refine p_iaX (i := 27) (39) rfl kT (by omega) (by omega) (by decide) ?_
        refine p_iconst (i := 28) rfl ?_
        refine p_isub (i := 29) rfl ?_
        refine p_iload_n (i := 30) rfl rfl ?_
        refine p_isub (i := 31) rfl ?_
        refine p_imul (i := 32) rfl ?_
        refine p_iadd (i := 33) rfl ?_
        refine p_iload_n (i := 34) rfl rfl ?_
        refine p_iadd (i := 35) rfl ?_
        refine p_iaX (i := 36) (40 + 4 * (g.2.2.2.2.length - 1 - x.toNat) + 2) rfl kT (by omega) (by omega) (by decide) ?_
        refine p_goto (i := 37) 61 rfl (by decide) ?_
        refine p_iret (i := 39) rfl rfl (rfl) ?_
        rw [e3]
        exact h
      ·
        refine p_aload_n (i := 20) rfl rfl ?_
        refine p_getf (i := 21) rfl fX10_16 kY rfl ?_
        refine p_bipush (i := 22) rfl (by decide) ?_
        refine p_iconst (i := 23) rfl ?_
        refine p_aload_n (i := 24) rfl rfl ?_
        refine p_getf (i := 25) rfl fX10_16 kY rfl ?_
        refine p_bipush (i := 26) rfl (by decide) ?_
        refine p_iaX (i := 27) (39) rfl kT (by omega) (by omega) (by decide) ?_
        refine p_iconst (i := 28) rfl ?_
        refine p_isub (i := 29) rfl ?_
        refine p_iload_n (i := 30) rfl rfl ?_
        refine p_isub (i := 31) rfl ?_
        refine p_imul (i := 32) rfl ?_
        refine p_iadd (i := 33) rfl ?_
        refine p_iload_n (i := 34) rfl rfl ?_
        refine p_iadd (i := 35) rfl ?_
        refine p_iaX (i := 36) (40 + 4 * (g.2.2.2.2.length - 1 - x.toNat) + 3) rfl kT (by omega) (by omega) (by decide) ?_
        refine p_goto (i := 37) 61 rfl (by decide) ?_
        refine p_iret (i := 39) rfl rfl (rfl) ?_
        rw [e4]
        exact h
    · unfold logAt at h
      rw [if_neg (by omega)] at h
      refine p_if_eq (i := 19) 60 rfl (by decide) (by omega) (fun c31 => ?_) (fun c31 => by exfalso; omega)
      refine p_iconst (i := 38) rfl ?_
      refine p_iret (i := 39) rfl rfl (rfl) ?_
      exact h
  · rw [if_pos (by omega)] at h
    refine p_if_ne (i := 5) 15 rfl (by decide) (by omega) (fun c9 => by exfalso; omega) (fun c9 => ?_)
    refine p_ldc (i := 6) rfl kX10_63 ?_
    refine p_iret (i := 7) rfl rfl (rfl) ?_
    exact h
theorem Y_takes {M : AM} {tx : List Int} {fa : Int} {ln : LN} {g : GS} {un : List GS} {i0 i1 : Option (GS × Int)} {sd : Int} {me bo : List (Int × Int)} {Q : Option Value → AM → Prop} {x : Int} (hY : YW M (tx, fa, ln, g, un, i0, i1, sd, me, bo)) (hx : -2147483648 ≤ x ∧ x ≤ 2147483647) (h : ∀ M', YW M' (tx, fa, ln, g, un, i0, i1, sd, me, bo) → FrI 276 12 M M' → Q (some (zI (a_takes (tx, fa, ln, g, un, i0, i1, sd, me, bo) x))) M') : C mX10_takes [.ref 276, zI x] M Q := by
  have h := h M hY FrI.rf
  dsimp only [a_takes] at h
  obtain ⟨hRt, hLn, hA, hPa, hIm, hTx, hMe, hBo, hN, b1, b2, b3, b4, b5, b6, b7⟩ := id hY
  obtain ⟨ay, gy, ny, hy_, vy, ry, kY⟩ := id hRt
  have hL : YL M ln := hLn.l hRt.h
  obtain ⟨⟨o1, o2, o3, o4, o5, o6, o7⟩, lf, kL, l0, l1, l2, l3, l4⟩ := id hLn
  obtain ⟨⟨q1, q2, q3, q4, q5, q6, q7, q8, q9, q10, q11⟩, f, kT, ⟨t0, t1⟩, ⟨u1, u2, u3, u4, u5⟩⟩ := id hA
  refine C_of okX10_takes (by decide) (Nat.le_of_ble_eq_true rfl) ?_
  show P none mX10_takes 0 [.ref 276, zI x] [] _ _
  refine p_aload_n (i := 0) rfl rfl ?_
  refine p_iload_n (i := 1) rfl rfl ?_
  refine p_cV1 (i := 2) rfl ⟨lX10_194, rfl, rfl⟩ kY ⟨_, rfl, rfl⟩ rfl (y_isScene hL hx (fun q => ?_) (fun q => ?_))
  · rw [if_neg (not_not_intro q)] at h
    refine p_if_eq (i := 3) 16 rfl (by decide) (by omega) (fun c5 => by exfalso; omega) (fun c5 => ?_)
    refine p_aload_n (i := 4) rfl rfl ?_
    refine p_iload_n (i := 5) rfl rfl ?_
    refine p_cV1 (i := 6) rfl ⟨lX10_191, rfl, rfl⟩ kY ⟨_, rfl, rfl⟩ rfl (y_takesNow hL hA q ?_)
    refine p_goto (i := 7) 18 rfl (by decide) ?_
    refine p_iret (i := 9) rfl rfl (rfl) ?_
    exact h
  · rw [if_pos q] at h
    refine p_if_eq (i := 3) 16 rfl (by decide) (by omega) (fun c5 => ?_) (fun c5 => by exfalso; omega)
    refine p_ldc (i := 8) rfl kX10_197 ?_
    refine p_iret (i := 9) rfl rfl (rfl) ?_
    exact h
theorem Y_only {M : AM} {tx : List Int} {fa : Int} {ln : LN} {g : GS} {un : List GS} {i0 i1 : Option (GS × Int)} {sd : Int} {me bo : List (Int × Int)} {Q : Option Value → AM → Prop} {k x : Int} (hY : YW M (tx, fa, ln, g, un, i0, i1, sd, me, bo)) (hkk : -2147483648 ≤ k ∧ k ≤ 2147483647) (hx : -2147483648 ≤ x ∧ x ≤ 2147483647) (h : ∀ M', YW M' (tx, fa, ln, g, un, i0, i1, sd, me, bo) → FrI 276 12 M M' → Q (some (zI (a_only (tx, fa, ln, g, un, i0, i1, sd, me, bo) k x))) M') : C mX10_only [.ref 276, zI k, zI x] M Q := by
  have h := h M hY FrI.rf
  dsimp only [a_only] at h
  obtain ⟨hRt, hLn, hA, hPa, hIm, hTx, hMe, hBo, hN, b1, b2, b3, b4, b5, b6, b7⟩ := id hY
  obtain ⟨ay, gy, ny, hy_, vy, ry, kY⟩ := id hRt
  have hL : YL M ln := hLn.l hRt.h
  obtain ⟨⟨o1, o2, o3, o4, o5, o6, o7⟩, lf, kL, l0, l1, l2, l3, l4⟩ := id hLn
  obtain ⟨⟨q1, q2, q3, q4, q5, q6, q7, q8, q9, q10, q11⟩, f, kT, ⟨t0, t1⟩, ⟨u1, u2, u3, u4, u5⟩⟩ := id hA
  have loop : ∀ (c j : Nat) (s : Int), 0 ≤ k ∧ k < g.1.length → j + c = g.1.length → 0 ≤ s ∧ s ≤ j → Q (some (zI (fo (lbStep g.1 k.toNat) c j s))) M → P none mX10_only 49 [.ref 276, zI k, zI x, zI s, zI (j : Int)] []  M Q := by
    intro c
    induction c with
    | zero =>
      intro j s hk0 hj hs hq
      refine p_iload (i := 30) rfl rfl ?_
      refine p_aload_n (i := 31) rfl rfl ?_
      refine p_getf (i := 32) rfl fX10_16 kY rfl ?_
      refine p_iconst (i := 33) rfl ?_
      refine p_iaX (i := 34) (0) rfl kT (by omega) (by omega) (by decide) ?_
      refine p_icmp_ge (i := 35) 124 rfl (by decide) (by omega) (by omega) (fun c57 => ?_) (fun c57 => by exfalso; omega)
      refine p_iload_n (i := 73) rfl rfl ?_
      refine p_iret (i := 74) rfl rfl (rfl) ?_
      exact hq
    | succ c ih =>
      intro j s hk0 hj hs hq
      obtain ⟨e1, e2, e3⟩ := t1 j (by omega)
      have e4 := q2 j (by omega)
      obtain ⟨d1, d2, d3⟩ := t1 k.toNat (by omega)
      have d4 := q2 k.toNat (by omega)
      have hq : Q (some (zI (fo (lbStep g.1 k.toNat) c (j + 1) (lbStep g.1 k.toNat j s)))) M := hq
      unfold lbStep at hq
      refine p_iload (i := 30) rfl rfl ?_
      refine p_aload_n (i := 31) rfl rfl ?_
      refine p_getf (i := 32) rfl fX10_16 kY rfl ?_
      refine p_iconst (i := 33) rfl ?_
      refine p_iaX (i := 34) (0) rfl kT (by omega) (by omega) (by decide) ?_
      refine p_icmp_ge (i := 35) 124 rfl (by decide) (by omega) (by omega) (fun c57 => by exfalso; omega) (fun c57 => ?_)
      refine p_iload_n (i := 36) rfl rfl ?_
      refine p_aload_n (i := 37) rfl rfl ?_
      refine p_getf (i := 38) rfl fX10_16 kY rfl ?_
      refine p_bipush (i := 39) rfl (by decide) ?_
      refine p_iload (i := 40) rfl rfl ?_
      refine p_iadd (i := 41) rfl ?_
      refine p_iaX (i := 42) ((21 + j)) rfl kT (by omega) (by omega) (by decide) ?_
      refine p_aload_n (i := 43) rfl rfl ?_
      refine p_getf (i := 44) rfl fX10_16 kY rfl ?_
      refine p_bipush (i := 45) rfl (by decide) ?_
      refine p_iload_n (i := 46) rfl rfl ?_
      refine p_iadd (i := 47) rfl ?_
      refine p_iaX (i := 48) (21 + k.toNat) rfl kT (by omega) (by omega) (by decide) ?_
      refine p_icmp_gt (i := 49) 111 rfl (by decide) (by omega) (by omega) (fun c80 => ?_) (fun c80 => ?_)
      · rw [if_pos (by omega)] at hq
        refine p_iconst (i := 66) rfl ?_
        refine p_goto (i := 67) 116 rfl (by decide) ?_
        refine p_iadd (i := 69) rfl ?_
        refine p_istore_n (i := 70) rfl rfl ?_
        refine p_iinc (i := 71) rfl rfl rfl ?_
        refine p_goto (i := 72) 49 rfl (by decide) ?_
        exact ih (j + 1) _ hk0 (by omega) (by omega) hq
      · refine p_aload_n (i := 50) rfl rfl ?_
        refine p_getf (i := 51) rfl fX10_16 kY rfl ?_
        refine p_bipush (i := 52) rfl (by decide) ?_
        refine p_iload (i := 53) rfl rfl ?_
        refine p_iadd (i := 54) rfl ?_
        refine p_iaX (i := 55) ((21 + j)) rfl kT (by omega) (by omega) (by decide) ?_
        refine p_aload_n (i := 56) rfl rfl ?_
        refine p_getf (i := 57) rfl fX10_16 kY rfl ?_
        refine p_bipush (i := 58) rfl (by decide) ?_
        refine p_iload_n (i := 59) rfl rfl ?_
        refine p_iadd (i := 60) rfl ?_
        refine p_iaX (i := 61) (21 + k.toNat) rfl kT (by omega) (by omega) (by decide) ?_
        refine p_icmp_ne (i := 62) 115 rfl (by decide) (by omega) (by omega) (fun c102 => ?_) (fun c102 => ?_)
        · rw [if_neg (by omega)] at hq
          refine p_iconst (i := 68) rfl ?_
          refine p_iadd (i := 69) rfl ?_
          refine p_istore_n (i := 70) rfl rfl ?_
          refine p_iinc (i := 71) rfl rfl rfl ?_
          refine p_goto (i := 72) 49 rfl (by decide) ?_
          rw [show s + 0 = s by omega]
          exact ih (j + 1) _ hk0 (by omega) (by omega) hq
        · refine p_iload (i := 63) rfl rfl ?_
          refine p_iload_n (i := 64) rfl rfl ?_
          refine p_icmp_le (i := 65) 115 rfl (by decide) (by omega) (by omega) (fun c108 => ?_) (fun c108 => ?_)
          · rw [if_neg (by omega)] at hq
            refine p_iconst (i := 68) rfl ?_
            refine p_iadd (i := 69) rfl ?_
            refine p_istore_n (i := 70) rfl rfl ?_
            refine p_iinc (i := 71) rfl rfl rfl ?_
            refine p_goto (i := 72) 49 rfl (by decide) ?_
            rw [show s + 0 = s by omega]
            exact ih (j + 1) _ hk0 (by omega) (by omega) hq
          · rw [if_pos (by omega)] at hq
            refine p_iconst (i := 66) rfl ?_
            refine p_goto (i := 67) 116 rfl (by decide) ?_
            refine p_iadd (i := 69) rfl ?_
            refine p_istore_n (i := 70) rfl rfl ?_
            refine p_iinc (i := 71) rfl rfl rfl ?_
            refine p_goto (i := 72) 49 rfl (by decide) ?_
            exact ih (j + 1) _ hk0 (by omega) (by omega) hq
  refine C_of okX10_only (by decide) (Nat.le_of_ble_eq_true rfl) ?_
  show P none mX10_only 0 [.ref 276, zI k, zI x, .retAddr 0, .retAddr 0] [] _ _
  refine p_aload_n (i := 0) rfl rfl ?_
  refine p_iload_n (i := 1) rfl rfl ?_
  refine p_cV1 (i := 2) rfl ⟨lX10_207, rfl, rfl⟩ kY ⟨_, rfl, rfl⟩ rfl (y_isLayer hL.1 hA hkk (fun q => ?_) (fun q => ?_))
  · refine p_if_eq (i := 3) 16 rfl (by decide) (by omega) (fun c5 => by exfalso; omega) (fun c5 => ?_)
    refine p_aload_n (i := 4) rfl rfl ?_
    refine p_iload_n (i := 5) rfl rfl ?_
    refine p_cV1 (i := 6) rfl ⟨lX10_194, rfl, rfl⟩ kY ⟨_, rfl, rfl⟩ rfl (y_isScene hL hx (fun p => ?_) (fun p => ?_))
    · rw [if_neg (by omega)] at h
      obtain ⟨d1, d2, d3⟩ := t1 k.toNat (by omega)
      have d4 := q2 k.toNat (by omega)
      obtain ⟨n1, n2, n3, n4⟩ := o5 x.toNat (by omega)
      refine p_if_ne (i := 7) 19 rfl (by decide) (by omega) (fun c13 => ?_) (fun c13 => by exfalso; omega)
      refine p_aload_n (i := 10) rfl rfl ?_
      refine p_getf (i := 11) rfl fX10_16 kY rfl ?_
      refine p_bipush (i := 12) rfl (by decide) ?_
      refine p_iload_n (i := 13) rfl rfl ?_
      refine p_iadd (i := 14) rfl ?_
      refine p_iaX (i := 15) (21 + k.toNat) rfl kT (by omega) (by omega) (by decide) ?_
      refine p_aload_n (i := 16) rfl rfl ?_
      refine p_iload_n (i := 17) rfl rfl ?_
      refine p_aload_n (i := 18) rfl rfl ?_
      refine p_getf (i := 19) rfl fX10_7 kY rfl ?_
      refine p_iconst (i := 20) rfl ?_
      refine p_iaX (i := 21) (0) rfl kL (by omega) (by omega) (by decide) ?_
      refine p_cV2 (i := 22) rfl ⟨lX10_129, rfl, rfl⟩ kY ⟨_, rfl, rfl⟩ rfl (y_half hL p (by omega) ?_)
      refine p_icmp_gt (i := 23) 44 rfl (by decide) (by omega) (by omega) (fun c39 => ?_) (fun c39 => ?_)
      · rw [if_neg (by omega)] at h
        refine p_iconst (i := 26) rfl ?_
        refine p_istore_n (i := 27) rfl rfl ?_
        refine p_iconst (i := 28) rfl ?_
        refine p_istore (i := 29) rfl rfl ?_
        exact loop g.1.length 0 0 q (by omega) (by omega) h
      · rw [if_pos (by omega)] at h
        refine p_iconst (i := 24) rfl ?_
        refine p_iret (i := 25) rfl rfl (rfl) ?_
        exact h
    · rw [if_pos (by omega)] at h
      refine p_if_ne (i := 7) 19 rfl (by decide) (by omega) (fun c13 => by exfalso; omega) (fun c13 => ?_)
      refine p_ldc (i := 8) rfl kX10_197 ?_
      refine p_iret (i := 9) rfl rfl (rfl) ?_
      exact h
  · rw [if_pos (by omega)] at h
    refine p_if_eq (i := 3) 16 rfl (by decide) (by omega) (fun c5 => ?_) (fun c5 => by exfalso; omega)
    refine p_ldc (i := 8) rfl kX10_197 ?_
    refine p_iret (i := 9) rfl rfl (rfl) ?_
    exact h
theorem Y_ground {M : AM} {tx : List Int} {fa : Int} {ln : LN} {g : GS} {un : List GS} {i0 i1 : Option (GS × Int)} {sd : Int} {me bo : List (Int × Int)} {Q : Option Value → AM → Prop} {x : Int} (hY : YW M (tx, fa, ln, g, un, i0, i1, sd, me, bo)) (hx : -2147483648 ≤ x ∧ x ≤ 2147483647) (h : ∀ M', YW M' (tx, fa, ln, g, un, i0, i1, sd, me, bo) → FrI 276 12 M M' → Q (some (zI (a_ground (tx, fa, ln, g, un, i0, i1, sd, me, bo) x))) M') : C mX10_ground [.ref 276, zI x] M Q := by
  have h := h M hY FrI.rf
  dsimp only [a_ground] at h
  obtain ⟨hRt, hLn, hA, hPa, hIm, hTx, hMe, hBo, hN, b1, b2, b3, b4, b5, b6, b7⟩ := id hY
  obtain ⟨ay, gy, ny, hy_, vy, ry, kY⟩ := id hRt
  have hL : YL M ln := hLn.l hRt.h
  obtain ⟨⟨o1, o2, o3, o4, o5, o6, o7⟩, lf, kL, l0, l1, l2, l3, l4⟩ := id hLn
  obtain ⟨⟨q1, q2, q3, q4, q5, q6, q7, q8, q9, q10, q11⟩, f, kT, ⟨t0, t1⟩, ⟨u1, u2, u3, u4, u5⟩⟩ := id hA
  have hok := hA.1.ls
  have loop : ∀ (c k : Nat), 0 ≤ x ∧ x < nS ln → k + c = 100 → Q (some (zI (grd ln g.1 x c k))) M → P none mX10_ground 13 [.ref 276, zI x, zI (k : Int)] []  M Q := by
    intro c
    induction c with
    | zero =>
      intro k hx0 hkc hq
      refine p_iload_n (i := 8) rfl rfl ?_
      refine p_bipush (i := 9) rfl (by decide) ?_
      refine p_icmp_ge (i := 10) 49 rfl (by decide) (by omega) (by omega) (fun c16 => ?_) (fun c16 => by exfalso; omega)
      refine p_iconst (i := 29) rfl ?_
      refine p_iret (i := 30) rfl rfl (rfl) ?_
      exact hq
    | succ c ih =>
      intro k hx0 hkc hq
      unfold grd at hq
      have ht := tk_rng (ln := ln) (x := x) (m := (k : Int)) (wi := 0) hok (Nat.le_refl _) hx0
      refine p_iload_n (i := 8) rfl rfl ?_
      refine p_bipush (i := 9) rfl (by decide) ?_
      refine p_icmp_ge (i := 10) 49 rfl (by decide) (by omega) (by omega) (fun c16 => by exfalso; omega) (fun c16 => ?_)
      refine p_aload_n (i := 11) rfl rfl ?_
      refine p_aload_n (i := 12) rfl rfl ?_
      refine p_getf (i := 13) rfl fX10_16 kY rfl ?_
      refine p_iload_n (i := 14) rfl rfl ?_
      refine p_iconst (i := 15) rfl ?_
      refine p_aload_n (i := 16) rfl rfl ?_
      refine p_getf (i := 17) rfl fX10_7 kY rfl ?_
      refine p_iconst (i := 18) rfl ?_
      refine p_iaX (i := 19) (0) rfl kL (by omega) (by omega) (by decide) ?_
      refine p_iload_n (i := 20) rfl rfl ?_
      refine p_iadd (i := 21) rfl ?_
      refine p_cV4 (i := 22) rfl ⟨lX10_133, rfl, rfl⟩ kY ⟨_, rfl, rfl⟩ rfl (y_takesBy hL hA hx0 (m := (k : Int)) (by omega) (by omega) (wi := 0) (by decide) ?_)
      refine p_iload_n (i := 23) rfl rfl ?_
      refine p_icmp_ne (i := 24) 43 rfl (by decide) (by omega) (by omega) (fun c38 => ?_) (fun c38 => ?_)
      · rw [if_neg c38] at hq
        refine p_iinc (i := 27) rfl rfl rfl ?_
        refine p_goto (i := 28) 13 rfl (by decide) ?_
        exact ih (k + 1) hx0 (by omega) hq
      · rw [if_pos c38] at hq
        refine p_iload_n (i := 25) rfl rfl ?_
        refine p_iret (i := 26) rfl rfl (rfl) ?_
        exact hq
  refine C_of okX10_ground (by decide) (Nat.le_of_ble_eq_true rfl) ?_
  show P none mX10_ground 0 [.ref 276, zI x, .retAddr 0] [] _ _
  refine p_aload_n (i := 0) rfl rfl ?_
  refine p_iload_n (i := 1) rfl rfl ?_
  refine p_cV1 (i := 2) rfl ⟨lX10_194, rfl, rfl⟩ kY ⟨_, rfl, rfl⟩ rfl (y_isScene hL hx (fun q => ?_) (fun q => ?_))
  · rw [if_neg (not_not_intro q)] at h
    refine p_if_ne (i := 3) 11 rfl (by decide) (by omega) (fun c5 => ?_) (fun c5 => by exfalso; omega)
    refine p_iconst (i := 6) rfl ?_
    refine p_istore_n (i := 7) rfl rfl ?_
    exact loop 100 0 q (by omega) h
  · rw [if_pos q] at h
    refine p_if_ne (i := 3) 11 rfl (by decide) (by omega) (fun c5 => by exfalso; omega) (fun c5 => ?_)
    refine p_ldc (i := 4) rfl kX10_197 ?_
    refine p_iret (i := 5) rfl rfl (rfl) ?_
    exact h
theorem Y_mist {M : AM} {n q : Int} {Q : Option Value → AM → Prop} (hn : -2147483648 ≤ n ∧ n ≤ 2147483647) (hq : -2147483648 ≤ q ∧ q ≤ 2147483647) (h : Q (some (zI (a_mist n q))) M) : C mX10_mist [.ref 276, zI n, zI q] M Q := by
  unfold a_mist at h
  have loop : ∀ (c k : Nat) (x : Int), (k : Int) + c = n → n ≤ 60 → 0 ≤ q ∧ q ≤ 100 → 0 ≤ x ∧ x ≤ 1000000000 → Q (some (zI (mst q c x))) M → P none mX10_mist 34 [.ref 276, zI n, zI q, zJ x, .retAddr 0, zI (k : Int)] []  M Q := by
    intro c
    induction c with
    | zero =>
      intro k x hk hn60 hq0 hx h
      refine p_iload (i := 18) rfl rfl ?_
      refine p_iload_n (i := 19) rfl rfl ?_
      refine p_icmp_ge (i := 20) 55 rfl (by decide) (by omega) (by omega) (fun c37 => ?_) (fun c37 => by exfalso; omega)
      refine p_lload_n (i := 30) rfl rfl ?_
      refine p_l2i (i := 31) rfl ?_
      refine p_iret (i := 32) rfl rfl (rfl) ?_
      exact h
    | succ c ih =>
      intro k x hk hn60 hq0 hx h
      have m1 : 0 ≤ x * q := Int.mul_nonneg hx.1 hq0.1
      have m2 : x * q ≤ 1000000000 * 100 := Int.mul_le_mul hx.2 hq0.2 hq0.1 (by decide)
      refine p_iload (i := 18) rfl rfl ?_
      refine p_iload_n (i := 19) rfl rfl ?_
      refine p_icmp_ge (i := 20) 55 rfl (by decide) (by omega) (by omega) (fun c37 => by exfalso; omega) (fun c37 => ?_)
      refine p_lload_n (i := 21) rfl rfl ?_
      refine p_iload_n (i := 22) rfl rfl ?_
      refine p_i2l (i := 23) rfl (by omega) ?_
      refine p_lmul (i := 24) rfl ?_
      refine p_ldc2 (i := 25) rfl kX10_265 ?_
      refine p_ldiv (i := 26) rfl (by omega) (by omega) ?_
      refine p_lstore_n (i := 27) rfl rfl rfl ?_
      refine p_iinc (i := 28) rfl rfl rfl ?_
      refine p_goto (i := 29) 34 rfl (by decide) ?_
      exact ih (k + 1) (x * q / 100) (by omega) hn60 hq0 (by omega) h
  refine C_of okX10_mist (by decide) (Nat.le_of_ble_eq_true rfl) ?_
  show P none mX10_mist 0 [.ref 276, zI n, zI q, .retAddr 0, .retAddr 0, .retAddr 0] [] _ _
  refine p_iload_n (i := 0) rfl rfl ?_
  refine p_i2l (i := 1) rfl (by omega) ?_
  refine p_lconst0 (i := 2) rfl ?_
  refine p_ldc2 (i := 3) rfl kX10_248 ?_
  refine p_cS3 (i := 4) rfl ⟨lX10_59, rfl, rfl⟩ rfl (y_in (by omega) (by omega) (by omega) (fun z1 => ?_) (fun z1 => ?_))
  · refine p_if_eq (i := 5) 24 rfl (by decide) (by omega) (fun c9 => by exfalso; omega) (fun c9 => ?_)
    refine p_iload_n (i := 6) rfl rfl ?_
    refine p_i2l (i := 7) rfl (by omega) ?_
    refine p_lconst0 (i := 8) rfl ?_
    refine p_ldc2 (i := 9) rfl kX10_265 ?_
    refine p_cS3 (i := 10) rfl ⟨lX10_59, rfl, rfl⟩ rfl (y_in (by omega) (by omega) (by omega) (fun z2 => ?_) (fun z2 => ?_))
    · rw [if_neg (by omega)] at h
      refine p_if_ne (i := 11) 27 rfl (by decide) (by omega) (fun c21 => ?_) (fun c21 => by exfalso; omega)
      refine p_ldc2 (i := 14) rfl kX10_267 ?_
      refine p_lstore_n (i := 15) rfl rfl rfl ?_
      refine p_iconst (i := 16) rfl ?_
      refine p_istore (i := 17) rfl rfl ?_
      exact loop n.toNat 0 1000000000 (by omega) (by omega) (by omega) (by decide) h
    · rw [if_pos (by omega)] at h
      refine p_if_ne (i := 11) 27 rfl (by decide) (by omega) (fun c21 => by exfalso; omega) (fun c21 => ?_)
      refine p_ldc (i := 12) rfl kX10_63 ?_
      refine p_iret (i := 13) rfl rfl (rfl) ?_
      exact h
  · rw [if_pos (by omega)] at h
    refine p_if_eq (i := 5) 24 rfl (by decide) (by omega) (fun c9 => ?_) (fun c9 => by exfalso; omega)
    refine p_ldc (i := 12) rfl kX10_63 ?_
    refine p_iret (i := 13) rfl rfl (rfl) ?_
    exact h
