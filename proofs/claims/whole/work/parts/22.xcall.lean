-- calls of the class that read
theorem x_append {M : AM} {tx : List Int} {a : Int} {Q : Option Value → AM → Prop} (hR : XRd M tx) (hl : tx.length < 240) (ha : 0 ≤ a ∧ a ≤ 255) (h : ∀ M', XRd M' (tx ++ [a]) → FrI 1 2 M M' → Q none M') : C mX7_append [.ref 1, zI a] M Q := by
  obtain ⟨h0, f, at0, ft, fp, k1, k2, h3⟩ := hR
  have fr : FrI 1 2 M M := FrI.rf
  refine C_of okX7_append (by decide) (Nat.le_of_ble_eq_true rfl) ?_
  show P none mX7_append 0 [.ref 1, zI a] [] _ _
  refine p_aload_n (i := 0) rfl rfl ?_
  refine p_getf (i := 1) rfl fX7_15 k1 rfl ?_
  refine p_sipush (i := 2) rfl (by decide) ?_
  refine p_icmp_ge (i := 3) 30 rfl (by decide) (by omega) (by omega) (fun c7 => by exfalso; omega) (fun c7 => ?_)
  refine p_aload_n (i := 4) rfl rfl ?_
  refine p_getf (i := 5) rfl fX7_9 k1 rfl ?_
  refine p_aload_n (i := 6) rfl rfl ?_
  refine p_getf (i := 7) rfl fX7_15 k1 rfl ?_
  refine p_iload_n (i := 8) rfl rfl ?_
  refine p_isX (i := 9) _ rfl k2 rfl (by omega) (by decide) (P_gen fun M e => ?_)
  have k1 := aupN e k1 (by omega)
  have fr := fr.up e (by omega)
  have k2 := aupE e
  refine p_aload_n (i := 10) rfl rfl ?_
  refine p_dup (i := 11) rfl rfl ?_
  refine p_getf (i := 12) rfl fX7_15 k1 rfl ?_
  refine p_iconst (i := 13) rfl ?_
  refine p_iadd (i := 14) rfl ?_
  refine p_puti (i := 15) rfl gX7_15 k1 rfl (P_gen fun M e => ?_)
  have k2 := aupN e k2 (by omega)
  have fr := fr.up e (by omega)
  have k1 := aupE e
  refine p_ret (i := 16) rfl rfl ?_
  have e : ((tx.length : Nat) : Int) + 1 = (((tx ++ [a]).length : Nat) : Int) := by simp
  rw [e] at k1
  refine h M ⟨by simp; omega, _, at0, ft, fp, k1, k2, fun i hi => ?_⟩ fr
  have hi : i < tx.length + 1 := by simpa using hi
  rw [gd_app hi]
  by_cases c : i = tx.length
  · rw [if_pos c, c, zup_e]
    exact ⟨rfl, ha.1, ha.2⟩
  · rw [if_neg c, zup_n c]
    exact h3 i (by omega)
theorem X_feed {M : AM} {tx : List Int} {fa : Int} {ln : LN} {g : GS} {un : List GS} {i0 i1 : Option (GS × Int)} {sd : Int} {me bo : List (Int × Int)} {a : Int} {Q : Option Value → AM → Prop} (hX : XW M (tx, fa, ln, g, un, i0, i1, sd, me, bo)) (ha : -2147483648 ≤ a ∧ a ≤ 2147483647) (h : ∀ M', XW M' (a_feed (tx, fa, ln, g, un, i0, i1, sd, me, bo) a).2 → FrI 0 276 M M' → Q (some (zI (a_feed (tx, fa, ln, g, un, i0, i1, sd, me, bo) a).1)) M') : C mX9_feed [.ref 0, zI a] M Q := by
  dsimp only [a_feed] at h
  obtain ⟨la, sa, hRt, hRd, hHi, hIr, hI0, hI1, hPa, hTr, hTu, hMe, hBo, hLi, hLs, b1, b2, b3, b4, b5, b6, b7⟩ := id hX
  obtain ⟨kR, hla⟩ := id hRt
  obtain ⟨h0, f, at0, ft, fp, k1, k2, h3⟩ := id hRd
  refine C_of okX9_feed (by decide) (Nat.le_of_ble_eq_true rfl) ?_
  show P none mX9_feed 0 [.ref 0, zI a] [] _ _
  refine p_iload_n (i := 0) rfl rfl ?_
  refine p_if_lt (i := 1) 11 rfl (by decide) (by omega) (fun c1 => ?_) (fun c1 => ?_)
  · refine p_ldc (i := 5) rfl kX9_78 ?_
    refine p_iret (i := 6) rfl rfl (rfl) ?_
    rw [if_pos (by omega)] at h
    exact h M hX FrI.rf
  · refine p_iload_n (i := 2) rfl rfl ?_
    refine p_sipush (i := 3) rfl (by decide) ?_
    refine p_icmp_le (i := 4) 14 rfl (by decide) (by omega) (by omega) (fun c8 => ?_) (fun c8 => ?_)
    · refine p_aload_n (i := 7) rfl rfl ?_
      refine p_getf (i := 8) rfl fX9_10 kR rfl ?_
      refine p_getf (i := 9) rfl fX9_79 k1 rfl ?_
      refine p_sipush (i := 10) rfl (by decide) ?_
      refine p_icmp_lt (i := 11) 30 rfl (by decide) (by omega) (by omega) (fun c24 => ?_) (fun c24 => ?_)
      · refine p_aload_n (i := 14) rfl rfl ?_
        refine p_getf (i := 15) rfl fX9_10 kR rfl ?_
        refine p_iload_n (i := 16) rfl rfl ?_
        refine p_cV1 (i := 17) rfl ⟨lX9_83, rfl, rfl⟩ k1 ⟨_, rfl, rfl⟩ rfl (x_append hRd (by omega) (by omega) (fun M1 hRd1 fr1 => ?_))
        obtain ⟨h0, f, at0, ft, fp, k1, k2, h3⟩ := id hRd1
        have kR := fr1.at kR (by omega)
        refine p_aload_n (i := 18) rfl rfl ?_
        refine p_getf (i := 19) rfl fX9_10 kR rfl ?_
        refine p_getf (i := 20) rfl fX9_79 k1 rfl ?_
        refine p_iret (i := 21) rfl rfl (rfl) ?_
        rw [if_neg (by omega), if_neg (by omega)] at h
        have e : (((tx ++ [a]).length : Nat) : Int) = ((tx.length : Nat) : Int) + 1 := by simp
        rw [e]
        exact h M1 ⟨la, sa, (hRt.fi fr1 (by omega)), hRd1, (hHi.fi fr1 (by omega)), (hIr.fi fr1 (by omega)), (hI0.fi fr1 (by omega)), (hI1.fi fr1 (by omega)), (hPa.fi fr1 (by omega)), (hTr.fi fr1 (by omega)), (hTu.fi fr1 (by omega)), (hMe.fi fr1 (by omega)), (hBo.fi fr1 (by omega)), (hLi.fi fr1 (by omega)), (hLs.fi fr1 (by omega)), b1, b2, b3, b4, b5, b6, b7⟩ (fr1.weak (by omega))
      · refine p_ldc (i := 12) rfl kX9_82 ?_
        refine p_iret (i := 13) rfl rfl (rfl) ?_
        rw [if_neg (by omega), if_pos (by omega)] at h
        exact h M hX FrI.rf
    · refine p_ldc (i := 5) rfl kX9_78 ?_
      refine p_iret (i := 6) rfl rfl (rfl) ?_
      rw [if_pos (by omega)] at h
      exact h M hX FrI.rf
theorem X_fault {M : AM} {tx : List Int} {fa : Int} {ln : LN} {g : GS} {un : List GS} {i0 i1 : Option (GS × Int)} {sd : Int} {me bo : List (Int × Int)} {Q : Option Value → AM → Prop} (hX : XW M (tx, fa, ln, g, un, i0, i1, sd, me, bo)) (h : ∀ M', XW M' (tx, fa, ln, g, un, i0, i1, sd, me, bo) → FrI 0 276 M M' → Q (some (zI (a_fault (tx, fa, ln, g, un, i0, i1, sd, me, bo)))) M') : C mX9_fault [.ref 0] M Q := by
  obtain ⟨la, sa, hRt, hRd, hHi, hIr, hI0, hI1, hPa, hTr, hTu, hMe, hBo, hLi, hLs, b1, b2, b3, b4, b5, b6, b7⟩ := id hX
  obtain ⟨kR, hla⟩ := id hRt
  refine C_of okX9_fault (by decide) (Nat.le_of_ble_eq_true rfl) ?_
  show P none mX9_fault 0 [.ref 0] [] _ _
  refine p_aload_n (i := 0) rfl rfl ?_
  refine p_getf (i := 1) rfl fX9_70 kR rfl ?_
  refine p_iret (i := 2) rfl rfl (rfl) ?_
  exact h M hX FrI.rf
theorem X_scene {M : AM} {tx : List Int} {fa : Int} {ln : LN} {g : GS} {un : List GS} {i0 i1 : Option (GS × Int)} {sd : Int} {me bo : List (Int × Int)} {x a : Int} {Q : Option Value → AM → Prop} (hX : XW M (tx, fa, ln, g, un, i0, i1, sd, me, bo)) (hx : -2147483648 ≤ x ∧ x ≤ 2147483647) (ha : -2147483648 ≤ a ∧ a ≤ 2147483647) (h : ∀ M', XW M' (tx, fa, ln, g, un, i0, i1, sd, me, bo) → FrI 0 276 M M' → Q (some (zI (a_scene (tx, fa, ln, g, un, i0, i1, sd, me, bo) x a))) M') : C mX9_scene [.ref 0, zI x, zI a] M Q := by
  have h := h M hX FrI.rf
  dsimp only [a_scene] at h
  obtain ⟨la, sa, hRt, hRd, hHi, hIr, hI0, hI1, hPa, hTr, hTu, hMe, hBo, hLi, hLs, b1, b2, b3, b4, b5, b6, b7⟩ := id hX
  obtain ⟨kR, hla⟩ := id hRt
  obtain ⟨⟨o1, o2, o3, o4, o5, o6, o7⟩, kf, bf, lc, lkf, ⟨hb, hk, hr, hc, ⟨gg, hg, hgi⟩, hrow⟩, hkb, hlk⟩ := id hLi
  refine C_of okX9_scene (by decide) (Nat.le_of_ble_eq_true rfl) ?_
  show P none mX9_scene 0 [.ref 0, zI x, zI a] [] _ _
  refine p_aload_n (i := 0) rfl rfl ?_
  refine p_getf (i := 1) rfl fX9_63 kR rfl ?_
  refine p_iload_n (i := 2) rfl rfl ?_
  refine p_cV1 (i := 3) rfl ⟨lX9_154, rfl, rfl⟩ hb ⟨_, rfl, rfl⟩ rfl (x_hasScene hLi hx (fun q => ?_) (fun q => ?_))
  · rw [if_neg (not_not_intro q)] at h
    refine p_if_ne (i := 4) 14 rfl (by decide) (by omega) (fun c8 => ?_) (fun c8 => by exfalso; omega)
    refine p_iload_n (i := 7) rfl rfl ?_
    by_cases hc : 0 ≤ a ∧ a < 4
    · rw [if_neg (not_not_intro hc)] at h
      rcases (show a = 0 ∨ a = 1 ∨ a = 2 ∨ a = 3 by omega) with rfl | rfl | rfl | rfl
      · refine p_tsIn (i := 8) 44 rfl (by omega) (by omega) (by rfl) (by decide) ?_
        refine p_aload_n (i := 9) rfl rfl ?_
        refine p_getf (i := 10) rfl fX9_63 kR rfl ?_
        refine p_iload_n (i := 11) rfl rfl ?_
        refine p_cV1 (i := 12) rfl ⟨lX9_159, rfl, rfl⟩ hb ⟨_, rfl, rfl⟩ rfl (x_kindOf hLi q ?_)
        refine p_iret (i := 13) rfl rfl (rfl) ?_
        exact h
      ·
        refine p_tsIn (i := 8) 53 rfl (by omega) (by omega) (by rfl) (by decide) ?_
        refine p_aload_n (i := 14) rfl rfl ?_
        refine p_getf (i := 15) rfl fX9_63 kR rfl ?_
        refine p_iload_n (i := 16) rfl rfl ?_
        refine p_cV1 (i := 17) rfl ⟨lX9_162, rfl, rfl⟩ hb ⟨_, rfl, rfl⟩ rfl (x_brightOf hLi q ?_)
        refine p_iret (i := 18) rfl rfl (rfl) ?_
        exact h
      ·
        refine p_tsIn (i := 8) 62 rfl (by omega) (by omega) (by rfl) (by decide) ?_
        refine p_aload_n (i := 19) rfl rfl ?_
        refine p_getf (i := 20) rfl fX9_63 kR rfl ?_
        refine p_iload_n (i := 21) rfl rfl ?_
        refine p_iconst (i := 22) rfl ?_
        refine p_cV2 (i := 23) rfl ⟨lX9_165, rfl, rfl⟩ hb ⟨_, rfl, rfl⟩ rfl (x_veil hLi q (by omega) ?_)
        refine p_iret (i := 24) rfl rfl (rfl) ?_
        exact h
      ·
        refine p_tsIn (i := 8) 72 rfl (by omega) (by omega) (by rfl) (by decide) ?_
        refine p_aload_n (i := 25) rfl rfl ?_
        refine p_iload_n (i := 26) rfl rfl ?_
        refine p_cV1 (i := 27) rfl ⟨lX9_169, rfl, rfl⟩ kR ⟨_, rfl, rfl⟩ rfl (x_scenesTakenFor hRt hPa hLi hx ?_)
        refine p_iret (i := 28) rfl rfl (rfl) ?_
        exact h
    · rw [if_pos hc] at h
      refine p_tsOut (i := 8) 78 rfl (by decide) (by omega) (by omega) ?_
      refine p_ldc (i := 29) rfl kX9_78 ?_
      refine p_iret (i := 30) rfl rfl (rfl) ?_
      exact h
  · rw [if_pos q] at h
    refine p_if_ne (i := 4) 14 rfl (by decide) (by omega) (fun c8 => by exfalso; omega) (fun c8 => ?_)
    refine p_ldc (i := 5) rfl kX9_158 ?_
    refine p_iret (i := 6) rfl rfl (rfl) ?_
    exact h
theorem X_wearer {M : AM} {tx : List Int} {fa : Int} {ln : LN} {g : GS} {un : List GS} {i0 i1 : Option (GS × Int)} {sd : Int} {me bo : List (Int × Int)} {x a : Int} {Q : Option Value → AM → Prop} (hX : XW M (tx, fa, ln, g, un, i0, i1, sd, me, bo)) (hx : -2147483648 ≤ x ∧ x ≤ 2147483647) (ha : -2147483648 ≤ a ∧ a ≤ 2147483647) (h : ∀ M', XW M' (tx, fa, ln, g, un, i0, i1, sd, me, bo) → FrI 0 276 M M' → Q (some (zI (a_wearer (tx, fa, ln, g, un, i0, i1, sd, me, bo) x a))) M') : C mX9_wearer [.ref 0, zI x, zI a] M Q := by
  have h := h M hX FrI.rf
  dsimp only [a_wearer] at h
  obtain ⟨la, sa, hRt, hRd, hHi, hIr, hI0, hI1, hPa, hTr, hTu, hMe, hBo, hLi, hLs, b1, b2, b3, b4, b5, b6, b7⟩ := id hX
  obtain ⟨kR, hla⟩ := id hRt
  obtain ⟨⟨o1, o2, o3, o4, o5, o6, o7⟩, kf, bf, lc, lkf, ⟨hb, hk, hr, hc, ⟨gg, hg, hgi⟩, hrow⟩, hkb, hlk⟩ := id hLi
  obtain ⟨⟨q1, q2, q3, q4, q5, q6, q7, q8, q9, q10, q11⟩, sc, wh, st, hs, lr, lf, lz, ⟨hp, hS, hW, hT, hH, hG, hR⟩, rL, rH, rG⟩ := id hPa
  refine C_of okX9_wearer (by decide) (Nat.le_of_ble_eq_true rfl) ?_
  show P none mX9_wearer 0 [.ref 0, zI x, zI a] [] _ _
  refine p_aload_n (i := 0) rfl rfl ?_
  refine p_getf (i := 1) rfl fX9_63 kR rfl ?_
  refine p_iload_n (i := 2) rfl rfl ?_
  refine p_cV1 (i := 3) rfl ⟨lX9_172, rfl, rfl⟩ hb ⟨_, rfl, rfl⟩ rfl (x_hasWearer hLi hx (fun q => ?_) (fun q => ?_))
  · rw [if_neg (not_not_intro q)] at h
    have hh := q8 x.toNat (by omega)
    obtain ⟨n1, n2, n3⟩ := o6 x.toNat (by omega)
    have hm : (g.2.2.2.1.getD x.toNat 0).toNat % lkN ln x.toNat < lkN ln x.toNat := Nat.mod_lt _ (by omega)
    refine p_if_ne (i := 4) 14 rfl (by decide) (by omega) (fun c8 => ?_) (fun c8 => by exfalso; omega)
    refine p_iload_n (i := 7) rfl rfl ?_
    by_cases hc : 0 ≤ a ∧ a < 5
    · rw [if_neg (not_not_intro hc)] at h
      rcases (show a = 0 ∨ a = 1 ∨ a = 2 ∨ a = 3 ∨ a = 4 by omega) with rfl | rfl | rfl | rfl | rfl
      · refine p_tsIn (i := 8) 48 rfl (by omega) (by omega) (by rfl) (by decide) ?_
        refine p_aload_n (i := 9) rfl rfl ?_
        refine p_getf (i := 10) rfl fX9_63 kR rfl ?_
        refine p_iload_n (i := 11) rfl rfl ?_
        refine p_cV1 (i := 12) rfl ⟨lX9_175, rfl, rfl⟩ hb ⟨_, rfl, rfl⟩ rfl (x_looksOf hLi q ?_)
        refine p_iret (i := 13) rfl rfl (rfl) ?_
        exact h
      ·
        refine p_tsIn (i := 8) 57 rfl (by omega) (by omega) (by rfl) (by decide) ?_
        refine p_aload_n (i := 14) rfl rfl ?_
        refine p_getf (i := 15) rfl fX9_32 kR rfl ?_
        refine p_iload_n (i := 16) rfl rfl ?_
        refine p_cV1 (i := 17) rfl ⟨lX9_178, rfl, rfl⟩ hp ⟨_, rfl, rfl⟩ rfl (x_yearsOf hPa (by omega) ?_)
        refine p_iret (i := 18) rfl rfl (rfl) ?_
        exact h
      ·
        refine p_tsIn (i := 8) 66 rfl (by omega) (by omega) (by rfl) (by decide) ?_
        refine p_aload_n (i := 19) rfl rfl ?_
        refine p_getf (i := 20) rfl fX9_32 kR rfl ?_
        refine p_iload_n (i := 21) rfl rfl ?_
        refine p_cV1 (i := 22) rfl ⟨lX9_181, rfl, rfl⟩ hp ⟨_, rfl, rfl⟩ rfl (x_scenesOf hPa (by omega) ?_)
        refine p_iret (i := 23) rfl rfl (rfl) ?_
        exact h
      ·
        refine p_tsIn (i := 8) 75 rfl (by omega) (by omega) (by rfl) (by decide) ?_
        refine p_aload_n (i := 24) rfl rfl ?_
        refine p_iload_n (i := 25) rfl rfl ?_
        refine p_top (b := ((x.toNat : Nat) : Int)) (by omega) ?_
        refine p_cV1 (i := 26) rfl ⟨lX9_184, rfl, rfl⟩ kR ⟨_, rfl, rfl⟩ rfl (x_kinOf hRt hPa hLi (by omega) ?_)
        refine p_iret (i := 27) rfl rfl (rfl) ?_
        exact h
      ·
        refine p_tsIn (i := 8) 81 rfl (by omega) (by omega) (by rfl) (by decide) ?_
        refine p_aload_n (i := 28) rfl rfl ?_
        refine p_aload_n (i := 29) rfl rfl ?_
        refine p_getf (i := 30) rfl fX9_63 kR rfl ?_
        refine p_iload_n (i := 31) rfl rfl ?_
        refine p_aload_n (i := 32) rfl rfl ?_
        refine p_getf (i := 33) rfl fX9_32 kR rfl ?_
        refine p_iload_n (i := 34) rfl rfl ?_
        refine p_cV1 (i := 35) rfl ⟨lX9_178, rfl, rfl⟩ hp ⟨_, rfl, rfl⟩ rfl (x_yearsOf hPa (by omega) ?_)
        refine p_cV2 (i := 36) rfl ⟨lX9_187, rfl, rfl⟩ hb ⟨_, rfl, rfl⟩ rfl (x_sceneInYear hLi q (by omega) ?_)
        refine p_cV1 (i := 37) rfl ⟨lX9_190, rfl, rfl⟩ kR ⟨_, rfl, rfl⟩ rfl (x_takenNow hRt hPa hLi (n3 _ hm) ?_)
        refine p_iret (i := 38) rfl rfl (rfl) ?_
        exact h
    · rw [if_pos hc] at h
      refine p_tsOut (i := 8) 102 rfl (by decide) (by omega) (by omega) ?_
      refine p_ldc (i := 39) rfl kX9_78 ?_
      refine p_iret (i := 40) rfl rfl (rfl) ?_
      exact h
  · rw [if_pos q] at h
    refine p_if_ne (i := 4) 14 rfl (by decide) (by omega) (fun c8 => by exfalso; omega) (fun c8 => ?_)
    refine p_ldc (i := 5) rfl kX9_158 ?_
    refine p_iret (i := 6) rfl rfl (rfl) ?_
    exact h
theorem X_layer {M : AM} {tx : List Int} {fa : Int} {ln : LN} {g : GS} {un : List GS} {i0 i1 : Option (GS × Int)} {sd : Int} {me bo : List (Int × Int)} {x a : Int} {Q : Option Value → AM → Prop} (hX : XW M (tx, fa, ln, g, un, i0, i1, sd, me, bo)) (hx : -2147483648 ≤ x ∧ x ≤ 2147483647) (ha : -2147483648 ≤ a ∧ a ≤ 2147483647) (h : ∀ M', XW M' (tx, fa, ln, g, un, i0, i1, sd, me, bo) → FrI 0 276 M M' → Q (some (zI (a_layer (tx, fa, ln, g, un, i0, i1, sd, me, bo) x a))) M') : C mX9_layer [.ref 0, zI x, zI a] M Q := by
  have h := h M hX FrI.rf
  dsimp only [a_layer] at h
  obtain ⟨la, sa, hRt, hRd, hHi, hIr, hI0, hI1, hPa, hTr, hTu, hMe, hBo, hLi, hLs, b1, b2, b3, b4, b5, b6, b7⟩ := id hX
  obtain ⟨kR, hla⟩ := id hRt
  obtain ⟨⟨q1, q2, q3, q4, q5, q6, q7, q8, q9, q10, q11⟩, sc, wh, st, hs, lr, lf, lz, ⟨hp, hS, hW, hT, hH, hG, hR⟩, rL, rH, rG⟩ := id hPa
  refine C_of okX9_layer (by decide) (Nat.le_of_ble_eq_true rfl) ?_
  show P none mX9_layer 0 [.ref 0, zI x, zI a] [] _ _
  refine p_aload_n (i := 0) rfl rfl ?_
  refine p_getf (i := 1) rfl fX9_32 kR rfl ?_
  refine p_iload_n (i := 2) rfl rfl ?_
  refine p_cV1 (i := 3) rfl ⟨lX9_193, rfl, rfl⟩ hp ⟨_, rfl, rfl⟩ rfl (x_hasLayer hPa hx (fun q => ?_) (fun q => ?_))
  · rw [if_neg (not_not_intro q)] at h
    obtain ⟨e1, e2, e3⟩ := rL x.toNat (by omega)
    refine p_if_ne (i := 4) 14 rfl (by decide) (by omega) (fun c8 => ?_) (fun c8 => by exfalso; omega)
    refine p_iload_n (i := 7) rfl rfl ?_
    by_cases hc : 0 ≤ a ∧ a < 3
    · rw [if_neg (not_not_intro hc)] at h
      rcases (show a = 0 ∨ a = 1 ∨ a = 2 by omega) with rfl | rfl | rfl
      · refine p_tsIn (i := 8) 40 rfl (by omega) (by omega) (by rfl) (by decide) ?_
        refine p_aload_n (i := 9) rfl rfl ?_
        refine p_getf (i := 10) rfl fX9_32 kR rfl ?_
        refine p_getf (i := 11) rfl fX9_196 hp rfl ?_
        refine p_iload_n (i := 12) rfl rfl ?_
        refine p_iaX (i := 13) (x.toNat) rfl hS (by omega) (by omega) (by decide) ?_
        refine p_iret (i := 14) rfl rfl (rfl) ?_
        rw [e1]
        exact h
      ·
        refine p_tsIn (i := 8) 50 rfl (by omega) (by omega) (by rfl) (by decide) ?_
        refine p_aload_n (i := 15) rfl rfl ?_
        refine p_getf (i := 16) rfl fX9_32 kR rfl ?_
        refine p_getf (i := 17) rfl fX9_200 hp rfl ?_
        refine p_iload_n (i := 18) rfl rfl ?_
        refine p_iaX (i := 19) (x.toNat) rfl hW (by omega) (by omega) (by decide) ?_
        refine p_iret (i := 20) rfl rfl (rfl) ?_
        rw [e2]
        exact h
      ·
        refine p_tsIn (i := 8) 60 rfl (by omega) (by omega) (by rfl) (by decide) ?_
        refine p_aload_n (i := 21) rfl rfl ?_
        refine p_getf (i := 22) rfl fX9_32 kR rfl ?_
        refine p_getf (i := 23) rfl fX9_203 hp rfl ?_
        refine p_iload_n (i := 24) rfl rfl ?_
        refine p_iaX (i := 25) (x.toNat) rfl hT (by omega) (by omega) (by decide) ?_
        refine p_iret (i := 26) rfl rfl (rfl) ?_
        rw [e3]
        exact h
    · rw [if_pos hc] at h
      refine p_tsOut (i := 8) 70 rfl (by decide) (by omega) (by omega) ?_
      refine p_ldc (i := 27) rfl kX9_78 ?_
      refine p_iret (i := 28) rfl rfl (rfl) ?_
      exact h
  · rw [if_pos q] at h
    refine p_if_ne (i := 4) 14 rfl (by decide) (by omega) (fun c8 => by exfalso; omega) (fun c8 => ?_)
    refine p_ldc (i := 5) rfl kX9_158 ?_
    refine p_iret (i := 6) rfl rfl (rfl) ?_
    exact h
theorem X_logged {M : AM} {tx : List Int} {fa : Int} {ln : LN} {g : GS} {un : List GS} {i0 i1 : Option (GS × Int)} {sd : Int} {me bo : List (Int × Int)} {x a : Int} {Q : Option Value → AM → Prop} (hX : XW M (tx, fa, ln, g, un, i0, i1, sd, me, bo)) (hx : -2147483648 ≤ x ∧ x ≤ 2147483647) (ha : -2147483648 ≤ a ∧ a ≤ 2147483647) (h : ∀ M', XW M' (tx, fa, ln, g, un, i0, i1, sd, me, bo) → FrI 0 276 M M' → Q (some (zI (a_logged (tx, fa, ln, g, un, i0, i1, sd, me, bo) x a))) M') : C mX9_logged [.ref 0, zI x, zI a] M Q := by
  have h := h M hX FrI.rf
  dsimp only [a_logged] at h
  obtain ⟨la, sa, hRt, hRd, hHi, hIr, hI0, hI1, hPa, hTr, hTu, hMe, hBo, hLi, hLs, b1, b2, b3, b4, b5, b6, b7⟩ := id hX
  obtain ⟨kR, hla⟩ := id hRt
  obtain ⟨⟨q1, q2, q3, q4, q5, q6, q7, q8, q9, q10, q11⟩, sc, wh, st, hs, lr, lf, lz, ⟨hp, hS, hW, hT, hH, hG, hR⟩, rL, rH, rG⟩ := id hPa
  refine C_of okX9_logged (by decide) (Nat.le_of_ble_eq_true rfl) ?_
  show P none mX9_logged 0 [.ref 0, zI x, zI a] [] _ _
  refine p_iload_n (i := 0) rfl rfl ?_
  refine p_if_lt (i := 1) 9 rfl (by decide) (by omega) (fun c1 => ?_) (fun c1 => ?_)
  · refine p_ldc (i := 5) rfl kX9_78 ?_
    refine p_iret (i := 6) rfl rfl (rfl) ?_
    rw [if_pos (by omega)] at h
    exact h
  · refine p_iload_n (i := 2) rfl rfl ?_
    refine p_iconst (i := 3) rfl ?_
    refine p_icmp_lt (i := 4) 12 rfl (by decide) (by omega) (by omega) (fun c6 => ?_) (fun c6 => ?_)
    · rw [if_neg (by omega)] at h
      refine p_aload_n (i := 7) rfl rfl ?_
      refine p_getf (i := 8) rfl fX9_32 kR rfl ?_
      refine p_getf (i := 9) rfl fX9_142 hp rfl ?_
      refine p_iload_n (i := 10) rfl rfl ?_
      refine p_iload_n (i := 11) rfl rfl ?_
      refine p_top (b := ((a.toNat : Nat) : Int)) (by omega) ?_
      refine p_cV2 (i := 12) rfl ⟨lX9_206, rfl, rfl⟩ hG ⟨_, rfl, rfl⟩ rfl (x_logAt ⟨lr, lf, lz, hG, hR, rG⟩ hx (by omega) ?_)
      refine p_iret (i := 13) rfl rfl (rfl) ?_
      exact h
    · refine p_ldc (i := 5) rfl kX9_78 ?_
      refine p_iret (i := 6) rfl rfl (rfl) ?_
      rw [if_pos (by omega)] at h
      exact h
theorem X_takes {M : AM} {tx : List Int} {fa : Int} {ln : LN} {g : GS} {un : List GS} {i0 i1 : Option (GS × Int)} {sd : Int} {me bo : List (Int × Int)} {x : Int} {Q : Option Value → AM → Prop} (hX : XW M (tx, fa, ln, g, un, i0, i1, sd, me, bo)) (hx : -2147483648 ≤ x ∧ x ≤ 2147483647) (h : ∀ M', XW M' (tx, fa, ln, g, un, i0, i1, sd, me, bo) → FrI 0 276 M M' → Q (some (zI (a_takes (tx, fa, ln, g, un, i0, i1, sd, me, bo) x))) M') : C mX9_takes [.ref 0, zI x] M Q := by
  have h := h M hX FrI.rf
  dsimp only [a_takes] at h
  obtain ⟨la, sa, hRt, hRd, hHi, hIr, hI0, hI1, hPa, hTr, hTu, hMe, hBo, hLi, hLs, b1, b2, b3, b4, b5, b6, b7⟩ := id hX
  obtain ⟨kR, hla⟩ := id hRt
  obtain ⟨⟨o1, o2, o3, o4, o5, o6, o7⟩, kf, bf, lc, lkf, ⟨hb, hk, hr, hc, ⟨gg, hg, hgi⟩, hrow⟩, hkb, hlk⟩ := id hLi
  refine C_of okX9_takes (by decide) (Nat.le_of_ble_eq_true rfl) ?_
  show P none mX9_takes 0 [.ref 0, zI x] [] _ _
  refine p_aload_n (i := 0) rfl rfl ?_
  refine p_getf (i := 1) rfl fX9_63 kR rfl ?_
  refine p_iload_n (i := 2) rfl rfl ?_
  refine p_cV1 (i := 3) rfl ⟨lX9_154, rfl, rfl⟩ hb ⟨_, rfl, rfl⟩ rfl (x_hasScene hLi hx (fun q => ?_) (fun q => ?_))
  · rw [if_neg (not_not_intro q)] at h
    refine p_if_ne (i := 4) 14 rfl (by decide) (by omega) (fun c8 => ?_) (fun c8 => by exfalso; omega)
    refine p_aload_n (i := 7) rfl rfl ?_
    refine p_iload_n (i := 8) rfl rfl ?_
    refine p_cV1 (i := 9) rfl ⟨lX9_190, rfl, rfl⟩ kR ⟨_, rfl, rfl⟩ rfl (x_takenNow hRt hPa hLi q ?_)
    refine p_iret (i := 10) rfl rfl (rfl) ?_
    exact h
  · rw [if_pos q] at h
    refine p_if_ne (i := 4) 14 rfl (by decide) (by omega) (fun c8 => by exfalso; omega) (fun c8 => ?_)
    refine p_ldc (i := 5) rfl kX9_158 ?_
    refine p_iret (i := 6) rfl rfl (rfl) ?_
    exact h
theorem X_only {M : AM} {tx : List Int} {fa : Int} {ln : LN} {g : GS} {un : List GS} {i0 i1 : Option (GS × Int)} {sd : Int} {me bo : List (Int × Int)} {k x : Int} {Q : Option Value → AM → Prop} (hX : XW M (tx, fa, ln, g, un, i0, i1, sd, me, bo)) (hkk : -2147483648 ≤ k ∧ k ≤ 2147483647) (hx : -2147483648 ≤ x ∧ x ≤ 2147483647) (h : ∀ M', XW M' (tx, fa, ln, g, un, i0, i1, sd, me, bo) → FrI 0 276 M M' → Q (some (zI (a_only (tx, fa, ln, g, un, i0, i1, sd, me, bo) k x))) M') : C mX9_only [.ref 0, zI k, zI x] M Q := by
  have h := h M hX FrI.rf
  dsimp only [a_only] at h
  obtain ⟨la, sa, hRt, hRd, hHi, hIr, hI0, hI1, hPa, hTr, hTu, hMe, hBo, hLi, hLs, b1, b2, b3, b4, b5, b6, b7⟩ := id hX
  obtain ⟨kR, hla⟩ := id hRt
  obtain ⟨⟨o1, o2, o3, o4, o5, o6, o7⟩, kf, bf, lc, lkf, ⟨hb, hk, hr, hc, ⟨gg, hg, hgi⟩, hrow⟩, hkb, hlk⟩ := id hLi
  obtain ⟨⟨q1, q2, q3, q4, q5, q6, q7, q8, q9, q10, q11⟩, sc, wh, st, hs, lr, lf, lz, ⟨hp, hS, hW, hT, hH, hG, hR⟩, rL, rH, rG⟩ := id hPa
  refine C_of okX9_only (by decide) (Nat.le_of_ble_eq_true rfl) ?_
  show P none mX9_only 0 [.ref 0, zI k, zI x] [] _ _
  refine p_aload_n (i := 0) rfl rfl ?_
  refine p_getf (i := 1) rfl fX9_32 kR rfl ?_
  refine p_iload_n (i := 2) rfl rfl ?_
  refine p_cV1 (i := 3) rfl ⟨lX9_193, rfl, rfl⟩ hp ⟨_, rfl, rfl⟩ rfl (x_hasLayer hPa hkk (fun q => ?_) (fun q => ?_))
  · refine p_if_eq (i := 4) 22 rfl (by decide) (by omega) (fun c8 => by exfalso; omega) (fun c8 => ?_)
    refine p_aload_n (i := 5) rfl rfl ?_
    refine p_getf (i := 6) rfl fX9_63 kR rfl ?_
    refine p_iload_n (i := 7) rfl rfl ?_
    refine p_cV1 (i := 8) rfl ⟨lX9_154, rfl, rfl⟩ hb ⟨_, rfl, rfl⟩ rfl (x_hasScene hLi hx (fun q' => ?_) (fun q' => ?_))
    · refine p_if_ne (i := 9) 25 rfl (by decide) (by omega) (fun c19 => ?_) (fun c19 => by exfalso; omega)
      rw [if_neg (by omega)] at h
      obtain ⟨e1, e2, e3⟩ := rL k.toNat (by omega)
      have e4 := q2 k.toNat (by omega)
      obtain ⟨n1, n2, n3, n4⟩ := o5 x.toNat (by omega)
      refine p_aload_n (i := 12) rfl rfl ?_
      refine p_getf (i := 13) rfl fX9_32 kR rfl ?_
      refine p_getf (i := 14) rfl fX9_203 hp rfl ?_
      refine p_iload_n (i := 15) rfl rfl ?_
      refine p_iaX (i := 16) (k.toNat) rfl hT (by omega) (by omega) (by decide) ?_
      refine p_aload_n (i := 17) rfl rfl ?_
      refine p_getf (i := 18) rfl fX9_63 kR rfl ?_
      refine p_iload_n (i := 19) rfl rfl ?_
      refine p_iconst (i := 20) rfl ?_
      refine p_cV2 (i := 21) rfl ⟨lX9_165, rfl, rfl⟩ hb ⟨_, rfl, rfl⟩ rfl (x_veil hLi q' (by omega) ?_)
      refine p_icmp_gt (i := 22) 48 rfl (by decide) (by omega) (by omega) (fun c43 => ?_) (fun c43 => ?_)
      · refine p_aload_n (i := 25) rfl rfl ?_
        refine p_getf (i := 26) rfl fX9_32 kR rfl ?_
        refine p_iload_n (i := 27) rfl rfl ?_
        rw [if_neg (by omega)] at h
        refine p_top (b := ((k.toNat : Nat) : Int)) (by omega) ?_
        refine p_cV1 (i := 28) rfl ⟨lX9_256, rfl, rfl⟩ hp ⟨_, rfl, rfl⟩ rfl (x_layersBefore hPa (by omega) ?_)
        refine p_iret (i := 29) rfl rfl (rfl) ?_
        exact h
      · refine p_iconst (i := 23) rfl ?_
        refine p_iret (i := 24) rfl rfl (rfl) ?_
        rw [if_pos (by omega)] at h
        exact h
    · refine p_if_ne (i := 9) 25 rfl (by decide) (by omega) (fun c19 => by exfalso; omega) (fun c19 => ?_)
      refine p_ldc (i := 10) rfl kX9_158 ?_
      refine p_iret (i := 11) rfl rfl (rfl) ?_
      rw [if_pos (by omega)] at h
      exact h
  · refine p_if_eq (i := 4) 22 rfl (by decide) (by omega) (fun c8 => ?_) (fun c8 => by exfalso; omega)
    refine p_ldc (i := 10) rfl kX9_158 ?_
    refine p_iret (i := 11) rfl rfl (rfl) ?_
    rw [if_pos (by omega)] at h
    exact h
theorem X_told {M : AM} {tx : List Int} {fa : Int} {ln : LN} {g : GS} {un : List GS} {i0 i1 : Option (GS × Int)} {sd : Int} {me bo : List (Int × Int)} {a : Int} {Q : Option Value → AM → Prop} (hX : XW M (tx, fa, ln, g, un, i0, i1, sd, me, bo)) (ha : -2147483648 ≤ a ∧ a ≤ 2147483647) (h : ∀ M', XW M' (tx, fa, ln, g, un, i0, i1, sd, me, bo) → FrI 0 276 M M' → Q (some (zI (a_told (tx, fa, ln, g, un, i0, i1, sd, me, bo) a))) M') : C mX9_told [.ref 0, zI a] M Q := by
  have h := h M hX FrI.rf
  dsimp only [a_told] at h
  obtain ⟨la, sa, hRt, hRd, hHi, hIr, hI0, hI1, hPa, hTr, hTu, hMe, hBo, hLi, hLs, b1, b2, b3, b4, b5, b6, b7⟩ := id hX
  obtain ⟨kR, hla⟩ := id hRt
  obtain ⟨⟨o1, o2, o3, o4, o5, o6, o7⟩, kf, bf, lc, lkf, ⟨hb, hk, hr, hc, ⟨gg, hg, hgi⟩, hrow⟩, hkb, hlk⟩ := id hLi
  obtain ⟨⟨q1, q2, q3, q4, q5, q6, q7, q8, q9, q10, q11⟩, sc, wh, st, hs, lr, lf, lz, ⟨hp, hS, hW, hT, hH, hG, hR⟩, rL, rH, rG⟩ := id hPa
  obtain ⟨v0, vf, va, vt, vp, w1, w2, v3⟩ := id hRd
  obtain ⟨v4, vg, vs, w3, w4, v5⟩ := id hHi
  obtain ⟨v6, vm, vn, w5, w6, w7, v7⟩ := id hMe
  obtain ⟨v8, vbm, vbn, w8, w9, w10, v9⟩ := id hBo
  have elz : lz = (g.2.2.2.2.length : Nat) := (rG.2.2.2.2 rfl).1
  refine C_of okX9_told (by decide) (Nat.le_of_ble_eq_true rfl) ?_
  show P none mX9_told 0 [.ref 0, zI a] [] _ _
  refine p_iload_n (i := 0) rfl rfl ?_
  by_cases hc : 0 ≤ a ∧ a < 16
  · rw [if_neg (not_not_intro hc)] at h
    rcases (show a = 0 ∨ a = 1 ∨ a = 2 ∨ a = 3 ∨ a = 4 ∨ a = 5 ∨ a = 6 ∨ a = 7 ∨ a = 8 ∨ a = 9 ∨ a = 10 ∨ a = 11 ∨ a = 12 ∨ a = 13 ∨ a = 14 ∨ a = 15 by omega) with rfl | rfl | rfl | rfl | rfl | rfl | rfl | rfl | rfl | rfl | rfl | rfl | rfl | rfl | rfl | rfl
    ·
      refine p_tsIn (i := 1) 80 rfl (by omega) (by omega) (by rfl) (by decide) ?_
      refine p_aload_n (i := 2) rfl rfl ?_
      refine p_getf (i := 3) rfl fX9_63 kR rfl ?_
      refine p_getf (i := 4) rfl fX9_110 hb rfl ?_
      refine p_iret (i := 5) rfl rfl (rfl) ?_
      exact h
    ·
      refine p_tsIn (i := 1) 88 rfl (by omega) (by omega) (by rfl) (by decide) ?_
      refine p_aload_n (i := 6) rfl rfl ?_
      refine p_getf (i := 7) rfl fX9_63 kR rfl ?_
      refine p_getf (i := 8) rfl fX9_107 hb rfl ?_
      refine p_iret (i := 9) rfl rfl (rfl) ?_
      exact h
    ·
      refine p_tsIn (i := 1) 96 rfl (by omega) (by omega) (by rfl) (by decide) ?_
      refine p_aload_n (i := 10) rfl rfl ?_
      refine p_getf (i := 11) rfl fX9_63 kR rfl ?_
      refine p_getf (i := 12) rfl fX9_113 hb rfl ?_
      refine p_iret (i := 13) rfl rfl (rfl) ?_
      exact h
    ·
      refine p_tsIn (i := 1) 104 rfl (by omega) (by omega) (by rfl) (by decide) ?_
      refine p_aload_n (i := 14) rfl rfl ?_
      refine p_getf (i := 15) rfl fX9_10 kR rfl ?_
      refine p_getf (i := 16) rfl fX9_79 w1 rfl ?_
      refine p_iret (i := 17) rfl rfl (rfl) ?_
      exact h
    ·
      refine p_tsIn (i := 1) 112 rfl (by omega) (by omega) (by rfl) (by decide) ?_
      refine p_aload_n (i := 18) rfl rfl ?_
      refine p_getf (i := 19) rfl fX9_32 kR rfl ?_
      refine p_getf (i := 20) rfl fX9_116 hp rfl ?_
      refine p_iret (i := 21) rfl rfl (rfl) ?_
      exact h
    ·
      refine p_tsIn (i := 1) 120 rfl (by omega) (by omega) (by rfl) (by decide) ?_
      refine p_aload_n (i := 22) rfl rfl ?_
      refine p_getf (i := 23) rfl fX9_32 kR rfl ?_
      refine p_getf (i := 24) rfl fX9_119 hp rfl ?_
      refine p_iret (i := 25) rfl rfl (rfl) ?_
      exact h
    ·
      refine p_tsIn (i := 1) 128 rfl (by omega) (by omega) (by rfl) (by decide) ?_
      refine p_aload_n (i := 26) rfl rfl ?_
      refine p_getf (i := 27) rfl fX9_32 kR rfl ?_
      refine p_getf (i := 28) rfl fX9_122 hp rfl ?_
      refine p_iret (i := 29) rfl rfl (rfl) ?_
      exact h
    ·
      refine p_tsIn (i := 1) 136 rfl (by omega) (by omega) (by rfl) (by decide) ?_
      refine p_aload_n (i := 30) rfl rfl ?_
      refine p_getf (i := 31) rfl fX9_32 kR rfl ?_
      refine p_cV0 (i := 32) rfl ⟨lX9_125, rfl, rfl⟩ hp ⟨_, rfl, rfl⟩ rfl (x_darkness hPa ?_)
      refine p_iret (i := 33) rfl rfl (rfl) ?_
      exact h
    ·
      refine p_tsIn (i := 1) 144 rfl (by omega) (by omega) (by rfl) (by decide) ?_
      refine p_aload_n (i := 34) rfl rfl ?_
      refine p_cV0 (i := 35) rfl ⟨lX9_129, rfl, rfl⟩ kR ⟨_, rfl, rfl⟩ rfl (x_scenesOfAll hRt hPa hLi ?_)
      refine p_iret (i := 36) rfl rfl (rfl) ?_
      exact h
    ·
      refine p_tsIn (i := 1) 149 rfl (by omega) (by omega) (by rfl) (by decide) ?_
      refine p_aload_n (i := 37) rfl rfl ?_
      refine p_getf (i := 38) rfl fX9_32 kR rfl ?_
      refine p_cV0 (i := 39) rfl ⟨lX9_132, rfl, rfl⟩ hp ⟨_, rfl, rfl⟩ rfl (x_lowestOfWearers hPa ?_)
      refine p_iret (i := 40) rfl rfl (rfl) ?_
      exact h
    ·
      refine p_tsIn (i := 1) 157 rfl (by omega) (by omega) (by rfl) (by decide) ?_
      refine p_aload_n (i := 41) rfl rfl ?_
      refine p_getf (i := 42) rfl fX9_32 kR rfl ?_
      refine p_iconst (i := 43) rfl ?_
      refine p_cV1 (i := 44) rfl ⟨lX9_135, rfl, rfl⟩ hp ⟨_, rfl, rfl⟩ rfl (x_strongestBut hPa (wi := 0) (by decide) ?_)
      refine p_iret (i := 45) rfl rfl (rfl) ?_
      exact h
    ·
      refine p_tsIn (i := 1) 166 rfl (by omega) (by omega) (by rfl) (by decide) ?_
      refine p_aload_n (i := 46) rfl rfl ?_
      refine p_getf (i := 47) rfl fX9_32 kR rfl ?_
      refine p_cV0 (i := 48) rfl ⟨lX9_139, rfl, rfl⟩ hp ⟨_, rfl, rfl⟩ rfl (x_thickest hPa ?_)
      refine p_iret (i := 49) rfl rfl (rfl) ?_
      exact h
    ·
      refine p_tsIn (i := 1) 174 rfl (by omega) (by omega) (by rfl) (by decide) ?_
      refine p_aload_n (i := 50) rfl rfl ?_
      refine p_getf (i := 51) rfl fX9_32 kR rfl ?_
      refine p_getf (i := 52) rfl fX9_142 hp rfl ?_
      refine p_getf (i := 53) rfl fX9_146 hG rfl ?_
      refine p_iret (i := 54) rfl rfl (rfl) ?_
      rw [elz]
      exact h
    ·
      refine p_tsIn (i := 1) 185 rfl (by omega) (by omega) (by rfl) (by decide) ?_
      refine p_aload_n (i := 55) rfl rfl ?_
      refine p_getf (i := 56) rfl fX9_49 kR rfl ?_
      refine p_getf (i := 57) rfl fX9_151 w5 rfl ?_
      refine p_iret (i := 58) rfl rfl (rfl) ?_
      exact h
    ·
      refine p_tsIn (i := 1) 193 rfl (by omega) (by omega) (by rfl) (by decide) ?_
      refine p_aload_n (i := 59) rfl rfl ?_
      refine p_getf (i := 60) rfl fX9_56 kR rfl ?_
      refine p_getf (i := 61) rfl fX9_152 w8 rfl ?_
      refine p_iret (i := 62) rfl rfl (rfl) ?_
      exact h
    ·
      refine p_tsIn (i := 1) 201 rfl (by omega) (by omega) (by rfl) (by decide) ?_
      refine p_aload_n (i := 63) rfl rfl ?_
      refine p_getf (i := 64) rfl fX9_19 kR rfl ?_
      refine p_getf (i := 65) rfl fX9_153 w3 rfl ?_
      refine p_iret (i := 66) rfl rfl (rfl) ?_
      exact h
  · rw [if_pos hc] at h
    refine p_tsOut (i := 1) 209 rfl (by decide) (by omega) (by omega) ?_
    refine p_ldc (i := 67) rfl kX9_78 ?_
    refine p_iret (i := 68) rfl rfl (rfl) ?_
    exact h
