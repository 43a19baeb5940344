-- calls of the class that do
theorem x_removeB {b : Bool} {M : AM} {p ns nw : Nat} {g : GS} {k : Int} {Q : Option Value → AM → Prop} (hP : PairB b M p ns nw g) (hk : 0 ≤ k ∧ k < g.1.length) (h : ∀ M', PairB b M' p ns nw (g.1.eraseIdx k.toNat, g.2) → FrI p 7 M M' → Q none M') : C mX6_remove [.ref p, zI k] M Q := by
  obtain ⟨h0, hs, lr, lf, lz, hPW, rH, rG⟩ := hP.w
  refine x_remove hPW hk (fun M' hPW' fr => h M' (PairW.b (g := (g.1.eraseIdx k.toNat, g.2)) hPW' ?_ rH rG) fr)
  have hok := h0.ls.er (k := k.toNat)
  obtain ⟨g1, g2, g3⟩ := h0
  exact ⟨hok.1, hok.at, g3⟩
theorem x_refusal {M : AM} {la sa : Nat} {fa sd : Int} {ln : LN} {g : GS} {ns nw : Nat} {n : Int} {Q : Option Value → AM → Prop} (hRt : XRt M la sa fa sd) (hP : PairB true M 216 ns nw g) (hL : LineA M la ln) (hn : -2147483648 ≤ n ∧ n ≤ 2147483647) (h : Q (some (zI (refs ln g n))) M) : C mX9_refusalOfYears [.ref 0, zI n] M Q := by
  unfold refs at h
  obtain ⟨kR, hla⟩ := id hRt
  obtain ⟨⟨o1, o2, o3, o4, o5, o6, o7⟩, kf, bf, lc, lkf, ⟨hb, hk, hr, hc, ⟨gg, hg, hgi⟩, hrow⟩, hkb, hlk⟩ := id hL
  obtain ⟨⟨q1, q2, q3, q4, q5, q6, q7, q8, q9, q10, q11⟩, sc, wh, st, hs, lr, lf, lz, ⟨hp, hS, hW, hT, hH, hG, hR⟩, rL, rH, rG⟩ := id hP
  refine C_of okX9_refusalOfYears (by decide) (Nat.le_of_ble_eq_true rfl) ?_
  show P none mX9_refusalOfYears 0 [.ref 0, zI n] [] _ _
  refine p_iload_n (i := 0) rfl rfl ?_
  refine p_iconst (i := 1) rfl ?_
  refine p_icmp_lt (i := 2) 11 rfl (by decide) (by omega) (by omega) (fun c2 => ?_) (fun c2 => ?_)
  · refine p_ldc (i := 6) rfl kX9_78 ?_
    refine p_iret (i := 7) rfl rfl (rfl) ?_
    rw [if_pos (by omega)] at h
    exact h
  · refine p_iload_n (i := 3) rfl rfl ?_
    refine p_bipush (i := 4) rfl (by decide) ?_
    refine p_icmp_le (i := 5) 14 rfl (by decide) (by omega) (by omega) (fun c8 => ?_) (fun c8 => ?_)
    · rw [if_neg (by omega)] at h
      refine p_aload_n (i := 8) rfl rfl ?_
      refine p_getf (i := 9) rfl fX9_63 kR rfl ?_
      refine p_getf (i := 10) rfl fX9_110 hb rfl ?_
      refine p_if_ne (i := 11) 27 rfl (by decide) (by omega) (fun c21 => ?_) (fun c21 => ?_)
      · rw [if_neg (by omega)] at h
        refine p_aload_n (i := 14) rfl rfl ?_
        refine p_getf (i := 15) rfl fX9_32 kR rfl ?_
        refine p_getf (i := 16) rfl fX9_116 hp rfl ?_
        refine p_ldcw (i := 17) rfl kX9_308 ?_
        refine p_icmp_le (i := 18) 45 rfl (by decide) (by omega) (by omega) (fun c37 => ?_) (fun c37 => ?_)
        · refine p_iconst (i := 21) rfl ?_
          refine p_iret (i := 22) rfl rfl (rfl) ?_
          rw [if_neg (by omega)] at h
          exact h
        · refine p_ldc (i := 19) rfl kX9_82 ?_
          refine p_goto (i := 20) 46 rfl (by decide) ?_
          refine p_iret (i := 22) rfl rfl (rfl) ?_
          rw [if_pos (by omega)] at h
          exact h
      · refine p_ldc (i := 12) rfl kX9_220 ?_
        refine p_iret (i := 13) rfl rfl (rfl) ?_
        rw [if_pos (by omega)] at h
        exact h
    · refine p_ldc (i := 6) rfl kX9_78 ?_
      refine p_iret (i := 7) rfl rfl (rfl) ?_
      rw [if_pos (by omega)] at h
      exact h
theorem x_drawOf {M : AM} {la sa : Nat} {fa sd n : Int} {Q : Option Value → AM → Prop} (hRt : XRt M la sa fa sd) (hs : 0 ≤ sd ∧ sd ≤ 2147483647) (hn : 0 < n ∧ n ≤ 1000) (h : ∀ M', XRt M' la sa fa (drw sd) → FrI 0 1 M M' → Q (some (zI (drw sd / 65536 % n))) M') : C mX9_drawOf [.ref 0, zI n] M Q := by
  obtain ⟨kR, hla⟩ := id hRt
  have fr : FrI 0 1 M M := FrI.rf
  refine C_of okX9_drawOf (by decide) (Nat.le_of_ble_eq_true rfl) ?_
  show P none mX9_drawOf 0 [.ref 0, zI n] [] _ _
  refine p_aload_n (i := 0) rfl rfl ?_
  refine p_aload_n (i := 1) rfl rfl ?_
  refine p_getf (i := 2) rfl fX9_74 kR rfl ?_
  refine p_i2l (i := 3) rfl (by omega) ?_
  refine p_ldc2 (i := 4) rfl kX9_313 ?_
  refine p_lmul (i := 5) rfl ?_
  refine p_ldc2 (i := 6) rfl kX9_315 ?_
  refine p_ladd (i := 7) rfl ?_
  refine p_ldc2 (i := 8) rfl kX9_317 ?_
  refine p_lrem (i := 9) rfl (by omega) (by omega) ?_
  refine p_l2i (i := 10) rfl ?_
  refine p_puti (i := 11) rfl gX9_74 kR rfl (P_gen fun M e => ?_)
  have fr := fr.up e (by omega)
  have kR := aupE e
  refine p_iload_n (i := 12) rfl rfl ?_
  have hd := drw_rng (sd := sd)
  unfold drw at h hd
  refine p_if_le (i := 13) 39 rfl (by decide) (by omega) (fun c23 => by exfalso; omega) (fun c23 => ?_)
  refine p_aload_n (i := 14) rfl rfl ?_
  refine p_getf (i := 15) rfl fX9_74 kR rfl ?_
  refine p_ldcw (i := 16) rfl kX9_319 ?_
  refine p_idiv (i := 17) rfl (by omega) (by omega) ?_
  refine p_iload_n (i := 18) rfl rfl ?_
  refine p_irem (i := 19) rfl (by omega) (by omega) ?_
  refine p_goto (i := 20) 40 rfl (by decide) ?_
  refine p_iret (i := 22) rfl rfl (rfl) ?_
  exact h M ⟨kR, hla⟩ fr
theorem x_doByDraw {M : AM} {la sa : Nat} {fa sd : Int} {ln : LN} {g : GS} {Q : Option Value → AM → Prop} (hRt : XRt M la sa fa sd) (hP : PairB true M 216 (nS ln) (nW ln) g) (hL : LineA M la ln) (hsd : 0 ≤ sd ∧ sd ≤ 2147483647) (h : ∀ M1 M', FrI 0 1 M M1 → FrI 216 7 M1 M' → XRt M' la sa fa (byDraw ln g sd).2 → PairB true M' 216 (nS ln) (nW ln) (byDraw ln g sd).1 → Q none M') : C mX9_doByDraw [.ref 0] M Q := by
  unfold byDraw at h
  obtain ⟨kR, hla⟩ := id hRt
  refine C_of okX9_doByDraw (by decide) (Nat.le_of_ble_eq_true rfl) ?_
  show P none mX9_doByDraw 0 [.ref 0, .retAddr 0, .retAddr 0] [] _ _
  refine p_aload_n (i := 0) rfl rfl ?_
  refine p_bipush (i := 1) rfl (by decide) ?_
  have d1 := drw_rng (sd := sd)
  have d2 := drw_rng (sd := drw sd)
  have d3 := drw_rng (sd := drw (drw sd))
  refine p_cV1 (i := 2) rfl ⟨lX9_320, rfl, rfl⟩ kR ⟨_, rfl, rfl⟩ rfl (x_drawOf hRt hsd (by omega) (fun M1 hRt1 fr1 => ?_))
  have hP1 := hP.fi fr1 (by omega)
  have hL1 := hL.fi fr1 (by omega)
  obtain ⟨kR, hla⟩ := id hRt1
  obtain ⟨⟨o1, o2, o3, o4, o5, o6, o7⟩, kf, bf, lc, lkf, ⟨hb, hk, hr, hc, ⟨gg, hg, hgi⟩, hrow⟩, hkb, hlk⟩ := id hL1
  obtain ⟨⟨q1, q2, q3, q4, q5, q6, q7, q8, q9, q10, q11⟩, sc, wh, st, hs, lr, lf, lz, ⟨hp, hS, hW, hT, hH, hG, hR⟩, rL, rH, rG⟩ := id hP1
  have hok := hP1.1.ls
  have c42 : P none mX9_doByDraw 42 [.ref 0, zI (drw sd / 65536 % 8), .retAddr 0] []  M1 Q ∨ (drw sd / 65536 % 8 = 0 ∧ 0 < nW ln) := by
    by_cases hcA : drw sd / 65536 % 8 = 0 ∧ 0 < nW ln
    · exact Or.inr hcA
    refine Or.inl ?_
    rw [if_neg hcA] at h
    have c78 : P none mX9_doByDraw 78 [.ref 0, zI (drw sd / 65536 % 8), .retAddr 0] []  M1 Q ∨ (drw sd / 65536 % 8 = 1 ∧ 0 < g.1.length) := by
      by_cases hc2 : drw sd / 65536 % 8 = 1 ∧ 0 < g.1.length
      · exact Or.inr hc2
      refine Or.inl ?_
      rw [if_neg hc2] at h
      have c125 : P none mX9_doByDraw 125 [.ref 0, zI (drw sd / 65536 % 8), .retAddr 0] []  M1 Q ∨ (drw sd / 65536 % 8 = 2 ∧ 0 < nS ln) := by
        by_cases hc3 : drw sd / 65536 % 8 = 2 ∧ 0 < nS ln
        · exact Or.inr hc3
        refine Or.inl ?_
        rw [if_neg hc3] at h
        have fr2 : FrI 216 7 M1 M1 := FrI.rf
        refine p_iload_n (i := 59) rfl rfl ?_
        refine p_iconst (i := 60) rfl ?_
        refine p_icmp_ne (i := 61) 138 rfl (by decide) (by omega) (by omega) (fun c127 => ?_) (fun c127 => ?_)
        · rw [if_neg c127] at h
          refine p_ret (i := 66) rfl rfl ?_
          exact h M1 M1 fr1 FrI.rf hRt1 hP1
        · rw [if_pos (by omega)] at h
          refine p_aload_n (i := 62) rfl rfl ?_
          refine p_getf (i := 63) rfl fX9_32 kR rfl ?_
          refine p_iconst (i := 64) rfl ?_
          refine p_puti (i := 65) rfl gX9_119 hp rfl (P_gen fun M e => ?_)
          have kR := aupN e kR (by omega)
          have hb := aupN e hb (by omega)
          have hk := aupN e hk (by omega)
          have hr := aupN e hr (by omega)
          have hc := aupN e hc (by omega)
          have hg := aupN e hg (by omega)
          have hS := aupN e hS (by omega)
          have hW := aupN e hW (by omega)
          have hT := aupN e hT (by omega)
          have hH := aupN e hH (by omega)
          have hG := aupN e hG (by omega)
          have hR := aupN e hR (by omega)
          have fr2 := fr2.up e (by omega)
          have hp := aupE e
          refine p_ret (i := 66) rfl rfl ?_
          refine h M1 M fr1 fr2 ⟨kR, hla⟩ ⟨⟨q1, q2, by show (-1 : Int) ≤ -1; decide, by show (-1 : Int) < (nW ln : Nat); omega, q5, q6, q7, q8, q9, q10, q11⟩, sc, wh, st, hs, lr, lf, lz, ⟨hp, hS, hW, hT, hH, hG, hR⟩, rL, rH, rG⟩
      refine p_iload_n (i := 35) rfl rfl ?_
      refine p_iconst (i := 36) rfl ?_
      refine p_icmp_ne (i := 37) 125 rfl (by decide) (by omega) (by omega) (fun c80 => ?_) (fun c80 => ?_)
      · exact c125.resolve_right (by omega)
      · refine p_aload_n (i := 38) rfl rfl ?_
        refine p_getf (i := 39) rfl fX9_63 kR rfl ?_
        refine p_getf (i := 40) rfl fX9_107 hb rfl ?_
        refine p_if_le (i := 41) 125 rfl (by decide) (by omega) (fun c90 => ?_) (fun c90 => ?_)
        · exact c125.resolve_right (by omega)
        · rw [if_pos (by omega)] at h
          refine p_aload_n (i := 42) rfl rfl ?_
          refine p_aload_n (i := 43) rfl rfl ?_
          refine p_getf (i := 44) rfl fX9_63 kR rfl ?_
          refine p_getf (i := 45) rfl fX9_107 hb rfl ?_
          refine p_cV1 (i := 46) rfl ⟨lX9_320, rfl, rfl⟩ kR ⟨_, rfl, rfl⟩ rfl (x_drawOf hRt1 (by omega) (by omega) (fun M2 hRt2 fr2 => ?_))
          have hP2 := hP1.fi fr2 (by omega)
          have hL2 := hL1.fi fr2 (by omega)
          obtain ⟨kR, hla⟩ := id hRt2
          have hp := fr2.at hp (by omega)
          refine p_istore_n (i := 47) rfl rfl ?_
          refine p_aload_n (i := 48) rfl rfl ?_
          refine p_getf (i := 49) rfl fX9_32 kR rfl ?_
          refine p_iload_n (i := 50) rfl rfl ?_
          refine p_iconst (i := 51) rfl ?_
          refine p_aload_n (i := 52) rfl rfl ?_
          refine p_bipush (i := 53) rfl (by decide) ?_
          refine p_cV1 (i := 54) rfl ⟨lX9_320, rfl, rfl⟩ kR ⟨_, rfl, rfl⟩ rfl (x_drawOf hRt2 (by omega) (by omega) (fun M3 hRt3 fr3 => ?_))
          have hP3 := hP2.fi fr3 (by omega)
          have hp := fr3.at hp (by omega)
          refine p_iconst (i := 55) rfl ?_
          refine p_iadd (i := 56) rfl ?_
          refine p_cV3 (i := 57) rfl ⟨lX9_224, rfl, rfl⟩ hp ⟨_, rfl, rfl⟩ rfl (x_lay hP3 ⟨Int.emod_nonneg _ (by omega), by show drw (drw sd) / 65536 % (nS ln : Int) < (nS ln : Nat); exact Int.emod_lt_of_pos _ (by omega), by show (-1 : Int) ≤ -1; decide, by show (-1 : Int) < (nW ln : Nat); omega, by show 1 ≤ drw (drw (drw sd)) / 65536 % 30 + 1; omega, by show drw (drw (drw sd)) / 65536 % 30 + 1 ≤ 99; omega⟩ (fun M4 hP4 fr4 => ?_))
          refine p_goto (i := 58) 138 rfl (by decide) ?_
          refine p_ret (i := 66) rfl rfl ?_
          exact h M3 M4 ((fr1.tr fr2).tr fr3) fr4 (hRt3.fi fr4 (by omega)) hP4
    refine p_iload_n (i := 19) rfl rfl ?_
    refine p_iconst (i := 20) rfl ?_
    refine p_icmp_ne (i := 21) 78 rfl (by decide) (by omega) (by omega) (fun c44 => ?_) (fun c44 => ?_)
    · exact c78.resolve_right (by omega)
    · refine p_aload_n (i := 22) rfl rfl ?_
      refine p_getf (i := 23) rfl fX9_32 kR rfl ?_
      refine p_getf (i := 24) rfl fX9_122 hp rfl ?_
      refine p_if_le (i := 25) 78 rfl (by decide) (by omega) (fun c54 => ?_) (fun c54 => ?_)
      · exact c78.resolve_right (by omega)
      · rw [if_pos (by omega)] at h
        refine p_aload_n (i := 26) rfl rfl ?_
        refine p_getf (i := 27) rfl fX9_32 kR rfl ?_
        refine p_aload_n (i := 28) rfl rfl ?_
        refine p_aload_n (i := 29) rfl rfl ?_
        refine p_getf (i := 30) rfl fX9_32 kR rfl ?_
        refine p_getf (i := 31) rfl fX9_122 hp rfl ?_
        refine p_cV1 (i := 32) rfl ⟨lX9_320, rfl, rfl⟩ kR ⟨_, rfl, rfl⟩ rfl (x_drawOf hRt1 (by omega) (by omega) (fun M2 hRt2 fr2 => ?_))
        have hP2 := hP1.fi fr2 (by omega)
        have hp := fr2.at hp (by omega)
        refine p_cV1 (i := 33) rfl ⟨lX9_221, rfl, rfl⟩ hp ⟨_, rfl, rfl⟩ rfl (x_removeB hP2 ⟨Int.emod_nonneg _ (by omega), Int.emod_lt_of_pos _ (by omega)⟩ (fun M3 hP3 fr3 => ?_))
        refine p_goto (i := 34) 138 rfl (by decide) ?_
        refine p_ret (i := 66) rfl rfl ?_
        exact h M2 M3 (fr1.tr fr2) fr3 (hRt2.fi fr3 (by omega)) hP3
  refine p_istore_n (i := 3) rfl rfl ?_
  refine p_iload_n (i := 4) rfl rfl ?_
  refine p_if_ne (i := 5) 42 rfl (by decide) (by omega) (fun c8 => ?_) (fun c8 => ?_)
  · exact c42.resolve_right (by omega)
  · refine p_aload_n (i := 6) rfl rfl ?_
    refine p_getf (i := 7) rfl fX9_63 kR rfl ?_
    refine p_getf (i := 8) rfl fX9_113 hb rfl ?_
    refine p_if_le (i := 9) 42 rfl (by decide) (by omega) (fun c18 => ?_) (fun c18 => ?_)
    · exact c42.resolve_right (by omega)
    · rw [if_pos (by omega)] at h
      refine p_aload_n (i := 10) rfl rfl ?_
      refine p_getf (i := 11) rfl fX9_32 kR rfl ?_
      refine p_aload_n (i := 12) rfl rfl ?_
      refine p_aload_n (i := 13) rfl rfl ?_
      refine p_getf (i := 14) rfl fX9_63 kR rfl ?_
      refine p_getf (i := 15) rfl fX9_113 hb rfl ?_
      refine p_cV1 (i := 16) rfl ⟨lX9_320, rfl, rfl⟩ kR ⟨_, rfl, rfl⟩ rfl (x_drawOf hRt1 (by omega) (by omega) (fun M2 hRt2 fr2 => ?_))
      have hP2 := hP1.fi fr2 (by omega)
      have hp := fr2.at hp (by omega)
      have hS := fr2.at hS (by omega)
      have hW := fr2.at hW (by omega)
      have hT := fr2.at hT (by omega)
      have hH := fr2.at hH (by omega)
      have hG := fr2.at hG (by omega)
      have hR := fr2.at hR (by omega)
      have fr3 : FrI 216 7 M2 M2 := FrI.rf
      have kR := hRt2.1
      refine p_puti (i := 17) rfl gX9_119 hp rfl (P_gen fun M e => ?_)
      have kR := aupN e kR (by omega)
      have hS := aupN e hS (by omega)
      have hW := aupN e hW (by omega)
      have hT := aupN e hT (by omega)
      have hH := aupN e hH (by omega)
      have hG := aupN e hG (by omega)
      have hR := aupN e hR (by omega)
      have fr3 := fr3.up e (by omega)
      have hp := aupE e
      refine p_goto (i := 18) 138 rfl (by decide) ?_
      refine p_ret (i := 66) rfl rfl ?_
      have hm1 := Int.emod_nonneg (drw (drw sd) / 65536) (show (nW ln : Int) ≠ 0 by omega)
      have hm2 := Int.emod_lt_of_pos (drw (drw sd) / 65536) (show (0 : Int) < (nW ln : Int) by omega)
      exact h M2 M (fr1.tr fr2) fr3 ⟨kR, hla⟩ ⟨⟨q1, q2, by show (-1 : Int) ≤ drw (drw sd) / 65536 % (nW ln : Int); omega, hm2, q5, q6, q7, q8, q9, q10, q11⟩, sc, wh, st, hs, lr, lf, lz, ⟨hp, hS, hW, hT, hH, hG, hR⟩, rL, rH, rG⟩
theorem X_year {M : AM} {tx : List Int} {fa : Int} {ln : LN} {g : GS} {un : List GS} {i0 i1 : Option (GS × Int)} {sd : Int} {me bo : List (Int × Int)} {n : Int} {Q : Option Value → AM → Prop} (hX : XW M (tx, fa, ln, g, un, i0, i1, sd, me, bo)) (hn : -2147483648 ≤ n ∧ n ≤ 2147483647) (h : ∀ M', XW M' (a_year (tx, fa, ln, g, un, i0, i1, sd, me, bo) n).2 → FrI 0 276 M M' → Q (some (zI (a_year (tx, fa, ln, g, un, i0, i1, sd, me, bo) n).1)) M') : C mX9_year [.ref 0, zI n] M Q := by
  dsimp only [a_year] at h
  obtain ⟨la, sa, hRt, hRd, hHi, hIr, hI0, hI1, hPa, hTr, hTu, hMe, hBo, hLi, hLs, b1, b2, b3, b4, b5, b6, b7⟩ := id hX
  obtain ⟨kR, hla⟩ := id hRt
  have loop : ∀ (f k : Nat) (M : AM) (g : GS) (un : List GS), (k : Int) + f = n → n ≤ 30 → XW M (tx, fa, ln, g, un, i0, i1, sd, me, bo) → g.2.2.1 + f ≤ 90030 → (∀ M', XW M' (tx, fa, ln, (yearN ln f g un).1, (yearN ln f g un).2, i0, i1, sd, me, bo) → FrI 0 276 M M' → Q (some (zI (yearN ln f g un).1.2.2.1)) M') → P none mX9_year 14 [.ref 0, zI n, zI 0, zI (k : Int)] []  M Q := by
    intro f
    induction f with
    | zero =>
      intro k M g un hk hn30 hX hy h
      obtain ⟨la, sa, hRt, hRd, hHi, hIr, hI0, hI1, hPa, hTr, hTu, hMe, hBo, hLi, hLs, b1, b2, b3, b4, b5, b6, b7⟩ := id hX
      obtain ⟨kR, hla⟩ := id hRt
      obtain ⟨⟨q1, q2, q3, q4, q5, q6, q7, q8, q9, q10, q11⟩, sc, wh, st, hs, lr, lf, lz, ⟨hp, hS, hW, hT, hH, hG, hR⟩, rL, rH, rG⟩ := id hPa
      refine p_iload_n (i := 10) rfl rfl ?_
      refine p_iload_n (i := 11) rfl rfl ?_
      refine p_icmp_ge (i := 12) 47 rfl (by decide) (by omega) (by omega) (fun c16 => ?_) (fun c16 => by exfalso; omega)
      refine p_aload_n (i := 25) rfl rfl ?_
      refine p_getf (i := 26) rfl fX9_32 kR rfl ?_
      refine p_getf (i := 27) rfl fX9_116 hp rfl ?_
      refine p_iret (i := 28) rfl rfl (rfl) ?_
      exact h M hX FrI.rf
    | succ f ih =>
      intro k M g un hk hn30 hX hy h
      obtain ⟨la, sa, hRt, hRd, hHi, hIr, hI0, hI1, hPa, hTr, hTu, hMe, hBo, hLi, hLs, b1, b2, b3, b4, b5, b6, b7⟩ := id hX
      obtain ⟨kR, hla⟩ := id hRt
      obtain ⟨⟨q1, q2, q3, q4, q5, q6, q7, q8, q9, q10, q11⟩, sc, wh, st, hs, lr, lf, lz, ⟨hp, hS, hW, hT, hH, hG, hR⟩, rL, rH, rG⟩ := id hPa
      obtain ⟨v4, vg, vs, w3, w4, v5⟩ := id hHi
      refine p_iload_n (i := 10) rfl rfl ?_
      refine p_iload_n (i := 11) rfl rfl ?_
      refine p_icmp_ge (i := 12) 47 rfl (by decide) (by omega) (by omega) (fun c16 => by exfalso; omega) (fun c16 => ?_)
      refine p_aload_n (i := 13) rfl rfl ?_
      refine p_getf (i := 14) rfl fX9_19 kR rfl ?_
      refine p_aload_n (i := 15) rfl rfl ?_
      refine p_getf (i := 16) rfl fX9_32 kR rfl ?_
      refine p_cV1 (i := 17) rfl ⟨lX9_212, rfl, rfl⟩ w3 ⟨_, rfl, rfl⟩ rfl (x_remember hHi hPa b1 (fun M1 hHi1 fr1 => ?_))
      have kR := fr1.at kR (by omega)
      have hp := fr1.at hp (by omega)
      have hPa1 := hPa.fi fr1 (by omega)
      have hLi1 := hLi.fi fr1 (by omega)
      refine p_aload_n (i := 18) rfl rfl ?_
      refine p_getf (i := 19) rfl fX9_32 kR rfl ?_
      refine p_aload_n (i := 20) rfl rfl ?_
      refine p_getf (i := 21) rfl fX9_63 kR rfl ?_
      refine p_cV1 (i := 22) rfl ⟨lX9_216, rfl, rfl⟩ hp ⟨_, rfl, rfl⟩ rfl (x_passYear hPa1 hLi1 rfl rfl (by omega) (by omega) (fun M2 hPa2 fr2 => ?_))
      refine p_iinc (i := 23) rfl rfl rfl ?_
      refine p_goto (i := 24) 14 rfl (by decide) ?_
      have ey := passY_y ln g
      exact ih (k + 1) M2 (passY ln g) (rem un g) (by omega) hn30 ⟨la, sa, ((hRt.fi fr1 (by omega)).fi fr2 (by omega)), ((hRd.fi fr1 (by omega)).fi fr2 (by omega)), hHi1.fi fr2 (by omega), ((hIr.fi fr1 (by omega)).fi fr2 (by omega)), ((hI0.fi fr1 (by omega)).fi fr2 (by omega)), ((hI1.fi fr1 (by omega)).fi fr2 (by omega)), hPa2, ((hTr.fi fr1 (by omega)).fi fr2 (by omega)), ((hTu.fi fr1 (by omega)).fi fr2 (by omega)), ((hMe.fi fr1 (by omega)).fi fr2 (by omega)), ((hBo.fi fr1 (by omega)).fi fr2 (by omega)), ((hLi.fi fr1 (by omega)).fi fr2 (by omega)), ((hLs.fi fr1 (by omega)).fi fr2 (by omega)), by omega, b2, b3, b4, b5, b6, b7⟩ (by omega) (fun M' hX' fr' => h M' hX' ((((fr1.weak (by omega)).tr (fr2.weak (by omega)))).tr fr'))
  refine C_of okX9_year (by decide) (Nat.le_of_ble_eq_true rfl) ?_
  show P none mX9_year 0 [.ref 0, zI n, .retAddr 0, .retAddr 0] [] _ _
  refine p_aload_n (i := 0) rfl rfl ?_
  refine p_iload_n (i := 1) rfl rfl ?_
  refine p_cV1 (i := 2) rfl ⟨lX9_209, rfl, rfl⟩ kR ⟨_, rfl, rfl⟩ rfl (x_refusal hRt hPa hLi hn ?_)
  refine p_istore_n (i := 3) rfl rfl ?_
  refine p_iload_n (i := 4) rfl rfl ?_
  have hrr := refs_rng (ln := ln) (g := g) (n := n)
  refine p_if_eq (i := 5) 12 rfl (by decide) (by omega) (fun c7 => ?_) (fun c7 => ?_)
  · rw [if_neg (not_not_intro c7)] at h
    have hn30 := refs_0 c7
    refine p_iconst (i := 8) rfl ?_
    refine p_istore_n (i := 9) rfl rfl ?_
    rw [c7]
    exact loop n.toNat 0 M g un (by omega) (by omega) hX (by omega) h
  · refine p_iload_n (i := 6) rfl rfl ?_
    refine p_iret (i := 7) rfl rfl (rfl) ?_
    rw [if_pos c7] at h
    exact h M hX FrI.rf
theorem X_wear {M : AM} {tx : List Int} {fa : Int} {ln : LN} {g : GS} {un : List GS} {i0 i1 : Option (GS × Int)} {sd : Int} {me bo : List (Int × Int)} {w : Int} {Q : Option Value → AM → Prop} (hX : XW M (tx, fa, ln, g, un, i0, i1, sd, me, bo)) (hw : -2147483648 ≤ w ∧ w ≤ 2147483647) (h : ∀ M', XW M' (a_wear (tx, fa, ln, g, un, i0, i1, sd, me, bo) w).2 → FrI 0 276 M M' → Q (some (zI (a_wear (tx, fa, ln, g, un, i0, i1, sd, me, bo) w).1)) M') : C mX9_wear [.ref 0, zI w] M Q := by
  dsimp only [a_wear] at h
  obtain ⟨la, sa, hRt, hRd, hHi, hIr, hI0, hI1, hPa, hTr, hTu, hMe, hBo, hLi, hLs, b1, b2, b3, b4, b5, b6, b7⟩ := id hX
  obtain ⟨kR, hla⟩ := id hRt
  obtain ⟨⟨o1, o2, o3, o4, o5, o6, o7⟩, kf, bf, lc, lkf, ⟨hb, hk, hr, hc, ⟨gg, hg, hgi⟩, hrow⟩, hkb, hlk⟩ := id hLi
  obtain ⟨⟨q1, q2, q3, q4, q5, q6, q7, q8, q9, q10, q11⟩, sc, wh, st, hs, lr, lf, lz, ⟨hp, hS, hW, hT, hH, hG, hR⟩, rL, rH, rG⟩ := id hPa
  obtain ⟨v4, vg, vs, w3, w4, v5⟩ := id hHi
  refine C_of okX9_wear (by decide) (Nat.le_of_ble_eq_true rfl) ?_
  show P none mX9_wear 0 [.ref 0, zI w, .retAddr 0] [] _ _
  refine p_aload_n (i := 0) rfl rfl ?_
  refine p_getf (i := 1) rfl fX9_63 kR rfl ?_
  refine p_iload_n (i := 2) rfl rfl ?_
  refine p_cV1 (i := 3) rfl ⟨lX9_172, rfl, rfl⟩ hb ⟨_, rfl, rfl⟩ rfl (x_hasWearer hLi hw (fun q => ?_) (fun q => ?_))
  · rw [if_neg (not_not_intro q)] at h
    refine p_if_ne (i := 4) 14 rfl (by decide) (by omega) (fun c8 => ?_) (fun c8 => by exfalso; omega)
    refine p_aload_n (i := 7) rfl rfl ?_
    refine p_getf (i := 8) rfl fX9_32 kR rfl ?_
    refine p_getf (i := 9) rfl fX9_119 hp rfl ?_
    refine p_istore_n (i := 10) rfl rfl ?_
    refine p_iload_n (i := 11) rfl rfl ?_
    refine p_iload_n (i := 12) rfl rfl ?_
    refine p_icmp_ne (i := 13) 30 rfl (by decide) (by omega) (by omega) (fun c24 => ?_) (fun c24 => ?_)
    · rw [if_neg c24] at h
      refine p_aload_n (i := 16) rfl rfl ?_
      refine p_getf (i := 17) rfl fX9_19 kR rfl ?_
      refine p_aload_n (i := 18) rfl rfl ?_
      refine p_getf (i := 19) rfl fX9_32 kR rfl ?_
      refine p_cV1 (i := 20) rfl ⟨lX9_212, rfl, rfl⟩ w3 ⟨_, rfl, rfl⟩ rfl (x_remember hHi hPa b1 (fun M1 hHi1 fr1 => ?_))
      have kR := fr1.at kR (by omega)
      have hp := fr1.at hp (by omega)
      have hS := fr1.at hS (by omega)
      have hW := fr1.at hW (by omega)
      have hT := fr1.at hT (by omega)
      have hH := fr1.at hH (by omega)
      have hG := fr1.at hG (by omega)
      have hR := fr1.at hR (by omega)
      have fr2 : FrI 216 7 M1 M1 := FrI.rf
      have kR' := kR
      obtain ⟨kR, hla⟩ := id hRt
      have kR := kR'
      refine p_aload_n (i := 21) rfl rfl ?_
      refine p_getf (i := 22) rfl fX9_32 kR rfl ?_
      refine p_iload_n (i := 23) rfl rfl ?_
      refine p_puti (i := 24) rfl gX9_119 hp rfl (P_gen fun M e => ?_)
      have kR := aupN e kR (by omega)
      have hS := aupN e hS (by omega)
      have hW := aupN e hW (by omega)
      have hT := aupN e hT (by omega)
      have hH := aupN e hH (by omega)
      have hG := aupN e hG (by omega)
      have hR := aupN e hR (by omega)
      have fr2 := fr2.up e (by omega)
      have hp := aupE e
      refine p_iload_n (i := 25) rfl rfl ?_
      refine p_iret (i := 26) rfl rfl (rfl) ?_
      exact h M ⟨la, sa, ((hRt.fi fr1 (by omega)).fi fr2 (by omega)), ((hRd.fi fr1 (by omega)).fi fr2 (by omega)), hHi1.fi fr2 (by omega), ((hIr.fi fr1 (by omega)).fi fr2 (by omega)), ((hI0.fi fr1 (by omega)).fi fr2 (by omega)), ((hI1.fi fr1 (by omega)).fi fr2 (by omega)), ⟨⟨q1, q2, by show (-1 : Int) ≤ w; omega, q.2, q5, q6, q7, q8, q9, q10, q11⟩, sc, wh, st, hs, lr, lf, lz, ⟨hp, hS, hW, hT, hH, hG, hR⟩, rL, rH, rG⟩, ((hTr.fi fr1 (by omega)).fi fr2 (by omega)), ((hTu.fi fr1 (by omega)).fi fr2 (by omega)), ((hMe.fi fr1 (by omega)).fi fr2 (by omega)), ((hBo.fi fr1 (by omega)).fi fr2 (by omega)), ((hLi.fi fr1 (by omega)).fi fr2 (by omega)), ((hLs.fi fr1 (by omega)).fi fr2 (by omega)), b1, b2, b3, b4, b5, b6, b7⟩ ((fr1.weak (by omega)).tr (fr2.weak (by omega)))
    · rw [if_pos c24] at h
      refine p_ldc (i := 14) rfl kX9_220 ?_
      refine p_iret (i := 15) rfl rfl (rfl) ?_
      exact h M hX FrI.rf
  · rw [if_pos q] at h
    refine p_if_ne (i := 4) 14 rfl (by decide) (by omega) (fun c8 => by exfalso; omega) (fun c8 => ?_)
    refine p_ldc (i := 5) rfl kX9_158 ?_
    refine p_iret (i := 6) rfl rfl (rfl) ?_
    exact h M hX FrI.rf
theorem X_takeOff {M : AM} {tx : List Int} {fa : Int} {ln : LN} {g : GS} {un : List GS} {i0 i1 : Option (GS × Int)} {sd : Int} {me bo : List (Int × Int)} {Q : Option Value → AM → Prop} (hX : XW M (tx, fa, ln, g, un, i0, i1, sd, me, bo)) (h : ∀ M', XW M' (a_takeOff (tx, fa, ln, g, un, i0, i1, sd, me, bo)).2 → FrI 0 276 M M' → Q (some (zI (a_takeOff (tx, fa, ln, g, un, i0, i1, sd, me, bo)).1)) M') : C mX9_takeOff [.ref 0] M Q := by
  dsimp only [a_takeOff] at h
  obtain ⟨la, sa, hRt, hRd, hHi, hIr, hI0, hI1, hPa, hTr, hTu, hMe, hBo, hLi, hLs, b1, b2, b3, b4, b5, b6, b7⟩ := id hX
  obtain ⟨kR, hla⟩ := id hRt
  obtain ⟨⟨q1, q2, q3, q4, q5, q6, q7, q8, q9, q10, q11⟩, sc, wh, st, hs, lr, lf, lz, ⟨hp, hS, hW, hT, hH, hG, hR⟩, rL, rH, rG⟩ := id hPa
  obtain ⟨v4, vg, vs, w3, w4, v5⟩ := id hHi
  refine C_of okX9_takeOff (by decide) (Nat.le_of_ble_eq_true rfl) ?_
  show P none mX9_takeOff 0 [.ref 0, .retAddr 0] [] _ _
  refine p_aload_n (i := 0) rfl rfl ?_
  refine p_getf (i := 1) rfl fX9_32 kR rfl ?_
  refine p_getf (i := 2) rfl fX9_119 hp rfl ?_
  refine p_istore_n (i := 3) rfl rfl ?_
  refine p_iload_n (i := 4) rfl rfl ?_
  refine p_iconst (i := 5) rfl ?_
  refine p_icmp_ne (i := 6) 16 rfl (by decide) (by omega) (by omega) (fun c10 => ?_) (fun c10 => ?_)
  · rw [if_neg c10] at h
    refine p_aload_n (i := 9) rfl rfl ?_
    refine p_getf (i := 10) rfl fX9_19 kR rfl ?_
    refine p_aload_n (i := 11) rfl rfl ?_
    refine p_getf (i := 12) rfl fX9_32 kR rfl ?_
    refine p_cV1 (i := 13) rfl ⟨lX9_212, rfl, rfl⟩ w3 ⟨_, rfl, rfl⟩ rfl (x_remember hHi hPa b1 (fun M1 hHi1 fr1 => ?_))
    have kR := fr1.at kR (by omega)
    have hp := fr1.at hp (by omega)
    have hS := fr1.at hS (by omega)
    have hW := fr1.at hW (by omega)
    have hT := fr1.at hT (by omega)
    have hH := fr1.at hH (by omega)
    have hG := fr1.at hG (by omega)
    have hR := fr1.at hR (by omega)
    have fr2 : FrI 216 7 M1 M1 := FrI.rf
    have kR' := kR
    obtain ⟨kR, hla⟩ := id hRt
    have kR := kR'
    refine p_aload_n (i := 14) rfl rfl ?_
    refine p_getf (i := 15) rfl fX9_32 kR rfl ?_
    refine p_iconst (i := 16) rfl ?_
    refine p_puti (i := 17) rfl gX9_119 hp rfl (P_gen fun M e => ?_)
    have kR := aupN e kR (by omega)
    have hS := aupN e hS (by omega)
    have hW := aupN e hW (by omega)
    have hT := aupN e hT (by omega)
    have hH := aupN e hH (by omega)
    have hG := aupN e hG (by omega)
    have hR := aupN e hR (by omega)
    have fr2 := fr2.up e (by omega)
    have hp := aupE e
    refine p_iload_n (i := 18) rfl rfl ?_
    refine p_iret (i := 19) rfl rfl (rfl) ?_
    exact h M ⟨la, sa, ((hRt.fi fr1 (by omega)).fi fr2 (by omega)), ((hRd.fi fr1 (by omega)).fi fr2 (by omega)), hHi1.fi fr2 (by omega), ((hIr.fi fr1 (by omega)).fi fr2 (by omega)), ((hI0.fi fr1 (by omega)).fi fr2 (by omega)), ((hI1.fi fr1 (by omega)).fi fr2 (by omega)), ⟨⟨q1, q2, by show (-1 : Int) ≤ -1; decide, by show (-1 : Int) < (nW ln : Nat); omega, q5, q6, q7, q8, q9, q10, q11⟩, sc, wh, st, hs, lr, lf, lz, ⟨hp, hS, hW, hT, hH, hG, hR⟩, rL, rH, rG⟩, ((hTr.fi fr1 (by omega)).fi fr2 (by omega)), ((hTu.fi fr1 (by omega)).fi fr2 (by omega)), ((hMe.fi fr1 (by omega)).fi fr2 (by omega)), ((hBo.fi fr1 (by omega)).fi fr2 (by omega)), ((hLi.fi fr1 (by omega)).fi fr2 (by omega)), ((hLs.fi fr1 (by omega)).fi fr2 (by omega)), b1, b2, b3, b4, b5, b6, b7⟩ ((fr1.weak (by omega)).tr (fr2.weak (by omega)))
  · rw [if_pos c10] at h
    refine p_ldc (i := 7) rfl kX9_220 ?_
    refine p_iret (i := 8) rfl rfl (rfl) ?_
    exact h M hX FrI.rf
theorem X_wipe {M : AM} {tx : List Int} {fa : Int} {ln : LN} {g : GS} {un : List GS} {i0 i1 : Option (GS × Int)} {sd : Int} {me bo : List (Int × Int)} {k : Int} {Q : Option Value → AM → Prop} (hX : XW M (tx, fa, ln, g, un, i0, i1, sd, me, bo)) (hkk : -2147483648 ≤ k ∧ k ≤ 2147483647) (h : ∀ M', XW M' (a_wipe (tx, fa, ln, g, un, i0, i1, sd, me, bo) k).2 → FrI 0 276 M M' → Q (some (zI (a_wipe (tx, fa, ln, g, un, i0, i1, sd, me, bo) k).1)) M') : C mX9_wipe [.ref 0, zI k] M Q := by
  dsimp only [a_wipe] at h
  obtain ⟨la, sa, hRt, hRd, hHi, hIr, hI0, hI1, hPa, hTr, hTu, hMe, hBo, hLi, hLs, b1, b2, b3, b4, b5, b6, b7⟩ := id hX
  obtain ⟨kR, hla⟩ := id hRt
  obtain ⟨⟨q1, q2, q3, q4, q5, q6, q7, q8, q9, q10, q11⟩, sc, wh, st, hs, lr, lf, lz, ⟨hp, hS, hW, hT, hH, hG, hR⟩, rL, rH, rG⟩ := id hPa
  obtain ⟨v4, vg, vs, w3, w4, v5⟩ := id hHi
  refine C_of okX9_wipe (by decide) (Nat.le_of_ble_eq_true rfl) ?_
  show P none mX9_wipe 0 [.ref 0, zI k] [] _ _
  refine p_aload_n (i := 0) rfl rfl ?_
  refine p_getf (i := 1) rfl fX9_32 kR rfl ?_
  refine p_iload_n (i := 2) rfl rfl ?_
  refine p_cV1 (i := 3) rfl ⟨lX9_193, rfl, rfl⟩ hp ⟨_, rfl, rfl⟩ rfl (x_hasLayer hPa hkk (fun q => ?_) (fun q => ?_))
  · rw [if_neg (not_not_intro q)] at h
    refine p_if_ne (i := 4) 14 rfl (by decide) (by omega) (fun c8 => ?_) (fun c8 => by exfalso; omega)
    refine p_aload_n (i := 7) rfl rfl ?_
    refine p_getf (i := 8) rfl fX9_19 kR rfl ?_
    refine p_aload_n (i := 9) rfl rfl ?_
    refine p_getf (i := 10) rfl fX9_32 kR rfl ?_
    refine p_cV1 (i := 11) rfl ⟨lX9_212, rfl, rfl⟩ w3 ⟨_, rfl, rfl⟩ rfl (x_remember hHi hPa b1 (fun M1 hHi1 fr1 => ?_))
    have hPa1 := hPa.fi fr1 (by omega)
    have kR := fr1.at kR (by omega)
    have hp := fr1.at hp (by omega)
    refine p_aload_n (i := 12) rfl rfl ?_
    refine p_getf (i := 13) rfl fX9_32 kR rfl ?_
    refine p_iload_n (i := 14) rfl rfl ?_
    refine p_cV1 (i := 15) rfl ⟨lX9_221, rfl, rfl⟩ hp ⟨_, rfl, rfl⟩ rfl (x_removeB hPa1 q (fun M2 hPa2 fr2 => ?_))
    obtain ⟨-, sc, wh, st, hs, lr, lf, lz, ⟨hp, hS, hW, hT, hH, hG, hR⟩, -⟩ := id hPa2
    have kR := fr2.at kR (by omega)
    refine p_aload_n (i := 16) rfl rfl ?_
    refine p_getf (i := 17) rfl fX9_32 kR rfl ?_
    refine p_getf (i := 18) rfl fX9_122 hp rfl ?_
    refine p_iret (i := 19) rfl rfl (rfl) ?_
    exact h M2 ⟨la, sa, ((hRt.fi fr1 (by omega)).fi fr2 (by omega)), ((hRd.fi fr1 (by omega)).fi fr2 (by omega)), hHi1.fi fr2 (by omega), ((hIr.fi fr1 (by omega)).fi fr2 (by omega)), ((hI0.fi fr1 (by omega)).fi fr2 (by omega)), ((hI1.fi fr1 (by omega)).fi fr2 (by omega)), hPa2, ((hTr.fi fr1 (by omega)).fi fr2 (by omega)), ((hTu.fi fr1 (by omega)).fi fr2 (by omega)), ((hMe.fi fr1 (by omega)).fi fr2 (by omega)), ((hBo.fi fr1 (by omega)).fi fr2 (by omega)), ((hLi.fi fr1 (by omega)).fi fr2 (by omega)), ((hLs.fi fr1 (by omega)).fi fr2 (by omega)), b1, b2, b3, b4, b5, b6, b7⟩ ((fr1.weak (by omega)).tr (fr2.weak (by omega)))
  · rw [if_pos q] at h
    refine p_if_ne (i := 4) 14 rfl (by decide) (by omega) (fun c8 => by exfalso; omega) (fun c8 => ?_)
    refine p_ldc (i := 5) rfl kX9_158 ?_
    refine p_iret (i := 6) rfl rfl (rfl) ?_
    exact h M hX FrI.rf
theorem X_chip {M : AM} {tx : List Int} {fa : Int} {ln : LN} {g : GS} {un : List GS} {i0 i1 : Option (GS × Int)} {sd : Int} {me bo : List (Int × Int)} {x n : Int} {Q : Option Value → AM → Prop} (hX : XW M (tx, fa, ln, g, un, i0, i1, sd, me, bo)) (hx : -2147483648 ≤ x ∧ x ≤ 2147483647) (hn : -2147483648 ≤ n ∧ n ≤ 2147483647) (h : ∀ M', XW M' (a_chip (tx, fa, ln, g, un, i0, i1, sd, me, bo) x n).2 → FrI 0 276 M M' → Q (some (zI (a_chip (tx, fa, ln, g, un, i0, i1, sd, me, bo) x n).1)) M') : C mX9_chip [.ref 0, zI x, zI n] M Q := by
  dsimp only [a_chip] at h
  obtain ⟨la, sa, hRt, hRd, hHi, hIr, hI0, hI1, hPa, hTr, hTu, hMe, hBo, hLi, hLs, b1, b2, b3, b4, b5, b6, b7⟩ := id hX
  obtain ⟨kR, hla⟩ := id hRt
  obtain ⟨⟨o1, o2, o3, o4, o5, o6, o7⟩, kf, bf, lc, lkf, ⟨hb, hk, hr, hc, ⟨gg, hg, hgi⟩, hrow⟩, hkb, hlk⟩ := id hLi
  obtain ⟨⟨q1, q2, q3, q4, q5, q6, q7, q8, q9, q10, q11⟩, sc, wh, st, hs, lr, lf, lz, ⟨hp, hS, hW, hT, hH, hG, hR⟩, rL, rH, rG⟩ := id hPa
  obtain ⟨v4, vg, vs, w3, w4, v5⟩ := id hHi
  refine C_of okX9_chip (by decide) (Nat.le_of_ble_eq_true rfl) ?_
  show P none mX9_chip 0 [.ref 0, zI x, zI n] [] _ _
  refine p_aload_n (i := 0) rfl rfl ?_
  refine p_getf (i := 1) rfl fX9_63 kR rfl ?_
  refine p_iload_n (i := 2) rfl rfl ?_
  refine p_cV1 (i := 3) rfl ⟨lX9_154, rfl, rfl⟩ hb ⟨_, rfl, rfl⟩ rfl (x_hasScene hLi hx (fun q => ?_) (fun q => ?_))
  · rw [if_neg (not_not_intro q)] at h
    refine p_if_ne (i := 4) 14 rfl (by decide) (by omega) (fun c8 => ?_) (fun c8 => by exfalso; omega)
    refine p_iload_n (i := 7) rfl rfl ?_
    refine p_iconst (i := 8) rfl ?_
    refine p_icmp_lt (i := 9) 25 rfl (by decide) (by omega) (by omega) (fun c16 => ?_) (fun c16 => ?_)
    · rw [if_pos (by omega)] at h
      refine p_ldc (i := 13) rfl kX9_78 ?_
      refine p_iret (i := 14) rfl rfl (rfl) ?_
      exact h M hX FrI.rf
    · refine p_iload_n (i := 10) rfl rfl ?_
      refine p_bipush (i := 11) rfl (by decide) ?_
      refine p_icmp_le (i := 12) 28 rfl (by decide) (by omega) (by omega) (fun c22 => ?_) (fun c22 => ?_)
      · rw [if_neg (by omega)] at h
        refine p_aload_n (i := 15) rfl rfl ?_
        refine p_getf (i := 16) rfl fX9_19 kR rfl ?_
        refine p_aload_n (i := 17) rfl rfl ?_
        refine p_getf (i := 18) rfl fX9_32 kR rfl ?_
        refine p_cV1 (i := 19) rfl ⟨lX9_212, rfl, rfl⟩ w3 ⟨_, rfl, rfl⟩ rfl (x_remember hHi hPa b1 (fun M1 hHi1 fr1 => ?_))
        have hPa1 := hPa.fi fr1 (by omega)
        have kR := fr1.at kR (by omega)
        have hp := fr1.at hp (by omega)
        refine p_aload_n (i := 20) rfl rfl ?_
        refine p_getf (i := 21) rfl fX9_32 kR rfl ?_
        refine p_iload_n (i := 22) rfl rfl ?_
        refine p_iconst (i := 23) rfl ?_
        refine p_iload_n (i := 24) rfl rfl ?_
        refine p_cV3 (i := 25) rfl ⟨lX9_224, rfl, rfl⟩ hp ⟨_, rfl, rfl⟩ rfl (x_lay hPa1 ⟨q.1, q.2, by show (-1 : Int) ≤ -1; decide, by show (-1 : Int) < (nW ln : Nat); omega, by show 1 ≤ n; omega, by show n ≤ 99; omega⟩ (fun M2 hPa2 fr2 => ?_))
        obtain ⟨-, sc, wh, st, hs, lr, lf, lz, ⟨hp, hS, hW, hT, hH, hG, hR⟩, -⟩ := id hPa2
        have kR := fr2.at kR (by omega)
        refine p_aload_n (i := 26) rfl rfl ?_
        refine p_getf (i := 27) rfl fX9_32 kR rfl ?_
        refine p_getf (i := 28) rfl fX9_122 hp rfl ?_
        refine p_iret (i := 29) rfl rfl (rfl) ?_
        exact h M2 ⟨la, sa, ((hRt.fi fr1 (by omega)).fi fr2 (by omega)), ((hRd.fi fr1 (by omega)).fi fr2 (by omega)), hHi1.fi fr2 (by omega), ((hIr.fi fr1 (by omega)).fi fr2 (by omega)), ((hI0.fi fr1 (by omega)).fi fr2 (by omega)), ((hI1.fi fr1 (by omega)).fi fr2 (by omega)), hPa2, ((hTr.fi fr1 (by omega)).fi fr2 (by omega)), ((hTu.fi fr1 (by omega)).fi fr2 (by omega)), ((hMe.fi fr1 (by omega)).fi fr2 (by omega)), ((hBo.fi fr1 (by omega)).fi fr2 (by omega)), ((hLi.fi fr1 (by omega)).fi fr2 (by omega)), ((hLs.fi fr1 (by omega)).fi fr2 (by omega)), b1, b2, b3, b4, b5, b6, b7⟩ ((fr1.weak (by omega)).tr (fr2.weak (by omega)))
      · rw [if_pos (by omega)] at h
        refine p_ldc (i := 13) rfl kX9_78 ?_
        refine p_iret (i := 14) rfl rfl (rfl) ?_
        exact h M hX FrI.rf
  · rw [if_pos q] at h
    refine p_if_ne (i := 4) 14 rfl (by decide) (by omega) (fun c8 => by exfalso; omega) (fun c8 => ?_)
    refine p_ldc (i := 5) rfl kX9_158 ?_
    refine p_iret (i := 6) rfl rfl (rfl) ?_
    exact h M hX FrI.rf
theorem X_undo {M : AM} {tx : List Int} {fa : Int} {ln : LN} {g : GS} {un : List GS} {i0 i1 : Option (GS × Int)} {sd : Int} {me bo : List (Int × Int)} {n : Int} {Q : Option Value → AM → Prop} (hX : XW M (tx, fa, ln, g, un, i0, i1, sd, me, bo)) (hn : -2147483648 ≤ n ∧ n ≤ 2147483647) (h : ∀ M', XW M' (a_undo (tx, fa, ln, g, un, i0, i1, sd, me, bo) n).2 → FrI 0 276 M M' → Q (some (zI (a_undo (tx, fa, ln, g, un, i0, i1, sd, me, bo) n).1)) M') : C mX9_undo [.ref 0, zI n] M Q := by
  dsimp only [a_undo] at h
  obtain ⟨la, sa, hRt, hRd, hHi, hIr, hI0, hI1, hPa, hTr, hTu, hMe, hBo, hLi, hLs, b1, b2, b3, b4, b5, b6, b7⟩ := id hX
  obtain ⟨kR, hla⟩ := id hRt
  obtain ⟨-, sc, wh, st, hs, lr, lf, lz, ⟨hp, hS, hW, hT, hH, hG, hR⟩, -⟩ := id hPa
  obtain ⟨v4, vg, vs, w3, w4, v5⟩ := id hHi
  refine C_of okX9_undo (by decide) (Nat.le_of_ble_eq_true rfl) ?_
  show P none mX9_undo 0 [.ref 0, zI n] [] _ _
  refine p_iload_n (i := 0) rfl rfl ?_
  refine p_iconst (i := 1) rfl ?_
  refine p_icmp_lt (i := 2) 11 rfl (by decide) (by omega) (by omega) (fun c2 => ?_) (fun c2 => ?_)
  · rw [if_pos (by omega)] at h
    refine p_ldc (i := 6) rfl kX9_78 ?_
    refine p_iret (i := 7) rfl rfl (rfl) ?_
    exact h M hX FrI.rf
  · refine p_iload_n (i := 3) rfl rfl ?_
    refine p_bipush (i := 4) rfl (by decide) ?_
    refine p_icmp_le (i := 5) 14 rfl (by decide) (by omega) (by omega) (fun c8 => ?_) (fun c8 => ?_)
    · rw [if_neg (by omega)] at h
      refine p_iload_n (i := 8) rfl rfl ?_
      refine p_aload_n (i := 9) rfl rfl ?_
      refine p_getf (i := 10) rfl fX9_19 kR rfl ?_
      refine p_getf (i := 11) rfl fX9_153 w3 rfl ?_
      refine p_icmp_le (i := 12) 28 rfl (by decide) (by omega) (by omega) (fun c22 => ?_) (fun c22 => ?_)
      · rw [if_neg (by omega)] at h
        refine p_aload_n (i := 15) rfl rfl ?_
        refine p_getf (i := 16) rfl fX9_19 kR rfl ?_
        refine p_aload_n (i := 17) rfl rfl ?_
        refine p_getf (i := 18) rfl fX9_32 kR rfl ?_
        refine p_iload_n (i := 19) rfl rfl ?_
        refine p_cV2 (i := 20) rfl ⟨lX9_231, rfl, rfl⟩ w3 ⟨_, rfl, rfl⟩ rfl (x_restore hHi hPa.r (by omega) (fun M1 M2 fr1 fr2 hHi2 hPa2 hy2 => ?_))
        obtain ⟨-, sc, wh, st, hs, lr, lf, lz, ⟨hp, hS, hW, hT, hH, hG, hR⟩, -⟩ := id hPa2
        have kR := fr1.at kR (by omega)
        have kR := fr2.at kR (by omega)
        refine p_aload_n (i := 21) rfl rfl ?_
        refine p_getf (i := 22) rfl fX9_32 kR rfl ?_
        refine p_getf (i := 23) rfl fX9_116 hp rfl ?_
        refine p_iret (i := 24) rfl rfl (rfl) ?_
        exact h M2 ⟨la, sa, ((hRt.fi fr1 (by omega)).fi fr2 (by omega)), ((hRd.fi fr1 (by omega)).fi fr2 (by omega)), hHi2, ((hIr.fi fr1 (by omega)).fi fr2 (by omega)), ((hI0.fi fr1 (by omega)).fi fr2 (by omega)), ((hI1.fi fr1 (by omega)).fi fr2 (by omega)), hPa2, ((hTr.fi fr1 (by omega)).fi fr2 (by omega)), ((hTu.fi fr1 (by omega)).fi fr2 (by omega)), ((hMe.fi fr1 (by omega)).fi fr2 (by omega)), ((hBo.fi fr1 (by omega)).fi fr2 (by omega)), ((hLi.fi fr1 (by omega)).fi fr2 (by omega)), ((hLs.fi fr1 (by omega)).fi fr2 (by omega)), hy2, b2, b3, b4, b5, b6, b7⟩ ((fr1.weak (by omega)).tr (fr2.weak (by omega)))
      · rw [if_pos (by omega)] at h
        refine p_ldc (i := 13) rfl kX9_220 ?_
        refine p_iret (i := 14) rfl rfl (rfl) ?_
        exact h M hX FrI.rf
    · rw [if_pos (by omega)] at h
      refine p_ldc (i := 6) rfl kX9_78 ?_
      refine p_iret (i := 7) rfl rfl (rfl) ?_
      exact h M hX FrI.rf
