-- the reference: line, the call
theorem zI_norm (a : Int) : ∃ b : Int, zI a = zI b ∧ -2147483648 ≤ b ∧ b ≤ 2147483647 := by
  refine ⟨(Int32.ofInt a).toInt, ?_, ?_, ?_⟩
  · show Value.int (Int32.ofInt a) = Value.int (Int32.ofInt (Int32.ofInt a).toInt)
    rw [Int32.ofInt_toInt]
  · exact Int32.le_toInt _
  · exact Int32.toInt_le _
theorem Y_line {M : AM} {tx : List Int} {fa : Int} {ln : LN} {g : GS} {un : List GS} {i0 i1 : Option (GS × Int)} {sd : Int} {me bo : List (Int × Int)} {Q : Option Value → AM → Prop} (hY : YW M (tx, fa, ln, g, un, i0, i1, sd, me, bo)) (h : ∀ M', YW M' (a_line (tx, fa, ln, g, un, i0, i1, sd, me, bo)).2 → FrI 276 12 M M' → Q (some (zI (a_line (tx, fa, ln, g, un, i0, i1, sd, me, bo)).1)) M') : C mX10_line [.ref 276] M Q := by
  dsimp only [a_line] at h
  obtain ⟨hRt, hLn, hA, hPa, hIm, hTx, hMe, hBo, hN, b1, b2, b3, b4, b5, b6, b7⟩ := id hY
  obtain ⟨ay, gy, ny, hy_, vy, ry, kY⟩ := id hRt
  have hL : YL M ln := hLn.l hRt.h
  obtain ⟨⟨o1, o2, o3, o4, o5, o6, o7⟩, lf, kL, l0, l1, l2, l3, l4⟩ := id hLn
  obtain ⟨⟨q1, q2, q3, q4, q5, q6, q7, q8, q9, q10, q11⟩, f, kT, ⟨t0, t1⟩, ⟨u1, u2, u3, u4, u5⟩⟩ := id hA
  obtain ⟨⟨rf, kRd⟩, ⟨f2, k280⟩, f3, k287⟩ := id hN
  obtain ⟨pm, pf, kPa, hpa⟩ := id hPa
  obtain ⟨imf, imh, kIm, kK, hi0, hi1⟩ := id hIm
  obtain ⟨v0, tf, kX, v1⟩ := id hTx
  obtain ⟨me0, mf, kMe, hme⟩ := id hMe
  obtain ⟨bo0, bf, kBo, hbo⟩ := id hBo
  have hT : YT M tx := ⟨v0, tf, kX, fun i hi => by
    unfold ch
    rw [if_pos hi]
    exact v1 i hi⟩
  obtain ⟨w, ew⟩ : ∃ w : YF, w = (((un.length : Nat) : Int), sd, ((tx.length : Nat) : Int), (-1 : Int), ((me.length : Nat) : Int), ((bo.length : Nat) : Int)) := ⟨_, rfl⟩
  have hw : w.2.2.1 = (tx.length : Nat) := by rw [ew]
  have bad : ∀ (M1 : AM) (ee : Int × Int) (at1 sg1 fg1 vl1 : Int) (f1 : Nat → Int), sRead tx 241 0 (0, [], []) = .error ee → YS M1 w at1 ee.2 sg1 fg1 vl1 ee.1 → M1 278 = some (zA 61 f1) → Fr2 276 278 M M1 → P none mX10_line 64 [.ref 276, zI 0] []  M1 Q := by
    intro M1 ee at1 sg1 fg1 vl1 f1 hs hS1 kRd1 fr
    obtain ⟨q1, q2, q3, q4⟩ := sRead_in tx 241 0 (0, [], []) ee (by omega) hs
    rw [hs] at h
    dsimp only at h
    have kY := hS1
    unfold YS at kY
    rw [ew] at kY
    dsimp only at kY
    obtain ⟨Ms, s1, s2⟩ := fr.split
    have fr0 : FrI 276 1 M1 M1 := FrI.rf
    have kRd1z := kRd1
    refine p_aload_n (i := 35) rfl rfl ?_
    refine p_iconst (i := 36) rfl ?_
    refine p_puti (i := 37) rfl gX10_64 kY rfl (P_gen fun M e => ?_)
    have kRd1z := aupN e kRd1z (by omega)
    have fr0 := fr0.up e (by omega)
    have kY := aupE e
    refine p_iload_n (i := 38) rfl rfl ?_
    refine p_if_ne (i := 39) 89 rfl (by decide) (by omega) (fun c70 => by exfalso; omega) (fun c70 => ?_)
    refine p_aload_n (i := 40) rfl rfl ?_
    refine p_aload_n (i := 41) rfl rfl ?_
    refine p_getf (i := 42) rfl fX10_75 kY rfl ?_
    refine p_puti (i := 43) rfl gX10_35 kY rfl (P_gen fun M e => ?_)
    have kRd1z := aupN e kRd1z (by omega)
    have fr0 := fr0.up e (by omega)
    have kY := aupE e
    refine p_bipush (i := 44) rfl (by decide) ?_
    refine p_aload_n (i := 45) rfl rfl ?_
    refine p_getf (i := 46) rfl fX10_91 kY rfl ?_
    refine p_isub (i := 47) rfl ?_
    refine p_iret (i := 48) rfl rfl (rfl) ?_
    refine h M ⟨⟨_, _, _, _, _, _, kY⟩, (((hLn.fi s1 (by omega)).fi s2 (by omega)).fi fr0 (by omega)), (((hA.fi s1 (by omega)).fi s2 (by omega)).fi fr0 (by omega)), (((hPa.fi s1 (by omega)).fi s2 (by omega)).fi fr0 (by omega)), (((hIm.fi s1 (by omega)).fi s2 (by omega)).fi fr0 (by omega)), ⟨by decide, tf, fr0.at (s2.at (s1.at kX (by omega)) (by omega)) (by omega), fun i hi => absurd hi (Nat.not_lt_zero i)⟩, (((hMe.fi s1 (by omega)).fi s2 (by omega)).fi fr0 (by omega)), (((hBo.fi s1 (by omega)).fi s2 (by omega)).fi fr0 (by omega)), ⟨⟨_, kRd1z⟩, ⟨_, fr0.at (s2.at (s1.at k280 (by omega)) (by omega)) (by omega)⟩, _, fr0.at (s2.at (s1.at k287 (by omega)) (by omega)) (by omega)⟩, b1, b2, b3, b4, b5, by show (-1 : Int) ≤ ee.2; omega, by show ee.2 ≤ (240 : Int); omega⟩ (((s1.weak (by omega)).tr (s2.weak (by omega))).tr (fr0.weak (by omega)))
  have good : ∀ (M1 : AM) (l : LN) (at1 bg1 sg1 fg1 vl1 wr1 : Int) (f1 : Nat → Int), sRead tx 241 0 (0, [], []) = .ok l → LnOk l → YS M1 w at1 bg1 sg1 fg1 vl1 wr1 → M1 278 = some (zA 61 f1) → YLn f1 l → Fr2 276 278 M M1 → P none mX10_line 64 [.ref 276, zI 1] []  M1 Q := by
    intro M1 l at1 bg1 sg1 fg1 vl1 wr1 f1 hs hlo hS1 kRd1 hl1 fr
    rw [hs] at h
    dsimp only at h
    have kY := hS1
    unfold YS at kY
    rw [ew] at kY
    dsimp only at kY
    have kL := fr.at kL (by omega)
    have kT := fr.at kT (by omega)
    have kK := fr.at kK (by omega)
    have kPa := fr.at kPa (by omega)
    have kIm := fr.at kIm (by omega)
    have kX := fr.at kX (by omega)
    have kMe := fr.at kMe (by omega)
    have kBo := fr.at kBo (by omega)
    have k280 := fr.at k280 (by omega)
    have k287 := fr.at k287 (by omega)
    have fr0 : FrI 276 1 M1 M1 := FrI.rf
    obtain ⟨p1, p2, p3, p4, -⟩ := id hlo
    refine p_aload_n (i := 35) rfl rfl ?_
    refine p_iconst (i := 36) rfl ?_
    refine p_puti (i := 37) rfl gX10_64 kY rfl (P_gen fun M e => ?_)
    have kL := aupN e kL (by omega)
    have kRd1 := aupN e kRd1 (by omega)
    have kT := aupN e kT (by omega)
    have kK := aupN e kK (by omega)
    have fr0 := fr0.up e (by omega)
    have kY := aupE e
    refine p_iload_n (i := 38) rfl rfl ?_
    refine p_if_ne (i := 39) 89 rfl (by decide) (by omega) (fun c70 => ?_) (fun c70 => by exfalso; omega)
    refine p_aload_n (i := 49) rfl rfl ?_
    refine p_getf (i := 50) rfl fX10_13 kY rfl ?_
    refine p_iconst (i := 51) rfl ?_
    refine p_aload_n (i := 52) rfl rfl ?_
    refine p_getf (i := 53) rfl fX10_7 kY rfl ?_
    refine p_iconst (i := 54) rfl ?_
    refine p_bipush (i := 55) rfl (by decide) ?_
    have frA : FrI 276 12 _ M := (fr.split).elim fun Ms z => ((z.1.weak (by omega)).tr (z.2.weak (by omega))).tr (fr0.weak (by omega))
    refine p_cS5 (i := 56) rfl ⟨lX10_118, rfl, rfl⟩ rfl (y_copies (i := 0) (j := 0) (m := 61) kRd1 kL (by decide) (by omega) (by omega) (by decide) (fun M2 f4 kL2 hf4 fr2 => ?_))
    have hl4 : YLn f4 l := hl1.cg hlo (fun q hq => by rw [hf4 q, if_pos (by omega), show 0 + (q - 0) = q by omega])
    have kY := fr2.at kY (by omega)
    have hS2 : YS M2 (((un.length : Nat) : Int), sd, 0, (-1 : Int), ((me.length : Nat) : Int), ((bo.length : Nat) : Int)) at1 bg1 sg1 fg1 vl1 wr1 := kY
    refine p_aload_n (i := 57) rfl rfl ?_
    refine p_cV0 (i := 58) rfl ⟨lX10_122, rfl, rfl⟩ kY ⟨_, rfl, rfl⟩ rfl (y_begins hS2 (fr2.at kT (by omega)) (fr2.at kK (by omega)) (fun M3 f5 h5 hS3 kT3 hf5 kK3 h50 h51 fr3 => ?_))
    have kY := hS3
    unfold YS at kY
    have kL3 := fr3.at kL2 (by omega)
    refine p_aload_n (i := 59) rfl rfl ?_
    refine p_getf (i := 60) rfl fX10_7 kY rfl ?_
    refine p_iconst (i := 61) rfl ?_
    refine p_iaX (i := 62) (1) rfl kL3 (by omega) (by omega) (by decide) ?_
    refine p_iret (i := 63) rfl rfl (rfl) ?_
    have n1 : f4 1 = (nS l : Nat) := hl4.2.1
    rw [n1]
    have up : ∀ {o : Nat} {x : AE}, M1 o = some x → o ≠ 276 → o ≠ 277 → o ≠ 279 → o ≠ 283 → M3 o = some x := fun hx g1 g2 g3 g4 => fr3.at (fr2.at (fr0.at hx (by omega)) (by omega)) (by omega)
    refine h M3 ⟨⟨_, _, _, _, _, _, kY⟩, ⟨hlo, f4, kL3, hl4⟩, ⟨g0_ok p3 p4, f5, kT3, ?_, ?_⟩, ⟨by decide, pf, ?_, fun i hi => absurd hi (Nat.not_lt_zero i)⟩, ⟨imf, h5, ?_, kK3, h50, h51⟩, ⟨by decide, tf, ?_, fun i hi => absurd hi (Nat.not_lt_zero i)⟩, ⟨by decide, mf, ?_, fun i hi => absurd hi (Nat.not_lt_zero i)⟩, ⟨by decide, bf, ?_, fun i hi => absurd hi (Nat.not_lt_zero i)⟩, ⟨⟨f1, ?_⟩, ⟨f2, ?_⟩, f3, ?_⟩, by decide, b2, b3, fun i hi => absurd hi (Nat.not_lt_zero i), fun i hi => absurd hi (Nat.not_lt_zero i), by decide, by decide⟩ ((frA.tr (fr2.weak (by omega))).tr (fr3.fi (by omega)))
    · exact ⟨hf5 0 (by decide), fun k hk => absurd hk (Nat.not_lt_zero k)⟩
    · refine ⟨hf5 31 (by decide), hf5 32 (by decide), fun j hj => ?_, hf5 39 (by decide), fun k hk => absurd hk (Nat.not_lt_zero k)⟩
      rw [hf5 _ (by omega), if_neg (by omega)]
      have : ∀ j, j < 6 → ([0, 0, 0, 0, 0, 0] : List Int).getD j 0 = 0 := by decide
      exact (this j hj).symm
    · exact up kPa (by decide) (by decide) (by decide) (by decide)
    · exact up kIm (by decide) (by decide) (by decide) (by decide)
    · exact up kX (by decide) (by decide) (by decide) (by decide)
    · exact up kMe (by decide) (by decide) (by decide) (by decide)
    · exact up kBo (by decide) (by decide) (by decide) (by decide)
    · exact fr3.at (fr2.at kRd1 (by omega)) (by omega)
    · exact up k280 (by decide) (by decide) (by decide) (by decide)
    · exact up k287 (by decide) (by decide) (by decide) (by decide)
  have loop : ∀ (f a : Nat) (M1 : AM) (l : LN) (at0 sg1 fg1 vl1 wr1 : Int) (f1 : Nat → Int), a ≤ tx.length → tx.length < f + a → sRead tx f a l = sRead tx 241 0 (0, [], []) → LnOk l → YS M1 w at0 (sk tx a : Nat) sg1 fg1 vl1 wr1 → ((¬ dg (ch tx (sk tx a)) ∧ sg1 = ch tx (sk tx a) ∧ (sk tx a < tx.length → at0 = ((sk tx a + 1 : Nat) : Int))) ∨ (dg (ch tx (sk tx a)) ∧ sg1 = 48)) → M1 278 = some (zA 61 f1) → YLn f1 l → (∀ j, nW l ≤ j → j < 6 → f1 (19 + j) = 0) → Fr2 276 278 M M1 → P none mX10_line 37 [.ref 276, zI 1] []  M1 Q := by
    intro f
    induction f with
    | zero =>
      intro a M1 l at0 sg1 fg1 vl1 wr1 f1 ha hf
      omega
    | succ f ih =>
      intro a M1 l at0 sg1 fg1 vl1 wr1 f1 ha hf e1 hlo hS1 hsg kRd1 hl1 hz1 fr
      have hT1 := hT.f2 fr
      have hc := hT1.c (sk tx a)
      have hska := sk_rng tx a
      unfold sRead at e1
      have kY := hS1
      unfold YS at kY
      refine p_aload_n (i := 22) rfl rfl ?_
      refine p_getf (i := 23) rfl fX10_78 kY rfl ?_
      refine p_if_lt (i := 24) 64 rfl (by decide) (by omega) (fun c41 => ?_) (fun c41 => ?_)
      · rw [if_pos (by omega)] at e1
        exact good M1 l _ _ _ _ _ _ _ e1.symm hlo hS1 kRd1 hl1 fr
      · rw [if_neg (by omega)] at e1
        have hs : sk tx a < tx.length := by
          rcases Nat.lt_or_ge (sk tx a) tx.length with z | z
          · exact z
          · have := ch_end z; omega
        refine p_iload_n (i := 25) rfl rfl ?_
        refine p_if_eq (i := 26) 64 rfl (by decide) (by omega) (fun c45 => by exfalso; omega) (fun c45 => ?_)
        refine p_aload_n (i := 27) rfl rfl ?_
        refine p_cV0 (i := 28) rfl ⟨lX10_115, rfl, rfl⟩ kY ⟨_, rfl, rfl⟩ rfl (y_readsClause hS1 hw hT1 hs (hsg.imp (fun z => ⟨z.1, z.2.1, z.2.2 hs⟩) id) kRd1 hl1 hlo hz1 (fun M2 a2 l2 bg2 sg2 fg2 vl2 f2 e2 hS2 kRd2 hl2 hz2 fr2 => ?_) (fun M2 ee at2 sg2 fg2 vl2 e2 hS2 kRd2 fr2 => ?_))
        · have hin := sClause_in (ln := l) hs
          have hgt := sClause_gt hs e2
          have hlo2 := sClause_ok hlo e2
          rw [e2] at e1 hin
          have hin : a2 ≤ tx.length := hin
          dsimp only at e1
          have frB := fr.tr fr2
          have kY := hS2
          unfold YS at kY
          refine p_istore_n (i := 29) rfl rfl ?_
          refine p_iload_n (i := 30) rfl rfl ?_
          refine p_if_eq (i := 31) 37 rfl (by decide) (by omega) (fun c54 => by exfalso; omega) (fun c54 => ?_)
          refine p_aload_n (i := 32) rfl rfl ?_
          refine p_cV0 (i := 33) rfl ⟨lX10_94, rfl, rfl⟩ kY ⟨_, rfl, rfl⟩ rfl (y_step hS2 hw (hT.f2 frB) hin (fun M4 z hS4 fr4 => ?_) (fun M4 z hS4 fr4 => ?_))
          · refine p_goto (i := 34) 37 rfl (by decide) ?_
            exact ih a2 M4 l2 _ _ _ _ _ _ hin (by omega) e1 hlo2 hS4 (Or.inr ⟨z, rfl⟩) (fr4.at kRd2 (by omega)) hl2 hz2 (frB.fi fr4 (by omega))
          · refine p_goto (i := 34) 37 rfl (by decide) ?_
            refine ih a2 M4 l2 _ _ _ _ _ _ hin (by omega) e1 hlo2 hS4 (Or.inl ⟨z, rfl, fun hlt => ?_⟩) (fr4.at kRd2 (by omega)) hl2 hz2 (frB.fi fr4 (by omega))
            have h0 : ¬ ch tx (sk tx a2) < 0 := by
              have := (v1 _ hlt).2.1
              unfold ch
              rw [if_pos hlt]
              omega
            rw [if_neg h0]
        · rw [e2] at e1
          dsimp only at e1
          have frB := fr.tr fr2
          obtain ⟨f4, kRd4⟩ := kRd2
          have kY := hS2
          unfold YS at kY
          obtain ⟨sg3, esg, hsr⟩ := zI_norm sg2
          rw [esg] at kY
          have hS3 : YS M2 w at2 ee.2 sg3 fg2 vl2 ee.1 := kY
          refine p_istore_n (i := 29) rfl rfl ?_
          refine p_iload_n (i := 30) rfl rfl ?_
          refine p_if_eq (i := 31) 37 rfl (by decide) (by omega) (fun c54 => ?_) (fun c54 => by exfalso; omega)
          refine p_aload_n (i := 22) rfl rfl ?_
          refine p_getf (i := 23) rfl fX10_78 kY rfl ?_
          refine p_if_lt (i := 24) 64 rfl (by decide) (by omega) (fun c41 => ?_) (fun c41 => ?_)
          · exact bad M2 ee _ _ _ _ _ e1.symm hS3 kRd4 frB
          · refine p_iload_n (i := 25) rfl rfl ?_
            refine p_if_eq (i := 26) 64 rfl (by decide) (by omega) (fun c45 => ?_) (fun c45 => by exfalso; omega)
            exact bad M2 ee _ _ _ _ _ e1.symm hS3 kRd4 frB
  have zero : ∀ (c i : Nat) (M1 : AM) (f1 : Nat → Int), c + i = 61 → M1 278 = some (zA 61 f1) → (∀ q, q < i → f1 q = 0) → FrI 278 1 M M1 → P none mX10_line 2 [.ref 276, zI (i : Nat)] []  M1 Q := by
    intro c
    induction c with
    | zero =>
      intro i M1 f1 e1 kRd1 hz fr
      have kY := fr.at kY (by omega)
      have fr0 : FrI 276 1 M1 M1 := FrI.rf
      refine p_iload_n (i := 2) rfl rfl ?_
      refine p_bipush (i := 3) rfl (by decide) ?_
      refine p_icmp_ge (i := 4) 21 rfl (by decide) (by omega) (by omega) (fun c5 => ?_) (fun c5 => by exfalso; omega)
      refine p_aload_n (i := 12) rfl rfl ?_
      refine p_iconst (i := 13) rfl ?_
      refine p_puti (i := 14) rfl gX10_68 kY rfl (P_gen fun M e => ?_)
      have kRd1 := aupN e kRd1 (by omega)
      have fr0 := fr0.up e (by omega)
      have kY := aupE e
      refine p_aload_n (i := 15) rfl rfl ?_
      refine p_iconst (i := 16) rfl ?_
      refine p_puti (i := 17) rfl gX10_35 kY rfl (P_gen fun M e => ?_)
      have kRd1 := aupN e kRd1 (by omega)
      have fr0 := fr0.up e (by omega)
      have kY := aupE e
      refine p_iconst (i := 18) rfl ?_
      refine p_istore_n (i := 19) rfl rfl ?_
      refine p_aload_n (i := 20) rfl rfl ?_
      have hS1 : YS M w ((0 : Nat) : Int) gy ny hy_ vy ry := by
        rw [ew]
        exact kY
      have frA : Fr2 276 278 _ M := (Fr2.rf.fi fr (by omega)).fi fr0 (by omega)
      have hz0 : ∀ q, q < 61 → f1 q = 0 := fun q hq => hz q (by omega)
      have hT1 := hT.f2 frA
      refine p_cV0 (i := 21) rfl ⟨lX10_94, rfl, rfl⟩ kY ⟨_, rfl, rfl⟩ rfl (y_step hS1 hw hT1 (Nat.zero_le _) (fun M4 z hS4 fr4 => ?_) (fun M4 z hS4 fr4 => ?_))
      · exact loop 241 0 M4 (0, [], []) _ _ _ _ _ _ (Nat.zero_le _) (by omega) rfl ln0_ok hS4 (Or.inr ⟨z, rfl⟩) (fr4.at kRd1 (by omega)) (YLn.zero hz0) (fun j _ hj => hz0 _ (by omega)) (frA.fi fr4 (by omega))
      · refine loop 241 0 M4 (0, [], []) _ _ _ _ _ _ (Nat.zero_le _) (by omega) rfl ln0_ok hS4 (Or.inl ⟨z, rfl, fun hlt => ?_⟩) (fr4.at kRd1 (by omega)) (YLn.zero hz0) (fun j _ hj => hz0 _ (by omega)) (frA.fi fr4 (by omega))
        have h0 : ¬ ch tx (sk tx 0) < 0 := by
          have := (v1 _ hlt).2.1
          unfold ch
          rw [if_pos hlt]
          omega
        rw [if_neg h0]
    | succ c ih =>
      intro i M1 f1 e1 kRd1 hz fr
      have kY := fr.at kY (by omega)
      refine p_iload_n (i := 2) rfl rfl ?_
      refine p_bipush (i := 3) rfl (by decide) ?_
      refine p_icmp_ge (i := 4) 21 rfl (by decide) (by omega) (by omega) (fun c5 => by exfalso; omega) (fun c5 => ?_)
      refine p_aload_n (i := 5) rfl rfl ?_
      refine p_getf (i := 6) rfl fX10_13 kY rfl ?_
      refine p_iload_n (i := 7) rfl rfl ?_
      refine p_iconst (i := 8) rfl ?_
      refine p_isX (i := 9) _ rfl kRd1 rfl (by omega) (by decide) (P_gen fun M e => ?_)
      have kY := aupN e kY (by omega)
      have fr := fr.up e (by omega)
      have kRd1 := aupE e
      refine p_iinc (i := 10) rfl rfl rfl ?_
      refine p_goto (i := 11) 2 rfl (by decide) ?_
      refine ih (i + 1) M _ (by omega) kRd1 (fun q hq => ?_) fr
      by_cases z : q = i
      · rw [z, zup_e]
      · rw [zup_n z]; exact hz q (by omega)
  refine C_of okX10_line (by decide) (Nat.le_of_ble_eq_true rfl) ?_
  show P none mX10_line 0 [.ref 276, .retAddr 0] [] _ _
  refine p_iconst (i := 0) rfl ?_
  refine p_istore_n (i := 1) rfl rfl ?_
  exact zero 61 0 M rf rfl kRd (fun q hq => absurd hq (Nat.not_lt_zero q)) FrI.rf
