-- the orders of turns, of the reference: the call
theorem Y_order {M : AM} {tx : List Int} {fa : Int} {ln : LN} {g : GS} {un : List GS} {i0 i1 : Option (GS × Int)} {sd : Int} {me bo : List (Int × Int)} {Q : Option Value → AM → Prop} {s what : Int} (hY : YW M (tx, fa, ln, g, un, i0, i1, sd, me, bo)) (hss : -2147483648 ≤ s ∧ s ≤ 2147483647) (hw : -2147483648 ≤ what ∧ what ≤ 2147483647) (h : ∀ M', YW M' (tx, fa, ln, g, un, i0, i1, sd, me, bo) → FrI 276 12 M M' → Q (some (zI (a_order (tx, fa, ln, g, un, i0, i1, sd, me, bo) s what))) M') : C mX10_order [.ref 276, zI s, zI what] M Q := by
  dsimp only [a_order] at h
  obtain ⟨hRt, hLn, hA, hPa, hIm, hTx, hMe, hBo, hN, b1, b2, b3, b4, b5, b6, b7⟩ := id hY
  obtain ⟨ay, gy, ny, hy_, vy, ry, kY⟩ := id hRt
  have hL : YL M ln := hLn.l hRt.h
  obtain ⟨⟨o1, o2, o3, o4, o5, o6, o7⟩, lf, kL, l0, l1, l2, l3, l4⟩ := id hLn
  obtain ⟨⟨q1, q2, q3, q4, q5, q6, q7, q8, q9, q10, q11⟩, f, kT, ⟨t0, t1⟩, ⟨u1, u2, u3, u4, u5⟩⟩ := id hA
  obtain ⟨N, eN⟩ : ∃ N, N = 2 ^ nW ln := ⟨_, rfl⟩
  have hNb : N ≤ 64 := by rw [eN]; exact Nat.pow_le_pow_right (n := 2) (by decide) (show nW ln ≤ 6 by omega)
  rw [← eN] at h
  have inner : ∀ (c k : Nat) (M0 M1 : AM) (t : GS) (num : Int) (l : List Nat) (set : Nat) (v4 v5 v6 : Int), k + c = l.length → YH M0 → YLi M0 ln → YTl M0 l → YA M1 280 (nS ln) (nW ln) t → t.2.2.1 + c ≤ 95000 → (∀ i, i < l.length → l.getD i 0 < nW ln) → FrI 280 1 M0 M1 → fo (fun i s => passY ln (s.1, ((l.getD i 0 : Nat) : Int), s.2.2)) c k t = dkG ln g l → fo (fun (i : Nat) (s : Int) => s * 10 + (l.getD i 0 : Nat) + 1) c k num = fig l → (∀ M', YA M' 280 (nS ln) (nW ln) (dkG ln g l) → FrI 280 1 M0 M' → P none mX10_order 172 [.ref 276, zI (set : Int), zI what, zI (l.length : Nat), zI v4, zI v5, zI v6, zI (fig l), zI (l.length : Nat)] []  M' Q) → P none mX10_order 121 [.ref 276, zI (set : Int), zI what, zI (l.length : Nat), zI v4, zI v5, zI v6, zI num, zI (k : Int)] []  M1 Q := by
    intro c
    induction c with
    | zero =>
      intro k M0 M1 t num l set v4 v5 v6 hkc hH hLi hU hA1 hy hlw fr e1 e2 hq
      have hl6 := hU.1
      obtain rfl : k = l.length := by omega
      have e1 : t = dkG ln g l := e1
      have e2 : num = fig l := e2
      refine p_iload (i := 68) rfl rfl ?_
      refine p_iload_n (i := 69) rfl rfl ?_
      refine p_icmp_ge (i := 70) 172 rfl (by decide) (by omega) (by omega) (fun c124 => ?_) (fun c124 => by exfalso; omega)
      rw [e2]
      rw [e1] at hA1
      exact hq M1 hA1 fr
    | succ c ih =>
      intro k M0 M1 t num l set v4 v5 v6 hkc hH hLi hU hA1 hy hlw fr e1 e2 hq
      have e1 : fo (fun i s => passY ln (s.1, ((l.getD i 0 : Nat) : Int), s.2.2)) c (k + 1) (passY ln (t.1, ((l.getD k 0 : Nat) : Int), t.2.2)) = dkG ln g l := e1
      have e2 : fo (fun (i : Nat) (s : Int) => s * 10 + (l.getD i 0 : Nat) + 1) c (k + 1) (num * 10 + (l.getD k 0 : Nat) + 1) = fig l := e2
      have hl6 := hU.1
      have hU1 := hU.fi fr (by omega)
      obtain ⟨l0, rf, k1, hr⟩ := id hU1
      have er := hr k (by omega)
      have hwk := hlw k (by omega)
      obtain ⟨uy, sy, zy, fy, my, by_, ay, gy, ny, hy_, vy, ry, kY⟩ := id hH
      have kY := fr.at kY (by omega)
      obtain ⟨hG1, f1, kA, hf1⟩ := id hA1
      have frA : FrI 280 1 M1 M1 := FrI.rf
      refine p_iload (i := 68) rfl rfl ?_
      refine p_iload_n (i := 69) rfl rfl ?_
      refine p_icmp_ge (i := 70) 172 rfl (by decide) (by omega) (by omega) (fun c124 => by exfalso; omega) (fun c124 => ?_)
      refine p_aload_n (i := 71) rfl rfl ?_
      refine p_getf (i := 72) rfl fX10_19 kY rfl ?_
      refine p_bipush (i := 73) rfl (by decide) ?_
      refine p_aload_n (i := 74) rfl rfl ?_
      refine p_getf (i := 75) rfl fX10_45 kY rfl ?_
      refine p_iload (i := 76) rfl rfl ?_
      refine p_iaX (i := 77) _ rfl k1 rfl (by omega) (by decide) ?_
      refine p_isX (i := 78) (31) rfl kA (by omega) (by omega) (by decide) (P_gen fun M e => ?_)
      have kY := aupN e kY (by omega)
      have k1 := aupN e k1 (by omega)
      have frA := frA.up e (by omega)
      have kA := aupE e
      refine p_aload_n (i := 79) rfl rfl ?_
      refine p_aload_n (i := 80) rfl rfl ?_
      refine p_getf (i := 81) rfl fX10_19 kY rfl ?_
      rw [er] at kA
      have frB := fr.tr frA
      have hA2 : YA M 280 (nS ln) (nW ln) (t.1, ((l.getD k 0 : Nat) : Int), t.2.2) := ⟨hG1.wr (by omega), _, kA, hf1.wr hG1⟩
      refine p_cV1 (i := 82) rfl ⟨lX10_224, rfl, rfl⟩ kY ⟨_, rfl, rfl⟩ rfl (y_yearGoes ((hLi.fi frB (by omega)).l ⟨uy, sy, zy, fy, my, by_, ay, gy, ny, hy_, vy, ry, kY⟩) hA2 (by decide) (by show t.2.2.1 < 100000; omega) (fun M2 hA3 fr3 => ?_))
      have kY := fr3.at kY (by omega)
      have k1 := fr3.at k1 (by omega)
      have ey : (passY ln (t.1, ((l.getD k 0 : Nat) : Int), t.2.2)).2.2.1 = t.2.2.1 + 1 := passY_y ln (t.1, ((l.getD k 0 : Nat) : Int), t.2.2)
      refine p_bipush (i := 83) rfl (by decide) ?_
      refine p_iload (i := 84) rfl rfl ?_
      refine p_imul (i := 85) rfl ?_
      refine p_aload_n (i := 86) rfl rfl ?_
      refine p_getf (i := 87) rfl fX10_45 kY rfl ?_
      refine p_iload (i := 88) rfl rfl ?_
      refine p_iaX (i := 89) _ rfl k1 rfl (by omega) (by decide) ?_
      refine p_iadd (i := 90) rfl ?_
      refine p_iconst (i := 91) rfl ?_
      refine p_iadd (i := 92) rfl ?_
      refine p_istore (i := 93) rfl rfl ?_
      refine p_iinc (i := 94) rfl rfl rfl ?_
      refine p_goto (i := 95) 121 rfl (by decide) ?_
      rw [er, show (10 : Int) * num + (l.getD k 0 : Nat) + 1 = num * 10 + (l.getD k 0 : Nat) + 1 by omega]
      exact ih (k + 1) M0 M2 _ _ l set v4 v5 v6 (by omega) hH hLi hU hA3 (by omega) hlw (frB.tr fr3) e1 e2 hq
  have tail : ∀ (M1 : AM) (sp : Int × Int) (set n : Nat) (v7 v8 : Value), 0 ≤ what ∧ what ≤ 1 → Q (some (zI (if what = 0 then sp.1 else sp.2))) M1 → P none mX10_order 217 [.ref 276, zI (set : Int), zI what, zI (n : Int), zI sp.1, zI sp.2, zI 0, v7, v8] []  M1 Q := by
    intro M1 sp set n v7 v8 hwh hq
    refine p_iload_n (i := 117) rfl rfl ?_
    refine p_if_ne (i := 118) 226 rfl (by decide) (by omega) (fun c218 => ?_) (fun c218 => ?_)
    · rw [if_neg (by omega)] at hq
      refine p_iload (i := 121) rfl rfl ?_
      refine p_iret (i := 122) rfl rfl (rfl) ?_
      exact hq
    · rw [if_pos (by omega)] at hq
      refine p_iload (i := 119) rfl rfl ?_
      refine p_goto (i := 120) 228 rfl (by decide) ?_
      refine p_iret (i := 122) rfl rfl (rfl) ?_
      exact hq
  have loop : ∀ (c : Nat) (M1 : AM) (l : List Nat) (sp : Int × Int) (set n : Nat) (v7 v8 : Value), set < 2 ^ nW ln → n ≤ 5 → 2 ≤ n → 0 ≤ what ∧ what ≤ 1 → YTl M1 l → YNy M1 → orb set n c l = true → 0 ≤ sp.1 ∧ sp.1 ≤ 100000000 → Fr2 280 287 M M1 → (∀ M', YNy M' → Fr2 280 287 M M' → Q (some (zI (if what = 0 then (ordF ln g c l sp).1 else (ordF ln g c l sp).2))) M') → P none mX10_order 106 [.ref 276, zI (set : Int), zI what, zI (n : Int), zI sp.1, zI sp.2, zI 1, v7, v8] []  M1 Q := by
    intro c
    induction c with
    | zero =>
      intro M1 l sp set n v7 v8 hset hn5 hn2 hwh hU hN1 ho hsp fr hq
      have hg := orb_g ho
      obtain ⟨en, -, hdi⟩ := gdR_at hg
      have hlw := gdR_w hg hset
      obtain ⟨Ms, s1, s2⟩ := fr.split
      have hRt1 := (hRt.fi s1 (by omega)).fi s2 (by omega)
      have hLn1 := (hLn.fi s1 (by omega)).fi s2 (by omega)
      have hA1 := (hA.fi s1 (by omega)).fi s2 (by omega)
      have hdk := dkT_rng hLn.1 hlw (by omega) hA.1 b1
      obtain ⟨ay, gy, ny, hy_, vy, ry, kY⟩ := id hRt1
      refine p_iload (i := 60) rfl rfl ?_
      refine p_if_eq (i := 61) 217 rfl (by decide) (by omega) (fun c108 => by exfalso; omega) (fun c108 => ?_)
      refine p_iconst (i := 62) rfl ?_
      refine p_istore (i := 63) rfl rfl ?_
      refine p_aload_n (i := 64) rfl rfl ?_
      refine p_cV0 (i := 65) rfl ⟨lX10_250, rfl, rfl⟩ kY ⟨_, rfl, rfl⟩ rfl (y_layAside hRt1.h hA1 hN1 (fun M2 hA2 fr2 => ?_))
      refine p_iconst (i := 66) rfl ?_
      refine p_istore (i := 67) rfl rfl ?_
      subst en
      refine inner l.length 0 M1 M2 g 0 l set _ _ _ (by omega) hRt1.h hLn1 hU hA2 (by omega) hlw fr2 rfl rfl (fun M3 hA3 fr3 => ?_)
      have kY := fr3.at kY (by omega)
      have hU3 := hU.fi fr3 (by omega)
      have frC := fr.fi fr3 (by omega)
      have hN3 : YNy M3 := hN1.as fr3 rfl (by obtain ⟨-, f, hf, -⟩ := hA3; exact ⟨f, hf⟩)
      have hH3 : YH M3 := ⟨_, _, _, _, _, _, ay, gy, ny, hy_, vy, ry, kY⟩
      refine p_aload_n (i := 96) rfl rfl ?_
      refine p_aload_n (i := 97) rfl rfl ?_
      refine p_getf (i := 98) rfl fX10_19 kY rfl ?_
      refine p_cV1 (i := 99) rfl ⟨lX10_175, rfl, rfl⟩ kY ⟨_, rfl, rfl⟩ rfl (y_darkOn ((hLn1.fi fr3 (by omega)).l hH3) hA3 ?_)
      refine p_istore (i := 100) rfl rfl ?_
      refine p_iload (i := 101) rfl rfl ?_
      refine p_iload (i := 102) rfl rfl ?_
      have hq : ∀ M', YNy M' → Fr2 280 287 M M' → Q (some (zI (if what = 0 then (oSt ln g l sp).1 else (oSt ln g l sp).2))) M' := hq
      have edk : smAll (dkG ln g l).1 / 10 = dkT ln g l := rfl
      rw [edk]
      refine p_icmp_ge (i := 103) 194 rfl (by decide) (by omega) (by omega) (fun c186 => ?_) (fun c186 => ?_)
      · rw [oSt_n (by omega)] at hq
        refine p_iload (i := 106) rfl rfl ?_
        refine p_istore (i := 107) rfl rfl ?_
        refine p_iload (i := 108) rfl rfl ?_
        refine p_iload (i := 109) rfl rfl ?_
        refine p_cS2 (i := 110) rfl ⟨lX10_152, rfl, rfl⟩ rfl (y_lesser (by omega) (by omega) ?_)
        rw [show min (dkT ln g l) sp.1 = sp.1 by omega]
        refine p_istore (i := 111) rfl rfl ?_
        refine p_aload_n (i := 112) rfl rfl ?_
        refine p_iload_n (i := 113) rfl rfl ?_
        refine p_cV1 (i := 114) rfl ⟨lX10_262, rfl, rfl⟩ kY ⟨_, rfl, rfl⟩ rfl (y_nextOrder hH3 hU3 rfl hn2 (fun i hi => by have := hlw i hi; omega) hdi (fun z => ?_) (fun M4 r z hU4 fr4 => ?_))
        · refine p_istore (i := 115) rfl rfl ?_
          refine p_goto (i := 116) 106 rfl (by decide) ?_
          refine p_iload (i := 60) rfl rfl ?_
          refine p_if_eq (i := 61) 217 rfl (by decide) (by omega) (fun c108 => ?_) (fun c108 => by exfalso; omega)
          exact tail M3 sp set _ _ _ hwh (hq M3 hN3 frC)
        · rw [orb_0 ho] at z
          cases z
      · rw [oSt_p (by omega)] at hq
        refine p_iload (i := 104) rfl rfl ?_
        refine p_goto (i := 105) 196 rfl (by decide) ?_
        refine p_istore (i := 107) rfl rfl ?_
        refine p_iload (i := 108) rfl rfl ?_
        refine p_iload (i := 109) rfl rfl ?_
        refine p_cS2 (i := 110) rfl ⟨lX10_152, rfl, rfl⟩ rfl (y_lesser (by omega) (by omega) ?_)
        rw [show min (dkT ln g l) sp.1 = dkT ln g l by omega]
        refine p_istore (i := 111) rfl rfl ?_
        refine p_aload_n (i := 112) rfl rfl ?_
        refine p_iload_n (i := 113) rfl rfl ?_
        refine p_cV1 (i := 114) rfl ⟨lX10_262, rfl, rfl⟩ kY ⟨_, rfl, rfl⟩ rfl (y_nextOrder hH3 hU3 rfl hn2 (fun i hi => by have := hlw i hi; omega) hdi (fun z => ?_) (fun M4 r z hU4 fr4 => ?_))
        · refine p_istore (i := 115) rfl rfl ?_
          refine p_goto (i := 116) 106 rfl (by decide) ?_
          refine p_iload (i := 60) rfl rfl ?_
          refine p_if_eq (i := 61) 217 rfl (by decide) (by omega) (fun c108 => ?_) (fun c108 => by exfalso; omega)
          exact tail M3 (dkT ln g l, fig l) set _ _ _ hwh (hq M3 hN3 frC)
        · rw [orb_0 ho] at z
          cases z
    | succ c ih =>
      intro M1 l sp set n v7 v8 hset hn5 hn2 hwh hU hN1 ho hsp fr hq
      have hg := orb_g ho
      obtain ⟨en, -, hdi⟩ := gdR_at hg
      have hlw := gdR_w hg hset
      obtain ⟨Ms, s1, s2⟩ := fr.split
      have hRt1 := (hRt.fi s1 (by omega)).fi s2 (by omega)
      have hLn1 := (hLn.fi s1 (by omega)).fi s2 (by omega)
      have hA1 := (hA.fi s1 (by omega)).fi s2 (by omega)
      have hdk := dkT_rng hLn.1 hlw (by omega) hA.1 b1
      obtain ⟨ay, gy, ny, hy_, vy, ry, kY⟩ := id hRt1
      refine p_iload (i := 60) rfl rfl ?_
      refine p_if_eq (i := 61) 217 rfl (by decide) (by omega) (fun c108 => by exfalso; omega) (fun c108 => ?_)
      refine p_iconst (i := 62) rfl ?_
      refine p_istore (i := 63) rfl rfl ?_
      refine p_aload_n (i := 64) rfl rfl ?_
      refine p_cV0 (i := 65) rfl ⟨lX10_250, rfl, rfl⟩ kY ⟨_, rfl, rfl⟩ rfl (y_layAside hRt1.h hA1 hN1 (fun M2 hA2 fr2 => ?_))
      refine p_iconst (i := 66) rfl ?_
      refine p_istore (i := 67) rfl rfl ?_
      subst en
      refine inner l.length 0 M1 M2 g 0 l set _ _ _ (by omega) hRt1.h hLn1 hU hA2 (by omega) hlw fr2 rfl rfl (fun M3 hA3 fr3 => ?_)
      have kY := fr3.at kY (by omega)
      have hU3 := hU.fi fr3 (by omega)
      have frC := fr.fi fr3 (by omega)
      have hN3 : YNy M3 := hN1.as fr3 rfl (by obtain ⟨-, f, hf, -⟩ := hA3; exact ⟨f, hf⟩)
      have hH3 : YH M3 := ⟨_, _, _, _, _, _, ay, gy, ny, hy_, vy, ry, kY⟩
      rw [ordF_c] at hq
      have hN4 : ∀ (M4 : AM) (r : List Nat), YTl M4 r → FrI 287 1 M3 M4 → YNy M4 := fun M4 r hU4 fr4 => by
        obtain ⟨⟨fa, n1⟩, ⟨fb, n2⟩, n3⟩ := hN3
        obtain ⟨-, fc, n4, -⟩ := hU4
        exact ⟨⟨fa, fr4.at n1 (by omega)⟩, ⟨fb, fr4.at n2 (by omega)⟩, fc, n4⟩
      refine p_aload_n (i := 96) rfl rfl ?_
      refine p_aload_n (i := 97) rfl rfl ?_
      refine p_getf (i := 98) rfl fX10_19 kY rfl ?_
      refine p_cV1 (i := 99) rfl ⟨lX10_175, rfl, rfl⟩ kY ⟨_, rfl, rfl⟩ rfl (y_darkOn ((hLn1.fi fr3 (by omega)).l hH3) hA3 ?_)
      refine p_istore (i := 100) rfl rfl ?_
      refine p_iload (i := 101) rfl rfl ?_
      refine p_iload (i := 102) rfl rfl ?_
      have edk : smAll (dkG ln g l).1 / 10 = dkT ln g l := rfl
      rw [edk]
      refine p_icmp_ge (i := 103) 194 rfl (by decide) (by omega) (by omega) (fun c186 => ?_) (fun c186 => ?_)
      · rw [oSt_n (by omega)] at hq
        refine p_iload (i := 106) rfl rfl ?_
        refine p_istore (i := 107) rfl rfl ?_
        refine p_iload (i := 108) rfl rfl ?_
        refine p_iload (i := 109) rfl rfl ?_
        refine p_cS2 (i := 110) rfl ⟨lX10_152, rfl, rfl⟩ rfl (y_lesser (by omega) (by omega) ?_)
        rw [show min (dkT ln g l) sp.1 = sp.1 by omega]
        refine p_istore (i := 111) rfl rfl ?_
        refine p_aload_n (i := 112) rfl rfl ?_
        refine p_iload_n (i := 113) rfl rfl ?_
        refine p_cV1 (i := 114) rfl ⟨lX10_262, rfl, rfl⟩ kY ⟨_, rfl, rfl⟩ rfl (y_nextOrder hH3 hU3 rfl hn2 (fun i hi => by have := hlw i hi; omega) hdi (fun z => ?_) (fun M4 r z hU4 fr4 => ?_))
        · rw [ordC_n z] at hq
          refine p_istore (i := 115) rfl rfl ?_
          refine p_goto (i := 116) 106 rfl (by decide) ?_
          refine p_iload (i := 60) rfl rfl ?_
          refine p_if_eq (i := 61) 217 rfl (by decide) (by omega) (fun c108 => ?_) (fun c108 => by exfalso; omega)
          exact tail M3 sp set _ _ _ hwh (hq M3 hN3 frC)
        · rw [ordC_s z] at hq
          have hor := orb_s ho z
          refine p_istore (i := 115) rfl rfl ?_
          refine p_goto (i := 116) 106 rfl (by decide) ?_
          exact ih M4 r sp set _ _ _ hset hn5 hn2 hwh hU4 (hN4 M4 r hU4 fr4) hor hsp (frC.fi fr4 (by omega)) hq
      · rw [oSt_p (by omega)] at hq
        refine p_iload (i := 104) rfl rfl ?_
        refine p_goto (i := 105) 196 rfl (by decide) ?_
        refine p_istore (i := 107) rfl rfl ?_
        refine p_iload (i := 108) rfl rfl ?_
        refine p_iload (i := 109) rfl rfl ?_
        refine p_cS2 (i := 110) rfl ⟨lX10_152, rfl, rfl⟩ rfl (y_lesser (by omega) (by omega) ?_)
        rw [show min (dkT ln g l) sp.1 = dkT ln g l by omega]
        refine p_istore (i := 111) rfl rfl ?_
        refine p_aload_n (i := 112) rfl rfl ?_
        refine p_iload_n (i := 113) rfl rfl ?_
        refine p_cV1 (i := 114) rfl ⟨lX10_262, rfl, rfl⟩ kY ⟨_, rfl, rfl⟩ rfl (y_nextOrder hH3 hU3 rfl hn2 (fun i hi => by have := hlw i hi; omega) hdi (fun z => ?_) (fun M4 r z hU4 fr4 => ?_))
        · rw [ordC_n z] at hq
          refine p_istore (i := 115) rfl rfl ?_
          refine p_goto (i := 116) 106 rfl (by decide) ?_
          refine p_iload (i := 60) rfl rfl ?_
          refine p_if_eq (i := 61) 217 rfl (by decide) (by omega) (fun c108 => ?_) (fun c108 => by exfalso; omega)
          exact tail M3 (dkT ln g l, fig l) set _ _ _ hwh (hq M3 hN3 frC)
        · rw [ordC_s z] at hq
          have hor := orb_s ho z
          refine p_istore (i := 115) rfl rfl ?_
          refine p_goto (i := 116) 106 rfl (by decide) ?_
          exact ih M4 r (dkT ln g l, fig l) set _ _ _ hset hn5 hn2 hwh hU4 (hN4 M4 r hU4 fr4) hor (by dsimp only; omega) (frC.fi fr4 (by omega)) hq
  have fill : ∀ (c k : Nat) (M1 : AM) (l : List Nat) (set : Nat), k + c = nW ln → l.length ≤ k → set < 2 ^ nW ln → YTl M1 l → FrI 287 1 M M1 → bgL set c k l = bgL set (nW ln) 0 [] → (∀ M', YTl M' (bgL set (nW ln) 0 []) → FrI 287 1 M M' → P none mX10_order 78 [.ref 276, zI (set : Int), zI what, zI ((bgL set (nW ln) 0 []).length : Nat), zI (nW ln : Nat), .retAddr 0, .retAddr 0, .retAddr 0, .retAddr 0] []  M' Q) → P none mX10_order 41 [.ref 276, zI (set : Int), zI what, zI (l.length : Nat), zI (k : Int), .retAddr 0, .retAddr 0, .retAddr 0, .retAddr 0] []  M1 Q := by
    intro c
    induction c with
    | zero =>
      intro k M1 l set hkc hlk hset hU fr eb hq
      have ek : k = nW ln := by omega
      subst ek
      have eb2 : l = bgL set (nW ln) 0 [] := eb
      have kY := fr.at kY (by omega)
      have kL := fr.at kL (by omega)
      refine p_iload (i := 28) rfl rfl ?_
      refine p_aload_n (i := 29) rfl rfl ?_
      refine p_getf (i := 30) rfl fX10_7 kY rfl ?_
      refine p_iconst (i := 31) rfl ?_
      refine p_iaX (i := 32) (2) rfl kL (by omega) (by omega) (by decide) ?_
      refine p_icmp_ge (i := 33) 78 rfl (by decide) (by omega) (by omega) (fun c49 => ?_) (fun c49 => by exfalso; omega)
      rw [eb2]
      rw [eb2] at hU
      exact hq M1 hU fr
    | succ c ih =>
      intro k M1 l set hkc hlk hset hU fr eb hq
      obtain ⟨B, eB⟩ : ∃ B, B = bgL set (nW ln) 0 [] := ⟨_, rfl⟩
      rw [← eB] at eb
      unfold bgL at eb
      rw [eB] at eb
      have e5 : set / 2 ^ k % 2 < 2 := Nat.mod_lt _ (by decide)
      have hsl : set < 2147483648 := by rw [← eN] at hset; omega
      obtain ⟨l0, rf, k1, hr⟩ := id hU
      have fr0 := fr
      have kY1 := fr.at kY (by omega)
      have kL1 := fr.at kL (by omega)
      refine p_iload (i := 28) rfl rfl ?_
      refine p_aload_n (i := 29) rfl rfl ?_
      refine p_getf (i := 30) rfl fX10_7 kY1 rfl ?_
      refine p_iconst (i := 31) rfl ?_
      refine p_iaX (i := 32) (2) rfl kL1 (by omega) (by omega) (by decide) ?_
      refine p_icmp_ge (i := 33) 78 rfl (by decide) (by omega) (by omega) (fun c49 => by exfalso; omega) (fun c49 => ?_)
      refine p_iload_n (i := 34) rfl rfl ?_
      refine p_iload (i := 35) rfl rfl ?_
      refine p_cS2 (i := 36) rfl ⟨lX10_125, rfl, rfl⟩ rfl (y_has hsl (by omega) ?_)
      refine p_if_eq (i := 37) 72 rfl (by decide) (by omega) (fun c58 => ?_) (fun c58 => ?_)
      · rw [if_neg (by omega)] at eb
        refine p_iinc (i := 44) rfl rfl rfl ?_
        refine p_goto (i := 45) 41 rfl (by decide) ?_
        exact ih (k + 1) M1 l set (by omega) (by omega) hset hU fr0 eb hq
      · rw [if_pos (by omega)] at eb
        refine p_aload_n (i := 38) rfl rfl ?_
        refine p_getf (i := 39) rfl fX10_45 kY1 rfl ?_
        refine p_iload_n (i := 40) rfl rfl ?_
        refine p_iload (i := 41) rfl rfl ?_
        refine p_isX (i := 42) (l.length) rfl k1 (by omega) (by omega) (by decide) (P_gen fun M e => ?_)
        have kY1 := aupN e kY1 (by omega)
        have kL1 := aupN e kL1 (by omega)
        have fr := fr.up e (by omega)
        have k1 := aupE e
        refine p_iinc (i := 43) rfl rfl rfl ?_
        refine p_iinc (i := 44) rfl rfl rfl ?_
        refine p_goto (i := 45) 41 rfl (by decide) ?_
        have eT : ((l.length : Nat) : Int) + 1 = (((l ++ [k]).length : Nat) : Int) := by simp
        rw [eT]
        exact ih (k + 1) M (l ++ [k]) set (by omega) (by simp; omega) hset ⟨by simp; omega, _, k1, hr.app⟩ fr eb hq
  refine C_of okX10_order (by decide) (Nat.le_of_ble_eq_true rfl) ?_
  show P none mX10_order 0 [.ref 276, zI s, zI what, .retAddr 0, .retAddr 0, .retAddr 0, .retAddr 0, .retAddr 0, .retAddr 0] [] _ _
  refine p_iload_n (i := 0) rfl rfl ?_
  refine p_i2l (i := 1) rfl (by omega) ?_
  refine p_lconst0 (i := 2) rfl ?_
  refine p_iconst (i := 3) rfl ?_
  refine p_aload_n (i := 4) rfl rfl ?_
  refine p_getf (i := 5) rfl fX10_7 kY rfl ?_
  refine p_iconst (i := 6) rfl ?_
  refine p_iaX (i := 7) (2) rfl kL (by omega) (by omega) (by decide) ?_
  rw [l2]
  refine p_ishl1 (i := 8) rfl (by omega) ?_
  refine p_iconst (i := 9) rfl ?_
  refine p_isub (i := 10) rfl ?_
  refine p_i2l (i := 11) rfl (by rw [← eN]; omega) ?_
  rw [← eN]
  refine p_cS3 (i := 12) rfl ⟨lX10_59, rfl, rfl⟩ rfl (y_in (by omega) (by omega) (by omega) (fun z => ?_) (fun z => ?_))
  · rw [if_neg (by omega)] at h
    refine p_if_ne (i := 13) 23 rfl (by decide) (by omega) (fun c17 => ?_) (fun c17 => by exfalso; omega)
    refine p_iload_n (i := 16) rfl rfl ?_
    refine p_i2l (i := 17) rfl (by omega) ?_
    refine p_lconst0 (i := 18) rfl ?_
    refine p_lconst1 (i := 19) rfl ?_
    refine p_cS3 (i := 20) rfl ⟨lX10_59, rfl, rfl⟩ rfl (y_in (by omega) (by omega) (by omega) (fun z2 => ?_) (fun z2 => ?_))
    · rw [if_neg (by omega)] at h
      obtain ⟨w, ew⟩ : ∃ w : Nat, s = (w : Int) := ⟨s.toNat, by omega⟩
      subst ew
      rw [Int.toNat_natCast] at h
      have hw2 : w < 2 ^ nW ln := by rw [← eN]; omega
      have ebg := bgL_nw hw2 o4
      have hl0 : (bgL w 6 0 []).length = popc w := bgL_len ⟨w, by omega⟩
      have pw := popc_le w
      obtain ⟨n1, n2, rf0, kR0⟩ := id hN
      refine p_if_ne (i := 21) 36 rfl (by decide) (by omega) (fun c30 => ?_) (fun c30 => by exfalso; omega)
      refine p_iconst (i := 24) rfl ?_
      refine p_istore_n (i := 25) rfl rfl ?_
      refine p_iconst (i := 26) rfl ?_
      refine p_istore (i := 27) rfl rfl ?_
      refine fill (nW ln) 0 M [] w (by omega) (by simp) hw2 ⟨by simp, rf0, kR0, fun i hi => absurd hi (Nat.not_lt_zero i)⟩ FrI.rf rfl (fun M1 hU1 fr1 => ?_)
      rw [ebg] at hU1 ⊢
      have kY1 := fr1.at kY (by omega)
      refine p_iload_n (i := 46) rfl rfl ?_
      refine p_i2l (i := 47) rfl (by omega) ?_
      refine p_ldc2 (i := 48) rfl kX10_210 ?_
      refine p_ldc2 (i := 49) rfl kX10_259 ?_
      have hN1 : YNy M1 := by
        obtain ⟨⟨fa, m1⟩, ⟨fb, m2⟩, m3⟩ := hN
        obtain ⟨-, fc, m4, -⟩ := hU1
        exact ⟨⟨fa, fr1.at m1 (by omega)⟩, ⟨fb, fr1.at m2 (by omega)⟩, fc, m4⟩
      refine p_cS3 (i := 50) rfl ⟨lX10_59, rfl, rfl⟩ rfl (y_in (by omega) (by omega) (by omega) (fun z3 => ?_) (fun z3 => ?_))
      · rw [if_neg (by omega)] at h
        refine p_if_ne (i := 51) 95 rfl (by decide) (by omega) (fun c89 => ?_) (fun c89 => by exfalso; omega)
        refine p_ldcw (i := 54) rfl kX10_261 ?_
        refine p_istore (i := 55) rfl rfl ?_
        refine p_iconst (i := 56) rfl ?_
        refine p_istore (i := 57) rfl rfl ?_
        refine p_iconst (i := 58) rfl ?_
        refine p_istore (i := 59) rfl rfl ?_
        have ho0 : orb w (popc w) 119 (bgL w 6 0 []) = true := orb_all ⟨w, by omega⟩ (by show 2 ≤ popc w; omega) (by show popc w ≤ 5; omega)
        rw [hl0]
        refine loop 119 M1 (bgL w 6 0 []) (100000000, 0) w (popc w) _ _ hw2 (by omega) (by omega) z2 hU1 hN1 ho0 (by decide) (Fr2.rf.fi fr1 (by omega)) (fun M' hN' fr' => ?_)
        obtain ⟨Ms, s1, s2⟩ := fr'.split
        exact h M' ⟨((hRt.fi s1 (by omega)).fi s2 (by omega)), ((hLn.fi s1 (by omega)).fi s2 (by omega)), ((hA.fi s1 (by omega)).fi s2 (by omega)), ((hPa.fi s1 (by omega)).fi s2 (by omega)), ((hIm.fi s1 (by omega)).fi s2 (by omega)), ((hTx.fi s1 (by omega)).fi s2 (by omega)), ((hMe.fi s1 (by omega)).fi s2 (by omega)), ((hBo.fi s1 (by omega)).fi s2 (by omega)), hN', b1, b2, b3, b4, b5, b6, b7⟩ ((s1.weak (by omega)).tr (s2.weak (by omega)))
      · rw [if_pos (by omega)] at h
        refine p_if_ne (i := 51) 95 rfl (by decide) (by omega) (fun c89 => by exfalso; omega) (fun c89 => ?_)
        refine p_ldc (i := 52) rfl kX10_216 ?_
        refine p_iret (i := 53) rfl rfl (rfl) ?_
        obtain ⟨Ms, s1, s2⟩ := (Fr2.rf.fi fr1 (by omega) : Fr2 280 287 M M1).split
        exact h M1 ⟨((hRt.fi s1 (by omega)).fi s2 (by omega)), ((hLn.fi s1 (by omega)).fi s2 (by omega)), ((hA.fi s1 (by omega)).fi s2 (by omega)), ((hPa.fi s1 (by omega)).fi s2 (by omega)), ((hIm.fi s1 (by omega)).fi s2 (by omega)), ((hTx.fi s1 (by omega)).fi s2 (by omega)), ((hMe.fi s1 (by omega)).fi s2 (by omega)), ((hBo.fi s1 (by omega)).fi s2 (by omega)), hN1, b1, b2, b3, b4, b5, b6, b7⟩ ((s1.weak (by omega)).tr (s2.weak (by omega)))
    · rw [if_pos (by omega)] at h
      refine p_if_ne (i := 21) 36 rfl (by decide) (by omega) (fun c30 => by exfalso; omega) (fun c30 => ?_)
      refine p_ldc (i := 22) rfl kX10_63 ?_
      refine p_iret (i := 23) rfl rfl (rfl) ?_
      exact h M hY FrI.rf
  · rw [if_pos (by omega)] at h
    refine p_if_ne (i := 13) 23 rfl (by decide) (by omega) (fun c17 => by exfalso; omega) (fun c17 => ?_)
    refine p_ldc (i := 14) rfl kX10_197 ?_
    refine p_iret (i := 15) rfl rfl (rfl) ?_
    exact h M hY FrI.rf
