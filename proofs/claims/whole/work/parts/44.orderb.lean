-- the orders of turns, both calls
theorem x_darkBehindTurns {M : AM} {la sa : Nat} {fa sd : Int} {ln : LN} {g : GS} {l : List Nat} {Q : Option Value → AM → Prop} (hRt : XRt M la sa fa sd) (hP : PairB true M 216 (nS ln) (nW ln) g) (hT : PairR M 223) (hL : LineA M la ln) (hU : XTl M l) (hlw : ∀ i, i < l.length → l.getD i 0 < nW ln) (hy : g.2.2.1 ≤ 90030) (h : ∀ M', PairR M' 223 → FrI 223 7 M M' → Q (some (zI (dkT ln g l))) M') : C mX9_darkBehindTurns [.ref 0] M Q := by
  have loop : ∀ (f k : Nat) (M1 : AM) (s : GS), k + f = l.length → PairB false M1 223 (nS ln) (nW ln) s → s.2.2.1 + f ≤ 95000 → FrI 223 7 M M1 → fo (fun i s => passY ln (s.1, ((l.getD i 0 : Nat) : Int), s.2.2)) f k s = dkG ln g l → P none mX9_darkBehindTurns 13 [.ref 0, zI (k : Int)] []  M1 Q := by
    intro f
    induction f with
    | zero =>
      intro k M1 s hkc hP1 hy1 fr hq
      have hq : s = dkG ln g l := hq
      have hU1 := hU.fi fr (by omega)
      obtain ⟨l0, rf, k1, k2, hr⟩ := id hU1
      have hRt1 := hRt.fi fr (by omega)
      obtain ⟨kR, hla⟩ := id hRt1
      obtain ⟨⟨q1, q2, q3, q4, q5, q6, q7, q8, q9, q10, q11⟩, sc, wh, st, hs, lr, lf, lz, ⟨hp, hS, hW, hT, hH, hG, hR⟩, rL, rH, rG⟩ := id hP1
      refine p_iload_n (i := 7) rfl rfl ?_
      refine p_aload_n (i := 8) rfl rfl ?_
      refine p_getf (i := 9) rfl fX9_42 kR rfl ?_
      refine p_getf (i := 10) rfl fX9_309 k1 rfl ?_
      refine p_icmp_ge (i := 11) 62 rfl (by decide) (by omega) (by omega) (fun c21 => ?_) (fun c21 => by exfalso; omega)
      refine p_aload_n (i := 30) rfl rfl ?_
      refine p_getf (i := 31) rfl fX9_36 kR rfl ?_
      refine p_cV0 (i := 32) rfl ⟨lX9_125, rfl, rfl⟩ hp ⟨_, rfl, rfl⟩ rfl (x_darkness hP1 ?_)
      refine p_iret (i := 33) rfl rfl (rfl) ?_
      rw [hq]
      exact h M1 hP1.r fr
    | succ f ih =>
      intro k M1 s hkc hP1 hy1 fr hq
      have hq : fo (fun i s => passY ln (s.1, ((l.getD i 0 : Nat) : Int), s.2.2)) f (k + 1) (passY ln (s.1, ((l.getD k 0 : Nat) : Int), s.2.2)) = dkG ln g l := hq
      have hU1 := hU.fi fr (by omega)
      obtain ⟨l0, rf, k1, k2, hr⟩ := id hU1
      have hRt1 := hRt.fi fr (by omega)
      have hla0 := hRt.2
      have hL1 := hL.fi fr (by omega)
      have er := hr k (by omega)
      have hw := hlw k (by omega)
      have fr0 : FrI 223 7 M1 M1 := FrI.rf
      obtain ⟨kR, hla⟩ := id hRt1
      obtain ⟨⟨q1, q2, q3, q4, q5, q6, q7, q8, q9, q10, q11⟩, sc, wh, st, hs, lr, lf, lz, ⟨hp, hS, hW, hT, hH, hG, hR⟩, rL, rH, rG⟩ := id hP1
      refine p_iload_n (i := 7) rfl rfl ?_
      refine p_aload_n (i := 8) rfl rfl ?_
      refine p_getf (i := 9) rfl fX9_42 kR rfl ?_
      refine p_getf (i := 10) rfl fX9_309 k1 rfl ?_
      refine p_icmp_ge (i := 11) 62 rfl (by decide) (by omega) (by omega) (fun c21 => by exfalso; omega) (fun c21 => ?_)
      refine p_iload_n (i := 12) rfl rfl ?_
      refine p_iconst (i := 13) rfl ?_
      refine p_icmp_ge (i := 14) 62 rfl (by decide) (by omega) (by omega) (fun c26 => by exfalso; omega) (fun c26 => ?_)
      refine p_aload_n (i := 15) rfl rfl ?_
      refine p_getf (i := 16) rfl fX9_36 kR rfl ?_
      refine p_aload_n (i := 17) rfl rfl ?_
      refine p_getf (i := 18) rfl fX9_42 kR rfl ?_
      refine p_getf (i := 19) rfl fX9_310 k1 rfl ?_
      refine p_iload_n (i := 20) rfl rfl ?_
      refine p_iaX (i := 21) _ rfl k2 rfl (by omega) (by decide) ?_
      refine p_puti (i := 22) rfl gX9_119 hp rfl (P_gen fun M e => ?_)
      have kR := aupN e kR (by omega)
      have hS := aupN e hS (by omega)
      have hW := aupN e hW (by omega)
      have hT := aupN e hT (by omega)
      have hH := aupN e hH (by omega)
      have hG := aupN e hG (by omega)
      have hR := aupN e hR (by omega)
      have k1 := aupN e k1 (by omega)
      have k2 := aupN e k2 (by omega)
      have fr0 := fr0.up e (by omega)
      have hp := aupE e
      refine p_aload_n (i := 23) rfl rfl ?_
      refine p_getf (i := 24) rfl fX9_36 kR rfl ?_
      refine p_aload_n (i := 25) rfl rfl ?_
      refine p_getf (i := 26) rfl fX9_63 kR rfl ?_
      rw [er] at hp
      have hL2 := hL1.fi fr0 (by omega)
      have hP2 : PairB false M 223 (nS ln) (nW ln) (s.1, ((l.getD k 0 : Nat) : Int), s.2.2) := ⟨hP1.1.wr (by omega), sc, wh, st, hs, lr, lf, lz, ⟨hp, hS, hW, hT, hH, hG, hR⟩, rL, rH, rG⟩
      refine p_cV1 (i := 27) rfl ⟨lX9_216, rfl, rfl⟩ hp ⟨_, rfl, rfl⟩ rfl (x_passYear hP2 hL2 rfl rfl (by omega) (by show s.2.2.1 < 100000; omega) (fun M2 hP3 fr3 => ?_))
      refine p_iinc (i := 28) rfl rfl rfl ?_
      refine p_goto (i := 29) 13 rfl (by decide) ?_
      have ey := passY_y ln (s.1, ((l.getD k 0 : Nat) : Int), s.2.2)
      have ey : (passY ln (s.1, ((l.getD k 0 : Nat) : Int), s.2.2)).2.2.1 = s.2.2.1 + 1 := ey
      exact ih (k + 1) M2 _ (by omega) hP3 (by omega) ((fr.tr fr0).tr fr3) hq
  obtain ⟨kR, hla⟩ := id hRt
  obtain ⟨sc0, wh0, st0, hs0, lr0, lf0, lz0, n0, w0, y0, ⟨kp, kS, kW, kT, kH, kG, kR'⟩, r1, r2, r3, r4⟩ := id hT
  refine C_of okX9_darkBehindTurns (by decide) (Nat.le_of_ble_eq_true rfl) ?_
  show P none mX9_darkBehindTurns 0 [.ref 0, .retAddr 0] [] _ _
  refine p_aload_n (i := 0) rfl rfl ?_
  refine p_getf (i := 1) rfl fX9_36 kR rfl ?_
  refine p_aload_n (i := 2) rfl rfl ?_
  refine p_getf (i := 3) rfl fX9_32 kR rfl ?_
  refine p_cV1 (i := 4) rfl ⟨lX9_238, rfl, rfl⟩ kp ⟨_, rfl, rfl⟩ rfl (x_copyGlass hT hP (by omega) (fun M1 hP1 fr1 => ?_))
  refine p_iconst (i := 5) rfl ?_
  refine p_istore_n (i := 6) rfl rfl ?_
  have hl5 := hU.1
  exact loop l.length 0 M1 g (by omega) hP1 (by omega) (fr1.weak (by omega)) rfl
def ordC (ln : LN) (g : GS) : Nat → List Nat → Int × Int → Int × Int
  | 0, _, s => s
  | f + 1, l, s => match nxP l with
    | none => s
    | some r => ordF ln g f r s
theorem ordF_c (ln : LN) (g : GS) (f : Nat) (l : List Nat) (s : Int × Int) : ordF ln g f l s = ordC ln g f l (oSt ln g l s) := by
  cases f with
  | zero => rfl
  | succ f => rfl
theorem ordC_n {ln : LN} {g : GS} {f : Nat} {l : List Nat} {s : Int × Int} (h : nxP l = none) : ordC ln g (f + 1) l s = s := by
  show (match nxP l with
    | none => s
    | some r => ordF ln g f r s) = s
  rw [h]
theorem ordC_s {ln : LN} {g : GS} {f : Nat} {l r : List Nat} {s : Int × Int} (h : nxP l = some r) : ordC ln g (f + 1) l s = ordF ln g f r s := by
  show (match nxP l with
    | none => s
    | some r => ordF ln g f r s) = ordF ln g f r s
  rw [h]
theorem oSt_n {ln : LN} {g : GS} {l : List Nat} {s : Int × Int} (h : ¬ dkT ln g l < s.1) : oSt ln g l s = s := if_neg h
theorem oSt_p {ln : LN} {g : GS} {l : List Nat} {s : Int × Int} (h : dkT ln g l < s.1) : oSt ln g l s = (dkT ln g l, fig l) := if_pos h
theorem smAll_pass {ln : LN} {g : GS} (hg : GOk (nS ln) (nW ln) g) : 0 ≤ smAll g.1 / 10 ∧ smAll g.1 / 10 ≤ 99 := by
  have := smAll_rng hg.ls
  omega
theorem dkG_ok {ln : LN} {l : List Nat} (hL : LnOk ln) (hl : ∀ i, i < l.length → l.getD i 0 < nW ln) : ∀ (f k : Nat) (s : GS), k + f = l.length → GOk (nS ln) (nW ln) s → s.2.2.1 + f ≤ 95000 → GOk (nS ln) (nW ln) (fo (fun i s => passY ln (s.1, ((l.getD i 0 : Nat) : Int), s.2.2)) f k s)
  | 0, _, s, _, h, _ => h
  | f + 1, k, s, hk, h, hy => by
    have := hl k (by omega)
    have ey : (passY ln (s.1, ((l.getD k 0 : Nat) : Int), s.2.2)).2.2.1 = s.2.2.1 + 1 := passY_y ln (s.1, ((l.getD k 0 : Nat) : Int), s.2.2)
    exact dkG_ok hL hl f (k + 1) _ (by omega) ((h.wr (by omega)).pass hL (by show s.2.2.1 < 100000; omega)) (by show (passY ln (s.1, ((l.getD k 0 : Nat) : Int), s.2.2)).2.2.1 + (f : Int) ≤ 95000; omega)
theorem dkT_rng {ln : LN} {g : GS} {l : List Nat} (hL : LnOk ln) (hl : ∀ i, i < l.length → l.getD i 0 < nW ln) (h5 : l.length ≤ 5) (hg : GOk (nS ln) (nW ln) g) (hy : g.2.2.1 ≤ 90030) : 0 ≤ dkT ln g l ∧ dkT ln g l ≤ 99 := smAll_pass (dkG_ok hL hl l.length 0 g (by omega) hg (by omega))
theorem gdR_w {s n nw : Nat} {l : List Nat} (h : gdR s n l = true) (hs : s < 2 ^ nw) : ∀ i, i < l.length → l.getD i 0 < nw := fun i hi => by
  obtain ⟨h1, h2, -⟩ := gdR_at h
  have := h2 i (by omega)
  rcases Nat.lt_or_ge (l.getD i 0) nw with z | z
  · exact z
  · rw [bit_hi hs z] at this; omega
theorem X_order {M : AM} {tx : List Int} {fa : Int} {ln : LN} {g : GS} {un : List GS} {i0 i1 : Option (GS × Int)} {sd : Int} {me bo : List (Int × Int)} {Q : Option Value → AM → Prop} {s what : Int} (hX : XW M (tx, fa, ln, g, un, i0, i1, sd, me, bo)) (hss : -2147483648 ≤ s ∧ s ≤ 2147483647) (hw : -2147483648 ≤ what ∧ what ≤ 2147483647) (h : ∀ M', XW M' (tx, fa, ln, g, un, i0, i1, sd, me, bo) → FrI 0 276 M M' → Q (some (zI (a_order (tx, fa, ln, g, un, i0, i1, sd, me, bo) s what))) M') : C mX9_order [.ref 0, zI s, zI what] M Q := by
  dsimp only [a_order] at h
  obtain ⟨la, sa, hRt, hRd, hHi, hIr, hI0, hI1, hPa, hTr, hTu, hMe, hBo, hLi, hLs, b1, b2, b3, b4, b5, b6, b7⟩ := id hX
  obtain ⟨kR, hla⟩ := id hRt
  obtain ⟨⟨o1, o2, o3, o4, o5, o6, o7⟩, kf, bf, lc, lkf, ⟨hb, hk, hr, hc, ⟨gg, hg, hgi⟩, hrow⟩, hkb, hlk⟩ := id hLi
  obtain ⟨tf, tz, w1, w2⟩ := id hTu
  obtain ⟨N, eN⟩ : ∃ N, N = 2 ^ nW ln := ⟨_, rfl⟩
  have hN : N ≤ 64 := by rw [eN]; exact Nat.pow_le_pow_right (n := 2) (by decide) (show nW ln ≤ 6 by omega)
  rw [← eN] at h
  have loop : ∀ (f i : Nat) (M1 : AM) (l : List Nat) (sp : Int × Int) (set n : Nat) (x7 : Value), i + f = 120 → 0 < i → set < 2 ^ nW ln → n ≤ 5 → 0 ≤ what ∧ what ≤ 1 → XTl M1 l → gdR set n l = true → (∀ f' r, f = f' + 1 → nxP l = some r → orb set n f' r = true) → 0 ≤ sp.1 ∧ sp.1 ≤ 99 → PairR M1 223 → FrI 223 9 M M1 → (∀ M', XTu M' → PairR M' 223 → FrI 223 9 M M' → Q (some (zI (if what = 0 then (ordC ln g f l sp).1 else (ordC ln g f l sp).2))) M') → P none mX9_order 73 [.ref 0, zI (set : Int), zI what, zI (n : Int), zI sp.1, zI sp.2, zI (i : Int), x7] []  M1 Q := by
    have tail : ∀ (M1 : AM) (sp : Int × Int) (set n i : Nat) (x7 : Value), 0 ≤ what ∧ what ≤ 1 → Q (some (zI (if what = 0 then sp.1 else sp.2))) M1 → P none mX9_order 122 [.ref 0, zI (set : Int), zI what, zI (n : Int), zI sp.1, zI sp.2, zI (i : Int), x7] []  M1 Q := by
      intro M1 sp set n i x7 hwh hq
      refine p_iload_n (i := 60) rfl rfl ?_
      refine p_if_ne (i := 61) 131 rfl (by decide) (by omega) (fun c123 => ?_) (fun c123 => ?_)
      · rw [if_neg (by omega)] at hq
        refine p_iload (i := 64) rfl rfl ?_
        refine p_iret (i := 65) rfl rfl (rfl) ?_
        exact hq
      · rw [if_pos (by omega)] at hq
        refine p_iload (i := 62) rfl rfl ?_
        refine p_goto (i := 63) 133 rfl (by decide) ?_
        refine p_iret (i := 65) rfl rfl (rfl) ?_
        exact hq
    intro f
    induction f with
    | zero =>
      intro i M1 l sp set n x7 hif hi0 hset hn5 hwh hU hg ho hsp hT fr hq
      refine p_iload (i := 39) rfl rfl ?_
      refine p_bipush (i := 40) rfl (by decide) ?_
      refine p_icmp_ge (i := 41) 122 rfl (by decide) (by omega) (by omega) (fun c77 => ?_) (fun c77 => by exfalso; omega)
      exact tail M1 sp set n i x7 hwh (hq M1 hU.tu hT fr)
    | succ f ih =>
      intro i M1 l sp set n x7 hif hi0 hset hn5 hwh hU hg ho hsp hT fr hq
      have hRt1 := hRt.fi fr (by omega)
      have hlt := gdR_w hg hset
      obtain ⟨l0, rf, k1, k2, hr⟩ := id hU
      obtain ⟨kR, hla⟩ := id hRt1
      refine p_iload (i := 39) rfl rfl ?_
      refine p_bipush (i := 40) rfl (by decide) ?_
      refine p_icmp_ge (i := 41) 122 rfl (by decide) (by omega) (by omega) (fun c77 => by exfalso; omega) (fun c77 => ?_)
      refine p_aload_n (i := 42) rfl rfl ?_
      refine p_getf (i := 43) rfl fX9_42 kR rfl ?_
      refine p_cV0 (i := 44) rfl ⟨lX9_268, rfl, rfl⟩ k1 ⟨_, rfl, rfl⟩ rfl (x_tadvance hU (fun j hj => by have := hlt j hj; omega) (fun z => ?_) (fun M2 r z hU2 fr2 => ?_))
      · refine p_if_eq (i := 45) 122 rfl (by decide) (by omega) (fun c87 => ?_) (fun c87 => by exfalso; omega)
        rw [ordC_n z] at hq
        exact tail M1 sp set n i x7 hwh (hq M1 hU.tu hT fr)
      · rw [ordC_s z] at hq
        have hor := ho f r rfl z
        have hgr := orb_g hor
        have hltr := gdR_w hgr hset
        have hl5 : r.length ≤ 5 := by rw [(gdR_at hgr).1]; exact hn5
        have frB := fr.tr (fr2.weak (by omega))
        have hRt2 := hRt.fi frB (by omega)
        have hT2 := hT.fi fr2 (by omega)
        have hP2 := hPa.fi frB (by omega)
        have hL2 := hLi.fi frB (by omega)
        have hdk := dkT_rng hLi.1 hltr hl5 hPa.1 b1
        obtain ⟨kR, hla⟩ := id hRt2
        refine p_if_eq (i := 45) 122 rfl (by decide) (by omega) (fun c87 => by exfalso; omega) (fun c87 => ?_)
        refine p_aload_n (i := 46) rfl rfl ?_
        refine p_cV0 (i := 47) rfl ⟨lX9_262, rfl, rfl⟩ kR ⟨_, rfl, rfl⟩ rfl (x_darkBehindTurns hRt2 hP2 hT2 hL2 hU2 hltr b1 (fun M3 hT3 fr3 => ?_))
        have hU3 := hU2.fi fr3 (by omega)
        have frC := frB.tr (fr3.weak (by omega))
        have hRt3 := hRt.fi frC (by omega)
        obtain ⟨l3, rf3, k1, k2, hr3⟩ := id hU3
        obtain ⟨kR, hla⟩ := id hRt3
        refine p_istore (i := 48) rfl rfl ?_
        refine p_iload (i := 49) rfl rfl ?_
        refine p_iload (i := 50) rfl rfl ?_
        rw [ordF_c] at hq
        refine p_icmp_ge (i := 51) 116 rfl (by decide) (by omega) (by omega) (fun c100 => ?_) (fun c100 => ?_)
        · rw [oSt_n (by omega)] at hq
          refine p_iinc (i := 58) rfl rfl rfl ?_
          refine p_goto (i := 59) 73 rfl (by decide) ?_
          exact ih (i + 1) M3 r sp set n _ (by omega) (by omega) hset hn5 hwh hU3 hgr (fun f' r' e1 e2 => by subst e1; exact orb_s hor e2) hsp hT3 frC hq
        · rw [oSt_p (by omega)] at hq
          refine p_iload (i := 52) rfl rfl ?_
          refine p_istore (i := 53) rfl rfl ?_
          refine p_aload_n (i := 54) rfl rfl ?_
          refine p_getf (i := 55) rfl fX9_42 kR rfl ?_
          refine p_cV0 (i := 56) rfl ⟨lX9_265, rfl, rfl⟩ k1 ⟨_, rfl, rfl⟩ rfl (x_tfigures hU3 ?_)
          refine p_istore (i := 57) rfl rfl ?_
          refine p_iinc (i := 58) rfl rfl rfl ?_
          refine p_goto (i := 59) 73 rfl (by decide) ?_
          exact ih (i + 1) M3 r (dkT ln g r, fig r) set n _ (by omega) (by omega) hset hn5 hwh hU3 hgr (fun f' r' e1 e2 => by subst e1; exact orb_s hor e2) hdk hT3 frC hq
  refine C_of okX9_order (by decide) (Nat.le_of_ble_eq_true rfl) ?_
  show P none mX9_order 0 [.ref 0, zI s, zI what, .retAddr 0, .retAddr 0, .retAddr 0, .retAddr 0, .retAddr 0] [] _ _
  obtain ⟨kR, hla⟩ := id hRt
  refine p_iload_n (i := 0) rfl rfl ?_
  refine p_aload_n (i := 1) rfl rfl ?_
  refine p_getf (i := 2) rfl fX9_63 kR rfl ?_
  refine p_getf (i := 3) rfl fX9_113 hb rfl ?_
  refine p_cS2 (i := 4) rfl ⟨lX9_244, rfl, rfl⟩ rfl (x_isSetOf (by omega) hss (fun z => ?_) (fun z => ?_))
  · rw [← eN] at z
    rw [if_neg (not_not_intro z)] at h
    refine p_if_ne (i := 5) 17 rfl (by decide) (by omega) (fun c11 => ?_) (fun c11 => by exfalso; omega)
    refine p_iload_n (i := 8) rfl rfl ?_
    refine p_if_lt (i := 9) 26 rfl (by decide) (by omega) (fun c18 => ?_) (fun c18 => ?_)
    · rw [if_pos (by omega)] at h
      refine p_ldc (i := 13) rfl kX9_78 ?_
      refine p_iret (i := 14) rfl rfl (rfl) ?_
      exact h M hX FrI.rf
    · refine p_iload_n (i := 10) rfl rfl ?_
      refine p_iconst (i := 11) rfl ?_
      refine p_icmp_le (i := 12) 29 rfl (by decide) (by omega) (by omega) (fun c23 => ?_) (fun c23 => ?_)
      · rw [if_neg (by omega)] at h
        obtain ⟨w, ew⟩ : ∃ w : Nat, s = (w : Int) := ⟨s.toNat, by omega⟩
        subst ew
        rw [Int.toNat_natCast] at h
        have pw := popc_le w
        refine p_iload_n (i := 15) rfl rfl ?_
        refine p_cS1 (i := 16) rfl ⟨lX9_251, rfl, rfl⟩ rfl (x_bitCount (by omega) ?_)
        refine p_istore_n (i := 17) rfl rfl ?_
        refine p_iload_n (i := 18) rfl rfl ?_
        refine p_iconst (i := 19) rfl ?_
        refine p_icmp_lt (i := 20) 44 rfl (by decide) (by omega) (by omega) (fun c36 => ?_) (fun c36 => ?_)
        · rw [if_pos (by omega)] at h
          refine p_ldc (i := 24) rfl kX9_220 ?_
          refine p_iret (i := 25) rfl rfl (rfl) ?_
          exact h M hX FrI.rf
        · refine p_iload_n (i := 21) rfl rfl ?_
          refine p_iconst (i := 22) rfl ?_
          refine p_icmp_le (i := 23) 47 rfl (by decide) (by omega) (by omega) (fun c41 => ?_) (fun c41 => ?_)
          · rw [if_neg (by omega)] at h
            have ho0 : orb w (popc w) 119 (bgL w 6 0 []) = true := orb_all ⟨w, by omega⟩ (by show 2 ≤ popc w; omega) (by show popc w ≤ 5; omega)
            have hg0 := orb_g ho0
            have hl0 : (bgL w 6 0 []).length = popc w := bgL_len ⟨w, by omega⟩
            have hw2 : w < 2 ^ nW ln := by rw [← eN]; omega
            have hlt := gdR_w hg0 hw2
            have hdk := dkT_rng hLi.1 hlt (by omega) hPa.1 b1
            refine p_aload_n (i := 26) rfl rfl ?_
            refine p_getf (i := 27) rfl fX9_42 kR rfl ?_
            refine p_iload_n (i := 28) rfl rfl ?_
            refine p_cV1 (i := 29) rfl ⟨lX9_259, rfl, rfl⟩ w1 ⟨_, rfl, rfl⟩ rfl (x_tbegin hTu (by omega) (by omega) (fun M1 hU1 fr1 => ?_))
            have hRt1 := hRt.fi fr1 (by omega)
            obtain ⟨kR, hla⟩ := id hRt1
            refine p_aload_n (i := 30) rfl rfl ?_
            refine p_cV0 (i := 31) rfl ⟨lX9_262, rfl, rfl⟩ kR ⟨_, rfl, rfl⟩ rfl (x_darkBehindTurns hRt1 (hPa.fi fr1 (by omega)) (hTr.fi fr1 (by omega)) (hLi.fi fr1 (by omega)) hU1 hlt b1 (fun M2 hT2 fr2 => ?_))
            have hU2 := hU1.fi fr2 (by omega)
            have hRt2 := hRt1.fi fr2 (by omega)
            have fr : FrI 223 9 M M2 := (fr1.weak (by omega)).tr (fr2.weak (by omega))
            obtain ⟨l2, rf2, k1, k2, hr2⟩ := id hU2
            obtain ⟨kR, hla⟩ := id hRt2
            refine p_istore (i := 32) rfl rfl ?_
            refine p_aload_n (i := 33) rfl rfl ?_
            refine p_getf (i := 34) rfl fX9_42 kR rfl ?_
            refine p_cV0 (i := 35) rfl ⟨lX9_265, rfl, rfl⟩ k1 ⟨_, rfl, rfl⟩ rfl (x_tfigures hU2 ?_)
            refine p_istore (i := 36) rfl rfl ?_
            refine p_iconst (i := 37) rfl ?_
            refine p_istore (i := 38) rfl rfl ?_
            rw [ordF_c] at h
            rw [oSt_p (by show dkT ln g _ < 100000000; omega)] at h
            exact loop 119 1 M2 (bgL w 6 0 []) (dkT ln g (bgL w 6 0 []), fig (bgL w 6 0 [])) w (popc w) _ (by omega) (by omega) hw2 (by omega) (by omega) hU2 hg0 (fun f' r' e1 e2 => by
              have e3 : f' = 118 := by omega
              subst e3
              exact orb_s ho0 e2) hdk hT2 fr (fun M' hU' hT' fr' => h M' ⟨la, sa, (hRt.fi fr' (by omega)), (hRd.fi fr' (by omega)), (hHi.fi fr' (by omega)), (hIr.fi fr' (by omega)), (hI0.fi fr' (by omega)), (hI1.fi fr' (by omega)), (hPa.fi fr' (by omega)), hT', hU', (hMe.fi fr' (by omega)), (hBo.fi fr' (by omega)), (hLi.fi fr' (by omega)), (hLs.fi fr' (by omega)), b1, b2, b3, b4, b5, b6, b7⟩ (fr'.weak (by omega)))
          · rw [if_pos (by omega)] at h
            refine p_ldc (i := 24) rfl kX9_220 ?_
            refine p_iret (i := 25) rfl rfl (rfl) ?_
            exact h M hX FrI.rf
      · rw [if_pos (by omega)] at h
        refine p_ldc (i := 13) rfl kX9_78 ?_
        refine p_iret (i := 14) rfl rfl (rfl) ?_
        exact h M hX FrI.rf
  · rw [← eN] at z
    rw [if_pos z] at h
    refine p_if_ne (i := 5) 17 rfl (by decide) (by omega) (fun c11 => by exfalso; omega) (fun c11 => ?_)
    refine p_ldc (i := 6) rfl kX9_158 ?_
    refine p_iret (i := 7) rfl rfl (rfl) ?_
    exact h M hX FrI.rf
