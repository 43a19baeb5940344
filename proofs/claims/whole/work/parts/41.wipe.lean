-- what to wipe, on both sides
theorem x_isSetOf {M : AM} {v : Int} {n : Nat} {Q : Option Value → AM → Prop} (hn : n ≤ 10) (hv : -2147483648 ≤ v ∧ v ≤ 2147483647) (h1 : 0 ≤ v ∧ v < ((2 ^ n : Nat) : Int) → Q (some (zI 1)) M) (h0 : ¬ (0 ≤ v ∧ v < ((2 ^ n : Nat) : Int)) → Q (some (zI 0)) M) : C mX9_isSetOf [zI v, zI (n : Int)] M Q := by
  obtain ⟨N, eN⟩ : ∃ N, N = 2 ^ n := ⟨_, rfl⟩
  rw [← eN] at h1 h0
  refine C_of okX9_isSetOf (by decide) (Nat.le_of_ble_eq_true rfl) ?_
  show P none mX9_isSetOf 0 [zI v, zI (n : Int)] [] _ _
  refine p_iload_n (i := 0) rfl rfl ?_
  refine p_if_lt (i := 1) 14 rfl (by decide) (by omega) (fun c1 => ?_) (fun c1 => ?_)
  · refine p_iconst (i := 8) rfl ?_
    refine p_iret (i := 9) rfl rfl (by decide) ?_
    exact h0 (by omega)
  · obtain ⟨w, ew⟩ : ∃ w : Nat, v = (w : Int) := ⟨v.toNat, by omega⟩
    subst ew
    have hd : w / N < 2147483648 := Nat.lt_of_le_of_lt (Nat.div_le_self _ _) (by omega)
    have hN : 0 < N := by rw [eN]; exact Nat.two_pow_pos _
    have hz : w / N = 0 ↔ w < N := by rw [Nat.div_eq_zero_iff]; omega
    obtain ⟨D, eD⟩ : ∃ D, D = w / N := ⟨_, rfl⟩
    rw [← eD] at hd hz
    refine p_iload_n (i := 2) rfl rfl ?_
    refine p_iload_n (i := 3) rfl rfl ?_
    refine p_ishrN (i := 4) rfl (by omega) (by omega) ?_
    rw [← eN, ← eD]
    refine p_if_ne (i := 5) 14 rfl (by decide) (by omega) (fun c7 => ?_) (fun c7 => ?_)
    · refine p_iconst (i := 8) rfl ?_
      refine p_iret (i := 9) rfl rfl (by decide) ?_
      exact h0 (by omega)
    · refine p_iconst (i := 6) rfl ?_
      refine p_goto (i := 7) 15 rfl (by decide) ?_
      refine p_iret (i := 9) rfl rfl (by decide) ?_
      exact h1 (by omega)
theorem x_areSeenWithout {M : AM} {la sa : Nat} {fa sd : Int} {ln : LN} {g : GS} {set wi : Nat} {Q : Option Value → AM → Prop} (hRt : XRt M la sa fa sd) (hP : PairB true M 216 (nS ln) (nW ln) g) (hL : LineA M la ln) (hs : set < 2147483648) (hw : wi < 2147483648) (h1 : okL ln g.1 set wi (nS ln) 0 = 1 → Q (some (zI 1)) M) (h0 : ¬ okL ln g.1 set wi (nS ln) 0 = 1 → Q (some (zI 0)) M) : C mX9_areSeenWithout [.ref 0, zI (set : Int), zI (wi : Int)] M Q := by
  obtain ⟨kR, hla⟩ := id hRt
  obtain ⟨⟨o1, o2, o3, o4, o5, o6, o7⟩, kf, bf, lc, lkf, ⟨hb, hk, hr, hc, ⟨gg, hg, hgi⟩, hrow⟩, hkb, hlk⟩ := id hL
  obtain ⟨⟨q1, q2, q3, q4, q5, q6, q7, q8, q9, q10, q11⟩, sc, wh, st, hs, lr, lf, lz, ⟨hp, hS, hW, hT, hH, hG, hR⟩, rL, rH, rG⟩ := id hP
  have hok := hP.1.ls
  obtain ⟨R, eR⟩ : ∃ R, R = okL ln g.1 set wi (nS ln) 0 := ⟨_, rfl⟩
  rw [← eR] at h1 h0
  have loop : ∀ (f k : Nat), k + f = nS ln → okL ln g.1 set wi f k = R → P none mX9_areSeenWithout 2 [.ref 0, zI (set : Int), zI (wi : Int), zI (k : Int)] []  M Q := by
    intro f
    induction f with
    | zero =>
      intro k hkc hq
      refine p_iload_n (i := 2) rfl rfl ?_
      refine p_aload_n (i := 3) rfl rfl ?_
      refine p_getf (i := 4) rfl fX9_63 kR rfl ?_
      refine p_getf (i := 5) rfl fX9_107 hb rfl ?_
      refine p_icmp_ge (i := 6) 48 rfl (by decide) (by omega) (by omega) (fun c10 => ?_) (fun c10 => by exfalso; omega)
      refine p_iconst (i := 28) rfl ?_
      refine p_iret (i := 29) rfl rfl (by decide) ?_
      exact h1 hq.symm
    | succ f ih =>
      intro k hkc hq
      unfold okL at hq
      have ht := tk_rng (ln := ln) (x := (k : Int)) (m := 0) (wi := wi) hok (Nat.le_refl _) (by omega)
      refine p_iload_n (i := 2) rfl rfl ?_
      refine p_aload_n (i := 3) rfl rfl ?_
      refine p_getf (i := 4) rfl fX9_63 kR rfl ?_
      refine p_getf (i := 5) rfl fX9_107 hb rfl ?_
      refine p_icmp_ge (i := 6) 48 rfl (by decide) (by omega) (by omega) (fun c10 => by exfalso; omega) (fun c10 => ?_)
      refine p_iload_n (i := 7) rfl rfl ?_
      refine p_iload_n (i := 8) rfl rfl ?_
      refine p_ishrN (i := 9) rfl (by omega) (by omega) ?_
      refine p_iconst (i := 10) rfl ?_
      refine p_iand1 (i := 11) rfl ?_
      refine p_iconst (i := 12) rfl ?_
      refine p_icmp_ne (i := 13) 42 rfl (by decide) (by omega) (by omega) (fun c19 => ?_) (fun c19 => ?_)
      · rw [if_pos (Or.inl (by omega))] at hq
        refine p_iinc (i := 26) rfl rfl rfl ?_
        refine p_goto (i := 27) 2 rfl (by decide) ?_
        exact ih (k + 1) (by omega) hq
      · refine p_aload_n (i := 14) rfl rfl ?_
        refine p_getf (i := 15) rfl fX9_32 kR rfl ?_
        refine p_aload_n (i := 16) rfl rfl ?_
        refine p_getf (i := 17) rfl fX9_63 kR rfl ?_
        refine p_iload_n (i := 18) rfl rfl ?_
        refine p_iconst (i := 19) rfl ?_
        refine p_iload_n (i := 20) rfl rfl ?_
        refine p_cV4 (i := 21) rfl ⟨lX9_272, rfl, rfl⟩ hp ⟨_, rfl, rfl⟩ rfl (x_takenFor hP hL (by omega) (by omega) hw ?_)
        refine p_iload_n (i := 22) rfl rfl ?_
        refine p_icmp_eq (i := 23) 42 rfl (by decide) (by omega) (by omega) (fun c37 => ?_) (fun c37 => ?_)
        · rw [if_pos (Or.inr (by omega))] at hq
          refine p_iinc (i := 26) rfl rfl rfl ?_
          refine p_goto (i := 27) 2 rfl (by decide) ?_
          exact ih (k + 1) (by omega) hq
        · rw [if_neg (by omega)] at hq
          refine p_iconst (i := 24) rfl ?_
          refine p_iret (i := 25) rfl rfl (by decide) ?_
          refine h0 (fun z => ?_)
          have : (0 : Int) = 1 := hq.trans z
          omega
  refine C_of okX9_areSeenWithout (by decide) (Nat.le_of_ble_eq_true rfl) ?_
  show P none mX9_areSeenWithout 0 [.ref 0, zI (set : Int), zI (wi : Int), .retAddr 0] [] _ _
  refine p_iconst (i := 0) rfl ?_
  refine p_istore_n (i := 1) rfl rfl ?_
  exact loop (nS ln) 0 (by omega) eR.symm
theorem X_toWipe {M : AM} {tx : List Int} {fa : Int} {ln : LN} {g : GS} {un : List GS} {i0 i1 : Option (GS × Int)} {sd : Int} {me bo : List (Int × Int)} {Q : Option Value → AM → Prop} {s what : Int} (hX : XW M (tx, fa, ln, g, un, i0, i1, sd, me, bo)) (hss : -2147483648 ≤ s ∧ s ≤ 2147483647) (hw : -2147483648 ≤ what ∧ what ≤ 2147483647) (h : ∀ M', XW M' (tx, fa, ln, g, un, i0, i1, sd, me, bo) → FrI 0 276 M M' → Q (some (zI (a_toWipe (tx, fa, ln, g, un, i0, i1, sd, me, bo) s what))) M') : C mX9_toWipe [.ref 0, zI s, zI what] M Q := by
  have h := h M hX FrI.rf
  dsimp only [a_toWipe] at h
  obtain ⟨la, sa, hRt, hRd, hHi, hIr, hI0, hI1, hPa, hTr, hTu, hMe, hBo, hLi, hLs, b1, b2, b3, b4, b5, b6, b7⟩ := id hX
  obtain ⟨kR, hla⟩ := id hRt
  obtain ⟨⟨o1, o2, o3, o4, o5, o6, o7⟩, kf, bf, lc, lkf, ⟨hb, hk, hr, hc, ⟨gg, hg, hgi⟩, hrow⟩, hkb, hlk⟩ := id hLi
  obtain ⟨⟨q1, q2, q3, q4, q5, q6, q7, q8, q9, q10, q11⟩, sc, wh, st, hs, lr, lf, lz, ⟨hp, hS, hW, hT, hH, hG, hR⟩, rL, rH, rG⟩ := id hPa
  obtain ⟨N, eN⟩ : ∃ N, N = 2 ^ nS ln := ⟨_, rfl⟩
  have hN : N ≤ 256 := by rw [eN]; exact Nat.pow_le_pow_right (n := 2) (by decide) (show nS ln ≤ 8 by omega)
  have loop : ∀ (f k wi : Nat) (set : Nat) (x5 : Value), k + f = 10 → 0 ≤ what ∧ what ≤ 1 → set < 256 → wi < 1024 → Q (some (zI (if what = 0 then (popc (gdy ln g.1 set f wi) : Nat) else (gdy ln g.1 set f wi : Nat)))) M → P none mX9_toWipe 34 [.ref 0, zI (set : Int), zI what, zI (wi : Int), zI (k : Int), x5] []  M Q := by
    have tail : ∀ (k wi : Nat) (set : Nat) (x5 : Value), 0 ≤ what ∧ what ≤ 1 → wi < 1024 → Q (some (zI (if what = 0 then (popc wi : Nat) else (wi : Nat)))) M → P none mX9_toWipe 79 [.ref 0, zI (set : Int), zI what, zI (wi : Int), zI (k : Int), x5] []  M Q := by
      intro k wi set x5 hwh hwi hq
      refine p_iload_n (i := 43) rfl rfl ?_
      refine p_if_ne (i := 44) 90 rfl (by decide) (by omega) (fun c80 => ?_) (fun c80 => ?_)
      · rw [if_neg (by omega)] at hq
        refine p_iload_n (i := 48) rfl rfl ?_
        refine p_iret (i := 49) rfl rfl (rfl) ?_
        exact hq
      · rw [if_pos (by omega)] at hq
        refine p_iload_n (i := 45) rfl rfl ?_
        refine p_cS1 (i := 46) rfl ⟨lX9_251, rfl, rfl⟩ rfl (x_bitCount hwi ?_)
        refine p_goto (i := 47) 91 rfl (by decide) ?_
        refine p_iret (i := 49) rfl rfl (rfl) ?_
        exact hq
    intro f
    induction f with
    | zero =>
      intro k wi set x5 hkc hwh hset hwi hq
      refine p_iload (i := 19) rfl rfl ?_
      refine p_bipush (i := 20) rfl (by decide) ?_
      refine p_icmp_ge (i := 21) 79 rfl (by decide) (by omega) (by omega) (fun c38 => ?_) (fun c38 => by exfalso; omega)
      exact tail k wi set x5 hwh hwi hq
    | succ f ih =>
      intro k wi set x5 hkc hwh hset hwi hq
      unfold gdy at hq
      have hsr := sb_rng g.1 wi
      refine p_iload (i := 19) rfl rfl ?_
      refine p_bipush (i := 20) rfl (by decide) ?_
      refine p_icmp_ge (i := 21) 79 rfl (by decide) (by omega) (by omega) (fun c38 => by exfalso; omega) (fun c38 => ?_)
      refine p_aload_n (i := 22) rfl rfl ?_
      refine p_iload_n (i := 23) rfl rfl ?_
      refine p_iload_n (i := 24) rfl rfl ?_
      refine p_cV2 (i := 25) rfl ⟨lX9_248, rfl, rfl⟩ kR ⟨_, rfl, rfl⟩ rfl (x_areSeenWithout hRt hPa hLi (by omega) (by omega) (fun z => ?_) (fun z => ?_))
      · rw [if_pos z] at hq
        refine p_if_ne (i := 26) 79 rfl (by decide) (by omega) (fun c47 => ?_) (fun c47 => by exfalso; omega)
        exact tail k wi set x5 hwh hwi hq
      · rw [if_neg z] at hq
        refine p_if_ne (i := 26) 79 rfl (by decide) (by omega) (fun c47 => by exfalso; omega) (fun c47 => ?_)
        refine p_aload_n (i := 27) rfl rfl ?_
        refine p_getf (i := 28) rfl fX9_32 kR rfl ?_
        refine p_iload_n (i := 29) rfl rfl ?_
        refine p_cV1 (i := 30) rfl ⟨lX9_135, rfl, rfl⟩ hp ⟨_, rfl, rfl⟩ rfl (x_strongestBut hPa (by omega) ?_)
        refine p_istore (i := 31) rfl rfl ?_
        refine p_iload (i := 32) rfl rfl ?_
        refine p_iconst (i := 33) rfl ?_
        refine p_icmp_eq (i := 34) 73 rfl (by decide) (by omega) (by omega) (fun c63 => ?_) (fun c63 => ?_)
        · rw [if_pos c63] at hq
          refine p_iinc (i := 41) rfl rfl rfl ?_
          refine p_goto (i := 42) 34 rfl (by decide) ?_
          exact ih (k + 1) wi set _ (by omega) hwh hset hwi hq
        · rw [if_neg c63] at hq
          refine p_iload_n (i := 35) rfl rfl ?_
          refine p_iconst (i := 36) rfl ?_
          refine p_iload (i := 37) rfl rfl ?_
          refine p_top (b := (((sb g.1 wi).toNat : Nat) : Int)) (by omega) ?_
          refine p_ishl1 (i := 38) rfl (by omega) ?_
          refine p_iorN (i := 39) rfl ?_
          refine p_istore_n (i := 40) rfl rfl ?_
          refine p_iinc (i := 41) rfl rfl rfl ?_
          refine p_goto (i := 42) 34 rfl (by decide) ?_
          exact ih (k + 1) _ set _ (by omega) hwh hset (or_lt (n := 10) hwi (Nat.pow_lt_pow_right (by decide) (by omega))) hq
  refine C_of okX9_toWipe (by decide) (Nat.le_of_ble_eq_true rfl) ?_
  show P none mX9_toWipe 0 [.ref 0, zI s, zI what, .retAddr 0, .retAddr 0, .retAddr 0] [] _ _
  refine p_iload_n (i := 0) rfl rfl ?_
  refine p_aload_n (i := 1) rfl rfl ?_
  refine p_getf (i := 2) rfl fX9_63 kR rfl ?_
  refine p_getf (i := 3) rfl fX9_107 hb rfl ?_
  refine p_cS2 (i := 4) rfl ⟨lX9_244, rfl, rfl⟩ rfl (x_isSetOf (by omega) hss (fun z => ?_) (fun z => ?_))
  · rw [if_neg (not_not_intro z)] at h
    refine p_if_ne (i := 5) 17 rfl (by decide) (by omega) (fun c11 => ?_) (fun c11 => by exfalso; omega)
    refine p_iload_n (i := 8) rfl rfl ?_
    refine p_if_lt (i := 9) 26 rfl (by decide) (by omega) (fun c18 => ?_) (fun c18 => ?_)
    · rw [if_pos (by omega)] at h
      refine p_ldc (i := 13) rfl kX9_78 ?_
      refine p_iret (i := 14) rfl rfl (rfl) ?_
      exact h
    · refine p_iload_n (i := 10) rfl rfl ?_
      refine p_iconst (i := 11) rfl ?_
      refine p_icmp_le (i := 12) 29 rfl (by decide) (by omega) (by omega) (fun c23 => ?_) (fun c23 => ?_)
      · rw [if_neg (by omega)] at h
        refine p_iconst (i := 15) rfl ?_
        refine p_istore_n (i := 16) rfl rfl ?_
        refine p_iconst (i := 17) rfl ?_
        refine p_istore (i := 18) rfl rfl ?_
        obtain ⟨w, ew⟩ : ∃ w : Nat, s = (w : Int) := ⟨s.toNat, by omega⟩
        subst ew
        rw [Int.toNat_natCast] at h
        exact loop 10 0 0 w _ (by omega) (by omega) (by rw [← eN] at z; omega) (by decide) h
      · rw [if_pos (by omega)] at h
        refine p_ldc (i := 13) rfl kX9_78 ?_
        refine p_iret (i := 14) rfl rfl (rfl) ?_
        exact h
  · rw [if_pos z] at h
    refine p_if_ne (i := 5) 17 rfl (by decide) (by omega) (fun c11 => by exfalso; omega) (fun c11 => ?_)
    refine p_ldc (i := 6) rfl kX9_158 ?_
    refine p_iret (i := 7) rfl rfl (rfl) ?_
    exact h
theorem y_loss {M : AM} {ns nw : Nat} {g : GS} {m : Nat} {Q : Option Value → AM → Prop} (hH : YH M) (hA : YA M 279 ns nw g) (hm : m < 2147483648) (h : ∀ v : Int, 0 ≤ v ∧ v ≤ 990 → Q (some (zI v)) M) : C mX10_loss [.ref 276, zI (m : Int)] M Q := by
  obtain ⟨uy, sy, zy, fy, my, by_, ay, gy, ny, hy_, vy, ry, kY⟩ := id hH
  obtain ⟨⟨q1, q2, q3, q4, q5, q6, q7, q8, q9, q10, q11⟩, f, kT, ⟨t0, t1⟩, ⟨u1, u2, u3, u4, u5⟩⟩ := id hA
  have loop : ∀ (c k : Nat) (s : Int), k + c = g.1.length → 0 ≤ s ∧ s ≤ 99 * k → P none mX10_loss 4 [.ref 276, zI (m : Int), zI s, zI (k : Int)] []  M Q := by
    intro c
    induction c with
    | zero =>
      intro k s hk hs
      refine p_iload_n (i := 4) rfl rfl ?_
      refine p_aload_n (i := 5) rfl rfl ?_
      refine p_getf (i := 6) rfl fX10_16 kY rfl ?_
      refine p_iconst (i := 7) rfl ?_
      refine p_iaX (i := 8) (0) rfl kT (by omega) (by omega) (by decide) ?_
      refine p_icmp_ge (i := 9) 44 rfl (by decide) (by omega) (by omega) (fun c11 => ?_) (fun c11 => by exfalso; omega)
      refine p_iload_n (i := 27) rfl rfl ?_
      refine p_iret (i := 28) rfl rfl (rfl) ?_
      exact h s (by omega)
    | succ c ih =>
      intro k s hk hs
      obtain ⟨e1, e2, e3⟩ := t1 k (by omega)
      have e4 := q2 k (by omega)
      have e5 : m / 2 ^ k % 2 < 2 := Nat.mod_lt _ (by decide)
      refine p_iload_n (i := 4) rfl rfl ?_
      refine p_aload_n (i := 5) rfl rfl ?_
      refine p_getf (i := 6) rfl fX10_16 kY rfl ?_
      refine p_iconst (i := 7) rfl ?_
      refine p_iaX (i := 8) (0) rfl kT (by omega) (by omega) (by decide) ?_
      refine p_icmp_ge (i := 9) 44 rfl (by decide) (by omega) (by omega) (fun c11 => by exfalso; omega) (fun c11 => ?_)
      refine p_iload_n (i := 10) rfl rfl ?_
      refine p_iload_n (i := 11) rfl rfl ?_
      refine p_iload_n (i := 12) rfl rfl ?_
      refine p_cS2 (i := 13) rfl ⟨lX10_125, rfl, rfl⟩ rfl (y_has hm (by omega) ?_)
      refine p_if_eq (i := 14) 35 rfl (by decide) (by omega) (fun c20 => ?_) (fun c20 => ?_)
      · refine p_iconst (i := 22) rfl ?_
        refine p_iadd (i := 23) rfl ?_
        refine p_istore_n (i := 24) rfl rfl ?_
        refine p_iinc (i := 25) rfl rfl rfl ?_
        refine p_goto (i := 26) 4 rfl (by decide) ?_
        exact ih (k + 1) _ (by omega) (by omega)
      · refine p_aload_n (i := 15) rfl rfl ?_
        refine p_getf (i := 16) rfl fX10_16 kY rfl ?_
        refine p_bipush (i := 17) rfl (by decide) ?_
        refine p_iload_n (i := 18) rfl rfl ?_
        refine p_iadd (i := 19) rfl ?_
        refine p_iaX (i := 20) ((21 + k)) rfl kT (by omega) (by omega) (by decide) ?_
        refine p_goto (i := 21) 36 rfl (by decide) ?_
        refine p_iadd (i := 23) rfl ?_
        refine p_istore_n (i := 24) rfl rfl ?_
        refine p_iinc (i := 25) rfl rfl rfl ?_
        refine p_goto (i := 26) 4 rfl (by decide) ?_
        exact ih (k + 1) _ (by omega) (by omega)
  refine C_of okX10_loss (by decide) (Nat.le_of_ble_eq_true rfl) ?_
  show P none mX10_loss 0 [.ref 276, zI (m : Int), .retAddr 0, .retAddr 0] [] _ _
  refine p_iconst (i := 0) rfl ?_
  refine p_istore_n (i := 1) rfl rfl ?_
  refine p_iconst (i := 2) rfl ?_
  refine p_istore_n (i := 3) rfl rfl ?_
  exact loop g.1.length 0 0 (by omega) (by omega)
theorem y_areThemselves {M : AM} {ln : LN} {g : GS} {set wi : Nat} {Q : Option Value → AM → Prop} (hL : YL M ln) (hA : YA M 279 (nS ln) (nW ln) g) (hs : set < 2147483648) (hw : wi < 2147483648) (h1 : okL ln g.1 set wi (nS ln) 0 = 1 → Q (some (zI 1)) M) (h0 : ¬ okL ln g.1 set wi (nS ln) 0 = 1 → Q (some (zI 0)) M) : C mX10_areThemselves [.ref 276, zI (set : Int), zI (wi : Int)] M Q := by
  obtain ⟨⟨uy, sy, zy, fy, my, by_, ay, gy, ny, hy_, vy, ry, kY⟩, ⟨o1, o2, o3, o4, o5, o6, o7⟩, lf, kL, l0, l1, l2, l3, l4⟩ := id hL
  obtain ⟨⟨q1, q2, q3, q4, q5, q6, q7, q8, q9, q10, q11⟩, f, kT, ⟨t0, t1⟩, ⟨u1, u2, u3, u4, u5⟩⟩ := id hA
  have hok := hA.1.ls
  obtain ⟨R, eR⟩ : ∃ R, R = okL ln g.1 set wi (nS ln) 0 := ⟨_, rfl⟩
  rw [← eR] at h1 h0
  have loop : ∀ (c k : Nat) (fl : Int), k + c = nS ln → (fl = 0 ∨ fl = 1) → (if fl = 0 then 0 else okL ln g.1 set wi c k) = R → P none mX10_areThemselves 5 [.ref 276, zI (set : Int), zI (wi : Int), zI fl, zI (k : Int)] []  M Q := by
    intro c
    induction c with
    | zero =>
      intro k fl hkc hfl hq
      refine p_iload (i := 4) rfl rfl ?_
      refine p_aload_n (i := 5) rfl rfl ?_
      refine p_getf (i := 6) rfl fX10_7 kY rfl ?_
      refine p_iconst (i := 7) rfl ?_
      refine p_iaX (i := 8) (1) rfl kL (by omega) (by omega) (by decide) ?_
      refine p_icmp_ge (i := 9) 63 rfl (by decide) (by omega) (by omega) (fun c13 => ?_) (fun c13 => by exfalso; omega)
      refine p_iload_n (i := 34) rfl rfl ?_
      rcases hfl with rfl | rfl
      · rw [if_pos rfl] at hq
        refine p_iret (i := 35) rfl rfl (by decide) ?_
        exact h0 (by omega)
      · rw [if_neg (by decide)] at hq
        refine p_iret (i := 35) rfl rfl (by decide) ?_
        exact h1 hq.symm
    | succ c ih =>
      intro k fl hkc hfl hq
      have e5 : set / 2 ^ k % 2 < 2 := Nat.mod_lt _ (by decide)
      have ht := tk_rng (ln := ln) (x := (k : Int)) (m := 0) (wi := wi) hok (Nat.le_refl _) (by omega)
      refine p_iload (i := 4) rfl rfl ?_
      refine p_aload_n (i := 5) rfl rfl ?_
      refine p_getf (i := 6) rfl fX10_7 kY rfl ?_
      refine p_iconst (i := 7) rfl ?_
      refine p_iaX (i := 8) (1) rfl kL (by omega) (by omega) (by decide) ?_
      refine p_icmp_ge (i := 9) 63 rfl (by decide) (by omega) (by omega) (fun c13 => by exfalso; omega) (fun c13 => ?_)
      refine p_iload_n (i := 10) rfl rfl ?_
      refine p_if_eq (i := 11) 55 rfl (by decide) (by omega) (fun c17 => ?_) (fun c17 => ?_)
      · rw [if_pos c17] at hq
        refine p_iconst (i := 30) rfl ?_
        refine p_istore_n (i := 31) rfl rfl ?_
        refine p_iinc (i := 32) rfl rfl rfl ?_
        refine p_goto (i := 33) 5 rfl (by decide) ?_
        exact ih (k + 1) 0 (by omega) (Or.inl rfl) (by rw [if_pos rfl]; exact hq)
      · rw [if_neg c17] at hq
        unfold okL at hq
        refine p_iload_n (i := 12) rfl rfl ?_
        refine p_iload (i := 13) rfl rfl ?_
        refine p_cS2 (i := 14) rfl ⟨lX10_125, rfl, rfl⟩ rfl (y_has hs (by omega) ?_)
        refine p_if_eq (i := 15) 51 rfl (by decide) (by omega) (fun c26 => ?_) (fun c26 => ?_)
        · rw [if_pos (Or.inl (by omega))] at hq
          refine p_iconst (i := 28) rfl ?_
          refine p_goto (i := 29) 56 rfl (by decide) ?_
          refine p_istore_n (i := 31) rfl rfl ?_
          refine p_iinc (i := 32) rfl rfl rfl ?_
          refine p_goto (i := 33) 5 rfl (by decide) ?_
          exact ih (k + 1) 1 (by omega) (Or.inr rfl) (by rw [if_neg (by decide)]; exact hq)
        · refine p_aload_n (i := 16) rfl rfl ?_
          refine p_aload_n (i := 17) rfl rfl ?_
          refine p_getf (i := 18) rfl fX10_16 kY rfl ?_
          refine p_iload (i := 19) rfl rfl ?_
          refine p_iload_n (i := 20) rfl rfl ?_
          refine p_aload_n (i := 21) rfl rfl ?_
          refine p_getf (i := 22) rfl fX10_7 kY rfl ?_
          refine p_iconst (i := 23) rfl ?_
          refine p_iaX (i := 24) (0) rfl kL (by omega) (by omega) (by decide) ?_
          refine p_cV4 (i := 25) rfl ⟨lX10_133, rfl, rfl⟩ kY ⟨_, rfl, rfl⟩ rfl (y_takesBy hL hA (by omega) (m := 0) (by omega) (by omega) hw ?_)
          refine p_iload (i := 26) rfl rfl ?_
          refine p_icmp_ne (i := 27) 55 rfl (by decide) (by omega) (by omega) (fun c48 => ?_) (fun c48 => ?_)
          · rw [if_neg (by omega)] at hq
            refine p_iconst (i := 30) rfl ?_
            refine p_istore_n (i := 31) rfl rfl ?_
            refine p_iinc (i := 32) rfl rfl rfl ?_
            refine p_goto (i := 33) 5 rfl (by decide) ?_
            exact ih (k + 1) 0 (by omega) (Or.inl rfl) (by rw [if_pos rfl]; exact hq)
          · rw [if_pos (Or.inr (by omega))] at hq
            refine p_iconst (i := 28) rfl ?_
            refine p_goto (i := 29) 56 rfl (by decide) ?_
            refine p_istore_n (i := 31) rfl rfl ?_
            refine p_iinc (i := 32) rfl rfl rfl ?_
            refine p_goto (i := 33) 5 rfl (by decide) ?_
            exact ih (k + 1) 1 (by omega) (Or.inr rfl) (by rw [if_neg (by decide)]; exact hq)
  refine C_of okX10_areThemselves (by decide) (Nat.le_of_ble_eq_true rfl) ?_
  show P none mX10_areThemselves 0 [.ref 276, zI (set : Int), zI (wi : Int), .retAddr 0, .retAddr 0] [] _ _
  refine p_iconst (i := 0) rfl ?_
  refine p_istore_n (i := 1) rfl rfl ?_
  refine p_iconst (i := 2) rfl ?_
  refine p_istore (i := 3) rfl rfl ?_
  exact loop (nS ln) 0 1 (by omega) (Or.inr rfl) (by rw [if_neg (by decide)]; exact eR.symm)
theorem Y_toWipe {M : AM} {tx : List Int} {fa : Int} {ln : LN} {g : GS} {un : List GS} {i0 i1 : Option (GS × Int)} {sd : Int} {me bo : List (Int × Int)} {Q : Option Value → AM → Prop} {s what : Int} (hY : YW M (tx, fa, ln, g, un, i0, i1, sd, me, bo)) (hs : -2147483648 ≤ s ∧ s ≤ 2147483647) (hw : -2147483648 ≤ what ∧ what ≤ 2147483647) (h : ∀ M', YW M' (tx, fa, ln, g, un, i0, i1, sd, me, bo) → FrI 276 12 M M' → Q (some (zI (a_toWipe (tx, fa, ln, g, un, i0, i1, sd, me, bo) s what))) M') : C mX10_toWipe [.ref 276, zI s, zI what] M Q := by
  have h := h M hY FrI.rf
  dsimp only [a_toWipe] at h
  obtain ⟨hRt, hLn, hA, hPa, hIm, hTx, hMe, hBo, hN, b1, b2, b3, b4, b5, b6, b7⟩ := id hY
  obtain ⟨ay, gy, ny, hy_, vy, ry, kY⟩ := id hRt
  have hL : YL M ln := hLn.l hRt.h
  obtain ⟨⟨o1, o2, o3, o4, o5, o6, o7⟩, lf, kL, l0, l1, l2, l3, l4⟩ := id hLn
  obtain ⟨⟨q1, q2, q3, q4, q5, q6, q7, q8, q9, q10, q11⟩, f, kT, ⟨t0, t1⟩, ⟨u1, u2, u3, u4, u5⟩⟩ := id hA
  have hok := hA.1.ls
  have hT : ∀ k, k < g.1.length → 0 ≤ lT g.1 k := fun k hk => by have := q2 k hk; omega
  obtain ⟨N, eN⟩ : ∃ N, N = 2 ^ nS ln := ⟨_, rfl⟩
  have hN : N ≤ 256 := by rw [eN]; exact Nat.pow_le_pow_right (n := 2) (by decide) (show nS ln ≤ 8 by omega)
  obtain ⟨K, eK⟩ : ∃ K, K = 2 ^ g.1.length := ⟨_, rfl⟩
  have hK : K ≤ 1024 := by rw [eK]; exact Nat.pow_le_pow_right (n := 2) (by decide) q1
  rw [← eN] at h
  have loop : ∀ (c k : Nat) (b : Int) (set : Nat) (x5 : Value), k + c = K → 0 ≤ what ∧ what ≤ 1 → set < 256 → bestI ln g.1 set k b → Q (some (zI (if what = 0 then (popc (gdy ln g.1 set 10 0) : Nat) else (gdy ln g.1 set 10 0 : Nat)))) M → P none mX10_toWipe 41 [.ref 276, zI (set : Int), zI what, zI b, zI (k : Int), x5] []  M Q := by
    intro c
    induction c with
    | zero =>
      intro k b set x5 hkc hwh hset hb hq
      obtain rfl : k = K := by omega
      rw [eK] at hb
      have eb := bestI_end hT q1 hb
      have hg := (gdy_ok (ln := ln) (set := set) hT q1 10 0 (Nat.two_pow_pos _) (by omega)).2
      rw [← eK] at hg
      refine p_iload (i := 28) rfl rfl ?_
      refine p_iconst (i := 29) rfl ?_
      refine p_aload_n (i := 30) rfl rfl ?_
      refine p_getf (i := 31) rfl fX10_16 kY rfl ?_
      refine p_iconst (i := 32) rfl ?_
      refine p_iaX (i := 33) (0) rfl kT (by omega) (by omega) (by decide) ?_
      rw [t0]
      refine p_ishl1 (i := 34) rfl (by omega) ?_
      rw [← eK]
      refine p_icmp_ge (i := 35) 132 rfl (by decide) (by omega) (by omega) (fun c51 => ?_) (fun c51 => by exfalso; omega)
      refine p_iload_n (i := 73) rfl rfl ?_
      rw [eb]
      refine p_if_ne (i := 74) 143 rfl (by decide) (by omega) (fun c133 => ?_) (fun c133 => ?_)
      · rw [if_neg (by omega)] at hq
        refine p_iload_n (i := 78) rfl rfl ?_
        refine p_iret (i := 79) rfl rfl (rfl) ?_
        exact hq
      · rw [if_pos (by omega)] at hq
        refine p_iload_n (i := 75) rfl rfl ?_
        refine p_cS1 (i := 76) rfl ⟨lX10_169, rfl, rfl⟩ rfl (y_bits (by omega) ?_)
        refine p_goto (i := 77) 144 rfl (by decide) ?_
        refine p_iret (i := 79) rfl rfl (rfl) ?_
        exact hq
    | succ c ih =>
      intro k b set x5 hkc hwh hset hb hq
      have hbr : -1 ≤ b ∧ b < k := by rcases hb with ⟨z, _⟩ | ⟨z1, z2, _⟩ <;> omega
      have skip : (okL ln g.1 set k (nS ln) 0 ≠ 1 ∨ (0 ≤ b ∧ popc b.toNat ≤ popc k)) → P none mX10_toWipe 102 [.ref 276, zI (set : Int), zI what, zI b, zI (k : Int), x5] [zI 0] M Q := by
        intro hn
        refine p_istore (i := 59) rfl rfl ?_
        refine p_iload (i := 60) rfl rfl ?_
        refine p_if_eq (i := 61) 124 rfl (by decide) (by omega) (fun c106 => ?_) (fun c106 => by exfalso; omega)
        refine p_iload_n (i := 69) rfl rfl ?_
        refine p_istore_n (i := 70) rfl rfl ?_
        refine p_iinc (i := 71) rfl rfl rfl ?_
        refine p_goto (i := 72) 41 rfl (by decide) ?_
        exact ih (k + 1) b set _ (by omega) hwh hset (bestI_skip hb hn) hq
      have take : (b = -1 ∨ popc k ≤ popc b.toNat) → P none mX10_toWipe 102 [.ref 276, zI (set : Int), zI what, zI b, zI (k : Int), x5] [zI 1] M Q := by
        intro hn
        refine p_istore (i := 59) rfl rfl ?_
        refine p_iload (i := 60) rfl rfl ?_
        refine p_if_eq (i := 61) 124 rfl (by decide) (by omega) (fun c106 => by exfalso; omega) (fun c106 => ?_)
        refine p_aload_n (i := 62) rfl rfl ?_
        refine p_iload_n (i := 63) rfl rfl ?_
        refine p_iload (i := 64) rfl rfl ?_
        refine p_cV2 (i := 65) rfl ⟨lX10_256, rfl, rfl⟩ kY ⟨_, rfl, rfl⟩ rfl (y_areThemselves hL hA (by omega) (by omega) (fun z => ?_) (fun z => ?_))
        · refine p_if_eq (i := 66) 124 rfl (by decide) (by omega) (fun c116 => by exfalso; omega) (fun c116 => ?_)
          refine p_iload (i := 67) rfl rfl ?_
          refine p_goto (i := 68) 125 rfl (by decide) ?_
          refine p_istore_n (i := 70) rfl rfl ?_
          refine p_iinc (i := 71) rfl rfl rfl ?_
          refine p_goto (i := 72) 41 rfl (by decide) ?_
          exact ih (k + 1) _ set _ (by omega) hwh hset (bestI_take hb z hn) hq
        · refine p_if_eq (i := 66) 124 rfl (by decide) (by omega) (fun c116 => ?_) (fun c116 => by exfalso; omega)
          refine p_iload_n (i := 69) rfl rfl ?_
          refine p_istore_n (i := 70) rfl rfl ?_
          refine p_iinc (i := 71) rfl rfl rfl ?_
          refine p_goto (i := 72) 41 rfl (by decide) ?_
          exact ih (k + 1) b set _ (by omega) hwh hset (bestI_skip hb (Or.inl z)) hq
      have pk := popc_le k
      have pb := popc_le b.toNat
      refine p_iload (i := 28) rfl rfl ?_
      refine p_iconst (i := 29) rfl ?_
      refine p_aload_n (i := 30) rfl rfl ?_
      refine p_getf (i := 31) rfl fX10_16 kY rfl ?_
      refine p_iconst (i := 32) rfl ?_
      refine p_iaX (i := 33) (0) rfl kT (by omega) (by omega) (by decide) ?_
      rw [t0]
      refine p_ishl1 (i := 34) rfl (by omega) ?_
      rw [← eK]
      refine p_icmp_ge (i := 35) 132 rfl (by decide) (by omega) (by omega) (fun c51 => by exfalso; omega) (fun c51 => ?_)
      refine p_iload_n (i := 36) rfl rfl ?_
      refine p_iconst (i := 37) rfl ?_
      refine p_icmp_eq (i := 38) 97 rfl (by decide) (by omega) (by omega) (fun c56 => ?_) (fun c56 => ?_)
      · refine p_iconst (i := 56) rfl ?_
        refine p_goto (i := 57) 102 rfl (by decide) ?_
        exact take (Or.inl c56)
      · refine p_iload (i := 39) rfl rfl ?_
        refine p_cS1 (i := 40) rfl ⟨lX10_169, rfl, rfl⟩ rfl (y_bits (by omega) ?_)
        refine p_iload_n (i := 41) rfl rfl ?_
        refine p_top (b := ((b.toNat : Nat) : Int)) (by omega) ?_
        refine p_cS1 (i := 42) rfl ⟨lX10_169, rfl, rfl⟩ rfl (y_bits (by omega) ?_)
        refine p_icmp_lt (i := 43) 97 rfl (by decide) (by omega) (by omega) (fun c68 => ?_) (fun c68 => ?_)
        · refine p_iconst (i := 56) rfl ?_
          refine p_goto (i := 57) 102 rfl (by decide) ?_
          exact take (Or.inr (by omega))
        · refine p_iload (i := 44) rfl rfl ?_
          refine p_cS1 (i := 45) rfl ⟨lX10_169, rfl, rfl⟩ rfl (y_bits (by omega) ?_)
          refine p_iload_n (i := 46) rfl rfl ?_
          refine p_top (b := ((b.toNat : Nat) : Int)) (by omega) ?_
          refine p_cS1 (i := 47) rfl ⟨lX10_169, rfl, rfl⟩ rfl (y_bits (by omega) ?_)
          refine p_icmp_ne (i := 48) 101 rfl (by decide) (by omega) (by omega) (fun c80 => ?_) (fun c80 => ?_)
          · refine p_iconst (i := 58) rfl ?_
            exact skip (Or.inr (by omega))
          · refine p_aload_n (i := 49) rfl rfl ?_
            refine p_iload (i := 50) rfl rfl ?_
            refine p_cV1 (i := 51) rfl ⟨lX10_253, rfl, rfl⟩ kY ⟨_, rfl, rfl⟩ rfl (y_loss hL.1 hA (by omega) (fun v1 hv1 => ?_))
            refine p_aload_n (i := 52) rfl rfl ?_
            refine p_iload_n (i := 53) rfl rfl ?_
            refine p_top (b := ((b.toNat : Nat) : Int)) (by omega) ?_
            refine p_cV1 (i := 54) rfl ⟨lX10_253, rfl, rfl⟩ kY ⟨_, rfl, rfl⟩ rfl (y_loss hL.1 hA (by omega) (fun v2 hv2 => ?_))
            refine p_icmp_ge (i := 55) 101 rfl (by decide) (by omega) (by omega) (fun c94 => ?_) (fun c94 => ?_)
            · refine p_iconst (i := 58) rfl ?_
              exact skip (Or.inr (by omega))
            · refine p_iconst (i := 56) rfl ?_
              refine p_goto (i := 57) 102 rfl (by decide) ?_
              exact take (Or.inr (by omega))
  refine C_of okX10_toWipe (by decide) (Nat.le_of_ble_eq_true rfl) ?_
  show P none mX10_toWipe 0 [.ref 276, zI s, zI what, .retAddr 0, .retAddr 0, .retAddr 0] [] _ _
  refine p_iload_n (i := 0) rfl rfl ?_
  refine p_i2l (i := 1) rfl (by omega) ?_
  refine p_lconst0 (i := 2) rfl ?_
  refine p_iconst (i := 3) rfl ?_
  refine p_aload_n (i := 4) rfl rfl ?_
  refine p_getf (i := 5) rfl fX10_7 kY rfl ?_
  refine p_iconst (i := 6) rfl ?_
  refine p_iaX (i := 7) (1) rfl kL (by omega) (by omega) (by decide) ?_
  rw [l1]
  refine p_ishl1 (i := 8) rfl (by omega) ?_
  refine p_iconst (i := 9) rfl ?_
  refine p_isub (i := 10) rfl ?_
  refine p_i2l (i := 11) rfl (by rw [← eN]; omega) ?_
  rw [← eN]
  refine p_cS3 (i := 12) rfl ⟨lX10_59, rfl, rfl⟩ rfl (y_in (by omega) (by omega) (by omega) (fun z => ?_) (fun z => ?_))
  · rw [if_neg (by omega)] at h
    refine p_if_ne (i := 13) 23 rfl (by decide) (by omega) (fun c17 => ?_) (fun c17 => by exfalso; omega)
    refine p_iload_n (i := 16) rfl rfl ?_
    refine p_i2l (i := 17) rfl (by omega) ?_
    refine p_lconst0 (i := 18) rfl ?_
    refine p_lconst1 (i := 19) rfl ?_
    refine p_cS3 (i := 20) rfl ⟨lX10_59, rfl, rfl⟩ rfl (y_in (by omega) (by omega) (by omega) (fun z2 => ?_) (fun z2 => ?_))
    · rw [if_neg (by omega)] at h
      refine p_if_ne (i := 21) 36 rfl (by decide) (by omega) (fun c30 => ?_) (fun c30 => by exfalso; omega)
      refine p_iconst (i := 24) rfl ?_
      refine p_istore_n (i := 25) rfl rfl ?_
      refine p_iconst (i := 26) rfl ?_
      refine p_istore (i := 27) rfl rfl ?_
      obtain ⟨w, ew⟩ : ∃ w : Nat, s = (w : Int) := ⟨s.toNat, by omega⟩
      subst ew
      rw [Int.toNat_natCast] at h
      exact loop K 0 (-1) w _ (by omega) z2 (by omega) bestI_0 h
    · rw [if_pos (by omega)] at h
      refine p_if_ne (i := 21) 36 rfl (by decide) (by omega) (fun c30 => by exfalso; omega) (fun c30 => ?_)
      refine p_ldc (i := 22) rfl kX10_63 ?_
      refine p_iret (i := 23) rfl rfl (rfl) ?_
      exact h
  · rw [if_pos (by omega)] at h
    refine p_if_ne (i := 13) 23 rfl (by decide) (by omega) (fun c17 => by exfalso; omega) (fun c17 => ?_)
    refine p_ldc (i := 14) rfl kX10_197 ?_
    refine p_iret (i := 15) rfl rfl (rfl) ?_
    exact h
