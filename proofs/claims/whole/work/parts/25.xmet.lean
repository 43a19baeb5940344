-- calls of the class: met, book, images
theorem X_ground {M : AM} {tx : List Int} {fa : Int} {ln : LN} {g : GS} {un : List GS} {i0 i1 : Option (GS × Int)} {sd : Int} {me bo : List (Int × Int)} {x : Int} {Q : Option Value → AM → Prop} (hX : XW M (tx, fa, ln, g, un, i0, i1, sd, me, bo)) (hx : -2147483648 ≤ x ∧ x ≤ 2147483647) (h : ∀ M', XW M' (tx, fa, ln, g, un, i0, i1, sd, me, bo) → FrI 0 276 M M' → Q (some (zI (a_ground (tx, fa, ln, g, un, i0, i1, sd, me, bo) x))) M') : C mX9_ground [.ref 0, zI x] M Q := by
  have h := h M hX FrI.rf
  dsimp only [a_ground] at h
  obtain ⟨la, sa, hRt, hRd, hHi, hIr, hI0, hI1, hPa, hTr, hTu, hMe, hBo, hLi, hLs, b1, b2, b3, b4, b5, b6, b7⟩ := id hX
  obtain ⟨kR, hla⟩ := id hRt
  obtain ⟨⟨o1, o2, o3, o4, o5, o6, o7⟩, kf, bf, lc, lkf, ⟨hb, hk, hr, hc, ⟨gg, hg, hgi⟩, hrow⟩, hkb, hlk⟩ := id hLi
  obtain ⟨⟨q1, q2, q3, q4, q5, q6, q7, q8, q9, q10, q11⟩, sc, wh, st, hs, lr, lf, lz, ⟨hp, hS, hW, hT, hH, hG, hR⟩, rL, rH, rG⟩ := id hPa
  have hok := hPa.1.ls
  have loop : ∀ (f k : Nat), k + f = 100 → 0 ≤ x ∧ x < nS ln → Q (some (zI (grd ln g.1 x f k))) M → P none mX9_ground 16 [.ref 0, zI x, zI (k : Int)] []  M Q := by
    intro f
    induction f with
    | zero =>
      intro k hk q h
      refine p_iload_n (i := 9) rfl rfl ?_
      refine p_bipush (i := 10) rfl (by decide) ?_
      refine p_icmp_gt (i := 11) 48 rfl (by decide) (by omega) (by omega) (fun c19 => ?_) (fun c19 => by exfalso; omega)
      refine p_iconst (i := 26) rfl ?_
      refine p_iret (i := 27) rfl rfl (rfl) ?_
      exact h
    | succ f ih =>
      intro k hk' q h
      unfold grd at h
      have ht := tk_rng (ln := ln) (x := x) (m := (k : Int)) (wi := 0) hok (Nat.le_refl _) q
      refine p_iload_n (i := 9) rfl rfl ?_
      refine p_bipush (i := 10) rfl (by decide) ?_
      refine p_icmp_gt (i := 11) 48 rfl (by decide) (by omega) (by omega) (fun c19 => by exfalso; omega) (fun c19 => ?_)
      refine p_aload_n (i := 12) rfl rfl ?_
      refine p_getf (i := 13) rfl fX9_32 kR rfl ?_
      refine p_aload_n (i := 14) rfl rfl ?_
      refine p_getf (i := 15) rfl fX9_63 kR rfl ?_
      refine p_iload_n (i := 16) rfl rfl ?_
      refine p_iload_n (i := 17) rfl rfl ?_
      refine p_iconst (i := 18) rfl ?_
      refine p_cV4 (i := 19) rfl ⟨lX9_272, rfl, rfl⟩ hp ⟨_, rfl, rfl⟩ rfl (x_takenFor hPa hLi q (by omega) (by decide) (wi := 0) ?_)
      refine p_iload_n (i := 20) rfl rfl ?_
      refine p_icmp_ne (i := 21) 42 rfl (by decide) (by omega) (by omega) (fun c37 => ?_) (fun c37 => ?_)
      · rw [if_neg c37] at h
        refine p_iinc (i := 24) rfl rfl rfl ?_
        refine p_goto (i := 25) 16 rfl (by decide) ?_
        exact ih (k + 1) (by omega) q h
      · rw [if_pos c37] at h
        refine p_iload_n (i := 22) rfl rfl ?_
        refine p_iret (i := 23) rfl rfl (rfl) ?_
        exact h
  refine C_of okX9_ground (by decide) (Nat.le_of_ble_eq_true rfl) ?_
  show P none mX9_ground 0 [.ref 0, zI x, .retAddr 0] [] _ _
  refine p_aload_n (i := 0) rfl rfl ?_
  refine p_getf (i := 1) rfl fX9_63 kR rfl ?_
  refine p_iload_n (i := 2) rfl rfl ?_
  refine p_cV1 (i := 3) rfl ⟨lX9_154, rfl, rfl⟩ hb ⟨_, rfl, rfl⟩ rfl (x_hasScene hLi hx (fun q => ?_) (fun q => ?_))
  · rw [if_neg (not_not_intro q)] at h
    refine p_if_ne (i := 4) 14 rfl (by decide) (by omega) (fun c8 => ?_) (fun c8 => by exfalso; omega)
    refine p_iconst (i := 7) rfl ?_
    refine p_istore_n (i := 8) rfl rfl ?_
    exact loop 100 0 (by omega) q h
  · rw [if_pos q] at h
    refine p_if_ne (i := 4) 14 rfl (by decide) (by omega) (fun c8 => by exfalso; omega) (fun c8 => ?_)
    refine p_ldc (i := 5) rfl kX9_158 ?_
    refine p_iret (i := 6) rfl rfl (rfl) ?_
    exact h
theorem X_mist {M : AM} {n q : Int} {Q : Option Value → AM → Prop} (hn : -2147483648 ≤ n ∧ n ≤ 2147483647) (hq : -2147483648 ≤ q ∧ q ≤ 2147483647) (h : Q (some (zI (a_mist n q))) M) : C mX9_mist [.ref 0, zI n, zI q] M Q := by
  unfold a_mist at h
  have loop : ∀ (f k : Nat) (x : Int), (k : Int) + f = n → n ≤ 60 → 0 ≤ q ∧ q ≤ 100 → 0 ≤ x ∧ x ≤ 1000000000 → Q (some (zI (mst q f x))) M → P none mX9_mist 30 [.ref 0, zI n, zI q, zJ x, .retAddr 0, zI (k : Int)] []  M Q := by
    intro f
    induction f with
    | zero =>
      intro k x hk hn60 hq0 hx h
      refine p_iload (i := 16) rfl rfl ?_
      refine p_iload_n (i := 17) rfl rfl ?_
      refine p_icmp_ge (i := 18) 51 rfl (by decide) (by omega) (by omega) (fun c33 => ?_) (fun c33 => by exfalso; omega)
      refine p_lload_n (i := 28) rfl rfl ?_
      refine p_l2i (i := 29) rfl ?_
      refine p_iret (i := 30) rfl rfl (rfl) ?_
      exact h
    | succ f ih =>
      intro k x hk hn60 hq0 hx h
      have m1 : 0 ≤ x * q := Int.mul_nonneg hx.1 hq0.1
      have m2 : x * q ≤ 1000000000 * 100 := Int.mul_le_mul hx.2 hq0.2 hq0.1 (by decide)
      refine p_iload (i := 16) rfl rfl ?_
      refine p_iload_n (i := 17) rfl rfl ?_
      refine p_icmp_ge (i := 18) 51 rfl (by decide) (by omega) (by omega) (fun c33 => by exfalso; omega) (fun c33 => ?_)
      refine p_lload_n (i := 19) rfl rfl ?_
      refine p_iload_n (i := 20) rfl rfl ?_
      refine p_i2l (i := 21) rfl (by omega) ?_
      refine p_lmul (i := 22) rfl ?_
      refine p_ldc2 (i := 23) rfl kX9_278 ?_
      refine p_ldiv (i := 24) rfl (by omega) (by omega) ?_
      refine p_lstore_n (i := 25) rfl rfl rfl ?_
      refine p_iinc (i := 26) rfl rfl rfl ?_
      refine p_goto (i := 27) 30 rfl (by decide) ?_
      exact ih (k + 1) (x * q / 100) (by omega) hn60 hq0 (by omega) h
  refine C_of okX9_mist (by decide) (Nat.le_of_ble_eq_true rfl) ?_
  show P none mX9_mist 0 [.ref 0, zI n, zI q, .retAddr 0, .retAddr 0, .retAddr 0] [] _ _
  refine p_iload_n (i := 0) rfl rfl ?_
  refine p_if_lt (i := 1) 20 rfl (by decide) (by omega) (fun c1 => ?_) (fun c1 => ?_)
  · rw [if_pos (by omega)] at h
    refine p_ldc (i := 10) rfl kX9_78 ?_
    refine p_iret (i := 11) rfl rfl (rfl) ?_
    exact h
  · refine p_iload_n (i := 2) rfl rfl ?_
    refine p_bipush (i := 3) rfl (by decide) ?_
    refine p_icmp_gt (i := 4) 20 rfl (by decide) (by omega) (by omega) (fun c7 => ?_) (fun c7 => ?_)
    · rw [if_pos (by omega)] at h
      refine p_ldc (i := 10) rfl kX9_78 ?_
      refine p_iret (i := 11) rfl rfl (rfl) ?_
      exact h
    · refine p_iload_n (i := 5) rfl rfl ?_
      refine p_if_lt (i := 6) 20 rfl (by decide) (by omega) (fun c11 => ?_) (fun c11 => ?_)
      · rw [if_pos (by omega)] at h
        refine p_ldc (i := 10) rfl kX9_78 ?_
        refine p_iret (i := 11) rfl rfl (rfl) ?_
        exact h
      · refine p_iload_n (i := 7) rfl rfl ?_
        refine p_bipush (i := 8) rfl (by decide) ?_
        refine p_icmp_le (i := 9) 23 rfl (by decide) (by omega) (by omega) (fun c17 => ?_) (fun c17 => ?_)
        · rw [if_neg (by omega)] at h
          refine p_ldc2 (i := 12) rfl kX9_276 ?_
          refine p_lstore_n (i := 13) rfl rfl rfl ?_
          refine p_iconst (i := 14) rfl ?_
          refine p_istore (i := 15) rfl rfl ?_
          exact loop n.toNat 0 1000000000 (by omega) (by omega) (by omega) (by decide) h
        · rw [if_pos (by omega)] at h
          refine p_ldc (i := 10) rfl kX9_78 ?_
          refine p_iret (i := 11) rfl rfl (rfl) ?_
          exact h
theorem X_meet {M : AM} {tx : List Int} {fa : Int} {ln : LN} {g : GS} {un : List GS} {i0 i1 : Option (GS × Int)} {sd : Int} {me bo : List (Int × Int)} {x v : Int} {Q : Option Value → AM → Prop} (hX : XW M (tx, fa, ln, g, un, i0, i1, sd, me, bo)) (hx : -2147483648 ≤ x ∧ x ≤ 2147483647) (hv : v = 0 ∨ v = 1) (h : ∀ M', XW M' (a_meet (tx, fa, ln, g, un, i0, i1, sd, me, bo) x v).2 → FrI 0 276 M M' → Q (some (zI (a_meet (tx, fa, ln, g, un, i0, i1, sd, me, bo) x v).1)) M') : C mX9_meet [.ref 0, zI x, zI v] M Q := by
  dsimp only [a_meet] at h
  obtain ⟨la, sa, hRt, hRd, hHi, hIr, hI0, hI1, hPa, hTr, hTu, hMe, hBo, hLi, hLs, b1, b2, b3, b4, b5, b6, b7⟩ := id hX
  obtain ⟨kR, hla⟩ := id hRt
  obtain ⟨⟨o1, o2, o3, o4, o5, o6, o7⟩, kf, bf, lc, lkf, ⟨hb, hk, hr, hc, ⟨gg, hg, hgi⟩, hrow⟩, hkb, hlk⟩ := id hLi
  obtain ⟨v6, vm, vn, w5, w6, w7, v7⟩ := id hMe
  refine C_of okX9_meet (by decide) (Nat.le_of_ble_eq_true rfl) ?_
  show P none mX9_meet 0 [.ref 0, zI x, zI v] [] _ _
  refine p_aload_n (i := 0) rfl rfl ?_
  refine p_getf (i := 1) rfl fX9_63 kR rfl ?_
  refine p_iload_n (i := 2) rfl rfl ?_
  refine p_cV1 (i := 3) rfl ⟨lX9_154, rfl, rfl⟩ hb ⟨_, rfl, rfl⟩ rfl (x_hasScene hLi hx (fun q => ?_) (fun q => ?_))
  · rw [if_neg (not_not_intro q)] at h
    refine p_if_ne (i := 4) 14 rfl (by decide) (by omega) (fun c8 => ?_) (fun c8 => by exfalso; omega)
    refine p_aload_n (i := 7) rfl rfl ?_
    refine p_getf (i := 8) rfl fX9_49 kR rfl ?_
    refine p_getf (i := 9) rfl fX9_151 w5 rfl ?_
    refine p_bipush (i := 10) rfl (by decide) ?_
    refine p_icmp_lt (i := 11) 29 rfl (by decide) (by omega) (by omega) (fun c23 => ?_) (fun c23 => ?_)
    · rw [if_neg (by omega)] at h
      refine p_aload_n (i := 14) rfl rfl ?_
      refine p_getf (i := 15) rfl fX9_49 kR rfl ?_
      refine p_iload_n (i := 16) rfl rfl ?_
      refine p_iload_n (i := 17) rfl rfl ?_
      refine p_cV2 (i := 18) rfl ⟨lX9_280, rfl, rfl⟩ w5 ⟨_, rfl, rfl⟩ rfl (x_metAdd hMe (by omega) (by omega) hv (fun M1 hMe1 fr1 => ?_))
      obtain ⟨v6', vm', vn', w5, w6, w7, v7'⟩ := id hMe1
      have kR := fr1.at kR (by omega)
      refine p_aload_n (i := 19) rfl rfl ?_
      refine p_getf (i := 20) rfl fX9_49 kR rfl ?_
      refine p_getf (i := 21) rfl fX9_151 w5 rfl ?_
      refine p_iret (i := 22) rfl rfl (rfl) ?_
      refine h M1 ⟨la, sa, (hRt.fi fr1 (by omega)), (hRd.fi fr1 (by omega)), (hHi.fi fr1 (by omega)), (hIr.fi fr1 (by omega)), (hI0.fi fr1 (by omega)), (hI1.fi fr1 (by omega)), (hPa.fi fr1 (by omega)), (hTr.fi fr1 (by omega)), (hTu.fi fr1 (by omega)), hMe1, (hBo.fi fr1 (by omega)), (hLi.fi fr1 (by omega)), (hLs.fi fr1 (by omega)), b1, b2, b3, ?_, b5, b6, b7⟩ (fr1.weak (by omega))
      intro i hi
      have hi : i < me.length + 1 := by simpa using hi
      rw [gd_app hi]
      split
      · exact q.2
      · exact b4 i (by omega)
    · rw [if_pos (by omega)] at h
      refine p_ldc (i := 12) rfl kX9_82 ?_
      refine p_iret (i := 13) rfl rfl (rfl) ?_
      exact h M hX FrI.rf
  · rw [if_pos q] at h
    refine p_if_ne (i := 4) 14 rfl (by decide) (by omega) (fun c8 => by exfalso; omega) (fun c8 => ?_)
    refine p_ldc (i := 5) rfl kX9_158 ?_
    refine p_iret (i := 6) rfl rfl (rfl) ?_
    exact h M hX FrI.rf
theorem x_couldBe {M : AM} {la sa : Nat} {fa sd : Int} {ln : LN} {g : GS} {me : List (Int × Int)} {Q : Option Value → AM → Prop} (hRt : XRt M la sa fa sd) (hP : PairB true M 216 (nS ln) (nW ln) g) (hL : LineA M la ln) (hMe : XMe M me) (h : Q (some (zI (cb ln g.1 me : Nat))) M) : C mX9_couldBe [.ref 0] M Q := by
  obtain ⟨kR, hla⟩ := id hRt
  obtain ⟨⟨o1, o2, o3, o4, o5, o6, o7⟩, kf, bf, lc, lkf, ⟨hb, hk, hr, hc, ⟨gg, hg, hgi⟩, hrow⟩, hkb, hlk⟩ := id hL
  obtain ⟨v6, vm, vn, w5, w6, w7, v7⟩ := id hMe
  have hok := hP.1.ls
  have loop : ∀ (f k s : Nat), k + f = nS ln → Q (some (zI ((fo (fun x s => if ftL me (tk ln g.1 (x : Int) 0 0) me.length 0 = 1 then s ||| 2 ^ x else s) f k s : Nat) : Int))) M → P none mX9_couldBe 4 [.ref 0, zI (s : Int), zI (k : Int)] []  M Q := by
    intro f
    induction f with
    | zero =>
      intro k s hk hq
      refine p_iload_n (i := 4) rfl rfl ?_
      refine p_aload_n (i := 5) rfl rfl ?_
      refine p_getf (i := 6) rfl fX9_63 kR rfl ?_
      refine p_getf (i := 7) rfl fX9_107 hb rfl ?_
      refine p_icmp_ge (i := 8) 42 rfl (by decide) (by omega) (by omega) (fun c12 => ?_) (fun c12 => by exfalso; omega)
      refine p_iload_n (i := 24) rfl rfl ?_
      refine p_iret (i := 25) rfl rfl (rfl) ?_
      exact hq
    | succ f ih =>
      intro k s hk hq
      have ht := tk_rng (ln := ln) (x := (k : Int)) (m := 0) (wi := 0) hok (Nat.le_refl _) (by omega)
      have h01 := ftL_01 me (tk ln g.1 (k : Int) 0 0) me.length 0
      have hq : Q (some (zI ((fo (fun x s => if ftL me (tk ln g.1 (x : Int) 0 0) me.length 0 = 1 then s ||| 2 ^ x else s) f (k + 1) (if ftL me (tk ln g.1 (k : Int) 0 0) me.length 0 = 1 then s ||| 2 ^ k else s) : Nat) : Int))) M := hq
      refine p_iload_n (i := 4) rfl rfl ?_
      refine p_aload_n (i := 5) rfl rfl ?_
      refine p_getf (i := 6) rfl fX9_63 kR rfl ?_
      refine p_getf (i := 7) rfl fX9_107 hb rfl ?_
      refine p_icmp_ge (i := 8) 42 rfl (by decide) (by omega) (by omega) (fun c12 => by exfalso; omega) (fun c12 => ?_)
      refine p_aload_n (i := 9) rfl rfl ?_
      refine p_getf (i := 10) rfl fX9_49 kR rfl ?_
      refine p_aload_n (i := 11) rfl rfl ?_
      refine p_iload_n (i := 12) rfl rfl ?_
      refine p_cV1 (i := 13) rfl ⟨lX9_190, rfl, rfl⟩ kR ⟨_, rfl, rfl⟩ rfl (x_takenNow hRt hP hL (by omega) ?_)
      refine p_cV1 (i := 14) rfl ⟨lX9_284, rfl, rfl⟩ w5 ⟨_, rfl, rfl⟩ rfl (x_fits hMe (by omega) ?_)
      refine p_if_eq (i := 15) 36 rfl (by decide) (by omega) (fun c27 => ?_) (fun c27 => ?_)
      · rw [if_neg (by omega)] at hq
        refine p_iinc (i := 22) rfl rfl rfl ?_
        refine p_goto (i := 23) 4 rfl (by decide) ?_
        exact ih (k + 1) s (by omega) hq
      · rw [if_pos (by omega)] at hq
        refine p_iload_n (i := 16) rfl rfl ?_
        refine p_iconst (i := 17) rfl ?_
        refine p_iload_n (i := 18) rfl rfl ?_
        refine p_ishl1 (i := 19) rfl (by omega) ?_
        refine p_iorN (i := 20) rfl ?_
        refine p_istore_n (i := 21) rfl rfl ?_
        refine p_iinc (i := 22) rfl rfl rfl ?_
        refine p_goto (i := 23) 4 rfl (by decide) ?_
        exact ih (k + 1) _ (by omega) hq
  refine C_of okX9_couldBe (by decide) (Nat.le_of_ble_eq_true rfl) ?_
  show P none mX9_couldBe 0 [.ref 0, .retAddr 0, .retAddr 0] [] _ _
  refine p_iconst (i := 0) rfl ?_
  refine p_istore_n (i := 1) rfl rfl ?_
  refine p_iconst (i := 2) rfl ?_
  refine p_istore_n (i := 3) rfl rfl ?_
  exact loop (nS ln) 0 0 (by omega) h
theorem X_couldBe {M : AM} {tx : List Int} {fa : Int} {ln : LN} {g : GS} {un : List GS} {i0 i1 : Option (GS × Int)} {sd : Int} {me bo : List (Int × Int)} {Q : Option Value → AM → Prop} (hX : XW M (tx, fa, ln, g, un, i0, i1, sd, me, bo)) (h : ∀ M', XW M' (tx, fa, ln, g, un, i0, i1, sd, me, bo) → FrI 0 276 M M' → Q (some (zI (a_couldBe (tx, fa, ln, g, un, i0, i1, sd, me, bo)))) M') : C mX9_couldBe [.ref 0] M Q := by
  obtain ⟨la, sa, hRt, hRd, hHi, hIr, hI0, hI1, hPa, hTr, hTu, hMe, hBo, hLi, hLs, b1, b2, b3, b4, b5, b6, b7⟩ := id hX
  obtain ⟨kR, hla⟩ := id hRt
  exact x_couldBe hRt hPa hLi hMe (h M hX FrI.rf)
theorem bits_lt {p : Nat → Bool} : ∀ (f k s : Nat), k + f ≤ 8 → s < 256 → fo (fun x s => if p x = true then s ||| 2 ^ x else s) f k s < 256 := by
  intro f k s hk hs
  have h := fo_inv (step := fun x s => if p x = true then s ||| 2 ^ x else s) (fun _ s => s < 2 ^ 8) f k s hs (fun j t h1 h2 ht => by
    split
    · exact or_lt ht (Nat.pow_lt_pow_right (by decide) (by omega))
    · exact ht)
  exact h
theorem cb_lt {ln : LN} {Ls : List LY} {me : List (Int × Int)} (h : nS ln ≤ 8) : cb ln Ls me < 256 := by
  have := bits_lt (p := fun x => decide (ftL me (tk ln Ls (x : Int) 0 0) me.length 0 = 1)) (nS ln) 0 0 (by omega) (by decide)
  unfold cb
  simpa using this
theorem X_ask {M : AM} {tx : List Int} {fa : Int} {ln : LN} {g : GS} {un : List GS} {i0 i1 : Option (GS × Int)} {sd : Int} {me bo : List (Int × Int)} {Q : Option Value → AM → Prop} (hX : XW M (tx, fa, ln, g, un, i0, i1, sd, me, bo)) (h : ∀ M', XW M' (tx, fa, ln, g, un, i0, i1, sd, me, bo) → FrI 0 276 M M' → Q (some (zI (a_ask (tx, fa, ln, g, un, i0, i1, sd, me, bo)))) M') : C mX9_ask [.ref 0] M Q := by
  have h := h M hX FrI.rf
  dsimp only [a_ask] at h
  obtain ⟨la, sa, hRt, hRd, hHi, hIr, hI0, hI1, hPa, hTr, hTu, hMe, hBo, hLi, hLs, b1, b2, b3, b4, b5, b6, b7⟩ := id hX
  obtain ⟨kR, hla⟩ := id hRt
  obtain ⟨⟨o1, o2, o3, o4, o5, o6, o7⟩, kf, bf, lc, lkf, ⟨hb, hk, hr, hc, ⟨gg, hg, hgi⟩, hrow⟩, hkb, hlk⟩ := id hLi
  have hcb := cb_lt (Ls := g.1) (me := me) o3
  obtain ⟨set, hset⟩ : ∃ s, s = cb ln g.1 me := ⟨_, rfl⟩
  rw [← hset] at h hcb
  have hpa := popc_le set
  have loop : ∀ (f k : Nat) (s : Int × Int) (x1 x2 : Value), k + f = nS ln → 0 ≤ s.2 ∧ s.2 ≤ 10 → Q (some (zI (fo (askStep ln g.1 set) f k s).1)) M → P none mX9_ask 18 [.ref 0, zI (set : Int), zI (popc set : Nat), zI s.1, zI s.2, zI (k : Int), x1, x2] []  M Q := by
    intro f
    induction f with
    | zero =>
      intro k s x1 x2 hk hs hq
      refine p_iload (i := 12) rfl rfl ?_
      refine p_aload_n (i := 13) rfl rfl ?_
      refine p_getf (i := 14) rfl fX9_63 kR rfl ?_
      refine p_getf (i := 15) rfl fX9_107 hb rfl ?_
      refine p_icmp_ge (i := 16) 74 rfl (by decide) (by omega) (by omega) (fun c27 => ?_) (fun c27 => by exfalso; omega)
      refine p_iload_n (i := 39) rfl rfl ?_
      refine p_iret (i := 40) rfl rfl (rfl) ?_
      exact hq
    | succ f ih =>
      intro k s x1 x2 hk hs hq
      have hq : Q (some (zI (fo (askStep ln g.1 set) f (k + 1) (askStep ln g.1 set k s)).1)) M := hq
      unfold askStep at hq
      have hpb := popc_le (set &&& stf ln g.1 (k : Int))
      refine p_iload (i := 12) rfl rfl ?_
      refine p_aload_n (i := 13) rfl rfl ?_
      refine p_getf (i := 14) rfl fX9_63 kR rfl ?_
      refine p_getf (i := 15) rfl fX9_107 hb rfl ?_
      refine p_icmp_ge (i := 16) 74 rfl (by decide) (by omega) (by omega) (fun c27 => by exfalso; omega) (fun c27 => ?_)
      refine p_iload_n (i := 17) rfl rfl ?_
      refine p_aload_n (i := 18) rfl rfl ?_
      refine p_iload (i := 19) rfl rfl ?_
      refine p_cV1 (i := 20) rfl ⟨lX9_169, rfl, rfl⟩ kR ⟨_, rfl, rfl⟩ rfl (x_scenesTakenFor hRt hPa hLi (by omega) ?_)
      refine p_iandN (i := 21) rfl ?_
      refine p_cS1 (i := 22) rfl ⟨lX9_251, rfl, rfl⟩ rfl (x_bitCount (Nat.lt_of_le_of_lt Nat.and_le_left (by omega)) ?_)
      refine p_istore (i := 23) rfl rfl ?_
      refine p_iload (i := 24) rfl rfl ?_
      refine p_iload_n (i := 25) rfl rfl ?_
      refine p_iload (i := 26) rfl rfl ?_
      refine p_isub (i := 27) rfl ?_
      refine p_max (i := 28) rfl lX9_290 ⟨rfl, rfl⟩ (by omega) (by omega) ?_
      refine p_istore (i := 29) rfl rfl ?_
      refine p_iload (i := 30) rfl rfl ?_
      refine p_iload (i := 31) rfl rfl ?_
      refine p_icmp_ge (i := 32) 68 rfl (by decide) (by omega) (by omega) (fun c58 => ?_) (fun c58 => ?_)
      · rw [if_neg (by omega)] at hq
        refine p_iinc (i := 37) rfl rfl rfl ?_
        refine p_goto (i := 38) 18 rfl (by decide) ?_
        exact ih (k + 1) s _ _ (by omega) hs hq
      · rw [if_pos (by omega)] at hq
        refine p_iload (i := 33) rfl rfl ?_
        refine p_istore (i := 34) rfl rfl ?_
        refine p_iload (i := 35) rfl rfl ?_
        refine p_istore_n (i := 36) rfl rfl ?_
        refine p_iinc (i := 37) rfl rfl rfl ?_
        refine p_goto (i := 38) 18 rfl (by decide) ?_
        exact ih (k + 1) _ _ _ (by omega) (by show 0 ≤ max _ _ ∧ max _ _ ≤ (10 : Int); omega) hq
  refine C_of okX9_ask (by decide) (Nat.le_of_ble_eq_true rfl) ?_
  show P none mX9_ask 0 [.ref 0, .retAddr 0, .retAddr 0, .retAddr 0, .retAddr 0, .retAddr 0, .retAddr 0, .retAddr 0] [] _ _
  refine p_aload_n (i := 0) rfl rfl ?_
  refine p_cV0 (i := 1) rfl ⟨lX9_287, rfl, rfl⟩ kR ⟨_, rfl, rfl⟩ rfl (x_couldBe hRt hPa hLi hMe ?_)
  rw [← hset]
  refine p_istore_n (i := 2) rfl rfl ?_
  refine p_iload_n (i := 3) rfl rfl ?_
  refine p_cS1 (i := 4) rfl ⟨lX9_251, rfl, rfl⟩ rfl (x_bitCount (by omega) ?_)
  refine p_istore_n (i := 5) rfl rfl ?_
  refine p_iconst (i := 6) rfl ?_
  refine p_istore_n (i := 7) rfl rfl ?_
  refine p_iload_n (i := 8) rfl rfl ?_
  refine p_istore (i := 9) rfl rfl ?_
  refine p_iconst (i := 10) rfl ?_
  refine p_istore (i := 11) rfl rfl ?_
  exact loop (nS ln) 0 (-1, (popc set : Nat)) _ _ (by omega) (by show (0 : Int) ≤ (popc set : Nat) ∧ ((popc set : Nat) : Int) ≤ 10; omega) h
theorem X_write {M : AM} {tx : List Int} {fa : Int} {ln : LN} {g : GS} {un : List GS} {i0 i1 : Option (GS × Int)} {sd : Int} {me bo : List (Int × Int)} {x y : Int} {Q : Option Value → AM → Prop} (hX : XW M (tx, fa, ln, g, un, i0, i1, sd, me, bo)) (hx : -2147483648 ≤ x ∧ x ≤ 2147483647) (hy : -2147483648 ≤ y ∧ y ≤ 2147483647) (h : ∀ M', XW M' (a_write (tx, fa, ln, g, un, i0, i1, sd, me, bo) x y).2 → FrI 0 276 M M' → Q (some (zI (a_write (tx, fa, ln, g, un, i0, i1, sd, me, bo) x y).1)) M') : C mX9_write [.ref 0, zI x, zI y] M Q := by
  dsimp only [a_write] at h
  obtain ⟨la, sa, hRt, hRd, hHi, hIr, hI0, hI1, hPa, hTr, hTu, hMe, hBo, hLi, hLs, b1, b2, b3, b4, b5, b6, b7⟩ := id hX
  obtain ⟨kR, hla⟩ := id hRt
  obtain ⟨⟨o1, o2, o3, o4, o5, o6, o7⟩, kf, bf, lc, lkf, ⟨hb, hk, hr, hc, ⟨gg, hg, hgi⟩, hrow⟩, hkb, hlk⟩ := id hLi
  obtain ⟨v8, vbm, vbn, w8, w9, w10, v9⟩ := id hBo
  refine C_of okX9_write (by decide) (Nat.le_of_ble_eq_true rfl) ?_
  show P none mX9_write 0 [.ref 0, zI x, zI y] [] _ _
  refine p_aload_n (i := 0) rfl rfl ?_
  refine p_getf (i := 1) rfl fX9_63 kR rfl ?_
  refine p_iload_n (i := 2) rfl rfl ?_
  refine p_cV1 (i := 3) rfl ⟨lX9_154, rfl, rfl⟩ hb ⟨_, rfl, rfl⟩ rfl (x_hasScene hLi hx (fun q => ?_) (fun q => ?_))
  · refine p_if_eq (i := 4) 22 rfl (by decide) (by omega) (fun c8 => by exfalso; omega) (fun c8 => ?_)
    refine p_aload_n (i := 5) rfl rfl ?_
    refine p_getf (i := 6) rfl fX9_63 kR rfl ?_
    refine p_iload_n (i := 7) rfl rfl ?_
    refine p_cV1 (i := 8) rfl ⟨lX9_154, rfl, rfl⟩ hb ⟨_, rfl, rfl⟩ rfl (x_hasScene hLi hy (fun q' => ?_) (fun q' => ?_))
    · rw [if_neg (by omega)] at h
      refine p_if_ne (i := 9) 25 rfl (by decide) (by omega) (fun c19 => ?_) (fun c19 => by exfalso; omega)
      refine p_aload_n (i := 12) rfl rfl ?_
      refine p_getf (i := 13) rfl fX9_56 kR rfl ?_
      refine p_getf (i := 14) rfl fX9_152 w8 rfl ?_
      refine p_bipush (i := 15) rfl (by decide) ?_
      refine p_icmp_lt (i := 16) 40 rfl (by decide) (by omega) (by omega) (fun c34 => ?_) (fun c34 => ?_)
      · rw [if_neg (by omega)] at h
        refine p_aload_n (i := 19) rfl rfl ?_
        refine p_getf (i := 20) rfl fX9_56 kR rfl ?_
        refine p_iload_n (i := 21) rfl rfl ?_
        refine p_iload_n (i := 22) rfl rfl ?_
        refine p_cV2 (i := 23) rfl ⟨lX9_295, rfl, rfl⟩ w8 ⟨_, rfl, rfl⟩ rfl (x_bookAdd hBo (by omega) (by omega) (by omega) (fun M1 hBo1 fr1 => ?_))
        obtain ⟨v8', vm', vn', w8, w9, w10, v9'⟩ := id hBo1
        have kR := fr1.at kR (by omega)
        refine p_aload_n (i := 24) rfl rfl ?_
        refine p_getf (i := 25) rfl fX9_56 kR rfl ?_
        refine p_getf (i := 26) rfl fX9_152 w8 rfl ?_
        refine p_iret (i := 27) rfl rfl (rfl) ?_
        refine h M1 ⟨la, sa, (hRt.fi fr1 (by omega)), (hRd.fi fr1 (by omega)), (hHi.fi fr1 (by omega)), (hIr.fi fr1 (by omega)), (hI0.fi fr1 (by omega)), (hI1.fi fr1 (by omega)), (hPa.fi fr1 (by omega)), (hTr.fi fr1 (by omega)), (hTu.fi fr1 (by omega)), (hMe.fi fr1 (by omega)), hBo1, (hLi.fi fr1 (by omega)), (hLs.fi fr1 (by omega)), b1, b2, b3, b4, ?_, b6, b7⟩ (fr1.weak (by omega))
        intro i hi
        have hi : i < bo.length + 1 := by simpa using hi
        rw [gd_app hi]
        split
        · exact ⟨q.2, q'.2⟩
        · exact b5 i (by omega)
      · rw [if_pos (by omega)] at h
        refine p_ldc (i := 17) rfl kX9_82 ?_
        refine p_iret (i := 18) rfl rfl (rfl) ?_
        exact h M hX FrI.rf
    · rw [if_pos (by omega)] at h
      refine p_if_ne (i := 9) 25 rfl (by decide) (by omega) (fun c19 => by exfalso; omega) (fun c19 => ?_)
      refine p_ldc (i := 10) rfl kX9_158 ?_
      refine p_iret (i := 11) rfl rfl (rfl) ?_
      exact h M hX FrI.rf
  · rw [if_pos (by omega)] at h
    refine p_if_eq (i := 4) 22 rfl (by decide) (by omega) (fun c8 => ?_) (fun c8 => by exfalso; omega)
    refine p_ldc (i := 10) rfl kX9_158 ?_
    refine p_iret (i := 11) rfl rfl (rfl) ?_
    exact h M hX FrI.rf
theorem X_judge {M : AM} {tx : List Int} {fa : Int} {ln : LN} {g : GS} {un : List GS} {i0 i1 : Option (GS × Int)} {sd : Int} {me bo : List (Int × Int)} {Q : Option Value → AM → Prop} (hX : XW M (tx, fa, ln, g, un, i0, i1, sd, me, bo)) (h : ∀ M', XW M' (tx, fa, ln, g, un, i0, i1, sd, me, bo) → FrI 0 276 M M' → Q (some (zI (a_judge (tx, fa, ln, g, un, i0, i1, sd, me, bo)))) M') : C mX9_judge [.ref 0] M Q := by
  have h := h M hX FrI.rf
  dsimp only [a_judge] at h
  obtain ⟨la, sa, hRt, hRd, hHi, hIr, hI0, hI1, hPa, hTr, hTu, hMe, hBo, hLi, hLs, b1, b2, b3, b4, b5, b6, b7⟩ := id hX
  obtain ⟨kR, hla⟩ := id hRt
  obtain ⟨v8, vbm, vbn, w8, w9, w10, v9⟩ := id hBo
  have hok := hPa.1.ls
  have hn8 := hPa.1.2.2.2.2.2.2.2.2.2.1
  have loop : ∀ (f k : Nat), k + f = bo.length → Q (some (zI (fi (fun i => decide (tk ln g.1 (bo.getD i (0, 0)).1 0 0 ≠ (bo.getD i (0, 0)).2)) f k))) M → P none mX9_judge 2 [.ref 0, zI (k : Int)] []  M Q := by
    intro f
    induction f with
    | zero =>
      intro k hk hq
      refine p_iload_n (i := 2) rfl rfl ?_
      refine p_aload_n (i := 3) rfl rfl ?_
      refine p_getf (i := 4) rfl fX9_56 kR rfl ?_
      refine p_getf (i := 5) rfl fX9_152 w8 rfl ?_
      refine p_icmp_ge (i := 6) 52 rfl (by decide) (by omega) (by omega) (fun c10 => ?_) (fun c10 => by exfalso; omega)
      refine p_iconst (i := 27) rfl ?_
      refine p_iret (i := 28) rfl rfl (rfl) ?_
      exact hq
    | succ f ih =>
      intro k hk hq
      obtain ⟨e1, e2, e3, e4, e5, e6⟩ := v9 k (by omega)
      have e7 := b5 k (by omega)
      have ht := tk_rng (ln := ln) (x := (bo.getD k (0, 0)).1) (m := 0) (wi := 0) hok (Nat.le_refl _) (by omega)
      unfold fi at hq
      refine p_iload_n (i := 2) rfl rfl ?_
      refine p_aload_n (i := 3) rfl rfl ?_
      refine p_getf (i := 4) rfl fX9_56 kR rfl ?_
      refine p_getf (i := 5) rfl fX9_152 w8 rfl ?_
      refine p_icmp_ge (i := 6) 52 rfl (by decide) (by omega) (by omega) (fun c10 => by exfalso; omega) (fun c10 => ?_)
      refine p_iload_n (i := 7) rfl rfl ?_
      refine p_bipush (i := 8) rfl (by decide) ?_
      refine p_icmp_ge (i := 9) 52 rfl (by decide) (by omega) (by omega) (fun c16 => by exfalso; omega) (fun c16 => ?_)
      refine p_aload_n (i := 10) rfl rfl ?_
      refine p_aload_n (i := 11) rfl rfl ?_
      refine p_getf (i := 12) rfl fX9_56 kR rfl ?_
      refine p_getf (i := 13) rfl fX9_298 w8 rfl ?_
      refine p_iload_n (i := 14) rfl rfl ?_
      refine p_iaX (i := 15) _ rfl w9 rfl (by omega) (by decide) ?_
      rw [e1]
      refine p_cV1 (i := 16) rfl ⟨lX9_190, rfl, rfl⟩ kR ⟨_, rfl, rfl⟩ rfl (x_takenNow hRt hPa hLi (by omega) ?_)
      refine p_aload_n (i := 17) rfl rfl ?_
      refine p_getf (i := 18) rfl fX9_56 kR rfl ?_
      refine p_getf (i := 19) rfl fX9_300 w8 rfl ?_
      refine p_iload_n (i := 20) rfl rfl ?_
      refine p_iaX (i := 21) _ rfl w10 rfl (by omega) (by decide) ?_
      rw [e2]
      refine p_icmp_eq (i := 22) 46 rfl (by decide) (by omega) (by omega) (fun c41 => ?_) (fun c41 => ?_)
      · rw [if_neg (by rw [decide_eq_true_eq]; omega)] at hq
        refine p_iinc (i := 25) rfl rfl rfl ?_
        refine p_goto (i := 26) 2 rfl (by decide) ?_
        exact ih (k + 1) (by omega) hq
      · rw [if_pos (by rw [decide_eq_true_eq]; omega)] at hq
        refine p_iload_n (i := 23) rfl rfl ?_
        refine p_iret (i := 24) rfl rfl (rfl) ?_
        exact hq
  refine C_of okX9_judge (by decide) (Nat.le_of_ble_eq_true rfl) ?_
  show P none mX9_judge 0 [.ref 0, .retAddr 0] [] _ _
  refine p_iconst (i := 0) rfl ?_
  refine p_istore_n (i := 1) rfl rfl ?_
  exact loop bo.length 0 (by omega) h
theorem X_tear {M : AM} {tx : List Int} {fa : Int} {ln : LN} {g : GS} {un : List GS} {i0 i1 : Option (GS × Int)} {sd : Int} {me bo : List (Int × Int)} {Q : Option Value → AM → Prop} (hX : XW M (tx, fa, ln, g, un, i0, i1, sd, me, bo)) (h : ∀ M', XW M' (a_tear (tx, fa, ln, g, un, i0, i1, sd, me, bo)).2 → FrI 0 276 M M' → Q (some (zI (a_tear (tx, fa, ln, g, un, i0, i1, sd, me, bo)).1)) M') : C mX9_tear [.ref 0] M Q := by
  dsimp only [a_tear] at h
  obtain ⟨la, sa, hRt, hRd, hHi, hIr, hI0, hI1, hPa, hTr, hTu, hMe, hBo, hLi, hLs, b1, b2, b3, b4, b5, b6, b7⟩ := id hX
  obtain ⟨kR, hla⟩ := id hRt
  obtain ⟨v6, vm, vn, w5, w6, w7, v7⟩ := id hMe
  obtain ⟨v8, vbm, vbn, w8, w9, w10, v9⟩ := id hBo
  refine C_of okX9_tear (by decide) (Nat.le_of_ble_eq_true rfl) ?_
  show P none mX9_tear 0 [.ref 0, .retAddr 0] [] _ _
  refine p_aload_n (i := 0) rfl rfl ?_
  refine p_getf (i := 1) rfl fX9_49 kR rfl ?_
  refine p_getf (i := 2) rfl fX9_151 w5 rfl ?_
  refine p_aload_n (i := 3) rfl rfl ?_
  refine p_getf (i := 4) rfl fX9_56 kR rfl ?_
  refine p_getf (i := 5) rfl fX9_152 w8 rfl ?_
  refine p_iadd (i := 6) rfl ?_
  refine p_istore_n (i := 7) rfl rfl ?_
  refine p_aload_n (i := 8) rfl rfl ?_
  refine p_getf (i := 9) rfl fX9_49 kR rfl ?_
  refine p_cV0 (i := 10) rfl ⟨lX9_105, rfl, rfl⟩ w5 ⟨_, rfl, rfl⟩ rfl (x_metForget hMe (fun M1 hMe1 fr1 => ?_))
  have hBo1 := hBo.fi fr1 (by omega)
  have kR := fr1.at kR (by omega)
  have w8 := fr1.at w8 (by omega)
  refine p_aload_n (i := 11) rfl rfl ?_
  refine p_getf (i := 12) rfl fX9_56 kR rfl ?_
  refine p_cV0 (i := 13) rfl ⟨lX9_106, rfl, rfl⟩ w8 ⟨_, rfl, rfl⟩ rfl (x_bookForget hBo1 (fun M2 hBo2 fr2 => ?_))
  refine p_iload_n (i := 14) rfl rfl ?_
  refine p_iret (i := 15) rfl rfl (rfl) ?_
  exact h M2 ⟨la, sa, ((hRt.fi fr1 (by omega)).fi fr2 (by omega)), ((hRd.fi fr1 (by omega)).fi fr2 (by omega)), ((hHi.fi fr1 (by omega)).fi fr2 (by omega)), ((hIr.fi fr1 (by omega)).fi fr2 (by omega)), ((hI0.fi fr1 (by omega)).fi fr2 (by omega)), ((hI1.fi fr1 (by omega)).fi fr2 (by omega)), ((hPa.fi fr1 (by omega)).fi fr2 (by omega)), ((hTr.fi fr1 (by omega)).fi fr2 (by omega)), ((hTu.fi fr1 (by omega)).fi fr2 (by omega)), hMe1.fi fr2 (by omega), hBo2, ((hLi.fi fr1 (by omega)).fi fr2 (by omega)), ((hLs.fi fr1 (by omega)).fi fr2 (by omega)), b1, b2, b3, fun i hi => absurd hi (Nat.not_lt_zero i), fun i hi => absurd hi (Nat.not_lt_zero i), b6, b7⟩ ((fr1.weak (by omega)).tr (fr2.weak (by omega)))
theorem X_seed {M : AM} {tx : List Int} {fa : Int} {ln : LN} {g : GS} {un : List GS} {i0 i1 : Option (GS × Int)} {sd : Int} {me bo : List (Int × Int)} {v : Int} {Q : Option Value → AM → Prop} (hX : XW M (tx, fa, ln, g, un, i0, i1, sd, me, bo)) (hv : -2147483648 ≤ v ∧ v ≤ 2147483647) (h : ∀ M', XW M' (a_seed (tx, fa, ln, g, un, i0, i1, sd, me, bo) v).2 → FrI 0 276 M M' → Q (some (zI (a_seed (tx, fa, ln, g, un, i0, i1, sd, me, bo) v).1)) M') : C mX9_seed [.ref 0, zI v] M Q := by
  dsimp only [a_seed] at h
  obtain ⟨la, sa, hRt, hRd, hHi, hIr, hI0, hI1, hPa, hTr, hTu, hMe, hBo, hLi, hLs, b1, b2, b3, b4, b5, b6, b7⟩ := id hX
  obtain ⟨kR, hla⟩ := id hRt
  have fr : FrI 0 1 M M := FrI.rf
  refine C_of okX9_seed (by decide) (Nat.le_of_ble_eq_true rfl) ?_
  show P none mX9_seed 0 [.ref 0, zI v, .retAddr 0] [] _ _
  refine p_iload_n (i := 0) rfl rfl ?_
  refine p_if_ge (i := 1) 7 rfl (by decide) (by omega) (fun c1 => ?_) (fun c1 => ?_)
  · rw [if_neg (by omega)] at h
    refine p_aload_n (i := 4) rfl rfl ?_
    refine p_getf (i := 5) rfl fX9_74 kR rfl ?_
    refine p_istore_n (i := 6) rfl rfl ?_
    refine p_aload_n (i := 7) rfl rfl ?_
    refine p_iload_n (i := 8) rfl rfl ?_
    refine p_puti (i := 9) rfl gX9_74 kR rfl (P_gen fun M e => ?_)
    have fr := fr.up e (by omega)
    have kR := aupE e
    refine p_iload_n (i := 10) rfl rfl ?_
    refine p_iret (i := 11) rfl rfl (rfl) ?_
    exact h M ⟨la, sa, ⟨kR, hla⟩, (hRd.fi fr (by omega)), (hHi.fi fr (by omega)), (hIr.fi fr (by omega)), (hI0.fi fr (by omega)), (hI1.fi fr (by omega)), (hPa.fi fr (by omega)), (hTr.fi fr (by omega)), (hTu.fi fr (by omega)), (hMe.fi fr (by omega)), (hBo.fi fr (by omega)), (hLi.fi fr (by omega)), (hLs.fi fr (by omega)), b1, by omega, by omega, b4, b5, b6, b7⟩ (fr.weak (by omega))
  · rw [if_pos (by omega)] at h
    refine p_ldc (i := 2) rfl kX9_78 ?_
    refine p_iret (i := 3) rfl rfl (rfl) ?_
    exact h M hX FrI.rf
theorem X_keep {M : AM} {tx : List Int} {fa : Int} {ln : LN} {g : GS} {un : List GS} {i0 i1 : Option (GS × Int)} {sd : Int} {me bo : List (Int × Int)} {i : Int} {Q : Option Value → AM → Prop} (hX : XW M (tx, fa, ln, g, un, i0, i1, sd, me, bo)) (hi : -2147483648 ≤ i ∧ i ≤ 2147483647) (h : ∀ M', XW M' (a_keep (tx, fa, ln, g, un, i0, i1, sd, me, bo) i).2 → FrI 0 276 M M' → Q (some (zI (a_keep (tx, fa, ln, g, un, i0, i1, sd, me, bo) i).1)) M') : C mX9_keep [.ref 0, zI i] M Q := by
  dsimp only [a_keep] at h
  obtain ⟨la, sa, hRt, hRd, hHi, hIr, hI0, hI1, hPa, hTr, hTu, hMe, hBo, hLi, hLs, b1, b2, b3, b4, b5, b6, b7⟩ := id hX
  obtain ⟨kR, hla⟩ := id hRt
  refine C_of okX9_keep (by decide) (Nat.le_of_ble_eq_true rfl) ?_
  show P none mX9_keep 0 [.ref 0, zI i] [] _ _
  refine p_iload_n (i := 0) rfl rfl ?_
  refine p_if_lt (i := 1) 9 rfl (by decide) (by omega) (fun c1 => ?_) (fun c1 => ?_)
  · rw [if_pos (by omega)] at h
    refine p_ldc (i := 5) rfl kX9_158 ?_
    refine p_iret (i := 6) rfl rfl (rfl) ?_
    exact h M hX FrI.rf
  · refine p_iload_n (i := 2) rfl rfl ?_
    refine p_iconst (i := 3) rfl ?_
    refine p_icmp_lt (i := 4) 12 rfl (by decide) (by omega) (by omega) (fun c6 => ?_) (fun c6 => ?_)
    · rw [if_neg (by omega)] at h
      rcases (show i = 0 ∨ i = 1 by omega) with rfl | rfl
      · rw [if_pos rfl] at h
        obtain ⟨gi, kI, gi0, gi1⟩ := id hIr
        obtain ⟨hIp, s0, k0, kB, hIm⟩ := id hI0
        obtain ⟨sc0, wh0, st0, hs0, lr0, lf0, lz0, n0, w0, y0, ⟨kp, kS, kW, kT, kH, kG, kQ⟩, r1, r2, r3, r4⟩ := id hIp
        obtain ⟨v4, vg, vs, w3, w4, v5⟩ := id hHi
        obtain ⟨kR, hla⟩ := id hRt
        refine p_aload_n (i := 7) rfl rfl ?_
        refine p_getf (i := 8) rfl fX9_25 kR rfl ?_
        refine p_iload_n (i := 9) rfl rfl ?_
        refine p_aaX (i := 10) (0) rfl kI (by omega) (by omega) (by omega) (by decide) gi0 ?_
        refine p_getf (i := 11) rfl fX9_303 kB rfl ?_
        refine p_aload_n (i := 12) rfl rfl ?_
        refine p_getf (i := 13) rfl fX9_32 kR rfl ?_
        refine p_cV1 (i := 14) rfl ⟨lX9_304, rfl, rfl⟩ kp ⟨_, rfl, rfl⟩ rfl (x_copyAll hIp hPa (by omega) (fun M1 hP1 fr1 => ?_))
        have kR := fr1.at kR (by omega)
        have kI := fr1.at kI (by omega)
        have kB := fr1.at kB (by omega)
        have w3 := fr1.at w3 (by omega)
        have fr2 : FrI 260 1 M1 M1 := FrI.rf
        refine p_aload_n (i := 15) rfl rfl ?_
        refine p_getf (i := 16) rfl fX9_25 kR rfl ?_
        refine p_iload_n (i := 17) rfl rfl ?_
        refine p_aaX (i := 18) (0) rfl kI (by omega) (by omega) (by omega) (by decide) gi0 ?_
        refine p_aload_n (i := 19) rfl rfl ?_
        refine p_getf (i := 20) rfl fX9_74 kR rfl ?_
        refine p_puti (i := 21) rfl gX9_307 kB rfl (P_gen fun M e => ?_)
        have kR := aupN e kR (by omega)
        have kI := aupN e kI (by omega)
        have w3 := aupN e w3 (by omega)
        have fr2 := fr2.up e (by omega)
        have kB := aupE e
        refine p_aload_n (i := 22) rfl rfl ?_
        refine p_getf (i := 23) rfl fX9_25 kR rfl ?_
        refine p_iload_n (i := 24) rfl rfl ?_
        refine p_aaX (i := 25) (0) rfl kI (by omega) (by omega) (by omega) (by decide) gi0 ?_
        refine p_iconst (i := 26) rfl ?_
        refine p_putz (i := 27) rfl gX9_101 kB (by omega) rfl (P_gen fun M e => ?_)
        have kR := aupN e kR (by omega)
        have kI := aupN e kI (by omega)
        have w3 := aupN e w3 (by omega)
        have fr2 := fr2.up e (by omega)
        have kB := aupE e
        refine p_aload_n (i := 28) rfl rfl ?_
        refine p_getf (i := 29) rfl fX9_19 kR rfl ?_
        have hHi1 := (hHi.fi fr1 (by omega)).fi fr2 (by omega)
        refine p_cV0 (i := 30) rfl ⟨lX9_98, rfl, rfl⟩ w3 ⟨_, rfl, rfl⟩ rfl (x_histForget (ns' := nS ln) (nw' := nW ln) hHi1 (fun M3 hHi3 fr3 => ?_))
        refine p_iconst (i := 31) rfl ?_
        refine p_iret (i := 32) rfl rfl (rfl) ?_
        have fr : FrI 0 276 M1 M3 := (fr2.weak (by omega)).tr (fr3.weak (by omega))
        refine h M3 ⟨la, sa, (((hRt.fi fr1 (by omega)).fi fr2 (by omega)).fi fr3 (by omega)), (((hRd.fi fr1 (by omega)).fi fr2 (by omega)).fi fr3 (by omega)), hHi3, (((hIr.fi fr1 (by omega)).fi fr2 (by omega)).fi fr3 (by omega)), ?_, (((hI1.fi fr1 (by omega)).fi fr2 (by omega)).fi fr3 (by omega)), (((hPa.fi fr1 (by omega)).fi fr2 (by omega)).fi fr3 (by omega)), (((hTr.fi fr1 (by omega)).fi fr2 (by omega)).fi fr3 (by omega)), (((hTu.fi fr1 (by omega)).fi fr2 (by omega)).fi fr3 (by omega)), (((hMe.fi fr1 (by omega)).fi fr2 (by omega)).fi fr3 (by omega)), (((hBo.fi fr1 (by omega)).fi fr2 (by omega)).fi fr3 (by omega)), (((hLi.fi fr1 (by omega)).fi fr2 (by omega)).fi fr3 (by omega)), (((hLs.fi fr1 (by omega)).fi fr2 (by omega)).fi fr3 (by omega)), b1, b2, b3, b4, b5, b6, b7⟩ ((fr1.weak (by omega)).tr fr)
        exact ⟨((hP1.fi fr2 (by omega)).fi fr3 (by omega)).r, sd, 1, fr3.at kB (by omega), rfl, rfl, b2, b3, (hP1.fi fr2 (by omega)).fi fr3 (by omega), b1⟩
      · rw [if_neg (by decide)] at h
        obtain ⟨gi, kI, gi0, gi1⟩ := id hIr
        obtain ⟨hIp, s0, k0, kB, hIm⟩ := id hI1
        obtain ⟨sc0, wh0, st0, hs0, lr0, lf0, lz0, n0, w0, y0, ⟨kp, kS, kW, kT, kH, kG, kQ⟩, r1, r2, r3, r4⟩ := id hIp
        obtain ⟨v4, vg, vs, w3, w4, v5⟩ := id hHi
        obtain ⟨kR, hla⟩ := id hRt
        refine p_aload_n (i := 7) rfl rfl ?_
        refine p_getf (i := 8) rfl fX9_25 kR rfl ?_
        refine p_iload_n (i := 9) rfl rfl ?_
        refine p_aaX (i := 10) (1) rfl kI (by omega) (by omega) (by omega) (by decide) gi1 ?_
        refine p_getf (i := 11) rfl fX9_303 kB rfl ?_
        refine p_aload_n (i := 12) rfl rfl ?_
        refine p_getf (i := 13) rfl fX9_32 kR rfl ?_
        refine p_cV1 (i := 14) rfl ⟨lX9_304, rfl, rfl⟩ kp ⟨_, rfl, rfl⟩ rfl (x_copyAll hIp hPa (by omega) (fun M1 hP1 fr1 => ?_))
        have kR := fr1.at kR (by omega)
        have kI := fr1.at kI (by omega)
        have kB := fr1.at kB (by omega)
        have w3 := fr1.at w3 (by omega)
        have fr2 : FrI 268 1 M1 M1 := FrI.rf
        refine p_aload_n (i := 15) rfl rfl ?_
        refine p_getf (i := 16) rfl fX9_25 kR rfl ?_
        refine p_iload_n (i := 17) rfl rfl ?_
        refine p_aaX (i := 18) (1) rfl kI (by omega) (by omega) (by omega) (by decide) gi1 ?_
        refine p_aload_n (i := 19) rfl rfl ?_
        refine p_getf (i := 20) rfl fX9_74 kR rfl ?_
        refine p_puti (i := 21) rfl gX9_307 kB rfl (P_gen fun M e => ?_)
        have kR := aupN e kR (by omega)
        have kI := aupN e kI (by omega)
        have w3 := aupN e w3 (by omega)
        have fr2 := fr2.up e (by omega)
        have kB := aupE e
        refine p_aload_n (i := 22) rfl rfl ?_
        refine p_getf (i := 23) rfl fX9_25 kR rfl ?_
        refine p_iload_n (i := 24) rfl rfl ?_
        refine p_aaX (i := 25) (1) rfl kI (by omega) (by omega) (by omega) (by decide) gi1 ?_
        refine p_iconst (i := 26) rfl ?_
        refine p_putz (i := 27) rfl gX9_101 kB (by omega) rfl (P_gen fun M e => ?_)
        have kR := aupN e kR (by omega)
        have kI := aupN e kI (by omega)
        have w3 := aupN e w3 (by omega)
        have fr2 := fr2.up e (by omega)
        have kB := aupE e
        refine p_aload_n (i := 28) rfl rfl ?_
        refine p_getf (i := 29) rfl fX9_19 kR rfl ?_
        have hHi1 := (hHi.fi fr1 (by omega)).fi fr2 (by omega)
        refine p_cV0 (i := 30) rfl ⟨lX9_98, rfl, rfl⟩ w3 ⟨_, rfl, rfl⟩ rfl (x_histForget (ns' := nS ln) (nw' := nW ln) hHi1 (fun M3 hHi3 fr3 => ?_))
        refine p_iconst (i := 31) rfl ?_
        refine p_iret (i := 32) rfl rfl (rfl) ?_
        have fr : FrI 0 276 M1 M3 := (fr2.weak (by omega)).tr (fr3.weak (by omega))
        refine h M3 ⟨la, sa, (((hRt.fi fr1 (by omega)).fi fr2 (by omega)).fi fr3 (by omega)), (((hRd.fi fr1 (by omega)).fi fr2 (by omega)).fi fr3 (by omega)), hHi3, (((hIr.fi fr1 (by omega)).fi fr2 (by omega)).fi fr3 (by omega)), (((hI0.fi fr1 (by omega)).fi fr2 (by omega)).fi fr3 (by omega)), ?_, (((hPa.fi fr1 (by omega)).fi fr2 (by omega)).fi fr3 (by omega)), (((hTr.fi fr1 (by omega)).fi fr2 (by omega)).fi fr3 (by omega)), (((hTu.fi fr1 (by omega)).fi fr2 (by omega)).fi fr3 (by omega)), (((hMe.fi fr1 (by omega)).fi fr2 (by omega)).fi fr3 (by omega)), (((hBo.fi fr1 (by omega)).fi fr2 (by omega)).fi fr3 (by omega)), (((hLi.fi fr1 (by omega)).fi fr2 (by omega)).fi fr3 (by omega)), (((hLs.fi fr1 (by omega)).fi fr2 (by omega)).fi fr3 (by omega)), b1, b2, b3, b4, b5, b6, b7⟩ ((fr1.weak (by omega)).tr fr)
        exact ⟨((hP1.fi fr2 (by omega)).fi fr3 (by omega)).r, sd, 1, fr3.at kB (by omega), rfl, rfl, b2, b3, (hP1.fi fr2 (by omega)).fi fr3 (by omega), b1⟩
    · rw [if_pos (by omega)] at h
      refine p_ldc (i := 5) rfl kX9_158 ?_
      refine p_iret (i := 6) rfl rfl (rfl) ?_
      exact h M hX FrI.rf
theorem X_goBack {M : AM} {tx : List Int} {fa : Int} {ln : LN} {g : GS} {un : List GS} {i0 i1 : Option (GS × Int)} {sd : Int} {me bo : List (Int × Int)} {i : Int} {Q : Option Value → AM → Prop} (hX : XW M (tx, fa, ln, g, un, i0, i1, sd, me, bo)) (hi : -2147483648 ≤ i ∧ i ≤ 2147483647) (h : ∀ M', XW M' (a_goBack (tx, fa, ln, g, un, i0, i1, sd, me, bo) i).2 → FrI 0 276 M M' → Q (some (zI (a_goBack (tx, fa, ln, g, un, i0, i1, sd, me, bo) i).1)) M') : C mX9_goBack [.ref 0, zI i] M Q := by
  dsimp only [a_goBack] at h
  obtain ⟨la, sa, hRt, hRd, hHi, hIr, hI0, hI1, hPa, hTr, hTu, hMe, hBo, hLi, hLs, b1, b2, b3, b4, b5, b6, b7⟩ := id hX
  obtain ⟨kR, hla⟩ := id hRt
  refine C_of okX9_goBack (by decide) (Nat.le_of_ble_eq_true rfl) ?_
  show P none mX9_goBack 0 [.ref 0, zI i] [] _ _
  refine p_iload_n (i := 0) rfl rfl ?_
  refine p_if_lt (i := 1) 9 rfl (by decide) (by omega) (fun c1 => ?_) (fun c1 => ?_)
  · rw [if_pos (by omega)] at h
    refine p_ldc (i := 5) rfl kX9_158 ?_
    refine p_iret (i := 6) rfl rfl (rfl) ?_
    exact h M hX FrI.rf
  · refine p_iload_n (i := 2) rfl rfl ?_
    refine p_iconst (i := 3) rfl ?_
    refine p_icmp_lt (i := 4) 12 rfl (by decide) (by omega) (by omega) (fun c6 => ?_) (fun c6 => ?_)
    · rw [if_neg (by omega)] at h
      rcases (show i = 0 ∨ i = 1 by omega) with rfl | rfl
      · rw [if_pos rfl] at h
        obtain ⟨gi, kI, gi0, gi1⟩ := id hIr
        obtain ⟨hIp, s0, k0, kB, hIm⟩ := id hI0
        obtain ⟨sc0, wh0, st0, hs0, lr0, lf0, lz0, n0, w0, y0, ⟨kp, kS, kW, kT, kH, kG, kQ⟩, r1, r2, r3, r4⟩ := id hPa.r
        obtain ⟨v4, vg, vs, w3, w4, v5⟩ := id hHi
        obtain ⟨kR, hla⟩ := id hRt
        refine p_aload_n (i := 7) rfl rfl ?_
        refine p_getf (i := 8) rfl fX9_25 kR rfl ?_
        refine p_iload_n (i := 9) rfl rfl ?_
        refine p_aaX (i := 10) (0) rfl kI (by omega) (by omega) (by omega) (by decide) gi0 ?_
        refine p_getf (i := 11) rfl fX9_101 kB rfl ?_
        cases i0 with
        | none =>
          have hIm : k0 = 0 := hIm
          refine p_if_ne (i := 12) 27 rfl (by decide) (by omega) (fun c21 => by exfalso; omega) (fun c21 => ?_)
          refine p_ldc (i := 13) rfl kX9_220 ?_
          refine p_iret (i := 14) rfl rfl (rfl) ?_
          exact h M hX FrI.rf
        | some q =>
          obtain ⟨p1, p2, p3, p4, p5, p6⟩ := hIm
          refine p_if_ne (i := 12) 27 rfl (by decide) (by omega) (fun c21 => ?_) (fun c21 => by exfalso; omega)
          refine p_aload_n (i := 15) rfl rfl ?_
          refine p_getf (i := 16) rfl fX9_32 kR rfl ?_
          refine p_aload_n (i := 17) rfl rfl ?_
          refine p_getf (i := 18) rfl fX9_25 kR rfl ?_
          refine p_iload_n (i := 19) rfl rfl ?_
          refine p_aaX (i := 20) (0) rfl kI (by omega) (by omega) (by omega) (by decide) gi0 ?_
          refine p_getf (i := 21) rfl fX9_303 kB rfl ?_
          refine p_cV1 (i := 22) rfl ⟨lX9_304, rfl, rfl⟩ kp ⟨_, rfl, rfl⟩ rfl (x_copyAll hPa.r p5 (by omega) (fun M1 hP1 fr1 => ?_))
          have kR := fr1.at kR (by omega)
          have kI := fr1.at kI (by omega)
          have kB := fr1.at kB (by omega)
          have w3 := fr1.at w3 (by omega)
          have fr2 : FrI 0 1 M1 M1 := FrI.rf
          refine p_aload_n (i := 23) rfl rfl ?_
          refine p_aload_n (i := 24) rfl rfl ?_
          refine p_getf (i := 25) rfl fX9_25 kR rfl ?_
          refine p_iload_n (i := 26) rfl rfl ?_
          refine p_aaX (i := 27) (0) rfl kI (by omega) (by omega) (by omega) (by decide) gi0 ?_
          refine p_getf (i := 28) rfl fX9_307 kB rfl ?_
          refine p_puti (i := 29) rfl gX9_74 kR rfl (P_gen fun M e => ?_)
          have kI := aupN e kI (by omega)
          have kB := aupN e kB (by omega)
          have w3 := aupN e w3 (by omega)
          have fr2 := fr2.up e (by omega)
          have kR := aupE e
          refine p_aload_n (i := 30) rfl rfl ?_
          refine p_getf (i := 31) rfl fX9_19 kR rfl ?_
          have hHi1 := (hHi.fi fr1 (by omega)).fi fr2 (by omega)
          refine p_cV0 (i := 32) rfl ⟨lX9_98, rfl, rfl⟩ w3 ⟨_, rfl, rfl⟩ rfl (x_histForget (ns' := nS ln) (nw' := nW ln) hHi1 (fun M3 hHi3 fr3 => ?_))
          refine p_iconst (i := 33) rfl ?_
          refine p_iret (i := 34) rfl rfl (rfl) ?_
          have fr : FrI 0 276 M1 M3 := (fr2.weak (by omega)).tr (fr3.weak (by omega))
          rw [p2] at kR
          have hRt3 : XRt M3 la sa fa q.2 := ⟨fr3.at kR (by omega), hla⟩
          exact h M3 ⟨la, sa, hRt3, (((hRd.fi fr1 (by omega)).fi fr2 (by omega)).fi fr3 (by omega)), hHi3, (((hIr.fi fr1 (by omega)).fi fr2 (by omega)).fi fr3 (by omega)), (((hI0.fi fr1 (by omega)).fi fr2 (by omega)).fi fr3 (by omega)), (((hI1.fi fr1 (by omega)).fi fr2 (by omega)).fi fr3 (by omega)), (hP1.fi fr2 (by omega)).fi fr3 (by omega), (((hTr.fi fr1 (by omega)).fi fr2 (by omega)).fi fr3 (by omega)), (((hTu.fi fr1 (by omega)).fi fr2 (by omega)).fi fr3 (by omega)), (((hMe.fi fr1 (by omega)).fi fr2 (by omega)).fi fr3 (by omega)), (((hBo.fi fr1 (by omega)).fi fr2 (by omega)).fi fr3 (by omega)), (((hLi.fi fr1 (by omega)).fi fr2 (by omega)).fi fr3 (by omega)), (((hLs.fi fr1 (by omega)).fi fr2 (by omega)).fi fr3 (by omega)), p6, p3, p4, b4, b5, b6, b7⟩ ((fr1.weak (by omega)).tr fr)
      · rw [if_neg (by decide)] at h
        obtain ⟨gi, kI, gi0, gi1⟩ := id hIr
        obtain ⟨hIp, s0, k0, kB, hIm⟩ := id hI1
        obtain ⟨sc0, wh0, st0, hs0, lr0, lf0, lz0, n0, w0, y0, ⟨kp, kS, kW, kT, kH, kG, kQ⟩, r1, r2, r3, r4⟩ := id hPa.r
        obtain ⟨v4, vg, vs, w3, w4, v5⟩ := id hHi
        obtain ⟨kR, hla⟩ := id hRt
        refine p_aload_n (i := 7) rfl rfl ?_
        refine p_getf (i := 8) rfl fX9_25 kR rfl ?_
        refine p_iload_n (i := 9) rfl rfl ?_
        refine p_aaX (i := 10) (1) rfl kI (by omega) (by omega) (by omega) (by decide) gi1 ?_
        refine p_getf (i := 11) rfl fX9_101 kB rfl ?_
        cases i1 with
        | none =>
          have hIm : k0 = 0 := hIm
          refine p_if_ne (i := 12) 27 rfl (by decide) (by omega) (fun c21 => by exfalso; omega) (fun c21 => ?_)
          refine p_ldc (i := 13) rfl kX9_220 ?_
          refine p_iret (i := 14) rfl rfl (rfl) ?_
          exact h M hX FrI.rf
        | some q =>
          obtain ⟨p1, p2, p3, p4, p5, p6⟩ := hIm
          refine p_if_ne (i := 12) 27 rfl (by decide) (by omega) (fun c21 => ?_) (fun c21 => by exfalso; omega)
          refine p_aload_n (i := 15) rfl rfl ?_
          refine p_getf (i := 16) rfl fX9_32 kR rfl ?_
          refine p_aload_n (i := 17) rfl rfl ?_
          refine p_getf (i := 18) rfl fX9_25 kR rfl ?_
          refine p_iload_n (i := 19) rfl rfl ?_
          refine p_aaX (i := 20) (1) rfl kI (by omega) (by omega) (by omega) (by decide) gi1 ?_
          refine p_getf (i := 21) rfl fX9_303 kB rfl ?_
          refine p_cV1 (i := 22) rfl ⟨lX9_304, rfl, rfl⟩ kp ⟨_, rfl, rfl⟩ rfl (x_copyAll hPa.r p5 (by omega) (fun M1 hP1 fr1 => ?_))
          have kR := fr1.at kR (by omega)
          have kI := fr1.at kI (by omega)
          have kB := fr1.at kB (by omega)
          have w3 := fr1.at w3 (by omega)
          have fr2 : FrI 0 1 M1 M1 := FrI.rf
          refine p_aload_n (i := 23) rfl rfl ?_
          refine p_aload_n (i := 24) rfl rfl ?_
          refine p_getf (i := 25) rfl fX9_25 kR rfl ?_
          refine p_iload_n (i := 26) rfl rfl ?_
          refine p_aaX (i := 27) (1) rfl kI (by omega) (by omega) (by omega) (by decide) gi1 ?_
          refine p_getf (i := 28) rfl fX9_307 kB rfl ?_
          refine p_puti (i := 29) rfl gX9_74 kR rfl (P_gen fun M e => ?_)
          have kI := aupN e kI (by omega)
          have kB := aupN e kB (by omega)
          have w3 := aupN e w3 (by omega)
          have fr2 := fr2.up e (by omega)
          have kR := aupE e
          refine p_aload_n (i := 30) rfl rfl ?_
          refine p_getf (i := 31) rfl fX9_19 kR rfl ?_
          have hHi1 := (hHi.fi fr1 (by omega)).fi fr2 (by omega)
          refine p_cV0 (i := 32) rfl ⟨lX9_98, rfl, rfl⟩ w3 ⟨_, rfl, rfl⟩ rfl (x_histForget (ns' := nS ln) (nw' := nW ln) hHi1 (fun M3 hHi3 fr3 => ?_))
          refine p_iconst (i := 33) rfl ?_
          refine p_iret (i := 34) rfl rfl (rfl) ?_
          have fr : FrI 0 276 M1 M3 := (fr2.weak (by omega)).tr (fr3.weak (by omega))
          rw [p2] at kR
          have hRt3 : XRt M3 la sa fa q.2 := ⟨fr3.at kR (by omega), hla⟩
          exact h M3 ⟨la, sa, hRt3, (((hRd.fi fr1 (by omega)).fi fr2 (by omega)).fi fr3 (by omega)), hHi3, (((hIr.fi fr1 (by omega)).fi fr2 (by omega)).fi fr3 (by omega)), (((hI0.fi fr1 (by omega)).fi fr2 (by omega)).fi fr3 (by omega)), (((hI1.fi fr1 (by omega)).fi fr2 (by omega)).fi fr3 (by omega)), (hP1.fi fr2 (by omega)).fi fr3 (by omega), (((hTr.fi fr1 (by omega)).fi fr2 (by omega)).fi fr3 (by omega)), (((hTu.fi fr1 (by omega)).fi fr2 (by omega)).fi fr3 (by omega)), (((hMe.fi fr1 (by omega)).fi fr2 (by omega)).fi fr3 (by omega)), (((hBo.fi fr1 (by omega)).fi fr2 (by omega)).fi fr3 (by omega)), (((hLi.fi fr1 (by omega)).fi fr2 (by omega)).fi fr3 (by omega)), (((hLs.fi fr1 (by omega)).fi fr2 (by omega)).fi fr3 (by omega)), p6, p3, p4, b4, b5, b6, b7⟩ ((fr1.weak (by omega)).tr fr)
    · rw [if_pos (by omega)] at h
      refine p_ldc (i := 5) rfl kX9_158 ?_
      refine p_iret (i := 6) rfl rfl (rfl) ?_
      exact h M hX FrI.rf
