-- helpers of the class
theorem bitc : ∀ n : Fin 1024, (fun x : Int32 =>
    let a := x - ((x.toUInt32 >>> ((Int32.ofInt 1).toUInt32 &&& Int32.toUInt32 31)).toInt32 &&& Int32.ofInt 1431655765)
    let b := (a &&& Int32.ofInt 858993459) + ((a.toUInt32 >>> ((Int32.ofInt 2).toUInt32 &&& Int32.toUInt32 31)).toInt32 &&& Int32.ofInt 858993459)
    let c := (b + (b.toUInt32 >>> ((Int32.ofInt 4).toUInt32 &&& Int32.toUInt32 31)).toInt32) &&& Int32.ofInt 252645135
    let d := c + (c.toUInt32 >>> ((Int32.ofInt 8).toUInt32 &&& Int32.toUInt32 31)).toInt32
    let e := d + (d.toUInt32 >>> ((Int32.ofInt 16).toUInt32 &&& Int32.toUInt32 31)).toInt32
    e &&& Int32.ofInt 63) (Int32.ofInt (n.val : Int)) = Int32.ofInt ((popc n.val : Nat) : Int) := by decide +kernel
theorem x_bitCount {M : AM} {n : Nat} {Q : Option Value → AM → Prop} (hn : n < 1024) (h : Q (some (zI (popc n : Nat))) M) : C mJ6_bitCount_0f7a4 [zI (n : Int)] M Q := by
  refine C_of okJ6_bitCount_0f7a4 (by decide) (Nat.le_of_ble_eq_true rfl) ?_
  show P none mJ6_bitCount_0f7a4 0 [zI (n : Int)] [] _ _
  refine p_iload_n (i := 0) rfl rfl ?_
  refine p_iload_n (i := 1) rfl rfl ?_
  refine p_iconst (i := 2) rfl ?_
  refine p_iushr (i := 3) rfl ?_
  refine p_ldcw (i := 4) rfl kJ6_265 ?_
  refine p_iand (i := 5) rfl ?_
  refine p_isub32 (i := 6) rfl ?_
  refine p_istore_n (i := 7) rfl rfl ?_
  refine p_iload_n (i := 8) rfl rfl ?_
  refine p_ldcw (i := 9) rfl kJ6_266 ?_
  refine p_iand (i := 10) rfl ?_
  refine p_iload_n (i := 11) rfl rfl ?_
  refine p_iconst (i := 12) rfl ?_
  refine p_iushr (i := 13) rfl ?_
  refine p_ldcw (i := 14) rfl kJ6_266 ?_
  refine p_iand (i := 15) rfl ?_
  refine p_iadd32 (i := 16) rfl ?_
  refine p_istore_n (i := 17) rfl rfl ?_
  refine p_iload_n (i := 18) rfl rfl ?_
  refine p_iload_n (i := 19) rfl rfl ?_
  refine p_iconst (i := 20) rfl ?_
  refine p_iushr (i := 21) rfl ?_
  refine p_iadd32 (i := 22) rfl ?_
  refine p_ldcw (i := 23) rfl kJ6_267 ?_
  refine p_iand (i := 24) rfl ?_
  refine p_istore_n (i := 25) rfl rfl ?_
  refine p_iload_n (i := 26) rfl rfl ?_
  refine p_iload_n (i := 27) rfl rfl ?_
  refine p_bipush (i := 28) rfl (by decide) ?_
  refine p_iushr (i := 29) rfl ?_
  refine p_iadd32 (i := 30) rfl ?_
  refine p_istore_n (i := 31) rfl rfl ?_
  refine p_iload_n (i := 32) rfl rfl ?_
  refine p_iload_n (i := 33) rfl rfl ?_
  refine p_bipush (i := 34) rfl (by decide) ?_
  refine p_iushr (i := 35) rfl ?_
  refine p_iadd32 (i := 36) rfl ?_
  refine p_istore_n (i := 37) rfl rfl ?_
  refine p_iload_n (i := 38) rfl rfl ?_
  refine p_bipush (i := 39) rfl (by decide) ?_
  refine p_iand (i := 40) rfl ?_
  refine p_iret (i := 41) rfl rfl (rfl) ?_
  have e := bitc ⟨n, hn⟩
  dsimp only at e
  rw [e]
  exact h
theorem popc_le (n : Nat) : popc n ≤ 10 := by
  unfold popc
  exact Nat.le_trans List.countP_le_length (by simp)
theorem x_takenNow {M : AM} {la sa : Nat} {fa sd : Int} {ln : LN} {g : GS} {ns nw : Nat} {x : Int} {Q : Option Value → AM → Prop} (hRt : XRt M la sa fa sd) (hP : PairB true M 216 ns nw g) (hL : LineA M la ln) (hx : 0 ≤ x ∧ x < nS ln) (h : Q (some (zI (tk ln g.1 x 0 0))) M) : C mX9_takenNow [.ref 0, zI x] M Q := by
  obtain ⟨kR, hla⟩ := id hRt
  obtain ⟨⟨q1, q2, q3, q4, q5, q6, q7, q8, q9, q10, q11⟩, sc, wh, st, hs, lr, lf, lz, ⟨hp, hS, hW, hT, hH, hG, hR⟩, rL, rH, rG⟩ := id hP
  refine C_of okX9_takenNow (by decide) (Nat.le_of_ble_eq_true rfl) ?_
  show P none mX9_takenNow 0 [.ref 0, zI x] [] _ _
  refine p_aload_n (i := 0) rfl rfl ?_
  refine p_getf (i := 1) rfl fX9_32 kR rfl ?_
  refine p_aload_n (i := 2) rfl rfl ?_
  refine p_getf (i := 3) rfl fX9_63 kR rfl ?_
  refine p_iload_n (i := 4) rfl rfl ?_
  refine p_iconst (i := 5) rfl ?_
  refine p_iconst (i := 6) rfl ?_
  refine p_cV4 (i := 7) rfl ⟨lX9_272, rfl, rfl⟩ hp ⟨_, rfl, rfl⟩ rfl (x_takenFor hP hL hx (by omega) (by decide) (wi := 0) ?_)
  refine p_iret (i := 8) rfl rfl (rfl) ?_
  exact h
theorem tk_rng {ln : LN} {Ls : List LY} {x m : Int} {wi ns nw : Nat} (hok : LsOk ns nw Ls) (hns : ns ≤ nS ln) (hx : 0 ≤ x ∧ x < nS ln) : 0 ≤ tk ln Ls x m wi ∧ tk ln Ls x m wi < nS ln := by
  unfold tk
  have hs := sb_rng Ls wi
  split
  · have := hok.at (sb Ls wi).toNat (by omega)
    omega
  · exact hx
theorem x_scenesTakenFor {M : AM} {la sa : Nat} {fa sd : Int} {ln : LN} {g : GS} {x : Int} {Q : Option Value → AM → Prop} (hRt : XRt M la sa fa sd) (hP : PairB true M 216 (nS ln) (nW ln) g) (hL : LineA M la ln) (hx : -2147483648 ≤ x ∧ x ≤ 2147483647) (h : Q (some (zI (stf ln g.1 x : Nat))) M) : C mX9_scenesTakenFor [.ref 0, zI x] M Q := by
  obtain ⟨kR, hla⟩ := id hRt
  obtain ⟨⟨o1, o2, o3, o4, o5, o6, o7⟩, kf, bf, lc, lkf, ⟨hb, hk, hr, hc, ⟨gg, hg, hgi⟩, hrow⟩, hkb, hlk⟩ := id hL
  have hok := hP.1.ls
  have loop : ∀ (f k s : Nat), k + f = nS ln → Q (some (zI ((fo (fun y s => if tk ln g.1 (y : Int) 0 0 = x then s ||| 2 ^ y else s) f k s : Nat) : Int))) M → P none mX9_scenesTakenFor 4 [.ref 0, zI x, zI (s : Int), zI (k : Int)] []  M Q := by
    intro f
    induction f with
    | zero =>
      intro k s hk hq
      refine p_iload_n (i := 4) rfl rfl ?_
      refine p_aload_n (i := 5) rfl rfl ?_
      refine p_getf (i := 6) rfl fX9_63 kR rfl ?_
      refine p_getf (i := 7) rfl fX9_107 hb rfl ?_
      refine p_icmp_ge (i := 8) 36 rfl (by decide) (by omega) (by omega) (fun c12 => ?_) (fun c12 => by exfalso; omega)
      refine p_iload_n (i := 22) rfl rfl ?_
      refine p_iret (i := 23) rfl rfl (rfl) ?_
      exact hq
    | succ f ih =>
      intro k s hk hq
      have ht := tk_rng (ln := ln) (x := (k : Int)) (m := 0) (wi := 0) hok (Nat.le_refl _) (by omega)
      have hq : Q (some (zI ((fo (fun y s => if tk ln g.1 (y : Int) 0 0 = x then s ||| 2 ^ y else s) f (k + 1) (if tk ln g.1 (k : Int) 0 0 = x then s ||| 2 ^ k else s) : Nat) : Int))) M := hq
      refine p_iload_n (i := 4) rfl rfl ?_
      refine p_aload_n (i := 5) rfl rfl ?_
      refine p_getf (i := 6) rfl fX9_63 kR rfl ?_
      refine p_getf (i := 7) rfl fX9_107 hb rfl ?_
      refine p_icmp_ge (i := 8) 36 rfl (by decide) (by omega) (by omega) (fun c12 => by exfalso; omega) (fun c12 => ?_)
      refine p_aload_n (i := 9) rfl rfl ?_
      refine p_iload_n (i := 10) rfl rfl ?_
      refine p_cV1 (i := 11) rfl ⟨lX9_190, rfl, rfl⟩ kR ⟨_, rfl, rfl⟩ rfl (x_takenNow hRt hP hL (by omega) ?_)
      refine p_iload_n (i := 12) rfl rfl ?_
      refine p_icmp_ne (i := 13) 30 rfl (by decide) (by omega) (by omega) (fun c21 => ?_) (fun c21 => ?_)
      · refine p_iinc (i := 20) rfl rfl rfl ?_
        refine p_goto (i := 21) 4 rfl (by decide) ?_
        rw [if_neg c21] at hq
        exact ih (k + 1) s (by omega) hq
      · refine p_iload_n (i := 14) rfl rfl ?_
        refine p_iconst (i := 15) rfl ?_
        refine p_iload_n (i := 16) rfl rfl ?_
        refine p_ishl1 (i := 17) rfl (by omega) ?_
        refine p_iorN (i := 18) rfl ?_
        refine p_istore_n (i := 19) rfl rfl ?_
        refine p_iinc (i := 20) rfl rfl rfl ?_
        refine p_goto (i := 21) 4 rfl (by decide) ?_
        rw [if_pos c21] at hq
        exact ih (k + 1) _ (by omega) hq
  refine C_of okX9_scenesTakenFor (by decide) (Nat.le_of_ble_eq_true rfl) ?_
  show P none mX9_scenesTakenFor 0 [.ref 0, zI x, .retAddr 0, .retAddr 0] [] _ _
  refine p_iconst (i := 0) rfl ?_
  refine p_istore_n (i := 1) rfl rfl ?_
  refine p_iconst (i := 2) rfl ?_
  refine p_istore_n (i := 3) rfl rfl ?_
  exact loop (nS ln) 0 0 (by omega) h
theorem or_lt {a b n : Nat} (ha : a < 2 ^ n) (hb : b < 2 ^ n) : a ||| b < 2 ^ n := Nat.or_lt_two_pow ha hb
theorem scOf_lt {Ls : List LY} {w : Int} {ns nw : Nat} (hok : LsOk ns nw Ls) (hns : ns ≤ 8) : scOf Ls w < 256 := by
  have h := fo_inv (step := fun k s => if lW Ls k = w then s ||| 2 ^ (lS Ls k).toNat else s) (fun _ s => s < 2 ^ 8) Ls.length 0 0 (by decide) (fun j t _ hj ht => by
    have := hok.at j (by omega)
    split
    · exact or_lt ht (Nat.pow_lt_pow_right (by decide) (by omega))
    · exact ht)
  exact h
theorem x_scenesOfAll {M : AM} {la sa : Nat} {fa sd : Int} {ln : LN} {g : GS} {Q : Option Value → AM → Prop} (hRt : XRt M la sa fa sd) (hP : PairB true M 216 (nS ln) (nW ln) g) (hL : LineA M la ln) (h : Q (some (zI (all_ (nW ln) g.1 : Nat))) M) : C mX9_scenesOfAll [.ref 0] M Q := by
  obtain ⟨kR, hla⟩ := id hRt
  obtain ⟨⟨o1, o2, o3, o4, o5, o6, o7⟩, kf, bf, lc, lkf, ⟨hb, hk, hr, hc, ⟨gg, hg, hgi⟩, hrow⟩, hkb, hlk⟩ := id hL
  obtain ⟨⟨q1, q2, q3, q4, q5, q6, q7, q8, q9, q10, q11⟩, sc, wh, st, hs, lr, lf, lz, ⟨hp, hS, hW, hT, hH, hG, hR⟩, rL, rH, rG⟩ := id hP
  unfold all_ at h
  have loop : ∀ (f k s : Nat), k + f = nW ln → Q (some (zI ((fo (fun w s => s &&& scOf g.1 (w : Int)) f k s : Nat) : Int))) M → P none mX9_scenesOfAll 23 [.ref 0, zI (s : Int), zI (k : Int)] []  M Q := by
    intro f
    induction f with
    | zero =>
      intro k s hk hq
      refine p_iload_n (i := 13) rfl rfl ?_
      refine p_aload_n (i := 14) rfl rfl ?_
      refine p_getf (i := 15) rfl fX9_63 kR rfl ?_
      refine p_getf (i := 16) rfl fX9_113 hb rfl ?_
      refine p_icmp_ge (i := 17) 51 rfl (by decide) (by omega) (by omega) (fun c31 => ?_) (fun c31 => by exfalso; omega)
      refine p_iload_n (i := 27) rfl rfl ?_
      refine p_iret (i := 28) rfl rfl (rfl) ?_
      exact hq
    | succ f ih =>
      intro k s hk hq
      refine p_iload_n (i := 13) rfl rfl ?_
      refine p_aload_n (i := 14) rfl rfl ?_
      refine p_getf (i := 15) rfl fX9_63 kR rfl ?_
      refine p_getf (i := 16) rfl fX9_113 hb rfl ?_
      refine p_icmp_ge (i := 17) 51 rfl (by decide) (by omega) (by omega) (fun c31 => by exfalso; omega) (fun c31 => ?_)
      refine p_iload_n (i := 18) rfl rfl ?_
      refine p_aload_n (i := 19) rfl rfl ?_
      refine p_getf (i := 20) rfl fX9_32 kR rfl ?_
      refine p_iload_n (i := 21) rfl rfl ?_
      refine p_cV1 (i := 22) rfl ⟨lX9_181, rfl, rfl⟩ hp ⟨_, rfl, rfl⟩ rfl (x_scenesOf hP (by omega) ?_)
      refine p_iandN (i := 23) rfl ?_
      refine p_istore_n (i := 24) rfl rfl ?_
      refine p_iinc (i := 25) rfl rfl rfl ?_
      refine p_goto (i := 26) 23 rfl (by decide) ?_
      exact ih (k + 1) _ (by omega) hq
  refine C_of okX9_scenesOfAll (by decide) (Nat.le_of_ble_eq_true rfl) ?_
  show P none mX9_scenesOfAll 0 [.ref 0, .retAddr 0, .retAddr 0] [] _ _
  refine p_aload_n (i := 0) rfl rfl ?_
  refine p_getf (i := 1) rfl fX9_63 kR rfl ?_
  refine p_getf (i := 2) rfl fX9_113 hb rfl ?_
  refine p_if_ne (i := 3) 12 rfl (by decide) (by omega) (fun c7 => ?_) (fun c7 => ?_)
  · refine p_aload_n (i := 6) rfl rfl ?_
    refine p_getf (i := 7) rfl fX9_32 kR rfl ?_
    refine p_iconst (i := 8) rfl ?_
    refine p_cV1 (i := 9) rfl ⟨lX9_181, rfl, rfl⟩ hp ⟨_, rfl, rfl⟩ rfl (x_scenesOf hP (by omega) ?_)
    refine p_istore_n (i := 10) rfl rfl ?_
    refine p_iconst (i := 11) rfl ?_
    refine p_istore_n (i := 12) rfl rfl ?_
    rw [if_neg (by omega)] at h
    exact loop (nW ln - 1) 1 _ (by omega) h
  · refine p_iconst (i := 4) rfl ?_
    refine p_iret (i := 5) rfl rfl (rfl) ?_
    rw [if_pos (by omega)] at h
    exact h
theorem x_kinOf {M : AM} {la sa : Nat} {fa sd : Int} {ln : LN} {g : GS} {w : Nat} {Q : Option Value → AM → Prop} (hRt : XRt M la sa fa sd) (hP : PairB true M 216 (nS ln) (nW ln) g) (hL : LineA M la ln) (hw : w < nW ln) (h : Q (some (zI (kin_ (nW ln) g.1 w))) M) : C mX9_kinOf [.ref 0, zI (w : Int)] M Q := by
  obtain ⟨kR, hla⟩ := id hRt
  obtain ⟨⟨o1, o2, o3, o4, o5, o6, o7⟩, kf, bf, lc, lkf, ⟨hb, hk, hr, hc, ⟨gg, hg, hgi⟩, hrow⟩, hkb, hlk⟩ := id hL
  obtain ⟨⟨q1, q2, q3, q4, q5, q6, q7, q8, q9, q10, q11⟩, sc, wh, st, hs, lr, lf, lz, ⟨hp, hS, hW, hT, hH, hG, hR⟩, rL, rH, rG⟩ := id hP
  have hok := hP.1.ls
  have loop : ∀ (f k : Nat) (s : Int × Int) (x : Value), k + f = nW ln → 0 ≤ s.2 ∧ s.2 ≤ 10 → Q (some (zI (fo (kinStep g.1 w) f k s).1)) M → P none mX9_kinOf 17 [.ref 0, zI (w : Int), zI (scOf g.1 (w : Int) : Nat), zI s.1, zI s.2, zI (k : Int), x] []  M Q := by
    intro f
    induction f with
    | zero =>
      intro k s x hk hs hq
      refine p_iload (i := 11) rfl rfl ?_
      refine p_aload_n (i := 12) rfl rfl ?_
      refine p_getf (i := 13) rfl fX9_63 kR rfl ?_
      refine p_getf (i := 14) rfl fX9_113 hb rfl ?_
      refine p_icmp_ge (i := 15) 71 rfl (by decide) (by omega) (by omega) (fun c26 => ?_) (fun c26 => by exfalso; omega)
      refine p_iload_n (i := 36) rfl rfl ?_
      refine p_iret (i := 37) rfl rfl (rfl) ?_
      exact hq
    | succ f ih =>
      intro k s x hk hs hq
      have hq : Q (some (zI (fo (kinStep g.1 w) f (k + 1) (kinStep g.1 w k s)).1)) M := hq
      unfold kinStep at hq
      have hc := scOf_lt (w := (w : Int)) hok q10
      have hp10 := popc_le (scOf g.1 (w : Int) &&& scOf g.1 (k : Int))
      refine p_iload (i := 11) rfl rfl ?_
      refine p_aload_n (i := 12) rfl rfl ?_
      refine p_getf (i := 13) rfl fX9_63 kR rfl ?_
      refine p_getf (i := 14) rfl fX9_113 hb rfl ?_
      refine p_icmp_ge (i := 15) 71 rfl (by decide) (by omega) (by omega) (fun c26 => by exfalso; omega) (fun c26 => ?_)
      refine p_iload_n (i := 16) rfl rfl ?_
      refine p_aload_n (i := 17) rfl rfl ?_
      refine p_getf (i := 18) rfl fX9_32 kR rfl ?_
      refine p_iload (i := 19) rfl rfl ?_
      refine p_cV1 (i := 20) rfl ⟨lX9_181, rfl, rfl⟩ hp ⟨_, rfl, rfl⟩ rfl (x_scenesOf hP (by omega) ?_)
      refine p_iandN (i := 21) rfl ?_
      refine p_cS1 (i := 22) rfl ⟨lX9_251, rfl, rfl⟩ rfl (x_bitCount (Nat.lt_of_le_of_lt Nat.and_le_left (by omega)) ?_)
      refine p_istore (i := 23) rfl rfl ?_
      refine p_iload (i := 24) rfl rfl ?_
      refine p_iload_n (i := 25) rfl rfl ?_
      refine p_icmp_eq (i := 26) 65 rfl (by decide) (by omega) (by omega) (fun c48 => ?_) (fun c48 => ?_)
      · refine p_iinc (i := 34) rfl rfl rfl ?_
        refine p_goto (i := 35) 17 rfl (by decide) ?_
        rw [if_neg (by omega)] at hq
        exact ih (k + 1) s _ (by omega) hs hq
      · refine p_iload (i := 27) rfl rfl ?_
        refine p_iload (i := 28) rfl rfl ?_
        refine p_icmp_le (i := 29) 65 rfl (by decide) (by omega) (by omega) (fun c55 => ?_) (fun c55 => ?_)
        · refine p_iinc (i := 34) rfl rfl rfl ?_
          refine p_goto (i := 35) 17 rfl (by decide) ?_
          rw [if_neg (by omega)] at hq
          exact ih (k + 1) s _ (by omega) hs hq
        · refine p_iload (i := 30) rfl rfl ?_
          refine p_istore (i := 31) rfl rfl ?_
          refine p_iload (i := 32) rfl rfl ?_
          refine p_istore_n (i := 33) rfl rfl ?_
          refine p_iinc (i := 34) rfl rfl rfl ?_
          refine p_goto (i := 35) 17 rfl (by decide) ?_
          rw [if_pos (by omega)] at hq
          exact ih (k + 1) _ _ (by omega) (by show (0 : Int) ≤ (popc _ : Nat) ∧ ((popc _ : Nat) : Int) ≤ 10; omega) hq
  refine C_of okX9_kinOf (by decide) (Nat.le_of_ble_eq_true rfl) ?_
  show P none mX9_kinOf 0 [.ref 0, zI (w : Int), .retAddr 0, .retAddr 0, .retAddr 0, .retAddr 0, .retAddr 0] [] _ _
  refine p_aload_n (i := 0) rfl rfl ?_
  refine p_getf (i := 1) rfl fX9_32 kR rfl ?_
  refine p_iload_n (i := 2) rfl rfl ?_
  refine p_cV1 (i := 3) rfl ⟨lX9_181, rfl, rfl⟩ hp ⟨_, rfl, rfl⟩ rfl (x_scenesOf hP (by omega) ?_)
  refine p_istore_n (i := 4) rfl rfl ?_
  refine p_iconst (i := 5) rfl ?_
  refine p_istore_n (i := 6) rfl rfl ?_
  refine p_iconst (i := 7) rfl ?_
  refine p_istore (i := 8) rfl rfl ?_
  refine p_iconst (i := 9) rfl ?_
  refine p_istore (i := 10) rfl rfl ?_
  exact loop (nW ln) 0 (-1, 0) _ (by omega) (by decide) h
