-- the reference: what is read
theorem y_sawBy {M : AM} {ns nw : Nat} {g : GS} {w : Int} {Q : Option Value → AM → Prop} (hH : YH M) (hA : YA M 279 ns nw g) (hw : -1 ≤ w ∧ w ≤ 10) (h : Q (some (zI (scOf g.1 w : Nat))) M) : C mX10_sawBy [.ref 276, zI w] M Q := by
  obtain ⟨uy, sy, zy, fy, my, by_, ay, gy, ny, hy_, vy, ry, kY⟩ := id hH
  obtain ⟨⟨q1, q2, q3, q4, q5, q6, q7, q8, q9, q10, q11⟩, f, kT, ⟨t0, t1⟩, ⟨u1, u2, u3, u4, u5⟩⟩ := id hA
  have loop : ∀ (c k : Nat) (s : Nat), k + c = g.1.length → Q (some (zI ((fo (fun k s => if lW g.1 k = w then s ||| 2 ^ (lS g.1 k).toNat else s) c k s : Nat) : Int))) M → P none mX10_sawBy 4 [.ref 276, zI w, zI (s : Int), zI (k : Int)] []  M Q := by
    intro c
    induction c with
    | zero =>
      intro k s hk hq
      refine p_iload_n (i := 4) rfl rfl ?_
      refine p_aload_n (i := 5) rfl rfl ?_
      refine p_getf (i := 6) rfl fX10_16 kY rfl ?_
      refine p_iconst (i := 7) rfl ?_
      refine p_iaX (i := 8) (0) rfl kT (by omega) (by omega) (by decide) ?_
      refine p_icmp_ge (i := 9) 50 rfl (by decide) (by omega) (by omega) (fun c11 => ?_) (fun c11 => by exfalso; omega)
      refine p_iload_n (i := 33) rfl rfl ?_
      refine p_iret (i := 34) rfl rfl (rfl) ?_
      exact hq
    | succ c ih =>
      intro k s hk hq
      obtain ⟨e1, e2, e3⟩ := t1 k (by omega)
      have e4 := q2 k (by omega)
      have hq : Q (some (zI ((fo (fun k s => if lW g.1 k = w then s ||| 2 ^ (lS g.1 k).toNat else s) c (k + 1) (if lW g.1 k = w then s ||| 2 ^ (lS g.1 k).toNat else s) : Nat) : Int))) M := hq
      refine p_iload_n (i := 4) rfl rfl ?_
      refine p_aload_n (i := 5) rfl rfl ?_
      refine p_getf (i := 6) rfl fX10_16 kY rfl ?_
      refine p_iconst (i := 7) rfl ?_
      refine p_iaX (i := 8) (0) rfl kT (by omega) (by omega) (by decide) ?_
      refine p_icmp_ge (i := 9) 50 rfl (by decide) (by omega) (by omega) (fun c11 => by exfalso; omega) (fun c11 => ?_)
      refine p_iload_n (i := 10) rfl rfl ?_
      refine p_aload_n (i := 11) rfl rfl ?_
      refine p_getf (i := 12) rfl fX10_16 kY rfl ?_
      refine p_bipush (i := 13) rfl (by decide) ?_
      refine p_iload_n (i := 14) rfl rfl ?_
      refine p_iadd (i := 15) rfl ?_
      refine p_iaX (i := 16) ((11 + k)) rfl kT (by omega) (by omega) (by decide) ?_
      refine p_iload_n (i := 17) rfl rfl ?_
      refine p_icmp_ne (i := 18) 41 rfl (by decide) (by omega) (by omega) (fun c25 => ?_) (fun c25 => ?_)
      · rw [if_neg (show ¬ lW g.1 k = w by omega)] at hq
        refine p_iconst (i := 28) rfl ?_
        refine p_iorN (i := 29) rfl ?_
        refine p_istore_n (i := 30) rfl rfl ?_
        refine p_iinc (i := 31) rfl rfl rfl ?_
        refine p_goto (i := 32) 4 rfl (by decide) ?_
        rw [Nat.or_zero]
        exact ih (k + 1) _ (by omega) hq
      ·
        refine p_iconst (i := 19) rfl ?_
        refine p_aload_n (i := 20) rfl rfl ?_
        refine p_getf (i := 21) rfl fX10_16 kY rfl ?_
        refine p_iconst (i := 22) rfl ?_
        refine p_iload_n (i := 23) rfl rfl ?_
        refine p_iadd (i := 24) rfl ?_
        refine p_iaX (i := 25) ((1 + k)) rfl kT (by omega) (by omega) (by decide) ?_
        rw [if_pos (show lW g.1 k = w by omega)] at hq
        refine p_top (b := (((lS g.1 k).toNat : Nat) : Int)) (by omega) ?_
        refine p_ishl1 (i := 26) rfl (by omega) ?_
        refine p_goto (i := 27) 42 rfl (by decide) ?_
        refine p_iorN (i := 29) rfl ?_
        refine p_istore_n (i := 30) rfl rfl ?_
        refine p_iinc (i := 31) rfl rfl rfl ?_
        refine p_goto (i := 32) 4 rfl (by decide) ?_
        exact ih (k + 1) _ (by omega) hq
  refine C_of okX10_sawBy (by decide) (Nat.le_of_ble_eq_true rfl) ?_
  show P none mX10_sawBy 0 [.ref 276, zI w, .retAddr 0, .retAddr 0] [] _ _
  refine p_iconst (i := 0) rfl ?_
  refine p_istore_n (i := 1) rfl rfl ?_
  refine p_iconst (i := 2) rfl ?_
  refine p_istore_n (i := 3) rfl rfl ?_
  exact loop g.1.length 0 0 (by omega) h
theorem y_seenByAll {M : AM} {ln : LN} {g : GS} {Q : Option Value → AM → Prop} (hL : YL M ln) (hA : YA M 279 (nS ln) (nW ln) g) (h : Q (some (zI (all_ (nW ln) g.1 : Nat))) M) : C mX10_seenByAll [.ref 276] M Q := by
  obtain ⟨⟨uy, sy, zy, fy, my, by_, ay, gy, ny, hy_, vy, ry, kY⟩, ⟨o1, o2, o3, o4, o5, o6, o7⟩, lf, kL, l0, l1, l2, l3, l4⟩ := id hL
  obtain ⟨⟨q1, q2, q3, q4, q5, q6, q7, q8, q9, q10, q11⟩, f, kT, ⟨t0, t1⟩, ⟨u1, u2, u3, u4, u5⟩⟩ := id hA
  have hok := hA.1.ls
  have loop : ∀ (c k s : Nat), k + c = nW ln → Q (some (zI ((fo (fun w s => s &&& scOf g.1 (w : Int)) c k s : Nat) : Int))) M → P none mX10_seenByAll 19 [.ref 276, zI (s : Int), zI (k : Int)] []  M Q := by
    intro c
    induction c with
    | zero =>
      intro k s hk hq
      refine p_iload_n (i := 11) rfl rfl ?_
      refine p_aload_n (i := 12) rfl rfl ?_
      refine p_getf (i := 13) rfl fX10_7 kY rfl ?_
      refine p_iconst (i := 14) rfl ?_
      refine p_iaX (i := 15) (2) rfl kL (by omega) (by omega) (by decide) ?_
      refine p_icmp_ge (i := 16) 43 rfl (by decide) (by omega) (by omega) (fun c26 => ?_) (fun c26 => by exfalso; omega)
      refine p_iload_n (i := 25) rfl rfl ?_
      refine p_iret (i := 26) rfl rfl (rfl) ?_
      exact hq
    | succ c ih =>
      intro k s hk hq
      refine p_iload_n (i := 11) rfl rfl ?_
      refine p_aload_n (i := 12) rfl rfl ?_
      refine p_getf (i := 13) rfl fX10_7 kY rfl ?_
      refine p_iconst (i := 14) rfl ?_
      refine p_iaX (i := 15) (2) rfl kL (by omega) (by omega) (by decide) ?_
      refine p_icmp_ge (i := 16) 43 rfl (by decide) (by omega) (by omega) (fun c26 => by exfalso; omega) (fun c26 => ?_)
      refine p_iload_n (i := 17) rfl rfl ?_
      refine p_aload_n (i := 18) rfl rfl ?_
      refine p_iload_n (i := 19) rfl rfl ?_
      refine p_cV1 (i := 20) rfl ⟨lX10_165, rfl, rfl⟩ kY ⟨_, rfl, rfl⟩ rfl (y_sawBy hL.1 hA (by omega) ?_)
      refine p_iandN (i := 21) rfl ?_
      refine p_istore_n (i := 22) rfl rfl ?_
      refine p_iinc (i := 23) rfl rfl rfl ?_
      refine p_goto (i := 24) 19 rfl (by decide) ?_
      exact ih (k + 1) _ (by omega) hq
  unfold all_ at h
  refine C_of okX10_seenByAll (by decide) (Nat.le_of_ble_eq_true rfl) ?_
  show P none mX10_seenByAll 0 [.ref 276, .retAddr 0, .retAddr 0] [] _ _
  refine p_aload_n (i := 0) rfl rfl ?_
  refine p_getf (i := 1) rfl fX10_7 kY rfl ?_
  refine p_iconst (i := 2) rfl ?_
  refine p_iaX (i := 3) (2) rfl kL (by omega) (by omega) (by decide) ?_
  refine p_if_ne (i := 4) 13 rfl (by decide) (by omega) (fun c6 => ?_) (fun c6 => ?_)
  · refine p_sipush (i := 7) rfl (by decide) ?_
    refine p_istore_n (i := 8) rfl rfl ?_
    refine p_iconst (i := 9) rfl ?_
    refine p_istore_n (i := 10) rfl rfl ?_
    rw [if_neg (by omega)] at h
    refine loop (nW ln) 0 255 (by omega) ?_
    obtain ⟨m, hm⟩ : ∃ m, nW ln = m + 1 := ⟨nW ln - 1, by omega⟩
    rw [hm] at h ⊢
    show Q (some (zI ((fo (fun w s => s &&& scOf g.1 (w : Int)) m 1 (255 &&& scOf g.1 ((0 : Nat) : Int)) : Nat) : Int))) M
    have e : 255 &&& scOf g.1 ((0 : Nat) : Int) = scOf g.1 0 := by
      rw [Nat.and_comm]
      exact Nat.and_two_pow_sub_one_of_lt_two_pow (n := 8) (scOf_lt hok q10)
    rw [e]
    exact h
  · refine p_iconst (i := 5) rfl ?_
    refine p_goto (i := 6) 16 rfl (by decide) ?_
    refine p_istore_n (i := 8) rfl rfl ?_
    refine p_iconst (i := 9) rfl ?_
    refine p_istore_n (i := 10) rfl rfl ?_
    rw [if_pos (by omega)] at h
    refine loop (nW ln) 0 0 (by omega) ?_
    rw [show nW ln = 0 by omega]
    exact h
theorem y_kin {M : AM} {ln : LN} {g : GS} {w : Nat} {Q : Option Value → AM → Prop} (hL : YL M ln) (hA : YA M 279 (nS ln) (nW ln) g) (hw : w < nW ln) (h : Q (some (zI (kin_ (nW ln) g.1 w))) M) : C mX10_kin [.ref 276, zI (w : Int)] M Q := by
  obtain ⟨⟨uy, sy, zy, fy, my, by_, ay, gy, ny, hy_, vy, ry, kY⟩, ⟨o1, o2, o3, o4, o5, o6, o7⟩, lf, kL, l0, l1, l2, l3, l4⟩ := id hL
  obtain ⟨⟨q1, q2, q3, q4, q5, q6, q7, q8, q9, q10, q11⟩, f, kT, ⟨t0, t1⟩, ⟨u1, u2, u3, u4, u5⟩⟩ := id hA
  have hok := hA.1.ls
  have loop : ∀ (c k : Nat) (s : Int × Int) (x : Value), k + c = nW ln → 0 ≤ s.2 ∧ s.2 ≤ 10 → Q (some (zI (fo (kinStep g.1 w) c k s).1)) M → P none mX10_kin 7 [.ref 276, zI (w : Int), zI s.1, zI s.2, zI (k : Int), x] []  M Q := by
    intro c
    induction c with
    | zero =>
      intro k s x hk hs hq
      refine p_iload (i := 6) rfl rfl ?_
      refine p_aload_n (i := 7) rfl rfl ?_
      refine p_getf (i := 8) rfl fX10_7 kY rfl ?_
      refine p_iconst (i := 9) rfl ?_
      refine p_iaX (i := 10) (2) rfl kL (by omega) (by omega) (by decide) ?_
      refine p_icmp_ge (i := 11) 71 rfl (by decide) (by omega) (by omega) (fun c15 => ?_) (fun c15 => by exfalso; omega)
      refine p_iload_n (i := 39) rfl rfl ?_
      refine p_iret (i := 40) rfl rfl (rfl) ?_
      exact hq
    | succ c ih =>
      intro k s x hk hs hq
      have hq : Q (some (zI (fo (kinStep g.1 w) c (k + 1) (kinStep g.1 w k s)).1)) M := hq
      unfold kinStep at hq
      have hc := scOf_lt (w := (k : Int)) hok q10
      have hp10 := popc_le (scOf g.1 (w : Int) &&& scOf g.1 (k : Int))
      refine p_iload (i := 6) rfl rfl ?_
      refine p_aload_n (i := 7) rfl rfl ?_
      refine p_getf (i := 8) rfl fX10_7 kY rfl ?_
      refine p_iconst (i := 9) rfl ?_
      refine p_iaX (i := 10) (2) rfl kL (by omega) (by omega) (by decide) ?_
      refine p_icmp_ge (i := 11) 71 rfl (by decide) (by omega) (by omega) (fun c15 => by exfalso; omega) (fun c15 => ?_)
      refine p_iload (i := 12) rfl rfl ?_
      refine p_iload_n (i := 13) rfl rfl ?_
      refine p_icmp_ne (i := 14) 28 rfl (by decide) (by omega) (by omega) (fun c21 => ?_) (fun c21 => ?_)
      · refine p_aload_n (i := 17) rfl rfl ?_
        refine p_iload (i := 18) rfl rfl ?_
        refine p_cV1 (i := 19) rfl ⟨lX10_165, rfl, rfl⟩ kY ⟨_, rfl, rfl⟩ rfl (y_sawBy hL.1 hA (by omega) ?_)
        refine p_aload_n (i := 20) rfl rfl ?_
        refine p_iload_n (i := 21) rfl rfl ?_
        refine p_cV1 (i := 22) rfl ⟨lX10_165, rfl, rfl⟩ kY ⟨_, rfl, rfl⟩ rfl (y_sawBy hL.1 hA (by omega) ?_)
        refine p_iandN (i := 23) rfl ?_
        refine p_cS1 (i := 24) rfl ⟨lX10_169, rfl, rfl⟩ rfl (y_bits (Nat.lt_of_le_of_lt Nat.and_le_left (by omega)) ?_)
        rw [Nat.and_comm]
        refine p_istore (i := 25) rfl rfl ?_
        refine p_iload (i := 26) rfl rfl ?_
        refine p_iload_n (i := 27) rfl rfl ?_
        refine p_icmp_le (i := 28) 56 rfl (by decide) (by omega) (by omega) (fun c48 => ?_) (fun c48 => ?_)
        · refine p_iload_n (i := 31) rfl rfl ?_
          refine p_istore_n (i := 32) rfl rfl ?_
          refine p_iload_n (i := 33) rfl rfl ?_
          refine p_iload (i := 34) rfl rfl ?_
          refine p_cS2 (i := 35) rfl ⟨lX10_172, rfl, rfl⟩ rfl (y_greater (by omega) (by omega) ?_)
          rw [if_neg (by omega)] at hq
          refine p_istore_n (i := 36) rfl rfl ?_
          refine p_iinc (i := 37) rfl rfl rfl ?_
          refine p_goto (i := 38) 7 rfl (by decide) ?_
          rw [show max s.2 ((popc (scOf g.1 (w : Int) &&& scOf g.1 (k : Int)) : Nat) : Int) = s.2 by omega]
          exact ih (k + 1) s _ (by omega) hs hq
        · refine p_iload (i := 29) rfl rfl ?_
          refine p_goto (i := 30) 57 rfl (by decide) ?_
          refine p_istore_n (i := 32) rfl rfl ?_
          refine p_iload_n (i := 33) rfl rfl ?_
          refine p_iload (i := 34) rfl rfl ?_
          refine p_cS2 (i := 35) rfl ⟨lX10_172, rfl, rfl⟩ rfl (y_greater (by omega) (by omega) ?_)
          rw [if_pos (by omega)] at hq
          refine p_istore_n (i := 36) rfl rfl ?_
          refine p_iinc (i := 37) rfl rfl rfl ?_
          refine p_goto (i := 38) 7 rfl (by decide) ?_
          rw [show max s.2 ((popc (scOf g.1 (w : Int) &&& scOf g.1 (k : Int)) : Nat) : Int) = ((popc (scOf g.1 (w : Int) &&& scOf g.1 (k : Int)) : Nat) : Int) by omega]
          exact ih (k + 1) (_, _) _ (by omega) (by show (0 : Int) ≤ (popc _ : Nat) ∧ ((popc _ : Nat) : Int) ≤ 10; omega) hq
      · refine p_iconst (i := 15) rfl ?_
        refine p_goto (i := 16) 43 rfl (by decide) ?_
        refine p_istore (i := 25) rfl rfl ?_
        refine p_iload (i := 26) rfl rfl ?_
        refine p_iload_n (i := 27) rfl rfl ?_
        refine p_icmp_le (i := 28) 56 rfl (by decide) (by omega) (by omega) (fun c48 => ?_) (fun c48 => by exfalso; omega)
        refine p_iload_n (i := 31) rfl rfl ?_
        refine p_istore_n (i := 32) rfl rfl ?_
        refine p_iload_n (i := 33) rfl rfl ?_
        refine p_iload (i := 34) rfl rfl ?_
        refine p_cS2 (i := 35) rfl ⟨lX10_172, rfl, rfl⟩ rfl (y_greater (by omega) (by omega) ?_)
        rw [if_neg (by omega)] at hq
        refine p_istore_n (i := 36) rfl rfl ?_
        refine p_iinc (i := 37) rfl rfl rfl ?_
        refine p_goto (i := 38) 7 rfl (by decide) ?_
        rw [show max s.2 (0 : Int) = s.2 by omega]
        exact ih (k + 1) s _ (by omega) hs hq
  refine C_of okX10_kin (by decide) (Nat.le_of_ble_eq_true rfl) ?_
  show P none mX10_kin 0 [.ref 276, zI (w : Int), .retAddr 0, .retAddr 0, .retAddr 0, .retAddr 0] [] _ _
  refine p_iconst (i := 0) rfl ?_
  refine p_istore_n (i := 1) rfl rfl ?_
  refine p_iconst (i := 2) rfl ?_
  refine p_istore_n (i := 3) rfl rfl ?_
  refine p_iconst (i := 4) rfl ?_
  refine p_istore (i := 5) rfl rfl ?_
  exact loop (nW ln) 0 (-1, 0) _ (by omega) (by decide) h
theorem y_eyes {M : AM} {ns nw : Nat} {g : GS} {Q : Option Value → AM → Prop} (hH : YH M) (hA : YA M 279 ns nw g) (h : Q (some (zI (low g.1))) M) : C mX10_eyes [.ref 276] M Q := by
  obtain ⟨uy, sy, zy, fy, my, by_, ay, gy, ny, hy_, vy, ry, kY⟩ := id hH
  obtain ⟨⟨q1, q2, q3, q4, q5, q6, q7, q8, q9, q10, q11⟩, f, kT, ⟨t0, t1⟩, ⟨u1, u2, u3, u4, u5⟩⟩ := id hA
  have loop : ∀ (c k : Nat), k + c = g.1.length → Q (some (zI (fi (fun k => decide (lW g.1 k ≠ -1)) c k))) M → P none mX10_eyes 2 [.ref 276, zI (k : Int)] []  M Q := by
    intro c
    induction c with
    | zero =>
      intro k hk hq
      refine p_iload_n (i := 2) rfl rfl ?_
      refine p_aload_n (i := 3) rfl rfl ?_
      refine p_getf (i := 4) rfl fX10_16 kY rfl ?_
      refine p_iconst (i := 5) rfl ?_
      refine p_iaX (i := 6) (0) rfl kT (by omega) (by omega) (by decide) ?_
      refine p_icmp_ge (i := 7) 33 rfl (by decide) (by omega) (by omega) (fun c9 => ?_) (fun c9 => by exfalso; omega)
      refine p_iconst (i := 20) rfl ?_
      refine p_iret (i := 21) rfl rfl (rfl) ?_
      exact hq
    | succ c ih =>
      intro k hk hq
      obtain ⟨e1, e2, e3⟩ := t1 k (by omega)
      have e4 := q2 k (by omega)
      have hq : Q (some (zI (if decide (lW g.1 k ≠ -1) = true then (k : Int) else fi (fun k => decide (lW g.1 k ≠ -1)) c (k + 1)))) M := hq
      refine p_iload_n (i := 2) rfl rfl ?_
      refine p_aload_n (i := 3) rfl rfl ?_
      refine p_getf (i := 4) rfl fX10_16 kY rfl ?_
      refine p_iconst (i := 5) rfl ?_
      refine p_iaX (i := 6) (0) rfl kT (by omega) (by omega) (by decide) ?_
      refine p_icmp_ge (i := 7) 33 rfl (by decide) (by omega) (by omega) (fun c9 => by exfalso; omega) (fun c9 => ?_)
      refine p_aload_n (i := 8) rfl rfl ?_
      refine p_getf (i := 9) rfl fX10_16 kY rfl ?_
      refine p_bipush (i := 10) rfl (by decide) ?_
      refine p_iload_n (i := 11) rfl rfl ?_
      refine p_iadd (i := 12) rfl ?_
      refine p_iaX (i := 13) ((11 + k)) rfl kT (by omega) (by omega) (by decide) ?_
      refine p_iconst (i := 14) rfl ?_
      refine p_icmp_eq (i := 15) 27 rfl (by decide) (by omega) (by omega) (fun c22 => ?_) (fun c22 => ?_)
      · rw [if_neg (by rw [decide_eq_true_eq]; omega)] at hq
        refine p_iinc (i := 18) rfl rfl rfl ?_
        refine p_goto (i := 19) 2 rfl (by decide) ?_
        exact ih (k + 1) (by omega) hq
      · rw [if_pos (by rw [decide_eq_true_eq]; omega)] at hq
        refine p_iload_n (i := 16) rfl rfl ?_
        refine p_iret (i := 17) rfl rfl (rfl) ?_
        exact hq
  refine C_of okX10_eyes (by decide) (Nat.le_of_ble_eq_true rfl) ?_
  show P none mX10_eyes 0 [.ref 276, .retAddr 0] [] _ _
  refine p_iconst (i := 0) rfl ?_
  refine p_istore_n (i := 1) rfl rfl ?_
  exact loop g.1.length 0 (by omega) h
theorem tb_sb0 {Ls : List LY} (h : ∀ k, k < Ls.length → 0 ≤ lT Ls k) : fo (tbStep Ls 0 (-1)) Ls.length 0 (-1) = sb Ls 0 := by
  obtain ⟨⟨b, m⟩, e1⟩ : ∃ s, s = fo (sbStep Ls 0) Ls.length 0 (-1, 0) := ⟨_, rfl⟩
  obtain ⟨c, e2⟩ : ∃ s, s = fo (tbStep Ls 0 (-1)) Ls.length 0 (-1) := ⟨_, rfl⟩
  have hs : sb Ls 0 = b := by unfold sb; rw [← e1]
  rw [hs, ← e2]
  rcases tb_sb h Ls.length (Nat.le_refl _) b m c e1.symm e2.symm with ⟨i1, i2, i3⟩ | ⟨i1, i2, i3, i4⟩
  · omega
  · have := h b.toNat (by omega)
    rw [if_pos (by omega)] at i4
    exact i4
theorem y_strongest {M : AM} {ns nw : Nat} {g : GS} {Q : Option Value → AM → Prop} (hH : YH M) (hA : YA M 279 ns nw g) (h : Q (some (zI (sb g.1 0))) M) : C mX10_strongest [.ref 276] M Q := by
  obtain ⟨uy, sy, zy, fy, my, by_, ay, gy, ny, hy_, vy, ry, kY⟩ := id hH
  obtain ⟨⟨q1, q2, q3, q4, q5, q6, q7, q8, q9, q10, q11⟩, f, kT, ⟨t0, t1⟩, ⟨u1, u2, u3, u4, u5⟩⟩ := id hA
  have loop : ∀ (c k : Nat) (b : Int), k + c = g.1.length → -1 ≤ b ∧ b < k → Q (some (zI (fo (tbStep g.1 0 (-1)) c k b))) M → P none mX10_strongest 4 [.ref 276, zI b, zI (k : Int)] []  M Q := by
    intro c
    induction c with
    | zero =>
      intro k b hk hb hq
      refine p_iload_n (i := 4) rfl rfl ?_
      refine p_aload_n (i := 5) rfl rfl ?_
      refine p_getf (i := 6) rfl fX10_16 kY rfl ?_
      refine p_iconst (i := 7) rfl ?_
      refine p_iaX (i := 8) (0) rfl kT (by omega) (by omega) (by decide) ?_
      refine p_icmp_ge (i := 9) 52 rfl (by decide) (by omega) (by omega) (fun c11 => ?_) (fun c11 => by exfalso; omega)
      refine p_iload_n (i := 32) rfl rfl ?_
      refine p_iret (i := 33) rfl rfl (rfl) ?_
      exact hq
    | succ c ih =>
      intro k b hk hb hq
      obtain ⟨e1, e2, e3⟩ := t1 k (by omega)
      have e4 := q2 k (by omega)
      have hq : Q (some (zI (fo (tbStep g.1 0 (-1)) c (k + 1) (tbStep g.1 0 (-1) k b)))) M := hq
      have e0 : 0 / 2 ^ k % 2 = 0 := by rw [Nat.zero_div]
      refine p_iload_n (i := 4) rfl rfl ?_
      refine p_aload_n (i := 5) rfl rfl ?_
      refine p_getf (i := 6) rfl fX10_16 kY rfl ?_
      refine p_iconst (i := 7) rfl ?_
      refine p_iaX (i := 8) (0) rfl kT (by omega) (by omega) (by decide) ?_
      refine p_icmp_ge (i := 9) 52 rfl (by decide) (by omega) (by omega) (fun c11 => by exfalso; omega) (fun c11 => ?_)
      refine p_iload_n (i := 10) rfl rfl ?_
      refine p_iconst (i := 11) rfl ?_
      refine p_icmp_eq (i := 12) 40 rfl (by decide) (by omega) (by omega) (fun c16 => ?_) (fun c16 => ?_)
      · have es : tbStep g.1 0 (-1) k b = k := by unfold tbStep; rw [if_pos ⟨⟨e0, by omega⟩, Or.inl (by omega)⟩]
        rw [es] at hq
        refine p_iload_n (i := 26) rfl rfl ?_
        refine p_goto (i := 27) 45 rfl (by decide) ?_
        refine p_istore_n (i := 29) rfl rfl ?_
        refine p_iinc (i := 30) rfl rfl rfl ?_
        refine p_goto (i := 31) 4 rfl (by decide) ?_
        exact ih (k + 1) _ (by omega) (by omega) hq
      · obtain ⟨d1, d2, d3⟩ := t1 b.toNat (by omega)
        have d4 := q2 b.toNat (by omega)
        refine p_aload_n (i := 13) rfl rfl ?_
        refine p_getf (i := 14) rfl fX10_16 kY rfl ?_
        refine p_bipush (i := 15) rfl (by decide) ?_
        refine p_iload_n (i := 16) rfl rfl ?_
        refine p_iadd (i := 17) rfl ?_
        refine p_iaX (i := 18) ((21 + k)) rfl kT (by omega) (by omega) (by decide) ?_
        refine p_aload_n (i := 19) rfl rfl ?_
        refine p_getf (i := 20) rfl fX10_16 kY rfl ?_
        refine p_bipush (i := 21) rfl (by decide) ?_
        refine p_iload_n (i := 22) rfl rfl ?_
        refine p_iadd (i := 23) rfl ?_
        refine p_iaX (i := 24) (21 + b.toNat) rfl kT (by omega) (by omega) (by decide) ?_
        refine p_icmp_lt (i := 25) 44 rfl (by decide) (by omega) (by omega) (fun c37 => ?_) (fun c37 => ?_)
        · have es : tbStep g.1 0 (-1) k b = b := by unfold tbStep; rw [if_neg (by omega)]
          rw [es] at hq
          refine p_iload_n (i := 28) rfl rfl ?_
          refine p_istore_n (i := 29) rfl rfl ?_
          refine p_iinc (i := 30) rfl rfl rfl ?_
          refine p_goto (i := 31) 4 rfl (by decide) ?_
          exact ih (k + 1) _ (by omega) (by omega) hq
        · have es : tbStep g.1 0 (-1) k b = k := by unfold tbStep; rw [if_pos ⟨⟨e0, by omega⟩, Or.inr (by omega)⟩]
          rw [es] at hq
          refine p_iload_n (i := 26) rfl rfl ?_
          refine p_goto (i := 27) 45 rfl (by decide) ?_
          refine p_istore_n (i := 29) rfl rfl ?_
          refine p_iinc (i := 30) rfl rfl rfl ?_
          refine p_goto (i := 31) 4 rfl (by decide) ?_
          exact ih (k + 1) _ (by omega) (by omega) hq
  rw [← tb_sb0 (fun k hk => by have := q2 k hk; omega)] at h
  refine C_of okX10_strongest (by decide) (Nat.le_of_ble_eq_true rfl) ?_
  show P none mX10_strongest 0 [.ref 276, .retAddr 0, .retAddr 0] [] _ _
  refine p_iconst (i := 0) rfl ?_
  refine p_istore_n (i := 1) rfl rfl ?_
  refine p_iconst (i := 2) rfl ?_
  refine p_istore_n (i := 3) rfl rfl ?_
  exact loop g.1.length 0 (-1) (by omega) (by omega) h
theorem y_thick {M : AM} {ns nw : Nat} {g : GS} {Q : Option Value → AM → Prop} (hH : YH M) (hA : YA M 279 ns nw g) (h : Q (some (zI (thk g.1))) M) : C mX10_thick [.ref 276] M Q := by
  obtain ⟨uy, sy, zy, fy, my, by_, ay, gy, ny, hy_, vy, ry, kY⟩ := id hH
  obtain ⟨⟨q1, q2, q3, q4, q5, q6, q7, q8, q9, q10, q11⟩, f, kT, ⟨t0, t1⟩, ⟨u1, u2, u3, u4, u5⟩⟩ := id hA
  have loop : ∀ (c k : Nat) (s : Int × Int), k + c = g.1.length → 0 ≤ s.1 ∧ s.1 ≤ k → 0 ≤ s.2 ∧ s.2 ≤ k → Q (some (zI (fo (thStep g.1) c k s).1)) M → P none mX10_thick 6 [.ref 276, zI s.1, zI s.2, zI (k : Int)] []  M Q := by
    intro c
    induction c with
    | zero =>
      intro k s hk h1 h2 hq
      refine p_iload_n (i := 6) rfl rfl ?_
      refine p_aload_n (i := 7) rfl rfl ?_
      refine p_getf (i := 8) rfl fX10_16 kY rfl ?_
      refine p_iconst (i := 9) rfl ?_
      refine p_iaX (i := 10) (0) rfl kT (by omega) (by omega) (by decide) ?_
      refine p_icmp_ge (i := 11) 61 rfl (by decide) (by omega) (by omega) (fun c13 => ?_) (fun c13 => by exfalso; omega)
      refine p_iload_n (i := 41) rfl rfl ?_
      refine p_iret (i := 42) rfl rfl (rfl) ?_
      exact hq
    | succ c ih =>
      intro k s hk h1 h2 hq
      obtain ⟨e1, e2, e3⟩ := t1 k (by omega)
      have e4 := q2 k (by omega)
      have hq : Q (some (zI (fo (thStep g.1) c (k + 1) (thStep g.1 k s)).1)) M := hq
      unfold thStep at hq
      refine p_iload_n (i := 6) rfl rfl ?_
      refine p_aload_n (i := 7) rfl rfl ?_
      refine p_getf (i := 8) rfl fX10_16 kY rfl ?_
      refine p_iconst (i := 9) rfl ?_
      refine p_iaX (i := 10) (0) rfl kT (by omega) (by omega) (by decide) ?_
      refine p_icmp_ge (i := 11) 61 rfl (by decide) (by omega) (by omega) (fun c13 => by exfalso; omega) (fun c13 => ?_)
      refine p_iload_n (i := 12) rfl rfl ?_
      refine p_if_le (i := 13) 47 rfl (by decide) (by omega) (fun c17 => ?_) (fun c17 => ?_)
      · rw [if_neg (by omega)] at hq
        refine p_iconst (i := 33) rfl ?_
        refine p_istore_n (i := 34) rfl rfl ?_
        refine p_iload_n (i := 35) rfl rfl ?_
        refine p_iload_n (i := 36) rfl rfl ?_
        refine p_cS2 (i := 37) rfl ⟨lX10_172, rfl, rfl⟩ rfl (y_greater (by omega) (by omega) ?_)
        refine p_istore_n (i := 38) rfl rfl ?_
        refine p_iinc (i := 39) rfl rfl rfl ?_
        refine p_goto (i := 40) 6 rfl (by decide) ?_
        exact ih (k + 1) (_, _) (by omega) (by dsimp only; omega) (by dsimp only; omega) hq
      · obtain ⟨d1, d2, d3⟩ := t1 (k - 1) (by omega)
        have d4 := q2 (k - 1) (by omega)
        refine p_aload_n (i := 14) rfl rfl ?_
        refine p_getf (i := 15) rfl fX10_16 kY rfl ?_
        refine p_iconst (i := 16) rfl ?_
        refine p_iload_n (i := 17) rfl rfl ?_
        refine p_iadd (i := 18) rfl ?_
        refine p_iaX (i := 19) ((1 + k)) rfl kT (by omega) (by omega) (by decide) ?_
        refine p_aload_n (i := 20) rfl rfl ?_
        refine p_getf (i := 21) rfl fX10_16 kY rfl ?_
        refine p_iconst (i := 22) rfl ?_
        refine p_iload_n (i := 23) rfl rfl ?_
        refine p_iadd (i := 24) rfl ?_
        refine p_iconst (i := 25) rfl ?_
        refine p_isub (i := 26) rfl ?_
        refine p_iaX (i := 27) (1 + (k - 1)) rfl kT (by omega) (by omega) (by decide) ?_
        refine p_icmp_ne (i := 28) 47 rfl (by decide) (by omega) (by omega) (fun c38 => ?_) (fun c38 => ?_)
        · rw [if_neg (by omega)] at hq
          refine p_iconst (i := 33) rfl ?_
          refine p_istore_n (i := 34) rfl rfl ?_
          refine p_iload_n (i := 35) rfl rfl ?_
          refine p_iload_n (i := 36) rfl rfl ?_
          refine p_cS2 (i := 37) rfl ⟨lX10_172, rfl, rfl⟩ rfl (y_greater (by omega) (by omega) ?_)
          refine p_istore_n (i := 38) rfl rfl ?_
          refine p_iinc (i := 39) rfl rfl rfl ?_
          refine p_goto (i := 40) 6 rfl (by decide) ?_
          exact ih (k + 1) (_, _) (by omega) (by dsimp only; omega) (by dsimp only; omega) hq
        · rw [if_pos (by omega)] at hq
          refine p_iload_n (i := 29) rfl rfl ?_
          refine p_iconst (i := 30) rfl ?_
          refine p_iadd (i := 31) rfl ?_
          refine p_goto (i := 32) 48 rfl (by decide) ?_
          refine p_istore_n (i := 34) rfl rfl ?_
          refine p_iload_n (i := 35) rfl rfl ?_
          refine p_iload_n (i := 36) rfl rfl ?_
          refine p_cS2 (i := 37) rfl ⟨lX10_172, rfl, rfl⟩ rfl (y_greater (by omega) (by omega) ?_)
          refine p_istore_n (i := 38) rfl rfl ?_
          refine p_iinc (i := 39) rfl rfl rfl ?_
          refine p_goto (i := 40) 6 rfl (by decide) ?_
          exact ih (k + 1) (_, _) (by omega) (by dsimp only; omega) (by dsimp only; omega) hq
  refine C_of okX10_thick (by decide) (Nat.le_of_ble_eq_true rfl) ?_
  show P none mX10_thick 0 [.ref 276, .retAddr 0, .retAddr 0, .retAddr 0] [] _ _
  refine p_iconst (i := 0) rfl ?_
  refine p_istore_n (i := 1) rfl rfl ?_
  refine p_iconst (i := 2) rfl ?_
  refine p_istore_n (i := 3) rfl rfl ?_
  refine p_iconst (i := 4) rfl ?_
  refine p_istore_n (i := 5) rfl rfl ?_
  exact loop g.1.length 0 (0, 0) (by omega) (by decide) (by decide) h
theorem y_lookFor {M : AM} {ln : LN} {g : GS} {x : Int} {Q : Option Value → AM → Prop} (hL : YL M ln) (hA : YA M 279 (nS ln) (nW ln) g) (hx : -2147483648 ≤ x ∧ x ≤ 2147483647) (h : Q (some (zI (stf ln g.1 x : Nat))) M) : C mX10_lookFor [.ref 276, zI x] M Q := by
  obtain ⟨⟨uy, sy, zy, fy, my, by_, ay, gy, ny, hy_, vy, ry, kY⟩, ⟨o1, o2, o3, o4, o5, o6, o7⟩, lf, kL, l0, l1, l2, l3, l4⟩ := id hL
  have hok := hA.1.ls
  have loop : ∀ (c k s : Nat), k + c = nS ln → Q (some (zI ((fo (fun y s => if tk ln g.1 (y : Int) 0 0 = x then s ||| 2 ^ y else s) c k s : Nat) : Int))) M → P none mX10_lookFor 4 [.ref 276, zI x, zI (s : Int), zI (k : Int)] []  M Q := by
    intro c
    induction c with
    | zero =>
      intro k s hk hq
      refine p_iload_n (i := 4) rfl rfl ?_
      refine p_aload_n (i := 5) rfl rfl ?_
      refine p_getf (i := 6) rfl fX10_7 kY rfl ?_
      refine p_iconst (i := 7) rfl ?_
      refine p_iaX (i := 8) (1) rfl kL (by omega) (by omega) (by decide) ?_
      refine p_icmp_ge (i := 9) 39 rfl (by decide) (by omega) (by omega) (fun c11 => ?_) (fun c11 => by exfalso; omega)
      refine p_iload_n (i := 25) rfl rfl ?_
      refine p_iret (i := 26) rfl rfl (rfl) ?_
      exact hq
    | succ c ih =>
      intro k s hk hq
      have ht := tk_rng (ln := ln) (x := (k : Int)) (m := 0) (wi := 0) hok (Nat.le_refl _) (by omega)
      have hq : Q (some (zI ((fo (fun y s => if tk ln g.1 (y : Int) 0 0 = x then s ||| 2 ^ y else s) c (k + 1) (if tk ln g.1 (k : Int) 0 0 = x then s ||| 2 ^ k else s) : Nat) : Int))) M := hq
      refine p_iload_n (i := 4) rfl rfl ?_
      refine p_aload_n (i := 5) rfl rfl ?_
      refine p_getf (i := 6) rfl fX10_7 kY rfl ?_
      refine p_iconst (i := 7) rfl ?_
      refine p_iaX (i := 8) (1) rfl kL (by omega) (by omega) (by decide) ?_
      refine p_icmp_ge (i := 9) 39 rfl (by decide) (by omega) (by omega) (fun c11 => by exfalso; omega) (fun c11 => ?_)
      refine p_iload_n (i := 10) rfl rfl ?_
      refine p_aload_n (i := 11) rfl rfl ?_
      refine p_iload_n (i := 12) rfl rfl ?_
      refine p_cV1 (i := 13) rfl ⟨lX10_191, rfl, rfl⟩ kY ⟨_, rfl, rfl⟩ rfl (y_takesNow hL hA (by omega) ?_)
      refine p_iload_n (i := 14) rfl rfl ?_
      refine p_icmp_ne (i := 15) 30 rfl (by decide) (by omega) (by omega) (fun c21 => ?_) (fun c21 => ?_)
      · rw [if_neg c21] at hq
        refine p_iconst (i := 20) rfl ?_
        refine p_iorN (i := 21) rfl ?_
        refine p_istore_n (i := 22) rfl rfl ?_
        refine p_iinc (i := 23) rfl rfl rfl ?_
        refine p_goto (i := 24) 4 rfl (by decide) ?_
        rw [Nat.or_zero]
        exact ih (k + 1) s (by omega) hq
      · rw [if_pos c21] at hq
        refine p_iconst (i := 16) rfl ?_
        refine p_iload_n (i := 17) rfl rfl ?_
        refine p_ishl1 (i := 18) rfl (by omega) ?_
        refine p_goto (i := 19) 31 rfl (by decide) ?_
        refine p_iorN (i := 21) rfl ?_
        refine p_istore_n (i := 22) rfl rfl ?_
        refine p_iinc (i := 23) rfl rfl rfl ?_
        refine p_goto (i := 24) 4 rfl (by decide) ?_
        exact ih (k + 1) _ (by omega) hq
  refine C_of okX10_lookFor (by decide) (Nat.le_of_ble_eq_true rfl) ?_
  show P none mX10_lookFor 0 [.ref 276, zI x, .retAddr 0, .retAddr 0] [] _ _
  refine p_iconst (i := 0) rfl ?_
  refine p_istore_n (i := 1) rfl rfl ?_
  refine p_iconst (i := 2) rfl ?_
  refine p_istore_n (i := 3) rfl rfl ?_
  exact loop (nS ln) 0 0 (by omega) h
theorem y_refuses {M : AM} {ln : LN} {g : GS} {n : Int} {Q : Option Value → AM → Prop} (hL : YL M ln) (hA : YA M 279 (nS ln) (nW ln) g) (hn : -2147483648 ≤ n ∧ n ≤ 2147483647) (h : Q (some (zI (refs ln g n))) M) : C mX10_refuses [.ref 276, zI n] M Q := by
  obtain ⟨⟨uy, sy, zy, fy, my, by_, ay, gy, ny, hy_, vy, ry, kY⟩, ⟨o1, o2, o3, o4, o5, o6, o7⟩, lf, kL, l0, l1, l2, l3, l4⟩ := id hL
  obtain ⟨⟨q1, q2, q3, q4, q5, q6, q7, q8, q9, q10, q11⟩, f, kT, ⟨t0, t1⟩, ⟨u1, u2, u3, u4, u5⟩⟩ := id hA
  unfold refs at h
  refine C_of okX10_refuses (by decide) (Nat.le_of_ble_eq_true rfl) ?_
  show P none mX10_refuses 0 [.ref 276, zI n] [] _ _
  refine p_iload_n (i := 0) rfl rfl ?_
  refine p_i2l (i := 1) rfl (by omega) ?_
  refine p_lconst1 (i := 2) rfl ?_
  refine p_ldc2 (i := 3) rfl kX10_214 ?_
  refine p_cS3 (i := 4) rfl ⟨lX10_59, rfl, rfl⟩ rfl (y_in (by omega) (by omega) (by omega) (fun q => ?_) (fun q => ?_))
  · rw [if_neg (by omega)] at h
    refine p_if_ne (i := 5) 15 rfl (by decide) (by omega) (fun c9 => ?_) (fun c9 => by exfalso; omega)
    refine p_aload_n (i := 8) rfl rfl ?_
    refine p_getf (i := 9) rfl fX10_7 kY rfl ?_
    refine p_iconst (i := 10) rfl ?_
    refine p_iaX (i := 11) (0) rfl kL (by omega) (by omega) (by decide) ?_
    refine p_if_ne (i := 12) 29 rfl (by decide) (by omega) (fun c21 => ?_) (fun c21 => ?_)
    · rw [if_neg (by omega)] at h
      refine p_aload_n (i := 15) rfl rfl ?_
      refine p_getf (i := 16) rfl fX10_16 kY rfl ?_
      refine p_bipush (i := 17) rfl (by decide) ?_
      refine p_iaX (i := 18) (32) rfl kT (by omega) (by omega) (by decide) ?_
      refine p_ldc (i := 19) rfl kX10_217 ?_
      refine p_icmp_le (i := 20) 46 rfl (by decide) (by omega) (by omega) (fun c38 => ?_) (fun c38 => ?_)
      · rw [if_neg (by omega)] at h
        refine p_iconst (i := 23) rfl ?_
        refine p_iret (i := 24) rfl rfl (rfl) ?_
        exact h
      · rw [if_pos (by omega)] at h
        refine p_ldc (i := 21) rfl kX10_67 ?_
        refine p_goto (i := 22) 47 rfl (by decide) ?_
        refine p_iret (i := 24) rfl rfl (rfl) ?_
        exact h
    · rw [if_pos (by omega)] at h
      refine p_ldc (i := 13) rfl kX10_216 ?_
      refine p_goto (i := 14) 47 rfl (by decide) ?_
      refine p_iret (i := 24) rfl rfl (rfl) ?_
      exact h
  · rw [if_pos (by omega)] at h
    refine p_if_ne (i := 5) 15 rfl (by decide) (by omega) (fun c9 => by exfalso; omega) (fun c9 => ?_)
    refine p_ldc (i := 6) rfl kX10_63 ?_
    refine p_iret (i := 7) rfl rfl (rfl) ?_
    exact h
theorem y_isScene {M : AM} {ln : LN} {x : Int} {Q : Option Value → AM → Prop} (hL : YL M ln) (hx : -2147483648 ≤ x ∧ x ≤ 2147483647) (h1 : 0 ≤ x ∧ x < nS ln → Q (some (zI 1)) M) (h0 : ¬ (0 ≤ x ∧ x < nS ln) → Q (some (zI 0)) M) : C mX10_isScene [.ref 276, zI x] M Q := by
  obtain ⟨⟨uy, sy, zy, fy, my, by_, ay, gy, ny, hy_, vy, ry, kY⟩, ⟨o1, o2, o3, o4, o5, o6, o7⟩, lf, kL, l0, l1, l2, l3, l4⟩ := id hL
  refine C_of okX10_isScene (by decide) (Nat.le_of_ble_eq_true rfl) ?_
  show P none mX10_isScene 0 [.ref 276, zI x] [] _ _
  refine p_iload_n (i := 0) rfl rfl ?_
  refine p_i2l (i := 1) rfl (by omega) ?_
  refine p_lconst0 (i := 2) rfl ?_
  refine p_aload_n (i := 3) rfl rfl ?_
  refine p_getf (i := 4) rfl fX10_7 kY rfl ?_
  refine p_iconst (i := 5) rfl ?_
  refine p_iaX (i := 6) (1) rfl kL (by omega) (by omega) (by decide) ?_
  refine p_iconst (i := 7) rfl ?_
  refine p_isub (i := 8) rfl ?_
  refine p_i2l (i := 9) rfl (by omega) ?_
  refine p_cS3 (i := 10) rfl ⟨lX10_59, rfl, rfl⟩ rfl (y_in (by omega) (by omega) (by omega) (fun q => ?_) (fun q => ?_))
  · refine p_iret (i := 11) rfl rfl (by decide) ?_
    exact h1 (by omega)
  · refine p_iret (i := 11) rfl rfl (by decide) ?_
    exact h0 (by omega)
theorem y_isWearer {M : AM} {ln : LN} {x : Int} {Q : Option Value → AM → Prop} (hL : YL M ln) (hx : -2147483648 ≤ x ∧ x ≤ 2147483647) (h1 : 0 ≤ x ∧ x < nW ln → Q (some (zI 1)) M) (h0 : ¬ (0 ≤ x ∧ x < nW ln) → Q (some (zI 0)) M) : C mX10_isWearer [.ref 276, zI x] M Q := by
  obtain ⟨⟨uy, sy, zy, fy, my, by_, ay, gy, ny, hy_, vy, ry, kY⟩, ⟨o1, o2, o3, o4, o5, o6, o7⟩, lf, kL, l0, l1, l2, l3, l4⟩ := id hL
  refine C_of okX10_isWearer (by decide) (Nat.le_of_ble_eq_true rfl) ?_
  show P none mX10_isWearer 0 [.ref 276, zI x] [] _ _
  refine p_iload_n (i := 0) rfl rfl ?_
  refine p_i2l (i := 1) rfl (by omega) ?_
  refine p_lconst0 (i := 2) rfl ?_
  refine p_aload_n (i := 3) rfl rfl ?_
  refine p_getf (i := 4) rfl fX10_7 kY rfl ?_
  refine p_iconst (i := 5) rfl ?_
  refine p_iaX (i := 6) (2) rfl kL (by omega) (by omega) (by decide) ?_
  refine p_iconst (i := 7) rfl ?_
  refine p_isub (i := 8) rfl ?_
  refine p_i2l (i := 9) rfl (by omega) ?_
  refine p_cS3 (i := 10) rfl ⟨lX10_59, rfl, rfl⟩ rfl (y_in (by omega) (by omega) (by omega) (fun q => ?_) (fun q => ?_))
  · refine p_iret (i := 11) rfl rfl (by decide) ?_
    exact h1 (by omega)
  · refine p_iret (i := 11) rfl rfl (by decide) ?_
    exact h0 (by omega)
theorem y_isLayer {M : AM} {ns nw : Nat} {g : GS} {x : Int} {Q : Option Value → AM → Prop} (hH : YH M) (hA : YA M 279 ns nw g) (hx : -2147483648 ≤ x ∧ x ≤ 2147483647) (h1 : 0 ≤ x ∧ x < g.1.length → Q (some (zI 1)) M) (h0 : ¬ (0 ≤ x ∧ x < g.1.length) → Q (some (zI 0)) M) : C mX10_isLayer [.ref 276, zI x] M Q := by
  obtain ⟨uy, sy, zy, fy, my, by_, ay, gy, ny, hy_, vy, ry, kY⟩ := id hH
  obtain ⟨⟨q1, q2, q3, q4, q5, q6, q7, q8, q9, q10, q11⟩, f, kT, ⟨t0, t1⟩, ⟨u1, u2, u3, u4, u5⟩⟩ := id hA
  refine C_of okX10_isLayer (by decide) (Nat.le_of_ble_eq_true rfl) ?_
  show P none mX10_isLayer 0 [.ref 276, zI x] [] _ _
  refine p_iload_n (i := 0) rfl rfl ?_
  refine p_i2l (i := 1) rfl (by omega) ?_
  refine p_lconst0 (i := 2) rfl ?_
  refine p_aload_n (i := 3) rfl rfl ?_
  refine p_getf (i := 4) rfl fX10_16 kY rfl ?_
  refine p_iconst (i := 5) rfl ?_
  refine p_iaX (i := 6) (0) rfl kT (by omega) (by omega) (by decide) ?_
  refine p_iconst (i := 7) rfl ?_
  refine p_isub (i := 8) rfl ?_
  refine p_i2l (i := 9) rfl (by omega) ?_
  refine p_cS3 (i := 10) rfl ⟨lX10_59, rfl, rfl⟩ rfl (y_in (by omega) (by omega) (by omega) (fun q => ?_) (fun q => ?_))
  · refine p_iret (i := 11) rfl rfl (by decide) ?_
    exact h1 (by omega)
  · refine p_iret (i := 11) rfl rfl (by decide) ?_
    exact h0 (by omega)
