-- the reference: rows
theorem y_takesNow {M : AM} {ln : LN} {g : GS} {x : Int} {Q : Option Value → AM → Prop} (hL : YL M ln) (hA : YA M 279 (nS ln) (nW ln) g) (hx : 0 ≤ x ∧ x < nS ln) (h : Q (some (zI (tk ln g.1 x 0 0))) M) : C mX10_takesNow [.ref 276, zI x] M Q := by
  obtain ⟨⟨uy, sy, zy, fy, my, by_, ay, gy, ny, hy_, vy, ry, kY⟩, ⟨o1, o2, o3, o4, o5, o6, o7⟩, lf, kL, l0, l1, l2, l3, l4⟩ := id hL
  obtain ⟨⟨q1, q2, q3, q4, q5, q6, q7, q8, q9, q10, q11⟩, f, kT, ⟨t0, t1⟩, ⟨u1, u2, u3, u4, u5⟩⟩ := id hA
  refine C_of okX10_takesNow (by decide) (Nat.le_of_ble_eq_true rfl) ?_
  show P none mX10_takesNow 0 [.ref 276, zI x] [] _ _
  refine p_aload_n (i := 0) rfl rfl ?_
  refine p_aload_n (i := 1) rfl rfl ?_
  refine p_getf (i := 2) rfl fX10_16 kY rfl ?_
  refine p_iload_n (i := 3) rfl rfl ?_
  refine p_iconst (i := 4) rfl ?_
  refine p_aload_n (i := 5) rfl rfl ?_
  refine p_getf (i := 6) rfl fX10_7 kY rfl ?_
  refine p_iconst (i := 7) rfl ?_
  refine p_iaX (i := 8) (0) rfl kL (by omega) (by omega) (by decide) ?_
  refine p_cV4 (i := 9) rfl ⟨lX10_133, rfl, rfl⟩ kY ⟨_, rfl, rfl⟩ rfl (y_takesBy hL hA hx (m := 0) (by omega) (by omega) (wi := 0) (by decide) ?_)
  refine p_iret (i := 10) rfl rfl (rfl) ?_
  exact h
theorem y_strengthOn {M : AM} {t : Nat} {ns nw : Nat} {g : GS} {x : Int} {Q : Option Value → AM → Prop} (hA : YA M t ns nw g) (hx : -1 ≤ x ∧ x ≤ 10) (h : Q (some (zI (fo (stStep g.1 x) g.1.length 0 0))) M) : C mX10_strengthOn [.ref 276, .ref t, zI x] M Q := by
  obtain ⟨⟨q1, q2, q3, q4, q5, q6, q7, q8, q9, q10, q11⟩, f, kT, ⟨t0, t1⟩, ⟨u1, u2, u3, u4, u5⟩⟩ := id hA
  have loop : ∀ (f1 k : Nat) (s : Int), k + f1 = g.1.length → 0 ≤ s ∧ s ≤ 99 * k → Q (some (zI (fo (stStep g.1 x) f1 k s))) M → P none mX10_strengthOn 5 [.ref 276, .ref t, zI x, zI s, zI (k : Int)] []  M Q := by
    intro f1
    induction f1 with
    | zero =>
      intro k s hk hs hq
      refine p_iload (i := 4) rfl rfl ?_
      refine p_aload_n (i := 5) rfl rfl ?_
      refine p_iconst (i := 6) rfl ?_
      refine p_iaX (i := 7) (0) rfl kT (by omega) (by omega) (by decide) ?_
      refine p_icmp_ge (i := 8) 48 rfl (by decide) (by omega) (by omega) (fun c10 => ?_) (fun c10 => by exfalso; omega)
      refine p_iload_n (i := 31) rfl rfl ?_
      refine p_iret (i := 32) rfl rfl (rfl) ?_
      exact hq
    | succ f1 ih =>
      intro k s hk hs hq
      obtain ⟨e1, e2, e3⟩ := t1 k (by omega)
      have e4 := q2 k (by omega)
      have hq : Q (some (zI (fo (stStep g.1 x) f1 (k + 1) (stStep g.1 x k s)))) M := hq
      refine p_iload (i := 4) rfl rfl ?_
      refine p_aload_n (i := 5) rfl rfl ?_
      refine p_iconst (i := 6) rfl ?_
      refine p_iaX (i := 7) (0) rfl kT (by omega) (by omega) (by decide) ?_
      refine p_icmp_ge (i := 8) 48 rfl (by decide) (by omega) (by omega) (fun c10 => by exfalso; omega) (fun c10 => ?_)
      refine p_iload_n (i := 9) rfl rfl ?_
      refine p_iload_n (i := 10) rfl rfl ?_
      refine p_iconst (i := 11) rfl ?_
      refine p_icmp_eq (i := 12) 29 rfl (by decide) (by omega) (by omega) (fun c16 => ?_) (fun c16 => ?_)
      · have es : stStep g.1 x k s = s + lT g.1 k := by unfold stStep; rw [if_pos (by omega)]
        rw [es] at hq
        refine p_aload_n (i := 20) rfl rfl ?_
        refine p_bipush (i := 21) rfl (by decide) ?_
        refine p_iload (i := 22) rfl rfl ?_
        refine p_iadd (i := 23) rfl ?_
        refine p_iaX (i := 24) ((21 + k)) rfl kT (by omega) (by omega) (by decide) ?_
        refine p_goto (i := 25) 40 rfl (by decide) ?_
        refine p_iadd (i := 27) rfl ?_
        refine p_istore_n (i := 28) rfl rfl ?_
        refine p_iinc (i := 29) rfl rfl rfl ?_
        refine p_goto (i := 30) 5 rfl (by decide) ?_
        rw [e3]
        exact ih (k + 1) _ (by omega) (by omega) hq
      · refine p_aload_n (i := 13) rfl rfl ?_
        refine p_iconst (i := 14) rfl ?_
        refine p_iload (i := 15) rfl rfl ?_
        refine p_iadd (i := 16) rfl ?_
        refine p_iaX (i := 17) ((1 + k)) rfl kT (by omega) (by omega) (by decide) ?_
        refine p_iload_n (i := 18) rfl rfl ?_
        refine p_icmp_ne (i := 19) 39 rfl (by decide) (by omega) (by omega) (fun c26 => ?_) (fun c26 => ?_)
        · have es : stStep g.1 x k s = s + 0 := by unfold stStep; rw [if_neg (by omega)]; omega
          rw [es] at hq
          refine p_iconst (i := 26) rfl ?_
          refine p_iadd (i := 27) rfl ?_
          refine p_istore_n (i := 28) rfl rfl ?_
          refine p_iinc (i := 29) rfl rfl rfl ?_
          refine p_goto (i := 30) 5 rfl (by decide) ?_
          exact ih (k + 1) _ (by omega) (by omega) hq
        · have es : stStep g.1 x k s = s + lT g.1 k := by unfold stStep; rw [if_pos (by omega)]
          rw [es] at hq
          refine p_aload_n (i := 20) rfl rfl ?_
          refine p_bipush (i := 21) rfl (by decide) ?_
          refine p_iload (i := 22) rfl rfl ?_
          refine p_iadd (i := 23) rfl ?_
          refine p_iaX (i := 24) ((21 + k)) rfl kT (by omega) (by omega) (by decide) ?_
          refine p_goto (i := 25) 40 rfl (by decide) ?_
          refine p_iadd (i := 27) rfl ?_
          refine p_istore_n (i := 28) rfl rfl ?_
          refine p_iinc (i := 29) rfl rfl rfl ?_
          refine p_goto (i := 30) 5 rfl (by decide) ?_
          rw [e3]
          exact ih (k + 1) _ (by omega) (by omega) hq
  refine C_of okX10_strengthOn (by decide) (Nat.le_of_ble_eq_true rfl) ?_
  show P none mX10_strengthOn 0 [.ref 276, .ref t, zI x, .retAddr 0, .retAddr 0] [] _ _
  refine p_iconst (i := 0) rfl ?_
  refine p_istore_n (i := 1) rfl rfl ?_
  refine p_iconst (i := 2) rfl ?_
  refine p_istore (i := 3) rfl rfl ?_
  exact loop g.1.length 0 0 (by omega) (by omega) h
theorem y_darkOn {M : AM} {t : Nat} {ln : LN} {ns nw : Nat} {g : GS} {Q : Option Value → AM → Prop} (hL : YL M ln) (hA : YA M t ns nw g) (h : Q (some (zI (smAll g.1 / 10))) M) : C mX10_darkOn [.ref 276, .ref t] M Q := by
  obtain ⟨⟨uy, sy, zy, fy, my, by_, ay, gy, ny, hy_, vy, ry, kY⟩, ⟨o1, o2, o3, o4, o5, o6, o7⟩, lf, kL, l0, l1, l2, l3, l4⟩ := id hL
  have hsm := smAll_rng hA.1.ls
  refine C_of okX10_darkOn (by decide) (Nat.le_of_ble_eq_true rfl) ?_
  show P none mX10_darkOn 0 [.ref 276, .ref t] [] _ _
  refine p_aload_n (i := 0) rfl rfl ?_
  refine p_aload_n (i := 1) rfl rfl ?_
  refine p_iconst (i := 2) rfl ?_
  refine p_cV2 (i := 3) rfl ⟨lX10_137, rfl, rfl⟩ kY ⟨_, rfl, rfl⟩ rfl (y_strengthOn hA (by omega) ?_)
  rw [st_all]
  refine p_bipush (i := 4) rfl (by decide) ?_
  refine p_idiv (i := 5) rfl (by omega) (by omega) ?_
  refine p_iret (i := 6) rfl rfl (rfl) ?_
  exact h
theorem y_removes {M : AM} {t : Nat} {f : Nat → Int} {Ls : List LY} {k : Nat} {Q : Option Value → AM → Prop} (kT : M t = some (zA 120 f)) (hL : YLay f Ls) (hk : k < Ls.length) (hl : Ls.length ≤ 10) (h : ∀ M' f', M' t = some (zA 120 f') → YLay f' (Ls.eraseIdx k) → (∀ q, 31 ≤ q → f' q = f q) → FrI t 1 M M' → Q none M') : C mX10_removes [.ref t, zI (k : Int)] M Q := by
  obtain ⟨t0, t1⟩ := id hL
  have loop : ∀ (c j : Nat) (M1 : AM) (f1 : Nat → Int), j + c = Ls.length - 1 → k ≤ j → M1 t = some (zA 120 f1) → Sh f f1 k j → FrI t 1 M M1 → P none mX10_removes 2 [.ref t, zI (k : Int), zI (j : Int)] []  M1 Q := by
    intro c
    induction c with
    | zero =>
      intro j M f1 hj hkj kT hs fr
      have e0 : f1 0 = (Ls.length : Nat) := by rw [hs, if_neg (by omega)]; exact t0
      refine p_iload_n (i := 2) rfl rfl ?_
      refine p_aload_n (i := 3) rfl rfl ?_
      refine p_iconst (i := 4) rfl ?_
      refine p_iaX (i := 5) (0) rfl kT (by omega) (by omega) (by decide) ?_
      refine p_iconst (i := 6) rfl ?_
      refine p_isub (i := 7) rfl ?_
      refine p_icmp_ge (i := 8) 57 rfl (by decide) (by omega) (by omega) (fun c8 => ?_) (fun c8 => by exfalso; omega)
      refine p_aload_n (i := 47) rfl rfl ?_
      refine p_iconst (i := 48) rfl ?_
      refine p_dup2 (i := 49) rfl rfl rfl ?_
      refine p_iaX (i := 50) (0) rfl kT (by omega) (by omega) (by decide) ?_
      refine p_iconst (i := 51) rfl ?_
      refine p_isub (i := 52) rfl ?_
      refine p_isX (i := 53) (0) rfl kT (by omega) (by omega) (by decide) (P_gen fun M e => ?_)
      have fr := fr.up e (by omega)
      have kT := aupE e
      refine p_ret (i := 54) rfl rfl ?_
      rw [show j = Ls.length - 1 by omega] at hs
      exact h M _ kT (hL.er hk hl hs) (fun q hq => by rw [zup_n (by omega)]; exact hs.hi (by omega) q hq) fr
    | succ c ih =>
      intro j M f1 hj hkj kT hs fr
      have e0 : f1 0 = (Ls.length : Nat) := by rw [hs, if_neg (by omega)]; exact t0
      refine p_iload_n (i := 2) rfl rfl ?_
      refine p_aload_n (i := 3) rfl rfl ?_
      refine p_iconst (i := 4) rfl ?_
      refine p_iaX (i := 5) (0) rfl kT (by omega) (by omega) (by decide) ?_
      refine p_iconst (i := 6) rfl ?_
      refine p_isub (i := 7) rfl ?_
      refine p_icmp_ge (i := 8) 57 rfl (by decide) (by omega) (by omega) (fun c8 => by exfalso; omega) (fun c8 => ?_)
      refine p_aload_n (i := 9) rfl rfl ?_
      refine p_iconst (i := 10) rfl ?_
      refine p_iload_n (i := 11) rfl rfl ?_
      refine p_iadd (i := 12) rfl ?_
      refine p_aload_n (i := 13) rfl rfl ?_
      refine p_iconst (i := 14) rfl ?_
      refine p_iload_n (i := 15) rfl rfl ?_
      refine p_iadd (i := 16) rfl ?_
      refine p_iconst (i := 17) rfl ?_
      refine p_iadd (i := 18) rfl ?_
      refine p_iaX (i := 19) (((1 + j) + 1)) rfl kT (by omega) (by omega) (by decide) ?_
      refine p_isX (i := 20) ((1 + j)) rfl kT (by omega) (by omega) (by decide) (P_gen fun M e => ?_)
      have fr := fr.up e (by omega)
      have kT := aupE e
      refine p_aload_n (i := 21) rfl rfl ?_
      refine p_bipush (i := 22) rfl (by decide) ?_
      refine p_iload_n (i := 23) rfl rfl ?_
      refine p_iadd (i := 24) rfl ?_
      refine p_aload_n (i := 25) rfl rfl ?_
      refine p_bipush (i := 26) rfl (by decide) ?_
      refine p_iload_n (i := 27) rfl rfl ?_
      refine p_iadd (i := 28) rfl ?_
      refine p_iconst (i := 29) rfl ?_
      refine p_iadd (i := 30) rfl ?_
      refine p_iaX (i := 31) (((11 + j) + 1)) rfl kT (by omega) (by omega) (by decide) ?_
      refine p_isX (i := 32) ((11 + j)) rfl kT (by omega) (by omega) (by decide) (P_gen fun M e => ?_)
      have fr := fr.up e (by omega)
      have kT := aupE e
      refine p_aload_n (i := 33) rfl rfl ?_
      refine p_bipush (i := 34) rfl (by decide) ?_
      refine p_iload_n (i := 35) rfl rfl ?_
      refine p_iadd (i := 36) rfl ?_
      refine p_aload_n (i := 37) rfl rfl ?_
      refine p_bipush (i := 38) rfl (by decide) ?_
      refine p_iload_n (i := 39) rfl rfl ?_
      refine p_iadd (i := 40) rfl ?_
      refine p_iconst (i := 41) rfl ?_
      refine p_iadd (i := 42) rfl ?_
      refine p_iaX (i := 43) (((21 + j) + 1)) rfl kT (by omega) (by omega) (by decide) ?_
      refine p_isX (i := 44) ((21 + j)) rfl kT (by omega) (by omega) (by decide) (P_gen fun M e => ?_)
      have fr := fr.up e (by omega)
      have kT := aupE e
      refine p_iinc (i := 45) rfl rfl rfl ?_
      refine p_goto (i := 46) 2 rfl (by decide) ?_
      exact ih (j + 1) M _ (by omega) (by omega) kT (hs.step hkj (by omega)) fr
  refine C_of okX10_removes (by decide) (Nat.le_of_ble_eq_true rfl) ?_
  show P none mX10_removes 0 [.ref t, zI (k : Int), .retAddr 0] [] _ _
  refine p_iload_n (i := 0) rfl rfl ?_
  refine p_istore_n (i := 1) rfl rfl ?_
  exact loop (Ls.length - 1 - k) k M f (by omega) (Nat.le_refl _) kT Sh.rf FrI.rf
theorem y_lays {M : AM} {t ns nw : Nat} {f : Nat → Int} {Ls : List LY} {x w s : Int} {Q : Option Value → AM → Prop} (kT : M t = some (zA 120 f)) (hL : YLay f Ls) (hok : LsOk ns nw Ls) (h : ∀ M' f', M' t = some (zA 120 f') → YLay f' (layL Ls (x, w, s)) → (∀ q, 31 ≤ q → f' q = f q) → FrI t 1 M M' → Q none M') : C mX10_lays [.ref t, zI x, zI w, zI s] M Q := by
  obtain ⟨t0, t1⟩ := id hL
  have hl := hok.1
  have tail : ∀ (M1 : AM) (f1 : Nat → Int) (L1 : List LY) (v4 v5 : Value), M1 t = some (zA 120 f1) → YLay f1 L1 → L1.length < 10 → layL Ls (x, w, s) = L1 ++ [(x, w, s)] → (∀ q, 31 ≤ q → f1 q = f q) → FrI t 1 M M1 → okS [.ref t, zI x, zI w, zI s, v4, v5] 4 = true → P none mX10_lays 59 [.ref t, zI x, zI w, zI s, v4, v5] []  M1 Q := by
    intro M f1 L1 v4 v5 kT hY hl1 hE ho fr hb
    obtain ⟨a0, a1⟩ := id hY
    refine p_aload_n (i := 32) rfl rfl ?_
    refine p_iconst (i := 33) rfl ?_
    refine p_iaX (i := 34) (0) rfl kT (by omega) (by omega) (by decide) ?_
    rw [a0]
    refine p_istore (i := 35) rfl hb ?_
    refine p_aload_n (i := 36) rfl rfl ?_
    refine p_iconst (i := 37) rfl ?_
    refine p_iload (i := 38) rfl rfl ?_
    refine p_iadd (i := 39) rfl ?_
    refine p_iload_n (i := 40) rfl rfl ?_
    refine p_isX (i := 41) ((1 + L1.length)) rfl kT (by omega) (by omega) (by decide) (P_gen fun M e => ?_)
    have fr := fr.up e (by omega)
    have kT := aupE e
    refine p_aload_n (i := 42) rfl rfl ?_
    refine p_bipush (i := 43) rfl (by decide) ?_
    refine p_iload (i := 44) rfl rfl ?_
    refine p_iadd (i := 45) rfl ?_
    refine p_iload_n (i := 46) rfl rfl ?_
    refine p_isX (i := 47) ((11 + L1.length)) rfl kT (by omega) (by omega) (by decide) (P_gen fun M e => ?_)
    have fr := fr.up e (by omega)
    have kT := aupE e
    refine p_aload_n (i := 48) rfl rfl ?_
    refine p_bipush (i := 49) rfl (by decide) ?_
    refine p_iload (i := 50) rfl rfl ?_
    refine p_iadd (i := 51) rfl ?_
    refine p_iload_n (i := 52) rfl rfl ?_
    refine p_isX (i := 53) ((21 + L1.length)) rfl kT (by omega) (by omega) (by decide) (P_gen fun M e => ?_)
    have fr := fr.up e (by omega)
    have kT := aupE e
    refine p_aload_n (i := 54) rfl rfl ?_
    refine p_iconst (i := 55) rfl ?_
    refine p_dup2 (i := 56) rfl rfl rfl ?_
    refine p_iaX (i := 57) (0) rfl kT (by omega) (by omega) (by decide) ?_
    refine p_iconst (i := 58) rfl ?_
    refine p_iadd (i := 59) rfl ?_
    refine p_isX (i := 60) (0) rfl kT (by omega) (by omega) (by decide) (P_gen fun M e => ?_)
    have fr := fr.up e (by omega)
    have kT := aupE e
    refine p_ret (i := 61) rfl rfl ?_
    refine h M _ kT ?_ (fun q hq => ?_) fr
    · rw [hE]
      refine hY.app hl1 _ ?_ ?_ ?_ ?_ (fun q z0 z1 z2 z3 => ?_)
      · rw [zup_n (by omega), zup_n (by omega), zup_n (by omega), zup_e]
      · rw [zup_n (by omega), zup_n (by omega), zup_e]
      · rw [zup_n (by omega), zup_e]
      · rw [zup_e, zup_n (by omega), zup_n (by omega), zup_n (by omega), a0]
      · rw [zup_n (by omega), zup_n (by omega), zup_n (by omega), zup_n (by omega)]
    · rw [zup_n (by omega), zup_n (by omega), zup_n (by omega), zup_n (by omega)]
      exact ho q hq
  have loop : ∀ (c k b : Nat), k + c = 10 → Ls.length = 10 → b < 10 → wk Ls = (fo (wmStep Ls) c k b : Nat) → P none mX10_lays 14 [.ref t, zI x, zI w, zI s, zI (b : Int), zI (k : Int)] []  M Q := by
    intro c
    induction c with
    | zero =>
      intro k b hk hl10 hb hw
      have hw : wk Ls = (b : Nat) := hw
      refine p_iload (i := 9) rfl rfl ?_
      refine p_bipush (i := 10) rfl (by decide) ?_
      refine p_icmp_ge (i := 11) 53 rfl (by decide) (by omega) (by omega) (fun c18 => ?_) (fun c18 => by exfalso; omega)
      refine p_aload_n (i := 29) rfl rfl ?_
      refine p_iload (i := 30) rfl rfl ?_
      refine p_cS2 (i := 31) rfl ⟨lX10_141, rfl, rfl⟩ rfl (y_removes kT hL (by omega) (by omega) (fun M1 f1 kT1 hY1 ho1 fr1 => ?_))
      refine tail M1 f1 (Ls.eraseIdx b) _ _ kT1 hY1 (by rw [er_len (by omega)]; omega) ?_ ho1 fr1 rfl
      unfold layL
      rw [if_pos (by omega), hw, Int.toNat_natCast]
    | succ c ih =>
      intro k b hk hl10 hb hw
      have hw : wk Ls = (fo (wmStep Ls) c (k + 1) (wmStep Ls k b) : Nat) := hw
      obtain ⟨e1, e2, e3⟩ := t1 k (by omega)
      obtain ⟨d1, d2, d3⟩ := t1 b (by omega)
      have e4 := hok.at k (by omega)
      have d4 := hok.at b (by omega)
      refine p_iload (i := 9) rfl rfl ?_
      refine p_bipush (i := 10) rfl (by decide) ?_
      refine p_icmp_ge (i := 11) 53 rfl (by decide) (by omega) (by omega) (fun c18 => by exfalso; omega) (fun c18 => ?_)
      refine p_aload_n (i := 12) rfl rfl ?_
      refine p_bipush (i := 13) rfl (by decide) ?_
      refine p_iload (i := 14) rfl rfl ?_
      refine p_iadd (i := 15) rfl ?_
      refine p_iaX (i := 16) ((21 + k)) rfl kT (by omega) (by omega) (by decide) ?_
      refine p_aload_n (i := 17) rfl rfl ?_
      refine p_bipush (i := 18) rfl (by decide) ?_
      refine p_iload (i := 19) rfl rfl ?_
      refine p_iadd (i := 20) rfl ?_
      refine p_iaX (i := 21) ((21 + b)) rfl kT (by omega) (by omega) (by decide) ?_
      refine p_icmp_ge (i := 22) 43 rfl (by decide) (by omega) (by omega) (fun c35 => ?_) (fun c35 => ?_)
      · have es : wmStep Ls k b = b := by unfold wmStep; rw [if_neg (by omega)]
        rw [es] at hw
        refine p_iload (i := 25) rfl rfl ?_
        refine p_istore (i := 26) rfl rfl ?_
        refine p_iinc (i := 27) rfl rfl rfl ?_
        refine p_goto (i := 28) 14 rfl (by decide) ?_
        exact ih (k + 1) b (by omega) hl10 hb hw
      · have es : wmStep Ls k b = k := by unfold wmStep; rw [if_pos (by omega)]
        rw [es] at hw
        refine p_iload (i := 23) rfl rfl ?_
        refine p_goto (i := 24) 45 rfl (by decide) ?_
        refine p_istore (i := 26) rfl rfl ?_
        refine p_iinc (i := 27) rfl rfl rfl ?_
        refine p_goto (i := 28) 14 rfl (by decide) ?_
        exact ih (k + 1) k (by omega) hl10 (by omega) hw
  refine C_of okX10_lays (by decide) (Nat.le_of_ble_eq_true rfl) ?_
  show P none mX10_lays 0 [.ref t, zI x, zI w, zI s, .retAddr 0, .retAddr 0] [] _ _
  refine p_aload_n (i := 0) rfl rfl ?_
  refine p_iconst (i := 1) rfl ?_
  refine p_iaX (i := 2) (0) rfl kT (by omega) (by omega) (by decide) ?_
  refine p_bipush (i := 3) rfl (by decide) ?_
  refine p_icmp_ne (i := 4) 59 rfl (by decide) (by omega) (by omega) (fun c5 => ?_) (fun c5 => ?_)
  · exact tail M f Ls _ _ kT hL (by omega) (by unfold layL; rw [if_neg (by omega)]) (fun _ _ => rfl) FrI.rf rfl
  · refine p_iconst (i := 5) rfl ?_
    refine p_istore (i := 6) rfl rfl ?_
    refine p_iconst (i := 7) rfl ?_
    refine p_istore (i := 8) rfl rfl ?_
    exact loop 9 1 0 (by omega) (by omega) (by omega) (wk_ten (by omega) (by have := hok.at 0 (by omega); omega))
theorem y_logs {M : AM} {t : Nat} {f : Nat → Int} {r : Int × Int × List Int × List (Int × Int × Int × Int)} {w x k0 : Int} {Q : Option Value → AM → Prop} (kT : M t = some (zA 120 f)) (hR : YRst f r) (hl : r.2.2.2.length ≤ 20) (h : ∀ M' f', M' t = some (zA 120 f') → YRst f' (r.1, r.2.1, r.2.2.1, logAdd r.2.2.2 (r.2.1, w, x, k0)) → (∀ q, q < 39 → f' q = f q) → FrI t 1 M M' → Q none M') : C mX10_logs [.ref t, zI w, zI x, zI k0] M Q := by
  obtain ⟨u1, u2, u3, u4, u5⟩ := id hR
  have tail : ∀ (M1 : AM) (f1 : Nat → Int) (lg : List (Int × Int × Int × Int)) (v4 : Value), M1 t = some (zA 120 f1) → lg.length < 20 → logAdd r.2.2.2 (r.2.1, w, x, k0) = lg ++ [(r.2.1, w, x, k0)] → f1 39 = (lg.length : Nat) → (∀ q, q < 39 → f1 q = f q) → (∀ i, i < lg.length → f1 (40 + 4 * i) = (lg.getD i (0, 0, 0, 0)).1 ∧ f1 (40 + 4 * i + 1) = (lg.getD i (0, 0, 0, 0)).2.1 ∧ f1 (40 + 4 * i + 2) = (lg.getD i (0, 0, 0, 0)).2.2.1 ∧ f1 (40 + 4 * i + 3) = (lg.getD i (0, 0, 0, 0)).2.2.2) → FrI t 1 M M1 → P none mX10_logs 49 [.ref t, zI w, zI x, zI k0, v4] []  M1 Q := by
    intro M f1 lg v4 kT hl1 hE a0 ho ha fr
    have ey : f1 32 = r.2.1 := by rw [ho _ (by omega)]; exact u2
    refine p_bipush (i := 31) rfl (by decide) ?_
    refine p_iconst (i := 32) rfl ?_
    refine p_aload_n (i := 33) rfl rfl ?_
    refine p_bipush (i := 34) rfl (by decide) ?_
    refine p_iaX (i := 35) (39) rfl kT (by omega) (by omega) (by decide) ?_
    refine p_imul (i := 36) rfl ?_
    refine p_iadd (i := 37) rfl ?_
    rw [a0]
    refine p_top (b := ((40 + 4 * lg.length : Nat) : Int)) (by omega) ?_
    refine p_istore (i := 38) rfl rfl ?_
    refine p_aload_n (i := 39) rfl rfl ?_
    refine p_iload (i := 40) rfl rfl ?_
    refine p_aload_n (i := 41) rfl rfl ?_
    refine p_bipush (i := 42) rfl (by decide) ?_
    refine p_iaX (i := 43) (32) rfl kT (by omega) (by omega) (by decide) ?_
    refine p_isX (i := 44) (40 + 4 * lg.length) rfl kT (by omega) (by omega) (by decide) (P_gen fun M e => ?_)
    have fr := fr.up e (by omega)
    have kT := aupE e
    refine p_aload_n (i := 45) rfl rfl ?_
    refine p_iload (i := 46) rfl rfl ?_
    refine p_iconst (i := 47) rfl ?_
    refine p_iadd (i := 48) rfl ?_
    refine p_iload_n (i := 49) rfl rfl ?_
    refine p_isX (i := 50) ((40 + 4 * lg.length + 1)) rfl kT (by omega) (by omega) (by decide) (P_gen fun M e => ?_)
    have fr := fr.up e (by omega)
    have kT := aupE e
    refine p_aload_n (i := 51) rfl rfl ?_
    refine p_iload (i := 52) rfl rfl ?_
    refine p_iconst (i := 53) rfl ?_
    refine p_iadd (i := 54) rfl ?_
    refine p_iload_n (i := 55) rfl rfl ?_
    refine p_isX (i := 56) ((40 + 4 * lg.length + 2)) rfl kT (by omega) (by omega) (by decide) (P_gen fun M e => ?_)
    have fr := fr.up e (by omega)
    have kT := aupE e
    refine p_aload_n (i := 57) rfl rfl ?_
    refine p_iload (i := 58) rfl rfl ?_
    refine p_iconst (i := 59) rfl ?_
    refine p_iadd (i := 60) rfl ?_
    refine p_iload_n (i := 61) rfl rfl ?_
    refine p_isX (i := 62) ((40 + 4 * lg.length + 3)) rfl kT (by omega) (by omega) (by decide) (P_gen fun M e => ?_)
    have fr := fr.up e (by omega)
    have kT := aupE e
    refine p_aload_n (i := 63) rfl rfl ?_
    refine p_bipush (i := 64) rfl (by decide) ?_
    refine p_dup2 (i := 65) rfl rfl rfl ?_
    refine p_iaX (i := 66) (39) rfl kT (by omega) (by omega) (by decide) ?_
    refine p_iconst (i := 67) rfl ?_
    refine p_iadd (i := 68) rfl ?_
    refine p_isX (i := 69) (39) rfl kT (by omega) (by omega) (by decide) (P_gen fun M e => ?_)
    have fr := fr.up e (by omega)
    have kT := aupE e
    refine p_ret (i := 70) rfl rfl ?_
    rw [ey] at kT
    refine h M _ kT ⟨?_, ?_, fun j hj => ?_, ?_, fun i hi => ?_⟩ (fun q hq => ?_) fr
    · rw [zup_n (by omega), zup_n (by omega), zup_n (by omega), zup_n (by omega), zup_n (by omega), ho _ (by omega)]; exact u1
    · rw [zup_n (by omega), zup_n (by omega), zup_n (by omega), zup_n (by omega), zup_n (by omega), ho _ (by omega)]; exact u2
    · rw [zup_n (by omega), zup_n (by omega), zup_n (by omega), zup_n (by omega), zup_n (by omega), ho _ (by omega)]; exact u3 j hj
    · show zup _ _ _ 39 = ((logAdd r.2.2.2 (r.2.1, w, x, k0)).length : Nat)
      rw [zup_e, zup_n (by omega), zup_n (by omega), zup_n (by omega), zup_n (by omega), a0, hE]
      simp
    · have hi : i < (logAdd r.2.2.2 (r.2.1, w, x, k0)).length := hi
      show zup _ _ _ (40 + 4 * i) = ((logAdd r.2.2.2 (r.2.1, w, x, k0)).getD i (0, 0, 0, 0)).1 ∧ _ = ((logAdd r.2.2.2 (r.2.1, w, x, k0)).getD i (0, 0, 0, 0)).2.1 ∧ _ = ((logAdd r.2.2.2 (r.2.1, w, x, k0)).getD i (0, 0, 0, 0)).2.2.1 ∧ _ = ((logAdd r.2.2.2 (r.2.1, w, x, k0)).getD i (0, 0, 0, 0)).2.2.2
      rw [hE] at hi ⊢
      have hi : i < lg.length + 1 := by simpa using hi
      rw [gd_app hi]
      by_cases c : i = lg.length
      · subst c
        rw [if_pos rfl]
        refine ⟨?_, ?_, ?_, ?_⟩
        · rw [zup_n (by omega), zup_n (by omega), zup_n (by omega), zup_n (by omega), zup_e]
        · rw [zup_n (by omega), zup_n (by omega), zup_n (by omega), zup_e]
        · rw [zup_n (by omega), zup_n (by omega), zup_e]
        · rw [zup_n (by omega), zup_e]
      · rw [if_neg c]
        rw [zup_n (by omega), zup_n (by omega), zup_n (by omega), zup_n (by omega), zup_n (by omega)]
        rw [zup_n (by omega), zup_n (by omega), zup_n (by omega), zup_n (by omega), zup_n (by omega)]
        rw [zup_n (by omega), zup_n (by omega), zup_n (by omega), zup_n (by omega), zup_n (by omega)]
        rw [zup_n (by omega), zup_n (by omega), zup_n (by omega), zup_n (by omega), zup_n (by omega)]
        exact ha i (by omega)
    · rw [zup_n (by omega), zup_n (by omega), zup_n (by omega), zup_n (by omega), zup_n (by omega)]; exact ho q hq
  have loop : ∀ (c k : Nat) (M1 : AM) (f1 : Nat → Int), k + c = 76 → r.2.2.2.length = 20 → M1 t = some (zA 120 f1) → (∀ q, f1 q = if 40 ≤ q ∧ q < 40 + k then f (q + 4) else f q) → FrI t 1 M M1 → P none mX10_logs 12 [.ref t, zI w, zI x, zI k0, zI (k : Int)] []  M1 Q := by
    intro c
    induction c with
    | zero =>
      intro k M f1 hk h20 kT hf fr
      obtain rfl : k = 76 := by omega
      have e39 : f1 39 = 20 := by rw [hf, if_neg (by omega), u4]; omega
      refine p_iload (i := 7) rfl rfl ?_
      refine p_bipush (i := 8) rfl (by decide) ?_
      refine p_icmp_ge (i := 9) 41 rfl (by decide) (by omega) (by omega) (fun c16 => ?_) (fun c16 => by exfalso; omega)
      refine p_aload_n (i := 24) rfl rfl ?_
      refine p_bipush (i := 25) rfl (by decide) ?_
      refine p_dup2 (i := 26) rfl rfl rfl ?_
      refine p_iaX (i := 27) (39) rfl kT (by omega) (by omega) (by decide) ?_
      refine p_iconst (i := 28) rfl ?_
      refine p_isub (i := 29) rfl ?_
      refine p_isX (i := 30) (39) rfl kT (by omega) (by omega) (by decide) (P_gen fun M e => ?_)
      have fr := fr.up e (by omega)
      have kT := aupE e
      have el : (r.2.2.2.drop 1).length = 19 := by rw [List.length_drop, h20]
      refine tail M _ (r.2.2.2.drop 1) _ kT (by omega) (by unfold logAdd; rw [if_pos h20]) ?_ (fun q hq => ?_) (fun i hi => ?_) fr
      · rw [zup_e, e39, el]; rfl
      · rw [zup_n (by omega), hf, if_neg (by omega)]
      · rw [gd_drop]
        have := u5 (1 + i) (by omega)
        rw [zup_n (by omega), zup_n (by omega), zup_n (by omega), zup_n (by omega), hf, hf, hf, hf, if_pos (by omega), if_pos (by omega), if_pos (by omega), if_pos (by omega)]
        rw [show 40 + 4 * i + 4 = 40 + 4 * (1 + i) by omega, show 40 + 4 * i + 1 + 4 = 40 + 4 * (1 + i) + 1 by omega, show 40 + 4 * i + 2 + 4 = 40 + 4 * (1 + i) + 2 by omega, show 40 + 4 * i + 3 + 4 = 40 + 4 * (1 + i) + 3 by omega]
        exact this
    | succ c ih =>
      intro k M f1 hk h20 kT hf fr
      refine p_iload (i := 7) rfl rfl ?_
      refine p_bipush (i := 8) rfl (by decide) ?_
      refine p_icmp_ge (i := 9) 41 rfl (by decide) (by omega) (by omega) (fun c16 => by exfalso; omega) (fun c16 => ?_)
      refine p_aload_n (i := 10) rfl rfl ?_
      refine p_bipush (i := 11) rfl (by decide) ?_
      refine p_iload (i := 12) rfl rfl ?_
      refine p_iadd (i := 13) rfl ?_
      refine p_aload_n (i := 14) rfl rfl ?_
      refine p_bipush (i := 15) rfl (by decide) ?_
      refine p_iload (i := 16) rfl rfl ?_
      refine p_iadd (i := 17) rfl ?_
      refine p_iconst (i := 18) rfl ?_
      refine p_iadd (i := 19) rfl ?_
      refine p_iaX (i := 20) (((40 + k) + 4)) rfl kT (by omega) (by omega) (by decide) ?_
      refine p_isX (i := 21) ((40 + k)) rfl kT (by omega) (by omega) (by decide) (P_gen fun M e => ?_)
      have fr := fr.up e (by omega)
      have kT := aupE e
      refine p_iinc (i := 22) rfl rfl rfl ?_
      refine p_goto (i := 23) 12 rfl (by decide) ?_
      refine ih (k + 1) M _ (by omega) h20 kT (fun q => ?_) fr
      by_cases c1 : q = 40 + k
      · rw [c1, zup_e, hf, if_neg (by omega), if_pos (by omega)]
      · rw [zup_n c1, hf]
        by_cases c2 : 40 ≤ q ∧ q < 40 + k
        · rw [if_pos c2, if_pos (by omega)]
        · rw [if_neg c2, if_neg (by omega)]
  refine C_of okX10_logs (by decide) (Nat.le_of_ble_eq_true rfl) ?_
  show P none mX10_logs 0 [.ref t, zI w, zI x, zI k0, .retAddr 0] [] _ _
  refine p_aload_n (i := 0) rfl rfl ?_
  refine p_bipush (i := 1) rfl (by decide) ?_
  refine p_iaX (i := 2) (39) rfl kT (by omega) (by omega) (by decide) ?_
  refine p_bipush (i := 3) rfl (by decide) ?_
  refine p_icmp_ne (i := 4) 49 rfl (by decide) (by omega) (by omega) (fun c6 => ?_) (fun c6 => ?_)
  · exact tail M f r.2.2.2 _ kT (by omega) (by unfold logAdd; rw [if_neg (by omega)]) u4 (fun _ _ => rfl) u5 FrI.rf
  · refine p_iconst (i := 5) rfl ?_
    refine p_istore (i := 6) rfl rfl ?_
    exact loop 76 0 M f (by omega) (by omega) kT (fun q => by rw [if_neg (by omega)]) FrI.rf
theorem y_nextScene {M : AM} {t : Nat} {ln : LN} {f : Nat → Int} {g : GS} {w : Int} {Q : Option Value → AM → Prop} (hL : YL M ln) (hA : YA M t (nS ln) (nW ln) g) (hw : 0 ≤ w ∧ w < nW ln) (h : Q (some (zI (nxt ln g w))) M) : C mX10_nextScene [.ref 276, .ref t, zI w] M Q := by
  obtain ⟨⟨uy, sy, zy, fy, my, by_, ay, gy, ny, hy_, vy, ry, kY⟩, ⟨o1, o2, o3, o4, o5, o6, o7⟩, lf, kL, l0, l1, l2, l3, l4⟩ := id hL
  obtain ⟨⟨q1, q2, q3, q4, q5, q6, q7, q8, q9, q10, q11⟩, f, kT, ⟨t0, t1⟩, ⟨u1, u2, u3, u4, u5⟩⟩ := id hA
  obtain ⟨n1, n2, n3⟩ := o6 w.toNat (by omega)
  obtain ⟨m1, m2⟩ := l4 w.toNat (by omega)
  have h8 := q8 w.toNat (by omega)
  have eh := u3 w.toNat (by omega)
  have hm : (g.2.2.2.1.getD w.toNat 0).toNat % lkN ln w.toNat < lkN ln w.toNat := Nat.mod_lt _ (by omega)
  refine C_of okX10_nextScene (by decide) (Nat.le_of_ble_eq_true rfl) ?_
  show P none mX10_nextScene 0 [.ref 276, .ref t, zI w] [] _ _
  refine p_aload_n (i := 0) rfl rfl ?_
  refine p_getf (i := 1) rfl fX10_7 kY rfl ?_
  refine p_bipush (i := 2) rfl (by decide) ?_
  refine p_bipush (i := 3) rfl (by decide) ?_
  refine p_iload_n (i := 4) rfl rfl ?_
  refine p_imul (i := 5) rfl ?_
  refine p_iadd (i := 6) rfl ?_
  refine p_aload_n (i := 7) rfl rfl ?_
  refine p_bipush (i := 8) rfl (by decide) ?_
  refine p_iload_n (i := 9) rfl rfl ?_
  refine p_iadd (i := 10) rfl ?_
  refine p_iaX (i := 11) (33 + w.toNat) rfl kT (by omega) (by omega) (by decide) ?_
  refine p_aload_n (i := 12) rfl rfl ?_
  refine p_getf (i := 13) rfl fX10_7 kY rfl ?_
  refine p_bipush (i := 14) rfl (by decide) ?_
  refine p_iload_n (i := 15) rfl rfl ?_
  refine p_iadd (i := 16) rfl ?_
  refine p_iaX (i := 17) (19 + w.toNat) rfl kL (by omega) (by omega) (by decide) ?_
  rw [eh, m1]
  have e1 : g.2.2.2.1.getD w.toNat 0 % ((lkN ln w.toNat : Nat) : Int) = (((g.2.2.2.1.getD w.toNat 0).toNat % lkN ln w.toNat : Nat) : Int) := by
    rw [Int.natCast_emod]
    congr 1
    omega
  refine p_irem (i := 18) rfl (by omega) (by omega) ?_
  refine p_iadd (i := 19) rfl ?_
  refine p_iaX (i := 20) (25 + 6 * w.toNat + (g.2.2.2.1.getD w.toNat 0).toNat % lkN ln w.toNat) rfl kL (by omega) (by omega) (by decide) ?_
  refine p_iret (i := 21) rfl rfl (rfl) ?_
  rw [m2 _ hm]
  exact h
theorem y_fading {M : AM} {k t o : Int} {y : Int} {Q : Option Value → AM → Prop} (hk : 0 ≤ k ∧ k ≤ 3) (ht : 0 ≤ t ∧ t ≤ 1000) (ho : (o = 1 ∧ y % 2 = 1) ∨ (o = 0 ∧ ¬ y % 2 = 1)) (h : Q (some (zI (fdg k t y))) M) : C mX10_fading [.ref 276, zI k, zI t, zI o] M Q := by
  have hc : k = 0 ∨ k = 1 ∨ k = 2 ∨ k = 3 := by omega
  refine C_of okX10_fading (by decide) (Nat.le_of_ble_eq_true rfl) ?_
  show P none mX10_fading 0 [.ref 276, zI k, zI t, zI o] [] _ _
  refine p_iload_n (i := 0) rfl rfl ?_
  rcases hc with rfl | rfl | rfl | rfl
  · refine p_tsIn (i := 1) 32 rfl (by omega) (by omega) (by rfl) (by decide) ?_
    refine p_iconst (i := 2) rfl ?_
    refine p_iret (i := 3) rfl rfl (rfl) ?_
    exact h
  ·
    refine p_tsIn (i := 1) 34 rfl (by omega) (by omega) (by rfl) (by decide) ?_
    refine p_iload_n (i := 4) rfl rfl ?_
    refine p_bipush (i := 5) rfl (by decide) ?_
    refine p_idiv (i := 6) rfl (by omega) (by omega) ?_
    refine p_iconst (i := 7) rfl ?_
    refine p_iadd (i := 8) rfl ?_
    refine p_iret (i := 9) rfl rfl (rfl) ?_
    exact h
  ·
    refine p_tsIn (i := 1) 51 rfl (by omega) (by omega) (by rfl) (by decide) ?_
    refine p_iconst (i := 16) rfl ?_
    refine p_iret (i := 17) rfl rfl (rfl) ?_
    exact h
  ·
    refine p_tsIn (i := 1) 41 rfl (by omega) (by omega) (by rfl) (by decide) ?_
    refine p_iload_n (i := 10) rfl rfl ?_
    refine p_if_eq (i := 11) 49 rfl (by decide) (by omega) (fun c42 => ?_) (fun c42 => ?_)
    · refine p_iconst (i := 14) rfl ?_
      refine p_iret (i := 15) rfl rfl (rfl) ?_
      have e : fdg 3 t y = 0 := by unfold fdg; rw [if_neg (by decide), if_neg (by decide), if_pos rfl, if_neg (by omega)]
      rw [e] at h
      exact h
    · refine p_iconst (i := 12) rfl ?_
      refine p_goto (i := 13) 50 rfl (by decide) ?_
      refine p_iret (i := 15) rfl rfl (rfl) ?_
      have e : fdg 3 t y = 3 := by unfold fdg; rw [if_neg (by decide), if_neg (by decide), if_pos rfl, if_pos (by omega)]
      rw [e] at h
      exact h
