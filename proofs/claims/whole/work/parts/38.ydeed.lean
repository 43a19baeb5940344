-- the reference: deeds
def Fr2 (a b : Nat) (M M' : AM) : Prop := Fr (fun q => q ≠ a ∧ q ≠ b) M M'
theorem Fr2.rf {a b : Nat} {M : AM} : Fr2 a b M M := Fr.rf
theorem Fr2.up {a b k : Nat} {M M' M'' : AM} {c : AE} (h : Fr2 a b M M') (e : M'' = aup M' k c) (hk : k = a ∨ k = b) : Fr2 a b M M'' := Fr.up h e (fun z => by
  have z : k ≠ a ∧ k ≠ b := z
  omega)
theorem Fr2.at {a b o : Nat} {M M' : AM} {x : AE} (h : Fr2 a b M M') (hM : M o = some x) (ho : o ≠ a ∧ o ≠ b) : M' o = some x := Fr.at h hM ho
theorem Fr2.fi {a b p : Nat} {M M' M'' : AM} (h : Fr2 a b M M') (h2 : FrI p 1 M' M'') (hp : p = a ∨ p = b) : Fr2 a b M M'' := fun q hq => by
  have hq : q ≠ a ∧ q ≠ b := hq
  exact (h2 q (by show q < p ∨ p + 1 ≤ q; omega)).trans (h q hq)
theorem Fr2.split {a b : Nat} {M M' : AM} (h : Fr2 a b M M') : ∃ M1, FrI a 1 M M1 ∧ FrI b 1 M1 M' := by
  refine ⟨fun q => if q = a then M' a else M q, fun q hq => ?_, fun q hq => ?_⟩
  · have hq : q < a ∨ a + 1 ≤ q := hq
    show (if q = a then M' a else M q) = M q
    rw [if_neg (by omega)]
  · have hq : q < b ∨ b + 1 ≤ q := hq
    show M' q = if q = a then M' a else M q
    by_cases c : q = a
    · rw [if_pos c, c]
    · rw [if_neg c]
      exact h q ⟨c, by omega⟩
theorem YG.cg {f f1 : Nat → Int} {g : GS} {ns nw : Nat} (h : YG f g) (hg : GOk ns nw g) (he : ∀ q, q < 120 → f1 q = f q) : YG f1 g := by
  obtain ⟨q1, q2, q3, q4, q5, q6, q7, q8, q9, q10, q11⟩ := hg
  obtain ⟨⟨t0, t1⟩, ⟨u1, u2, u3, u4, u5⟩⟩ := h
  refine ⟨⟨by rw [he _ (by omega)]; exact t0, fun k hk => ?_⟩, by rw [he _ (by omega)]; exact u1, by rw [he _ (by omega)]; exact u2, fun j hj => by rw [he _ (by omega)]; exact u3 j hj, by rw [he _ (by omega)]; exact u4, fun i hi => ?_⟩
  · rw [he _ (by omega), he _ (by omega), he _ (by omega)]
    exact t1 k hk
  · rw [he _ (by omega), he _ (by omega), he _ (by omega), he _ (by omega)]
    exact u5 i hi
theorem GOk.ly {ns nw : Nat} {g : GS} {Ls : List LY} (h : GOk ns nw g) (hl : LsOk ns nw Ls) : GOk ns nw (Ls, g.2) := ⟨hl.1, hl.at, h.2.2⟩
theorem GOk.wr {ns nw : Nat} {g : GS} {w : Int} (h : GOk ns nw g) (hw : -1 ≤ w ∧ w < nw) : GOk ns nw (g.1, w, g.2.2) := ⟨h.1, h.2.1, hw.1, hw.2, h.2.2.2.2⟩
theorem YG.wr {f : Nat → Int} {g : GS} {w : Int} {ns nw : Nat} (h : YG f g) (hg : GOk ns nw g) : YG (zup f 31 w) (g.1, w, g.2.2) := by
  obtain ⟨q1, q2, q3, q4, q5, q6, q7, q8, q9, q10, q11⟩ := hg
  obtain ⟨⟨t0, t1⟩, ⟨u1, u2, u3, u4, u5⟩⟩ := h
  refine ⟨⟨by rw [zup_n (by omega)]; exact t0, fun k hk => ?_⟩, by rw [zup_e], by rw [zup_n (by omega)]; exact u2, fun j hj => by rw [zup_n (by omega)]; exact u3 j hj, by rw [zup_n (by omega)]; exact u4, fun i hi => ?_⟩
  · have hk : k < g.1.length := hk
    rw [zup_n (by omega), zup_n (by omega), zup_n (by omega)]
    exact t1 k hk
  · rw [zup_n (by omega), zup_n (by omega), zup_n (by omega), zup_n (by omega)]
    exact u5 i hi
theorem y_remember {M : AM} {ns nw : Nat} {un : List GS} {g : GS} {sd sz fa mm bm : Int} {Q : Option Value → AM → Prop} (hRt : YRt M (un.length : Nat) sd sz fa mm bm) (hA : YA M 279 ns nw g) (hPa : YPa M ns nw un) (hy : g.2.2.1 ≤ 90030) (h : ∀ M1 M', FrI 281 1 M M1 → FrI 276 1 M1 M' → YRt M' ((rem un g).length : Nat) sd sz fa mm bm → YPa M' ns nw (rem un g) → Q none M') : C mX10_remember [.ref 276] M Q := by
  obtain ⟨ay, gy, ny, hy_, vy, ry, kY⟩ := id hRt
  obtain ⟨p0, pf, kP, p1⟩ := id hPa
  obtain ⟨⟨q1, q2, q3, q4, q5, q6, q7, q8, q9, q10, q11⟩, f, kT, ⟨t0, t1⟩, ⟨u1, u2, u3, u4, u5⟩⟩ := id hA
  have tail : ∀ (M1 : AM) (us : List GS) (x : Value), us.length < 30 → rem un g = us ++ [g] → YRt M1 (us.length : Nat) sd sz fa mm bm → M1 279 = some (zA 120 f) → YPa M1 ns nw us → Fr2 281 276 M M1 → P none mX10_remember 49 [.ref 276, x] []  M1 Q := by
    intro M us x hu er hRt kT hPa fr
    obtain ⟨ay, gy, ny, hy_, vy, ry, kY⟩ := id hRt
    obtain ⟨p0, pf, kP, p1⟩ := id hPa
    refine p_aload_n (i := 27) rfl rfl ?_
    refine p_getf (i := 28) rfl fX10_16 kY rfl ?_
    refine p_iconst (i := 29) rfl ?_
    refine p_aload_n (i := 30) rfl rfl ?_
    refine p_getf (i := 31) rfl fX10_22 kY rfl ?_
    refine p_bipush (i := 32) rfl (by decide) ?_
    refine p_aload_n (i := 33) rfl rfl ?_
    refine p_getf (i := 34) rfl fX10_48 kY rfl ?_
    refine p_imul (i := 35) rfl ?_
    refine p_bipush (i := 36) rfl (by decide) ?_
    rw [show (120 : Int) * ((us.length : Nat) : Int) = ((120 * us.length : Nat) : Int) by omega]
    refine p_cS5 (i := 37) rfl ⟨lX10_118, rfl, rfl⟩ rfl (y_copies (i := 0) (m := 120) kT kP (by decide) (by omega) (by omega) (by decide) (fun M f2 kP hf2 fr2 => ?_))
    have fr := fr.fi fr2 (by omega)
    have kY := fr2.at kY (by omega)
    have kT := fr2.at kT (by omega)
    refine p_aload_n (i := 38) rfl rfl ?_
    refine p_dup (i := 39) rfl rfl ?_
    refine p_getf (i := 40) rfl fX10_48 kY rfl ?_
    refine p_iconst (i := 41) rfl ?_
    refine p_iadd (i := 42) rfl ?_
    refine p_puti (i := 43) rfl gX10_48 kY rfl (P_gen fun M e => ?_)
    have kT := aupN e kT (by omega)
    have kP := aupN e kP (by omega)
    have fr := fr.up e (by omega)
    have kY := aupE e
    refine p_ret (i := 44) rfl rfl ?_
    obtain ⟨M1, s1, s2⟩ := fr.split
    have eu : ((us.length : Nat) : Int) + 1 = (((rem un g).length : Nat) : Int) := by rw [er]; simp
    rw [eu] at kY
    refine h M1 M s1 s2 ⟨ay, gy, ny, hy_, vy, ry, kY⟩ ⟨by rw [er]; simp; omega, f2, kP, fun i hi => ?_⟩
    rw [er] at hi ⊢
    have hi : i < us.length + 1 := by simpa using hi
    rw [gd_app hi]
    by_cases c : i = us.length
    · rw [if_pos c]
      refine ⟨hA.1, YG.cg (f := f) ⟨⟨t0, t1⟩, ⟨u1, u2, u3, u4, u5⟩⟩ hA.1 (fun q hq => ?_), hy⟩
      show f2 (120 * i + q) = f q
      rw [hf2, if_pos (by omega), show 0 + (120 * i + q - 120 * us.length) = q by omega]
    · rw [if_neg c]
      obtain ⟨w1, w2, w3⟩ := p1 i (by omega)
      refine ⟨w1, YG.cg w2 w1 (fun q hq => ?_), w3⟩
      show f2 (120 * i + q) = pf (120 * i + q)
      rw [hf2, if_neg (by omega)]
  have loop : ∀ (c k : Nat) (M1 : AM) (f1 : Nat → Int), un.length = 30 → k + c = 3480 → M1 281 = some (zA 3600 f1) → (∀ q, f1 q = if q < k then pf (q + 120) else pf q) → Fr2 281 276 M M1 → M1 276 = M 276 → P none mX10_remember 11 [.ref 276, zI (k : Int)] []  M1 Q := by
    intro c
    induction c with
    | zero =>
      intro k M1 f1 h30 hkc kP hf fr hm
      have kY := hm.trans kY
      have kT := fr.at kT (by omega)
      obtain rfl : k = 3480 := by omega
      obtain ⟨us, eus⟩ : ∃ us, us = un.drop 1 := ⟨_, rfl⟩
      have eu : us.length = 29 := by rw [eus, List.length_drop, h30]
      have hPa1 : ∀ M, M 281 = some (zA 3600 f1) → YPa M ns nw us := fun M kP => by
        refine ⟨by omega, f1, kP, fun i hi => ?_⟩
        rw [eus, gd_drop]
        obtain ⟨w1, w2, w3⟩ := p1 (1 + i) (by omega)
        refine ⟨w1, YG.cg w2 w1 (fun q hq => ?_), w3⟩
        show f1 (120 * i + q) = pf (120 * (1 + i) + q)
        rw [hf, if_pos (by omega)]
        congr 1
        omega
      refine p_iload_n (i := 6) rfl rfl ?_
      refine p_sipush (i := 7) rfl (by decide) ?_
      refine p_icmp_ge (i := 8) 39 rfl (by decide) (by omega) (by omega) (fun c15 => ?_) (fun c15 => by exfalso; omega)
      refine p_aload_n (i := 21) rfl rfl ?_
      refine p_dup (i := 22) rfl rfl ?_
      refine p_getf (i := 23) rfl fX10_48 kY rfl ?_
      refine p_iconst (i := 24) rfl ?_
      refine p_isub (i := 25) rfl ?_
      refine p_puti (i := 26) rfl gX10_48 kY rfl (P_gen fun M e => ?_)
      have kT := aupN e kT (by omega)
      have kP := aupN e kP (by omega)
      have fr := fr.up e (by omega)
      have kY := aupE e
      refine tail M us _ (by omega) (by unfold rem; rw [if_pos h30, eus]) ⟨ay, gy, ny, hy_, vy, ry, ?_⟩ kT (hPa1 M kP) fr
      rw [show ((us.length : Nat) : Int) = ((un.length : Nat) : Int) - 1 by omega]
      exact kY
    | succ c ih =>
      intro k M1 f1 h30 hkc kP hf fr hm
      have kY := hm.trans kY
      have kT := fr.at kT (by omega)
      have fr0 : Fr2 281 281 M1 M1 := Fr2.rf
      refine p_iload_n (i := 6) rfl rfl ?_
      refine p_sipush (i := 7) rfl (by decide) ?_
      refine p_icmp_ge (i := 8) 39 rfl (by decide) (by omega) (by omega) (fun c15 => by exfalso; omega) (fun c15 => ?_)
      refine p_aload_n (i := 9) rfl rfl ?_
      refine p_getf (i := 10) rfl fX10_22 kY rfl ?_
      refine p_iload_n (i := 11) rfl rfl ?_
      refine p_aload_n (i := 12) rfl rfl ?_
      refine p_getf (i := 13) rfl fX10_22 kY rfl ?_
      refine p_iload_n (i := 14) rfl rfl ?_
      refine p_bipush (i := 15) rfl (by decide) ?_
      refine p_iadd (i := 16) rfl ?_
      refine p_iaX (i := 17) ((k + 120)) rfl kP (by omega) (by omega) (by decide) ?_
      refine p_isX (i := 18) _ rfl kP rfl (by omega) (by decide) (P_gen fun M e => ?_)
      have kY := aupN e kY (by omega)
      have kT := aupN e kT (by omega)
      have fr := fr.up e (by omega)
      have fr0 := fr0.up e (by omega)
      have kP := aupE e
      refine p_iinc (i := 19) rfl rfl rfl ?_
      refine p_goto (i := 20) 11 rfl (by decide) ?_
      refine ih (k + 1) M _ h30 (by omega) kP (fun q => ?_) fr ((fr0 276 (by decide)).trans hm)
      by_cases c1 : q = k
      · rw [c1, zup_e, hf, if_neg (by omega), if_pos (by omega)]
      · rw [zup_n c1, hf]
        by_cases c2 : q < k
        · rw [if_pos c2, if_pos (by omega)]
        · rw [if_neg c2, if_neg (by omega)]
  refine C_of okX10_remember (by decide) (Nat.le_of_ble_eq_true rfl) ?_
  show P none mX10_remember 0 [.ref 276, .retAddr 0] [] _ _
  refine p_aload_n (i := 0) rfl rfl ?_
  refine p_getf (i := 1) rfl fX10_48 kY rfl ?_
  refine p_bipush (i := 2) rfl (by decide) ?_
  refine p_icmp_ne (i := 3) 49 rfl (by decide) (by omega) (by omega) (fun c6 => ?_) (fun c6 => ?_)
  · exact tail M un _ (by omega) (by unfold rem; rw [if_neg (by omega)]) hRt kT hPa Fr2.rf
  · refine p_iconst (i := 4) rfl ?_
    refine p_istore_n (i := 5) rfl rfl ?_
    exact loop 3480 0 M pf (by omega) (by omega) kP (fun q => by rw [if_neg (by omega)]) Fr2.rf rfl
theorem y_draw {M : AM} {u sd sz fa mm bm n : Int} {Q : Option Value → AM → Prop} (hRt : YRt M u sd sz fa mm bm) (hs : 0 ≤ sd ∧ sd ≤ 2147483647) (hn : 0 < n ∧ n ≤ 1000) (h : ∀ M', YRt M' u (drw sd) sz fa mm bm → FrI 276 1 M M' → Q (some (zI (drw sd / 65536 % n))) M') : C mX10_draw [.ref 276, zI n] M Q := by
  obtain ⟨ay, gy, ny, hy_, vy, ry, kY⟩ := id hRt
  have fr : FrI 276 1 M M := FrI.rf
  have hd := drw_rng (sd := sd)
  unfold drw at h hd
  refine C_of okX10_draw (by decide) (Nat.le_of_ble_eq_true rfl) ?_
  show P none mX10_draw 0 [.ref 276, zI n] [] _ _
  refine p_aload_n (i := 0) rfl rfl ?_
  refine p_aload_n (i := 1) rfl rfl ?_
  refine p_getf (i := 2) rfl fX10_230 kY rfl ?_
  refine p_ldc2 (i := 3) rfl kX10_234 ?_
  refine p_lmul (i := 4) rfl ?_
  refine p_ldc2 (i := 5) rfl kX10_236 ?_
  refine p_ladd (i := 6) rfl ?_
  refine p_ldc2 (i := 7) rfl kX10_238 ?_
  refine p_lrem (i := 8) rfl (by omega) (by omega) ?_
  refine p_putl (i := 9) rfl gX10_230 kY rfl (P_gen fun M e => ?_)
  have fr := fr.up e (by omega)
  have kY := aupE e
  refine p_aload_n (i := 10) rfl rfl ?_
  refine p_getf (i := 11) rfl fX10_230 kY rfl ?_
  refine p_ldc2 (i := 12) rfl kX10_240 ?_
  refine p_ldiv (i := 13) rfl (by omega) (by omega) ?_
  refine p_iload_n (i := 14) rfl rfl ?_
  refine p_i2l (i := 15) rfl (by omega) ?_
  refine p_lrem (i := 16) rfl (by omega) (by omega) ?_
  refine p_l2i (i := 17) rfl ?_
  refine p_iret (i := 18) rfl rfl (rfl) ?_
  exact h M ⟨ay, gy, ny, hy_, vy, ry, kY⟩ fr
theorem y_draws {M : AM} {u sd sz fa mm bm : Int} {ln : LN} {g : GS} {Q : Option Value → AM → Prop} (hRt : YRt M u sd sz fa mm bm) (hA : YA M 279 (nS ln) (nW ln) g) (hLn : YLi M ln) (hsd : 0 ≤ sd ∧ sd ≤ 2147483647) (h : ∀ M1 M', FrI 276 1 M M1 → FrI 279 1 M1 M' → YRt M' u (byDraw ln g sd).2 sz fa mm bm → YA M' 279 (nS ln) (nW ln) (byDraw ln g sd).1 → Q none M') : C mX10_draws [.ref 276] M Q := by
  unfold byDraw at h
  obtain ⟨ay, gy, ny, hy_, vy, ry, kY⟩ := id hRt
  refine C_of okX10_draws (by decide) (Nat.le_of_ble_eq_true rfl) ?_
  show P none mX10_draws 0 [.ref 276, .retAddr 0, .retAddr 0] [] _ _
  refine p_aload_n (i := 0) rfl rfl ?_
  refine p_bipush (i := 1) rfl (by decide) ?_
  have d1 := drw_rng (sd := sd)
  have d2 := drw_rng (sd := drw sd)
  have d3 := drw_rng (sd := drw (drw sd))
  refine p_cV1 (i := 2) rfl ⟨lX10_242, rfl, rfl⟩ kY ⟨_, rfl, rfl⟩ rfl (y_draw hRt hsd (by omega) (fun M1 hRt1 fr1 => ?_))
  have hA1 := hA.fi fr1 (by omega)
  have hLn1 := hLn.fi fr1 (by omega)
  obtain ⟨ay, gy, ny, hy_, vy, ry, kY⟩ := id hRt1
  obtain ⟨⟨uy, sy, zy, fy, my, by_, ay, gy, ny, hy_, vy, ry, kY⟩, ⟨o1, o2, o3, o4, o5, o6, o7⟩, lf, kL, l0, l1, l2, l3, l4⟩ := id (hLn1.l hRt1.h)
  obtain ⟨⟨q1, q2, q3, q4, q5, q6, q7, q8, q9, q10, q11⟩, f, kT, ⟨t0, t1⟩, ⟨u1, u2, u3, u4, u5⟩⟩ := id hA1
  have hok := hA1.1.ls
  have c40 : P none mX10_draws 40 [.ref 276, zI (drw sd / 65536 % 8), .retAddr 0] []  M1 Q ∨ (drw sd / 65536 % 8 = 0 ∧ 0 < nW ln) := by
    by_cases hcA : drw sd / 65536 % 8 = 0 ∧ 0 < nW ln
    · exact Or.inr hcA
    refine Or.inl ?_
    rw [if_neg hcA] at h
    have c74 : P none mX10_draws 74 [.ref 276, zI (drw sd / 65536 % 8), .retAddr 0] []  M1 Q ∨ (drw sd / 65536 % 8 = 1 ∧ 0 < g.1.length) := by
      by_cases hc2 : drw sd / 65536 % 8 = 1 ∧ 0 < g.1.length
      · exact Or.inr hc2
      refine Or.inl ?_
      rw [if_neg hc2] at h
      have c119 : P none mX10_draws 119 [.ref 276, zI (drw sd / 65536 % 8), .retAddr 0] []  M1 Q ∨ (drw sd / 65536 % 8 = 2 ∧ 0 < nS ln) := by
        by_cases hc3 : drw sd / 65536 % 8 = 2 ∧ 0 < nS ln
        · exact Or.inr hc3
        refine Or.inl ?_
        rw [if_neg hc3] at h
        have fr2 : FrI 279 1 M1 M1 := FrI.rf
        refine p_iload_n (i := 66) rfl rfl ?_
        refine p_iconst (i := 67) rfl ?_
        refine p_icmp_ne (i := 68) 132 rfl (by decide) (by omega) (by omega) (fun c121 => ?_) (fun c121 => ?_)
        · rw [if_neg c121] at h
          refine p_ret (i := 74) rfl rfl ?_
          exact h M1 M1 fr1 FrI.rf hRt1 hA1
        · rw [if_pos (by omega)] at h
          refine p_aload_n (i := 69) rfl rfl ?_
          refine p_getf (i := 70) rfl fX10_16 kY rfl ?_
          refine p_bipush (i := 71) rfl (by decide) ?_
          refine p_iconst (i := 72) rfl ?_
          refine p_isX (i := 73) (31) rfl kT (by omega) (by omega) (by decide) (P_gen fun M e => ?_)
          have kY := aupN e kY (by omega)
          have kL := aupN e kL (by omega)
          have fr2 := fr2.up e (by omega)
          have kT := aupE e
          refine p_ret (i := 74) rfl rfl ?_
          exact h M1 M fr1 fr2 (hRt1.fi fr2 (by omega)) ⟨hA1.1.wr (by omega), _, kT, YG.wr ⟨⟨t0, t1⟩, ⟨u1, u2, u3, u4, u5⟩⟩ hA1.1⟩
      refine p_iload_n (i := 40) rfl rfl ?_
      refine p_iconst (i := 41) rfl ?_
      refine p_icmp_ne (i := 42) 119 rfl (by decide) (by omega) (by omega) (fun c76 => ?_) (fun c76 => ?_)
      · exact c119.resolve_right (by omega)
      · refine p_aload_n (i := 43) rfl rfl ?_
        refine p_getf (i := 44) rfl fX10_7 kY rfl ?_
        refine p_iconst (i := 45) rfl ?_
        refine p_iaX (i := 46) (1) rfl kL (by omega) (by omega) (by decide) ?_
        refine p_if_le (i := 47) 119 rfl (by decide) (by omega) (fun c85 => ?_) (fun c85 => ?_)
        · exact c119.resolve_right (by omega)
        · rw [if_pos (by omega)] at h
          refine p_aload_n (i := 48) rfl rfl ?_
          refine p_aload_n (i := 49) rfl rfl ?_
          refine p_getf (i := 50) rfl fX10_7 kY rfl ?_
          refine p_iconst (i := 51) rfl ?_
          refine p_iaX (i := 52) (1) rfl kL (by omega) (by omega) (by decide) ?_
          rw [l1]
          refine p_cV1 (i := 53) rfl ⟨lX10_242, rfl, rfl⟩ kY ⟨_, rfl, rfl⟩ rfl (y_draw hRt1 (by omega) (by omega) (fun M2 hRt2 fr2 => ?_))
          have hA2 := hA1.fi fr2 (by omega)
          obtain ⟨ay, gy, ny, hy_, vy, ry, kY⟩ := id hRt2
          have kT := fr2.at kT (by omega)
          refine p_istore_n (i := 54) rfl rfl ?_
          refine p_aload_n (i := 55) rfl rfl ?_
          refine p_getf (i := 56) rfl fX10_16 kY rfl ?_
          refine p_iload_n (i := 57) rfl rfl ?_
          refine p_iconst (i := 58) rfl ?_
          refine p_aload_n (i := 59) rfl rfl ?_
          refine p_bipush (i := 60) rfl (by decide) ?_
          refine p_cV1 (i := 61) rfl ⟨lX10_242, rfl, rfl⟩ kY ⟨_, rfl, rfl⟩ rfl (y_draw hRt2 (by omega) (by omega) (fun M3 hRt3 fr3 => ?_))
          have hA3 := hA2.fi fr3 (by omega)
          have kT := fr3.at kT (by omega)
          obtain ⟨ay, gy, ny, hy_, vy, ry, kY⟩ := id hRt3
          have hm1 := Int.emod_nonneg (drw (drw sd) / 65536) (show (nS ln : Int) ≠ 0 by omega)
          have hm2 := Int.emod_lt_of_pos (drw (drw sd) / 65536) (show (0 : Int) < (nS ln : Int) by omega)
          refine p_iconst (i := 62) rfl ?_
          refine p_iadd (i := 63) rfl ?_
          refine p_cS4 (i := 64) rfl ⟨lX10_155, rfl, rfl⟩ rfl (y_lays kT ⟨t0, t1⟩ hok (fun M4 f4 kT4 hL4 h31 fr4 => ?_))
          refine p_goto (i := 65) 132 rfl (by decide) ?_
          refine p_ret (i := 74) rfl rfl ?_
          exact h M3 M4 ((fr1.tr fr2).tr fr3) fr4 (hRt3.fi fr4 (by omega)) ⟨hA1.1.ly (hok.lay ⟨hm1, hm2, by show (-1 : Int) ≤ -1; decide, by show (-1 : Int) < (nW ln : Nat); omega, by show 1 ≤ drw (drw (drw sd)) / 65536 % 30 + 1; omega, by show drw (drw (drw sd)) / 65536 % 30 + 1 ≤ 99; omega⟩), f4, kT4, hL4, YRst.keep ⟨u1, u2, u3, u4, u5⟩ q9 h31⟩
    refine p_iload_n (i := 22) rfl rfl ?_
    refine p_iconst (i := 23) rfl ?_
    refine p_icmp_ne (i := 24) 74 rfl (by decide) (by omega) (by omega) (fun c42 => ?_) (fun c42 => ?_)
    · exact c74.resolve_right (by omega)
    · refine p_aload_n (i := 25) rfl rfl ?_
      refine p_getf (i := 26) rfl fX10_16 kY rfl ?_
      refine p_iconst (i := 27) rfl ?_
      refine p_iaX (i := 28) (0) rfl kT (by omega) (by omega) (by decide) ?_
      refine p_if_le (i := 29) 74 rfl (by decide) (by omega) (fun c51 => ?_) (fun c51 => ?_)
      · exact c74.resolve_right (by omega)
      · rw [if_pos (by omega)] at h
        refine p_aload_n (i := 30) rfl rfl ?_
        refine p_getf (i := 31) rfl fX10_16 kY rfl ?_
        refine p_aload_n (i := 32) rfl rfl ?_
        refine p_aload_n (i := 33) rfl rfl ?_
        refine p_getf (i := 34) rfl fX10_16 kY rfl ?_
        refine p_iconst (i := 35) rfl ?_
        refine p_iaX (i := 36) (0) rfl kT (by omega) (by omega) (by decide) ?_
        rw [t0]
        refine p_cV1 (i := 37) rfl ⟨lX10_242, rfl, rfl⟩ kY ⟨_, rfl, rfl⟩ rfl (y_draw hRt1 (by omega) (by omega) (fun M2 hRt2 fr2 => ?_))
        have kT := fr2.at kT (by omega)
        have hm1 := Int.emod_nonneg (drw (drw sd) / 65536) (show (g.1.length : Int) ≠ 0 by omega)
        have hm2 := Int.emod_lt_of_pos (drw (drw sd) / 65536) (show (0 : Int) < (g.1.length : Int) by omega)
        refine p_top (b := (((drw (drw sd) / 65536 % (g.1.length : Int)).toNat : Nat) : Int)) (by omega) ?_
        refine p_cS2 (i := 38) rfl ⟨lX10_141, rfl, rfl⟩ rfl (y_removes kT ⟨t0, t1⟩ (by omega) q1 (fun M3 f3 kT3 hL3 h31 fr3 => ?_))
        refine p_goto (i := 39) 132 rfl (by decide) ?_
        refine p_ret (i := 74) rfl rfl ?_
        exact h M2 M3 (fr1.tr fr2) fr3 (hRt2.fi fr3 (by omega)) ⟨hA1.1.ly hok.er, f3, kT3, hL3, YRst.keep ⟨u1, u2, u3, u4, u5⟩ q9 h31⟩
  refine p_istore_n (i := 3) rfl rfl ?_
  refine p_iload_n (i := 4) rfl rfl ?_
  refine p_if_ne (i := 5) 40 rfl (by decide) (by omega) (fun c8 => ?_) (fun c8 => ?_)
  · exact c40.resolve_right (by omega)
  · refine p_aload_n (i := 6) rfl rfl ?_
    refine p_getf (i := 7) rfl fX10_7 kY rfl ?_
    refine p_iconst (i := 8) rfl ?_
    refine p_iaX (i := 9) (2) rfl kL (by omega) (by omega) (by decide) ?_
    refine p_if_le (i := 10) 40 rfl (by decide) (by omega) (fun c17 => ?_) (fun c17 => ?_)
    · exact c40.resolve_right (by omega)
    · rw [if_pos (by omega)] at h
      refine p_aload_n (i := 11) rfl rfl ?_
      refine p_getf (i := 12) rfl fX10_16 kY rfl ?_
      refine p_bipush (i := 13) rfl (by decide) ?_
      refine p_aload_n (i := 14) rfl rfl ?_
      refine p_aload_n (i := 15) rfl rfl ?_
      refine p_getf (i := 16) rfl fX10_7 kY rfl ?_
      refine p_iconst (i := 17) rfl ?_
      refine p_iaX (i := 18) (2) rfl kL (by omega) (by omega) (by decide) ?_
      rw [l2]
      refine p_cV1 (i := 19) rfl ⟨lX10_242, rfl, rfl⟩ kY ⟨_, rfl, rfl⟩ rfl (y_draw hRt1 (by omega) (by omega) (fun M2 hRt2 fr2 => ?_))
      have kT := fr2.at kT (by omega)
      have fr3 : FrI 279 1 M2 M2 := FrI.rf
      have hm1 := Int.emod_nonneg (drw (drw sd) / 65536) (show (nW ln : Int) ≠ 0 by omega)
      have hm2 := Int.emod_lt_of_pos (drw (drw sd) / 65536) (show (0 : Int) < (nW ln : Int) by omega)
      refine p_isX (i := 20) (31) rfl kT (by omega) (by omega) (by decide) (P_gen fun M e => ?_)
      have fr3 := fr3.up e (by omega)
      have kT := aupE e
      refine p_goto (i := 21) 132 rfl (by decide) ?_
      refine p_ret (i := 74) rfl rfl ?_
      exact h M2 M (fr1.tr fr2) fr3 (hRt2.fi fr3 (by omega)) ⟨hA1.1.wr (by omega), _, kT, YG.wr ⟨⟨t0, t1⟩, ⟨u1, u2, u3, u4, u5⟩⟩ hA1.1⟩
theorem Y_year {M : AM} {tx : List Int} {fa : Int} {ln : LN} {g : GS} {un : List GS} {i0 i1 : Option (GS × Int)} {sd : Int} {me bo : List (Int × Int)} {Q : Option Value → AM → Prop} {n : Int} (hY : YW M (tx, fa, ln, g, un, i0, i1, sd, me, bo)) (hn : -2147483648 ≤ n ∧ n ≤ 2147483647) (h : ∀ M', YW M' (a_year (tx, fa, ln, g, un, i0, i1, sd, me, bo) n).2 → FrI 276 12 M M' → Q (some (zI (a_year (tx, fa, ln, g, un, i0, i1, sd, me, bo) n).1)) M') : C mX10_year [.ref 276, zI n] M Q := by
  dsimp only [a_year] at h
  obtain ⟨hRt, hLn, hA, hPa, hIm, hTx, hMe, hBo, hN, b1, b2, b3, b4, b5, b6, b7⟩ := id hY
  obtain ⟨ay, gy, ny, hy_, vy, ry, kY⟩ := id hRt
  have hL : YL M ln := hLn.l hRt.h
  obtain ⟨⟨o1, o2, o3, o4, o5, o6, o7⟩, lf, kL, l0, l1, l2, l3, l4⟩ := id hLn
  obtain ⟨⟨q1, q2, q3, q4, q5, q6, q7, q8, q9, q10, q11⟩, f, kT, ⟨t0, t1⟩, ⟨u1, u2, u3, u4, u5⟩⟩ := id hA
  have loop : ∀ (c k : Nat) (M : AM) (g : GS) (un : List GS), (k : Int) + c = n → n ≤ 30 → YW M (tx, fa, ln, g, un, i0, i1, sd, me, bo) → g.2.2.1 + c ≤ 90030 → (∀ M', YW M' (tx, fa, ln, (yearN ln c g un).1, (yearN ln c g un).2, i0, i1, sd, me, bo) → FrI 276 12 M M' → Q (some (zI (yearN ln c g un).1.2.2.1)) M') → P none mX10_year 14 [.ref 276, zI n, zI 0, zI (k : Int)] []  M Q := by
    intro c
    induction c with
    | zero =>
      intro k M g un hk hn30 hY hy h
      obtain ⟨hRt, hLn, hA, hPa, hIm, hTx, hMe, hBo, hN, b1, b2, b3, b4, b5, b6, b7⟩ := id hY
      obtain ⟨ay, gy, ny, hy_, vy, ry, kY⟩ := id hRt
      have hL : YL M ln := hLn.l hRt.h
      obtain ⟨⟨o1, o2, o3, o4, o5, o6, o7⟩, lf, kL, l0, l1, l2, l3, l4⟩ := id hLn
      obtain ⟨⟨q1, q2, q3, q4, q5, q6, q7, q8, q9, q10, q11⟩, f, kT, ⟨t0, t1⟩, ⟨u1, u2, u3, u4, u5⟩⟩ := id hA
      refine p_iload_n (i := 10) rfl rfl ?_
      refine p_iload_n (i := 11) rfl rfl ?_
      refine p_icmp_ge (i := 12) 37 rfl (by decide) (by omega) (by omega) (fun c16 => ?_) (fun c16 => by exfalso; omega)
      refine p_aload_n (i := 21) rfl rfl ?_
      refine p_getf (i := 22) rfl fX10_16 kY rfl ?_
      refine p_bipush (i := 23) rfl (by decide) ?_
      refine p_iaX (i := 24) (32) rfl kT (by omega) (by omega) (by decide) ?_
      refine p_iret (i := 25) rfl rfl (rfl) ?_
      rw [u2]
      exact h M hY FrI.rf
    | succ c ih =>
      intro k M g un hk hn30 hY hy h
      obtain ⟨hRt, hLn, hA, hPa, hIm, hTx, hMe, hBo, hN, b1, b2, b3, b4, b5, b6, b7⟩ := id hY
      obtain ⟨ay, gy, ny, hy_, vy, ry, kY⟩ := id hRt
      have hL : YL M ln := hLn.l hRt.h
      obtain ⟨⟨o1, o2, o3, o4, o5, o6, o7⟩, lf, kL, l0, l1, l2, l3, l4⟩ := id hLn
      obtain ⟨⟨q1, q2, q3, q4, q5, q6, q7, q8, q9, q10, q11⟩, f, kT, ⟨t0, t1⟩, ⟨u1, u2, u3, u4, u5⟩⟩ := id hA
      refine p_iload_n (i := 10) rfl rfl ?_
      refine p_iload_n (i := 11) rfl rfl ?_
      refine p_icmp_ge (i := 12) 37 rfl (by decide) (by omega) (by omega) (fun c16 => by exfalso; omega) (fun c16 => ?_)
      refine p_aload_n (i := 13) rfl rfl ?_
      refine p_cV0 (i := 14) rfl ⟨lX10_221, rfl, rfl⟩ kY ⟨_, rfl, rfl⟩ rfl (y_remember hRt hA hPa b1 (fun M1 M2 fr1 fr2 hRt2 hPa2 => ?_))
      have hA2 := (hA.fi fr1 (by omega)).fi fr2 (by omega)
      have hLn2 := (hLn.fi fr1 (by omega)).fi fr2 (by omega)
      obtain ⟨ay, gy, ny, hy_, vy, ry, kY⟩ := id hRt2
      refine p_aload_n (i := 15) rfl rfl ?_
      refine p_aload_n (i := 16) rfl rfl ?_
      refine p_getf (i := 17) rfl fX10_16 kY rfl ?_
      refine p_cV1 (i := 18) rfl ⟨lX10_224, rfl, rfl⟩ kY ⟨_, rfl, rfl⟩ rfl (y_yearGoes (hLn2.l hRt2.h) hA2 (by decide) (by omega) (fun M3 hA3 fr3 => ?_))
      refine p_iinc (i := 19) rfl rfl rfl ?_
      refine p_goto (i := 20) 14 rfl (by decide) ?_
      have ey := passY_y ln g
      exact ih (k + 1) M3 (passY ln g) (rem un g) (by omega) hn30 ⟨hRt2.fi fr3 (by omega), (((hLn.fi fr1 (by omega)).fi fr2 (by omega)).fi fr3 (by omega)), hA3, hPa2.fi fr3 (by omega), (((hIm.fi fr1 (by omega)).fi fr2 (by omega)).fi fr3 (by omega)), (((hTx.fi fr1 (by omega)).fi fr2 (by omega)).fi fr3 (by omega)), (((hMe.fi fr1 (by omega)).fi fr2 (by omega)).fi fr3 (by omega)), (((hBo.fi fr1 (by omega)).fi fr2 (by omega)).fi fr3 (by omega)), (((hN.fi fr1 (by omega)).fi fr2 (by omega)).fi fr3 (by omega)), by omega, b2, b3, b4, b5, b6, b7⟩ (by omega) (fun M' hY' fr' => h M' hY' (((fr1.weak (by omega)).tr ((fr2.weak (by omega)).tr (fr3.weak (by omega)))).tr fr'))
  refine C_of okX10_year (by decide) (Nat.le_of_ble_eq_true rfl) ?_
  show P none mX10_year 0 [.ref 276, zI n, .retAddr 0, .retAddr 0] [] _ _
  refine p_aload_n (i := 0) rfl rfl ?_
  refine p_iload_n (i := 1) rfl rfl ?_
  refine p_cV1 (i := 2) rfl ⟨lX10_218, rfl, rfl⟩ kY ⟨_, rfl, rfl⟩ rfl (y_refuses hL hA hn ?_)
  refine p_istore_n (i := 3) rfl rfl ?_
  refine p_iload_n (i := 4) rfl rfl ?_
  have hrr := refs_rng (ln := ln) (g := g) (n := n)
  refine p_if_eq (i := 5) 12 rfl (by decide) (by omega) (fun c7 => ?_) (fun c7 => ?_)
  · rw [if_neg (not_not_intro c7)] at h
    have hn30 := refs_0 c7
    refine p_iconst (i := 8) rfl ?_
    refine p_istore_n (i := 9) rfl rfl ?_
    rw [c7]
    exact loop n.toNat 0 M g un (by omega) (by omega) hY (by omega) h
  · refine p_iload_n (i := 6) rfl rfl ?_
    refine p_iret (i := 7) rfl rfl (rfl) ?_
    rw [if_pos c7] at h
    exact h M hY FrI.rf
theorem Y_drift {M : AM} {tx : List Int} {fa : Int} {ln : LN} {g : GS} {un : List GS} {i0 i1 : Option (GS × Int)} {sd : Int} {me bo : List (Int × Int)} {Q : Option Value → AM → Prop} {n : Int} (hY : YW M (tx, fa, ln, g, un, i0, i1, sd, me, bo)) (hn : -2147483648 ≤ n ∧ n ≤ 2147483647) (h : ∀ M', YW M' (a_drift (tx, fa, ln, g, un, i0, i1, sd, me, bo) n).2 → FrI 276 12 M M' → Q (some (zI (a_drift (tx, fa, ln, g, un, i0, i1, sd, me, bo) n).1)) M') : C mX10_drift [.ref 276, zI n] M Q := by
  dsimp only [a_drift] at h
  obtain ⟨hRt, hLn, hA, hPa, hIm, hTx, hMe, hBo, hN, b1, b2, b3, b4, b5, b6, b7⟩ := id hY
  obtain ⟨ay, gy, ny, hy_, vy, ry, kY⟩ := id hRt
  have hL : YL M ln := hLn.l hRt.h
  obtain ⟨⟨o1, o2, o3, o4, o5, o6, o7⟩, lf, kL, l0, l1, l2, l3, l4⟩ := id hLn
  obtain ⟨⟨q1, q2, q3, q4, q5, q6, q7, q8, q9, q10, q11⟩, f, kT, ⟨t0, t1⟩, ⟨u1, u2, u3, u4, u5⟩⟩ := id hA
  have loop : ∀ (c k : Nat) (M : AM) (g : GS) (un : List GS) (sd : Int), (k : Int) + c = n → n ≤ 30 → YW M (tx, fa, ln, g, un, i0, i1, sd, me, bo) → g.2.2.1 + c ≤ 90030 → (∀ M', YW M' (tx, fa, ln, (driftN ln c g un sd).1, (driftN ln c g un sd).2.1, i0, i1, (driftN ln c g un sd).2.2, me, bo) → FrI 276 12 M M' → Q (some (zI (driftN ln c g un sd).1.2.2.1)) M') → P none mX10_drift 14 [.ref 276, zI n, zI 0, zI (k : Int)] []  M Q := by
    intro c
    induction c with
    | zero =>
      intro k M g un sd hk hn30 hY hy h
      obtain ⟨hRt, hLn, hA, hPa, hIm, hTx, hMe, hBo, hN, b1, b2, b3, b4, b5, b6, b7⟩ := id hY
      obtain ⟨ay, gy, ny, hy_, vy, ry, kY⟩ := id hRt
      have hL : YL M ln := hLn.l hRt.h
      obtain ⟨⟨o1, o2, o3, o4, o5, o6, o7⟩, lf, kL, l0, l1, l2, l3, l4⟩ := id hLn
      obtain ⟨⟨q1, q2, q3, q4, q5, q6, q7, q8, q9, q10, q11⟩, f, kT, ⟨t0, t1⟩, ⟨u1, u2, u3, u4, u5⟩⟩ := id hA
      refine p_iload_n (i := 10) rfl rfl ?_
      refine p_iload_n (i := 11) rfl rfl ?_
      refine p_icmp_ge (i := 12) 41 rfl (by decide) (by omega) (by omega) (fun c16 => ?_) (fun c16 => by exfalso; omega)
      refine p_aload_n (i := 23) rfl rfl ?_
      refine p_getf (i := 24) rfl fX10_16 kY rfl ?_
      refine p_bipush (i := 25) rfl (by decide) ?_
      refine p_iaX (i := 26) (32) rfl kT (by omega) (by omega) (by decide) ?_
      refine p_iret (i := 27) rfl rfl (rfl) ?_
      rw [u2]
      exact h M hY FrI.rf
    | succ c ih =>
      intro k M g un sd hk hn30 hY hy h
      obtain ⟨hRt, hLn, hA, hPa, hIm, hTx, hMe, hBo, hN, b1, b2, b3, b4, b5, b6, b7⟩ := id hY
      obtain ⟨ay, gy, ny, hy_, vy, ry, kY⟩ := id hRt
      have hL : YL M ln := hLn.l hRt.h
      obtain ⟨⟨o1, o2, o3, o4, o5, o6, o7⟩, lf, kL, l0, l1, l2, l3, l4⟩ := id hLn
      obtain ⟨⟨q1, q2, q3, q4, q5, q6, q7, q8, q9, q10, q11⟩, f, kT, ⟨t0, t1⟩, ⟨u1, u2, u3, u4, u5⟩⟩ := id hA
      obtain ⟨y1, y2, y3⟩ := byDraw_y (ln := ln) (g := g) (sd := sd)
      refine p_iload_n (i := 10) rfl rfl ?_
      refine p_iload_n (i := 11) rfl rfl ?_
      refine p_icmp_ge (i := 12) 41 rfl (by decide) (by omega) (by omega) (fun c16 => by exfalso; omega) (fun c16 => ?_)
      refine p_aload_n (i := 13) rfl rfl ?_
      refine p_cV0 (i := 14) rfl ⟨lX10_221, rfl, rfl⟩ kY ⟨_, rfl, rfl⟩ rfl (y_remember hRt hA hPa b1 (fun M1 M2 fr1 fr2 hRt2 hPa2 => ?_))
      have hA2 := (hA.fi fr1 (by omega)).fi fr2 (by omega)
      have hLn2 := (hLn.fi fr1 (by omega)).fi fr2 (by omega)
      obtain ⟨ay, gy, ny, hy_, vy, ry, kY⟩ := id hRt2
      refine p_aload_n (i := 15) rfl rfl ?_
      refine p_cV0 (i := 16) rfl ⟨lX10_245, rfl, rfl⟩ kY ⟨_, rfl, rfl⟩ rfl (y_draws hRt2 hA2 hLn2 ⟨b2, b3⟩ (fun M3 M4 fr3 fr4 hRt4 hA4 => ?_))
      have hLn4 := (hLn2.fi fr3 (by omega)).fi fr4 (by omega)
      obtain ⟨ay, gy, ny, hy_, vy, ry, kY⟩ := id hRt4
      refine p_aload_n (i := 17) rfl rfl ?_
      refine p_aload_n (i := 18) rfl rfl ?_
      refine p_getf (i := 19) rfl fX10_16 kY rfl ?_
      refine p_cV1 (i := 20) rfl ⟨lX10_224, rfl, rfl⟩ kY ⟨_, rfl, rfl⟩ rfl (y_yearGoes (hLn4.l hRt4.h) hA4 (by decide) (by omega) (fun M5 hA5 fr5 => ?_))
      refine p_iinc (i := 21) rfl rfl rfl ?_
      refine p_goto (i := 22) 14 rfl (by decide) ?_
      have ey := passY_y ln (byDraw ln g sd).1
      exact ih (k + 1) M5 (passY ln (byDraw ln g sd).1) (rem un g) (byDraw ln g sd).2 (by omega) hn30 ⟨hRt4.fi fr5 (by omega), (((((hLn.fi fr1 (by omega)).fi fr2 (by omega)).fi fr3 (by omega)).fi fr4 (by omega)).fi fr5 (by omega)), hA5, ((hPa2.fi fr3 (by omega)).fi fr4 (by omega)).fi fr5 (by omega), (((((hIm.fi fr1 (by omega)).fi fr2 (by omega)).fi fr3 (by omega)).fi fr4 (by omega)).fi fr5 (by omega)), (((((hTx.fi fr1 (by omega)).fi fr2 (by omega)).fi fr3 (by omega)).fi fr4 (by omega)).fi fr5 (by omega)), (((((hMe.fi fr1 (by omega)).fi fr2 (by omega)).fi fr3 (by omega)).fi fr4 (by omega)).fi fr5 (by omega)), (((((hBo.fi fr1 (by omega)).fi fr2 (by omega)).fi fr3 (by omega)).fi fr4 (by omega)).fi fr5 (by omega)), (((((hN.fi fr1 (by omega)).fi fr2 (by omega)).fi fr3 (by omega)).fi fr4 (by omega)).fi fr5 (by omega)), by omega, y2, y3, b4, b5, b6, b7⟩ (by omega) (fun M' hY' fr' => h M' hY' (((fr1.weak (by omega)).tr ((fr2.weak (by omega)).tr ((fr3.weak (by omega)).tr ((fr4.weak (by omega)).tr (fr5.weak (by omega)))))).tr fr'))
  refine C_of okX10_drift (by decide) (Nat.le_of_ble_eq_true rfl) ?_
  show P none mX10_drift 0 [.ref 276, zI n, .retAddr 0, .retAddr 0] [] _ _
  refine p_aload_n (i := 0) rfl rfl ?_
  refine p_iload_n (i := 1) rfl rfl ?_
  refine p_cV1 (i := 2) rfl ⟨lX10_218, rfl, rfl⟩ kY ⟨_, rfl, rfl⟩ rfl (y_refuses hL hA hn ?_)
  refine p_istore_n (i := 3) rfl rfl ?_
  refine p_iload_n (i := 4) rfl rfl ?_
  have hrr := refs_rng (ln := ln) (g := g) (n := n)
  refine p_if_eq (i := 5) 12 rfl (by decide) (by omega) (fun c7 => ?_) (fun c7 => ?_)
  · rw [if_neg (not_not_intro c7)] at h
    have hn30 := refs_0 c7
    refine p_iconst (i := 8) rfl ?_
    refine p_istore_n (i := 9) rfl rfl ?_
    rw [c7]
    exact loop n.toNat 0 M g un sd (by omega) (by omega) hY (by omega) h
  · refine p_iload_n (i := 6) rfl rfl ?_
    refine p_iret (i := 7) rfl rfl (rfl) ?_
    rw [if_pos c7] at h
    exact h M hY FrI.rf
theorem Y_wear {M : AM} {tx : List Int} {fa : Int} {ln : LN} {g : GS} {un : List GS} {i0 i1 : Option (GS × Int)} {sd : Int} {me bo : List (Int × Int)} {Q : Option Value → AM → Prop} {w : Int} (hY : YW M (tx, fa, ln, g, un, i0, i1, sd, me, bo)) (hw : -2147483648 ≤ w ∧ w ≤ 2147483647) (h : ∀ M', YW M' (a_wear (tx, fa, ln, g, un, i0, i1, sd, me, bo) w).2 → FrI 276 12 M M' → Q (some (zI (a_wear (tx, fa, ln, g, un, i0, i1, sd, me, bo) w).1)) M') : C mX10_wear [.ref 276, zI w] M Q := by
  dsimp only [a_wear] at h
  obtain ⟨hRt, hLn, hA, hPa, hIm, hTx, hMe, hBo, hN, b1, b2, b3, b4, b5, b6, b7⟩ := id hY
  obtain ⟨ay, gy, ny, hy_, vy, ry, kY⟩ := id hRt
  have hL : YL M ln := hLn.l hRt.h
  obtain ⟨⟨o1, o2, o3, o4, o5, o6, o7⟩, lf, kL, l0, l1, l2, l3, l4⟩ := id hLn
  obtain ⟨⟨q1, q2, q3, q4, q5, q6, q7, q8, q9, q10, q11⟩, f, kT, ⟨t0, t1⟩, ⟨u1, u2, u3, u4, u5⟩⟩ := id hA
  refine C_of okX10_wear (by decide) (Nat.le_of_ble_eq_true rfl) ?_
  show P none mX10_wear 0 [.ref 276, zI w, .retAddr 0] [] _ _
  refine p_aload_n (i := 0) rfl rfl ?_
  refine p_iload_n (i := 1) rfl rfl ?_
  refine p_cV1 (i := 2) rfl ⟨lX10_201, rfl, rfl⟩ kY ⟨_, rfl, rfl⟩ rfl (y_isWearer hL hw (fun q => ?_) (fun q => ?_))
  · rw [if_neg (not_not_intro q)] at h
    refine p_if_ne (i := 3) 11 rfl (by decide) (by omega) (fun c5 => ?_) (fun c5 => by exfalso; omega)
    refine p_aload_n (i := 6) rfl rfl ?_
    refine p_getf (i := 7) rfl fX10_16 kY rfl ?_
    refine p_bipush (i := 8) rfl (by decide) ?_
    refine p_iaX (i := 9) (31) rfl kT (by omega) (by omega) (by decide) ?_
    refine p_iload_n (i := 10) rfl rfl ?_
    refine p_icmp_ne (i := 11) 25 rfl (by decide) (by omega) (by omega) (fun c19 => ?_) (fun c19 => ?_)
    · rw [if_neg (by omega)] at h
      refine p_aload_n (i := 14) rfl rfl ?_
      refine p_cV0 (i := 15) rfl ⟨lX10_221, rfl, rfl⟩ kY ⟨_, rfl, rfl⟩ rfl (y_remember hRt hA hPa b1 (fun M1 M2 fr1 fr2 hRt2 hPa2 => ?_))
      have kT := fr1.at kT (by omega)
      have kT := fr2.at kT (by omega)
      obtain ⟨ay, gy, ny, hy_, vy, ry, kY⟩ := id hRt2
      have fr3 : FrI 279 1 M2 M2 := FrI.rf
      refine p_aload_n (i := 16) rfl rfl ?_
      refine p_getf (i := 17) rfl fX10_16 kY rfl ?_
      refine p_bipush (i := 18) rfl (by decide) ?_
      refine p_iaX (i := 19) (31) rfl kT (by omega) (by omega) (by decide) ?_
      refine p_istore_n (i := 20) rfl rfl ?_
      refine p_aload_n (i := 21) rfl rfl ?_
      refine p_getf (i := 22) rfl fX10_16 kY rfl ?_
      refine p_bipush (i := 23) rfl (by decide) ?_
      refine p_iload_n (i := 24) rfl rfl ?_
      refine p_isX (i := 25) (31) rfl kT (by omega) (by omega) (by decide) (P_gen fun M e => ?_)
      have kY := aupN e kY (by omega)
      have fr3 := fr3.up e (by omega)
      have kT := aupE e
      refine p_iload_n (i := 26) rfl rfl ?_
      refine p_iret (i := 27) rfl rfl (rfl) ?_
      rw [u1]
      exact h M ⟨hRt2.fi fr3 (by omega), (((hLn.fi fr1 (by omega)).fi fr2 (by omega)).fi fr3 (by omega)), ⟨hA.1.wr (by omega), _, kT, YG.wr ⟨⟨t0, t1⟩, ⟨u1, u2, u3, u4, u5⟩⟩ hA.1⟩, hPa2.fi fr3 (by omega), (((hIm.fi fr1 (by omega)).fi fr2 (by omega)).fi fr3 (by omega)), (((hTx.fi fr1 (by omega)).fi fr2 (by omega)).fi fr3 (by omega)), (((hMe.fi fr1 (by omega)).fi fr2 (by omega)).fi fr3 (by omega)), (((hBo.fi fr1 (by omega)).fi fr2 (by omega)).fi fr3 (by omega)), (((hN.fi fr1 (by omega)).fi fr2 (by omega)).fi fr3 (by omega)), b1, b2, b3, b4, b5, b6, b7⟩ ((fr1.weak (by omega)).tr ((fr2.weak (by omega)).tr (fr3.weak (by omega))))
    · rw [if_pos (by omega)] at h
      refine p_ldc (i := 12) rfl kX10_216 ?_
      refine p_iret (i := 13) rfl rfl (rfl) ?_
      exact h M hY FrI.rf
  · rw [if_pos q] at h
    refine p_if_ne (i := 3) 11 rfl (by decide) (by omega) (fun c5 => by exfalso; omega) (fun c5 => ?_)
    refine p_ldc (i := 4) rfl kX10_197 ?_
    refine p_iret (i := 5) rfl rfl (rfl) ?_
    exact h M hY FrI.rf
theorem Y_takeOff {M : AM} {tx : List Int} {fa : Int} {ln : LN} {g : GS} {un : List GS} {i0 i1 : Option (GS × Int)} {sd : Int} {me bo : List (Int × Int)} {Q : Option Value → AM → Prop} (hY : YW M (tx, fa, ln, g, un, i0, i1, sd, me, bo)) (h : ∀ M', YW M' (a_takeOff (tx, fa, ln, g, un, i0, i1, sd, me, bo)).2 → FrI 276 12 M M' → Q (some (zI (a_takeOff (tx, fa, ln, g, un, i0, i1, sd, me, bo)).1)) M') : C mX10_takeOff [.ref 276] M Q := by
  dsimp only [a_takeOff] at h
  obtain ⟨hRt, hLn, hA, hPa, hIm, hTx, hMe, hBo, hN, b1, b2, b3, b4, b5, b6, b7⟩ := id hY
  obtain ⟨ay, gy, ny, hy_, vy, ry, kY⟩ := id hRt
  have hL : YL M ln := hLn.l hRt.h
  obtain ⟨⟨o1, o2, o3, o4, o5, o6, o7⟩, lf, kL, l0, l1, l2, l3, l4⟩ := id hLn
  obtain ⟨⟨q1, q2, q3, q4, q5, q6, q7, q8, q9, q10, q11⟩, f, kT, ⟨t0, t1⟩, ⟨u1, u2, u3, u4, u5⟩⟩ := id hA
  refine C_of okX10_takeOff (by decide) (Nat.le_of_ble_eq_true rfl) ?_
  show P none mX10_takeOff 0 [.ref 276, .retAddr 0] [] _ _
  refine p_aload_n (i := 0) rfl rfl ?_
  refine p_getf (i := 1) rfl fX10_16 kY rfl ?_
  refine p_bipush (i := 2) rfl (by decide) ?_
  refine p_iaX (i := 3) (31) rfl kT (by omega) (by omega) (by decide) ?_
  refine p_iconst (i := 4) rfl ?_
  refine p_icmp_ne (i := 5) 14 rfl (by decide) (by omega) (by omega) (fun c8 => ?_) (fun c8 => ?_)
  · rw [if_neg (by omega)] at h
    refine p_aload_n (i := 8) rfl rfl ?_
    refine p_cV0 (i := 9) rfl ⟨lX10_221, rfl, rfl⟩ kY ⟨_, rfl, rfl⟩ rfl (y_remember hRt hA hPa b1 (fun M1 M2 fr1 fr2 hRt2 hPa2 => ?_))
    have kT := fr1.at kT (by omega)
    have kT := fr2.at kT (by omega)
    obtain ⟨ay, gy, ny, hy_, vy, ry, kY⟩ := id hRt2
    have fr3 : FrI 279 1 M2 M2 := FrI.rf
    refine p_aload_n (i := 10) rfl rfl ?_
    refine p_getf (i := 11) rfl fX10_16 kY rfl ?_
    refine p_bipush (i := 12) rfl (by decide) ?_
    refine p_iaX (i := 13) (31) rfl kT (by omega) (by omega) (by decide) ?_
    refine p_istore_n (i := 14) rfl rfl ?_
    refine p_aload_n (i := 15) rfl rfl ?_
    refine p_getf (i := 16) rfl fX10_16 kY rfl ?_
    refine p_bipush (i := 17) rfl (by decide) ?_
    refine p_iconst (i := 18) rfl ?_
    refine p_isX (i := 19) (31) rfl kT (by omega) (by omega) (by decide) (P_gen fun M e => ?_)
    have kY := aupN e kY (by omega)
    have fr3 := fr3.up e (by omega)
    have kT := aupE e
    refine p_iload_n (i := 20) rfl rfl ?_
    refine p_iret (i := 21) rfl rfl (rfl) ?_
    rw [u1]
    exact h M ⟨hRt2.fi fr3 (by omega), (((hLn.fi fr1 (by omega)).fi fr2 (by omega)).fi fr3 (by omega)), ⟨hA.1.wr (by omega), _, kT, YG.wr ⟨⟨t0, t1⟩, ⟨u1, u2, u3, u4, u5⟩⟩ hA.1⟩, hPa2.fi fr3 (by omega), (((hIm.fi fr1 (by omega)).fi fr2 (by omega)).fi fr3 (by omega)), (((hTx.fi fr1 (by omega)).fi fr2 (by omega)).fi fr3 (by omega)), (((hMe.fi fr1 (by omega)).fi fr2 (by omega)).fi fr3 (by omega)), (((hBo.fi fr1 (by omega)).fi fr2 (by omega)).fi fr3 (by omega)), (((hN.fi fr1 (by omega)).fi fr2 (by omega)).fi fr3 (by omega)), b1, b2, b3, b4, b5, b6, b7⟩ ((fr1.weak (by omega)).tr ((fr2.weak (by omega)).tr (fr3.weak (by omega))))
  · rw [if_pos (by omega)] at h
    refine p_ldc (i := 6) rfl kX10_216 ?_
    refine p_iret (i := 7) rfl rfl (rfl) ?_
    exact h M hY FrI.rf
theorem Y_wipe {M : AM} {tx : List Int} {fa : Int} {ln : LN} {g : GS} {un : List GS} {i0 i1 : Option (GS × Int)} {sd : Int} {me bo : List (Int × Int)} {Q : Option Value → AM → Prop} {k : Int} (hY : YW M (tx, fa, ln, g, un, i0, i1, sd, me, bo)) (hkk : -2147483648 ≤ k ∧ k ≤ 2147483647) (h : ∀ M', YW M' (a_wipe (tx, fa, ln, g, un, i0, i1, sd, me, bo) k).2 → FrI 276 12 M M' → Q (some (zI (a_wipe (tx, fa, ln, g, un, i0, i1, sd, me, bo) k).1)) M') : C mX10_wipe [.ref 276, zI k] M Q := by
  dsimp only [a_wipe] at h
  obtain ⟨hRt, hLn, hA, hPa, hIm, hTx, hMe, hBo, hN, b1, b2, b3, b4, b5, b6, b7⟩ := id hY
  obtain ⟨ay, gy, ny, hy_, vy, ry, kY⟩ := id hRt
  have hL : YL M ln := hLn.l hRt.h
  obtain ⟨⟨o1, o2, o3, o4, o5, o6, o7⟩, lf, kL, l0, l1, l2, l3, l4⟩ := id hLn
  obtain ⟨⟨q1, q2, q3, q4, q5, q6, q7, q8, q9, q10, q11⟩, f, kT, ⟨t0, t1⟩, ⟨u1, u2, u3, u4, u5⟩⟩ := id hA
  refine C_of okX10_wipe (by decide) (Nat.le_of_ble_eq_true rfl) ?_
  show P none mX10_wipe 0 [.ref 276, zI k] [] _ _
  refine p_aload_n (i := 0) rfl rfl ?_
  refine p_iload_n (i := 1) rfl rfl ?_
  refine p_cV1 (i := 2) rfl ⟨lX10_207, rfl, rfl⟩ kY ⟨_, rfl, rfl⟩ rfl (y_isLayer hL.1 hA hkk (fun q => ?_) (fun q => ?_))
  · rw [if_neg (not_not_intro q)] at h
    refine p_if_ne (i := 3) 11 rfl (by decide) (by omega) (fun c5 => ?_) (fun c5 => by exfalso; omega)
    refine p_aload_n (i := 6) rfl rfl ?_
    refine p_cV0 (i := 7) rfl ⟨lX10_221, rfl, rfl⟩ kY ⟨_, rfl, rfl⟩ rfl (y_remember hRt hA hPa b1 (fun M1 M2 fr1 fr2 hRt2 hPa2 => ?_))
    have kT := fr1.at kT (by omega)
    have kT := fr2.at kT (by omega)
    obtain ⟨ay, gy, ny, hy_, vy, ry, kY⟩ := id hRt2
    refine p_aload_n (i := 8) rfl rfl ?_
    refine p_getf (i := 9) rfl fX10_16 kY rfl ?_
    refine p_iload_n (i := 10) rfl rfl ?_
    refine p_top (b := ((k.toNat : Nat) : Int)) (by omega) ?_
    refine p_cS2 (i := 11) rfl ⟨lX10_141, rfl, rfl⟩ rfl (y_removes kT ⟨t0, t1⟩ (by omega) q1 (fun M3 f3 kT hL3 h31 fr3 => ?_))
    have kY := fr3.at kY (by omega)
    refine p_aload_n (i := 12) rfl rfl ?_
    refine p_getf (i := 13) rfl fX10_16 kY rfl ?_
    refine p_iconst (i := 14) rfl ?_
    refine p_iaX (i := 15) (0) rfl kT (by omega) (by omega) (by decide) ?_
    refine p_iret (i := 16) rfl rfl (rfl) ?_
    rw [hL3.1]
    exact h M3 ⟨hRt2.fi fr3 (by omega), (((hLn.fi fr1 (by omega)).fi fr2 (by omega)).fi fr3 (by omega)), ⟨hA.1.ly hA.1.ls.er, f3, kT, hL3, YRst.keep ⟨u1, u2, u3, u4, u5⟩ q9 h31⟩, hPa2.fi fr3 (by omega), (((hIm.fi fr1 (by omega)).fi fr2 (by omega)).fi fr3 (by omega)), (((hTx.fi fr1 (by omega)).fi fr2 (by omega)).fi fr3 (by omega)), (((hMe.fi fr1 (by omega)).fi fr2 (by omega)).fi fr3 (by omega)), (((hBo.fi fr1 (by omega)).fi fr2 (by omega)).fi fr3 (by omega)), (((hN.fi fr1 (by omega)).fi fr2 (by omega)).fi fr3 (by omega)), b1, b2, b3, b4, b5, b6, b7⟩ ((fr1.weak (by omega)).tr ((fr2.weak (by omega)).tr (fr3.weak (by omega))))
  · rw [if_pos q] at h
    refine p_if_ne (i := 3) 11 rfl (by decide) (by omega) (fun c5 => by exfalso; omega) (fun c5 => ?_)
    refine p_ldc (i := 4) rfl kX10_197 ?_
    refine p_iret (i := 5) rfl rfl (rfl) ?_
    exact h M hY FrI.rf
theorem Y_chip {M : AM} {tx : List Int} {fa : Int} {ln : LN} {g : GS} {un : List GS} {i0 i1 : Option (GS × Int)} {sd : Int} {me bo : List (Int × Int)} {Q : Option Value → AM → Prop} {x n : Int} (hY : YW M (tx, fa, ln, g, un, i0, i1, sd, me, bo)) (hx : -2147483648 ≤ x ∧ x ≤ 2147483647) (hn : -2147483648 ≤ n ∧ n ≤ 2147483647) (h : ∀ M', YW M' (a_chip (tx, fa, ln, g, un, i0, i1, sd, me, bo) x n).2 → FrI 276 12 M M' → Q (some (zI (a_chip (tx, fa, ln, g, un, i0, i1, sd, me, bo) x n).1)) M') : C mX10_chip [.ref 276, zI x, zI n] M Q := by
  dsimp only [a_chip] at h
  obtain ⟨hRt, hLn, hA, hPa, hIm, hTx, hMe, hBo, hN, b1, b2, b3, b4, b5, b6, b7⟩ := id hY
  obtain ⟨ay, gy, ny, hy_, vy, ry, kY⟩ := id hRt
  have hL : YL M ln := hLn.l hRt.h
  obtain ⟨⟨o1, o2, o3, o4, o5, o6, o7⟩, lf, kL, l0, l1, l2, l3, l4⟩ := id hLn
  obtain ⟨⟨q1, q2, q3, q4, q5, q6, q7, q8, q9, q10, q11⟩, f, kT, ⟨t0, t1⟩, ⟨u1, u2, u3, u4, u5⟩⟩ := id hA
  refine C_of okX10_chip (by decide) (Nat.le_of_ble_eq_true rfl) ?_
  show P none mX10_chip 0 [.ref 276, zI x, zI n] [] _ _
  refine p_aload_n (i := 0) rfl rfl ?_
  refine p_iload_n (i := 1) rfl rfl ?_
  refine p_cV1 (i := 2) rfl ⟨lX10_194, rfl, rfl⟩ kY ⟨_, rfl, rfl⟩ rfl (y_isScene hL hx (fun q => ?_) (fun q => ?_))
  · rw [if_neg (not_not_intro q)] at h
    refine p_if_ne (i := 3) 11 rfl (by decide) (by omega) (fun c5 => ?_) (fun c5 => by exfalso; omega)
    refine p_iload_n (i := 6) rfl rfl ?_
    refine p_i2l (i := 7) rfl (by omega) ?_
    refine p_lconst1 (i := 8) rfl ?_
    refine p_ldc2 (i := 9) rfl kX10_228 ?_
    refine p_cS3 (i := 10) rfl ⟨lX10_59, rfl, rfl⟩ rfl (y_in (by omega) (by omega) (by omega) (fun z => ?_) (fun z => ?_))
    · rw [if_neg (not_not_intro z)] at h
      refine p_if_ne (i := 11) 26 rfl (by decide) (by omega) (fun c20 => ?_) (fun c20 => by exfalso; omega)
      refine p_aload_n (i := 14) rfl rfl ?_
      refine p_cV0 (i := 15) rfl ⟨lX10_221, rfl, rfl⟩ kY ⟨_, rfl, rfl⟩ rfl (y_remember hRt hA hPa b1 (fun M1 M2 fr1 fr2 hRt2 hPa2 => ?_))
      have kT := fr1.at kT (by omega)
      have kT := fr2.at kT (by omega)
      obtain ⟨ay, gy, ny, hy_, vy, ry, kY⟩ := id hRt2
      refine p_aload_n (i := 16) rfl rfl ?_
      refine p_getf (i := 17) rfl fX10_16 kY rfl ?_
      refine p_iload_n (i := 18) rfl rfl ?_
      refine p_iconst (i := 19) rfl ?_
      refine p_iload_n (i := 20) rfl rfl ?_
      refine p_cS4 (i := 21) rfl ⟨lX10_155, rfl, rfl⟩ rfl (y_lays kT ⟨t0, t1⟩ hA.1.ls (fun M3 f3 kT hL3 h31 fr3 => ?_))
      have kY := fr3.at kY (by omega)
      refine p_aload_n (i := 22) rfl rfl ?_
      refine p_getf (i := 23) rfl fX10_16 kY rfl ?_
      refine p_iconst (i := 24) rfl ?_
      refine p_iaX (i := 25) (0) rfl kT (by omega) (by omega) (by decide) ?_
      refine p_iret (i := 26) rfl rfl (rfl) ?_
      rw [hL3.1]
      exact h M3 ⟨hRt2.fi fr3 (by omega), (((hLn.fi fr1 (by omega)).fi fr2 (by omega)).fi fr3 (by omega)), ⟨hA.1.ly (hA.1.ls.lay ⟨q.1, q.2, by show (-1 : Int) ≤ -1; decide, by show (-1 : Int) < (nW ln : Nat); omega, z.1, z.2⟩), f3, kT, hL3, YRst.keep ⟨u1, u2, u3, u4, u5⟩ q9 h31⟩, hPa2.fi fr3 (by omega), (((hIm.fi fr1 (by omega)).fi fr2 (by omega)).fi fr3 (by omega)), (((hTx.fi fr1 (by omega)).fi fr2 (by omega)).fi fr3 (by omega)), (((hMe.fi fr1 (by omega)).fi fr2 (by omega)).fi fr3 (by omega)), (((hBo.fi fr1 (by omega)).fi fr2 (by omega)).fi fr3 (by omega)), (((hN.fi fr1 (by omega)).fi fr2 (by omega)).fi fr3 (by omega)), b1, b2, b3, b4, b5, b6, b7⟩ ((fr1.weak (by omega)).tr ((fr2.weak (by omega)).tr (fr3.weak (by omega))))
    · rw [if_pos z] at h
      refine p_if_ne (i := 11) 26 rfl (by decide) (by omega) (fun c20 => by exfalso; omega) (fun c20 => ?_)
      refine p_ldc (i := 12) rfl kX10_63 ?_
      refine p_iret (i := 13) rfl rfl (rfl) ?_
      exact h M hY FrI.rf
  · rw [if_pos q] at h
    refine p_if_ne (i := 3) 11 rfl (by decide) (by omega) (fun c5 => by exfalso; omega) (fun c5 => ?_)
    refine p_ldc (i := 4) rfl kX10_197 ?_
    refine p_iret (i := 5) rfl rfl (rfl) ?_
    exact h M hY FrI.rf
theorem Y_undo {M : AM} {tx : List Int} {fa : Int} {ln : LN} {g : GS} {un : List GS} {i0 i1 : Option (GS × Int)} {sd : Int} {me bo : List (Int × Int)} {Q : Option Value → AM → Prop} {n : Int} (hY : YW M (tx, fa, ln, g, un, i0, i1, sd, me, bo)) (hn : -2147483648 ≤ n ∧ n ≤ 2147483647) (h : ∀ M', YW M' (a_undo (tx, fa, ln, g, un, i0, i1, sd, me, bo) n).2 → FrI 276 12 M M' → Q (some (zI (a_undo (tx, fa, ln, g, un, i0, i1, sd, me, bo) n).1)) M') : C mX10_undo [.ref 276, zI n] M Q := by
  dsimp only [a_undo] at h
  obtain ⟨hRt, hLn, hA, hPa, hIm, hTx, hMe, hBo, hN, b1, b2, b3, b4, b5, b6, b7⟩ := id hY
  obtain ⟨ay, gy, ny, hy_, vy, ry, kY⟩ := id hRt
  have hL : YL M ln := hLn.l hRt.h
  obtain ⟨⟨o1, o2, o3, o4, o5, o6, o7⟩, lf, kL, l0, l1, l2, l3, l4⟩ := id hLn
  obtain ⟨⟨q1, q2, q3, q4, q5, q6, q7, q8, q9, q10, q11⟩, f, kT, ⟨t0, t1⟩, ⟨u1, u2, u3, u4, u5⟩⟩ := id hA
  obtain ⟨p0, pf, kP, p1⟩ := id hPa
  refine C_of okX10_undo (by decide) (Nat.le_of_ble_eq_true rfl) ?_
  show P none mX10_undo 0 [.ref 276, zI n] [] _ _
  refine p_iload_n (i := 0) rfl rfl ?_
  refine p_i2l (i := 1) rfl (by omega) ?_
  refine p_lconst1 (i := 2) rfl ?_
  refine p_ldc2 (i := 3) rfl kX10_214 ?_
  refine p_cS3 (i := 4) rfl ⟨lX10_59, rfl, rfl⟩ rfl (y_in (by omega) (by omega) (by omega) (fun z => ?_) (fun z => ?_))
  · rw [if_neg (not_not_intro z)] at h
    refine p_if_ne (i := 5) 15 rfl (by decide) (by omega) (fun c9 => ?_) (fun c9 => by exfalso; omega)
    refine p_iload_n (i := 8) rfl rfl ?_
    refine p_aload_n (i := 9) rfl rfl ?_
    refine p_getf (i := 10) rfl fX10_48 kY rfl ?_
    refine p_icmp_le (i := 11) 26 rfl (by decide) (by omega) (by omega) (fun c20 => ?_) (fun c20 => ?_)
    · rw [if_neg (by omega)] at h
      have fr1 : FrI 276 1 M M := FrI.rf
      refine p_aload_n (i := 14) rfl rfl ?_
      refine p_dup (i := 15) rfl rfl ?_
      refine p_getf (i := 16) rfl fX10_48 kY rfl ?_
      refine p_iload_n (i := 17) rfl rfl ?_
      refine p_isub (i := 18) rfl ?_
      refine p_puti (i := 19) rfl gX10_48 kY rfl (P_gen fun M e => ?_)
      have kP := aupN e kP (by omega)
      have kT := aupN e kT (by omega)
      have fr1 := fr1.up e (by omega)
      have kY := aupE e
      refine p_aload_n (i := 20) rfl rfl ?_
      refine p_getf (i := 21) rfl fX10_22 kY rfl ?_
      refine p_bipush (i := 22) rfl (by decide) ?_
      refine p_aload_n (i := 23) rfl rfl ?_
      refine p_getf (i := 24) rfl fX10_48 kY rfl ?_
      refine p_imul (i := 25) rfl ?_
      refine p_aload_n (i := 26) rfl rfl ?_
      refine p_getf (i := 27) rfl fX10_16 kY rfl ?_
      refine p_iconst (i := 28) rfl ?_
      refine p_bipush (i := 29) rfl (by decide) ?_
      obtain ⟨m, em⟩ : ∃ m, m = un.length - n.toNat := ⟨_, rfl⟩
      have en : ((un.length : Nat) : Int) - n = (m : Int) := by omega
      rw [← em] at h
      rw [en] at kY ⊢
      rw [show (120 : Int) * ((m : Nat) : Int) = ((120 * m : Nat) : Int) by omega]
      obtain ⟨w1, w2, w3⟩ := p1 m (by omega)
      refine p_cS5 (i := 30) rfl ⟨lX10_118, rfl, rfl⟩ rfl (y_copies (j := 0) (m := 120) kP kT (by decide) (by omega) (by omega) (by decide) (fun M2 f2 kT hf2 fr2 => ?_))
      have hG : YG f2 (un.getD m g0) := YG.cg w2 w1 (fun q hq => by
        show f2 q = pf (120 * m + q)
        rw [hf2, if_pos (by omega), Nat.sub_zero])
      have kY := fr2.at kY (by omega)
      refine p_aload_n (i := 31) rfl rfl ?_
      refine p_getf (i := 32) rfl fX10_16 kY rfl ?_
      refine p_bipush (i := 33) rfl (by decide) ?_
      refine p_iaX (i := 34) (32) rfl kT (by omega) (by omega) (by decide) ?_
      refine p_iret (i := 35) rfl rfl (rfl) ?_
      rw [hG.2.2.1]
      have el : (un.take m).length = m := by rw [List.length_take]; omega
      refine h M2 ⟨⟨ay, gy, ny, hy_, vy, ry, ?_⟩, ((hLn.fi fr1 (by omega)).fi fr2 (by omega)), ⟨w1, f2, kT, hG⟩, ⟨by omega, pf, ?_, fun i hi => ?_⟩, ((hIm.fi fr1 (by omega)).fi fr2 (by omega)), ((hTx.fi fr1 (by omega)).fi fr2 (by omega)), ((hMe.fi fr1 (by omega)).fi fr2 (by omega)), ((hBo.fi fr1 (by omega)).fi fr2 (by omega)), ((hN.fi fr1 (by omega)).fi fr2 (by omega)), w3, b2, b3, b4, b5, b6, b7⟩ ((fr1.weak (by omega)).tr (fr2.weak (by omega)))
      · rw [el]; exact kY
      · exact fr2.at kP (by omega)
      · rw [el] at hi
        have e : (un.take m).getD i g0 = un.getD i g0 := by
          rw [List.getD_eq_getElem?_getD, List.getD_eq_getElem?_getD, List.getElem?_take, if_pos hi]
        rw [e]
        exact p1 i (by omega)
    · rw [if_pos (by omega)] at h
      refine p_ldc (i := 12) rfl kX10_216 ?_
      refine p_iret (i := 13) rfl rfl (rfl) ?_
      exact h M hY FrI.rf
  · rw [if_pos z] at h
    refine p_if_ne (i := 5) 15 rfl (by decide) (by omega) (fun c9 => by exfalso; omega) (fun c9 => ?_)
    refine p_ldc (i := 6) rfl kX10_63 ?_
    refine p_iret (i := 7) rfl rfl (rfl) ?_
    exact h M hY FrI.rf
