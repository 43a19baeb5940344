-- the reference: a year
theorem GOk.pass {ln : LN} {g : GS} (h : GOk (nS ln) (nW ln) g) (hL : LnOk ln) (hy : g.2.2.1 < 100000) : GOk (nS ln) (nW ln) (passY ln g) := by
  obtain ⟨q1, q2, q3, q4, q5, q6, q7, q8, q9, q10, q11⟩ := id h
  obtain ⟨o1, o2, o3, o4, o5, o6, o7⟩ := hL
  have hok := h.ls
  unfold passY
  by_cases c : 0 ≤ g.2.1
  · rw [if_pos c]
    obtain ⟨n1, n2, n3⟩ := o6 g.2.1.toNat (by omega)
    have hxr : 0 ≤ nxt ln g g.2.1 ∧ nxt ln g g.2.1 < nS ln := n3 _ (Nat.mod_lt _ (by omega))
    obtain ⟨b1, b2, b3, b4⟩ := o5 (nxt ln g g.2.1).toNat (by omega)
    obtain ⟨d1, d2, d3⟩ := hok.deep (w := g.2.1) (x := nxt ln g g.2.1) (gain := br ln (nxt ln g g.2.1).toNat / 10 + 1) (by omega) (by omega) (by omega)
    have hf : LsOk (nS ln) (nW ln) (fadeL ln g.2.2.1 (deepL g.1 g.2.1 (nxt ln g g.2.1) (br ln (nxt ln g g.2.1).toNat / 10 + 1)).2 0 (deepL g.1 g.2.1 (nxt ln g g.2.1) (br ln (nxt ln g g.2.1).toNat / 10 + 1)).1) := d1.fade
    refine ⟨hf.1, hf.at, q3, q4, by show 0 ≤ g.2.2.1 + 1; omega, by show g.2.2.1 + 1 ≤ 100000; omega, by show (g.2.2.2.1.set _ _).length = 6; rw [List.length_set]; exact q7, fun j hj => ?_, by show (logAdd _ _).length ≤ 20; rw [logAdd_len q9]; split <;> omega, q10, q11⟩
    show 0 ≤ (g.2.2.2.1.set _ _).getD j 0 ∧ (g.2.2.2.1.set _ _).getD j 0 ≤ g.2.2.1 + 1
    rw [st_getD _ _ _ _ _ (by omega)]
    have := q8 j hj
    have := q8 g.2.1.toNat (by omega)
    split <;> omega
  · rw [if_neg c]
    have hf : LsOk (nS ln) (nW ln) (fadeL ln g.2.2.1 (-1) 0 g.1) := hok.fade
    refine ⟨hf.1, hf.at, q3, q4, by show 0 ≤ g.2.2.1 + 1; omega, by show g.2.2.1 + 1 ≤ 100000; omega, q7, fun j hj => ?_, q9, q10, q11⟩
    have := q8 j hj
    show 0 ≤ g.2.2.2.1.getD j 0 ∧ g.2.2.2.1.getD j 0 ≤ g.2.2.1 + 1
    omega
theorem y_looks {M : AM} {t : Nat} {ln : LN} {g : GS} {w : Int} {Q : Option Value → AM → Prop} (hL : YL M ln) (hA : YA M t (nS ln) (nW ln) g) (ht : 278 ≤ t) (hw : 0 ≤ w ∧ w < nW ln) (h : ∀ M' f', M' t = some (zA 120 f') → YLay f' (deepL g.1 w (nxt ln g w) (br ln (nxt ln g w).toNat / 10 + 1)).1 → YRst f' (g.2.1, g.2.2.1, g.2.2.2.1.set w.toNat (g.2.2.2.1.getD w.toNat 0 + 1), logAdd g.2.2.2.2 (g.2.2.1, w, nxt ln g w, tk ln g.1 (nxt ln g w) 0 0)) → FrI t 1 M M' → Q (some (zI (deepL g.1 w (nxt ln g w) (br ln (nxt ln g w).toNat / 10 + 1)).2)) M') : C mX10_looks [.ref 276, .ref t, zI w] M Q := by
  obtain ⟨⟨uy, sy, zy, fy, my, by_, ay, gy, ny, hy_, vy, ry, kY⟩, ⟨o1, o2, o3, o4, o5, o6, o7⟩, lf, kL, l0, l1, l2, l3, l4⟩ := id hL
  obtain ⟨⟨q1, q2, q3, q4, q5, q6, q7, q8, q9, q10, q11⟩, f, kT, ⟨t0, t1⟩, ⟨u1, u2, u3, u4, u5⟩⟩ := id hA
  have hok := hA.1.ls
  obtain ⟨n1, n2, n3⟩ := o6 w.toNat (by omega)
  have hx : 0 ≤ nxt ln g w ∧ nxt ln g w < nS ln := n3 _ (Nat.mod_lt _ (by omega))
  obtain ⟨x, ex⟩ : ∃ x, x = nxt ln g w := ⟨_, rfl⟩
  rw [← ex] at h hx
  obtain ⟨b1, b2, b3, b4⟩ := o5 x.toNat (by omega)
  obtain ⟨m1, m2⟩ := l3 x.toNat (by omega)
  have h8 := q8 w.toNat (by omega)
  have eh := u3 w.toNat (by omega)
  refine C_of okX10_looks (by decide) (Nat.le_of_ble_eq_true rfl) ?_
  show P none mX10_looks 0 [.ref 276, .ref t, zI w, .retAddr 0, .retAddr 0, .retAddr 0] [] _ _
  refine p_aload_n (i := 0) rfl rfl ?_
  refine p_aload_n (i := 1) rfl rfl ?_
  refine p_iload_n (i := 2) rfl rfl ?_
  refine p_cV2 (i := 3) rfl ⟨lX10_145, rfl, rfl⟩ kY ⟨_, rfl, rfl⟩ rfl (y_nextScene (f := fun _ => 0) hL hA hw ?_)
  rw [← ex]
  refine p_istore_n (i := 4) rfl rfl ?_
  refine p_aload_n (i := 5) rfl rfl ?_
  refine p_iload_n (i := 6) rfl rfl ?_
  refine p_iload_n (i := 7) rfl rfl ?_
  refine p_aload_n (i := 8) rfl rfl ?_
  refine p_aload_n (i := 9) rfl rfl ?_
  refine p_iload_n (i := 10) rfl rfl ?_
  refine p_iconst (i := 11) rfl ?_
  refine p_aload_n (i := 12) rfl rfl ?_
  refine p_getf (i := 13) rfl fX10_7 kY rfl ?_
  refine p_iconst (i := 14) rfl ?_
  refine p_iaX (i := 15) (0) rfl kL (by omega) (by omega) (by decide) ?_
  refine p_cV4 (i := 16) rfl ⟨lX10_133, rfl, rfl⟩ kY ⟨_, rfl, rfl⟩ rfl (y_takesBy hL hA hx (m := 0) (by omega) (by omega) (wi := 0) (by decide) ?_)
  refine p_cS4 (i := 17) rfl ⟨lX10_148, rfl, rfl⟩ rfl (y_logs kT ⟨u1, u2, u3, u4, u5⟩ q9 (fun M f1 kT hR hlo fr => ?_))
  have kY := fr.at kY (by omega)
  have kL := fr.at kL (by omega)
  have e33 : f1 (33 + w.toNat) = g.2.2.2.1.getD w.toNat 0 := (hlo _ (by omega)).trans eh
  refine p_aload_n (i := 18) rfl rfl ?_
  refine p_bipush (i := 19) rfl (by decide) ?_
  refine p_iload_n (i := 20) rfl rfl ?_
  refine p_iadd (i := 21) rfl ?_
  refine p_dup2 (i := 22) rfl rfl rfl ?_
  refine p_iaX (i := 23) (33 + w.toNat) rfl kT (by omega) (by omega) (by decide) ?_
  refine p_iconst (i := 24) rfl ?_
  refine p_iadd (i := 25) rfl ?_
  refine p_isX (i := 26) (33 + w.toNat) rfl kT (by omega) (by omega) (by decide) (P_gen fun M e => ?_)
  have kY := aupN e kY (by omega)
  have kL := aupN e kL (by omega)
  have fr := fr.up e (by omega)
  have kT := aupE e
  refine p_aload_n (i := 27) rfl rfl ?_
  refine p_getf (i := 28) rfl fX10_7 kY rfl ?_
  refine p_bipush (i := 29) rfl (by decide) ?_
  refine p_iload_n (i := 30) rfl rfl ?_
  refine p_iadd (i := 31) rfl ?_
  refine p_iaX (i := 32) (11 + x.toNat) rfl kL (by omega) (by omega) (by decide) ?_
  refine p_bipush (i := 33) rfl (by decide) ?_
  refine p_idiv (i := 34) rfl (by omega) (by omega) ?_
  refine p_iconst (i := 35) rfl ?_
  refine p_iadd (i := 36) rfl ?_
  refine p_istore (i := 37) rfl rfl ?_
  refine p_iconst (i := 38) rfl ?_
  refine p_istore (i := 39) rfl rfl ?_
  rw [m2, e33] at *
  obtain ⟨f2, ef2⟩ : ∃ f2, f2 = zup f1 (33 + w.toNat) (g.2.2.2.1.getD w.toNat 0 + 1) := ⟨_, rfl⟩
  rw [← ef2] at kT
  have hf2 : ∀ q, q < 31 → f2 q = f q := fun q hq => by rw [ef2, zup_n (by omega)]; exact hlo q (by omega)
  have hRst : YRst f2 (g.2.1, g.2.2.1, g.2.2.2.1.set w.toNat (g.2.2.2.1.getD w.toNat 0 + 1), logAdd g.2.2.2.2 (g.2.2.1, w, x, tk ln g.1 x 0 0)) := by
    obtain ⟨v1, v2, v3, v4, v5⟩ := hR
    have hll := logAdd_len (e := (g.2.2.1, w, x, tk ln g.1 x 0 0)) q9
    refine ⟨by rw [ef2, zup_n (by omega)]; exact v1, by rw [ef2, zup_n (by omega)]; exact v2, fun j hj => ?_, by rw [ef2, zup_n (by omega)]; exact v4, fun i hi => ?_⟩
    · show f2 (33 + j) = (g.2.2.2.1.set _ _).getD j 0
      rw [st_getD _ _ _ _ _ (by omega), ef2]
      by_cases c : j = w.toNat
      · rw [if_pos c, c, zup_e]
      · rw [if_neg c, zup_n (by omega)]; exact v3 j hj
    · rw [ef2, zup_n (by omega), zup_n (by omega), zup_n (by omega), zup_n (by omega)]
      exact v5 i hi
  have hLay : YLay f2 g.1 := ⟨by rw [hf2 _ (by omega)]; exact t0, fun k hk => by rw [hf2 _ (by omega), hf2 _ (by omega), hf2 _ (by omega)]; exact t1 k hk⟩
  have hR2 : ∀ f3 : Nat → Int, (∀ q, 31 ≤ q → f3 q = f2 q) → YRst f3 (g.2.1, g.2.2.1, g.2.2.2.1.set w.toNat (g.2.2.2.1.getD w.toNat 0 + 1), logAdd g.2.2.2.2 (g.2.2.1, w, x, tk ln g.1 x 0 0)) := fun f3 he => hRst.keep (by show (logAdd _ _).length ≤ 20; rw [logAdd_len q9]; split <;> omega) he
  have t0' := hLay.1
  have loop : ∀ (c k : Nat), k + c = g.1.length → fi (fun k => decide (lW g.1 k = w ∧ lS g.1 k = x)) c k = fnd g.1 w x → P none mX10_looks 55 [.ref 276, .ref t, zI w, zI x, zI (br ln x.toNat / 10 + 1), zI (k : Int)] []  M Q := by
    intro c
    induction c with
    | zero =>
      intro k hkc hfi
      have hfi : -1 = fnd g.1 w x := hfi
      refine p_iload (i := 40) rfl rfl ?_
      refine p_aload_n (i := 41) rfl rfl ?_
      refine p_iconst (i := 42) rfl ?_
      refine p_iaX (i := 43) (0) rfl kT (by omega) (by omega) (by decide) ?_
      refine p_icmp_ge (i := 44) 115 rfl (by decide) (by omega) (by omega) (fun c60 => ?_) (fun c60 => by exfalso; omega)
      refine p_aload_n (i := 77) rfl rfl ?_
      refine p_iload_n (i := 78) rfl rfl ?_
      refine p_iload_n (i := 79) rfl rfl ?_
      refine p_iload (i := 80) rfl rfl ?_
      have ed : deepL g.1 w x (br ln x.toNat / 10 + 1) = (layL g.1 (x, w, br ln x.toNat / 10 + 1), ((layL g.1 (x, w, br ln x.toNat / 10 + 1)).length : Int) - 1) := by unfold deepL; rw [if_neg (by omega)]
      rw [ed] at h
      refine p_cS4 (i := 81) rfl ⟨lX10_155, rfl, rfl⟩ rfl (y_lays kT hLay hok (fun M f3 kT hL3 h31 fr3 => ?_))
      have fr := fr.tr fr3
      have l0' := hL3.1
      refine p_aload_n (i := 82) rfl rfl ?_
      refine p_iconst (i := 83) rfl ?_
      refine p_iaX (i := 84) (0) rfl kT (by omega) (by omega) (by decide) ?_
      refine p_iconst (i := 85) rfl ?_
      refine p_isub (i := 86) rfl ?_
      refine p_iret (i := 87) rfl rfl (rfl) ?_
      rw [l0']
      exact h M f3 kT hL3 (hR2 f3 h31) fr
    | succ c ih =>
      intro k hkc hfi
      obtain ⟨e1, e2, e3⟩ := hLay.2 k (by omega)
      have e4 := q2 k (by omega)
      have hfi : (if decide (lW g.1 k = w ∧ lS g.1 k = x) = true then (k : Int) else fi (fun k => decide (lW g.1 k = w ∧ lS g.1 k = x)) c (k + 1)) = fnd g.1 w x := hfi
      refine p_iload (i := 40) rfl rfl ?_
      refine p_aload_n (i := 41) rfl rfl ?_
      refine p_iconst (i := 42) rfl ?_
      refine p_iaX (i := 43) (0) rfl kT (by omega) (by omega) (by decide) ?_
      refine p_icmp_ge (i := 44) 115 rfl (by decide) (by omega) (by omega) (fun c60 => by exfalso; omega) (fun c60 => ?_)
      refine p_aload_n (i := 45) rfl rfl ?_
      refine p_bipush (i := 46) rfl (by decide) ?_
      refine p_iload (i := 47) rfl rfl ?_
      refine p_iadd (i := 48) rfl ?_
      refine p_iaX (i := 49) ((11 + k)) rfl kT (by omega) (by omega) (by decide) ?_
      refine p_iload_n (i := 50) rfl rfl ?_
      refine p_icmp_ne (i := 51) 109 rfl (by decide) (by omega) (by omega) (fun c71 => ?_) (fun c71 => ?_)
      · rw [if_neg (by rw [decide_eq_true_eq]; omega)] at hfi
        refine p_iinc (i := 75) rfl rfl rfl ?_
        refine p_goto (i := 76) 55 rfl (by decide) ?_
        exact ih (k + 1) (by omega) hfi
      · refine p_aload_n (i := 52) rfl rfl ?_
        refine p_iconst (i := 53) rfl ?_
        refine p_iload (i := 54) rfl rfl ?_
        refine p_iadd (i := 55) rfl ?_
        refine p_iaX (i := 56) ((1 + k)) rfl kT (by omega) (by omega) (by decide) ?_
        refine p_iload_n (i := 57) rfl rfl ?_
        refine p_icmp_ne (i := 58) 109 rfl (by decide) (by omega) (by omega) (fun c81 => ?_) (fun c81 => ?_)
        · rw [if_neg (by rw [decide_eq_true_eq]; omega)] at hfi
          refine p_iinc (i := 75) rfl rfl rfl ?_
          refine p_goto (i := 76) 55 rfl (by decide) ?_
          exact ih (k + 1) (by omega) hfi
        · rw [if_pos (by rw [decide_eq_true_eq]; omega)] at hfi
          have ed : deepL g.1 w x (br ln x.toNat / 10 + 1) = (g.1.set k (lS g.1 k, lW g.1 k, min 99 (lT g.1 k + (br ln x.toNat / 10 + 1))), (k : Int)) := by
            unfold deepL
            rw [← hfi, if_pos (by omega), Int.toNat_natCast, show lS g.1 k = x by omega, show lW g.1 k = w by omega]
          rw [ed] at h
          refine p_aload_n (i := 59) rfl rfl ?_
          refine p_bipush (i := 60) rfl (by decide) ?_
          refine p_iload (i := 61) rfl rfl ?_
          refine p_iadd (i := 62) rfl ?_
          refine p_bipush (i := 63) rfl (by decide) ?_
          refine p_aload_n (i := 64) rfl rfl ?_
          refine p_bipush (i := 65) rfl (by decide) ?_
          refine p_iload (i := 66) rfl rfl ?_
          refine p_iadd (i := 67) rfl ?_
          refine p_iaX (i := 68) ((21 + k)) rfl kT (by omega) (by omega) (by decide) ?_
          refine p_iload (i := 69) rfl rfl ?_
          refine p_iadd (i := 70) rfl ?_
          refine p_cS2 (i := 71) rfl ⟨lX10_152, rfl, rfl⟩ rfl (y_lesser (by omega) (by omega) ?_)
          refine p_isX (i := 72) ((21 + k)) rfl kT (by omega) (by omega) (by decide) (P_gen fun M e => ?_)
          have kY := aupN e kY (by omega)
          have kL := aupN e kL (by omega)
          have fr := fr.up e (by omega)
          have kT := aupE e
          refine p_iload (i := 73) rfl rfl ?_
          refine p_iret (i := 74) rfl rfl (rfl) ?_
          rw [e3] at kT
          refine h M _ kT (hLay.setT (t := min 99 (lT g.1 k + (br ln x.toNat / 10 + 1))) (by omega) q1 (by rw [zup_e]) (fun q hq => by rw [zup_n hq])) (hR2 _ (fun q hq => by rw [zup_n (by omega)])) fr
  exact loop g.1.length 0 (by omega) rfl
theorem y_yearGoes {M : AM} {t : Nat} {ln : LN} {g : GS} {Q : Option Value → AM → Prop} (hL : YL M ln) (hA : YA M t (nS ln) (nW ln) g) (ht : 278 ≤ t) (hy : g.2.2.1 < 100000) (h : ∀ M', YA M' t (nS ln) (nW ln) (passY ln g) → FrI t 1 M M' → Q none M') : C mX10_yearGoes [.ref 276, .ref t] M Q := by
  have hgo : GOk (nS ln) (nW ln) (passY ln g) := hA.1.pass hL.2.1 hy
  have hok := hA.1.ls
  have body : ∀ (M1 : AM) (f1 : Nat → Int) (own : Int) (Ls : List LY) (r : Int × Int × List Int × List (Int × Int × Int × Int)), M1 t = some (zA 120 f1) → YLay f1 Ls → YRst f1 r → LsOk (nS ln) (nW ln) Ls → -1 ≤ own ∧ own < Ls.length → r.2.2.2.length ≤ 20 → 0 ≤ r.2.1 ∧ r.2.1 < 100000 → FrI t 1 M M1 → (∀ M' f', M' t = some (zA 120 f') → YLay f' (fadeL ln r.2.1 own 0 Ls) → YRst f' (r.1, r.2.1 + 1, r.2.2) → FrI t 1 M M' → Q none M') → P none mX10_yearGoes 21 [.ref 276, .ref t, .retAddr 0, .retAddr 0, .retAddr 0] [zI own] M1 Q := by
    intro M1 f1 own Ls r kT hLay hRst hok ho hr20 hy fr hQ
    have hl10 := hok.1
    have loop : ∀ (c j : Nat) (s : Int) (M2 : AM) (f2 : Nat → Int), j + c = Ls.length → M2 t = some (zA 120 f2) → YLay f2 (cup ln r.2.1 own Ls j) → (∀ q, 31 ≤ q → f2 q = f1 q) → FrI t 1 M M2 → (own < j → s < cuk ln r.2.1 own Ls j) → ((j : Int) ≤ own → s = own - j + cuk ln r.2.1 own Ls j) → -1 ≤ s → P none mX10_yearGoes 29 [.ref 276, .ref t, zI s, zI (cuk ln r.2.1 own Ls j : Nat), zI ((Ls.length : Int) - j)] []  M2 Q := by
      intro c
      induction c with
      | zero =>
        intro j s M f2 hjc kT hLy he fr i1 i2 i3
        obtain rfl : j = Ls.length := by omega
        refine p_iload (i := 20) rfl rfl ?_
        refine p_if_le (i := 21) 125 rfl (by decide) (by omega) (fun c31 => ?_) (fun c31 => by exfalso; omega)
        refine p_aload_n (i := 83) rfl rfl ?_
        refine p_bipush (i := 84) rfl (by decide) ?_
        refine p_dup2 (i := 85) rfl rfl rfl ?_
        refine p_iaX (i := 86) (32) rfl kT (by omega) (by omega) (by decide) ?_
        refine p_iconst (i := 87) rfl ?_
        refine p_iadd (i := 88) rfl ?_
        refine p_isX (i := 89) (32) rfl kT (by omega) (by omega) (by decide) (P_gen fun M e => ?_)
        have fr := fr.up e (by omega)
        have kT := aupE e
        refine p_ret (i := 90) rfl rfl ?_
        rw [cup_all] at hLy
        have hr2 := hRst.keep hr20 he
        obtain ⟨v1, v2, v3, v4, v5⟩ := hr2
        refine hQ M _ kT ⟨by rw [zup_n (by omega)]; exact hLy.1, fun k hk => ?_⟩ ⟨by rw [zup_n (by omega)]; exact v1, by rw [zup_e, v2], fun j hj => by rw [zup_n (by omega)]; exact v3 j hj, by rw [zup_n (by omega)]; exact v4, fun i hi => ?_⟩ fr
        · have := fadeL_len ln r.2.1 own Ls 0
          rw [zup_n (by omega), zup_n (by omega), zup_n (by omega)]
          exact hLy.2 k hk
        · rw [zup_n (by omega), zup_n (by omega), zup_n (by omega), zup_n (by omega)]
          exact v5 i hi
      | succ c ih =>
        intro j s M f2 hjc kT hLy he fr i1 i2 i3
        have hj : j < Ls.length := by omega
        obtain ⟨a1, a2, a3, a4⟩ := cup_at (ln := ln) (y := r.2.1) (own := own) hj
        obtain ⟨e1, e2, e3⟩ := hLy.2 _ a1
        rw [a2] at e1
        rw [a4] at e3
        obtain ⟨z1, z2⟩ := cup_len (ln := ln) (y := r.2.1) (own := own) (Ls := Ls) (i := j)
        obtain ⟨k, ek⟩ : ∃ k, k = cuk ln r.2.1 own Ls j := ⟨_, rfl⟩
        have hl := hok.at j hj
        have hL1 := hL.fi fr (by omega)
        have e32 : f2 32 = r.2.1 := (he _ (by omega)).trans hRst.2.1
        have eb : (Ls.length : Int) - j + (-1) = (Ls.length : Int) - ((j + 1 : Nat) : Int) := by omega
        rw [← ek] at a1 a2 a3 a4 e1 e2 e3 z2 i1 i2 ⊢
        obtain ⟨n1, n2, n3, n4⟩ := hL1.2.1.2.2.2.2.1 (lS Ls j).toNat (by omega)
        obtain ⟨⟨uy, sy, zy, fy, my, by_, ay, gy, ny, hy_, vy, ry, kY⟩, ⟨o1, o2, o3, o4, o5, o6, o7⟩, lf, kL, l0, l1, l2, l3, l4⟩ := id hL1
        obtain ⟨m1, m2⟩ := l3 (lS Ls j).toNat (by omega)
        refine p_iload (i := 20) rfl rfl ?_
        refine p_if_le (i := 21) 125 rfl (by decide) (by omega) (fun c31 => by exfalso; omega) (fun c31 => ?_)
        refine p_iload_n (i := 22) rfl rfl ?_
        refine p_iload_n (i := 23) rfl rfl ?_
        refine p_icmp_eq (i := 24) 85 rfl (by decide) (by omega) (by omega) (fun c36 => ?_) (fun c36 => ?_)
        · refine p_aload_n (i := 60) rfl rfl ?_
          refine p_bipush (i := 61) rfl (by decide) ?_
          refine p_iload_n (i := 62) rfl rfl ?_
          refine p_iadd (i := 63) rfl ?_
          refine p_iaX (i := 64) ((21 + k)) rfl kT (by omega) (by omega) (by decide) ?_
          refine p_iconst (i := 65) rfl ?_
          refine p_icmp_ge (i := 66) 116 rfl (by decide) (by omega) (by omega) (fun c92 => ?_) (fun c92 => by exfalso; omega)
          refine p_iinc (i := 80) rfl rfl rfl ?_
          refine p_iinc (i := 81) rfl rfl rfl ?_
          refine p_goto (i := 82) 29 rfl (by decide) ?_
          rw [eb]
          obtain ⟨w1, w2⟩ := cup_keep (ln := ln) (y := r.2.1) (own := own) hj (by omega)
          rw [← ek] at w2
          have := ih (j + 1) s M f2 (by omega) kT (by rw [w1]; exact hLy) he fr (by omega) (by omega) i3
          rw [w2] at this
          exact this
        · have fb := fdg_le (k := kd ln (lS Ls j).toNat) (y := r.2.1) (t := lT Ls j) (by omega)
          have fn := fdg_nn (k := kd ln (lS Ls j).toNat) (y := r.2.1) (t := lT Ls j) (by omega)
          have fcase : ∀ o : Int, ((o = 1 ∧ r.2.1 % 2 = 1) ∨ (o = 0 ∧ ¬ r.2.1 % 2 = 1)) → P none mX10_yearGoes 80 [.ref 276, .ref t, zI s, zI (k : Int), zI ((Ls.length : Int) - j)] [zI o, zI (f2 (21 + k)), zI (lf (3 + (lS Ls j).toNat)), .ref 276, zI (f2 (21 + k)), zI (21 + (k : Int)), .ref t] M Q := by
            intro o ho2
            rw [e3, m1]
            refine p_cV3 (i := 57) rfl ⟨lX10_161, rfl, rfl⟩ kY ⟨_, rfl, rfl⟩ rfl (y_fading (y := r.2.1) (by omega) (by omega) ho2 ?_)
            refine p_isub (i := 58) rfl ?_
            refine p_isX (i := 59) (21 + k) rfl kT (by omega) (by omega) (by decide) (P_gen fun M e => ?_)
            have kY := aupN e kY (by omega)
            have kL := aupN e kL (by omega)
            have fr := fr.up e (by omega)
            have kT := aupE e
            refine p_aload_n (i := 60) rfl rfl ?_
            refine p_bipush (i := 61) rfl (by decide) ?_
            refine p_iload_n (i := 62) rfl rfl ?_
            refine p_iadd (i := 63) rfl ?_
            refine p_iaX (i := 64) ((21 + k)) rfl kT (by omega) (by omega) (by decide) ?_
            refine p_iconst (i := 65) rfl ?_
            rw [zup_e]
            have hs2 := hLy.setT (t := lT Ls j - fdg (kd ln (lS Ls j).toNat) (lT Ls j) r.2.1) (k := k) a1 (by omega) (f1 := zup f2 (21 + k) (lT Ls j - fdg (kd ln (lS Ls j).toNat) (lT Ls j) r.2.1)) (by rw [zup_e]) (fun q hq => by rw [zup_n hq])
            have he2 : ∀ q, 31 ≤ q → zup f2 (21 + k) (lT Ls j - fdg (kd ln (lS Ls j).toNat) (lT Ls j) r.2.1) q = f1 q := fun q hq => by rw [zup_n (by omega)]; exact he q hq
            refine p_icmp_ge (i := 66) 116 rfl (by decide) (by omega) (by omega) (fun c92 => ?_) (fun c92 => ?_)
            · refine p_iinc (i := 80) rfl rfl rfl ?_
              refine p_iinc (i := 81) rfl rfl rfl ?_
              refine p_goto (i := 82) 29 rfl (by decide) ?_
              rw [eb]
              obtain ⟨w1, w2⟩ := cup_set (ln := ln) (y := r.2.1) (own := own) hj (by omega) (by omega)
              rw [← ek] at w1 w2
              rw [a2, a3, w1] at hs2
              have := ih (j + 1) s M _ (by omega) kT hs2 he2 fr (by omega) (by omega) i3
              rw [w2] at this
              exact this
            · refine p_aload_n (i := 67) rfl rfl ?_
              refine p_iload_n (i := 68) rfl rfl ?_
              refine p_cS2 (i := 69) rfl ⟨lX10_141, rfl, rfl⟩ rfl (y_removes (k := k) kT hs2 (by rw [List.length_set]; exact a1) (by rw [List.length_set]; omega) (fun M f3 kT hL3 h31 fr3 => ?_))
              have fr := fr.tr fr3
              obtain ⟨w1, w2⟩ := cup_er (ln := ln) (y := r.2.1) (own := own) (z := (lS (cup ln r.2.1 own Ls j) k, lW (cup ln r.2.1 own Ls j) k, lT Ls j - fdg (kd ln (lS Ls j).toNat) (lT Ls j) r.2.1)) hj (by omega) (by omega)
              rw [← ek] at w1 w2
              rw [w1] at hL3
              have he3 : ∀ q, 31 ≤ q → f3 q = f1 q := fun q hq => (h31 q hq).trans (he2 q hq)
              refine p_iload_n (i := 70) rfl rfl ?_
              refine p_iload_n (i := 71) rfl rfl ?_
              refine p_iload_n (i := 72) rfl rfl ?_
              refine p_icmp_ge (i := 73) 110 rfl (by decide) (by omega) (by omega) (fun c103 => ?_) (fun c103 => ?_)
              · refine p_iconst (i := 76) rfl ?_
                refine p_isub (i := 77) rfl ?_
                refine p_istore_n (i := 78) rfl rfl ?_
                refine p_goto (i := 79) 119 rfl (by decide) ?_
                refine p_iinc (i := 81) rfl rfl rfl ?_
                refine p_goto (i := 82) 29 rfl (by decide) ?_
                rw [eb]
                have := ih (j + 1) (s - 0) M f3 (by omega) kT hL3 he3 fr (by omega) (by omega) (by omega)
                rw [w2] at this
                exact this
              · refine p_iconst (i := 74) rfl ?_
                refine p_goto (i := 75) 111 rfl (by decide) ?_
                refine p_isub (i := 77) rfl ?_
                refine p_istore_n (i := 78) rfl rfl ?_
                refine p_goto (i := 79) 119 rfl (by decide) ?_
                refine p_iinc (i := 81) rfl rfl rfl ?_
                refine p_goto (i := 82) 29 rfl (by decide) ?_
                rw [eb]
                have := ih (j + 1) (s - 1) M f3 (by omega) kT hL3 he3 fr (by omega) (by omega) (by omega)
                rw [w2] at this
                exact this
          refine p_aload_n (i := 25) rfl rfl ?_
          refine p_bipush (i := 26) rfl (by decide) ?_
          refine p_iload_n (i := 27) rfl rfl ?_
          refine p_iadd (i := 28) rfl ?_
          refine p_dup2 (i := 29) rfl rfl rfl ?_
          refine p_iaX (i := 30) ((21 + k)) rfl kT (by omega) (by omega) (by decide) ?_
          refine p_aload_n (i := 31) rfl rfl ?_
          refine p_aload_n (i := 32) rfl rfl ?_
          refine p_getf (i := 33) rfl fX10_7 kY rfl ?_
          refine p_iconst (i := 34) rfl ?_
          refine p_aload_n (i := 35) rfl rfl ?_
          refine p_iconst (i := 36) rfl ?_
          refine p_iload_n (i := 37) rfl rfl ?_
          refine p_iadd (i := 38) rfl ?_
          refine p_iaX (i := 39) ((1 + k)) rfl kT (by omega) (by omega) (by decide) ?_
          refine p_iadd (i := 40) rfl ?_
          refine p_iaX (i := 41) (3 + (lS Ls j).toNat) rfl kL (by omega) (by omega) (by decide) ?_
          refine p_aload_n (i := 42) rfl rfl ?_
          refine p_bipush (i := 43) rfl (by decide) ?_
          refine p_iload_n (i := 44) rfl rfl ?_
          refine p_iadd (i := 45) rfl ?_
          refine p_iaX (i := 46) ((21 + k)) rfl kT (by omega) (by omega) (by decide) ?_
          refine p_aload_n (i := 47) rfl rfl ?_
          refine p_bipush (i := 48) rfl (by decide) ?_
          refine p_iaX (i := 49) (32) rfl kT (by omega) (by omega) (by decide) ?_
          refine p_iconst (i := 50) rfl ?_
          refine p_irem (i := 51) rfl (by omega) (by omega) ?_
          refine p_iconst (i := 52) rfl ?_
          refine p_icmp_ne (i := 53) 79 rfl (by decide) (by omega) (by omega) (fun c72 => ?_) (fun c72 => ?_)
          · refine p_iconst (i := 56) rfl ?_
            exact fcase 0 (by omega)
          · refine p_iconst (i := 54) rfl ?_
            refine p_goto (i := 55) 80 rfl (by decide) ?_
            exact fcase 1 (by omega)
    have e0 := hLay.1
    refine p_istore_n (i := 13) rfl rfl ?_
    refine p_iconst (i := 14) rfl ?_
    refine p_istore_n (i := 15) rfl rfl ?_
    refine p_aload_n (i := 16) rfl rfl ?_
    refine p_iconst (i := 17) rfl ?_
    refine p_iaX (i := 18) (0) rfl kT (by omega) (by omega) (by decide) ?_
    refine p_istore (i := 19) rfl rfl ?_
    have := loop Ls.length 0 own M1 f1 (by omega) kT (by rw [cup_0.1]; exact hLay) (fun _ _ => rfl) fr (by omega) (by rw [cup_0.2]; omega) ho.1
    rw [cup_0.2] at this
    rw [e0]
    rw [show (Ls.length : Int) - ((0 : Nat) : Int) = (Ls.length : Int) by omega] at this
    exact this
  obtain ⟨⟨uy, sy, zy, fy, my, by_, ay, gy, ny, hy_, vy, ry, kY⟩, ⟨o1, o2, o3, o4, o5, o6, o7⟩, lf, kL, l0, l1, l2, l3, l4⟩ := id hL
  obtain ⟨⟨q1, q2, q3, q4, q5, q6, q7, q8, q9, q10, q11⟩, f, kT, ⟨t0, t1⟩, ⟨u1, u2, u3, u4, u5⟩⟩ := id hA
  refine C_of okX10_yearGoes (by decide) (Nat.le_of_ble_eq_true rfl) ?_
  show P none mX10_yearGoes 0 [.ref 276, .ref t, .retAddr 0, .retAddr 0, .retAddr 0] [] _ _
  refine p_aload_n (i := 0) rfl rfl ?_
  refine p_bipush (i := 1) rfl (by decide) ?_
  refine p_iaX (i := 2) (31) rfl kT (by omega) (by omega) (by decide) ?_
  refine p_iconst (i := 3) rfl ?_
  refine p_icmp_ne (i := 4) 12 rfl (by decide) (by omega) (by omega) (fun c5 => ?_) (fun c5 => ?_)
  · refine p_aload_n (i := 7) rfl rfl ?_
    refine p_aload_n (i := 8) rfl rfl ?_
    refine p_aload_n (i := 9) rfl rfl ?_
    refine p_bipush (i := 10) rfl (by decide) ?_
    refine p_iaX (i := 11) (31) rfl kT (by omega) (by omega) (by decide) ?_
    obtain ⟨n1, n2, n3⟩ := o6 g.2.1.toNat (by omega)
    have hxr : 0 ≤ nxt ln g g.2.1 ∧ nxt ln g g.2.1 < nS ln := n3 _ (Nat.mod_lt _ (by omega))
    obtain ⟨b1, b2, b3, b4⟩ := o5 (nxt ln g g.2.1).toNat (by omega)
    obtain ⟨d1, d2, d3⟩ := hok.deep (w := g.2.1) (x := nxt ln g g.2.1) (gain := br ln (nxt ln g g.2.1).toNat / 10 + 1) (by omega) (by omega) (by omega)
    rw [u1]
    refine p_cV2 (i := 12) rfl ⟨lX10_158, rfl, rfl⟩ kY ⟨_, rfl, rfl⟩ rfl (y_looks hL hA ht (by omega) (fun M1 f1 kT1 hLay1 hRst1 fr1 => ?_))
    have eP : passY ln g = (fadeL ln g.2.2.1 (deepL g.1 g.2.1 (nxt ln g g.2.1) (br ln (nxt ln g g.2.1).toNat / 10 + 1)).2 0 (deepL g.1 g.2.1 (nxt ln g g.2.1) (br ln (nxt ln g g.2.1).toNat / 10 + 1)).1, g.2.1, g.2.2.1 + 1, g.2.2.2.1.set g.2.1.toNat (g.2.2.2.1.getD g.2.1.toNat 0 + 1), logAdd g.2.2.2.2 (g.2.2.1, g.2.1, nxt ln g g.2.1, tk ln g.1 (nxt ln g g.2.1) 0 0)) := by unfold passY; rw [if_pos (by omega)]
    refine body M1 f1 _ _ _ kT1 hLay1 hRst1 d1 ⟨d2, d3⟩ (by show (logAdd _ _).length ≤ 20; rw [logAdd_len q9]; split <;> omega) (by show 0 ≤ g.2.2.1 ∧ g.2.2.1 < 100000; omega) fr1 (fun M' f' kT' hLay' hRst' fr' => ?_)
    refine h M' ⟨hgo, f', kT', ?_, ?_⟩ fr'
    · rw [eP]; exact hLay'
    · rw [eP]; exact hRst'
  · refine p_iconst (i := 5) rfl ?_
    refine p_goto (i := 6) 21 rfl (by decide) ?_
    have eP : passY ln g = (fadeL ln g.2.2.1 (-1) 0 g.1, g.2.1, g.2.2.1 + 1, g.2.2.2.1, g.2.2.2.2) := by unfold passY; rw [if_neg (by omega)]
    refine body M f _ g.1 g.2 kT ⟨t0, t1⟩ ⟨u1, u2, u3, u4, u5⟩ hok (by omega) q9 (by omega) FrI.rf (fun M' f' kT' hLay' hRst' fr' => ?_)
    refine h M' ⟨hgo, f', kT', ?_, ?_⟩ fr'
    · rw [eP]; exact hLay'
    · rw [eP]; exact hRst'
