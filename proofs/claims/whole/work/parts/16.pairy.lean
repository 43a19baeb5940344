-- Pair of the class: a year, copies
theorem fdg_le {k t y : Int} (ht : 0 ≤ t ∧ t ≤ 1000) : fdg k t y ≤ 101 := by
  unfold fdg
  split
  · decide
  · split
    · omega
    · split
      · split <;> decide
      · decide
theorem x_fadeBut {M : AM} {p lb ns nw : Nat} {Ls : List LY} {w y own : Int} {hs lr : Nat → Int} {lf lz : Int} {ln : LN} {Q : Option Value → AM → Prop} (hP : PairW M p Ls w y hs lr lf lz) (hok : LsOk ns nw Ls) (hL : LineA M lb ln) (hns : nS ln = ns) (hd : lb + 11 ≤ p ∨ p + 7 ≤ lb) (hy : 0 ≤ y ∧ y ≤ 1000000) (ho : -1 ≤ own ∧ own < Ls.length) (h : ∀ M', PairW M' p (fadeL ln y own 0 Ls) w y hs lr lf lz → FrI p 7 M M' → Q none M') : C mX6_fadeBut [.ref p, zI own, .ref lb] M Q := by
  have hl10 := hok.1
  have loop : ∀ (j : Nat) (M1 : AM), PairW M1 p (cur ln y own Ls j) w y hs lr lf lz → FrI p 7 M M1 → j ≤ 10 → P none mX6_fadeBut 3 [.ref p, zI own, .ref lb, zI ((j : Int) - 1)] []  M1 Q := by
    intro j
    induction j with
    | zero =>
      intro M hPW fr hj
      obtain ⟨q1, sc, wh, st, ⟨hp, hS, hW, hT, hH, hG, hR⟩, rL⟩ := id hPW
      refine p_iload_n (i := 2) rfl rfl ?_
      refine p_if_lt (i := 3) 69 rfl (by decide) (by omega) (fun c4 => ?_) (fun c4 => by exfalso; omega)
      refine p_ret (i := 40) rfl rfl ?_
      exact h M hPW fr
    | succ j ih =>
      intro M hPW fr hj
      have hL1 := hL.fi fr hd
      have hlc := cur_len (ln := ln) (y := y) (own := own) (Ls := Ls) (j := j + 1)
      obtain ⟨q1, sc, wh, st, ⟨hp, hS, hW, hT, hH, hG, hR⟩, rL⟩ := id hPW
      obtain ⟨⟨o1, o2, o3, o4, o5, o6, o7⟩, kf, bf, lc, lkf, ⟨hb, hk, hr, hc, ⟨gg, hg, hgi⟩, hrow⟩, hkb, hlk⟩ := id hL1
      have eb : ((j + 1 : Nat) : Int) - 1 + (-1) = (j : Int) - 1 := by omega
      refine p_iload_n (i := 2) rfl rfl ?_
      refine p_if_lt (i := 3) 69 rfl (by decide) (by omega) (fun c4 => by exfalso; omega) (fun c4 => ?_)
      refine p_iload_n (i := 4) rfl rfl ?_
      refine p_iload_n (i := 5) rfl rfl ?_
      refine p_icmp_eq (i := 6) 63 rfl (by decide) (by omega) (by omega) (fun c9 => ?_) (fun c9 => ?_)
      · refine p_iinc (i := 38) rfl rfl rfl ?_
        refine p_goto (i := 39) 3 rfl (by decide) ?_
        rw [eb]
        rw [cur_keep (by omega) (by omega)] at hPW
        exact ih M hPW fr (by omega)
      · refine p_aload_n (i := 7) rfl rfl ?_
        refine p_iload_n (i := 8) rfl rfl ?_
        refine p_cV1 (i := 9) rfl ⟨lX6_90, rfl, rfl⟩ hp ⟨_, rfl, rfl⟩ rfl (x_hasLayerW hPW (by omega) (fun q => ?_) (fun q => ?_))
        · have hjn : j < Ls.length := by omega
          obtain ⟨a1, a2, a3, a4⟩ := cur_at (ln := ln) (y := y) (own := own) hjn
          obtain ⟨e1, e2, e3⟩ := rL j a4
          have e4 := hok.at j hjn
          obtain ⟨n1, n2, n3, n4⟩ := o5 (lS Ls j).toNat (by omega)
          have e1' : sc j = lS Ls j := e1.trans a1
          have e3' : st j = lT Ls j := e3.trans a3
          refine p_if_eq (i := 10) 63 rfl (by decide) (by omega) (fun c17 => by exfalso; omega) (fun c17 => ?_)
          refine p_aload_n (i := 11) rfl rfl ?_
          refine p_getf (i := 12) rfl fX6_18 hp rfl ?_
          refine p_iload_n (i := 13) rfl rfl ?_
          refine p_dup2 (i := 14) rfl rfl rfl ?_
          refine p_iaX (i := 15) (j) rfl hT (by omega) (by omega) (by decide) ?_
          refine p_aload_n (i := 16) rfl rfl ?_
          refine p_aload_n (i := 17) rfl rfl ?_
          refine p_aload_n (i := 18) rfl rfl ?_
          refine p_getf (i := 19) rfl fX6_9 hp rfl ?_
          refine p_iload_n (i := 20) rfl rfl ?_
          refine p_iaX (i := 21) (j) rfl hS (by omega) (by omega) (by decide) ?_
          refine p_cV1 (i := 22) rfl ⟨lX6_110, rfl, rfl⟩ hb ⟨_, rfl, rfl⟩ rfl (x_kindOf hL1 (by omega) ?_)
          refine p_aload_n (i := 23) rfl rfl ?_
          refine p_getf (i := 24) rfl fX6_18 hp rfl ?_
          refine p_iload_n (i := 25) rfl rfl ?_
          refine p_iaX (i := 26) (j) rfl hT (by omega) (by omega) (by decide) ?_
          refine p_cV2 (i := 27) rfl ⟨lX6_113, rfl, rfl⟩ hp ⟨_, rfl, rfl⟩ rfl (x_fadingW hPW hy (by rw [e1']; omega) (by omega) ?_)
          refine p_isub (i := 28) rfl ?_
          refine p_isX (i := 29) (j) rfl hT (by omega) (by omega) (by decide) (P_gen fun M e => ?_)
          have hp := aupN e hp (by omega)
          have hS := aupN e hS (by omega)
          have hW := aupN e hW (by omega)
          have hH := aupN e hH (by omega)
          have hG := aupN e hG (by omega)
          have hR := aupN e hR (by omega)
          have hb := aupN e hb (by omega)
          have hk := aupN e hk (by omega)
          have hr := aupN e hr (by omega)
          have hc := aupN e hc (by omega)
          have hg := aupN e hg (by omega)
          have fr := fr.up e (by omega)
          have hT := aupE e
          refine p_aload_n (i := 30) rfl rfl ?_
          refine p_getf (i := 31) rfl fX6_18 hp rfl ?_
          refine p_iload_n (i := 32) rfl rfl ?_
          refine p_iaX (i := 33) (j) rfl hT (by omega) (by omega) (by decide) ?_
          rw [zup_e]
          rw [e1', e3'] at *
          have fb := fdg_le (k := kd ln (lS Ls j).toNat) (y := y) (t := lT Ls j) (by omega)
          have fn := fdg_nn (k := kd ln (lS Ls j).toNat) (y := y) (t := lT Ls j) (by omega)
          refine p_if_gt (i := 34) 63 rfl (by decide) (by omega) (fun c55 => ?_) (fun c55 => ?_)
          · refine p_iinc (i := 38) rfl rfl rfl ?_
            refine p_goto (i := 39) 3 rfl (by decide) ?_
            rw [eb]
            refine ih M ?_ fr (by omega)
            rw [← cur_set hjn (by omega) (by omega)]
            have := rL.setT (k := j) (t := lT Ls j - fdg (kd ln (lS Ls j).toNat) (lT Ls j) y) a4
            rw [a1, a2] at this
            exact ⟨by rw [List.length_set]; omega, sc, wh, _, ⟨by rw [List.length_set]; exact hp, hS, hW, hT, hH, hG, hR⟩, this⟩
          · refine p_aload_n (i := 35) rfl rfl ?_
            refine p_iload_n (i := 36) rfl rfl ?_
            have := rL.setT (k := j) (t := lT Ls j - fdg (kd ln (lS Ls j).toNat) (lT Ls j) y) a4
            have hPW2 : PairW M p ((cur ln y own Ls (j + 1)).set j (lS (cur ln y own Ls (j + 1)) j, lW (cur ln y own Ls (j + 1)) j, lT Ls j - fdg (kd ln (lS Ls j).toNat) (lT Ls j) y)) w y hs lr lf lz := ⟨by rw [List.length_set]; omega, sc, wh, _, ⟨by rw [List.length_set]; exact hp, hS, hW, hT, hH, hG, hR⟩, this⟩
            refine p_cV1 (i := 37) rfl ⟨lX6_106, rfl, rfl⟩ hp ⟨_, rfl, rfl⟩ rfl (x_remove hPW2 (by rw [List.length_set]; omega) (fun M1 hPW3 fr3 => ?_))
            refine p_iinc (i := 38) rfl rfl rfl ?_
            refine p_goto (i := 39) 3 rfl (by decide) ?_
            rw [eb]
            refine ih M1 ?_ (fr.tr fr3) (by omega)
            rw [← cur_er (z := (lS (cur ln y own Ls (j + 1)) j, lW (cur ln y own Ls (j + 1)) j, lT Ls j - fdg (kd ln (lS Ls j).toNat) (lT Ls j) y)) hjn (by omega) (by omega)]
            rw [show (((j + 1 : Nat) : Int) - 1).toNat = j by omega] at hPW3
            exact hPW3
        · refine p_if_eq (i := 10) 63 rfl (by decide) (by omega) (fun c17 => ?_) (fun c17 => by exfalso; omega)
          refine p_iinc (i := 38) rfl rfl rfl ?_
          refine p_goto (i := 39) 3 rfl (by decide) ?_
          rw [eb]
          have hjn : Ls.length ≤ j := by
            rcases Nat.lt_or_ge j Ls.length with z | z
            · exact absurd (by have := (cur_at (ln := ln) (y := y) (own := own) z).2.2.2; omega) q
            · exact z
          rw [cur_big (by omega)] at hPW
          exact ih M (by rw [cur_big hjn]; exact hPW) fr (by omega)
  obtain ⟨q1, sc, wh, st, ⟨hp, hS, hW, hT, hH, hG, hR⟩, rL⟩ := id hP
  refine C_of okX6_fadeBut (by decide) (Nat.le_of_ble_eq_true rfl) ?_
  show P none mX6_fadeBut 0 [.ref p, zI own, .ref lb, .retAddr 0] [] _ _
  refine p_bipush (i := 0) rfl (by decide) ?_
  refine p_istore_n (i := 1) rfl rfl ?_
  exact loop 10 M (by rw [cur_big hl10]; exact hP) FrI.rf (Nat.le_refl _)
theorem x_passYear {b : Bool} {M : AM} {p lb ns nw : Nat} {g : GS} {ln : LN} {Q : Option Value → AM → Prop} (hP : PairB b M p ns nw g) (hL : LineA M lb ln) (hns : nS ln = ns) (hnw : nW ln = nw) (hd : lb + 11 ≤ p ∨ p + 7 ≤ lb) (hy : g.2.2.1 < 100000) (h : ∀ M', PairB b M' p ns nw (passY ln g) → FrI p 7 M M' → Q none M') : C mX6_passYear [.ref p, .ref lb] M Q := by
  obtain ⟨⟨q1, q2, q3, q4, q5, q6, q7, q8, q9, q10, q11⟩, sc, wh, st, hs, lr, lf, lz, ⟨hp, hS, hW, hT, hH, hG, hR⟩, rL, rH, rG⟩ := id hP
  obtain ⟨⟨o1, o2, o3, o4, o5, o6, o7⟩, kf, bf, lc, lkf, ⟨hb, hk, hr, hc, ⟨gg, hg, hgi⟩, hrow⟩, hkb, hlk⟩ := id hL
  have hok := hP.1.ls
  have tail : ∀ (M1 : AM) (own : Int) (Ls : List LY) (hs1 lr1 : Nat → Int) (lf1 lz1 : Int) (x3 : Value), PairW M1 p Ls g.2.1 g.2.2.1 hs1 lr1 lf1 lz1 → LsOk ns nw Ls → -1 ≤ own ∧ own < Ls.length → FrI p 7 M M1 → (∀ M', PairW M' p (fadeL ln g.2.2.1 own 0 Ls) g.2.1 (g.2.2.1 + 1) hs1 lr1 lf1 lz1 → FrI p 7 M M' → Q none M') → P none mX6_passYear 79 [.ref p, .ref lb, zI own, x3] []  M1 Q := by
    intro M1 own Ls hs1 lr1 lf1 lz1 x3 hPW hok1 ho fr hQ
    have hL1 := hL.fi fr hd
    obtain ⟨q1, sc, wh, st, ⟨hp, hS, hW, hT, hH, hG, hR⟩, rL⟩ := id hPW
    refine p_aload_n (i := 47) rfl rfl ?_
    refine p_iload_n (i := 48) rfl rfl ?_
    refine p_aload_n (i := 49) rfl rfl ?_
    refine p_cV2 (i := 50) rfl ⟨lX6_83, rfl, rfl⟩ hp ⟨_, rfl, rfl⟩ rfl (x_fadeBut hPW hok1 hL1 hns hd (by omega) ho (fun M hPW2 fr2 => ?_))
    obtain ⟨q1, sc, wh, st, ⟨hp, hS, hW, hT, hH, hG, hR⟩, rL⟩ := id hPW2
    have fr := fr.tr fr2
    refine p_aload_n (i := 51) rfl rfl ?_
    refine p_dup (i := 52) rfl rfl ?_
    refine p_getf (i := 53) rfl fX6_38 hp rfl ?_
    refine p_iconst (i := 54) rfl ?_
    refine p_iadd (i := 55) rfl ?_
    refine p_puti (i := 56) rfl gX6_38 hp rfl (P_gen fun M e => ?_)
    have hS := aupN e hS (by omega)
    have hW := aupN e hW (by omega)
    have hT := aupN e hT (by omega)
    have hH := aupN e hH (by omega)
    have hG := aupN e hG (by omega)
    have hR := aupN e hR (by omega)
    have fr := fr.up e (by omega)
    have hp := aupE e
    refine p_ret (i := 57) rfl rfl ?_
    exact hQ M ⟨q1, sc, wh, st, ⟨hp, hS, hW, hT, hH, hG, hR⟩, rL⟩ fr
  refine C_of okX6_passYear (by decide) (Nat.le_of_ble_eq_true rfl) ?_
  show P none mX6_passYear 0 [.ref p, .ref lb, .retAddr 0, .retAddr 0] [] _ _
  refine p_iconst (i := 0) rfl ?_
  refine p_istore_n (i := 1) rfl rfl ?_
  refine p_aload_n (i := 2) rfl rfl ?_
  refine p_aload_n (i := 3) rfl rfl ?_
  refine p_getf (i := 4) rfl fX6_35 hp rfl ?_
  refine p_cV1 (i := 5) rfl ⟨lX6_58, rfl, rfl⟩ hb ⟨_, rfl, rfl⟩ rfl (x_hasWearer hL (by omega) (fun q => ?_) (fun q => ?_))
  · refine p_if_eq (i := 6) 79 rfl (by decide) (by omega) (fun c10 => by exfalso; omega) (fun c10 => ?_)
    obtain ⟨n1, n2, n3⟩ := o6 g.2.1.toNat (by omega)
    have hh := q8 g.2.1.toNat (by omega)
    have eh := rH g.2.1.toNat (by omega)
    have hm : (g.2.2.2.1.getD g.2.1.toNat 0).toNat % lkN ln g.2.1.toNat < lkN ln g.2.1.toNat := Nat.mod_lt _ (by omega)
    have hxr : 0 ≤ nxt ln g g.2.1 ∧ nxt ln g g.2.1 < nS ln := n3 _ hm
    obtain ⟨b1, b2, b3, b4⟩ := o5 (nxt ln g g.2.1).toNat (by omega)
    refine p_aload_n (i := 7) rfl rfl ?_
    refine p_aload_n (i := 8) rfl rfl ?_
    refine p_getf (i := 9) rfl fX6_35 hp rfl ?_
    refine p_aload_n (i := 10) rfl rfl ?_
    refine p_getf (i := 11) rfl fX6_21 hp rfl ?_
    refine p_aload_n (i := 12) rfl rfl ?_
    refine p_getf (i := 13) rfl fX6_35 hp rfl ?_
    refine p_iaX (i := 14) (g.2.1.toNat) rfl hH (by omega) (by omega) (by decide) ?_
    rw [eh]
    refine p_cV2 (i := 15) rfl ⟨lX6_64, rfl, rfl⟩ hb ⟨_, rfl, rfl⟩ rfl (x_sceneInYear hL q (by omega) ?_)
    show P none mX6_passYear (27 + 3) _ (zI (nxt ln g g.2.1) :: []) M Q
    refine p_istore_n (i := 16) rfl rfl ?_
    refine p_aload_n (i := 17) rfl rfl ?_
    refine p_getf (i := 18) rfl fX6_27 hp rfl ?_
    refine p_aload_n (i := 19) rfl rfl ?_
    refine p_getf (i := 20) rfl fX6_38 hp rfl ?_
    refine p_aload_n (i := 21) rfl rfl ?_
    refine p_getf (i := 22) rfl fX6_35 hp rfl ?_
    refine p_iload_n (i := 23) rfl rfl ?_
    refine p_aload_n (i := 24) rfl rfl ?_
    refine p_aload_n (i := 25) rfl rfl ?_
    refine p_iload_n (i := 26) rfl rfl ?_
    refine p_iconst (i := 27) rfl ?_
    refine p_iconst (i := 28) rfl ?_
    refine p_cV4 (i := 29) rfl ⟨lX6_68, rfl, rfl⟩ hp ⟨_, rfl, rfl⟩ rfl (x_takenFor hP hL hxr (by omega) (by decide) (wi := 0) ?_)
    have hlog : LogB M (p + 5) b g.2.2.2.2 := ⟨lr, lf, lz, hG, hR, rG⟩
    refine p_cV4 (i := 30) rfl ⟨lX6_72, rfl, rfl⟩ hG ⟨_, rfl, rfl⟩ rfl (x_logAdd hlog (fun M1 hlog1 fr1 => ?_))
    have hL1 := hL.fi fr1 (by omega)
    obtain ⟨lr1, lf1, lz1, hG1, hR1, rG1⟩ := hlog1
    have hg1 : GOk ns nw (g.1, g.2.1, g.2.2.1, g.2.2.2.1, logAdd g.2.2.2.2 (g.2.2.1, g.2.1, nxt ln g g.2.1, tk ln g.1 (nxt ln g g.2.1) 0 0)) := ⟨q1, q2, q3, q4, q5, q6, q7, q8, by show (logAdd _ _).length ≤ 20; rw [logAdd_len q9]; split <;> omega, q10, q11⟩
    have hP1 : PairB b M1 p ns nw (g.1, g.2.1, g.2.2.1, g.2.2.2.1, logAdd g.2.2.2.2 (g.2.2.1, g.2.1, nxt ln g g.2.1, tk ln g.1 (nxt ln g g.2.1) 0 0)) := ⟨hg1, sc, wh, st, hs, lr1, lf1, lz1, ⟨fr1.at hp (by omega), fr1.at hS (by omega), fr1.at hW (by omega), fr1.at hT (by omega), fr1.at hH (by omega), hG1, hR1⟩, rL, rH, rG1⟩
    have hb := fr1.at hb (by omega)
    have hp := fr1.at hp (by omega)
    refine p_aload_n (i := 31) rfl rfl ?_
    refine p_iload_n (i := 32) rfl rfl ?_
    refine p_aload_n (i := 33) rfl rfl ?_
    refine p_iload_n (i := 34) rfl rfl ?_
    refine p_cV1 (i := 35) rfl ⟨lX6_76, rfl, rfl⟩ hb ⟨_, rfl, rfl⟩ rfl (x_gain hL1 hxr ?_)
    obtain ⟨d1, d2, d3⟩ := hok.deep (w := g.2.1) (x := nxt ln g g.2.1) (gain := br ln (nxt ln g g.2.1).toNat / 10 + 1) (by omega) (by omega) (by omega)
    refine p_cV2 (i := 36) rfl ⟨lX6_80, rfl, rfl⟩ hp ⟨_, rfl, rfl⟩ rfl (x_deepen hP1 (by omega) (by omega) q.1 (fun M2 hP2 fr2 => ?_))
    have fr : FrI p 7 M M2 := (fr1.weak (by omega)).tr fr2
    obtain ⟨-, hs2, lr2, lf2, lz2, hPW2, rH2, rG2⟩ := hP2.w
    have hPW2 : PairW M2 p (deepL g.1 g.2.1 (nxt ln g g.2.1) (br ln (nxt ln g g.2.1).toNat / 10 + 1)).1 g.2.1 g.2.2.1 hs2 lr2 lf2 lz2 := hPW2
    have rH2 : RHis hs2 g.2.2.2.1 := rH2
    have eh2 := rH2 g.2.1.toNat (by omega)
    obtain ⟨q1, sc, wh, st, ⟨hp, hS, hW, hT, hH, hG, hR⟩, rL⟩ := id hPW2
    refine p_istore_n (i := 37) rfl rfl ?_
    refine p_aload_n (i := 38) rfl rfl ?_
    refine p_getf (i := 39) rfl fX6_21 hp rfl ?_
    refine p_aload_n (i := 40) rfl rfl ?_
    refine p_getf (i := 41) rfl fX6_35 hp rfl ?_
    refine p_dup2 (i := 42) rfl rfl rfl ?_
    refine p_iaX (i := 43) (g.2.1.toNat) rfl hH (by omega) (by omega) (by decide) ?_
    refine p_iconst (i := 44) rfl ?_
    refine p_iadd (i := 45) rfl ?_
    refine p_isX (i := 46) (g.2.1.toNat) rfl hH (by omega) (by omega) (by decide) (P_gen fun M e => ?_)
    have hp := aupN e hp (by omega)
    have hS := aupN e hS (by omega)
    have hW := aupN e hW (by omega)
    have hT := aupN e hT (by omega)
    have hG := aupN e hG (by omega)
    have hR := aupN e hR (by omega)
    have fr := fr.up e (by omega)
    have hH := aupE e
    refine tail M _ _ _ lr2 lf2 lz2 _ ⟨d1.1, sc, wh, st, ⟨hp, hS, hW, hT, hH, hG, hR⟩, rL⟩ d1 ⟨d2, d3⟩ fr (fun M' hPW' fr' => ?_)
    have eP : passY ln g = (fadeL ln g.2.2.1 (deepL g.1 g.2.1 (nxt ln g g.2.1) (br ln (nxt ln g g.2.1).toNat / 10 + 1)).2 0 (deepL g.1 g.2.1 (nxt ln g g.2.1) (br ln (nxt ln g g.2.1).toNat / 10 + 1)).1, g.2.1, g.2.2.1 + 1, g.2.2.2.1.set g.2.1.toNat (g.2.2.2.1.getD g.2.1.toNat 0 + 1), logAdd g.2.2.2.2 (g.2.2.1, g.2.1, nxt ln g g.2.1, tk ln g.1 (nxt ln g g.2.1) 0 0)) := by unfold passY; rw [if_pos q.1]
    rw [eP] at h
    refine h M' (PairW.b hPW' ?_ ?_ rG2) fr'
    · have hf : LsOk ns nw (fadeL ln g.2.2.1 (deepL g.1 g.2.1 (nxt ln g g.2.1) (br ln (nxt ln g g.2.1).toNat / 10 + 1)).2 0 (deepL g.1 g.2.1 (nxt ln g g.2.1) (br ln (nxt ln g g.2.1).toNat / 10 + 1)).1) := d1.fade
      refine ⟨hf.1, hf.at, q3, q4, by show 0 ≤ g.2.2.1 + 1; omega, by show g.2.2.1 + 1 ≤ 100000; omega, by show (g.2.2.2.1.set _ _).length = 6; rw [List.length_set]; exact q7, fun j hj => ?_, hg1.2.2.2.2.2.2.2.2.1, q10, q11⟩
      show 0 ≤ (g.2.2.2.1.set _ _).getD j 0 ∧ (g.2.2.2.1.set _ _).getD j 0 ≤ g.2.2.1 + 1
      rw [st_getD _ _ _ _ _ (by omega)]
      have := q8 j hj
      split <;> omega
    · intro j hj
      show zup hs2 _ _ j = (g.2.2.2.1.set _ _).getD j 0
      rw [st_getD _ _ _ _ _ (by omega)]
      have r2 := rH2 j hj
      by_cases e : j = g.2.1.toNat
      · rw [if_pos e, e, zup_e, eh2]
      · rw [if_neg e, zup_n e, r2]
  · refine p_if_eq (i := 6) 79 rfl (by decide) (by omega) (fun c10 => ?_) (fun c10 => by exfalso; omega)
    obtain ⟨-, hs2, lr2, lf2, lz2, hPW2, rH2, rG2⟩ := hP.w
    refine tail M _ _ _ lr2 lf2 lz2 _ hPW2 hok (by omega) FrI.rf (fun M' hPW' fr' => ?_)
    have eP : passY ln g = (fadeL ln g.2.2.1 (-1) 0 g.1, g.2.1, g.2.2.1 + 1, g.2.2.2.1, g.2.2.2.2) := by unfold passY; rw [if_neg (by omega)]
    rw [eP] at h
    have hf : LsOk ns nw (fadeL ln g.2.2.1 (-1) 0 g.1) := hok.fade
    refine h M' (PairW.b hPW' ⟨hf.1, hf.at, q3, q4, by show 0 ≤ g.2.2.1 + 1; omega, by show g.2.2.1 + 1 ≤ 100000; omega, q7, fun j hj => ?_, q9, q10, q11⟩ rH2 rG2) fr'
    have := q8 j hj
    show 0 ≤ g.2.2.2.1.getD j 0 ∧ g.2.2.2.1.getD j 0 ≤ g.2.2.1 + 1
    omega
def g0 : GS := ([], -1, 0, [0, 0, 0, 0, 0, 0], [])
theorem g0_ok {ns nw : Nat} (h1 : ns ≤ 8) (h2 : nw ≤ 6) : GOk ns nw g0 := ⟨by decide, fun k hk => absurd hk (Nat.not_lt_zero k), by decide, by show (-1 : Int) < (nw : Int); omega, by decide, by decide, rfl, fun j hj => by
  show 0 ≤ ([0, 0, 0, 0, 0, 0] : List Int).getD j 0 ∧ ([0, 0, 0, 0, 0, 0] : List Int).getD j 0 ≤ 0
  match j, hj with
  | 0, _ => decide
  | 1, _ => decide
  | 2, _ => decide
  | 3, _ => decide
  | 4, _ => decide
  | 5, _ => decide, by decide, h1, h2⟩
theorem x_reset {M : AM} {p ns nw : Nat} {Q : Option Value → AM → Prop} (hP : PairR M p) (h1 : ns ≤ 8) (h2 : nw ≤ 6) (h : ∀ M', PairB true M' p ns nw g0 → FrI p 7 M M' → Q none M') : C mX6_reset [.ref p] M Q := by
  obtain ⟨sc, wh, st, hs, lr, lf, lz, n, w, y, ⟨hp, hS, hW, hT, hH, hG, hR⟩, r1, r2, r3, r4⟩ := hP
  have loop : ∀ (f k : Nat) (M1 : AM) (hs : Nat → Int), k + f = 6 → PairAt M1 p sc wh st hs lr lf lz n w y → FrI p 7 M M1 → (∀ j, j < k → hs j = 0) → P none mX6_reset 2 [.ref p, zI (k : Int)] []  M1 Q := by
    intro f
    induction f with
    | zero =>
      intro k M hs hk hA fr hz
      obtain ⟨hp, hS, hW, hT, hH, hG, hR⟩ := hA
      refine p_iload_n (i := 2) rfl rfl ?_
      refine p_bipush (i := 3) rfl (by decide) ?_
      refine p_icmp_ge (i := 4) 21 rfl (by decide) (by omega) (by omega) (fun c5 => ?_) (fun c5 => by exfalso; omega)
      refine p_aload_n (i := 12) rfl rfl ?_
      refine p_getf (i := 13) rfl fX6_27 hp rfl ?_
      refine p_cV0 (i := 14) rfl ⟨lX6_41, rfl, rfl⟩ hG ⟨_, rfl, rfl⟩ rfl (x_logForget (b := true) hG hR (fun M1 hlog fr1 => ?_))
      obtain ⟨lr1, lf1, lz1, hG1, hR1, rG1⟩ := hlog
      have fr := fr.tr (fr1.weak (p' := p) (n' := 7) (by omega))
      have hp := fr1.at hp (by omega)
      have hS := fr1.at hS (by omega)
      have hW := fr1.at hW (by omega)
      have hT := fr1.at hT (by omega)
      have hH := fr1.at hH (by omega)
      have hG := hG1
      have hR := hR1
      refine p_aload_n (i := 15) rfl rfl ?_
      refine p_iconst (i := 16) rfl ?_
      refine p_puti (i := 17) rfl gX6_31 hp rfl (P_gen fun M e => ?_)
      have hS := aupN e hS (by omega)
      have hW := aupN e hW (by omega)
      have hT := aupN e hT (by omega)
      have hH := aupN e hH (by omega)
      have hG := aupN e hG (by omega)
      have hR := aupN e hR (by omega)
      have fr := fr.up e (by omega)
      have hp := aupE e
      refine p_aload_n (i := 18) rfl rfl ?_
      refine p_iconst (i := 19) rfl ?_
      refine p_puti (i := 20) rfl gX6_35 hp rfl (P_gen fun M e => ?_)
      have hS := aupN e hS (by omega)
      have hW := aupN e hW (by omega)
      have hT := aupN e hT (by omega)
      have hH := aupN e hH (by omega)
      have hG := aupN e hG (by omega)
      have hR := aupN e hR (by omega)
      have fr := fr.up e (by omega)
      have hp := aupE e
      refine p_aload_n (i := 21) rfl rfl ?_
      refine p_iconst (i := 22) rfl ?_
      refine p_puti (i := 23) rfl gX6_38 hp rfl (P_gen fun M e => ?_)
      have hS := aupN e hS (by omega)
      have hW := aupN e hW (by omega)
      have hT := aupN e hT (by omega)
      have hH := aupN e hH (by omega)
      have hG := aupN e hG (by omega)
      have hR := aupN e hR (by omega)
      have fr := fr.up e (by omega)
      have hp := aupE e
      refine p_ret (i := 24) rfl rfl ?_
      refine h M ⟨g0_ok h1 h2, sc, wh, st, hs, lr1, lf1, lz1, ⟨hp, hS, hW, hT, hH, hG, hR⟩, fun k hk => absurd hk (Nat.not_lt_zero k), fun j hj => ?_, rG1⟩ fr
      rw [hz j (by omega)]
      match j, hj with
      | 0, _ => rfl
      | 1, _ => rfl
      | 2, _ => rfl
      | 3, _ => rfl
      | 4, _ => rfl
      | 5, _ => rfl
    | succ f ih =>
      intro k M hs hk hA fr hz
      obtain ⟨hp, hS, hW, hT, hH, hG, hR⟩ := hA
      refine p_iload_n (i := 2) rfl rfl ?_
      refine p_bipush (i := 3) rfl (by decide) ?_
      refine p_icmp_ge (i := 4) 21 rfl (by decide) (by omega) (by omega) (fun c5 => by exfalso; omega) (fun c5 => ?_)
      refine p_aload_n (i := 5) rfl rfl ?_
      refine p_getf (i := 6) rfl fX6_21 hp rfl ?_
      refine p_iload_n (i := 7) rfl rfl ?_
      refine p_iconst (i := 8) rfl ?_
      refine p_isX (i := 9) _ rfl hH rfl (by omega) (by decide) (P_gen fun M e => ?_)
      have hp := aupN e hp (by omega)
      have hS := aupN e hS (by omega)
      have hW := aupN e hW (by omega)
      have hT := aupN e hT (by omega)
      have hG := aupN e hG (by omega)
      have hR := aupN e hR (by omega)
      have fr := fr.up e (by omega)
      have hH := aupE e
      refine p_iinc (i := 10) rfl rfl rfl ?_
      refine p_goto (i := 11) 2 rfl (by decide) ?_
      refine ih (k + 1) M _ (by omega) ⟨hp, hS, hW, hT, hH, hG, hR⟩ fr (fun j hj => ?_)
      by_cases e : j = k
      · rw [e, zup_e]
      · rw [zup_n e]; exact hz j (by omega)
  refine C_of okX6_reset (by decide) (Nat.le_of_ble_eq_true rfl) ?_
  show P none mX6_reset 0 [.ref p, .retAddr 0] [] _ _
  refine p_iconst (i := 0) rfl ?_
  refine p_istore_n (i := 1) rfl rfl ?_
  exact loop 6 0 M hs (by omega) ⟨hp, hS, hW, hT, hH, hG, hR⟩ FrI.rf (fun j hj => absurd hj (Nat.not_lt_zero j))
theorem cpy_at {f g : Nat → Int} {n : Nat} {j : Nat} (h : j < n) : va_cpy f g (0 : Int).toNat (0 : Int).toNat n j = f j := by
  show (if 0 ≤ j ∧ j < 0 + n then f (0 + (j - 0)) else g j) = f j
  rw [if_pos (by omega)]
  congr 1
  omega
theorem x_copyGlass {b : Bool} {M : AM} {p o ns nw : Nat} {g : GS} {Q : Option Value → AM → Prop} (hR0 : PairR M p) (hP : PairB b M o ns nw g) (hd : p + 7 ≤ o ∨ o + 7 ≤ p) (h : ∀ M', PairB false M' p ns nw g → FrI p 5 M M' → Q none M') : C mX6_copyGlass [.ref p, .ref o] M Q := by
  obtain ⟨sc0, wh0, st0, hs0, lr0, lf0, lz0, n0, w0, y0, ⟨kp, kS, kW, kT, kH, kG, kR⟩, r1, r2, r3, r4⟩ := hR0
  obtain ⟨⟨q1, q2, q3, q4, q5, q6, q7, q8, q9, q10, q11⟩, sc, wh, st, hs, lr, lf, lz, ⟨hp, hS, hW, hT, hH, hG, hR⟩, rL, rH, rG⟩ := id hP
  have fr : FrI p 5 M M := FrI.rf
  refine C_of okX6_copyGlass (by decide) (Nat.le_of_ble_eq_true rfl) ?_
  show P none mX6_copyGlass 0 [.ref p, .ref o] [] _ _
  refine p_aload_n (i := 0) rfl rfl ?_
  refine p_aload_n (i := 1) rfl rfl ?_
  refine p_getf (i := 2) rfl fX6_31 hp rfl ?_
  refine p_puti (i := 3) rfl gX6_31 kp rfl (P_gen fun M e => ?_)
  have hp := aupN e hp (by omega)
  have hS := aupN e hS (by omega)
  have hW := aupN e hW (by omega)
  have hT := aupN e hT (by omega)
  have hH := aupN e hH (by omega)
  have hG := aupN e hG (by omega)
  have hR := aupN e hR (by omega)
  have kS := aupN e kS (by omega)
  have kW := aupN e kW (by omega)
  have kT := aupN e kT (by omega)
  have kH := aupN e kH (by omega)
  have kG := aupN e kG (by omega)
  have kR := aupN e kR (by omega)
  have fr := fr.up e (by omega)
  have kp := aupE e
  refine p_aload_n (i := 4) rfl rfl ?_
  refine p_aload_n (i := 5) rfl rfl ?_
  refine p_getf (i := 6) rfl fX6_35 hp rfl ?_
  refine p_puti (i := 7) rfl gX6_35 kp rfl (P_gen fun M e => ?_)
  have hp := aupN e hp (by omega)
  have hS := aupN e hS (by omega)
  have hW := aupN e hW (by omega)
  have hT := aupN e hT (by omega)
  have hH := aupN e hH (by omega)
  have hG := aupN e hG (by omega)
  have hR := aupN e hR (by omega)
  have kS := aupN e kS (by omega)
  have kW := aupN e kW (by omega)
  have kT := aupN e kT (by omega)
  have kH := aupN e kH (by omega)
  have kG := aupN e kG (by omega)
  have kR := aupN e kR (by omega)
  have fr := fr.up e (by omega)
  have kp := aupE e
  refine p_aload_n (i := 8) rfl rfl ?_
  refine p_aload_n (i := 9) rfl rfl ?_
  refine p_getf (i := 10) rfl fX6_38 hp rfl ?_
  refine p_puti (i := 11) rfl gX6_38 kp rfl (P_gen fun M e => ?_)
  have hp := aupN e hp (by omega)
  have hS := aupN e hS (by omega)
  have hW := aupN e hW (by omega)
  have hT := aupN e hT (by omega)
  have hH := aupN e hH (by omega)
  have hG := aupN e hG (by omega)
  have hR := aupN e hR (by omega)
  have kS := aupN e kS (by omega)
  have kW := aupN e kW (by omega)
  have kT := aupN e kT (by omega)
  have kH := aupN e kH (by omega)
  have kG := aupN e kG (by omega)
  have kR := aupN e kR (by omega)
  have fr := fr.up e (by omega)
  have kp := aupE e
  refine p_aload_n (i := 12) rfl rfl ?_
  refine p_getf (i := 13) rfl fX6_9 hp rfl ?_
  refine p_iconst (i := 14) rfl ?_
  refine p_aload_n (i := 15) rfl rfl ?_
  refine p_getf (i := 16) rfl fX6_9 kp rfl ?_
  refine p_iconst (i := 17) rfl ?_
  refine p_bipush (i := 18) rfl (by decide) ?_
  refine p_copy (i := 19) rfl lX6_52 w_copy hS kS (by omega) (by decide) (by decide) (P_gen fun M e => ?_)
  have hp := aupN e hp (by omega)
  have hS := aupN e hS (by omega)
  have hW := aupN e hW (by omega)
  have hT := aupN e hT (by omega)
  have hH := aupN e hH (by omega)
  have hG := aupN e hG (by omega)
  have hR := aupN e hR (by omega)
  have kp := aupN e kp (by omega)
  have kW := aupN e kW (by omega)
  have kT := aupN e kT (by omega)
  have kH := aupN e kH (by omega)
  have kG := aupN e kG (by omega)
  have kR := aupN e kR (by omega)
  have fr := fr.up e (by omega)
  have kS := aupE e
  refine p_aload_n (i := 20) rfl rfl ?_
  refine p_getf (i := 21) rfl fX6_15 hp rfl ?_
  refine p_iconst (i := 22) rfl ?_
  refine p_aload_n (i := 23) rfl rfl ?_
  refine p_getf (i := 24) rfl fX6_15 kp rfl ?_
  refine p_iconst (i := 25) rfl ?_
  refine p_bipush (i := 26) rfl (by decide) ?_
  refine p_copy (i := 27) rfl lX6_52 w_copy hW kW (by omega) (by decide) (by decide) (P_gen fun M e => ?_)
  have hp := aupN e hp (by omega)
  have hS := aupN e hS (by omega)
  have hW := aupN e hW (by omega)
  have hT := aupN e hT (by omega)
  have hH := aupN e hH (by omega)
  have hG := aupN e hG (by omega)
  have hR := aupN e hR (by omega)
  have kp := aupN e kp (by omega)
  have kS := aupN e kS (by omega)
  have kT := aupN e kT (by omega)
  have kH := aupN e kH (by omega)
  have kG := aupN e kG (by omega)
  have kR := aupN e kR (by omega)
  have fr := fr.up e (by omega)
  have kW := aupE e
  refine p_aload_n (i := 28) rfl rfl ?_
  refine p_getf (i := 29) rfl fX6_18 hp rfl ?_
  refine p_iconst (i := 30) rfl ?_
  refine p_aload_n (i := 31) rfl rfl ?_
  refine p_getf (i := 32) rfl fX6_18 kp rfl ?_
  refine p_iconst (i := 33) rfl ?_
  refine p_bipush (i := 34) rfl (by decide) ?_
  refine p_copy (i := 35) rfl lX6_52 w_copy hT kT (by omega) (by decide) (by decide) (P_gen fun M e => ?_)
  have hp := aupN e hp (by omega)
  have hS := aupN e hS (by omega)
  have hW := aupN e hW (by omega)
  have hT := aupN e hT (by omega)
  have hH := aupN e hH (by omega)
  have hG := aupN e hG (by omega)
  have hR := aupN e hR (by omega)
  have kp := aupN e kp (by omega)
  have kS := aupN e kS (by omega)
  have kW := aupN e kW (by omega)
  have kH := aupN e kH (by omega)
  have kG := aupN e kG (by omega)
  have kR := aupN e kR (by omega)
  have fr := fr.up e (by omega)
  have kT := aupE e
  refine p_aload_n (i := 36) rfl rfl ?_
  refine p_getf (i := 37) rfl fX6_21 hp rfl ?_
  refine p_iconst (i := 38) rfl ?_
  refine p_aload_n (i := 39) rfl rfl ?_
  refine p_getf (i := 40) rfl fX6_21 kp rfl ?_
  refine p_iconst (i := 41) rfl ?_
  refine p_bipush (i := 42) rfl (by decide) ?_
  refine p_copy (i := 43) rfl lX6_52 w_copy hH kH (by omega) (by decide) (by decide) (P_gen fun M e => ?_)
  have hp := aupN e hp (by omega)
  have hS := aupN e hS (by omega)
  have hW := aupN e hW (by omega)
  have hT := aupN e hT (by omega)
  have hH := aupN e hH (by omega)
  have hG := aupN e hG (by omega)
  have hR := aupN e hR (by omega)
  have kp := aupN e kp (by omega)
  have kS := aupN e kS (by omega)
  have kW := aupN e kW (by omega)
  have kT := aupN e kT (by omega)
  have kG := aupN e kG (by omega)
  have kR := aupN e kR (by omega)
  have fr := fr.up e (by omega)
  have kH := aupE e
  refine p_ret (i := 44) rfl rfl ?_
  refine h M ⟨hP.1, _, _, _, _, lr0, lf0, lz0, ⟨kp, kS, kW, kT, kH, kG, kR⟩, fun k hk => ?_, fun j hj => ?_, r1, r2, r3, r4, fun q => by cases q⟩ fr
  · obtain ⟨e1, e2, e3⟩ := rL k hk
    exact ⟨(cpy_at (by show k < 10; omega)).trans e1, (cpy_at (by show k < 10; omega)).trans e2, (cpy_at (by show k < 10; omega)).trans e3⟩
  · exact (cpy_at (by show j < 6; omega)).trans (rH j hj)
theorem x_copyAll {M : AM} {p o ns nw : Nat} {g : GS} {Q : Option Value → AM → Prop} (hR0 : PairR M p) (hP : PairB true M o ns nw g) (hd : p + 7 ≤ o ∨ o + 7 ≤ p) (h : ∀ M', PairB true M' p ns nw g → FrI p 7 M M' → Q none M') : C mX6_copyAll [.ref p, .ref o] M Q := by
  obtain ⟨sc0, wh0, st0, hs0, lr0, lf0, lz0, n0, w0, y0, ⟨kp, kS, kW, kT, kH, kG, kR⟩, r1, r2, r3, r4⟩ := id hR0
  refine C_of okX6_copyAll (by decide) (Nat.le_of_ble_eq_true rfl) ?_
  show P none mX6_copyAll 0 [.ref p, .ref o] [] _ _
  refine p_aload_n (i := 0) rfl rfl ?_
  refine p_aload_n (i := 1) rfl rfl ?_
  refine p_cV1 (i := 2) rfl ⟨lX6_44, rfl, rfl⟩ kp ⟨_, rfl, rfl⟩ rfl (x_copyGlass hR0 hP hd (fun M1 hP1 fr1 => ?_))
  have hP2 := hP.fi fr1 (by omega)
  obtain ⟨⟨q1, q2, q3, q4, q5, q6, q7, q8, q9, q10, q11⟩, sc, wh, st, hs, lr, lf, lz, ⟨hp, hS, hW, hT, hH, hG, hR⟩, rL, rH, rG⟩ := id hP2
  obtain ⟨-, sc1, wh1, st1, hs1, lr1, lf1, lz1, ⟨kp, kS, kW, kT, kH, kG, kR⟩, rL1, rH1, -⟩ := id hP1
  refine p_aload_n (i := 3) rfl rfl ?_
  refine p_getf (i := 4) rfl fX6_27 kp rfl ?_
  refine p_aload_n (i := 5) rfl rfl ?_
  refine p_getf (i := 6) rfl fX6_27 hp rfl ?_
  refine p_cV1 (i := 7) rfl ⟨lX6_48, rfl, rfl⟩ kG ⟨_, rfl, rfl⟩ rfl (x_logCopy (l := p + 5) (o := o + 5) ⟨lr, lf, lz, hG, hR, rG⟩ kG kR (by omega) (fun M2 hlog fr2 => ?_))
  refine p_ret (i := 8) rfl rfl ?_
  obtain ⟨lr2, lf2, lz2, kG2, kR2, rG2⟩ := hlog
  exact h M2 ⟨hP.1, sc1, wh1, st1, hs1, lr2, lf2, lz2, ⟨fr2.at kp (by omega), fr2.at kS (by omega), fr2.at kW (by omega), fr2.at kT (by omega), fr2.at kH (by omega), kG2, kR2⟩, rL1, rH1, rG2⟩ ((fr1.weak (by omega)).tr (fr2.weak (by omega)))
