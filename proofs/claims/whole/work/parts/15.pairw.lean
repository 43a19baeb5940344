-- Pair of the class: what is done with it
theorem x_hasLayerW {M : AM} {p : Nat} {Ls : List LY} {w y : Int} {hs lr : Nat → Int} {lf lz : Int} {k : Int} {Q : Option Value → AM → Prop} (hP : PairW M p Ls w y hs lr lf lz) (hk : -2147483648 ≤ k ∧ k ≤ 2147483647) (h1 : 0 ≤ k ∧ k < Ls.length → Q (some (zI 1)) M) (h0 : ¬ (0 ≤ k ∧ k < Ls.length) → Q (some (zI 0)) M) : C mX6_hasLayer [.ref p, zI k] M Q := by
  obtain ⟨q1, sc, wh, st, ⟨hp, hS, hW, hT, hH, hG, hR⟩, rL⟩ := id hP
  refine C_of okX6_hasLayer (by decide) (Nat.le_of_ble_eq_true rfl) ?_
  show P none mX6_hasLayer 0 [.ref p, zI k] [] _ _
  refine p_iload_n (i := 0) rfl rfl ?_
  refine p_if_lt (i := 1) 22 rfl (by decide) (by omega) (fun c1 => ?_) (fun c1 => ?_)
  · refine p_iconst (i := 11) rfl ?_
    refine p_iret (i := 12) rfl rfl (by decide) ?_
    exact h0 (by omega)
  · refine p_iload_n (i := 2) rfl rfl ?_
    refine p_aload_n (i := 3) rfl rfl ?_
    refine p_getf (i := 4) rfl fX6_31 hp rfl ?_
    refine p_icmp_ge (i := 5) 22 rfl (by decide) (by omega) (by omega) (fun c9 => ?_) (fun c9 => ?_)
    · refine p_iconst (i := 11) rfl ?_
      refine p_iret (i := 12) rfl rfl (by decide) ?_
      exact h0 (by omega)
    · refine p_iload_n (i := 6) rfl rfl ?_
      refine p_bipush (i := 7) rfl (by decide) ?_
      refine p_icmp_ge (i := 8) 22 rfl (by decide) (by omega) (by omega) (fun c15 => by exfalso; omega) (fun c15 => ?_)
      refine p_iconst (i := 9) rfl ?_
      refine p_goto (i := 10) 23 rfl (by decide) ?_
      refine p_iret (i := 12) rfl rfl (by decide) ?_
      exact h1 (by omega)
theorem x_fadingW {M : AM} {p : Nat} {Ls : List LY} {w y : Int} {hs lr : Nat → Int} {lf lz : Int} {k t : Int} {Q : Option Value → AM → Prop} (hP : PairW M p Ls w y hs lr lf lz) (hy : 0 ≤ y ∧ y ≤ 1000000) (hk : 0 ≤ k ∧ k ≤ 3) (ht : 0 ≤ t ∧ t ≤ 1000) (h : Q (some (zI (fdg k t y))) M) : C mX6_fading [.ref p, zI k, zI t] M Q := by
  obtain ⟨q1, sc, wh, st, ⟨hp, hS, hW, hT, hH, hG, hR⟩, rL⟩ := id hP
  have hc : k = 0 ∨ k = 1 ∨ k = 2 ∨ k = 3 := by omega
  refine C_of okX6_fading (by decide) (Nat.le_of_ble_eq_true rfl) ?_
  show P none mX6_fading 0 [.ref p, zI k, zI t] [] _ _
  refine p_iload_n (i := 0) rfl rfl ?_
  rcases hc with rfl | rfl | rfl | rfl
  · refine p_tsIn (i := 1) 32 rfl (by omega) (by omega) (by rfl) (by decide) ?_
    refine p_iconst (i := 2) rfl ?_
    refine p_iret (i := 3) rfl rfl (rfl) ?_
    exact h
  ·
    refine p_tsIn (i := 1) 34 rfl (by omega) (by omega) (by rfl) (by decide) ?_
    refine p_iload_n (i := 4) rfl rfl ?_
    refine p_bipush (i := 5) rfl (by decide) ?_
    refine p_idiv (i := 6) rfl (by omega) (by omega) ?_
    refine p_iconst (i := 7) rfl ?_
    refine p_iadd (i := 8) rfl ?_
    refine p_iret (i := 9) rfl rfl (rfl) ?_
    exact h
  ·
    refine p_tsIn (i := 1) 57 rfl (by omega) (by omega) (by rfl) (by decide) ?_
    refine p_iconst (i := 20) rfl ?_
    refine p_iret (i := 21) rfl rfl (rfl) ?_
    exact h
  ·
    refine p_tsIn (i := 1) 41 rfl (by omega) (by omega) (by rfl) (by decide) ?_
    refine p_aload_n (i := 10) rfl rfl ?_
    refine p_getf (i := 11) rfl fX6_38 hp rfl ?_
    refine p_iconst (i := 12) rfl ?_
    refine p_irem (i := 13) rfl (by omega) (by omega) ?_
    refine p_iconst (i := 14) rfl ?_
    refine p_icmp_ne (i := 15) 55 rfl (by decide) (by omega) (by omega) (fun c48 => ?_) (fun c48 => ?_)
    · refine p_iconst (i := 18) rfl ?_
      refine p_iret (i := 19) rfl rfl (rfl) ?_
      have e : fdg 3 t y = 0 := by unfold fdg; rw [if_neg (by decide), if_neg (by decide), if_pos rfl, if_neg (by omega)]
      rw [e] at h
      exact h
    · refine p_iconst (i := 16) rfl ?_
      refine p_goto (i := 17) 56 rfl (by decide) ?_
      refine p_iret (i := 19) rfl rfl (rfl) ?_
      have e : fdg 3 t y = 3 := by unfold fdg; rw [if_neg (by decide), if_neg (by decide), if_pos rfl, if_pos (by omega)]
      rw [e] at h
      exact h
theorem x_remove {M : AM} {p : Nat} {Ls : List LY} {w y : Int} {hs lr : Nat → Int} {lf lz : Int} {k : Int} {Q : Option Value → AM → Prop} (hP : PairW M p Ls w y hs lr lf lz) (hk : 0 ≤ k ∧ k < Ls.length) (h : ∀ M', PairW M' p (Ls.eraseIdx k.toNat) w y hs lr lf lz → FrI p 7 M M' → Q none M') : C mX6_remove [.ref p, zI k] M Q := by
  obtain ⟨q1, sc, wh, st, ⟨hp, hS, hW, hT, hH, hG, hR⟩, rL⟩ := id hP
  obtain ⟨kn, hkn⟩ : ∃ kn : Nat, kn = k.toNat := ⟨_, rfl⟩
  rw [← hkn] at h
  have loop : ∀ (f i : Nat) (M1 : AM), i + f = Ls.length → kn + 1 ≤ i → PairAt M1 p (shf sc kn i) (shf wh kn i) (shf st kn i) hs lr lf lz (Ls.length : Nat) w y → FrI p 7 M M1 → P none mX6_remove 13 [.ref p, zI k, zI (i : Int)] []  M1 Q := by
    intro f
    induction f with
    | zero =>
      intro i M hi hki hA fr
      obtain ⟨hp, hS, hW, hT, hH, hG, hR⟩ := hA
      refine p_iload_n (i := 9) rfl rfl ?_
      refine p_aload_n (i := 10) rfl rfl ?_
      refine p_getf (i := 11) rfl fX6_31 hp rfl ?_
      refine p_icmp_ge (i := 12) 75 rfl (by decide) (by omega) (by omega) (fun c18 => ?_) (fun c18 => by exfalso; omega)
      refine p_aload_n (i := 48) rfl rfl ?_
      refine p_dup (i := 49) rfl rfl ?_
      refine p_getf (i := 50) rfl fX6_31 hp rfl ?_
      refine p_iconst (i := 51) rfl ?_
      refine p_isub (i := 52) rfl ?_
      refine p_puti (i := 53) rfl gX6_31 hp rfl (P_gen fun M e => ?_)
      have hS := aupN e hS (by omega)
      have hW := aupN e hW (by omega)
      have hT := aupN e hT (by omega)
      have hH := aupN e hH (by omega)
      have hG := aupN e hG (by omega)
      have hR := aupN e hR (by omega)
      have fr := fr.up e (by omega)
      have hp := aupE e
      refine p_ret (i := 54) rfl rfl ?_
      have e : (Ls.length : Int) - 1 = ((Ls.eraseIdx kn).length : Nat) := by rw [er_len (by omega)]; omega
      rw [e] at hp
      obtain rfl : i = Ls.length := by omega
      exact h M ⟨by rw [er_len (by omega)]; omega, _, _, _, ⟨hp, hS, hW, hT, hH, hG, hR⟩, rL.er (by omega)⟩ fr
    | succ f ih =>
      intro i M hi hki hA fr
      obtain ⟨hp, hS, hW, hT, hH, hG, hR⟩ := hA
      refine p_iload_n (i := 9) rfl rfl ?_
      refine p_aload_n (i := 10) rfl rfl ?_
      refine p_getf (i := 11) rfl fX6_31 hp rfl ?_
      refine p_icmp_ge (i := 12) 75 rfl (by decide) (by omega) (by omega) (fun c18 => by exfalso; omega) (fun c18 => ?_)
      refine p_iload_n (i := 13) rfl rfl ?_
      refine p_bipush (i := 14) rfl (by decide) ?_
      refine p_icmp_ge (i := 15) 75 rfl (by decide) (by omega) (by omega) (fun c24 => by exfalso; omega) (fun c24 => ?_)
      refine p_aload_n (i := 16) rfl rfl ?_
      refine p_getf (i := 17) rfl fX6_9 hp rfl ?_
      refine p_iload_n (i := 18) rfl rfl ?_
      refine p_iconst (i := 19) rfl ?_
      refine p_isub (i := 20) rfl ?_
      refine p_aload_n (i := 21) rfl rfl ?_
      refine p_getf (i := 22) rfl fX6_9 hp rfl ?_
      refine p_iload_n (i := 23) rfl rfl ?_
      refine p_iaX (i := 24) _ rfl hS rfl (by omega) (by decide) ?_
      refine p_isX (i := 25) (i - 1) rfl hS (by omega) (by omega) (by decide) (P_gen fun M e => ?_)
      have hp := aupN e hp (by omega)
      have hW := aupN e hW (by omega)
      have hT := aupN e hT (by omega)
      have hH := aupN e hH (by omega)
      have hG := aupN e hG (by omega)
      have hR := aupN e hR (by omega)
      have fr := fr.up e (by omega)
      have hS := aupE e
      refine p_aload_n (i := 26) rfl rfl ?_
      refine p_getf (i := 27) rfl fX6_15 hp rfl ?_
      refine p_iload_n (i := 28) rfl rfl ?_
      refine p_iconst (i := 29) rfl ?_
      refine p_isub (i := 30) rfl ?_
      refine p_aload_n (i := 31) rfl rfl ?_
      refine p_getf (i := 32) rfl fX6_15 hp rfl ?_
      refine p_iload_n (i := 33) rfl rfl ?_
      refine p_iaX (i := 34) _ rfl hW rfl (by omega) (by decide) ?_
      refine p_isX (i := 35) (i - 1) rfl hW (by omega) (by omega) (by decide) (P_gen fun M e => ?_)
      have hp := aupN e hp (by omega)
      have hS := aupN e hS (by omega)
      have hT := aupN e hT (by omega)
      have hH := aupN e hH (by omega)
      have hG := aupN e hG (by omega)
      have hR := aupN e hR (by omega)
      have fr := fr.up e (by omega)
      have hW := aupE e
      refine p_aload_n (i := 36) rfl rfl ?_
      refine p_getf (i := 37) rfl fX6_18 hp rfl ?_
      refine p_iload_n (i := 38) rfl rfl ?_
      refine p_iconst (i := 39) rfl ?_
      refine p_isub (i := 40) rfl ?_
      refine p_aload_n (i := 41) rfl rfl ?_
      refine p_getf (i := 42) rfl fX6_18 hp rfl ?_
      refine p_iload_n (i := 43) rfl rfl ?_
      refine p_iaX (i := 44) _ rfl hT rfl (by omega) (by decide) ?_
      refine p_isX (i := 45) (i - 1) rfl hT (by omega) (by omega) (by decide) (P_gen fun M e => ?_)
      have hp := aupN e hp (by omega)
      have hS := aupN e hS (by omega)
      have hW := aupN e hW (by omega)
      have hH := aupN e hH (by omega)
      have hG := aupN e hG (by omega)
      have hR := aupN e hR (by omega)
      have fr := fr.up e (by omega)
      have hT := aupE e
      refine p_iinc (i := 46) rfl rfl rfl ?_
      refine p_goto (i := 47) 13 rfl (by decide) ?_
      rw [shf_s _ _ _ (by omega)] at hS hW hT
      exact ih (i + 1) M (by omega) (by omega) ⟨hp, hS, hW, hT, hH, hG, hR⟩ fr
  refine C_of okX6_remove (by decide) (Nat.le_of_ble_eq_true rfl) ?_
  show P none mX6_remove 0 [.ref p, zI k, .retAddr 0] [] _ _
  refine p_aload_n (i := 0) rfl rfl ?_
  refine p_iload_n (i := 1) rfl rfl ?_
  refine p_cV1 (i := 2) rfl ⟨lX6_90, rfl, rfl⟩ hp ⟨_, rfl, rfl⟩ rfl (x_hasLayerW hP (by omega) (fun q => ?_) (fun q => absurd hk q))
  · refine p_if_ne (i := 3) 9 rfl (by decide) (by omega) (fun c5 => ?_) (fun c5 => by exfalso; omega)
    refine p_iload_n (i := 5) rfl rfl ?_
    refine p_iconst (i := 6) rfl ?_
    refine p_iadd (i := 7) rfl ?_
    refine p_istore_n (i := 8) rfl rfl ?_
    have e : k + 1 = ((kn + 1 : Nat) : Int) := by omega
    rw [e]
    exact loop (Ls.length - (kn + 1)) (kn + 1) M (by omega) (by omega) (by rw [shf_0, shf_0, shf_0]; exact ⟨hp, hS, hW, hT, hH, hG, hR⟩) FrI.rf
theorem x_lay {b : Bool} {M : AM} {p ns nw : Nat} {g : GS} {x w t : Int} {Q : Option Value → AM → Prop} (hP : PairB b M p ns nw g) (he : LyOk ns nw (x, w, t)) (h : ∀ M', PairB b M' p ns nw (layL g.1 (x, w, t), g.2) → FrI p 7 M M' → Q none M') : C mX6_lay [.ref p, zI x, zI w, zI t] M Q := by
  obtain ⟨h0, hs, lr, lf, lz, hPW, rH, rG⟩ := hP.w
  have hok := h0.ls
  have hok2 := hok.lay he
  have tail : ∀ (M1 : AM) (Ls : List LY), Ls.length < 10 → layL g.1 (x, w, t) = Ls ++ [(x, w, t)] → PairW M1 p Ls g.2.1 g.2.2.1 hs lr lf lz → FrI p 7 M M1 → P none mX6_lay 17 [.ref p, zI x, zI w, zI t] []  M1 Q := by
    intro M Ls hl hE hPW fr
    obtain ⟨q1, sc, wh, st, ⟨hp, hS, hW, hT, hH, hG, hR⟩, rL⟩ := id hPW
    refine p_aload_n (i := 8) rfl rfl ?_
    refine p_getf (i := 9) rfl fX6_31 hp rfl ?_
    refine p_if_lt (i := 10) 73 rfl (by decide) (by omega) (fun c21 => by exfalso; omega) (fun c21 => ?_)
    refine p_aload_n (i := 11) rfl rfl ?_
    refine p_getf (i := 12) rfl fX6_31 hp rfl ?_
    refine p_bipush (i := 13) rfl (by decide) ?_
    refine p_icmp_ge (i := 14) 73 rfl (by decide) (by omega) (by omega) (fun c30 => by exfalso; omega) (fun c30 => ?_)
    refine p_aload_n (i := 15) rfl rfl ?_
    refine p_getf (i := 16) rfl fX6_9 hp rfl ?_
    refine p_aload_n (i := 17) rfl rfl ?_
    refine p_getf (i := 18) rfl fX6_31 hp rfl ?_
    refine p_iload_n (i := 19) rfl rfl ?_
    refine p_isX (i := 20) _ rfl hS rfl (by omega) (by decide) (P_gen fun M e => ?_)
    have hp := aupN e hp (by omega)
    have hW := aupN e hW (by omega)
    have hT := aupN e hT (by omega)
    have hH := aupN e hH (by omega)
    have hG := aupN e hG (by omega)
    have hR := aupN e hR (by omega)
    have fr := fr.up e (by omega)
    have hS := aupE e
    refine p_aload_n (i := 21) rfl rfl ?_
    refine p_getf (i := 22) rfl fX6_15 hp rfl ?_
    refine p_aload_n (i := 23) rfl rfl ?_
    refine p_getf (i := 24) rfl fX6_31 hp rfl ?_
    refine p_iload_n (i := 25) rfl rfl ?_
    refine p_isX (i := 26) _ rfl hW rfl (by omega) (by decide) (P_gen fun M e => ?_)
    have hp := aupN e hp (by omega)
    have hS := aupN e hS (by omega)
    have hT := aupN e hT (by omega)
    have hH := aupN e hH (by omega)
    have hG := aupN e hG (by omega)
    have hR := aupN e hR (by omega)
    have fr := fr.up e (by omega)
    have hW := aupE e
    refine p_aload_n (i := 27) rfl rfl ?_
    refine p_getf (i := 28) rfl fX6_18 hp rfl ?_
    refine p_aload_n (i := 29) rfl rfl ?_
    refine p_getf (i := 30) rfl fX6_31 hp rfl ?_
    refine p_iload_n (i := 31) rfl rfl ?_
    refine p_isX (i := 32) _ rfl hT rfl (by omega) (by decide) (P_gen fun M e => ?_)
    have hp := aupN e hp (by omega)
    have hS := aupN e hS (by omega)
    have hW := aupN e hW (by omega)
    have hH := aupN e hH (by omega)
    have hG := aupN e hG (by omega)
    have hR := aupN e hR (by omega)
    have fr := fr.up e (by omega)
    have hT := aupE e
    refine p_aload_n (i := 33) rfl rfl ?_
    refine p_dup (i := 34) rfl rfl ?_
    refine p_getf (i := 35) rfl fX6_31 hp rfl ?_
    refine p_iconst (i := 36) rfl ?_
    refine p_iadd (i := 37) rfl ?_
    refine p_puti (i := 38) rfl gX6_31 hp rfl (P_gen fun M e => ?_)
    have hS := aupN e hS (by omega)
    have hW := aupN e hW (by omega)
    have hT := aupN e hT (by omega)
    have hH := aupN e hH (by omega)
    have hG := aupN e hG (by omega)
    have hR := aupN e hR (by omega)
    have fr := fr.up e (by omega)
    have hp := aupE e
    refine p_ret (i := 39) rfl rfl ?_
    have e : (Ls.length : Int) + 1 = (((layL g.1 (x, w, t)).length : Nat) : Int) := by rw [hE, List.length_append]; simp
    rw [e] at hp
    have hPW2 : PairW M p (layL g.1 (x, w, t)) g.2.1 g.2.2.1 hs lr lf lz := ⟨hok2.1, _, _, _, ⟨hp, hS, hW, hT, hH, hG, hR⟩, by rw [hE]; exact rL.app⟩
    obtain ⟨g1, g2, g3, g4, g5, g6, g7, g8, g9, g10, g11⟩ := h0
    exact h M (PairW.b (g := (layL g.1 (x, w, t), g.2)) hPW2 ⟨hok2.1, hok2.at, g3, g4, g5, g6, g7, g8, g9, g10, g11⟩ rH rG) fr
  obtain ⟨q1, sc, wh, st, ⟨hp, hS, hW, hT, hH, hG, hR⟩, rL⟩ := id hPW
  refine C_of okX6_lay (by decide) (Nat.le_of_ble_eq_true rfl) ?_
  show P none mX6_lay 0 [.ref p, zI x, zI w, zI t] [] _ _
  refine p_aload_n (i := 0) rfl rfl ?_
  refine p_getf (i := 1) rfl fX6_31 hp rfl ?_
  refine p_bipush (i := 2) rfl (by decide) ?_
  refine p_icmp_lt (i := 3) 17 rfl (by decide) (by omega) (by omega) (fun c6 => ?_) (fun c6 => ?_)
  · exact tail M g.1 (by omega) (by unfold layL; rw [if_neg (by omega)]) hPW FrI.rf
  · refine p_aload_n (i := 4) rfl rfl ?_
    refine p_aload_n (i := 5) rfl rfl ?_
    refine p_cV0 (i := 6) rfl ⟨lX6_102, rfl, rfl⟩ hp ⟨_, rfl, rfl⟩ rfl (x_weakest hP ?_)
    have hwk := wk_rng (Ls := g.1) (by omega) (fun k hk => (hok.at k hk).2.2.2.2.2)
    refine p_cV1 (i := 7) rfl ⟨lX6_106, rfl, rfl⟩ hp ⟨_, rfl, rfl⟩ rfl (x_remove hPW hwk (fun M1 hPW1 fr1 => ?_))
    exact tail M1 (g.1.eraseIdx (wk g.1).toNat) (by rw [er_len (by omega)]; omega) (by unfold layL; rw [if_pos (by omega)]) hPW1 fr1
theorem x_deepen {b : Bool} {M : AM} {p ns nw : Nat} {g : GS} {x gn : Int} {Q : Option Value → AM → Prop} (hP : PairB b M p ns nw g) (hx : 0 ≤ x ∧ x < ns) (hg : 1 ≤ gn ∧ gn ≤ 10) (hw : 0 ≤ g.2.1) (h : ∀ M', PairB b M' p ns nw ((deepL g.1 g.2.1 x gn).1, g.2) → FrI p 7 M M' → Q (some (zI (deepL g.1 g.2.1 x gn).2)) M') : C mX6_deepen [.ref p, zI x, zI gn] M Q := by
  obtain ⟨⟨q1, q2, q3, q4, q5, q6, q7, q8, q9, q10, q11⟩, sc, wh, st, hs, lr, lf, lz, ⟨hp, hS, hW, hT, hH, hG, hR⟩, rL, rH, rG⟩ := id hP
  have hok := hP.1.ls
  obtain ⟨d1, d2, d3⟩ := hok.deep (w := g.2.1) (x := x) (gain := gn) ⟨hw, q4⟩ hx hg
  have fr : FrI p 7 M M := FrI.rf
  refine C_of okX6_deepen (by decide) (Nat.le_of_ble_eq_true rfl) ?_
  show P none mX6_deepen 0 [.ref p, zI x, zI gn, .retAddr 0] [] _ _
  refine p_aload_n (i := 0) rfl rfl ?_
  refine p_aload_n (i := 1) rfl rfl ?_
  refine p_getf (i := 2) rfl fX6_35 hp rfl ?_
  refine p_iload_n (i := 3) rfl rfl ?_
  refine p_cV2 (i := 4) rfl ⟨lX6_87, rfl, rfl⟩ hp ⟨_, rfl, rfl⟩ rfl (x_find hP (by omega) (by omega) ?_)
  refine p_istore_n (i := 5) rfl rfl ?_
  refine p_aload_n (i := 6) rfl rfl ?_
  refine p_iload_n (i := 7) rfl rfl ?_
  have hf := fnd_rng g.1 g.2.1 x
  refine p_cV1 (i := 8) rfl ⟨lX6_90, rfl, rfl⟩ hp ⟨_, rfl, rfl⟩ rfl (x_hasLayer hP (by omega) (fun q => ?_) (fun q => ?_))
  · refine p_if_ne (i := 9) 35 rfl (by decide) (by omega) (fun c15 => ?_) (fun c15 => by exfalso; omega)
    obtain ⟨e1, e2, e3⟩ := rL (fnd g.1 g.2.1 x).toNat (by omega)
    have e4 := q2 (fnd g.1 g.2.1 x).toNat (by omega)
    refine p_aload_n (i := 21) rfl rfl ?_
    refine p_getf (i := 22) rfl fX6_18 hp rfl ?_
    refine p_iload_n (i := 23) rfl rfl ?_
    refine p_bipush (i := 24) rfl (by decide) ?_
    refine p_aload_n (i := 25) rfl rfl ?_
    refine p_getf (i := 26) rfl fX6_18 hp rfl ?_
    refine p_iload_n (i := 27) rfl rfl ?_
    refine p_iaX (i := 28) ((fnd g.1 g.2.1 x).toNat) rfl hT (by omega) (by omega) (by decide) ?_
    refine p_iload_n (i := 29) rfl rfl ?_
    refine p_iadd (i := 30) rfl ?_
    refine p_min (i := 31) rfl lX6_97 ⟨rfl, rfl⟩ (by omega) (by omega) ?_
    refine p_isX (i := 32) ((fnd g.1 g.2.1 x).toNat) rfl hT (by omega) (by omega) (by decide) (P_gen fun M e => ?_)
    have hp := aupN e hp (by omega)
    have hS := aupN e hS (by omega)
    have hW := aupN e hW (by omega)
    have hH := aupN e hH (by omega)
    have hG := aupN e hG (by omega)
    have hR := aupN e hR (by omega)
    have fr := fr.up e (by omega)
    have hT := aupE e
    refine p_iload_n (i := 33) rfl rfl ?_
    refine p_iret (i := 34) rfl rfl (rfl) ?_
    have eD : deepL g.1 g.2.1 x gn = (g.1.set (fnd g.1 g.2.1 x).toNat (x, g.2.1, min 99 (lT g.1 (fnd g.1 g.2.1 x).toNat + gn)), fnd g.1 g.2.1 x) := by unfold deepL; rw [if_pos q.1]
    rw [eD] at h d1
    refine h M ⟨⟨d1.1, d1.at, q3, q4, q5, q6, q7, q8, q9, q10, q11⟩, sc, wh, _, hs, lr, lf, lz, ⟨?_, hS, hW, hT, hH, hG, hR⟩, ?_, rH, rG⟩ fr
    · show M p = some (zO 6 [.ref (p + 1), .ref (p + 2), .ref (p + 3), .ref (p + 4), .ref (p + 5), zI ((g.1.set (fnd g.1 g.2.1 x).toNat (x, g.2.1, min 99 (lT g.1 (fnd g.1 g.2.1 x).toNat + gn))).length : Nat), zI g.2.1, zI g.2.2.1])
      rw [List.length_set]
      exact hp
    · obtain ⟨-, -, f3, f4⟩ := hf.resolve_left (by omega)
      rw [e3]
      have := rL.setT (k := (fnd g.1 g.2.1 x).toNat) (t := min 99 (lT g.1 (fnd g.1 g.2.1 x).toNat + gn)) (by omega)
      rw [f3, f4] at this
      exact this
  · refine p_if_ne (i := 9) 35 rfl (by decide) (by omega) (fun c15 => by exfalso; omega) (fun c15 => ?_)
    refine p_aload_n (i := 10) rfl rfl ?_
    refine p_iload_n (i := 11) rfl rfl ?_
    refine p_aload_n (i := 12) rfl rfl ?_
    refine p_getf (i := 13) rfl fX6_35 hp rfl ?_
    refine p_iload_n (i := 14) rfl rfl ?_
    refine p_cV3 (i := 15) rfl ⟨lX6_93, rfl, rfl⟩ hp ⟨_, rfl, rfl⟩ rfl (x_lay hP ⟨hx.1, hx.2, by show -1 ≤ g.2.1; omega, q4, hg.1, by show gn ≤ 99; omega⟩ (fun M1 hP1 fr1 => ?_))
    have eD : deepL g.1 g.2.1 x gn = (layL g.1 (x, g.2.1, gn), ((layL g.1 (x, g.2.1, gn)).length : Int) - 1) := by unfold deepL; rw [if_neg (by omega)]
    obtain ⟨-, sc, wh, st, hs, lr, lf, lz, ⟨hp, hS, hW, hT, hH, hG, hR⟩, -⟩ := id hP1
    refine p_aload_n (i := 16) rfl rfl ?_
    refine p_getf (i := 17) rfl fX6_31 hp rfl ?_
    refine p_iconst (i := 18) rfl ?_
    refine p_isub (i := 19) rfl ?_
    refine p_iret (i := 20) rfl rfl (rfl) ?_
    rw [eD] at h
    exact h M1 hP1 fr1
