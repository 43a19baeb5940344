-- the reference: a scene's clause
theorem Fr2.tr {a b : Nat} {M M' M'' : AM} (h : Fr2 a b M M') (h2 : Fr2 a b M' M'') : Fr2 a b M M'' := Fr.tr h h2
theorem YT.f2 {M M' : AM} {tx : List Int} (h : YT M tx) (hf : Fr2 276 278 M M') : YT M' tx := by
  obtain ⟨h0, f, h1, h2⟩ := h
  exact ⟨h0, f, hf.at h1 (by omega), h2⟩
theorem y_readsScene {M : AM} {tx : List Int} {w : YF} {a : Nat} {bg sg fg vl wr : Int} {rf : Nat → Int} {ln : LN} {Q : Option Value → AM → Prop} (hS : YS M w (a : Int) bg sg fg vl wr) (hw : w.2.2.1 = (tx.length : Nat)) (hT : YT M tx) (ha : a ≤ tx.length) (kRd : M 278 = some (zA 61 rf)) (hl : YLn rf ln) (h8 : nS ln ≤ 8) (h6 : nW ln ≤ 6) (hk6 : ∀ j, j < nW ln → lkN ln j ≤ 6)
    (hfu : nS ln = 8 → ∀ M', YS M' w (a : Int) bg sg fg vl 3 → (∃ f', M' 278 = some (zA 61 f')) → Fr2 276 278 M M' → Q (some (zI 0)) M')
    (hok : nS ln ≠ 8 → ∀ M' a1 l1 bg sg fg vl f', sScene tx a ln = .ok (a1, l1) → YS M' w (a1 : Nat) bg sg fg vl wr → M' 278 = some (zA 61 f') → YLn f' l1 → (∀ j, j < 6 → f' (19 + j) = rf (19 + j)) → Fr2 276 278 M M' → Q (some (zI 1)) M')
    (her : nS ln ≠ 8 → ∀ M' e at1 sg fg vl, sScene tx a ln = .error e → YS M' w at1 e.2 sg fg vl e.1 → (∃ f', M' 278 = some (zA 61 f')) → Fr2 276 278 M M' → Q (some (zI 0)) M') : C mX10_readsScene [.ref 276] M Q := by
  have kY := hS
  unfold YS at kY
  have l1 := hl.2.1
  refine C_of okX10_readsScene (by decide) (Nat.le_of_ble_eq_true rfl) ?_
  show P none mX10_readsScene 0 [.ref 276, .retAddr 0] [] _ _
  refine p_aload_n (i := 0) rfl rfl ?_
  refine p_getf (i := 1) rfl fX10_13 kY rfl ?_
  refine p_iconst (i := 2) rfl ?_
  refine p_iaX (i := 3) (1) rfl kRd (by omega) (by omega) (by decide) ?_
  refine p_istore_n (i := 4) rfl rfl ?_
  refine p_iload_n (i := 5) rfl rfl ?_
  refine p_bipush (i := 6) rfl (by decide) ?_
  refine p_icmp_ne (i := 7) 19 rfl (by decide) (by omega) (by omega) (fun c10 => ?_) (fun c10 => ?_)
  · have fr1 : FrI 278 1 M M := FrI.rf
    have hok := hok (by omega)
    have her := her (by omega)
    refine p_aload_n (i := 12) rfl rfl ?_
    refine p_getf (i := 13) rfl fX10_13 kY rfl ?_
    refine p_iconst (i := 14) rfl ?_
    refine p_dup2 (i := 15) rfl rfl rfl ?_
    refine p_iaX (i := 16) (1) rfl kRd (by omega) (by omega) (by decide) ?_
    refine p_iconst (i := 17) rfl ?_
    refine p_iadd (i := 18) rfl ?_
    refine p_isX (i := 19) (1) rfl kRd (by omega) (by omega) (by decide) (P_gen fun M e => ?_)
    have kY := aupN e kY (by omega)
    have fr1 := fr1.up e (by omega)
    have kRd := aupE e
    refine p_aload_n (i := 20) rfl rfl ?_
    refine p_iconst (i := 21) rfl ?_
    refine p_iload_n (i := 22) rfl rfl ?_
    refine p_iadd (i := 23) rfl ?_
    refine p_iconst (i := 24) rfl ?_
    refine p_iconst (i := 25) rfl ?_
    have hS1 : YS M w (a : Int) bg sg fg vl wr := kY
    have frA : Fr2 276 278 _ M := Fr2.rf.fi fr1 (by omega)
    have hT1 := hT.f2 frA
    unfold sScene at hok her
    rw [l1, show (3 : Int) + ((nS ln : Nat) : Int) = ((3 + nS ln : Nat) : Int) by omega]
    refine p_cV3 (i := 26) rfl ⟨lX10_101, rfl, rfl⟩ kY ⟨_, rfl, rfl⟩ rfl (y_number hS1 hw hT1 ha kRd (by omega) (by omega) (by omega) (fun M2 a2 k bg2 sg2 fg2 vl2 e2 hS2 kRd2 fr2 => ?_) (fun M2 e at1 sg2 fg2 vl2 e2 hS2 kRd2 fr2 => ?_))
    · rw [e2] at hok her
      have hin := sNum_in (tx := tx) (lo := 0) (hi := 3) ha
      rw [e2] at hin
      have hin : a2 ≤ tx.length := hin
      dsimp only at hok her
      have kY := hS2
      unfold YS at kY
      have frB := frA.tr fr2
      refine p_if_eq (i := 27) 66 rfl (by decide) (by omega) (fun c38 => by exfalso; omega) (fun c38 => ?_)
      refine p_aload_n (i := 28) rfl rfl ?_
      refine p_bipush (i := 29) rfl (by decide) ?_
      refine p_iload_n (i := 30) rfl rfl ?_
      refine p_iadd (i := 31) rfl ?_
      refine p_iconst (i := 32) rfl ?_
      refine p_bipush (i := 33) rfl (by decide) ?_
      rw [show (11 : Int) + ((nS ln : Nat) : Int) = ((11 + nS ln : Nat) : Int) by omega]
      refine p_cV3 (i := 34) rfl ⟨lX10_101, rfl, rfl⟩ kY ⟨_, rfl, rfl⟩ rfl (y_number hS2 hw (hT.f2 frB) hin kRd2 (by omega) (by omega) (by omega) (fun M3 a3 v bg3 sg3 fg3 vl3 e3 hS3 kRd3 fr3 => ?_) (fun M3 e at1 sg3 fg3 vl3 e3 hS3 kRd3 fr3 => ?_))
      · rw [e3] at hok her
        have hin3 := sNum_in (tx := tx) (lo := 1) (hi := 99) hin
        rw [e3] at hin3
        have hin3 : a3 ≤ tx.length := hin3
        dsimp only at hok her
        have kY := hS3
        unfold YS at kY
        have frC := frB.tr fr3
        refine p_if_eq (i := 35) 66 rfl (by decide) (by omega) (fun c52 => by exfalso; omega) (fun c52 => ?_)
        refine p_aload_n (i := 36) rfl rfl ?_
        refine p_cV0 (i := 37) rfl ⟨lX10_105, rfl, rfl⟩ kY ⟨_, rfl, rfl⟩ rfl (y_ends hS3 hw (hT.f2 frC) hin3 (fun M4 a4 bg4 sg4 fg4 vl4 e4 hS4 fr4 => ?_) (fun M4 e at1 sg4 fg4 vl4 e4 hS4 fr4 => ?_))
        · rw [e4] at hok
          refine p_if_eq (i := 38) 66 rfl (by decide) (by omega) (fun c59 => by exfalso; omega) (fun c59 => ?_)
          refine p_iconst (i := 39) rfl ?_
          refine p_goto (i := 40) 67 rfl (by decide) ?_
          refine p_iret (i := 42) rfl rfl (by decide) ?_
          refine hok M4 a4 _ _ _ _ _ _ rfl hS4 (fr4.at kRd3 (by omega)) ?_ (fun j hj => by rw [zup_n (by omega), zup_n (by omega), zup_n (by omega)]) (frC.fi fr4 (by omega))
          obtain ⟨n0, n1, n2, n3, n4⟩ := hl
          have e1 : nS (ln.1, ln.2.1 ++ [(k, v)], ln.2.2) = nS ln + 1 := by unfold nS; simp
          refine ⟨by rw [zup_n (by omega), zup_n (by omega), zup_n (by omega)]; exact n0, by rw [zup_n (by omega), zup_n (by omega), zup_e, e1]; omega, by rw [zup_n (by omega), zup_n (by omega), zup_n (by omega)]; exact n2, fun x hx => ?_, fun j hj => ?_⟩
          · rw [e1] at hx
            unfold kd br
            have hx2 : x < ln.2.1.length + 1 := hx
            rw [gd_app hx2]
            by_cases c : x = ln.2.1.length
            · rw [if_pos c]
              have c : x = nS ln := c
              rw [c, zup_n (by omega), zup_e, zup_e]
              exact ⟨rfl, rfl⟩
            · rw [if_neg c]
              have c : ¬ x = nS ln := c
              rw [zup_n (by omega), zup_n (by omega), zup_n (by omega), zup_n (by omega), zup_n (by omega), zup_n (by omega)]
              exact n3 x (by omega)
          · have hj : j < nW ln := hj
            have hj6 := hk6 j hj
            rw [zup_n (by omega), zup_n (by omega), zup_n (by omega)]
            refine ⟨(n4 j hj).1, fun q hq => ?_⟩
            have hq : q < lkN ln j := hq
            rw [zup_n (by omega), zup_n (by omega), zup_n (by omega)]
            exact (n4 j hj).2 q hq
        · rw [e4] at her
          refine p_if_eq (i := 38) 66 rfl (by decide) (by omega) (fun c59 => ?_) (fun c59 => by exfalso; omega)
          refine p_iconst (i := 41) rfl ?_
          refine p_iret (i := 42) rfl rfl (by decide) ?_
          exact her M4 _ _ _ _ _ rfl hS4 ⟨_, fr4.at kRd3 (by omega)⟩ (frC.fi fr4 (by omega))
      · rw [e3] at her
        refine p_if_eq (i := 35) 66 rfl (by decide) (by omega) (fun c52 => ?_) (fun c52 => by exfalso; omega)
        refine p_iconst (i := 41) rfl ?_
        refine p_iret (i := 42) rfl rfl (by decide) ?_
        exact her M3 _ _ _ _ _ rfl hS3 ⟨_, kRd3⟩ (frB.tr fr3)
    · rw [e2] at her
      refine p_if_eq (i := 27) 66 rfl (by decide) (by omega) (fun c38 => ?_) (fun c38 => by exfalso; omega)
      refine p_iconst (i := 41) rfl ?_
      refine p_iret (i := 42) rfl rfl (by decide) ?_
      exact her M2 _ _ _ _ _ rfl hS2 ⟨_, kRd2⟩ (frA.tr fr2)
  · refine p_aload_n (i := 8) rfl rfl ?_
    refine p_iconst (i := 9) rfl ?_
    refine p_cV1 (i := 10) rfl ⟨lX10_97, rfl, rfl⟩ kY ⟨_, rfl, rfl⟩ rfl (y_fails hS (fun M2 hS2 fr2 => ?_))
    refine p_iret (i := 11) rfl rfl (by decide) ?_
    exact hfu (by omega) M2 hS2 ⟨_, fr2.at kRd (by omega)⟩ (Fr2.rf.fi fr2 (by omega))
