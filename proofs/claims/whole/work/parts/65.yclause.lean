-- the reference: a clause
theorem YLn.clear {f : Nat → Int} {ln : LN} {v : Int} (h : YLn f ln) : YLn (zup f 0 v) (v, ln.2) := by
  obtain ⟨n0, n1, n2, n3, n4⟩ := h
  refine ⟨zup_e, by rw [zup_n (by omega)]; exact n1, by rw [zup_n (by omega)]; exact n2, fun x hx => ?_, fun j hj => ?_⟩
  · rw [zup_n (by omega), zup_n (by omega)]
    exact n3 x hx
  · rw [zup_n (by omega)]
    refine ⟨(n4 j hj).1, fun q hq => ?_⟩
    rw [zup_n (by omega)]
    exact (n4 j hj).2 q hq
theorem lsw2 {a : Int} (h1 : ¬ a = 115) (h2 : ¬ a = 119) : Op.lookupswitch.offset (#[((115 : Int), (27 : Int)), (119, 32)]).toList 37 a = 37 := by
  show (if (115 : Int) = a then (27 : Int) else if (119 : Int) = a then 32 else 37) = 37
  rw [if_neg (fun h => h1 h.symm), if_neg (fun h => h2 h.symm)]
theorem y_readsClause {M : AM} {tx : List Int} {w : YF} {s : Nat} {at0 sg fg vl wr : Int} {rf : Nat → Int} {ln : LN} {Q : Option Value → AM → Prop} (hS : YS M w at0 (s : Nat) sg fg vl wr) (hw : w.2.2.1 = (tx.length : Nat)) (hT : YT M tx) (hs : s < tx.length) (hsg : (¬ dg (ch tx s) ∧ sg = ch tx s ∧ at0 = ((s + 1 : Nat) : Int)) ∨ (dg (ch tx s) ∧ sg = 48)) (kRd : M 278 = some (zA 61 rf)) (hl : YLn rf ln) (hlk : LnOk ln) (hz : ∀ j, nW ln ≤ j → j < 6 → rf (19 + j) = 0)
    (hok : ∀ M' a1 l1 bg sg fg vl f', sClause tx s ln = .ok (a1, l1) → YS M' w (a1 : Nat) bg sg fg vl wr → M' 278 = some (zA 61 f') → YLn f' l1 → (∀ j, nW l1 ≤ j → j < 6 → f' (19 + j) = 0) → Fr2 276 278 M M' → Q (some (zI 1)) M')
    (her : ∀ M' e at1 sg fg vl, sClause tx s ln = .error e → YS M' w at1 e.2 sg fg vl e.1 → (∃ f', M' 278 = some (zA 61 f')) → Fr2 276 278 M M' → Q (some (zI 0)) M') : C mX10_readsClause [.ref 276] M Q := by
  have kY := hS
  unfold YS at kY
  unfold sClause at hok her
  have hc := hT.c s
  have n0 : rf 0 = ln.1 := hl.1
  obtain ⟨o1, o2, o3, o4, -, o6, -⟩ := id hlk
  have hk6 : ∀ j, j < nW ln → lkN ln j ≤ 6 := fun j hj => (o6 j hj).2.1
  refine C_of okX10_readsClause (by decide) (Nat.le_of_ble_eq_true rfl) ?_
  show P none mX10_readsClause 0 [.ref 276] [] _ _
  refine p_aload_n (i := 0) rfl rfl ?_
  refine p_getf (i := 1) rfl fX10_78 kY rfl ?_
  refine p_bipush (i := 2) rfl (by decide) ?_
  refine p_icmp_ne (i := 3) 50 rfl (by decide) (by omega) (by omega) (fun c6 => ?_) (fun c6 => ?_)
  · have hn : ¬ ch tx s = 99 := by omega
    rw [if_neg hn] at hok her
    refine p_aload_n (i := 26) rfl rfl ?_
    refine p_getf (i := 27) rfl fX10_13 kY rfl ?_
    refine p_iconst (i := 28) rfl ?_
    refine p_iaX (i := 29) (0) rfl kRd (by omega) (by omega) (by decide) ?_
    refine p_if_ne (i := 30) 65 rfl (by decide) (by omega) (fun c56 => ?_) (fun c56 => ?_)
    · have hn0 : ¬ ln.1 = 0 := by omega
      rw [if_neg hn0] at hok her
      refine p_aload_n (i := 35) rfl rfl ?_
      refine p_getf (i := 36) rfl fX10_78 kY rfl ?_
      by_cases c1 : sg = 115
      · have d1 : ch tx s = 115 := by omega
        have e1 : at0 = ((s + 1 : Nat) : Int) := by omega
        rw [if_pos d1] at hok her
        subst e1
        refine p_lsw (i := 37) 96 rfl (by omega) (by decide) (by rw [c1]) (by decide) ?_
        refine p_aload_n (i := 38) rfl rfl ?_
        refine p_cV0 (i := 39) rfl ⟨lX10_109, rfl, rfl⟩ kY ⟨_, rfl, rfl⟩ rfl (y_readsScene hS hw hT (by omega) kRd hl o3 o4 hk6 (fun e8 M2 hS2 kRd2 fr2 => ?_) (fun e8 M2 a2 l2 bg2 sg2 fg2 vl2 f2 e2 hS2 kRd2 hl2 hz2 fr2 => ?_) (fun e8 M2 e at2 sg2 fg2 vl2 e2 hS2 kRd2 fr2 => ?_))
        · rw [if_pos e8] at her
          refine p_iret (i := 40) rfl rfl (by decide) ?_
          exact her M2 _ _ _ _ _ rfl hS2 kRd2 fr2
        · rw [if_neg e8, e2] at hok
          refine p_iret (i := 40) rfl rfl (by decide) ?_
          refine hok M2 _ _ _ _ _ _ _ rfl hS2 kRd2 hl2 (fun j h1 h2 => ?_) fr2
          rw [hz2 j h2]
          refine hz j (Nat.le_trans (Nat.le_of_eq ?_) h1) h2
          unfold sScene at e2
          split at e2
          · cases e2
          · split at e2
            · cases e2
            · split at e2
              · cases e2
              · cases e2; rfl
        · rw [if_neg e8, e2] at her
          refine p_iret (i := 40) rfl rfl (by decide) ?_
          exact her M2 _ _ _ _ _ rfl hS2 kRd2 fr2
      · have d1 : ¬ ch tx s = 115 := by omega
        rw [if_neg d1] at hok her
        by_cases c2 : sg = 119
        · have d2 : ch tx s = 119 := by omega
          have e1 : at0 = ((s + 1 : Nat) : Int) := by omega
          rw [if_pos d2] at hok her
          subst e1
          refine p_lsw (i := 37) 101 rfl (by omega) (by decide) (by rw [c2]) (by decide) ?_
          refine p_aload_n (i := 41) rfl rfl ?_
          refine p_cV0 (i := 42) rfl ⟨lX10_112, rfl, rfl⟩ kY ⟨_, rfl, rfl⟩ rfl (y_readsWearer hS hw hT (by omega) kRd hl o3 o4 hk6 hz (fun e8 M2 hS2 kRd2 fr2 => ?_) (fun e8 M2 a2 l2 bg2 sg2 fg2 vl2 f2 e2 hS2 kRd2 hl2 hz2 fr2 => ?_) (fun e8 M2 e at2 sg2 fg2 vl2 e2 hS2 kRd2 fr2 => ?_))
          · rw [if_pos e8] at her
            refine p_iret (i := 43) rfl rfl (by decide) ?_
            exact her M2 _ _ _ _ _ rfl hS2 kRd2 fr2
          · rw [if_neg e8, e2] at hok
            refine p_iret (i := 43) rfl rfl (by decide) ?_
            refine hok M2 _ _ _ _ _ _ _ rfl hS2 kRd2 hl2 (fun j h1 h2 => hz2 j ?_ h2) fr2
            unfold sWearer at e2
            split at e2
            · cases e2
            · cases e2
              unfold nW at h1 ⊢
              dsimp only at h1
              rw [List.length_append] at h1
              exact h1
          · rw [if_neg e8, e2] at her
            refine p_iret (i := 43) rfl rfl (by decide) ?_
            exact her M2 _ _ _ _ _ rfl hS2 kRd2 fr2
        · have d2 : ¬ ch tx s = 119 := by omega
          rw [if_neg d2] at her
          refine p_lsw (i := 37) 106 rfl (by omega) (by decide) (by exact lsw2 c1 c2) (by decide) ?_
          refine p_aload_n (i := 44) rfl rfl ?_
          refine p_iconst (i := 45) rfl ?_
          refine p_cV1 (i := 46) rfl ⟨lX10_97, rfl, rfl⟩ kY ⟨_, rfl, rfl⟩ rfl (y_fails hS (fun M2 hS2 fr2 => ?_))
          refine p_iret (i := 47) rfl rfl (by decide) ?_
          exact her M2 _ _ _ _ _ rfl hS2 ⟨_, fr2.at kRd (by omega)⟩ (Fr2.rf.fi fr2 (by omega))
    · have hn0 : ln.1 = 0 := by omega
      rw [if_pos hn0] at her
      refine p_aload_n (i := 31) rfl rfl ?_
      refine p_iconst (i := 32) rfl ?_
      refine p_cV1 (i := 33) rfl ⟨lX10_97, rfl, rfl⟩ kY ⟨_, rfl, rfl⟩ rfl (y_fails hS (fun M2 hS2 fr2 => ?_))
      refine p_iret (i := 34) rfl rfl (by decide) ?_
      exact her M2 _ _ _ _ _ rfl hS2 ⟨_, fr2.at kRd (by omega)⟩ (Fr2.rf.fi fr2 (by omega))
  · have hn : ch tx s = 99 := by omega
    have e1 : at0 = ((s + 1 : Nat) : Int) := by omega
    rw [if_pos hn] at hok her
    subst e1
    refine p_aload_n (i := 4) rfl rfl ?_
    refine p_getf (i := 5) rfl fX10_13 kY rfl ?_
    refine p_iconst (i := 6) rfl ?_
    refine p_iaX (i := 7) (0) rfl kRd (by omega) (by omega) (by decide) ?_
    refine p_if_le (i := 8) 26 rfl (by decide) (by omega) (fun c15 => ?_) (fun c15 => ?_)
    · rw [if_neg (by omega)] at hok her
      unfold sClear at hok her
      refine p_aload_n (i := 13) rfl rfl ?_
      refine p_iconst (i := 14) rfl ?_
      refine p_iconst (i := 15) rfl ?_
      refine p_bipush (i := 16) rfl (by decide) ?_
      refine p_cV3 (i := 17) rfl ⟨lX10_101, rfl, rfl⟩ kY ⟨_, rfl, rfl⟩ rfl (y_number (slot := 0) hS hw hT (by omega) kRd (by omega) (by omega) (by omega) (fun M2 a2 v bg2 sg2 fg2 vl2 e2 hS2 kRd2 fr2 => ?_) (fun M2 e at1 sg2 fg2 vl2 e2 hS2 kRd2 fr2 => ?_))
      · rw [e2] at hok her
        have hin := sNum_in (tx := tx) (a := s + 1) (lo := 1) (hi := 99) (by omega)
        rw [e2] at hin
        have hin : a2 ≤ tx.length := hin
        dsimp only at hok her
        have kY := hS2
        unfold YS at kY
        refine p_if_eq (i := 18) 48 rfl (by decide) (by omega) (fun c34 => by exfalso; omega) (fun c34 => ?_)
        refine p_aload_n (i := 19) rfl rfl ?_
        refine p_cV0 (i := 20) rfl ⟨lX10_105, rfl, rfl⟩ kY ⟨_, rfl, rfl⟩ rfl (y_ends hS2 hw (hT.f2 fr2) hin (fun M4 a4 bg4 sg4 fg4 vl4 e4 hS4 fr4 => ?_) (fun M4 e at1 sg4 fg4 vl4 e4 hS4 fr4 => ?_))
        · rw [e4] at hok
          refine p_if_eq (i := 21) 48 rfl (by decide) (by omega) (fun c41 => by exfalso; omega) (fun c41 => ?_)
          refine p_iconst (i := 22) rfl ?_
          refine p_goto (i := 23) 49 rfl (by decide) ?_
          refine p_iret (i := 25) rfl rfl (by decide) ?_
          exact hok M4 a4 _ _ _ _ _ _ rfl hS4 (fr4.at kRd2 (by omega)) hl.clear (fun j h1 h2 => by rw [zup_n (by omega)]; exact hz j h1 h2) (fr2.fi fr4 (by omega))
        · rw [e4] at her
          refine p_if_eq (i := 21) 48 rfl (by decide) (by omega) (fun c41 => ?_) (fun c41 => by exfalso; omega)
          refine p_iconst (i := 24) rfl ?_
          refine p_iret (i := 25) rfl rfl (by decide) ?_
          exact her M4 _ _ _ _ _ rfl hS4 ⟨_, fr4.at kRd2 (by omega)⟩ (fr2.fi fr4 (by omega))
      · rw [e2] at her
        refine p_if_eq (i := 18) 48 rfl (by decide) (by omega) (fun c34 => ?_) (fun c34 => by exfalso; omega)
        refine p_iconst (i := 24) rfl ?_
        refine p_iret (i := 25) rfl rfl (by decide) ?_
        exact her M2 _ _ _ _ _ rfl hS2 ⟨_, kRd2⟩ fr2
    · rw [if_pos (by omega)] at her
      refine p_aload_n (i := 9) rfl rfl ?_
      refine p_iconst (i := 10) rfl ?_
      refine p_cV1 (i := 11) rfl ⟨lX10_97, rfl, rfl⟩ kY ⟨_, rfl, rfl⟩ rfl (y_fails hS (fun M2 hS2 fr2 => ?_))
      refine p_goto (i := 12) 49 rfl (by decide) ?_
      refine p_iret (i := 25) rfl rfl (by decide) ?_
      exact her M2 _ _ _ _ _ rfl hS2 ⟨_, fr2.at kRd (by omega)⟩ (Fr2.rf.fi fr2 (by omega))
