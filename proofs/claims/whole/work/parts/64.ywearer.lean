-- the reference: a wearer's clause
theorem YLn.look {f : Nat → Int} {c0 : Int} {ss : List (Int × Int)} {ws : List (List Int)} {l : List Int} {v : Int} (h : YLn f (c0, ss, ws ++ [l])) (hS : ss.length ≤ 8) (hW : ws.length < 6) (hl : l.length < 6) (hk : ∀ j, j < ws.length → (ws.getD j []).length ≤ 6) : YLn (zup (zup f (25 + 6 * ws.length + l.length) v) (19 + ws.length) (f (19 + ws.length) + 1)) (c0, ss, ws ++ [l ++ [v]]) := by
  obtain ⟨n0, n1, n2, n3, n4⟩ := h
  have eW : nW (c0, ss, ws ++ [l]) = ws.length + 1 := by unfold nW; simp
  have eW2 : nW (c0, ss, ws ++ [l ++ [v]]) = ws.length + 1 := by unfold nW; simp
  have eS : nS (c0, ss, ws ++ [l]) = ss.length := rfl
  have eS2 : nS (c0, ss, ws ++ [l ++ [v]]) = ss.length := rfl
  have eg : (ws ++ [l]).getD ws.length [] = l := gd_app_last
  have eg2 : (ws ++ [l ++ [v]]).getD ws.length [] = l ++ [v] := gd_app_last
  refine ⟨by rw [zup_n (by omega), zup_n (by omega)]; exact n0, by rw [zup_n (by omega), zup_n (by omega)]; exact n1, by rw [zup_n (by omega), zup_n (by omega), n2, eW, eW2], fun x hx => ?_, fun j hj => ?_⟩
  · rw [eS2] at hx
    rw [zup_n (by omega), zup_n (by omega), zup_n (by omega), zup_n (by omega)]
    exact n3 x hx
  · rw [eW2] at hj
    show zup (zup f (25 + 6 * ws.length + l.length) v) (19 + ws.length) (f (19 + ws.length) + 1) (19 + j) = (((ws ++ [l ++ [v]]).getD j []).length : Nat) ∧ ∀ q, q < ((ws ++ [l ++ [v]]).getD j []).length → zup (zup f (25 + 6 * ws.length + l.length) v) (19 + ws.length) (f (19 + ws.length) + 1) (25 + 6 * j + q) = ((ws ++ [l ++ [v]]).getD j []).getD q 0
    have hj2 := n4 j (by omega)
    have hj2 : f (19 + j) = (((ws ++ [l]).getD j []).length : Nat) ∧ ∀ q, q < ((ws ++ [l]).getD j []).length → f (25 + 6 * j + q) = ((ws ++ [l]).getD j []).getD q 0 := hj2
    by_cases c : j = ws.length
    · subst c
      rw [eg] at hj2
      rw [eg2, zup_e, List.length_append]
      refine ⟨by rw [hj2.1]; simp, fun q hq => ?_⟩
      have hq : q < l.length + 1 := by simpa using hq
      rw [zup_n (by omega), gd_app hq]
      by_cases d : q = l.length
      · rw [if_pos d, d, zup_e]
      · rw [if_neg d, zup_n (by omega)]; exact hj2.2 q (by omega)
    · have e1 : (ws ++ [l ++ [v]]).getD j [] = ws.getD j [] := gd_app_l (by omega)
      have e2 : (ws ++ [l]).getD j [] = ws.getD j [] := gd_app_l (by omega)
      rw [e2] at hj2
      rw [e1]
      have := hk j (by omega)
      refine ⟨by rw [zup_n (by omega), zup_n (by omega)]; exact hj2.1, fun q hq => ?_⟩
      rw [zup_n (by omega), zup_n (by omega)]
      exact hj2.2 q hq
theorem y_readsWearer {M : AM} {tx : List Int} {w : YF} {a : Nat} {bg sg fg vl wr : Int} {rf : Nat → Int} {ln : LN} {Q : Option Value → AM → Prop} (hS : YS M w (a : Int) bg sg fg vl wr) (hw : w.2.2.1 = (tx.length : Nat)) (hT : YT M tx) (ha : a ≤ tx.length) (kRd : M 278 = some (zA 61 rf)) (hl : YLn rf ln) (h8 : nS ln ≤ 8) (h6 : nW ln ≤ 6) (hk6 : ∀ j, j < nW ln → lkN ln j ≤ 6) (hz : ∀ j, nW ln ≤ j → j < 6 → rf (19 + j) = 0)
    (hfu : nW ln = 6 → ∀ M', YS M' w (a : Int) bg sg fg vl 3 → (∃ f', M' 278 = some (zA 61 f')) → Fr2 276 278 M M' → Q (some (zI 0)) M')
    (hok : nW ln ≠ 6 → ∀ M' a1 l1 bg sg fg vl f', sWearer tx a ln = .ok (a1, l1) → YS M' w (a1 : Nat) bg sg fg vl wr → M' 278 = some (zA 61 f') → YLn f' l1 → (∀ j, nW ln < j → j < 6 → f' (19 + j) = 0) → Fr2 276 278 M M' → Q (some (zI 1)) M')
    (her : nW ln ≠ 6 → ∀ M' e at1 sg fg vl, sWearer tx a ln = .error e → YS M' w at1 e.2 sg fg vl e.1 → (∃ f', M' 278 = some (zA 61 f')) → Fr2 276 278 M M' → Q (some (zI 0)) M') : C mX10_readsWearer [.ref 276] M Q := by
  obtain ⟨c0, ss, ws⟩ := ln
  have eS : nS (c0, ss, ws) = ss.length := rfl
  have eW : nW (c0, ss, ws) = ws.length := rfl
  have hk6' : ∀ j, j < ws.length → (ws.getD j []).length ≤ 6 := hk6
  rw [eS] at h8
  rw [eW] at h6 hz hfu hok her
  unfold sWearer at hok her
  rw [eS] at hok her
  have loop : ∀ (f a1 : Nat) (M1 : AM) (l : List Int) (rf1 : Nat → Int) (bg sg fg vl : Int), ws.length < 6 → l.length + (f + 1) = 6 → a1 ≤ tx.length → YS M1 w (a1 : Nat) bg sg fg vl wr → M1 278 = some (zA 61 rf1) → YLn rf1 (c0, ss, ws ++ [l]) → (∀ j, ws.length < j → j < 6 → rf1 (19 + j) = 0) → Fr2 276 278 M M1 → sLooks tx ss.length (f + 1) a1 l = sLooks tx ss.length 6 a [] → P none mX10_readsWearer 31 [.ref 276, zI (ws.length : Nat), zI 1] []  M1 Q := by
    intro f
    have tailE : ∀ (M1 : AM) (rf1 : Nat → Int) (at1 bg1 sg1 fg1 vl1 : Int), ws.length < 6 → ¬ sg1 = 59 → -1 ≤ sg1 ∧ sg1 ≤ 255 → YS M1 w at1 bg1 sg1 fg1 vl1 wr → M1 278 = some (zA 61 rf1) → Fr2 276 278 M M1 → sLooks tx ss.length 6 a [] = .error (1, bg1) → P none mX10_readsWearer 31 [.ref 276, zI (ws.length : Nat), zI 0] []  M1 Q := by
      intro M1 rf1 at1 bg1 sg1 fg1 vl1 hw6 hsg hsr hS1 kRd1 fr e1
      rw [e1] at her
      have kY := hS1
      unfold YS at kY
      refine p_iload_n (i := 22) rfl rfl ?_
      refine p_if_eq (i := 23) 126 rfl (by decide) (by omega) (fun c32 => ?_) (fun c32 => by exfalso; omega)
      refine p_aload_n (i := 82) rfl rfl ?_
      refine p_getf (i := 83) rfl fX10_78 kY rfl ?_
      refine p_bipush (i := 84) rfl (by decide) ?_
      refine p_icmp_eq (i := 85) 143 rfl (by decide) (by omega) (by omega) (fun c132 => by exfalso; omega) (fun c132 => ?_)
      refine p_aload_n (i := 86) rfl rfl ?_
      refine p_iconst (i := 87) rfl ?_
      refine p_cV1 (i := 88) rfl ⟨lX10_97, rfl, rfl⟩ kY ⟨_, rfl, rfl⟩ rfl (y_fails hS1 (fun M2 hS2 fr2 => ?_))
      refine p_if_eq (i := 89) 147 rfl (by decide) (by omega) (fun c140 => ?_) (fun c140 => by exfalso; omega)
      refine p_iconst (i := 92) rfl ?_
      refine p_iret (i := 93) rfl rfl (by decide) ?_
      exact her (by omega) M2 _ _ _ _ _ rfl hS2 ⟨_, fr2.at kRd1 (by omega)⟩ (fr.fi fr2 (by omega))
    have tailO : ∀ (M1 : AM) (rf1 : Nat → Int) (a2 : Nat) (l1 : List Int) (bg1 fg1 vl1 : Int), ws.length < 6 → YS M1 w (a2 : Nat) bg1 59 fg1 vl1 wr → M1 278 = some (zA 61 rf1) → YLn rf1 (c0, ss, ws ++ [l1]) → (∀ j, ws.length < j → j < 6 → rf1 (19 + j) = 0) → Fr2 276 278 M M1 → sLooks tx ss.length 6 a [] = .ok (a2, l1) → P none mX10_readsWearer 31 [.ref 276, zI (ws.length : Nat), zI 0] []  M1 Q := by
      intro M1 rf1 a2 l1 bg1 fg1 vl1 hw6 hS1 kRd1 hY1 hz1 fr e1
      rw [e1] at hok
      have kY := hS1
      unfold YS at kY
      refine p_iload_n (i := 22) rfl rfl ?_
      refine p_if_eq (i := 23) 126 rfl (by decide) (by omega) (fun c32 => ?_) (fun c32 => by exfalso; omega)
      refine p_aload_n (i := 82) rfl rfl ?_
      refine p_getf (i := 83) rfl fX10_78 kY rfl ?_
      refine p_bipush (i := 84) rfl (by decide) ?_
      refine p_icmp_eq (i := 85) 143 rfl (by decide) (by omega) (by omega) (fun c132 => ?_) (fun c132 => by exfalso; omega)
      refine p_iconst (i := 90) rfl ?_
      refine p_goto (i := 91) 148 rfl (by decide) ?_
      refine p_iret (i := 93) rfl rfl (by decide) ?_
      exact hok (by omega) M1 _ _ _ _ _ _ _ rfl hS1 kRd1 hY1 hz1 fr
    revert f
    have body : ∀ (f : Nat), (f ≠ 0 → ∀ (a1 : Nat) (M1 : AM) (l : List Int) (rf1 : Nat → Int) (bg sg fg vl : Int), ws.length < 6 → l.length + f = 6 → a1 ≤ tx.length → YS M1 w (a1 : Nat) bg sg fg vl wr → M1 278 = some (zA 61 rf1) → YLn rf1 (c0, ss, ws ++ [l]) → (∀ j, ws.length < j → j < 6 → rf1 (19 + j) = 0) → Fr2 276 278 M M1 → sLooks tx ss.length f a1 l = sLooks tx ss.length 6 a [] → P none mX10_readsWearer 31 [.ref 276, zI (ws.length : Nat), zI 1] []  M1 Q) → ∀ (a1 : Nat) (M1 : AM) (l : List Int) (rf1 : Nat → Int) (bg sg fg vl : Int), ws.length < 6 → l.length + (f + 1) = 6 → a1 ≤ tx.length → YS M1 w (a1 : Nat) bg sg fg vl wr → M1 278 = some (zA 61 rf1) → YLn rf1 (c0, ss, ws ++ [l]) → (∀ j, ws.length < j → j < 6 → rf1 (19 + j) = 0) → Fr2 276 278 M M1 → sLooks tx ss.length (f + 1) a1 l = sLooks tx ss.length 6 a [] → P none mX10_readsWearer 31 [.ref 276, zI (ws.length : Nat), zI 1] []  M1 Q := by
      intro f ihf a1 M1 l rf1 bg sg fg vl hw6 hlf ha1 hS1 kRd1 hY1 hz1 fr e1
      obtain ⟨S, eSS⟩ : ∃ S, S = sLooks tx ss.length 6 a [] := ⟨_, rfl⟩
      rw [← eSS] at e1 ihf tailE tailO
      have n1 := hY1.2.1
      have n1 : rf1 1 = (ss.length : Nat) := n1
      have hcn := (hY1.2.2.2.2 ws.length (by show ws.length < (ws ++ [l]).length; simp)).1
      have eg : (ws ++ [l]).getD ws.length [] = l := gd_app_last
      have hcn : rf1 (19 + ws.length) = (l.length : Nat) := by
        rw [hcn]
        show (((ws ++ [l]).getD ws.length []).length : Int) = _
        rw [eg]
      have hT1 := hT.f2 fr
      have kY := hS1
      unfold YS at kY
      unfold sLooks at e1
      refine p_iload_n (i := 22) rfl rfl ?_
      refine p_if_eq (i := 23) 126 rfl (by decide) (by omega) (fun c32 => by exfalso; omega) (fun c32 => ?_)
      refine p_aload_n (i := 24) rfl rfl ?_
      refine p_bipush (i := 25) rfl (by decide) ?_
      refine p_bipush (i := 26) rfl (by decide) ?_
      refine p_iload_n (i := 27) rfl rfl ?_
      refine p_imul (i := 28) rfl ?_
      refine p_iadd (i := 29) rfl ?_
      refine p_aload_n (i := 30) rfl rfl ?_
      refine p_getf (i := 31) rfl fX10_13 kY rfl ?_
      refine p_bipush (i := 32) rfl (by decide) ?_
      refine p_iload_n (i := 33) rfl rfl ?_
      refine p_iadd (i := 34) rfl ?_
      refine p_iaX (i := 35) (19 + ws.length) rfl kRd1 (by omega) (by omega) (by decide) ?_
      refine p_iadd (i := 36) rfl ?_
      refine p_iconst (i := 37) rfl ?_
      refine p_aload_n (i := 38) rfl rfl ?_
      refine p_getf (i := 39) rfl fX10_13 kY rfl ?_
      refine p_iconst (i := 40) rfl ?_
      refine p_iaX (i := 41) (1) rfl kRd1 (by omega) (by omega) (by decide) ?_
      refine p_iconst (i := 42) rfl ?_
      refine p_isub (i := 43) rfl ?_
      rw [hcn, n1, show (25 : Int) + 6 * ((ws.length : Nat) : Int) + ((l.length : Nat) : Int) = ((25 + 6 * ws.length + l.length : Nat) : Int) by omega]
      refine p_cV3 (i := 44) rfl ⟨lX10_101, rfl, rfl⟩ kY ⟨_, rfl, rfl⟩ rfl (y_number hS1 hw hT1 ha1 kRd1 (by omega) (by omega) (by omega) (fun M2 a2 v bg2 sg2 fg2 vl2 e2 hS2 kRd2 fr2 => ?_) (fun M2 e at1 sg2 fg2 vl2 e2 hS2 kRd2 fr2 => ?_))
      · rw [e2] at e1
        have hin := sNum_in (tx := tx) (lo := 0) (hi := ((ss.length : Nat) : Int) - 1) ha1
        rw [e2] at hin
        have hin : a2 ≤ tx.length := hin
        dsimp only at e1
        have kY := hS2
        unfold YS at kY
        have frB := fr.tr fr2
        have fr3 : FrI 278 1 M2 M2 := FrI.rf
        have ez : zup rf1 (25 + 6 * ws.length + l.length) v (19 + ws.length) = rf1 (19 + ws.length) := zup_n (by omega)
        refine p_if_ne (i := 45) 70 rfl (by decide) (by omega) (fun c65 => ?_) (fun c65 => by exfalso; omega)
        refine p_aload_n (i := 48) rfl rfl ?_
        refine p_getf (i := 49) rfl fX10_13 kY rfl ?_
        refine p_bipush (i := 50) rfl (by decide) ?_
        refine p_iload_n (i := 51) rfl rfl ?_
        refine p_iadd (i := 52) rfl ?_
        refine p_dup2 (i := 53) rfl rfl rfl ?_
        refine p_iaX (i := 54) (19 + ws.length) rfl kRd2 (by omega) (by omega) (by decide) ?_
        refine p_iconst (i := 55) rfl ?_
        refine p_iadd (i := 56) rfl ?_
        refine p_isX (i := 57) (19 + ws.length) rfl kRd2 (by omega) (by omega) (by decide) (P_gen fun M e => ?_)
        have kY := aupN e kY (by omega)
        have fr3 := fr3.up e (by omega)
        have kRd2 := aupE e
        refine p_aload_n (i := 58) rfl rfl ?_
        have hS3 : YS M w (a2 : Nat) bg2 sg2 fg2 vl2 wr := kY
        have frC : Fr2 276 278 _ M := frB.fi fr3 (by omega)
        have hT3 := hT.f2 frC
        rw [ez] at kRd2
        have hY3 := YLn.look (v := v) hY1 h8 hw6 (by omega) hk6'
        have hz3 : ∀ j, ws.length < j → j < 6 → zup (zup rf1 (25 + 6 * ws.length + l.length) v) (19 + ws.length) (rf1 (19 + ws.length) + 1) (19 + j) = 0 := fun j h1 h2 => by rw [zup_n (by omega), zup_n (by omega)]; exact hz1 j h1 h2
        have hcn3 : zup (zup rf1 (25 + 6 * ws.length + l.length) v) (19 + ws.length) (rf1 (19 + ws.length) + 1) (19 + ws.length) = (l.length : Nat) + 1 := by rw [zup_e, hcn]
        obtain ⟨rf3, erf3⟩ : ∃ r, r = zup (zup rf1 (25 + 6 * ws.length + l.length) v) (19 + ws.length) (rf1 (19 + ws.length) + 1) := ⟨_, rfl⟩
        rw [← erf3] at kRd2 hY3 hz3 hcn3
        have hc := hT3.c (sk tx a2)
        have hsk := (sk_rng tx a2).2.1 hin
        refine p_cV0 (i := 59) rfl ⟨lX10_94, rfl, rfl⟩ kY ⟨_, rfl, rfl⟩ rfl (y_step hS3 hw hT3 hin (fun M4 z hS4 fr4 => ?_) (fun M4 z hS4 fr4 => ?_))
        · rw [if_neg (by omega), if_neg (by omega)] at e1
          have kY := hS4
          unfold YS at kY
          have kRd4 := fr4.at kRd2 (by omega)
          have frD := frC.fi fr4 (by omega)
          refine p_aload_n (i := 60) rfl rfl ?_
          refine p_getf (i := 61) rfl fX10_78 kY rfl ?_
          refine p_bipush (i := 62) rfl (by decide) ?_
          refine p_icmp_ne (i := 63) 100 rfl (by decide) (by omega) (by omega) (fun c93 => ?_) (fun c93 => by exfalso; omega)
          refine p_iconst (i := 66) rfl ?_
          refine p_istore_n (i := 67) rfl rfl ?_
          refine p_iload_n (i := 68) rfl rfl ?_
          refine p_if_eq (i := 69) 31 rfl (by decide) (by omega) (fun c103 => ?_) (fun c103 => by exfalso; omega)
          exact tailE M4 _ _ _ 48 _ _ hw6 (by decide) (by decide) hS4 kRd4 frD e1.symm
        · have kY := hS4
          unfold YS at kY
          have kRd4 := fr4.at kRd2 (by omega)
          have frD := frC.fi fr4 (by omega)
          refine p_aload_n (i := 60) rfl rfl ?_
          refine p_getf (i := 61) rfl fX10_78 kY rfl ?_
          refine p_bipush (i := 62) rfl (by decide) ?_
          refine p_icmp_ne (i := 63) 100 rfl (by decide) (by omega) (by omega) (fun c93 => ?_) (fun c93 => ?_)
          · rw [if_neg (by omega)] at e1
            refine p_iconst (i := 66) rfl ?_
            refine p_istore_n (i := 67) rfl rfl ?_
            refine p_iload_n (i := 68) rfl rfl ?_
            refine p_if_eq (i := 69) 31 rfl (by decide) (by omega) (fun c103 => ?_) (fun c103 => by exfalso; omega)
            by_cases c59 : ch tx (sk tx a2) = 59
            · rw [if_pos c59] at e1
              rw [if_neg (by omega), c59] at hS4
              exact tailO M4 _ (sk tx a2 + 1) _ _ _ _ hw6 hS4 kRd4 hY3 hz3 frD e1.symm
            · rw [if_neg c59] at e1
              exact tailE M4 _ _ _ _ _ _ hw6 c59 hc hS4 kRd4 frD e1.symm
          · rw [if_pos (by omega)] at e1
            have hlt : sk tx a2 < tx.length := by
              rcases Nat.lt_or_ge (sk tx a2) tx.length with z | z
              · exact z
              · rw [ch_end z] at hc; exfalso; have := ch_end z; omega
            refine p_iconst (i := 64) rfl ?_
            refine p_goto (i := 65) 101 rfl (by decide) ?_
            refine p_istore_n (i := 67) rfl rfl ?_
            refine p_iload_n (i := 68) rfl rfl ?_
            refine p_if_eq (i := 69) 31 rfl (by decide) (by omega) (fun c103 => by exfalso; omega) (fun c103 => ?_)
            refine p_aload_n (i := 70) rfl rfl ?_
            refine p_getf (i := 71) rfl fX10_13 kY rfl ?_
            refine p_bipush (i := 72) rfl (by decide) ?_
            refine p_iload_n (i := 73) rfl rfl ?_
            refine p_iadd (i := 74) rfl ?_
            refine p_iaX (i := 75) (19 + ws.length) rfl kRd4 (by omega) (by omega) (by decide) ?_
            refine p_bipush (i := 76) rfl (by decide) ?_
            refine p_icmp_ne (i := 77) 31 rfl (by decide) (by omega) (by omega) (fun c117 => ?_) (fun c117 => ?_)
            · rw [if_neg (by omega)] at e1
              rw [if_neg (by omega)] at hS4
              exact ihf (by omega) (sk tx a2 + 1) M4 (l ++ [v]) rf3 _ _ _ _ hw6 (by rw [List.length_append]; show l.length + 1 + f = 6; omega) (by omega) hS4 kRd4 hY3 hz3 frD e1
            · rw [if_pos (by omega)] at e1
              rw [← eSS, ← e1] at her
              refine p_aload_n (i := 78) rfl rfl ?_
              refine p_iconst (i := 79) rfl ?_
              refine p_cV1 (i := 80) rfl ⟨lX10_97, rfl, rfl⟩ kY ⟨_, rfl, rfl⟩ rfl (y_fails hS4 (fun M5 hS5 fr5 => ?_))
              refine p_iret (i := 81) rfl rfl (by decide) ?_
              exact her (by omega) M5 _ _ _ _ _ rfl hS5 ⟨_, fr5.at kRd4 (by omega)⟩ (frD.fi fr5 (by omega))
      · rw [e2] at e1
        rw [← eSS, ← e1] at her
        refine p_if_ne (i := 45) 70 rfl (by decide) (by omega) (fun c65 => by exfalso; omega) (fun c65 => ?_)
        refine p_iconst (i := 46) rfl ?_
        refine p_iret (i := 47) rfl rfl (by decide) ?_
        exact her (by omega) M2 e _ _ _ _ rfl hS2 ⟨_, kRd2⟩ (fr.tr fr2)
    intro f
    induction f with
    | zero => exact body 0 (fun z => absurd rfl z)
    | succ f ih => exact body (f + 1) (fun _ => ih)
  have kY := hS
  unfold YS at kY
  have n2 : rf 2 = (ws.length : Nat) := hl.2.2.1
  have fr1 : FrI 278 1 M M := FrI.rf
  have hY : ws.length < 6 → YLn (zup rf 2 (rf 2 + 1)) (c0, ss, ws ++ [[]]) := by
    intro h60
    obtain ⟨n0, n1, n2, n3, n4⟩ := hl
    refine ⟨by rw [zup_n (by omega)]; exact n0, by rw [zup_n (by omega)]; exact n1, by rw [zup_e, n2]; unfold nW; simp, fun x hx => by rw [zup_n (by omega), zup_n (by omega)]; exact n3 x hx, fun j hj => ?_⟩
    have hj : j < (ws ++ [([] : List Int)]).length := hj
    rw [List.length_append] at hj
    have hj : j < ws.length + 1 := hj
    show zup rf 2 (rf 2 + 1) (19 + j) = (((ws ++ [[]]).getD j []).length : Nat) ∧ ∀ q, q < ((ws ++ [[]]).getD j []).length → zup rf 2 (rf 2 + 1) (25 + 6 * j + q) = ((ws ++ [[]]).getD j []).getD q 0
    rw [zup_n (by omega)]
    by_cases c : j = ws.length
    · subst c
      have eg : (ws ++ [([] : List Int)]).getD ws.length [] = [] := gd_app_last
      rw [eg]
      exact ⟨hz ws.length (Nat.le_refl _) h60, fun q hq => absurd hq (Nat.not_lt_zero _)⟩
    · have e2 : (ws ++ [([] : List Int)]).getD j [] = ws.getD j [] := gd_app_l (by omega)
      rw [e2]
      refine ⟨(n4 j (by show j < ws.length; omega)).1, fun q hq => ?_⟩
      rw [zup_n (by omega)]
      exact (n4 j (by show j < ws.length; omega)).2 q hq
  refine C_of okX10_readsWearer (by decide) (Nat.le_of_ble_eq_true rfl) ?_
  show P none mX10_readsWearer 0 [.ref 276, .retAddr 0, .retAddr 0] [] _ _
  refine p_aload_n (i := 0) rfl rfl ?_
  refine p_getf (i := 1) rfl fX10_13 kY rfl ?_
  refine p_iconst (i := 2) rfl ?_
  refine p_iaX (i := 3) (2) rfl kRd (by omega) (by omega) (by decide) ?_
  refine p_istore_n (i := 4) rfl rfl ?_
  refine p_iload_n (i := 5) rfl rfl ?_
  refine p_bipush (i := 6) rfl (by decide) ?_
  rw [n2]
  refine p_icmp_ne (i := 7) 19 rfl (by decide) (by omega) (by omega) (fun c10 => ?_) (fun c10 => ?_)
  ·
    refine p_aload_n (i := 12) rfl rfl ?_
    refine p_getf (i := 13) rfl fX10_13 kY rfl ?_
    refine p_iconst (i := 14) rfl ?_
    refine p_dup2 (i := 15) rfl rfl rfl ?_
    refine p_iaX (i := 16) (2) rfl kRd (by omega) (by omega) (by decide) ?_
    refine p_iconst (i := 17) rfl ?_
    refine p_iadd (i := 18) rfl ?_
    refine p_isX (i := 19) (2) rfl kRd (by omega) (by omega) (by decide) (P_gen fun M e => ?_)
    have kY := aupN e kY (by omega)
    have fr1 := fr1.up e (by omega)
    have kRd := aupE e
    refine p_iconst (i := 20) rfl ?_
    refine p_istore_n (i := 21) rfl rfl ?_
    exact loop 5 a M [] _ bg sg fg vl (by omega) (by simp) ha kY kRd (hY (by omega)) (fun j h1 h2 => by rw [zup_n (by omega)]; exact hz j (by omega) h2) (Fr2.rf.fi fr1 (by omega)) rfl
  · refine p_aload_n (i := 8) rfl rfl ?_
    refine p_iconst (i := 9) rfl ?_
    refine p_cV1 (i := 10) rfl ⟨lX10_97, rfl, rfl⟩ kY ⟨_, rfl, rfl⟩ rfl (y_fails hS (fun M2 hS2 fr2 => ?_))
    refine p_iret (i := 11) rfl rfl (by decide) ?_
    exact hfu (by omega) M2 hS2 ⟨_, fr2.at kRd (by omega)⟩ (Fr2.rf.fi fr2 (by omega))
