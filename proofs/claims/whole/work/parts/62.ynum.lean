-- the reference: a number, an end
theorem y_fails {M : AM} {w : YF} {at0 bg sg fg vl wr n : Int} {Q : Option Value → AM → Prop} (hS : YS M w at0 bg sg fg vl wr) (h : ∀ M', YS M' w at0 bg sg fg vl n → FrI 276 1 M M' → Q (some (zI 0)) M') : C mX10_fails [.ref 276, zI n] M Q := by
  have kY := hS
  unfold YS at kY
  have fr : FrI 276 1 M M := FrI.rf
  refine C_of okX10_fails (by decide) (Nat.le_of_ble_eq_true rfl) ?_
  show P none mX10_fails 0 [.ref 276, zI n] [] _ _
  refine p_aload_n (i := 0) rfl rfl ?_
  refine p_iload_n (i := 1) rfl rfl ?_
  refine p_puti (i := 2) rfl gX10_91 kY rfl (P_gen fun M e => ?_)
  have fr := fr.up e (by omega)
  have kY := aupE e
  refine p_iconst (i := 3) rfl ?_
  refine p_iret (i := 4) rfl rfl (by decide) ?_
  exact h M kY fr
theorem y_ends {M : AM} {tx : List Int} {w : YF} {a : Nat} {bg sg fg vl wr : Int} {Q : Option Value → AM → Prop} (hS : YS M w (a : Int) bg sg fg vl wr) (hw : w.2.2.1 = (tx.length : Nat)) (hT : YT M tx) (ha : a ≤ tx.length) (hok : ∀ M' a1 bg sg fg vl, sEnd tx a 59 = .ok a1 → YS M' w (a1 : Nat) bg sg fg vl wr → FrI 276 1 M M' → Q (some (zI 1)) M') (her : ∀ M' e at1 sg fg vl, sEnd tx a 59 = .error e → YS M' w at1 e.2 sg fg vl e.1 → FrI 276 1 M M' → Q (some (zI 0)) M') : C mX10_ends [.ref 276] M Q := by
  have kY := hS
  unfold YS at kY
  unfold sEnd at hok her
  have hc := hT.c (sk tx a)
  refine C_of okX10_ends (by decide) (Nat.le_of_ble_eq_true rfl) ?_
  show P none mX10_ends 0 [.ref 276] [] _ _
  refine p_aload_n (i := 0) rfl rfl ?_
  refine p_cV0 (i := 1) rfl ⟨lX10_94, rfl, rfl⟩ kY ⟨_, rfl, rfl⟩ rfl (y_step hS hw hT ha (fun M1 z hS1 fr1 => ?_) (fun M1 z hS1 fr1 => ?_))
  · rw [if_neg (by omega)] at her
    have kY := hS1
    unfold YS at kY
    refine p_aload_n (i := 2) rfl rfl ?_
    refine p_getf (i := 3) rfl fX10_78 kY rfl ?_
    refine p_bipush (i := 4) rfl (by decide) ?_
    refine p_icmp_eq (i := 5) 21 rfl (by decide) (by omega) (by omega) (fun c10 => by exfalso; omega) (fun c10 => ?_)
    refine p_aload_n (i := 6) rfl rfl ?_
    refine p_iconst (i := 7) rfl ?_
    refine p_cV1 (i := 8) rfl ⟨lX10_97, rfl, rfl⟩ kY ⟨_, rfl, rfl⟩ rfl (y_fails hS1 (fun M2 hS2 fr2 => ?_))
    refine p_if_eq (i := 9) 25 rfl (by decide) (by omega) (fun c18 => ?_) (fun c18 => by exfalso; omega)
    refine p_iconst (i := 12) rfl ?_
    refine p_iret (i := 13) rfl rfl (by decide) ?_
    exact her M2 _ _ _ _ _ rfl hS2 (fr1.tr fr2)
  · have kY := hS1
    unfold YS at kY
    refine p_aload_n (i := 2) rfl rfl ?_
    refine p_getf (i := 3) rfl fX10_78 kY rfl ?_
    refine p_bipush (i := 4) rfl (by decide) ?_
    refine p_icmp_eq (i := 5) 21 rfl (by decide) (by omega) (by omega) (fun c10 => ?_) (fun c10 => ?_)
    · rw [if_pos (by omega)] at hok
      refine p_iconst (i := 10) rfl ?_
      refine p_goto (i := 11) 26 rfl (by decide) ?_
      refine p_iret (i := 13) rfl rfl (by decide) ?_
      have e : (if ch tx (sk tx a) < 0 then sk tx a else sk tx a + 1) = sk tx a + 1 := if_neg (by omega)
      rw [e] at hS1
      exact hok M1 _ _ _ _ _ rfl hS1 fr1
    · rw [if_neg (by omega)] at her
      refine p_aload_n (i := 6) rfl rfl ?_
      refine p_iconst (i := 7) rfl ?_
      refine p_cV1 (i := 8) rfl ⟨lX10_97, rfl, rfl⟩ kY ⟨_, rfl, rfl⟩ rfl (y_fails hS1 (fun M2 hS2 fr2 => ?_))
      refine p_if_eq (i := 9) 25 rfl (by decide) (by omega) (fun c18 => ?_) (fun c18 => by exfalso; omega)
      refine p_iconst (i := 12) rfl ?_
      refine p_iret (i := 13) rfl rfl (by decide) ?_
      exact her M2 _ _ _ _ _ rfl hS2 (fr1.tr fr2)
theorem y_number {M : AM} {tx : List Int} {w : YF} {a slot : Nat} {bg sg fg vl wr lo hi : Int} {rf : Nat → Int} {Q : Option Value → AM → Prop} (hS : YS M w (a : Int) bg sg fg vl wr) (hw : w.2.2.1 = (tx.length : Nat)) (hT : YT M tx) (ha : a ≤ tx.length) (kRd : M 278 = some (zA 61 rf)) (hsl : slot < 61) (hlo : -10 ≤ lo ∧ lo ≤ 100) (hhi : -10 ≤ hi ∧ hi ≤ 100) (hok : ∀ M' a1 v bg sg fg vl, sNum tx a lo hi = .ok (a1, v) → YS M' w (a1 : Nat) bg sg fg vl wr → M' 278 = some (zA 61 (zup rf slot v)) → Fr2 276 278 M M' → Q (some (zI 1)) M') (her : ∀ M' e at1 sg fg vl, sNum tx a lo hi = .error e → YS M' w at1 e.2 sg fg vl e.1 → M' 278 = some (zA 61 rf) → Fr2 276 278 M M' → Q (some (zI 0)) M') : C mX10_number [.ref 276, zI (slot : Int), zI lo, zI hi] M Q := by
  have kY := hS
  unfold YS at kY
  unfold sNum at hok her
  have hc := hT.c (sk tx a)
  have hv0 := hT.1
  have hk := (sk_rng tx a).2.1 ha
  have hn := nmL_rng tx (tx.length - sk tx a) (sk tx a) 0 0 rfl hk
  have hv := nmL_v tx (tx.length - sk tx a) (sk tx a) 0 0 (Or.inl ⟨rfl, rfl⟩)
  refine C_of okX10_number (by decide) (Nat.le_of_ble_eq_true rfl) ?_
  show P none mX10_number 0 [.ref 276, zI (slot : Int), zI lo, zI hi] [] _ _
  refine p_aload_n (i := 0) rfl rfl ?_
  refine p_cV0 (i := 1) rfl ⟨lX10_94, rfl, rfl⟩ kY ⟨_, rfl, rfl⟩ rfl (y_step hS hw hT ha (fun M1 z hS1 fr1 => ?_) (fun M1 z hS1 fr1 => ?_))
  · rw [if_neg (not_not_intro z)] at hok her
    obtain ⟨⟨a1, k, v⟩, eN⟩ : ∃ r, r = nmL tx (tx.length - sk tx a) (sk tx a) 0 0 := ⟨_, rfl⟩
    rw [← eN] at hok her hS1 hn hv
    dsimp only at hok her hS1 hn hv
    have kY := hS1
    unfold YS at kY
    have kRd := fr1.at kRd (by omega)
    have frA : Fr2 276 278 M M1 := Fr2.rf.fi fr1 (by omega)
    refine p_aload_n (i := 2) rfl rfl ?_
    refine p_getf (i := 3) rfl fX10_78 kY rfl ?_
    refine p_bipush (i := 4) rfl (by decide) ?_
    refine p_icmp_eq (i := 5) 19 rfl (by decide) (by omega) (by omega) (fun c10 => ?_) (fun c10 => by exfalso; omega)
    refine p_aload_n (i := 10) rfl rfl ?_
    refine p_getf (i := 11) rfl fX10_81 kY rfl ?_
    refine p_iconst (i := 12) rfl ?_
    refine p_icmp_gt (i := 13) 42 rfl (by decide) (by omega) (by omega) (fun c24 => ?_) (fun c24 => ?_)
    · rw [if_pos (by omega)] at her
      refine p_aload_n (i := 23) rfl rfl ?_
      refine p_iconst (i := 24) rfl ?_
      refine p_cV1 (i := 25) rfl ⟨lX10_97, rfl, rfl⟩ kY ⟨_, rfl, rfl⟩ rfl (y_fails hS1 (fun M2 hS2 fr2 => ?_))
      refine p_iret (i := 26) rfl rfl (by decide) ?_
      exact her M2 _ _ _ _ _ rfl hS2 (fr2.at kRd (by omega)) (frA.fi fr2 (by omega))
    · refine p_aload_n (i := 14) rfl rfl ?_
      refine p_getf (i := 15) rfl fX10_84 kY rfl ?_
      refine p_i2l (i := 16) rfl (by omega) ?_
      refine p_iload_n (i := 17) rfl rfl ?_
      refine p_i2l (i := 18) rfl (by omega) ?_
      refine p_iload_n (i := 19) rfl rfl ?_
      refine p_i2l (i := 20) rfl (by omega) ?_
      refine p_cS3 (i := 21) rfl ⟨lX10_59, rfl, rfl⟩ rfl (y_in (by omega) (by omega) (by omega) (fun z2 => ?_) (fun z2 => ?_))
      · rw [if_neg (by omega)] at hok
        have fr2 : FrI 278 1 M1 M1 := FrI.rf
        refine p_if_ne (i := 22) 48 rfl (by decide) (by omega) (fun c39 => ?_) (fun c39 => by exfalso; omega)
        refine p_aload_n (i := 27) rfl rfl ?_
        refine p_getf (i := 28) rfl fX10_13 kY rfl ?_
        refine p_iload_n (i := 29) rfl rfl ?_
        refine p_aload_n (i := 30) rfl rfl ?_
        refine p_getf (i := 31) rfl fX10_84 kY rfl ?_
        refine p_isX (i := 32) _ rfl kRd rfl (by omega) (by decide) (P_gen fun M e => ?_)
        have kY := aupN e kY (by omega)
        have fr2 := fr2.up e (by omega)
        have kRd := aupE e
        refine p_iconst (i := 33) rfl ?_
        refine p_iret (i := 34) rfl rfl (by decide) ?_
        exact hok M _ _ _ _ _ _ rfl kY kRd (frA.fi fr2 (by omega))
      · rw [if_pos (by omega)] at her
        refine p_if_ne (i := 22) 48 rfl (by decide) (by omega) (fun c39 => by exfalso; omega) (fun c39 => ?_)
        refine p_aload_n (i := 23) rfl rfl ?_
        refine p_iconst (i := 24) rfl ?_
        refine p_cV1 (i := 25) rfl ⟨lX10_97, rfl, rfl⟩ kY ⟨_, rfl, rfl⟩ rfl (y_fails hS1 (fun M2 hS2 fr2 => ?_))
        refine p_iret (i := 26) rfl rfl (by decide) ?_
        exact her M2 _ _ _ _ _ rfl hS2 (fr2.at kRd (by omega)) (frA.fi fr2 (by omega))
  · rw [if_pos z] at her
    have kY := hS1
    unfold YS at kY
    have kRd := fr1.at kRd (by omega)
    have frA : Fr2 276 278 M M1 := Fr2.rf.fi fr1 (by omega)
    refine p_aload_n (i := 2) rfl rfl ?_
    refine p_getf (i := 3) rfl fX10_78 kY rfl ?_
    refine p_bipush (i := 4) rfl (by decide) ?_
    refine p_icmp_eq (i := 5) 19 rfl (by decide) (by omega) (by omega) (fun c10 => by exfalso; omega) (fun c10 => ?_)
    refine p_aload_n (i := 6) rfl rfl ?_
    refine p_iconst (i := 7) rfl ?_
    refine p_cV1 (i := 8) rfl ⟨lX10_97, rfl, rfl⟩ kY ⟨_, rfl, rfl⟩ rfl (y_fails hS1 (fun M2 hS2 fr2 => ?_))
    refine p_iret (i := 9) rfl rfl (by decide) ?_
    exact her M2 _ _ _ _ _ rfl hS2 (fr2.at kRd (by omega)) (frA.fi fr2 (by omega))
