-- the reference: a number, an end
theorem y_fails {M : AM} {w : YF} {at0 bg sg fg vl wr n : Int} {Q : Option Value → AM → Prop} (hS : YS M w at0 bg sg fg vl wr) (h : ∀ M', YS M' w at0 bg sg fg vl n → FrI 276 1 M M' → Q (some (zI 0)) M') : C mX10_fails [.ref 276, zI n] M Q := by
  have kY := hS
  unfold YS at kY
  have fr : FrI 276 1 M M := FrI.rf
  refine C_of okX10_fails (by decide) (Nat.le_of_ble_eq_true rfl) ?_
  show P none mX10_fails 0 [.ref 276, zI n] [] _ _
  refine p_aload_n (i := 0) rfl rfl ?_
  refine p_iload_n (i := 1) rfl rfl ?_
  refine p_puti (i := 2) rfl gX10_91 kY rfl (P_gen fun M e => ?_)
  have fr := fr.up e (by omega)
  have kY := aupE e
  refine p_iconst (i := 3) rfl ?_
  refine p_iret (i := 4) rfl rfl (by decide) ?_
  exact h M kY fr
theorem y_ends {M : AM} {tx : List Int} {w : YF} {a : Nat} {bg sg fg vl wr : Int} {Q : Option Value → AM → Prop} (hS : YS M w (a : Int) bg sg fg vl wr) (hw : w.2.2.1 = (tx.length : Nat)) (hT : YT M tx) (ha : a ≤ tx.length) (hok : ∀ M' a1 bg sg fg vl, sEnd tx a 59 = .ok a1 → YS M' w (a1 : Nat) bg sg fg vl wr → FrI 276 1 M M' → Q (some (zI 1)) M') (her : ∀ M' e at1 sg fg vl, sEnd tx a 59 = .error e → YS M' w at1 e.2 sg fg vl e.1 → FrI 276 1 M M' → Q (some (zI 0)) M') : C mX10_ends [.ref 276] M Q := by
  have kY := hS
  unfold YS at kY
  unfold sEnd at hok her
  have hc := hT.c (sk tx a)
  refine C_of okX10_ends (by decide) (Nat.le_of_ble_eq_true rfl) ?_
  show P none mX10_ends 0 [.ref 276] [] _ _
  refine p_aload_n (i := 0) rfl rfl ?_
  refine p_cV0 (i := 1) rfl ⟨lX10_94, rfl, rfl⟩ kY ⟨_, rfl, rfl⟩ rfl (y_step hS hw hT ha (fun M1 z hS1 fr1 => ?_) (fun M1 z hS1 fr1 => ?_))
  · rw [if_neg (by omega)] at her
    have kY := hS1
    unfold YS at kY
    refine p_aload_n (i := 2) rfl rfl ?_
    refine p_getf (i := 3) rfl fX10_78 kY rfl ?_
    refine p_bipush (i := 4) rfl (by decide) ?_
    refine p_icmp_eq (i := 5) 21 rfl (by decide) (by omega) (by omega) (fun c10 => by exfalso; omega) (fun c10 => ?_)
    refine p_aload_n (i := 6) rfl rfl ?_
    refine p_iconst (i := 7) rfl ?_
    refine p_cV1 (i := 8) rfl ⟨lX10_97, rfl, rfl⟩ kY ⟨_, rfl, rfl⟩ rfl (y_fails hS1 (fun M2 hS2 fr2 => ?_))
    refine p_if_eq (i := 9) 25 rfl (by decide) (by omega) (fun c18 => ?_) (fun c18 => by exfalso; omega)
    refine p_iconst (i := 12) rfl ?_
    refine p_iret (i := 13) rfl rfl (by decide) ?_
    exact her M2 _ _ _ _ _ rfl hS2 (fr1.tr fr2)
  · have kY := hS1
    unfold YS at kY
    refine p_aload_n (i := 2) rfl rfl ?_
    refine p_getf (i := 3) rfl fX10_78 kY rfl ?_
    refine p_bipush (i := 4) rfl (by decide) ?_
    refine p_icmp_eq (i := 5) 21 rfl (by decide) (by omega) (by omega) (fun c10 => ?_) (fun c10 => ?_)
    · rw [if_pos (by omega)] at hok
      refine p_iconst (i := 10) rfl ?_
      refine p_goto (i := 11) 26 rfl (by decide) ?_
      refine p_iret (i := 13) rfl rfl (by decide) ?_
      have e : (if ch tx (sk tx a) < 0 then sk tx a else sk tx a + 1) = sk tx a + 1 := if_neg (by omega)
      rw [e] at hS1
      exact hok M1 _ _ _ _ _ rfl hS1 fr1
    · rw [if_neg (by omega)] at her
      refine p_aload_n (i := 6) rfl rfl ?_
      refine p_iconst (i := 7) rfl ?_
      refine p_cV1 (i := 8) rfl ⟨lX10_97, rfl, rfl⟩ kY ⟨_, rfl, rfl⟩ rfl (y_fails hS1 (fun M2 hS2 fr2 => ?_))
      refine p_if_eq (i := 9) 25 rfl (by decide) (by omega) (fun c18 => ?_) (fun c18 => by exfalso; omega)
      refine p_iconst (i := 12) rfl ?_
      refine p_iret (i := 13) rfl rfl (by decide) ?_
      exact her M2 _ _ _ _ _ rfl hS2 (fr1.tr fr2)
