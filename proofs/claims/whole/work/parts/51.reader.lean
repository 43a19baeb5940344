-- the class's Reader: letters and numbers
def XR (M : AM) (tx : List Int) (a : Nat) (b : Int × Int) : Prop := tx.length ≤ 240 ∧ a ≤ tx.length ∧ ∃ f, M 1 = some (zO 7 [.ref 2, zI (tx.length : Nat), zI (a : Int), zI b.1, zI b.2]) ∧ M 2 = some (zA 240 f) ∧ ∀ i, i < tx.length → f i = ch tx i ∧ 0 ≤ ch tx i ∧ ch tx i ≤ 255
theorem x_skipBlanks {M : AM} {tx : List Int} {a : Nat} {b : Int × Int} {Q : Option Value → AM → Prop} (hR : XR M tx a b) (h : ∀ M', XR M' tx (sk tx a) b → FrI 1 2 M M' → Q none M') : C mX7_skipBlanks [.ref 1] M Q := by
  have loop : ∀ (c a1 : Nat) (M1 : AM), a1 + c = tx.length → XR M1 tx a1 b → sk tx a1 = sk tx a → FrI 1 2 M M1 → P none mX7_skipBlanks 0 [.ref 1] []  M1 Q := by
    intro c
    induction c with
    | zero =>
      intro a1 M1 hc hR e1 fr
      obtain ⟨h0, h1, f, k1, k2, hf⟩ := id hR
      rw [sk_no (by rw [ch_end (by omega)]; decide)] at e1
      refine p_aload_n (i := 0) rfl rfl ?_
      refine p_getf (i := 1) rfl fX7_19 k1 rfl ?_
      refine p_aload_n (i := 2) rfl rfl ?_
      refine p_getf (i := 3) rfl fX7_15 k1 rfl ?_
      refine p_icmp_ge (i := 4) 48 rfl (by decide) (by omega) (by omega) (fun c8 => ?_) (fun c8 => by exfalso; omega)
      refine p_ret (i := 23) rfl rfl ?_
      exact h M1 (e1 ▸ hR) fr
    | succ c ih =>
      intro a1 M1 hc hR e1 fr
      obtain ⟨h0, h1, f, k1, k2, hf⟩ := id hR
      obtain ⟨f1, f2, f3⟩ := hf a1 (by omega)
      have fr0 := fr
      refine p_aload_n (i := 0) rfl rfl ?_
      refine p_getf (i := 1) rfl fX7_19 k1 rfl ?_
      refine p_aload_n (i := 2) rfl rfl ?_
      refine p_getf (i := 3) rfl fX7_15 k1 rfl ?_
      refine p_icmp_ge (i := 4) 48 rfl (by decide) (by omega) (by omega) (fun c8 => by exfalso; omega) (fun c8 => ?_)
      refine p_aload_n (i := 5) rfl rfl ?_
      refine p_getf (i := 6) rfl fX7_19 k1 rfl ?_
      refine p_sipush (i := 7) rfl (by decide) ?_
      refine p_icmp_ge (i := 8) 48 rfl (by decide) (by omega) (by omega) (fun c18 => by exfalso; omega) (fun c18 => ?_)
      refine p_aload_n (i := 9) rfl rfl ?_
      refine p_getf (i := 10) rfl fX7_9 k1 rfl ?_
      refine p_aload_n (i := 11) rfl rfl ?_
      refine p_getf (i := 12) rfl fX7_19 k1 rfl ?_
      refine p_iaX (i := 13) (a1) rfl k2 (by omega) (by omega) (by decide) ?_
      refine p_bipush (i := 14) rfl (by decide) ?_
      refine p_icmp_ne (i := 15) 48 rfl (by decide) (by omega) (by omega) (fun c32 => ?_) (fun c32 => ?_)
      · refine p_ret (i := 23) rfl rfl ?_
        rw [sk_no (by omega)] at e1
        exact h M1 (e1 ▸ hR) fr
      · refine p_aload_n (i := 16) rfl rfl ?_
        refine p_dup (i := 17) rfl rfl ?_
        refine p_getf (i := 18) rfl fX7_19 k1 rfl ?_
        refine p_iconst (i := 19) rfl ?_
        refine p_iadd (i := 20) rfl ?_
        refine p_puti (i := 21) rfl gX7_19 k1 rfl (P_gen fun M e => ?_)
        have k2 := aupN e k2 (by omega)
        have fr := fr.up e (by omega)
        have k1 := aupE e
        refine p_goto (i := 22) 0 rfl (by decide) ?_
        have hk := sk_yes (tx := tx) (a := a1) (by omega)
        exact ih (a1 + 1) M (by omega) ⟨h0, by omega, f, k1, k2, hf⟩ (hk.1.symm.trans e1) fr
  refine C_of okX7_skipBlanks (by decide) (Nat.le_of_ble_eq_true rfl) ?_
  show P none mX7_skipBlanks 0 [.ref 1] [] _ _
  exact loop (tx.length - a) a M (by have := hR.2.1; omega) hR rfl FrI.rf
theorem x_letterHere {M : AM} {tx : List Int} {a : Nat} {b : Int × Int} {Q : Option Value → AM → Prop} (hR : XR M tx a b) (h : ∀ M', XR M' tx (sk tx a) b → FrI 1 2 M M' → Q (some (zI (ch tx (sk tx a)))) M') : C mX7_letterHere [.ref 1] M Q := by
  obtain ⟨h0, h1, f, k1, k2, hf⟩ := id hR
  refine C_of okX7_letterHere (by decide) (Nat.le_of_ble_eq_true rfl) ?_
  show P none mX7_letterHere 0 [.ref 1] [] _ _
  refine p_aload_n (i := 0) rfl rfl ?_
  refine p_cV0 (i := 1) rfl ⟨lX7_33, rfl, rfl⟩ k1 ⟨_, rfl, rfl⟩ rfl (x_skipBlanks hR (fun M1 hR1 fr1 => ?_))
  obtain ⟨h0, h1, f, k1, k2, hf⟩ := id hR1
  refine p_aload_n (i := 2) rfl rfl ?_
  refine p_getf (i := 3) rfl fX7_19 k1 rfl ?_
  refine p_aload_n (i := 4) rfl rfl ?_
  refine p_getf (i := 5) rfl fX7_15 k1 rfl ?_
  refine p_icmp_ge (i := 6) 37 rfl (by decide) (by omega) (by omega) (fun c12 => ?_) (fun c12 => ?_)
  · refine p_iconst (i := 17) rfl ?_
    refine p_iret (i := 18) rfl rfl (rfl) ?_
    rw [ch_end (by omega)] at h
    exact h M1 hR1 fr1
  · refine p_aload_n (i := 7) rfl rfl ?_
    refine p_getf (i := 8) rfl fX7_19 k1 rfl ?_
    refine p_sipush (i := 9) rfl (by decide) ?_
    refine p_icmp_ge (i := 10) 37 rfl (by decide) (by omega) (by omega) (fun c22 => by exfalso; omega) (fun c22 => ?_)
    refine p_aload_n (i := 11) rfl rfl ?_
    refine p_getf (i := 12) rfl fX7_9 k1 rfl ?_
    refine p_aload_n (i := 13) rfl rfl ?_
    refine p_getf (i := 14) rfl fX7_19 k1 rfl ?_
    refine p_iaX (i := 15) (sk tx a) rfl k2 (by omega) (by omega) (by decide) ?_
    refine p_goto (i := 16) 38 rfl (by decide) ?_
    refine p_iret (i := 18) rfl rfl (rfl) ?_
    rw [(hf (sk tx a) (by omega)).1]
    exact h M1 hR1 fr1
theorem x_isFigure {M : AM} {c : Int} {Q : Option Value → AM → Prop} (hc : -2147483648 ≤ c ∧ c ≤ 2147483647) (h1 : dg c → Q (some (zI 1)) M) (h0 : ¬ dg c → Q (some (zI 0)) M) : C mX7_isFigure [.ref 1, zI c] M Q := by
  refine C_of okX7_isFigure (by decide) (Nat.le_of_ble_eq_true rfl) ?_
  show P none mX7_isFigure 0 [.ref 1, zI c] [] _ _
  refine p_iload_n (i := 0) rfl rfl ?_
  refine p_bipush (i := 1) rfl (by decide) ?_
  refine p_icmp_lt (i := 2) 16 rfl (by decide) (by omega) (by omega) (fun c3 => ?_) (fun c3 => ?_)
  · refine p_iconst (i := 8) rfl ?_
    refine p_iret (i := 9) rfl rfl (by decide) ?_
    exact h0 (fun z => by have := z.1; omega)
  · refine p_iload_n (i := 3) rfl rfl ?_
    refine p_bipush (i := 4) rfl (by decide) ?_
    refine p_icmp_gt (i := 5) 16 rfl (by decide) (by omega) (by omega) (fun c9 => ?_) (fun c9 => ?_)
    · refine p_iconst (i := 8) rfl ?_
      refine p_iret (i := 9) rfl rfl (by decide) ?_
      exact h0 (fun z => by have := z.2; omega)
    · refine p_iconst (i := 6) rfl ?_
      refine p_goto (i := 7) 17 rfl (by decide) ?_
      refine p_iret (i := 9) rfl rfl (by decide) ?_
      exact h1 ⟨by omega, by omega⟩
theorem x_blame {M : AM} {tx : List Int} {a : Nat} {b : Int × Int} {n w : Int} {Q : Option Value → AM → Prop} (hR : XR M tx a b) (hb : 0 ≤ b.1 ∧ b.1 ≤ 3) (h : ∀ M', XR M' tx a (blm b n w) → FrI 1 2 M M' → Q none M') : C mX7_blame [.ref 1, zI n, zI w] M Q := by
  unfold blm at h
  obtain ⟨h0, h1, f, k1, k2, hf⟩ := id hR
  have fr : FrI 1 2 M M := FrI.rf
  refine C_of okX7_blame (by decide) (Nat.le_of_ble_eq_true rfl) ?_
  show P none mX7_blame 0 [.ref 1, zI n, zI w] [] _ _
  refine p_aload_n (i := 0) rfl rfl ?_
  refine p_getf (i := 1) rfl fX7_22 k1 rfl ?_
  refine p_if_ne (i := 2) 17 rfl (by decide) (by omega) (fun c4 => ?_) (fun c4 => ?_)
  · rw [if_neg c4] at h
    refine p_ret (i := 9) rfl rfl ?_
    exact h M hR FrI.rf
  · rw [if_pos (by omega)] at h
    refine p_aload_n (i := 3) rfl rfl ?_
    refine p_iload_n (i := 4) rfl rfl ?_
    refine p_puti (i := 5) rfl gX7_22 k1 rfl (P_gen fun M e => ?_)
    have k2 := aupN e k2 (by omega)
    have fr := fr.up e (by omega)
    have k1 := aupE e
    refine p_aload_n (i := 6) rfl rfl ?_
    refine p_iload_n (i := 7) rfl rfl ?_
    refine p_puti (i := 8) rfl gX7_25 k1 rfl (P_gen fun M e => ?_)
    have k2 := aupN e k2 (by omega)
    have fr := fr.up e (by omega)
    have k1 := aupE e
    refine p_ret (i := 9) rfl rfl ?_
    exact h M ⟨h0, h1, f, k1, k2, hf⟩ fr
theorem blm_rng {b : Int × Int} {n w : Int} (hb : 0 ≤ b.1 ∧ b.1 ≤ 3) (hn : 0 ≤ n ∧ n ≤ 3) : 0 ≤ (blm b n w).1 ∧ (blm b n w).1 ≤ 3 := by
  unfold blm
  split
  · exact hn
  · exact hb
theorem x_accept {M : AM} {tx : List Int} {a : Nat} {b : Int × Int} {c room : Int} {Q : Option Value → AM → Prop} (hR : XR M tx a b) (hb : 0 ≤ b.1 ∧ b.1 ≤ 3) (hc : 0 ≤ c ∧ c ≤ 255) (hr : room = 0 ∨ room = 1) (h1 : ∀ M', XR M' tx (xAcc tx a c room b).1 (xAcc tx a c room b).2 → FrI 1 2 M M' → (xAcc tx a c room b).2.1 = 0 → Q (some (zI 1)) M') (h0 : ∀ M', XR M' tx (xAcc tx a c room b).1 (xAcc tx a c room b).2 → FrI 1 2 M M' → ¬ (xAcc tx a c room b).2.1 = 0 → Q (some (zI 0)) M') : C mX7_accept [.ref 1, zI c, zI room] M Q := by
  have tail : ∀ (M1 : AM) (a1 : Nat) (b1 : Int × Int), XR M1 tx a1 b1 → 0 ≤ b1.1 ∧ b1.1 ≤ 3 → (b1.1 = 0 → Q (some (zI 1)) M1) → (¬ b1.1 = 0 → Q (some (zI 0)) M1) → P none mX7_accept 46 [.ref 1, zI c, zI room] []  M1 Q := by
    intro M1 a1 b1 hR1 hb1 g1 g0
    obtain ⟨h0, h1, f, k1, k2, hf⟩ := id hR1
    refine p_aload_n (i := 24) rfl rfl ?_
    refine p_getf (i := 25) rfl fX7_22 k1 rfl ?_
    refine p_if_ne (i := 26) 57 rfl (by decide) (by omega) (fun c50 => ?_) (fun c50 => ?_)
    · refine p_iconst (i := 29) rfl ?_
      refine p_iret (i := 30) rfl rfl (by decide) ?_
      exact g0 c50
    · refine p_iconst (i := 27) rfl ?_
      refine p_goto (i := 28) 58 rfl (by decide) ?_
      refine p_iret (i := 30) rfl rfl (by decide) ?_
      exact g1 (by omega)
  unfold xAcc at h1 h0
  obtain ⟨i0, i1, f, k1, k2, hf⟩ := id hR
  refine C_of okX7_accept (by decide) (Nat.le_of_ble_eq_true rfl) ?_
  show P none mX7_accept 0 [.ref 1, zI c, zI room] [] _ _
  refine p_aload_n (i := 0) rfl rfl ?_
  refine p_cV0 (i := 1) rfl ⟨lX7_40, rfl, rfl⟩ k1 ⟨_, rfl, rfl⟩ rfl (x_letterHere hR (fun M1 hR1 fr1 => ?_))
  obtain ⟨i0, i1, f, k1, k2, hf⟩ := id hR1
  have hch : -1 ≤ ch tx (sk tx a) ∧ ch tx (sk tx a) ≤ 255 := by
    rcases Nat.lt_or_ge (sk tx a) tx.length with z | z
    · have := hf _ z; omega
    · rw [ch_end z]; omega
  refine p_iload_n (i := 2) rfl rfl ?_
  refine p_icmp_eq (i := 3) 20 rfl (by decide) (by omega) (by omega) (fun c5 => ?_) (fun c5 => ?_)
  · rw [if_neg (not_not_intro c5)] at h1 h0
    refine p_iload_n (i := 10) rfl rfl ?_
    refine p_if_ne (i := 11) 36 rfl (by decide) (by omega) (fun c21 => ?_) (fun c21 => ?_)
    · rw [if_neg (by omega)] at h1 h0
      have hlt : sk tx a < tx.length := by
        rcases Nat.lt_or_ge (sk tx a) tx.length with z | z
        · exact z
        · rw [ch_end z] at c5; omega
      have fr : FrI 1 2 M M1 := fr1
      refine p_aload_n (i := 18) rfl rfl ?_
      refine p_dup (i := 19) rfl rfl ?_
      refine p_getf (i := 20) rfl fX7_19 k1 rfl ?_
      refine p_iconst (i := 21) rfl ?_
      refine p_iadd (i := 22) rfl ?_
      refine p_puti (i := 23) rfl gX7_19 k1 rfl (P_gen fun M e => ?_)
      have k2 := aupN e k2 (by omega)
      have fr := fr.up e (by omega)
      have k1 := aupE e
      exact tail M (sk tx a + 1) b ⟨i0, by omega, f, k1, k2, hf⟩ hb (fun z => h1 M ⟨i0, by omega, f, k1, k2, hf⟩ fr z) (fun z => h0 M ⟨i0, by omega, f, k1, k2, hf⟩ fr z)
    · rw [if_pos (by omega)] at h1 h0
      refine p_aload_n (i := 12) rfl rfl ?_
      refine p_iconst (i := 13) rfl ?_
      refine p_aload_n (i := 14) rfl rfl ?_
      refine p_getf (i := 15) rfl fX7_19 k1 rfl ?_
      refine p_cV2 (i := 16) rfl ⟨lX7_66, rfl, rfl⟩ k1 ⟨_, rfl, rfl⟩ rfl (x_blame hR1 hb (fun M2 hR2 fr2 => ?_))
      refine p_goto (i := 17) 46 rfl (by decide) ?_
      exact tail M2 _ _ hR2 (blm_rng hb (by omega)) (fun z => h1 M2 hR2 (fr1.tr fr2) z) (fun z => h0 M2 hR2 (fr1.tr fr2) z)
  · rw [if_pos c5] at h1 h0
    refine p_aload_n (i := 4) rfl rfl ?_
    refine p_iconst (i := 5) rfl ?_
    refine p_aload_n (i := 6) rfl rfl ?_
    refine p_getf (i := 7) rfl fX7_19 k1 rfl ?_
    refine p_cV2 (i := 8) rfl ⟨lX7_66, rfl, rfl⟩ k1 ⟨_, rfl, rfl⟩ rfl (x_blame hR1 hb (fun M2 hR2 fr2 => ?_))
    refine p_goto (i := 9) 46 rfl (by decide) ?_
    exact tail M2 _ _ hR2 (blm_rng hb (by omega)) (fun z => h1 M2 hR2 (fr1.tr fr2) z) (fun z => h0 M2 hR2 (fr1.tr fr2) z)
