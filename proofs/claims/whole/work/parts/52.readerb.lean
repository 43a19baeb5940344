-- the class's Reader: a number; the Line that is being read
theorem x_readNumber {M : AM} {tx : List Int} {a : Nat} {b : Int × Int} {lo hi : Int} {Q : Option Value → AM → Prop} (hR : XR M tx a b) (hb : 0 ≤ b.1 ∧ b.1 ≤ 3) (hlo : -10 ≤ lo ∧ lo ≤ 100) (hhi : -10 ≤ hi ∧ hi ≤ 100) (h : ∀ M', XR M' tx (xNum tx a lo hi b).2.1 (xNum tx a lo hi b).2.2 → FrI 1 2 M M' → Q (some (zI (xNum tx a lo hi b).1)) M') : C mX7_readNumber [.ref 1, zI lo, zI hi] M Q := by
  unfold xNum at h
  obtain ⟨i0, i1, f, k1, k2, hf⟩ := id hR
  obtain ⟨s, es⟩ : ∃ s, s = sk tx a := ⟨_, rfl⟩
  rw [← es] at h
  have loop : ∀ (c a1 k : Nat) (v : Int) (M1 : AM), c = tx.length - a1 → a1 ≤ tx.length → a1 = s + k → dg (ch tx s) → ((k = 0 ∧ v = 0) ∨ (k = 1 ∧ 0 ≤ v ∧ v ≤ 9) ∨ (k = 2 ∧ 0 ≤ v ∧ v ≤ 99) ∨ (3 ≤ k ∧ 0 ≤ v ∧ v ≤ 999)) → nmL tx c a1 k v = nmL tx (tx.length - s) s 0 0 → XR M1 tx a1 b → FrI 1 2 M M1 → P none mX7_readNumber 30 [.ref 1, zI lo, zI hi, zI (s : Int), zI v] []  M1 Q := by
    have tail : ∀ (a1 k : Nat) (v : Int) (M1 : AM), a1 ≤ tx.length → a1 = s + k → dg (ch tx s) → 0 ≤ v ∧ v ≤ 999 → (a1, k, v) = nmL tx (tx.length - s) s 0 0 → XR M1 tx a1 b → FrI 1 2 M M1 → P none mX7_readNumber 110 [.ref 1, zI lo, zI hi, zI (s : Int), zI v] []  M1 Q := by
      intro a1 k v M1 h1 h2 h3 h4 h5 hR1 fr
      rw [← h5, if_neg (not_not_intro h3)] at h
      dsimp only at h
      obtain ⟨j0, j1, f, k1, k2, hf⟩ := id hR1
      refine p_aload_n (i := 59) rfl rfl ?_
      refine p_getf (i := 60) rfl fX7_19 k1 rfl ?_
      refine p_iload_n (i := 61) rfl rfl ?_
      refine p_isub (i := 62) rfl ?_
      refine p_iconst (i := 63) rfl ?_
      refine p_icmp_gt (i := 64) 132 rfl (by decide) (by omega) (by omega) (fun c117 => ?_) (fun c117 => ?_)
      · rw [if_pos (by omega)] at h
        refine p_aload_n (i := 71) rfl rfl ?_
        refine p_iconst (i := 72) rfl ?_
        refine p_iload_n (i := 73) rfl rfl ?_
        refine p_cV2 (i := 74) rfl ⟨lX7_66, rfl, rfl⟩ k1 ⟨_, rfl, rfl⟩ rfl (x_blame hR1 hb (fun M2 hR2 fr2 => ?_))
        refine p_iload (i := 75) rfl rfl ?_
        refine p_iret (i := 76) rfl rfl (rfl) ?_
        exact h M2 hR2 (fr.tr fr2)
      · refine p_iload (i := 65) rfl rfl ?_
        refine p_iload_n (i := 66) rfl rfl ?_
        refine p_icmp_lt (i := 67) 132 rfl (by decide) (by omega) (by omega) (fun c123 => ?_) (fun c123 => ?_)
        · rw [if_pos (by omega)] at h
          refine p_aload_n (i := 71) rfl rfl ?_
          refine p_iconst (i := 72) rfl ?_
          refine p_iload_n (i := 73) rfl rfl ?_
          refine p_cV2 (i := 74) rfl ⟨lX7_66, rfl, rfl⟩ k1 ⟨_, rfl, rfl⟩ rfl (x_blame hR1 hb (fun M2 hR2 fr2 => ?_))
          refine p_iload (i := 75) rfl rfl ?_
          refine p_iret (i := 76) rfl rfl (rfl) ?_
          exact h M2 hR2 (fr.tr fr2)
        · refine p_iload (i := 68) rfl rfl ?_
          refine p_iload_n (i := 69) rfl rfl ?_
          refine p_icmp_le (i := 70) 138 rfl (by decide) (by omega) (by omega) (fun c129 => ?_) (fun c129 => ?_)
          · rw [if_neg (by omega)] at h
            refine p_iload (i := 75) rfl rfl ?_
            refine p_iret (i := 76) rfl rfl (rfl) ?_
            exact h M1 hR1 fr
          · rw [if_pos (by omega)] at h
            refine p_aload_n (i := 71) rfl rfl ?_
            refine p_iconst (i := 72) rfl ?_
            refine p_iload_n (i := 73) rfl rfl ?_
            refine p_cV2 (i := 74) rfl ⟨lX7_66, rfl, rfl⟩ k1 ⟨_, rfl, rfl⟩ rfl (x_blame hR1 hb (fun M2 hR2 fr2 => ?_))
            refine p_iload (i := 75) rfl rfl ?_
            refine p_iret (i := 76) rfl rfl (rfl) ?_
            exact h M2 hR2 (fr.tr fr2)
    intro c
    induction c with
    | zero =>
      intro a1 k v M1 h1 h2 h3 h4 h5 h6 hR1 fr
      have h6 : (a1, k, v) = nmL tx (tx.length - s) s 0 0 := h6
      obtain ⟨j0, j1, f, k1, k2, hf⟩ := id hR1
      refine p_aload_n (i := 17) rfl rfl ?_
      refine p_getf (i := 18) rfl fX7_19 k1 rfl ?_
      refine p_aload_n (i := 19) rfl rfl ?_
      refine p_getf (i := 20) rfl fX7_15 k1 rfl ?_
      refine p_icmp_ge (i := 21) 110 rfl (by decide) (by omega) (by omega) (fun c38 => ?_) (fun c38 => by exfalso; omega)
      exact tail a1 k v M1 h2 h3 h4 (by omega) h6 hR1 fr
    | succ c ih =>
      intro a1 k v M1 h1 h2 h3 h4 h5 h6 hR1 fr
      have h6 : (if dg (ch tx a1) then nmL tx c (a1 + 1) (k + 1) (if k < 3 then v * 10 + ch tx a1 - 48 else v) else (a1, k, v)) = nmL tx (tx.length - s) s 0 0 := h6
      obtain ⟨j0, j1, f, k1, k2, hf⟩ := id hR1
      obtain ⟨f1, f2, f3⟩ := hf a1 (by omega)
      have fr0 := fr
      refine p_aload_n (i := 17) rfl rfl ?_
      refine p_getf (i := 18) rfl fX7_19 k1 rfl ?_
      refine p_aload_n (i := 19) rfl rfl ?_
      refine p_getf (i := 20) rfl fX7_15 k1 rfl ?_
      refine p_icmp_ge (i := 21) 110 rfl (by decide) (by omega) (by omega) (fun c38 => by exfalso; omega) (fun c38 => ?_)
      refine p_aload_n (i := 22) rfl rfl ?_
      refine p_getf (i := 23) rfl fX7_19 k1 rfl ?_
      refine p_sipush (i := 24) rfl (by decide) ?_
      refine p_icmp_ge (i := 25) 110 rfl (by decide) (by omega) (by omega) (fun c48 => by exfalso; omega) (fun c48 => ?_)
      refine p_aload_n (i := 26) rfl rfl ?_
      refine p_aload_n (i := 27) rfl rfl ?_
      refine p_getf (i := 28) rfl fX7_9 k1 rfl ?_
      refine p_aload_n (i := 29) rfl rfl ?_
      refine p_getf (i := 30) rfl fX7_19 k1 rfl ?_
      refine p_iaX (i := 31) (a1) rfl k2 (by omega) (by omega) (by decide) ?_
      rw [f1]
      refine p_cV1 (i := 32) rfl ⟨lX7_84, rfl, rfl⟩ k1 ⟨_, rfl, rfl⟩ rfl (x_isFigure (by omega) (fun z => ?_) (fun z => ?_))
      · rw [if_pos z] at h6
        have z1 := z.1
        have z2 := z.2
        refine p_if_eq (i := 33) 110 rfl (by decide) (by omega) (fun c64 => by exfalso; omega) (fun c64 => ?_)
        refine p_aload_n (i := 34) rfl rfl ?_
        refine p_getf (i := 35) rfl fX7_19 k1 rfl ?_
        refine p_iload_n (i := 36) rfl rfl ?_
        refine p_isub (i := 37) rfl ?_
        refine p_iconst (i := 38) rfl ?_
        refine p_icmp_ge (i := 39) 97 rfl (by decide) (by omega) (by omega) (fun c74 => ?_) (fun c74 => ?_)
        · rw [if_neg (by omega)] at h6
          refine p_aload_n (i := 52) rfl rfl ?_
          refine p_dup (i := 53) rfl rfl ?_
          refine p_getf (i := 54) rfl fX7_19 k1 rfl ?_
          refine p_iconst (i := 55) rfl ?_
          refine p_iadd (i := 56) rfl ?_
          refine p_puti (i := 57) rfl gX7_19 k1 rfl (P_gen fun M e => ?_)
          have k2 := aupN e k2 (by omega)
          have fr := fr.up e (by omega)
          have k1 := aupE e
          refine p_goto (i := 58) 30 rfl (by decide) ?_
          exact ih (a1 + 1) (k + 1) v M (by omega) (by omega) (by omega) h4 (by omega) h6 ⟨j0, by omega, f, k1, k2, hf⟩ fr
        · rw [if_pos (by omega)] at h6
          refine p_iload (i := 40) rfl rfl ?_
          refine p_bipush (i := 41) rfl (by decide) ?_
          refine p_imul (i := 42) rfl ?_
          refine p_aload_n (i := 43) rfl rfl ?_
          refine p_getf (i := 44) rfl fX7_9 k1 rfl ?_
          refine p_aload_n (i := 45) rfl rfl ?_
          refine p_getf (i := 46) rfl fX7_19 k1 rfl ?_
          refine p_iaX (i := 47) (a1) rfl k2 (by omega) (by omega) (by decide) ?_
          refine p_iadd (i := 48) rfl ?_
          refine p_bipush (i := 49) rfl (by decide) ?_
          refine p_isub (i := 50) rfl ?_
          refine p_istore (i := 51) rfl rfl ?_
          refine p_aload_n (i := 52) rfl rfl ?_
          refine p_dup (i := 53) rfl rfl ?_
          refine p_getf (i := 54) rfl fX7_19 k1 rfl ?_
          refine p_iconst (i := 55) rfl ?_
          refine p_iadd (i := 56) rfl ?_
          refine p_puti (i := 57) rfl gX7_19 k1 rfl (P_gen fun M e => ?_)
          have k2 := aupN e k2 (by omega)
          have fr := fr.up e (by omega)
          have k1 := aupE e
          refine p_goto (i := 58) 30 rfl (by decide) ?_
          rw [f1]
          exact ih (a1 + 1) (k + 1) _ M (by omega) (by omega) (by omega) h4 (by omega) h6 ⟨j0, by omega, f, k1, k2, hf⟩ fr
      · rw [if_neg z] at h6
        refine p_if_eq (i := 33) 110 rfl (by decide) (by omega) (fun c64 => ?_) (fun c64 => by exfalso; omega)
        exact tail a1 k v M1 h2 h3 h4 (by omega) h6 hR1 fr
  refine C_of okX7_readNumber (by decide) (Nat.le_of_ble_eq_true rfl) ?_
  show P none mX7_readNumber 0 [.ref 1, zI lo, zI hi, .retAddr 0, .retAddr 0] [] _ _
  refine p_aload_n (i := 0) rfl rfl ?_
  refine p_aload_n (i := 1) rfl rfl ?_
  refine p_cV0 (i := 2) rfl ⟨lX7_40, rfl, rfl⟩ k1 ⟨_, rfl, rfl⟩ rfl (x_letterHere hR (fun M1 hR1 fr1 => ?_))
  rw [← es] at hR1 ⊢
  obtain ⟨j0, j1, f, k1, k2, hf⟩ := id hR1
  have hch : -1 ≤ ch tx s ∧ ch tx s ≤ 255 := by
    rcases Nat.lt_or_ge s tx.length with z | z
    · have := hf _ z; omega
    · rw [ch_end z]; omega
  refine p_cV1 (i := 3) rfl ⟨lX7_84, rfl, rfl⟩ k1 ⟨_, rfl, rfl⟩ rfl (x_isFigure (by omega) (fun z => ?_) (fun z => ?_))
  · refine p_if_ne (i := 4) 22 rfl (by decide) (by omega) (fun c8 => ?_) (fun c8 => by exfalso; omega)
    refine p_aload_n (i := 12) rfl rfl ?_
    refine p_getf (i := 13) rfl fX7_19 k1 rfl ?_
    refine p_istore_n (i := 14) rfl rfl ?_
    refine p_iconst (i := 15) rfl ?_
    refine p_istore (i := 16) rfl rfl ?_
    exact loop (tx.length - s) s 0 0 M1 rfl j1 (by omega) z (Or.inl ⟨rfl, rfl⟩) rfl hR1 fr1
  · rw [if_pos z] at h
    refine p_if_ne (i := 4) 22 rfl (by decide) (by omega) (fun c8 => by exfalso; omega) (fun c8 => ?_)
    refine p_aload_n (i := 5) rfl rfl ?_
    refine p_iconst (i := 6) rfl ?_
    refine p_aload_n (i := 7) rfl rfl ?_
    refine p_getf (i := 8) rfl fX7_19 k1 rfl ?_
    refine p_cV2 (i := 9) rfl ⟨lX7_66, rfl, rfl⟩ k1 ⟨_, rfl, rfl⟩ rfl (x_blame hR1 hb (fun M2 hR2 fr2 => ?_))
    refine p_iconst (i := 10) rfl ?_
    refine p_iret (i := 11) rfl rfl (rfl) ?_
    exact h M2 hR2 (fr1.tr fr2)
/-- a line that is being read -/
def LineB (M : AM) (b : Nat) (ln : LN) : Prop := nS ln ≤ 8 ∧ nW ln ≤ 6 ∧ (∀ w, w < nW ln → lkN ln w ≤ 6) ∧ ∃ (kf bf lc : Nat → Int) (lkf : Nat → Nat → Int), LineAt M b kf bf lc lkf ln.1 (nS ln : Nat) (nW ln : Nat) ∧ (∀ x, x < nS ln → kf x = kd ln x ∧ bf x = br ln x) ∧ ∀ w, w < nW ln → lc w = lkN ln w ∧ ∀ j, j < lkN ln w → lkf w j = lk ln w j
theorem LineB.fi {M M' : AM} {b a n : Nat} {ln : LN} (h : LineB M b ln) (hf : FrI a n M M') (hd : b + 11 ≤ a ∨ a + n ≤ b) : LineB M' b ln := by
  obtain ⟨h1, h2, h3, kf, bf, lc, lkf, h4, h5⟩ := h
  exact ⟨h1, h2, h3, kf, bf, lc, lkf, h4.fi hf hd, h5⟩
theorem LineB.a {M : AM} {b : Nat} {ln : LN} (h : LineB M b ln) (ho : LnOk ln) : LineA M b ln := by
  obtain ⟨h1, h2, h3, h4⟩ := h
  exact ⟨ho, h4⟩
theorem LineB.r {M : AM} {b : Nat} {ln : LN} (h : LineB M b ln) : LineR M b := by
  obtain ⟨h1, h2, h3, kf, bf, lc, lkf, h4, h5⟩ := h
  exact ⟨kf, bf, lc, lkf, _, _, _, h4⟩
theorem x_forget {M : AM} {b : Nat} {Q : Option Value → AM → Prop} (hL : LineR M b) (h : ∀ M', LineB M' b (0, [], []) → FrI b 11 M M' → Q none M') : C mX3_forget [.ref b] M Q := by
  obtain ⟨kf, bf, lc, lkf, c, s, w, ⟨hb, hk, hr, hc, ⟨gg, hg, hgi⟩, hrow⟩⟩ := id hL
  have fr : FrI b 11 M M := FrI.rf
  have fr1 : FrI b 1 M M := FrI.rf
  refine C_of okX3_forget (by decide) (Nat.le_of_ble_eq_true rfl) ?_
  show P none mX3_forget 0 [.ref b] [] _ _
  refine p_aload_n (i := 0) rfl rfl ?_
  refine p_iconst (i := 1) rfl ?_
  refine p_puti (i := 2) rfl gX3_26 hb rfl (P_gen fun M e => ?_)
  have hk := aupN e hk (by omega)
  have hr := aupN e hr (by omega)
  have hc := aupN e hc (by omega)
  have hg := aupN e hg (by omega)
  have fr := fr.up e (by omega)
  have fr1 := fr1.up e (by omega)
  have hb := aupE e
  refine p_aload_n (i := 3) rfl rfl ?_
  refine p_iconst (i := 4) rfl ?_
  refine p_puti (i := 5) rfl gX3_30 hb rfl (P_gen fun M e => ?_)
  have hk := aupN e hk (by omega)
  have hr := aupN e hr (by omega)
  have hc := aupN e hc (by omega)
  have hg := aupN e hg (by omega)
  have fr := fr.up e (by omega)
  have fr1 := fr1.up e (by omega)
  have hb := aupE e
  refine p_aload_n (i := 6) rfl rfl ?_
  refine p_iconst (i := 7) rfl ?_
  refine p_puti (i := 8) rfl gX3_33 hb rfl (P_gen fun M e => ?_)
  have hk := aupN e hk (by omega)
  have hr := aupN e hr (by omega)
  have hc := aupN e hc (by omega)
  have hg := aupN e hg (by omega)
  have fr := fr.up e (by omega)
  have fr1 := fr1.up e (by omega)
  have hb := aupE e
  refine p_ret (i := 9) rfl rfl ?_
  refine h M ⟨by decide, by decide, fun w hw => absurd hw (Nat.not_lt_zero w), kf, bf, lc, lkf, ⟨hb, hk, hr, hc, ⟨gg, hg, hgi⟩, fun i hi => fr1.at (hrow i hi) (by omega)⟩, fun x hx => absurd hx (Nat.not_lt_zero x), fun w hw => absurd hw (Nat.not_lt_zero w)⟩ fr
theorem x_addScene {M : AM} {b : Nat} {ln : LN} {k v : Int} {Q : Option Value → AM → Prop} (hL : LineB M b ln) (h8 : nS ln < 8) (h : ∀ M', LineB M' b (ln.1, ln.2.1 ++ [(k, v)], ln.2.2) → FrI b 11 M M' → Q none M') : C mX3_addScene [.ref b, zI k, zI v] M Q := by
  obtain ⟨o1, o2, o3, kf, bf, lc, lkf, ⟨hb, hk, hr, hc, ⟨gg, hg, hgi⟩, hrow⟩, hkb, hlk⟩ := id hL
  have fr : FrI b 11 M M := FrI.rf
  have fr1 : FrI b 5 M M := FrI.rf
  refine C_of okX3_addScene (by decide) (Nat.le_of_ble_eq_true rfl) ?_
  show P none mX3_addScene 0 [.ref b, zI k, zI v] [] _ _
  refine p_aload_n (i := 0) rfl rfl ?_
  refine p_getf (i := 1) rfl fX3_30 hb rfl ?_
  refine p_bipush (i := 2) rfl (by decide) ?_
  refine p_icmp_ge (i := 3) 39 rfl (by decide) (by omega) (by omega) (fun c6 => by exfalso; omega) (fun c6 => ?_)
  refine p_aload_n (i := 4) rfl rfl ?_
  refine p_getf (i := 5) rfl fX3_9 hb rfl ?_
  refine p_aload_n (i := 6) rfl rfl ?_
  refine p_getf (i := 7) rfl fX3_30 hb rfl ?_
  refine p_iload_n (i := 8) rfl rfl ?_
  refine p_isX (i := 9) (nS ln) rfl hk (by omega) (by omega) (by decide) (P_gen fun M e => ?_)
  have hb := aupN e hb (by omega)
  have hr := aupN e hr (by omega)
  have hc := aupN e hc (by omega)
  have hg := aupN e hg (by omega)
  have fr := fr.up e (by omega)
  have fr1 := fr1.up e (by omega)
  have hk := aupE e
  refine p_aload_n (i := 10) rfl rfl ?_
  refine p_getf (i := 11) rfl fX3_15 hb rfl ?_
  refine p_aload_n (i := 12) rfl rfl ?_
  refine p_getf (i := 13) rfl fX3_30 hb rfl ?_
  refine p_iload_n (i := 14) rfl rfl ?_
  refine p_isX (i := 15) (nS ln) rfl hr (by omega) (by omega) (by decide) (P_gen fun M e => ?_)
  have hb := aupN e hb (by omega)
  have hk := aupN e hk (by omega)
  have hc := aupN e hc (by omega)
  have hg := aupN e hg (by omega)
  have fr := fr.up e (by omega)
  have fr1 := fr1.up e (by omega)
  have hr := aupE e
  refine p_aload_n (i := 16) rfl rfl ?_
  refine p_dup (i := 17) rfl rfl ?_
  refine p_getf (i := 18) rfl fX3_30 hb rfl ?_
  refine p_iconst (i := 19) rfl ?_
  refine p_iadd (i := 20) rfl ?_
  refine p_puti (i := 21) rfl gX3_30 hb rfl (P_gen fun M e => ?_)
  have hk := aupN e hk (by omega)
  have hr := aupN e hr (by omega)
  have hc := aupN e hc (by omega)
  have hg := aupN e hg (by omega)
  have fr := fr.up e (by omega)
  have fr1 := fr1.up e (by omega)
  have hb := aupE e
  refine p_ret (i := 22) rfl rfl ?_
  have eT : ((nS ln : Nat) : Int) + 1 = ((nS (ln.1, ln.2.1 ++ [(k, v)], ln.2.2) : Nat) : Int) := by unfold nS; simp
  have eT2 : nS (ln.1, ln.2.1 ++ [(k, v)], ln.2.2) = nS ln + 1 := by unfold nS; simp
  rw [eT] at hb
  refine h M ⟨by omega, o2, o3, _, _, lc, lkf, ⟨hb, hk, hr, hc, ⟨gg, hg, hgi⟩, fun i hi => fr1.at (hrow i hi) (by omega)⟩, fun x hx => ?_, hlk⟩ fr
  rw [eT2] at hx
  unfold kd br
  have hx2 : x < ln.2.1.length + 1 := hx
  rw [gd_app hx2]
  by_cases c : x = ln.2.1.length
  · rw [if_pos c]
    have c : x = nS ln := c
    rw [c, zup_e, zup_e]
    exact ⟨rfl, rfl⟩
  · rw [if_neg c]
    have c : ¬ x = nS ln := c
    rw [zup_n c, zup_n c]
    exact hkb x (by omega)
theorem x_addWearer {M : AM} {b : Nat} {ln : LN} {Q : Option Value → AM → Prop} (hL : LineB M b ln) (h6 : nW ln < 6) (h : ∀ M', LineB M' b (ln.1, ln.2.1, ln.2.2 ++ [[]]) → FrI b 11 M M' → Q none M') : C mX3_addWearer [.ref b] M Q := by
  obtain ⟨o1, o2, o3, kf, bf, lc, lkf, ⟨hb, hk, hr, hc, ⟨gg, hg, hgi⟩, hrow⟩, hkb, hlk⟩ := id hL
  have fr : FrI b 11 M M := FrI.rf
  have fr1 : FrI b 5 M M := FrI.rf
  refine C_of okX3_addWearer (by decide) (Nat.le_of_ble_eq_true rfl) ?_
  show P none mX3_addWearer 0 [.ref b] [] _ _
  refine p_aload_n (i := 0) rfl rfl ?_
  refine p_getf (i := 1) rfl fX3_33 hb rfl ?_
  refine p_bipush (i := 2) rfl (by decide) ?_
  refine p_icmp_ge (i := 3) 29 rfl (by decide) (by omega) (by omega) (fun c6 => by exfalso; omega) (fun c6 => ?_)
  refine p_aload_n (i := 4) rfl rfl ?_
  refine p_getf (i := 5) rfl fX3_18 hb rfl ?_
  refine p_aload_n (i := 6) rfl rfl ?_
  refine p_getf (i := 7) rfl fX3_33 hb rfl ?_
  refine p_iconst (i := 8) rfl ?_
  refine p_isX (i := 9) (nW ln) rfl hc (by omega) (by omega) (by decide) (P_gen fun M e => ?_)
  have hb := aupN e hb (by omega)
  have hk := aupN e hk (by omega)
  have hr := aupN e hr (by omega)
  have hg := aupN e hg (by omega)
  have fr := fr.up e (by omega)
  have fr1 := fr1.up e (by omega)
  have hc := aupE e
  refine p_aload_n (i := 10) rfl rfl ?_
  refine p_dup (i := 11) rfl rfl ?_
  refine p_getf (i := 12) rfl fX3_33 hb rfl ?_
  refine p_iconst (i := 13) rfl ?_
  refine p_iadd (i := 14) rfl ?_
  refine p_puti (i := 15) rfl gX3_33 hb rfl (P_gen fun M e => ?_)
  have hk := aupN e hk (by omega)
  have hr := aupN e hr (by omega)
  have hc := aupN e hc (by omega)
  have hg := aupN e hg (by omega)
  have fr := fr.up e (by omega)
  have fr1 := fr1.up e (by omega)
  have hb := aupE e
  refine p_ret (i := 16) rfl rfl ?_
  have eT2 : nW (ln.1, ln.2.1, ln.2.2 ++ [[]]) = nW ln + 1 := by unfold nW; simp
  have eT : ((nW ln : Nat) : Int) + 1 = ((nW (ln.1, ln.2.1, ln.2.2 ++ [[]]) : Nat) : Int) := by omega
  rw [eT] at hb
  have hat : ∀ w, w < nW ln + 1 → (ln.2.2 ++ [[]]).getD w [] = if w = nW ln then [] else ln.2.2.getD w [] := fun w hw => gd_app hw
  refine h M ⟨o1, by omega, fun w hw => ?_, kf, bf, _, lkf, ⟨hb, hk, hr, hc, ⟨gg, hg, hgi⟩, fun i hi => fr1.at (hrow i hi) (by omega)⟩, hkb, fun w hw => ?_⟩ fr
  · rw [eT2] at hw
    show ((ln.2.2 ++ [[]]).getD w []).length ≤ 6
    rw [hat w hw]
    by_cases c : w = nW ln
    · rw [if_pos c]; decide
    · rw [if_neg c]; exact o3 w (by omega)
  · rw [eT2] at hw
    show zup lc (nW ln) 0 w = (((ln.2.2 ++ [[]]).getD w []).length : Nat) ∧ ∀ j, j < ((ln.2.2 ++ [[]]).getD w []).length → lkf w j = ((ln.2.2 ++ [[]]).getD w []).getD j 0
    rw [hat w hw]
    by_cases c : w = nW ln
    · rw [if_pos c, c, zup_e]
      exact ⟨rfl, fun j hj => absurd hj (Nat.not_lt_zero j)⟩
    · rw [if_neg c, zup_n c]
      exact hlk w (by omega)
