-- the reference: letters and numbers
abbrev YF : Type := Int × Int × Int × Int × Int × Int
def YS (M : AM) (w : YF) (at0 bg sg fg vl wr : Int) : Prop := M 276 = some (zO 10 [.ref 277, .ref 278, .ref 279, .ref 280, .ref 281, zI w.1, .ref 282, .ref 283, zJ w.2.1, .ref 284, zI w.2.2.1, zI w.2.2.2.1, .ref 285, zI w.2.2.2.2.1, .ref 286, zI w.2.2.2.2.2, zI at0, zI bg, zI sg, zI fg, zI vl, zI wr, .ref 287])
def YT (M : AM) (tx : List Int) : Prop := tx.length ≤ 240 ∧ ∃ f, M 284 = some (zA 240 f) ∧ ∀ i, i < tx.length → f i = ch tx i ∧ 0 ≤ ch tx i ∧ ch tx i ≤ 255
theorem YT.fi {M M' : AM} {tx : List Int} {a n : Nat} (h : YT M tx) (hf : FrI a n M M') (hd : 285 ≤ a ∨ a + n ≤ 284) : YT M' tx := by
  obtain ⟨h0, f, h1, h2⟩ := h
  exact ⟨h0, f, hf.at h1 (by omega), h2⟩
theorem YT.c {M : AM} {tx : List Int} (h : YT M tx) (a : Nat) : -1 ≤ ch tx a ∧ ch tx a ≤ 255 := by
  obtain ⟨h0, f, h1, h2⟩ := h
  rcases Nat.lt_or_ge a tx.length with z | z
  · have := h2 a z; omega
  · rw [ch_end z]; omega
theorem y_here {M : AM} {tx : List Int} {w : YF} {a : Nat} {bg sg fg vl wr : Int} {Q : Option Value → AM → Prop} (kY : YS M w (a : Int) bg sg fg vl wr) (hw : w.2.2.1 = (tx.length : Nat)) (hT : YT M tx) (ha : a ≤ tx.length) (h : Q (some (zI (ch tx a))) M) : C mX10_here [.ref 276] M Q := by
  unfold YS at kY
  obtain ⟨v0, tf, kX, v1⟩ := id hT
  refine C_of okX10_here (by decide) (Nat.le_of_ble_eq_true rfl) ?_
  show P none mX10_here 0 [.ref 276] [] _ _
  refine p_aload_n (i := 0) rfl rfl ?_
  refine p_getf (i := 1) rfl fX10_68 kY rfl ?_
  refine p_aload_n (i := 2) rfl rfl ?_
  refine p_getf (i := 3) rfl fX10_64 kY rfl ?_
  refine p_icmp_ge (i := 4) 23 rfl (by decide) (by omega) (by omega) (fun c8 => ?_) (fun c8 => ?_)
  · rw [ch_end (by omega)] at h
    refine p_iconst (i := 11) rfl ?_
    refine p_iret (i := 12) rfl rfl (rfl) ?_
    exact h
  · refine p_aload_n (i := 5) rfl rfl ?_
    refine p_getf (i := 6) rfl fX10_32 kY rfl ?_
    refine p_aload_n (i := 7) rfl rfl ?_
    refine p_getf (i := 8) rfl fX10_68 kY rfl ?_
    refine p_iaX (i := 9) (a) rfl kX (by omega) (by omega) (by decide) ?_
    refine p_goto (i := 10) 24 rfl (by decide) ?_
    refine p_iret (i := 12) rfl rfl (rfl) ?_
    rw [(v1 a (by omega)).1]
    exact h
theorem y_step {M : AM} {tx : List Int} {w : YF} {a : Nat} {bg sg fg vl wr : Int} {Q : Option Value → AM → Prop} (hS : YS M w (a : Int) bg sg fg vl wr) (hw : w.2.2.1 = (tx.length : Nat)) (hT : YT M tx) (ha : a ≤ tx.length) (h1 : ∀ M', dg (ch tx (sk tx a)) → YS M' w ((nmL tx (tx.length - sk tx a) (sk tx a) 0 0).1 : Nat) (sk tx a : Nat) 48 ((nmL tx (tx.length - sk tx a) (sk tx a) 0 0).2.1 : Nat) (nmL tx (tx.length - sk tx a) (sk tx a) 0 0).2.2 wr → FrI 276 1 M M' → Q none M') (h0 : ∀ M', ¬ dg (ch tx (sk tx a)) → YS M' w ((if ch tx (sk tx a) < 0 then sk tx a else sk tx a + 1 : Nat) : Int) (sk tx a : Nat) (ch tx (sk tx a)) 0 0 wr → FrI 276 1 M M' → Q none M') : C mX10_step [.ref 276] M Q := by
  have hv0 := hT.1
  obtain ⟨s, es⟩ : ∃ s, s = sk tx a := ⟨_, rfl⟩
  have hs := (sk_rng tx a).2.1 ha
  rw [← es] at h1 h0 hs
  have dl : ∀ (c a1 k : Nat) (v : Int) (M1 : AM), c = tx.length - a1 → a1 ≤ tx.length → a1 = s + k → dg (ch tx s) → nmL tx c a1 k v = nmL tx (tx.length - s) s 0 0 → YS M1 w (a1 : Int) (s : Nat) 48 (k : Int) v wr → FrI 276 1 M M1 → P none mX10_step 93 [.ref 276] []  M1 Q := by
    intro c
    induction c with
    | zero =>
      intro a1 k v M1 e1 e2 e3 e4 e5 kY fr
      have e5 : (a1, k, v) = nmL tx (tx.length - s) s 0 0 := e5
      have hT1 := hT.fi fr (by omega)
      have hc := hT1.c a1
      have kY0 := kY
      unfold YS at kY
      refine p_aload_n (i := 47) rfl rfl ?_
      refine p_cV0 (i := 48) rfl ⟨lX10_71, rfl, rfl⟩ kY ⟨_, rfl, rfl⟩ rfl (y_here kY0 hw hT1 e2 ?_)
      refine p_i2l (i := 49) rfl (by omega) ?_
      refine p_ldc2 (i := 50) rfl kX10_87 ?_
      refine p_ldc2 (i := 51) rfl kX10_89 ?_
      refine p_cS3 (i := 52) rfl ⟨lX10_59, rfl, rfl⟩ rfl (y_in (by omega) (by omega) (by omega) (fun z => ?_) (fun z => ?_))
      · rw [ch_end (by omega)] at z
        omega
      · refine p_if_eq (i := 53) 167 rfl (by decide) (by omega) (fun c107 => ?_) (fun c107 => by exfalso; omega)
        refine p_ret (i := 85) rfl rfl ?_
        rw [← e5] at h1
        exact h1 M1 e4 kY0 fr
    | succ c ih =>
      intro a1 k v M1 e1 e2 e3 e4 e5 kY fr
      have e5 : (if dg (ch tx a1) then nmL tx c (a1 + 1) (k + 1) (if k < 3 then v * 10 + ch tx a1 - 48 else v) else (a1, k, v)) = nmL tx (tx.length - s) s 0 0 := e5
      have hT1 := hT.fi fr (by omega)
      have hc := hT1.c a1
      have kY0 := kY
      have fr0 := fr
      unfold YS at kY
      refine p_aload_n (i := 47) rfl rfl ?_
      refine p_cV0 (i := 48) rfl ⟨lX10_71, rfl, rfl⟩ kY ⟨_, rfl, rfl⟩ rfl (y_here kY0 hw hT1 e2 ?_)
      refine p_i2l (i := 49) rfl (by omega) ?_
      refine p_ldc2 (i := 50) rfl kX10_87 ?_
      refine p_ldc2 (i := 51) rfl kX10_89 ?_
      refine p_cS3 (i := 52) rfl ⟨lX10_59, rfl, rfl⟩ rfl (y_in (by omega) (by omega) (by omega) (fun z => ?_) (fun z => ?_))
      · rw [if_pos z] at e5
        refine p_if_eq (i := 53) 167 rfl (by decide) (by omega) (fun c107 => by exfalso; omega) (fun c107 => ?_)
        refine p_aload_n (i := 54) rfl rfl ?_
        refine p_aload_n (i := 55) rfl rfl ?_
        refine p_getf (i := 56) rfl fX10_81 kY rfl ?_
        refine p_iconst (i := 57) rfl ?_
        refine p_icmp_ge (i := 58) 137 rfl (by decide) (by omega) (by omega) (fun c116 => ?_) (fun c116 => ?_)
        · rw [if_neg (by omega)] at e5
          refine p_aload_n (i := 69) rfl rfl ?_
          refine p_getf (i := 70) rfl fX10_84 kY rfl ?_
          refine p_puti (i := 71) rfl gX10_84 kY rfl (P_gen fun M e => ?_)
          have fr := fr.up e (by omega)
          have kY := aupE e
          refine p_aload_n (i := 72) rfl rfl ?_
          refine p_dup (i := 73) rfl rfl ?_
          refine p_getf (i := 74) rfl fX10_81 kY rfl ?_
          refine p_iconst (i := 75) rfl ?_
          refine p_iadd (i := 76) rfl ?_
          refine p_puti (i := 77) rfl gX10_81 kY rfl (P_gen fun M e => ?_)
          have fr := fr.up e (by omega)
          have kY := aupE e
          refine p_aload_n (i := 78) rfl rfl ?_
          refine p_dup (i := 79) rfl rfl ?_
          refine p_getf (i := 80) rfl fX10_68 kY rfl ?_
          refine p_iconst (i := 81) rfl ?_
          refine p_iadd (i := 82) rfl ?_
          refine p_puti (i := 83) rfl gX10_68 kY rfl (P_gen fun M e => ?_)
          have fr := fr.up e (by omega)
          have kY := aupE e
          refine p_goto (i := 84) 93 rfl (by decide) ?_
          exact ih (a1 + 1) (k + 1) v M (by omega) (by omega) (by omega) e4 e5 kY fr
        · rw [if_pos (by omega)] at e5
          refine p_bipush (i := 59) rfl (by decide) ?_
          refine p_aload_n (i := 60) rfl rfl ?_
          refine p_getf (i := 61) rfl fX10_84 kY rfl ?_
          refine p_imul (i := 62) rfl ?_
          refine p_aload_n (i := 63) rfl rfl ?_
          refine p_cV0 (i := 64) rfl ⟨lX10_71, rfl, rfl⟩ kY ⟨_, rfl, rfl⟩ rfl (y_here kY0 hw hT1 e2 ?_)
          rw [show (10 : Int) * v = v * 10 by omega]
          refine p_iadd (i := 65) rfl ?_
          refine p_bipush (i := 66) rfl (by decide) ?_
          refine p_isub (i := 67) rfl ?_
          refine p_goto (i := 68) 141 rfl (by decide) ?_
          refine p_puti (i := 71) rfl gX10_84 kY rfl (P_gen fun M e => ?_)
          have fr := fr.up e (by omega)
          have kY := aupE e
          refine p_aload_n (i := 72) rfl rfl ?_
          refine p_dup (i := 73) rfl rfl ?_
          refine p_getf (i := 74) rfl fX10_81 kY rfl ?_
          refine p_iconst (i := 75) rfl ?_
          refine p_iadd (i := 76) rfl ?_
          refine p_puti (i := 77) rfl gX10_81 kY rfl (P_gen fun M e => ?_)
          have fr := fr.up e (by omega)
          have kY := aupE e
          refine p_aload_n (i := 78) rfl rfl ?_
          refine p_dup (i := 79) rfl rfl ?_
          refine p_getf (i := 80) rfl fX10_68 kY rfl ?_
          refine p_iconst (i := 81) rfl ?_
          refine p_iadd (i := 82) rfl ?_
          refine p_puti (i := 83) rfl gX10_68 kY rfl (P_gen fun M e => ?_)
          have fr := fr.up e (by omega)
          have kY := aupE e
          refine p_goto (i := 84) 93 rfl (by decide) ?_
          exact ih (a1 + 1) (k + 1) _ M (by omega) (by omega) (by omega) e4 e5 kY fr
      · rw [if_neg z] at e5
        refine p_if_eq (i := 53) 167 rfl (by decide) (by omega) (fun c107 => ?_) (fun c107 => by exfalso; omega)
        refine p_ret (i := 85) rfl rfl ?_
        rw [← e5] at h1
        exact h1 M1 e4 kY0 fr0
  have sl : ∀ (c a1 : Nat) (M1 : AM), c = tx.length - a1 → a1 ≤ tx.length → sk tx a1 = s → YS M1 w (a1 : Int) bg sg fg vl wr → FrI 276 1 M M1 → P none mX10_step 0 [.ref 276] []  M1 Q := by
    have done : ∀ (M1 : AM), YS M1 w (s : Nat) bg sg fg vl wr → FrI 276 1 M M1 → P none mX10_step 22 [.ref 276] []  M1 Q := by
      intro M1 kY fr
      have hT1 := hT.fi fr (by omega)
      have hc := hT1.c s
      have kY0 := kY
      unfold YS at kY
      refine p_aload_n (i := 11) rfl rfl ?_
      refine p_aload_n (i := 12) rfl rfl ?_
      refine p_getf (i := 13) rfl fX10_68 kY rfl ?_
      refine p_puti (i := 14) rfl gX10_75 kY rfl (P_gen fun M e => ?_)
      have fr := fr.up e (by omega)
      have kY := aupE e
      refine p_aload_n (i := 15) rfl rfl ?_
      refine p_aload_n (i := 16) rfl rfl ?_
      have kY1 : YS M w (s : Nat) (s : Nat) sg fg vl wr := kY
      refine p_cV0 (i := 17) rfl ⟨lX10_71, rfl, rfl⟩ kY ⟨_, rfl, rfl⟩ rfl (y_here kY1 hw (hT.fi fr (by omega)) hs ?_)
      refine p_puti (i := 18) rfl gX10_78 kY rfl (P_gen fun M e => ?_)
      have fr := fr.up e (by omega)
      have kY := aupE e
      refine p_aload_n (i := 19) rfl rfl ?_
      refine p_iconst (i := 20) rfl ?_
      refine p_puti (i := 21) rfl gX10_81 kY rfl (P_gen fun M e => ?_)
      have fr := fr.up e (by omega)
      have kY := aupE e
      refine p_aload_n (i := 22) rfl rfl ?_
      refine p_iconst (i := 23) rfl ?_
      refine p_puti (i := 24) rfl gX10_84 kY rfl (P_gen fun M e => ?_)
      have fr := fr.up e (by omega)
      have kY := aupE e
      refine p_aload_n (i := 25) rfl rfl ?_
      refine p_getf (i := 26) rfl fX10_78 kY rfl ?_
      refine p_i2l (i := 27) rfl (by omega) ?_
      refine p_ldc2 (i := 28) rfl kX10_87 ?_
      refine p_ldc2 (i := 29) rfl kX10_89 ?_
      refine p_cS3 (i := 30) rfl ⟨lX10_59, rfl, rfl⟩ rfl (y_in (by omega) (by omega) (by omega) (fun z => ?_) (fun z => ?_))
      · refine p_if_ne (i := 31) 87 rfl (by decide) (by omega) (fun c62 => ?_) (fun c62 => by exfalso; omega)
        refine p_aload_n (i := 44) rfl rfl ?_
        refine p_bipush (i := 45) rfl (by decide) ?_
        refine p_puti (i := 46) rfl gX10_78 kY rfl (P_gen fun M e => ?_)
        have fr := fr.up e (by omega)
        have kY := aupE e
        exact dl (tx.length - s) s 0 0 M rfl hs (by omega) z rfl kY fr
      · refine p_if_ne (i := 31) 87 rfl (by decide) (by omega) (fun c62 => by exfalso; omega) (fun c62 => ?_)
        refine p_aload_n (i := 32) rfl rfl ?_
        refine p_dup (i := 33) rfl rfl ?_
        refine p_getf (i := 34) rfl fX10_68 kY rfl ?_
        refine p_aload_n (i := 35) rfl rfl ?_
        refine p_getf (i := 36) rfl fX10_78 kY rfl ?_
        refine p_if_ge (i := 37) 81 rfl (by decide) (by omega) (fun c74 => ?_) (fun c74 => ?_)
        · refine p_iconst (i := 40) rfl ?_
          refine p_iadd (i := 41) rfl ?_
          refine p_puti (i := 42) rfl gX10_68 kY rfl (P_gen fun M e => ?_)
          have fr := fr.up e (by omega)
          have kY := aupE e
          refine p_ret (i := 43) rfl rfl ?_
          rw [if_neg (by omega)] at h0
          exact h0 M z kY fr
        · refine p_iconst (i := 38) rfl ?_
          refine p_goto (i := 39) 82 rfl (by decide) ?_
          refine p_iadd (i := 41) rfl ?_
          refine p_puti (i := 42) rfl gX10_68 kY rfl (P_gen fun M e => ?_)
          have fr := fr.up e (by omega)
          have kY := aupE e
          refine p_ret (i := 43) rfl rfl ?_
          rw [if_pos (by omega)] at h0
          rw [show ((s : Nat) : Int) + 0 = ((s : Nat) : Int) by omega] at kY
          exact h0 M z kY fr
    intro c
    induction c with
    | zero =>
      intro a1 M1 e1 e2 e3 kY fr
      have hT1 := hT.fi fr (by omega)
      have hc := hT1.c a1
      have hce := ch_end (tx := tx) (a := a1) (by omega)
      rw [sk_no (by omega)] at e3
      have kY0 := kY
      unfold YS at kY
      refine p_aload_n (i := 0) rfl rfl ?_
      refine p_cV0 (i := 1) rfl ⟨lX10_71, rfl, rfl⟩ kY ⟨_, rfl, rfl⟩ rfl (y_here kY0 hw hT1 e2 ?_)
      refine p_bipush (i := 2) rfl (by decide) ?_
      refine p_icmp_ne (i := 3) 22 rfl (by decide) (by omega) (by omega) (fun c6 => ?_) (fun c6 => by exfalso; omega)
      exact done M1 (e3 ▸ kY0) fr
    | succ c ih =>
      intro a1 M1 e1 e2 e3 kY fr
      have hT1 := hT.fi fr (by omega)
      have hc := hT1.c a1
      have kY0 := kY
      have fr0 := fr
      unfold YS at kY
      refine p_aload_n (i := 0) rfl rfl ?_
      refine p_cV0 (i := 1) rfl ⟨lX10_71, rfl, rfl⟩ kY ⟨_, rfl, rfl⟩ rfl (y_here kY0 hw hT1 e2 ?_)
      refine p_bipush (i := 2) rfl (by decide) ?_
      refine p_icmp_ne (i := 3) 22 rfl (by decide) (by omega) (by omega) (fun c6 => ?_) (fun c6 => ?_)
      · rw [sk_no (by omega)] at e3
        exact done M1 (e3 ▸ kY0) fr0
      · refine p_aload_n (i := 4) rfl rfl ?_
        refine p_dup (i := 5) rfl rfl ?_
        refine p_getf (i := 6) rfl fX10_68 kY rfl ?_
        refine p_iconst (i := 7) rfl ?_
        refine p_iadd (i := 8) rfl ?_
        refine p_puti (i := 9) rfl gX10_68 kY rfl (P_gen fun M e => ?_)
        have fr := fr.up e (by omega)
        have kY := aupE e
        refine p_goto (i := 10) 0 rfl (by decide) ?_
        have hk := sk_yes (tx := tx) (a := a1) (by omega)
        exact ih (a1 + 1) M (by omega) (by omega) (hk.1.symm.trans e3) kY fr
  refine C_of okX10_step (by decide) (Nat.le_of_ble_eq_true rfl) ?_
  show P none mX10_step 0 [.ref 276] [] _ _
  exact sl (tx.length - a) a M rfl ha es.symm hS FrI.rf
