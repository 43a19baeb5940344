-- History, Met, Book of the class
theorem gd_app {α : Type} {l : List α} {x d : α} {i : Nat} (h : i < l.length + 1) : (l ++ [x]).getD i d = if i = l.length then x else l.getD i d := by
  by_cases e : i = l.length
  · rw [if_pos e, e, gd_app_last]
  · rw [if_neg e, gd_app_l (by omega)]
theorem x_histForget {M : AM} {ns nw : Nat} {un : List GS} {ns' nw' : Nat} {Q : Option Value → AM → Prop} (hH : XHi M ns nw un) (h : ∀ M', XHi M' ns' nw' [] → FrI 3 1 M M' → Q none M') : C mX1_forget [.ref 3] M Q := by
  obtain ⟨h0, gg, fs, k3, k4, h3, h4, h5, h6⟩ := hH
  have fr : FrI 3 1 M M := FrI.rf
  refine C_of okX1_forget (by decide) (Nat.le_of_ble_eq_true rfl) ?_
  show P none mX1_forget 0 [.ref 3] [] _ _
  refine p_aload_n (i := 0) rfl rfl ?_
  refine p_iconst (i := 1) rfl ?_
  refine p_puti (i := 2) rfl gX1_17 k3 rfl (P_gen fun M e => ?_)
  have k4 := aupN e k4 (by omega)
  have fr := fr.up e (by omega)
  have k3 := aupE e
  refine p_aload_n (i := 3) rfl rfl ?_
  refine p_iconst (i := 4) rfl ?_
  refine p_puti (i := 5) rfl gX1_21 k3 rfl (P_gen fun M e => ?_)
  have k4 := aupN e k4 (by omega)
  have fr := fr.up e (by omega)
  have k3 := aupE e
  refine p_ret (i := 6) rfl rfl ?_
  exact h M ⟨by decide, gg, 0, k3, k4, fun i hi => ⟨(h3 i hi).1, (h3 i hi).2.fi fr (by omega)⟩, by decide, by decide, fun i hi => absurd hi (Nat.not_lt_zero i)⟩ fr
theorem x_remember {M : AM} {ns nw : Nat} {un : List GS} {g : GS} {Q : Option Value → AM → Prop} (hH : XHi M ns nw un) (hP : PairB true M 216 ns nw g) (hy : g.2.2.1 ≤ 90030) (h : ∀ M', XHi M' ns nw (rem un g) → FrI 3 212 M M' → Q none M') : C mX1_remember [.ref 3, .ref 216] M Q := by
  obtain ⟨h0, gg, fs, k3, k4, h3, h4, h5, h6⟩ := hH
  obtain ⟨r, hr⟩ : ∃ r : Nat, (r : Int) = (fs + un.length) % 30 := ⟨((fs + un.length) % 30).toNat, by omega⟩
  refine C_of okX1_remember (by decide) (Nat.le_of_ble_eq_true rfl) ?_
  show P none mX1_remember 0 [.ref 3, .ref 216] [] _ _
  refine p_aload_n (i := 0) rfl rfl ?_
  refine p_getf (i := 1) rfl fX1_11 k3 rfl ?_
  refine p_aload_n (i := 2) rfl rfl ?_
  refine p_getf (i := 3) rfl fX1_17 k3 rfl ?_
  refine p_aload_n (i := 4) rfl rfl ?_
  refine p_getf (i := 5) rfl fX1_21 k3 rfl ?_
  refine p_iadd (i := 6) rfl ?_
  refine p_bipush (i := 7) rfl (by decide) ?_
  refine p_irem (i := 8) rfl (by omega) (by omega) ?_
  refine p_aaX (i := 9) (r) rfl k4 (by omega) (by omega) (by omega) (by decide) (h3 _ (by omega)).1 ?_
  refine p_aload_n (i := 10) rfl rfl ?_
  obtain ⟨sc0, wh0, st0, hs0, lr0, lf0, lz0, n0, w0, y0, ⟨kp, kS, kW, kT, kH, kG, kR⟩, r1, r2, r3, r4⟩ := id (h3 r (by omega)).2
  refine p_cV1 (i := 11) rfl ⟨lX1_25, rfl, rfl⟩ kp ⟨_, rfl, rfl⟩ rfl (x_copyAll (h3 r (by omega)).2 hP (by omega) (fun M1 hP1 fr1 => ?_))
  have k3 := fr1.at k3 (by omega)
  have k4 := fr1.at k4 (by omega)
  have fr : FrI 3 212 M M1 := fr1.weak (by omega)
  have old : ∀ i q : Nat, i < un.length → (q : Int) = (fs + i) % 30 → q ≠ r → PairB true M1 (5 + 7 * q) ns nw (un.getD i g0) ∧ (un.getD i g0).2.2.1 ≤ 90030 := fun i q hi hq hn => ⟨(h6 i hi q hq).1.fi fr1 (by omega), (h6 i hi q hq).2⟩
  have hrr : ∀ i, i < 30 → gg i = some (5 + 7 * i) ∧ PairR M1 (5 + 7 * i) := fun i hi => ⟨(h3 i hi).1, by
    by_cases e : i = r
    · rw [e]; exact hP1.r
    · exact (h3 i hi).2.fi fr1 (by omega)⟩
  have fin : ∀ (M2 : AM) (f2 : Int), FrI 3 1 M1 M2 → M2 3 = some (zO 1 [.ref 4, zI f2, zI ((rem un g).length : Nat)]) → f2 = (if un.length = 30 then (fs + 1) % 30 else fs) → Q none M2 := by
    intro M2 f2 fr2 k32 hf2
    have hl := rem_len (g := g) h0
    refine h M2 ⟨by rw [hl]; split <;> omega, gg, f2, k32, fr2.at k4 (by omega), fun i hi => ⟨(hrr i hi).1, (hrr i hi).2.fi fr2 (by omega)⟩, by rw [hf2]; split <;> omega, by rw [hf2]; split <;> omega, fun i hi q hq => ?_⟩ (fr.tr (fr2.weak (by omega)))
    rw [hl] at hi
    by_cases c : un.length = 30
    · rw [if_pos c] at hi hf2
      have e1 : rem un g = un.drop 1 ++ [g] := by unfold rem; rw [if_pos c]
      have e2 : (un.drop 1).length = 29 := by rw [List.length_drop, c]
      rw [e1, gd_app (by omega)]
      by_cases c2 : i = (un.drop 1).length
      · rw [if_pos c2]
        rw [show q = r by omega]
        exact ⟨hP1.fi fr2 (by omega), hy⟩
      · rw [if_neg c2, gd_drop]
        have := old (1 + i) q (by omega) (by omega) (by omega)
        exact ⟨this.1.fi fr2 (by omega), this.2⟩
    · rw [if_neg c] at hi hf2
      have e1 : rem un g = un ++ [g] := by unfold rem; rw [if_neg c]
      rw [e1, gd_app (by omega)]
      by_cases c2 : i = un.length
      · rw [if_pos c2]
        rw [show q = r by omega]
        exact ⟨hP1.fi fr2 (by omega), hy⟩
      · rw [if_neg c2]
        have := old i q (by omega) (by omega) (by omega)
        exact ⟨this.1.fi fr2 (by omega), this.2⟩
  have fr2 : FrI 3 1 M1 M1 := FrI.rf
  have hl := rem_len (g := g) h0
  refine p_aload_n (i := 12) rfl rfl ?_
  refine p_getf (i := 13) rfl fX1_21 k3 rfl ?_
  refine p_bipush (i := 14) rfl (by decide) ?_
  refine p_icmp_ge (i := 15) 43 rfl (by decide) (by omega) (by omega) (fun c27 => ?_) (fun c27 => ?_)
  · refine p_aload_n (i := 23) rfl rfl ?_
    refine p_aload_n (i := 24) rfl rfl ?_
    refine p_getf (i := 25) rfl fX1_17 k3 rfl ?_
    refine p_iconst (i := 26) rfl ?_
    refine p_iadd (i := 27) rfl ?_
    refine p_bipush (i := 28) rfl (by decide) ?_
    refine p_irem (i := 29) rfl (by omega) (by omega) ?_
    refine p_puti (i := 30) rfl gX1_17 k3 rfl (P_gen fun M e => ?_)
    have k4 := aupN e k4 (by omega)
    have fr2 := fr2.up e (by omega)
    have k3 := aupE e
    refine p_ret (i := 31) rfl rfl ?_
    rw [if_pos (by omega)] at hl
    have e : ((un.length : Nat) : Int) = (((rem un g).length : Nat) : Int) := by omega
    rw [e] at k3
    exact fin M _ fr2 k3 (by rw [if_pos (by omega)])
  · refine p_aload_n (i := 16) rfl rfl ?_
    refine p_dup (i := 17) rfl rfl ?_
    refine p_getf (i := 18) rfl fX1_21 k3 rfl ?_
    refine p_iconst (i := 19) rfl ?_
    refine p_iadd (i := 20) rfl ?_
    refine p_puti (i := 21) rfl gX1_21 k3 rfl (P_gen fun M e => ?_)
    have k4 := aupN e k4 (by omega)
    have fr2 := fr2.up e (by omega)
    have k3 := aupE e
    refine p_goto (i := 22) 56 rfl (by decide) ?_
    refine p_ret (i := 31) rfl rfl ?_
    rw [if_neg (by omega)] at hl
    have e : ((un.length : Nat) : Int) + 1 = (((rem un g).length : Nat) : Int) := by omega
    rw [e] at k3
    exact fin M _ fr2 k3 (by rw [if_neg (by omega)])
theorem x_restore {M : AM} {ns nw : Nat} {un : List GS} {n : Int} {Q : Option Value → AM → Prop} (hH : XHi M ns nw un) (hP : PairR M 216) (hn : 1 ≤ n ∧ n ≤ un.length) (h : ∀ M1 M', FrI 3 1 M M1 → FrI 216 7 M1 M' → XHi M' ns nw (un.take (un.length - n.toNat)) → PairB true M' 216 ns nw (un.getD (un.length - n.toNat) g0) → (un.getD (un.length - n.toNat) g0).2.2.1 ≤ 90030 → Q none M') : C mX1_restore [.ref 3, .ref 216, zI n] M Q := by
  obtain ⟨h0, gg, fs, k3, k4, h3, h4, h5, h6⟩ := hH
  obtain ⟨r, hr⟩ : ∃ r : Nat, (r : Int) = (fs + (un.length - n)) % 30 := ⟨((fs + (un.length - n)) % 30).toNat, by omega⟩
  have fr : FrI 3 1 M M := FrI.rf
  refine C_of okX1_restore (by decide) (Nat.le_of_ble_eq_true rfl) ?_
  show P none mX1_restore 0 [.ref 3, .ref 216, zI n] [] _ _
  refine p_iload_n (i := 0) rfl rfl ?_
  refine p_iconst (i := 1) rfl ?_
  refine p_icmp_lt (i := 2) 44 rfl (by decide) (by omega) (by omega) (fun c2 => by exfalso; omega) (fun c2 => ?_)
  refine p_iload_n (i := 3) rfl rfl ?_
  refine p_aload_n (i := 4) rfl rfl ?_
  refine p_getf (i := 5) rfl fX1_21 k3 rfl ?_
  refine p_icmp_gt (i := 6) 44 rfl (by decide) (by omega) (by omega) (fun c10 => by exfalso; omega) (fun c10 => ?_)
  refine p_aload_n (i := 7) rfl rfl ?_
  refine p_dup (i := 8) rfl rfl ?_
  refine p_getf (i := 9) rfl fX1_21 k3 rfl ?_
  refine p_iload_n (i := 10) rfl rfl ?_
  refine p_isub (i := 11) rfl ?_
  refine p_puti (i := 12) rfl gX1_21 k3 rfl (P_gen fun M e => ?_)
  have k4 := aupN e k4 (by omega)
  have fr := fr.up e (by omega)
  have k3 := aupE e
  refine p_aload_n (i := 13) rfl rfl ?_
  refine p_aload_n (i := 14) rfl rfl ?_
  refine p_getf (i := 15) rfl fX1_11 k3 rfl ?_
  refine p_aload_n (i := 16) rfl rfl ?_
  refine p_getf (i := 17) rfl fX1_17 k3 rfl ?_
  refine p_aload_n (i := 18) rfl rfl ?_
  refine p_getf (i := 19) rfl fX1_21 k3 rfl ?_
  refine p_iadd (i := 20) rfl ?_
  refine p_bipush (i := 21) rfl (by decide) ?_
  refine p_irem (i := 22) rfl (by omega) (by omega) ?_
  refine p_aaX (i := 23) (r) rfl k4 (by omega) (by omega) (by omega) (by decide) (h3 _ (by omega)).1 ?_
  obtain ⟨hb, hy⟩ := h6 (un.length - n.toNat) (by omega) r (by omega)
  have hP1 := hP.fi fr (by omega)
  have hb1 := hb.fi fr (by omega)
  obtain ⟨sc0, wh0, st0, hs0, lr0, lf0, lz0, n0, w0, y0, ⟨kp, kS, kW, kT, kH, kG, kR⟩, r1, r2, r3, r4⟩ := id hP1
  refine p_cV1 (i := 24) rfl ⟨lX1_25, rfl, rfl⟩ kp ⟨_, rfl, rfl⟩ rfl (x_copyAll hP1 hb1 (by omega) (fun M2 hP2 fr2 => ?_))
  refine p_ret (i := 25) rfl rfl ?_
  have k3 := fr2.at k3 (by omega)
  have k4 := fr2.at k4 (by omega)
  have hl : (un.take (un.length - n.toNat)).length = un.length - n.toNat := by rw [List.length_take]; omega
  refine h M M2 fr fr2 ⟨by rw [hl]; omega, gg, fs, ?_, k4, fun i hi => ⟨(h3 i hi).1, ((h3 i hi).2.fi fr (by omega)).fi fr2 (by omega)⟩, h4, h5, fun i hi q hq => ?_⟩ hP2 hy
  · rw [hl, show ((un.length - n.toNat : Nat) : Int) = (un.length : Int) - n by omega]
    exact k3
  · rw [hl] at hi
    have e : (un.take (un.length - n.toNat)).getD i g0 = un.getD i g0 := by
      rw [List.getD_eq_getElem?_getD, List.getElem?_take, if_pos (by omega), List.getD_eq_getElem?_getD]
    rw [e]
    obtain ⟨a1, a2⟩ := h6 i (by omega) q hq
    exact ⟨(a1.fi fr (by omega)).fi fr2 (by omega), a2⟩
theorem x_metForget {M : AM} {me : List (Int × Int)} {Q : Option Value → AM → Prop} (hM : XMe M me) (h : ∀ M', XMe M' [] → FrI 232 3 M M' → Q none M') : C mX5_forget [.ref 232] M Q := by
  obtain ⟨h0, f, hh, k1, k2, k3, h4⟩ := hM
  have fr : FrI 232 3 M M := FrI.rf
  refine C_of okX5_forget (by decide) (Nat.le_of_ble_eq_true rfl) ?_
  show P none mX5_forget 0 [.ref 232] [] _ _
  refine p_aload_n (i := 0) rfl rfl ?_
  refine p_iconst (i := 1) rfl ?_
  refine p_puti (i := 2) rfl gX5_19 k1 rfl (P_gen fun M e => ?_)
  have k2 := aupN e k2 (by omega)
  have k3 := aupN e k3 (by omega)
  have fr := fr.up e (by omega)
  have k1 := aupE e
  refine p_ret (i := 3) rfl rfl ?_
  exact h M ⟨by decide, f, hh, k1, k2, k3, fun i hi => absurd hi (Nat.not_lt_zero i)⟩ fr
theorem x_metAdd {M : AM} {me : List (Int × Int)} {x v : Int} {Q : Option Value → AM → Prop} (hM : XMe M me) (hl : me.length < 6) (hx : 0 ≤ x ∧ x ≤ 7) (hv : v = 0 ∨ v = 1) (h : ∀ M', XMe M' (me ++ [(x, v)]) → FrI 232 3 M M' → Q none M') : C mX5_add [.ref 232, zI x, zI v] M Q := by
  obtain ⟨h0, f, hh, k1, k2, k3, h4⟩ := hM
  have fr : FrI 232 3 M M := FrI.rf
  refine C_of okX5_add (by decide) (Nat.le_of_ble_eq_true rfl) ?_
  show P none mX5_add 0 [.ref 232, zI x, zI v] [] _ _
  refine p_aload_n (i := 0) rfl rfl ?_
  refine p_getf (i := 1) rfl fX5_19 k1 rfl ?_
  refine p_bipush (i := 2) rfl (by decide) ?_
  refine p_icmp_ge (i := 3) 39 rfl (by decide) (by omega) (by omega) (fun c6 => by exfalso; omega) (fun c6 => ?_)
  refine p_aload_n (i := 4) rfl rfl ?_
  refine p_getf (i := 5) rfl fX5_9 k1 rfl ?_
  refine p_aload_n (i := 6) rfl rfl ?_
  refine p_getf (i := 7) rfl fX5_19 k1 rfl ?_
  refine p_iload_n (i := 8) rfl rfl ?_
  refine p_isX (i := 9) _ rfl k2 rfl (by omega) (by decide) (P_gen fun M e => ?_)
  have k1 := aupN e k1 (by omega)
  have k3 := aupN e k3 (by omega)
  have fr := fr.up e (by omega)
  have k2 := aupE e
  refine p_aload_n (i := 10) rfl rfl ?_
  refine p_getf (i := 11) rfl fX5_15 k1 rfl ?_
  refine p_aload_n (i := 12) rfl rfl ?_
  refine p_getf (i := 13) rfl fX5_19 k1 rfl ?_
  refine p_iload_n (i := 14) rfl rfl ?_
  refine p_zsX (i := 15) _ rfl k3 rfl (by omega) (by decide) (by omega) (P_gen fun M e => ?_)
  have k1 := aupN e k1 (by omega)
  have k2 := aupN e k2 (by omega)
  have fr := fr.up e (by omega)
  have k3 := aupE e
  refine p_aload_n (i := 16) rfl rfl ?_
  refine p_dup (i := 17) rfl rfl ?_
  refine p_getf (i := 18) rfl fX5_19 k1 rfl ?_
  refine p_iconst (i := 19) rfl ?_
  refine p_iadd (i := 20) rfl ?_
  refine p_puti (i := 21) rfl gX5_19 k1 rfl (P_gen fun M e => ?_)
  have k2 := aupN e k2 (by omega)
  have k3 := aupN e k3 (by omega)
  have fr := fr.up e (by omega)
  have k1 := aupE e
  refine p_ret (i := 22) rfl rfl ?_
  have e : ((me.length : Nat) : Int) + 1 = (((me ++ [(x, v)]).length : Nat) : Int) := by simp
  rw [e] at k1
  refine h M ⟨by simp; omega, _, _, k1, k2, k3, fun i hi => ?_⟩ fr
  have hi : i < me.length + 1 := by simpa using hi
  rw [gd_app hi]
  by_cases c : i = me.length
  · rw [if_pos c, c, zup_e, zup_e]
    exact ⟨rfl, rfl, hx.1, hx.2, hv⟩
  · rw [if_neg c, zup_n c, zup_n c]
    exact h4 i (by omega)
theorem x_fits {M : AM} {me : List (Int × Int)} {t : Int} {Q : Option Value → AM → Prop} (hM : XMe M me) (ht : 0 ≤ t ∧ t ≤ 7) (h : Q (some (zI (ftL me t me.length 0))) M) : C mX5_fits [.ref 232, zI t] M Q := by
  obtain ⟨h0, f, hh, k1, k2, k3, h4⟩ := hM
  have loop : ∀ (n k : Nat), k + n = me.length → Q (some (zI (ftL me t n k))) M → P none mX5_fits 2 [.ref 232, zI t, zI (k : Int)] []  M Q := by
    intro n
    induction n with
    | zero =>
      intro k hk hq
      refine p_iload_n (i := 2) rfl rfl ?_
      refine p_aload_n (i := 3) rfl rfl ?_
      refine p_getf (i := 4) rfl fX5_19 k1 rfl ?_
      refine p_icmp_ge (i := 5) 48 rfl (by decide) (by omega) (by omega) (fun c7 => ?_) (fun c7 => by exfalso; omega)
      refine p_iconst (i := 27) rfl ?_
      refine p_iret (i := 28) rfl rfl (by decide) ?_
      exact hq
    | succ n ih =>
      intro k hk hq
      obtain ⟨e1, e2, e3, e4, e5⟩ := h4 k (by omega)
      unfold ftL at hq
      refine p_iload_n (i := 2) rfl rfl ?_
      refine p_aload_n (i := 3) rfl rfl ?_
      refine p_getf (i := 4) rfl fX5_19 k1 rfl ?_
      refine p_icmp_ge (i := 5) 48 rfl (by decide) (by omega) (by omega) (fun c7 => by exfalso; omega) (fun c7 => ?_)
      refine p_iload_n (i := 6) rfl rfl ?_
      refine p_bipush (i := 7) rfl (by decide) ?_
      refine p_icmp_ge (i := 8) 48 rfl (by decide) (by omega) (by omega) (fun c13 => by exfalso; omega) (fun c13 => ?_)
      refine p_iload_n (i := 9) rfl rfl ?_
      refine p_aload_n (i := 10) rfl rfl ?_
      refine p_getf (i := 11) rfl fX5_9 k1 rfl ?_
      refine p_iload_n (i := 12) rfl rfl ?_
      refine p_iaX (i := 13) _ rfl k2 rfl (by omega) (by decide) ?_
      refine p_icmp_ne (i := 14) 30 rfl (by decide) (by omega) (by omega) (fun c23 => ?_) (fun c23 => ?_)
      · refine p_iconst (i := 17) rfl ?_
        refine p_aload_n (i := 18) rfl rfl ?_
        refine p_getf (i := 19) rfl fX5_15 k1 rfl ?_
        refine p_iload_n (i := 20) rfl rfl ?_
        refine p_zaX (i := 21) _ rfl k3 rfl (by omega) (by decide) ?_
        refine p_icmp_eq (i := 22) 42 rfl (by decide) (by omega) (by omega) (fun c37 => ?_) (fun c37 => ?_)
        · refine p_iinc (i := 25) rfl rfl rfl ?_
          refine p_goto (i := 26) 2 rfl (by decide) ?_
          rw [if_pos (by constructor <;> intro z <;> omega)] at hq
          exact ih (k + 1) (by omega) hq
        · refine p_iconst (i := 23) rfl ?_
          refine p_iret (i := 24) rfl rfl (by decide) ?_
          rw [if_neg (by intro z; omega)] at hq
          exact hq
      · refine p_iconst (i := 15) rfl ?_
        refine p_goto (i := 16) 31 rfl (by decide) ?_
        refine p_aload_n (i := 18) rfl rfl ?_
        refine p_getf (i := 19) rfl fX5_15 k1 rfl ?_
        refine p_iload_n (i := 20) rfl rfl ?_
        refine p_zaX (i := 21) _ rfl k3 rfl (by omega) (by decide) ?_
        refine p_icmp_eq (i := 22) 42 rfl (by decide) (by omega) (by omega) (fun c37 => ?_) (fun c37 => ?_)
        · refine p_iinc (i := 25) rfl rfl rfl ?_
          refine p_goto (i := 26) 2 rfl (by decide) ?_
          rw [if_pos (by constructor <;> intro z <;> omega)] at hq
          exact ih (k + 1) (by omega) hq
        · refine p_iconst (i := 23) rfl ?_
          refine p_iret (i := 24) rfl rfl (by decide) ?_
          rw [if_neg (by intro z; omega)] at hq
          exact hq
  refine C_of okX5_fits (by decide) (Nat.le_of_ble_eq_true rfl) ?_
  show P none mX5_fits 0 [.ref 232, zI t, .retAddr 0] [] _ _
  refine p_iconst (i := 0) rfl ?_
  refine p_istore_n (i := 1) rfl rfl ?_
  exact loop me.length 0 (by omega) h
theorem x_bookForget {M : AM} {bo : List (Int × Int)} {Q : Option Value → AM → Prop} (hM : XBo M bo) (h : ∀ M', XBo M' [] → FrI 235 3 M M' → Q none M') : C mX0_forget [.ref 235] M Q := by
  obtain ⟨h0, f, hh, k1, k2, k3, h4⟩ := hM
  have fr : FrI 235 3 M M := FrI.rf
  refine C_of okX0_forget (by decide) (Nat.le_of_ble_eq_true rfl) ?_
  show P none mX0_forget 0 [.ref 235] [] _ _
  refine p_aload_n (i := 0) rfl rfl ?_
  refine p_iconst (i := 1) rfl ?_
  refine p_puti (i := 2) rfl gX0_18 k1 rfl (P_gen fun M e => ?_)
  have k2 := aupN e k2 (by omega)
  have k3 := aupN e k3 (by omega)
  have fr := fr.up e (by omega)
  have k1 := aupE e
  refine p_ret (i := 3) rfl rfl ?_
  exact h M ⟨by decide, f, hh, k1, k2, k3, fun i hi => absurd hi (Nat.not_lt_zero i)⟩ fr
theorem x_bookAdd {M : AM} {bo : List (Int × Int)} {x v : Int} {Q : Option Value → AM → Prop} (hM : XBo M bo) (hl : bo.length < 20) (hx : 0 ≤ x ∧ x ≤ 7) (hv : 0 ≤ v ∧ v ≤ 7) (h : ∀ M', XBo M' (bo ++ [(x, v)]) → FrI 235 3 M M' → Q none M') : C mX0_add [.ref 235, zI x, zI v] M Q := by
  obtain ⟨h0, f, hh, k1, k2, k3, h4⟩ := hM
  have fr : FrI 235 3 M M := FrI.rf
  refine C_of okX0_add (by decide) (Nat.le_of_ble_eq_true rfl) ?_
  show P none mX0_add 0 [.ref 235, zI x, zI v] [] _ _
  refine p_aload_n (i := 0) rfl rfl ?_
  refine p_getf (i := 1) rfl fX0_18 k1 rfl ?_
  refine p_bipush (i := 2) rfl (by decide) ?_
  refine p_icmp_ge (i := 3) 39 rfl (by decide) (by omega) (by omega) (fun c6 => by exfalso; omega) (fun c6 => ?_)
  refine p_aload_n (i := 4) rfl rfl ?_
  refine p_getf (i := 5) rfl fX0_9 k1 rfl ?_
  refine p_aload_n (i := 6) rfl rfl ?_
  refine p_getf (i := 7) rfl fX0_18 k1 rfl ?_
  refine p_iload_n (i := 8) rfl rfl ?_
  refine p_isX (i := 9) _ rfl k2 rfl (by omega) (by decide) (P_gen fun M e => ?_)
  have k1 := aupN e k1 (by omega)
  have k3 := aupN e k3 (by omega)
  have fr := fr.up e (by omega)
  have k2 := aupE e
  refine p_aload_n (i := 10) rfl rfl ?_
  refine p_getf (i := 11) rfl fX0_15 k1 rfl ?_
  refine p_aload_n (i := 12) rfl rfl ?_
  refine p_getf (i := 13) rfl fX0_18 k1 rfl ?_
  refine p_iload_n (i := 14) rfl rfl ?_
  refine p_isX (i := 15) _ rfl k3 rfl (by omega) (by decide) (P_gen fun M e => ?_)
  have k1 := aupN e k1 (by omega)
  have k2 := aupN e k2 (by omega)
  have fr := fr.up e (by omega)
  have k3 := aupE e
  refine p_aload_n (i := 16) rfl rfl ?_
  refine p_dup (i := 17) rfl rfl ?_
  refine p_getf (i := 18) rfl fX0_18 k1 rfl ?_
  refine p_iconst (i := 19) rfl ?_
  refine p_iadd (i := 20) rfl ?_
  refine p_puti (i := 21) rfl gX0_18 k1 rfl (P_gen fun M e => ?_)
  have k2 := aupN e k2 (by omega)
  have k3 := aupN e k3 (by omega)
  have fr := fr.up e (by omega)
  have k1 := aupE e
  refine p_ret (i := 22) rfl rfl ?_
  have e : ((bo.length : Nat) : Int) + 1 = (((bo ++ [(x, v)]).length : Nat) : Int) := by simp
  rw [e] at k1
  refine h M ⟨by simp; omega, _, _, k1, k2, k3, fun i hi => ?_⟩ fr
  have hi : i < bo.length + 1 := by simpa using hi
  rw [gd_app hi]
  by_cases c : i = bo.length
  · rw [if_pos c, c, zup_e, zup_e]
    exact ⟨rfl, rfl, hx.1, hx.2, hv.1, hv.2⟩
  · rw [if_neg c, zup_n c, zup_n c]
    exact h4 i (by omega)
