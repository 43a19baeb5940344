-- the class's Reader: clauses
theorem x_hasWearerB {M : AM} {b : Nat} {ln : LN} {x : Int} {Q : Option Value → AM → Prop} (hL : LineB M b ln) (hx : -2147483648 ≤ x ∧ x ≤ 2147483647) (h1 : 0 ≤ x ∧ x < nW ln → Q (some (zI 1)) M) (h0 : ¬ (0 ≤ x ∧ x < nW ln) → Q (some (zI 0)) M) : C mX3_hasWearer [.ref b, zI x] M Q := by
  obtain ⟨o1, o2, o3, kf, bf, lc, lkf, ⟨hb, hk, hr, hc, ⟨gg, hg, hgi⟩, hrow⟩, hkb, hlk⟩ := id hL
  refine C_of okX3_hasWearer (by decide) (Nat.le_of_ble_eq_true rfl) ?_
  show P none mX3_hasWearer 0 [.ref b, zI x] [] _ _
  refine p_iload_n (i := 0) rfl rfl ?_
  refine p_if_lt (i := 1) 22 rfl (by decide) (by omega) (fun c1 => ?_) (fun c1 => ?_)
  · refine p_iconst (i := 11) rfl ?_
    refine p_iret (i := 12) rfl rfl (by decide) ?_
    exact h0 (by omega)
  · refine p_iload_n (i := 2) rfl rfl ?_
    refine p_aload_n (i := 3) rfl rfl ?_
    refine p_getf (i := 4) rfl fX3_33 hb rfl ?_
    refine p_icmp_ge (i := 5) 22 rfl (by decide) (by omega) (by omega) (fun c9 => ?_) (fun c9 => ?_)
    · refine p_iconst (i := 11) rfl ?_
      refine p_iret (i := 12) rfl rfl (by decide) ?_
      exact h0 (by omega)
    · refine p_iload_n (i := 6) rfl rfl ?_
      refine p_bipush (i := 7) rfl (by decide) ?_
      refine p_icmp_ge (i := 8) 22 rfl (by decide) (by omega) (by omega) (fun c15 => ?_) (fun c15 => ?_)
      · refine p_iconst (i := 11) rfl ?_
        refine p_iret (i := 12) rfl rfl (by decide) ?_
        exact h0 (by omega)
      · refine p_iconst (i := 9) rfl ?_
        refine p_goto (i := 10) 23 rfl (by decide) ?_
        refine p_iret (i := 12) rfl rfl (by decide) ?_
        exact h1 (by omega)
theorem x_addLook {M : AM} {b : Nat} {c0 : Int} {ss : List (Int × Int)} {ws : List (List Int)} {l : List Int} {x : Int} {Q : Option Value → AM → Prop} (hL : LineB M b (c0, ss, ws ++ [l])) (h6 : l.length < 6) (h : ∀ M', LineB M' b (c0, ss, ws ++ [l ++ [x]]) → FrI b 11 M M' → Q none M') : C mX3_addLook [.ref b, zI x] M Q := by
  obtain ⟨o1, o2, o3, kf, bf, lc, lkf, ⟨hb, hk, hr, hc, ⟨gg, hg, hgi⟩, hrow⟩, hkb, hlk⟩ := id hL
  have eW : nW (c0, ss, ws ++ [l]) = ws.length + 1 := by unfold nW; simp
  have eW2 : nW (c0, ss, ws ++ [l ++ [x]]) = ws.length + 1 := by unfold nW; simp
  have eg : (ws ++ [l]).getD ws.length [] = l := gd_app_last
  have eg2 : (ws ++ [l ++ [x]]).getD ws.length [] = l ++ [x] := gd_app_last
  have hlast := hlk ws.length (by omega)
  have hN : lkN (c0, ss, ws ++ [l]) ws.length = l.length := by show ((ws ++ [l]).getD ws.length []).length = l.length; rw [eg]
  rw [hN] at hlast
  have hlast2 : ∀ j, j < l.length → lkf ws.length j = l.getD j 0 := fun j hj => by
    have e := hlast.2 j hj
    have e2 : lk (c0, ss, ws ++ [l]) ws.length j = l.getD j 0 := by show ((ws ++ [l]).getD ws.length []).getD j 0 = l.getD j 0; rw [eg]
    exact e.trans e2
  have hcn := hlast.1
  have fr : FrI b 11 M M := FrI.rf
  have hrw := hrow ws.length (by omega)
  have er : ((nW (c0, ss, ws ++ [l]) : Nat) : Int) - 1 = ((ws.length : Nat) : Int) := by omega
  refine C_of okX3_addLook (by decide) (Nat.le_of_ble_eq_true rfl) ?_
  show P none mX3_addLook 0 [.ref b, zI x, .retAddr 0] [] _ _
  refine p_aload_n (i := 0) rfl rfl ?_
  refine p_getf (i := 1) rfl fX3_33 hb rfl ?_
  refine p_iconst (i := 2) rfl ?_
  refine p_isub (i := 3) rfl ?_
  refine p_istore_n (i := 4) rfl rfl ?_
  refine p_aload_n (i := 5) rfl rfl ?_
  refine p_iload_n (i := 6) rfl rfl ?_
  rw [er]
  refine p_cV1 (i := 7) rfl ⟨lX3_36, rfl, rfl⟩ hb ⟨_, rfl, rfl⟩ rfl (x_hasWearerB hL (by omega) (fun z => ?_) (fun z => ?_))
  · refine p_if_eq (i := 8) 50 rfl (by decide) (by omega) (fun c12 => by exfalso; omega) (fun c12 => ?_)
    refine p_aload_n (i := 9) rfl rfl ?_
    refine p_getf (i := 10) rfl fX3_18 hb rfl ?_
    refine p_iload_n (i := 11) rfl rfl ?_
    refine p_iaX (i := 12) (ws.length) rfl hc (by omega) (by omega) (by decide) ?_
    refine p_bipush (i := 13) rfl (by decide) ?_
    refine p_icmp_ge (i := 14) 50 rfl (by decide) (by omega) (by omega) (fun c23 => by exfalso; omega) (fun c23 => ?_)
    refine p_aload_n (i := 15) rfl rfl ?_
    refine p_getf (i := 16) rfl fX3_23 hb rfl ?_
    refine p_iload_n (i := 17) rfl rfl ?_
    refine p_aaX (i := 18) (ws.length) rfl hg (by omega) (by omega) (by omega) (by decide) (hgi _ (by omega)) ?_
    refine p_aload_n (i := 19) rfl rfl ?_
    refine p_getf (i := 20) rfl fX3_18 hb rfl ?_
    refine p_iload_n (i := 21) rfl rfl ?_
    refine p_iaX (i := 22) (ws.length) rfl hc (by omega) (by omega) (by decide) ?_
    refine p_iload_n (i := 23) rfl rfl ?_
    refine p_isX (i := 24) (l.length) rfl hrw (by omega) (by omega) (by decide) (P_gen fun M e => ?_)
    have hb := aupN e hb (by omega)
    have hk := aupN e hk (by omega)
    have hr := aupN e hr (by omega)
    have hc := aupN e hc (by omega)
    have hg := aupN e hg (by omega)
    have fr := fr.up e (by omega)
    have hrw := aupE e
    have hrow2 : ∀ i, i < 6 → M (b + 5 + i) = some (zA 6 (if i = ws.length then zup (lkf ws.length) l.length x else lkf i)) := fun i hi => by
      by_cases c : i = ws.length
      · rw [if_pos c, c]; exact hrw
      · rw [if_neg c]; exact aupN e (hrow i hi) (by omega)
    have fr1 : FrI b 5 M M := FrI.rf
    refine p_aload_n (i := 25) rfl rfl ?_
    refine p_getf (i := 26) rfl fX3_18 hb rfl ?_
    refine p_iload_n (i := 27) rfl rfl ?_
    refine p_dup2 (i := 28) rfl rfl rfl ?_
    refine p_iaX (i := 29) (ws.length) rfl hc (by omega) (by omega) (by decide) ?_
    refine p_iconst (i := 30) rfl ?_
    refine p_iadd (i := 31) rfl ?_
    refine p_isX (i := 32) (ws.length) rfl hc (by omega) (by omega) (by decide) (P_gen fun M e => ?_)
    have hb := aupN e hb (by omega)
    have hk := aupN e hk (by omega)
    have hr := aupN e hr (by omega)
    have hg := aupN e hg (by omega)
    have fr := fr.up e (by omega)
    have fr1 := fr1.up e (by omega)
    have hc := aupE e
    refine p_ret (i := 33) rfl rfl ?_
    refine h M ⟨o1, by omega, fun w hw => ?_, kf, bf, _, _, ⟨by rw [eW2, ← eW]; exact hb, hk, hr, hc, ⟨gg, hg, hgi⟩, fun i hi => fr1.at (hrow2 i hi) (by omega)⟩, hkb, fun w hw => ?_⟩ fr
    · rw [eW2] at hw
      show ((ws ++ [l ++ [x]]).getD w []).length ≤ 6
      by_cases c : w = ws.length
      · rw [c, eg2, List.length_append]; simp; omega
      · have := o3 w (by omega)
        have e1 : (ws ++ [l ++ [x]]).getD w [] = ws.getD w [] := gd_app_l (by omega)
        have e2 : (ws ++ [l]).getD w [] = ws.getD w [] := gd_app_l (by omega)
        have this : ((ws ++ [l]).getD w []).length ≤ 6 := this
        rw [e1, ← e2]
        exact this
    · rw [eW2] at hw
      show zup lc ws.length (lc ws.length + 1) w = (((ws ++ [l ++ [x]]).getD w []).length : Nat) ∧ ∀ j, j < ((ws ++ [l ++ [x]]).getD w []).length → (if w = ws.length then zup (lkf ws.length) l.length x else lkf w) j = ((ws ++ [l ++ [x]]).getD w []).getD j 0
      by_cases c : w = ws.length
      · rw [c, eg2, zup_e, if_pos rfl, List.length_append]
        refine ⟨by rw [hcn]; simp, fun j hj => ?_⟩
        have hj : j < l.length + 1 := by simpa using hj
        rw [gd_app hj]
        by_cases d : j = l.length
        · rw [if_pos d, d, zup_e]
        · rw [if_neg d, zup_n d]; exact hlast2 j (by omega)
      · have e1 : (ws ++ [l ++ [x]]).getD w [] = ws.getD w [] := gd_app_l (by omega)
        have e2 : (ws ++ [l]).getD w [] = ws.getD w [] := gd_app_l (by omega)
        rw [e1, ← e2, zup_n c, if_neg c]
        exact hlk w (by omega)
  · omega
def xClear (tx : List Int) (a : Nat) (b : Int × Int) (ln : LN) : Nat × (Int × Int) × LN :=
  ((xAcc tx (xNum tx a 1 99 b).2.1 59 1 (xNum tx a 1 99 b).2.2).1, (xAcc tx (xNum tx a 1 99 b).2.1 59 1 (xNum tx a 1 99 b).2.2).2, ((xNum tx a 1 99 b).1, ln.2))
def xScene (tx : List Int) (a : Nat) (b : Int × Int) (ln : LN) : Nat × (Int × Int) × LN :=
  match xNum tx a 0 3 b with
  | (k, a1, b1) => match xNum tx a1 1 99 b1 with
    | (v, a2, b2) => match xAcc tx a2 59 1 b2 with
      | (a3, b3) => (a3, b3, if b3.1 = 0 then (ln.1, ln.2.1 ++ [(k, v)], ln.2.2) else ln)
theorem xNum_b {tx : List Int} {a : Nat} {lo hi : Int} {b : Int × Int} (hb : 0 ≤ b.1 ∧ b.1 ≤ 3) : 0 ≤ (xNum tx a lo hi b).2.2.1 ∧ (xNum tx a lo hi b).2.2.1 ≤ 3 := by
  unfold xNum
  split
  · exact blm_rng hb (by omega)
  · dsimp only
    split
    · exact blm_rng hb (by omega)
    · exact hb
theorem xNum_v {tx : List Int} {a : Nat} {lo hi : Int} {b : Int × Int} : -1 ≤ (xNum tx a lo hi b).1 ∧ (xNum tx a lo hi b).1 ≤ 999 := by
  unfold xNum
  split
  · dsimp only; omega
  · have := nmL_v tx (tx.length - sk tx a) (sk tx a) 0 0 (Or.inl ⟨rfl, rfl⟩)
    dsimp only
    omega
theorem xAcc_b {tx : List Int} {a : Nat} {c r : Int} {b : Int × Int} (hb : 0 ≤ b.1 ∧ b.1 ≤ 3) : 0 ≤ (xAcc tx a c r b).2.1 ∧ (xAcc tx a c r b).2.1 ≤ 3 := by
  unfold xAcc
  split
  · exact blm_rng hb (by omega)
  · split
    · exact blm_rng hb (by omega)
    · exact hb
theorem x_readClear {M : AM} {tx : List Int} {a p : Nat} {b : Int × Int} {ln : LN} {Q : Option Value → AM → Prop} (hR : XR M tx a b) (hb0 : 0 ≤ b.1 ∧ b.1 ≤ 3) (hL : LineB M p ln) (hp : 3 ≤ p) (h : ∀ M1 M2 M', FrI 1 2 M M1 → FrI p 11 M1 M2 → FrI 1 2 M2 M' → XR M' tx (xClear tx a b ln).1 (xClear tx a b ln).2.1 → LineB M' p (xClear tx a b ln).2.2 → Q none M') : C mX7_readClear [.ref 1, .ref p] M Q := by
  obtain ⟨i0, i1, f, k1, k2, hf⟩ := id hR
  obtain ⟨o1, o2, o3, kf, bf, lc, lkf, ⟨hb, hk, hr, hc, ⟨gg, hg, hgi⟩, hrow⟩, hkb, hlk⟩ := id hL
  refine C_of okX7_readClear (by decide) (Nat.le_of_ble_eq_true rfl) ?_
  show P none mX7_readClear 0 [.ref 1, .ref p] [] _ _
  refine p_aload_n (i := 0) rfl rfl ?_
  refine p_aload_n (i := 1) rfl rfl ?_
  refine p_iconst (i := 2) rfl ?_
  refine p_bipush (i := 3) rfl (by decide) ?_
  refine p_cV2 (i := 4) rfl ⟨lX7_70, rfl, rfl⟩ k1 ⟨_, rfl, rfl⟩ rfl (x_readNumber hR hb0 (by omega) (by omega) (fun M1 hR1 fr1 => ?_))
  have hL1 := hL.fi fr1 (by omega)
  obtain ⟨o1, o2, o3, kf, bf, lc, lkf, ⟨hb, hk, hr, hc, ⟨gg, hg, hgi⟩, hrow⟩, hkb, hlk⟩ := id hL1
  obtain ⟨i0, i1, f, k1, k2, hf⟩ := id hR1
  have fr2 : FrI p 11 M1 M1 := FrI.rf
  have fr3 : FrI p 1 M1 M1 := FrI.rf
  refine p_puti (i := 5) rfl gX7_44 hb rfl (P_gen fun M e => ?_)
  have k1 := aupN e k1 (by omega)
  have k2 := aupN e k2 (by omega)
  have hk := aupN e hk (by omega)
  have hr := aupN e hr (by omega)
  have hc := aupN e hc (by omega)
  have hg := aupN e hg (by omega)
  have fr2 := fr2.up e (by omega)
  have fr3 := fr3.up e (by omega)
  have hb := aupE e
  refine p_aload_n (i := 6) rfl rfl ?_
  refine p_bipush (i := 7) rfl (by decide) ?_
  refine p_iconst (i := 8) rfl ?_
  have hR2 : XR M tx (xNum tx a 1 99 b).2.1 (xNum tx a 1 99 b).2.2 := ⟨i0, i1, f, k1, k2, hf⟩
  have hL2 : LineB M p ((xNum tx a 1 99 b).1, ln.2) := ⟨o1, o2, o3, kf, bf, lc, lkf, ⟨hb, hk, hr, hc, ⟨gg, hg, hgi⟩, fun i hi => fr3.at (hrow i hi) (by omega)⟩, hkb, hlk⟩
  refine p_cV2 (i := 9) rfl ⟨lX7_47, rfl, rfl⟩ k1 ⟨_, rfl, rfl⟩ rfl (x_accept hR2 (xNum_b hb0) (by omega) (Or.inr rfl) (fun M3 hR3 fr4 z => ?_) (fun M3 hR3 fr4 z => ?_))
  · refine p_pop (i := 10) rfl rfl ?_
    refine p_ret (i := 11) rfl rfl ?_
    exact h M1 M M3 fr1 fr2 fr4 hR3 (hL2.fi fr4 (by omega))
  · refine p_pop (i := 10) rfl rfl ?_
    refine p_ret (i := 11) rfl rfl ?_
    exact h M1 M M3 fr1 fr2 fr4 hR3 (hL2.fi fr4 (by omega))
