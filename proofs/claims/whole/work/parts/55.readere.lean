-- the class's Reader: a clause, the whole text
def xClause (tx : List Int) (a : Nat) (b : Int × Int) (ln : LN) : Nat × (Int × Int) × LN :=
  if ln.1 = 0 then (if (xAcc tx (sk tx a) 99 1 b).2.1 = 0 then xClear tx (xAcc tx (sk tx a) 99 1 b).1 (xAcc tx (sk tx a) 99 1 b).2 ln else ((xAcc tx (sk tx a) 99 1 b).1, (xAcc tx (sk tx a) 99 1 b).2, ln))
  else if ch tx (sk tx a) = 115 then (if nS ln < 8 then (if (xAcc tx (sk tx a) 115 1 b).2.1 = 0 then xScene tx (xAcc tx (sk tx a) 115 1 b).1 (xAcc tx (sk tx a) 115 1 b).2 ln else ((xAcc tx (sk tx a) 115 1 b).1, (xAcc tx (sk tx a) 115 1 b).2, ln)) else ((xAcc tx (sk tx a) 115 0 b).1, (xAcc tx (sk tx a) 115 0 b).2, ln))
  else if ch tx (sk tx a) = 119 then (if nW ln < 6 then (if (xAcc tx (sk tx a) 119 1 b).2.1 = 0 then xWearer tx (xAcc tx (sk tx a) 119 1 b).1 (xAcc tx (sk tx a) 119 1 b).2 ln else ((xAcc tx (sk tx a) 119 1 b).1, (xAcc tx (sk tx a) 119 1 b).2, ln)) else ((xAcc tx (sk tx a) 119 0 b).1, (xAcc tx (sk tx a) 119 0 b).2, ln))
  else (sk tx a, blm b (if ch tx (sk tx a) = 99 then 3 else 1) (sk tx a : Nat), ln)
theorem xLooks_b (tx : List Int) (ns : Nat) : ∀ f a b l, 0 ≤ b.1 ∧ b.1 ≤ 3 → 0 ≤ (xLooks tx ns f a b l).2.1.1 ∧ (xLooks tx ns f a b l).2.1.1 ≤ 3
  | 0, a, b, l, h => h
  | f + 1, a, b, l, h => by
    unfold xLooks
    split
    · exact xLooks_b tx ns f _ _ _ (xNum_b (xAcc_b h))
    · exact h
theorem xScene_b {tx : List Int} {a : Nat} {b : Int × Int} {ln : LN} (h : 0 ≤ b.1 ∧ b.1 ≤ 3) : 0 ≤ (xScene tx a b ln).2.1.1 ∧ (xScene tx a b ln).2.1.1 ≤ 3 := xAcc_b (xNum_b (xNum_b h))
theorem xScene_c {tx : List Int} {a : Nat} {b : Int × Int} {ln : LN} : (xScene tx a b ln).2.2.1 = ln.1 := by
  show (if (xAcc tx (xNum tx (xNum tx a 0 3 b).2.1 1 99 (xNum tx a 0 3 b).2.2).2.1 59 1 (xNum tx (xNum tx a 0 3 b).2.1 1 99 (xNum tx a 0 3 b).2.2).2.2).2.1 = 0 then _ else ln : LN).1 = ln.1
  split <;> rfl
theorem xWearer_b {tx : List Int} {a : Nat} {b : Int × Int} {ln : LN} (h : 0 ≤ b.1 ∧ b.1 ≤ 3) : 0 ≤ (xWearer tx a b ln).2.1.1 ∧ (xWearer tx a b ln).2.1.1 ≤ 3 := xAcc_b (xLooks_b tx (nS ln) 5 _ _ _ (xNum_b h))
theorem xWearer_c {tx : List Int} {a : Nat} {b : Int × Int} {ln : LN} : (xWearer tx a b ln).2.2.1 = ln.1 := rfl
theorem xClear_b {tx : List Int} {a : Nat} {b : Int × Int} {ln : LN} (h : 0 ≤ b.1 ∧ b.1 ≤ 3) : 0 ≤ (xClear tx a b ln).2.1.1 ∧ (xClear tx a b ln).2.1.1 ≤ 3 := xAcc_b (xNum_b h)
theorem xClause_bc {tx : List Int} {a : Nat} {b : Int × Int} {ln : LN} (h : 0 ≤ b.1 ∧ b.1 ≤ 3) (hc : -1 ≤ ln.1 ∧ ln.1 ≤ 999) : (0 ≤ (xClause tx a b ln).2.1.1 ∧ (xClause tx a b ln).2.1.1 ≤ 3) ∧ -1 ≤ (xClause tx a b ln).2.2.1 ∧ (xClause tx a b ln).2.2.1 ≤ 999 := by
  unfold xClause
  split
  · split
    · exact ⟨xClear_b (xAcc_b h), xNum_v⟩
    · exact ⟨xAcc_b h, hc⟩
  · split
    · split
      · split
        · exact ⟨xScene_b (xAcc_b h), by rw [xScene_c]; exact hc⟩
        · exact ⟨xAcc_b h, hc⟩
      · exact ⟨xAcc_b h, hc⟩
    · split
      · split
        · split
          · exact ⟨xWearer_b (xAcc_b h), by rw [xWearer_c]; exact hc⟩
          · exact ⟨xAcc_b h, hc⟩
        · exact ⟨xAcc_b h, hc⟩
      · refine ⟨blm_rng h ?_, hc⟩
        split <;> omega
theorem xAcc_full {tx : List Int} {a : Nat} {c : Int} {b : Int × Int} (hc : ch tx (sk tx a) = c) (hb : 0 ≤ b.1 ∧ b.1 ≤ 3) (z : (xAcc tx a c 0 b).2.1 = 0) : False := by
  unfold xAcc at z
  rw [if_neg (not_not_intro hc), if_pos rfl] at z
  have z : (blm b 3 (sk tx a : Nat)).1 = 0 := z
  unfold blm at z
  by_cases e : b.1 = 0
  · rw [if_pos e] at z
    have z : (3 : Int) = 0 := z
    omega
  · rw [if_neg e] at z
    exact e z
theorem x_readClause {M : AM} {tx : List Int} {a p : Nat} {b : Int × Int} {ln : LN} {Q : Option Value → AM → Prop} (hR : XR M tx a b) (hb0 : 0 ≤ b.1 ∧ b.1 ≤ 3) (hL : LineB M p ln) (hp : 3 ≤ p) (hc0 : -1 ≤ ln.1 ∧ ln.1 ≤ 999) (h : ∀ M', FrT p M M' → XR M' tx (xClause tx a b ln).1 (xClause tx a b ln).2.1 → LineB M' p (xClause tx a b ln).2.2 → Q none M') : C mX7_readClause [.ref 1, .ref p] M Q := by
  unfold xClause at h
  obtain ⟨i0, i1, f, k1, k2, hf⟩ := id hR
  refine C_of okX7_readClause (by decide) (Nat.le_of_ble_eq_true rfl) ?_
  show P none mX7_readClause 0 [.ref 1, .ref p, .retAddr 0] [] _ _
  refine p_aload_n (i := 0) rfl rfl ?_
  refine p_cV0 (i := 1) rfl ⟨lX7_40, rfl, rfl⟩ k1 ⟨_, rfl, rfl⟩ rfl (x_letterHere hR (fun M1 hR1 fr1 => ?_))
  obtain ⟨i0, i1, f, k1, k2, hf⟩ := id hR1
  have hL1 := hL.fi fr1 (by omega)
  have frA : FrT p M M1 := FrT.rf.r fr1
  obtain ⟨o1, o2, o3, kf, bf, lc, lkf, ⟨hb, hk, hr, hc, ⟨gg, hg, hgi⟩, hrow⟩, hkb, hlk⟩ := id hL1
  have hch : -1 ≤ ch tx (sk tx a) ∧ ch tx (sk tx a) ≤ 255 := by
    rcases Nat.lt_or_ge (sk tx a) tx.length with z | z
    · have := hf _ z; omega
    · rw [ch_end z]; omega
  refine p_istore_n (i := 2) rfl rfl ?_
  refine p_aload_n (i := 3) rfl rfl ?_
  refine p_getf (i := 4) rfl fX7_44 hb rfl ?_
  refine p_if_ne (i := 5) 30 rfl (by decide) (by omega) (fun c9 => ?_) (fun c9 => ?_)
  · rw [if_neg c9] at h
    refine p_iload_n (i := 15) rfl rfl ?_
    refine p_bipush (i := 16) rfl (by decide) ?_
    refine p_icmp_ne (i := 17) 67 rfl (by decide) (by omega) (by omega) (fun c33 => ?_) (fun c33 => ?_)
    · rw [if_neg c33] at h
      refine p_iload_n (i := 33) rfl rfl ?_
      refine p_bipush (i := 34) rfl (by decide) ?_
      refine p_icmp_ne (i := 35) 104 rfl (by decide) (by omega) (by omega) (fun c70 => ?_) (fun c70 => ?_)
      · rw [if_neg c70] at h
        refine p_aload_n (i := 51) rfl rfl ?_
        refine p_iload_n (i := 52) rfl rfl ?_
        refine p_bipush (i := 53) rfl (by decide) ?_
        refine p_icmp_ne (i := 54) 115 rfl (by decide) (by omega) (by omega) (fun c108 => ?_) (fun c108 => ?_)
        · rw [if_neg c108] at h
          refine p_iconst (i := 57) rfl ?_
          refine p_aload_n (i := 58) rfl rfl ?_
          refine p_getf (i := 59) rfl fX7_19 k1 rfl ?_
          refine p_cV2 (i := 60) rfl ⟨lX7_66, rfl, rfl⟩ k1 ⟨_, rfl, rfl⟩ rfl (x_blame hR1 hb0 (fun M2 hR2 fr2 => ?_))
          refine p_ret (i := 61) rfl rfl ?_
          exact h M2 (frA.r fr2) hR2 (hL1.fi fr2 (by omega))
        · rw [if_pos (by omega)] at h
          refine p_iconst (i := 55) rfl ?_
          refine p_goto (i := 56) 116 rfl (by decide) ?_
          refine p_aload_n (i := 58) rfl rfl ?_
          refine p_getf (i := 59) rfl fX7_19 k1 rfl ?_
          refine p_cV2 (i := 60) rfl ⟨lX7_66, rfl, rfl⟩ k1 ⟨_, rfl, rfl⟩ rfl (x_blame hR1 hb0 (fun M2 hR2 fr2 => ?_))
          refine p_ret (i := 61) rfl rfl ?_
          exact h M2 (frA.r fr2) hR2 (hL1.fi fr2 (by omega))
      · rw [if_pos (by omega)] at h
        refine p_aload_n (i := 36) rfl rfl ?_
        refine p_bipush (i := 37) rfl (by decide) ?_
        refine p_aload_n (i := 38) rfl rfl ?_
        refine p_getf (i := 39) rfl fX7_60 hb rfl ?_
        refine p_bipush (i := 40) rfl (by decide) ?_
        refine p_icmp_ge (i := 41) 89 rfl (by decide) (by omega) (by omega) (fun c82 => ?_) (fun c82 => ?_)
        · rw [if_neg (by omega)] at h
          refine p_iconst (i := 44) rfl ?_
          refine p_cV2 (i := 45) rfl ⟨lX7_47, rfl, rfl⟩ k1 ⟨_, rfl, rfl⟩ rfl (x_accept hR1 hb0 (by omega) (Or.inl rfl) (fun M2 hR2 fr2 z => ?_) (fun M2 hR2 fr2 z => ?_))
          · exfalso
            exact xAcc_full (by rw [sk_sk]; omega) hb0 z
          · refine p_if_eq (i := 46) 123 rfl (by decide) (by omega) (fun c93 => ?_) (fun c93 => by exfalso; omega)
            refine p_ret (i := 61) rfl rfl ?_
            exact h M2 (frA.r fr2) hR2 (hL1.fi fr2 (by omega))
        · rw [if_pos (by omega)] at h
          refine p_iconst (i := 42) rfl ?_
          refine p_goto (i := 43) 90 rfl (by decide) ?_
          refine p_cV2 (i := 45) rfl ⟨lX7_47, rfl, rfl⟩ k1 ⟨_, rfl, rfl⟩ rfl (x_accept hR1 hb0 (by omega) (Or.inr rfl) (fun M2 hR2 fr2 z => ?_) (fun M2 hR2 fr2 z => ?_))
          · rw [if_pos z] at h
            obtain ⟨i0, i1, f, k1, k2, hf⟩ := id hR2
            refine p_if_eq (i := 46) 123 rfl (by decide) (by omega) (fun c93 => by exfalso; omega) (fun c93 => ?_)
            refine p_aload_n (i := 47) rfl rfl ?_
            refine p_aload_n (i := 48) rfl rfl ?_
            refine p_cV1 (i := 49) rfl ⟨lX7_63, rfl, rfl⟩ k1 ⟨_, rfl, rfl⟩ rfl (x_readWearer hR2 (xAcc_b hb0) (hL1.fi fr2 (by omega)) hp (by omega) (fun M3 fr3 hR3 hL3 => ?_))
            refine p_goto (i := 50) 123 rfl (by decide) ?_
            refine p_ret (i := 61) rfl rfl ?_
            exact h M3 ((frA.r fr2).tr fr3) hR3 hL3
          · rw [if_neg z] at h
            refine p_if_eq (i := 46) 123 rfl (by decide) (by omega) (fun c93 => ?_) (fun c93 => by exfalso; omega)
            refine p_ret (i := 61) rfl rfl ?_
            exact h M2 (frA.r fr2) hR2 (hL1.fi fr2 (by omega))
    · rw [if_pos (by omega)] at h
      refine p_aload_n (i := 18) rfl rfl ?_
      refine p_bipush (i := 19) rfl (by decide) ?_
      refine p_aload_n (i := 20) rfl rfl ?_
      refine p_getf (i := 21) rfl fX7_54 hb rfl ?_
      refine p_bipush (i := 22) rfl (by decide) ?_
      refine p_icmp_ge (i := 23) 52 rfl (by decide) (by omega) (by omega) (fun c45 => ?_) (fun c45 => ?_)
      · rw [if_neg (by omega)] at h
        refine p_iconst (i := 26) rfl ?_
        refine p_cV2 (i := 27) rfl ⟨lX7_47, rfl, rfl⟩ k1 ⟨_, rfl, rfl⟩ rfl (x_accept hR1 hb0 (by omega) (Or.inl rfl) (fun M2 hR2 fr2 z => ?_) (fun M2 hR2 fr2 z => ?_))
        · exfalso
          exact xAcc_full (by rw [sk_sk]; omega) hb0 z
        · refine p_if_eq (i := 28) 123 rfl (by decide) (by omega) (fun c56 => ?_) (fun c56 => by exfalso; omega)
          refine p_ret (i := 61) rfl rfl ?_
          exact h M2 (frA.r fr2) hR2 (hL1.fi fr2 (by omega))
      · rw [if_pos (by omega)] at h
        refine p_iconst (i := 24) rfl ?_
        refine p_goto (i := 25) 53 rfl (by decide) ?_
        refine p_cV2 (i := 27) rfl ⟨lX7_47, rfl, rfl⟩ k1 ⟨_, rfl, rfl⟩ rfl (x_accept hR1 hb0 (by omega) (Or.inr rfl) (fun M2 hR2 fr2 z => ?_) (fun M2 hR2 fr2 z => ?_))
        · rw [if_pos z] at h
          obtain ⟨i0, i1, f, k1, k2, hf⟩ := id hR2
          refine p_if_eq (i := 28) 123 rfl (by decide) (by omega) (fun c56 => by exfalso; omega) (fun c56 => ?_)
          refine p_aload_n (i := 29) rfl rfl ?_
          refine p_aload_n (i := 30) rfl rfl ?_
          refine p_cV1 (i := 31) rfl ⟨lX7_57, rfl, rfl⟩ k1 ⟨_, rfl, rfl⟩ rfl (x_readScene hR2 (xAcc_b hb0) (hL1.fi fr2 (by omega)) hp (by omega) (fun M3 fr3 hR3 hL3 => ?_))
          refine p_goto (i := 32) 123 rfl (by decide) ?_
          refine p_ret (i := 61) rfl rfl ?_
          exact h M3 ((frA.r fr2).tr fr3) hR3 hL3
        · rw [if_neg z] at h
          refine p_if_eq (i := 28) 123 rfl (by decide) (by omega) (fun c56 => ?_) (fun c56 => by exfalso; omega)
          refine p_ret (i := 61) rfl rfl ?_
          exact h M2 (frA.r fr2) hR2 (hL1.fi fr2 (by omega))
  · rw [if_pos (by omega)] at h
    refine p_aload_n (i := 6) rfl rfl ?_
    refine p_bipush (i := 7) rfl (by decide) ?_
    refine p_iconst (i := 8) rfl ?_
    refine p_cV2 (i := 9) rfl ⟨lX7_47, rfl, rfl⟩ k1 ⟨_, rfl, rfl⟩ rfl (x_accept hR1 hb0 (by omega) (Or.inr rfl) (fun M2 hR2 fr2 z => ?_) (fun M2 hR2 fr2 z => ?_))
    · rw [if_pos z] at h
      obtain ⟨i0, i1, f, k1, k2, hf⟩ := id hR2
      refine p_if_eq (i := 10) 123 rfl (by decide) (by omega) (fun c19 => by exfalso; omega) (fun c19 => ?_)
      refine p_aload_n (i := 11) rfl rfl ?_
      refine p_aload_n (i := 12) rfl rfl ?_
      refine p_cV1 (i := 13) rfl ⟨lX7_51, rfl, rfl⟩ k1 ⟨_, rfl, rfl⟩ rfl (x_readClear hR2 (xAcc_b hb0) (hL1.fi fr2 (by omega)) hp (fun M3 M4 M5 fr3 fr4 fr5 hR5 hL5 => ?_))
      refine p_goto (i := 14) 123 rfl (by decide) ?_
      refine p_ret (i := 61) rfl rfl ?_
      exact h M5 ((((frA.r fr2).r fr3).l fr4).r fr5) hR5 hL5
    · rw [if_neg z] at h
      refine p_if_eq (i := 10) 123 rfl (by decide) (by omega) (fun c19 => ?_) (fun c19 => by exfalso; omega)
      refine p_ret (i := 61) rfl rfl ?_
      exact h M2 (frA.r fr2) hR2 (hL1.fi fr2 (by omega))
def xRead (tx : List Int) : Nat → Nat → Int × Int → LN → (Int × Int) × LN
  | 0, _, b, ln => (b, ln)
  | f + 1, a, b, ln => if b.1 = 0 ∧ a < tx.length then xRead tx f (sk tx (xClause tx a b ln).1) (xClause tx a b ln).2.1 (xClause tx a b ln).2.2 else (b, ln)
theorem x_readInto {M : AM} {tx : List Int} {p : Nat} {Q : Option Value → AM → Prop} (hR : XRd M tx) (hL : LineR M p) (hp : 3 ≤ p) (h : ∀ M' a, FrT p M M' → XR M' tx a (xRead tx 241 (sk tx 0) (0, -1) (0, [], [])).1 → LineB M' p (xRead tx 241 (sk tx 0) (0, -1) (0, [], [])).2 → Q (some (zI (xRead tx 241 (sk tx 0) (0, -1) (0, [], [])).1.1)) M') : C mX7_readInto [.ref 1, .ref p] M Q := by
  have tail : ∀ (M1 : AM) (a1 : Nat) (b1 : Int × Int) (x2 : Value), XR M1 tx a1 b1 → Q (some (zI b1.1)) M1 → P none mX7_readInto 65 [.ref 1, .ref p, x2] []  M1 Q := by
    intro M1 a1 b1 x2 hR1 hq
    obtain ⟨i0, i1, f, k1, k2, hf⟩ := id hR1
    refine p_aload_n (i := 33) rfl rfl ?_
    refine p_getf (i := 34) rfl fX7_22 k1 rfl ?_
    refine p_iret (i := 35) rfl rfl (rfl) ?_
    exact hq
  have loop : ∀ (c i : Nat) (M1 : AM) (a1 : Nat) (b1 : Int × Int) (ln : LN), i + c = 241 → XR M1 tx a1 b1 → 0 ≤ b1.1 ∧ b1.1 ≤ 3 → LineB M1 p ln → -1 ≤ ln.1 ∧ ln.1 ≤ 999 → FrT p M M1 → (∀ M' a, FrT p M M' → XR M' tx a (xRead tx c a1 b1 ln).1 → LineB M' p (xRead tx c a1 b1 ln).2 → Q (some (zI (xRead tx c a1 b1 ln).1.1)) M') → P none mX7_readInto 25 [.ref 1, .ref p, zI (i : Int)] []  M1 Q := by
    intro c
    induction c with
    | zero =>
      intro i M1 a1 b1 ln hic hR1 hb1 hL1 hc1 fr hq
      refine p_iload_n (i := 15) rfl rfl ?_
      refine p_sipush (i := 16) rfl (by decide) ?_
      refine p_icmp_gt (i := 17) 65 rfl (by decide) (by omega) (by omega) (fun c29 => ?_) (fun c29 => by exfalso; omega)
      exact tail M1 a1 b1 _ hR1 (hq M1 a1 fr hR1 hL1)
    | succ c ih =>
      intro i M1 a1 b1 ln hic hR1 hb1 hL1 hc1 fr hq
      unfold xRead at hq
      obtain ⟨i0, i1, f, k1, k2, hf⟩ := id hR1
      refine p_iload_n (i := 15) rfl rfl ?_
      refine p_sipush (i := 16) rfl (by decide) ?_
      refine p_icmp_gt (i := 17) 65 rfl (by decide) (by omega) (by omega) (fun c29 => by exfalso; omega) (fun c29 => ?_)
      refine p_aload_n (i := 18) rfl rfl ?_
      refine p_getf (i := 19) rfl fX7_22 k1 rfl ?_
      refine p_if_ne (i := 20) 65 rfl (by decide) (by omega) (fun c36 => ?_) (fun c36 => ?_)
      · rw [if_neg (by omega)] at hq
        exact tail M1 a1 b1 _ hR1 (hq M1 a1 fr hR1 hL1)
      · refine p_aload_n (i := 21) rfl rfl ?_
        refine p_getf (i := 22) rfl fX7_19 k1 rfl ?_
        refine p_aload_n (i := 23) rfl rfl ?_
        refine p_getf (i := 24) rfl fX7_15 k1 rfl ?_
        refine p_icmp_ge (i := 25) 65 rfl (by decide) (by omega) (by omega) (fun c47 => ?_) (fun c47 => ?_)
        · rw [if_neg (by omega)] at hq
          exact tail M1 a1 b1 _ hR1 (hq M1 a1 fr hR1 hL1)
        · rw [if_pos (by omega)] at hq
          refine p_aload_n (i := 26) rfl rfl ?_
          refine p_aload_n (i := 27) rfl rfl ?_
          refine p_cV1 (i := 28) rfl ⟨lX7_36, rfl, rfl⟩ k1 ⟨_, rfl, rfl⟩ rfl (x_readClause hR1 hb1 hL1 hp hc1 (fun M2 fr2 hR2 hL2 => ?_))
          obtain ⟨hb2, hc2⟩ := xClause_bc (tx := tx) (a := a1) hb1 hc1
          obtain ⟨i0, i1, f, k1, k2, hf⟩ := id hR2
          refine p_aload_n (i := 29) rfl rfl ?_
          refine p_cV0 (i := 30) rfl ⟨lX7_33, rfl, rfl⟩ k1 ⟨_, rfl, rfl⟩ rfl (x_skipBlanks hR2 (fun M3 hR3 fr3 => ?_))
          refine p_iinc (i := 31) rfl rfl rfl ?_
          refine p_goto (i := 32) 25 rfl (by decide) ?_
          exact ih (i + 1) M3 _ _ _ (by omega) hR3 hb2 (hL2.fi fr3 (by omega)) hc2 ((fr.tr fr2).r fr3) hq
  obtain ⟨i0, f, a0, ft, fp, k1, k2, hf⟩ := id hR
  obtain ⟨kf, bf, lc, lkf, c, s, w, ⟨hb, hk, hr, hc, ⟨gg, hg, hgi⟩, hrow⟩⟩ := id hL
  refine C_of okX7_readInto (by decide) (Nat.le_of_ble_eq_true rfl) ?_
  show P none mX7_readInto 0 [.ref 1, .ref p, .retAddr 0] [] _ _
  refine p_aload_n (i := 0) rfl rfl ?_
  refine p_cV0 (i := 1) rfl ⟨lX7_28, rfl, rfl⟩ hb ⟨_, rfl, rfl⟩ rfl (x_forget hL (fun M1 hL1 fr1 => ?_))
  have k1 := fr1.at k1 (by omega)
  have k2 := fr1.at k2 (by omega)
  have frR : FrI 1 2 M1 M1 := FrI.rf
  refine p_aload_n (i := 2) rfl rfl ?_
  refine p_iconst (i := 3) rfl ?_
  refine p_puti (i := 4) rfl gX7_19 k1 rfl (P_gen fun M e => ?_)
  have k2 := aupN e k2 (by omega)
  have frR := frR.up e (by omega)
  have k1 := aupE e
  refine p_aload_n (i := 5) rfl rfl ?_
  refine p_iconst (i := 6) rfl ?_
  refine p_puti (i := 7) rfl gX7_22 k1 rfl (P_gen fun M e => ?_)
  have k2 := aupN e k2 (by omega)
  have frR := frR.up e (by omega)
  have k1 := aupE e
  refine p_aload_n (i := 8) rfl rfl ?_
  refine p_iconst (i := 9) rfl ?_
  refine p_puti (i := 10) rfl gX7_25 k1 rfl (P_gen fun M e => ?_)
  have k2 := aupN e k2 (by omega)
  have frR := frR.up e (by omega)
  have k1 := aupE e
  refine p_aload_n (i := 11) rfl rfl ?_
  have hch : ∀ i, i < tx.length → f i = ch tx i ∧ 0 ≤ ch tx i ∧ ch tx i ≤ 255 := fun i hi => by
    have := hf i hi
    unfold ch
    rw [if_pos hi]
    exact this
  have hR2 : XR M tx 0 (0, -1) := ⟨i0, by omega, f, k1, k2, hch⟩
  refine p_cV0 (i := 12) rfl ⟨lX7_33, rfl, rfl⟩ k1 ⟨_, rfl, rfl⟩ rfl (x_skipBlanks hR2 (fun M3 hR3 fr3 => ?_))
  refine p_iconst (i := 13) rfl ?_
  refine p_istore_n (i := 14) rfl rfl ?_
  exact loop 241 0 M3 _ _ _ (by omega) hR3 (by decide) ((hL1.fi frR (by omega)).fi fr3 (by omega)) (by decide) (((FrT.rf.l fr1).r frR).r fr3) h
