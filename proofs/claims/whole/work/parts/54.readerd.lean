-- the class's Reader: scenes, wearers, the whole text
def FrT (p : Nat) (M M' : AM) : Prop := ∀ q, (q < 1 ∨ 3 ≤ q) → (q < p ∨ p + 11 ≤ q) → M' q = M q
theorem FrT.rf {p : Nat} {M : AM} : FrT p M M := fun _ _ _ => rfl
theorem FrT.r {p : Nat} {M M' M'' : AM} (h : FrT p M M') (h2 : FrI 1 2 M' M'') : FrT p M M'' := fun q h1 h3 => (h2 q h1).trans (h q h1 h3)
theorem FrT.l {p : Nat} {M M' M'' : AM} (h : FrT p M M') (h2 : FrI p 11 M' M'') : FrT p M M'' := fun q h1 h3 => (h2 q h3).trans (h q h1 h3)
theorem FrT.tr {p : Nat} {M M' M'' : AM} (h : FrT p M M') (h2 : FrT p M' M'') : FrT p M M'' := fun q h1 h3 => (h2 q h1 h3).trans (h q h1 h3)
theorem FrT.split {p : Nat} {M M' : AM} (h : FrT p M M') (hp : 3 ≤ p) : ∃ M1, FrI 1 2 M M1 ∧ FrI p 11 M1 M' := by
  refine ⟨fun q => if q < 1 ∨ 3 ≤ q then M q else M' q, fun q hq => ?_, fun q hq => ?_⟩
  · have hq : q < 1 ∨ 1 + 2 ≤ q := hq
    show (if q < 1 ∨ 3 ≤ q then M q else M' q) = M q
    rw [if_pos (by omega)]
  · have hq : q < p ∨ p + 11 ≤ q := hq
    show M' q = if q < 1 ∨ 3 ≤ q then M q else M' q
    by_cases c : q < 1 ∨ 3 ≤ q
    · rw [if_pos c]; exact h q c hq
    · rw [if_neg c]
theorem x_readScene {M : AM} {tx : List Int} {a p : Nat} {b : Int × Int} {ln : LN} {Q : Option Value → AM → Prop} (hR : XR M tx a b) (hb0 : 0 ≤ b.1 ∧ b.1 ≤ 3) (hL : LineB M p ln) (hp : 3 ≤ p) (h8 : nS ln < 8) (h : ∀ M', FrT p M M' → XR M' tx (xScene tx a b ln).1 (xScene tx a b ln).2.1 → LineB M' p (xScene tx a b ln).2.2 → Q none M') : C mX7_readScene [.ref 1, .ref p] M Q := by
  unfold xScene at h
  obtain ⟨i0, i1, f, k1, k2, hf⟩ := id hR
  refine C_of okX7_readScene (by decide) (Nat.le_of_ble_eq_true rfl) ?_
  show P none mX7_readScene 0 [.ref 1, .ref p, .retAddr 0, .retAddr 0] [] _ _
  refine p_aload_n (i := 0) rfl rfl ?_
  refine p_iconst (i := 1) rfl ?_
  refine p_iconst (i := 2) rfl ?_
  refine p_cV2 (i := 3) rfl ⟨lX7_70, rfl, rfl⟩ k1 ⟨_, rfl, rfl⟩ rfl (x_readNumber hR hb0 (by omega) (by omega) (fun M1 hR1 fr1 => ?_))
  have hb1 := xNum_b (tx := tx) (a := a) (lo := 0) (hi := 3) hb0
  obtain ⟨⟨k, a1, b1⟩, e1⟩ : ∃ r, r = xNum tx a 0 3 b := ⟨_, rfl⟩
  rw [← e1] at h hR1 hb1 ⊢
  dsimp only at h hR1 hb1 ⊢
  obtain ⟨i0, i1, f, k1, k2, hf⟩ := id hR1
  refine p_istore_n (i := 4) rfl rfl ?_
  refine p_aload_n (i := 5) rfl rfl ?_
  refine p_iconst (i := 6) rfl ?_
  refine p_bipush (i := 7) rfl (by decide) ?_
  refine p_cV2 (i := 8) rfl ⟨lX7_70, rfl, rfl⟩ k1 ⟨_, rfl, rfl⟩ rfl (x_readNumber hR1 hb1 (by omega) (by omega) (fun M2 hR2 fr2 => ?_))
  have hb2 := xNum_b (tx := tx) (a := a1) (lo := 1) (hi := 99) hb1
  obtain ⟨⟨v, a2, b2⟩, e2⟩ : ∃ r, r = xNum tx a1 1 99 b1 := ⟨_, rfl⟩
  rw [← e2] at h hR2 hb2 ⊢
  dsimp only at h hR2 hb2 ⊢
  obtain ⟨i0, i1, f, k1, k2, hf⟩ := id hR2
  have hL2 := (hL.fi fr1 (by omega)).fi fr2 (by omega)
  have frA : FrT p M M2 := (FrT.rf.r fr1).r fr2
  refine p_istore_n (i := 9) rfl rfl ?_
  refine p_aload_n (i := 10) rfl rfl ?_
  refine p_bipush (i := 11) rfl (by decide) ?_
  refine p_iconst (i := 12) rfl ?_
  refine p_cV2 (i := 13) rfl ⟨lX7_47, rfl, rfl⟩ k1 ⟨_, rfl, rfl⟩ rfl (x_accept hR2 hb2 (by omega) (Or.inr rfl) (fun M3 hR3 fr3 z => ?_) (fun M3 hR3 fr3 z => ?_))
  · obtain ⟨⟨a3, b3⟩, e3⟩ : ∃ r, r = xAcc tx a2 59 1 b2 := ⟨_, rfl⟩
    rw [← e3] at h hR3 z
    dsimp only at h hR3 z
    rw [if_pos z] at h
    have hL3 := hL2.fi fr3 (by omega)
    obtain ⟨o1, o2, o3, kf, bf, lc, lkf, ⟨hb, hk, hr, hc, ⟨gg, hg, hgi⟩, hrow⟩, hkb, hlk⟩ := id hL3
    refine p_if_eq (i := 14) 31 rfl (by decide) (by omega) (fun c22 => by exfalso; omega) (fun c22 => ?_)
    refine p_aload_n (i := 15) rfl rfl ?_
    refine p_iload_n (i := 16) rfl rfl ?_
    refine p_iload_n (i := 17) rfl rfl ?_
    refine p_cV2 (i := 18) rfl ⟨lX7_74, rfl, rfl⟩ hb ⟨_, rfl, rfl⟩ rfl (x_addScene hL3 h8 (fun M4 hL4 fr4 => ?_))
    refine p_ret (i := 19) rfl rfl ?_
    obtain ⟨i0, i1, f, k1, k2, hf⟩ := id hR3
    exact h M4 ((frA.r fr3).l fr4) ⟨i0, i1, f, fr4.at k1 (by omega), fr4.at k2 (by omega), hf⟩ hL4
  · obtain ⟨⟨a3, b3⟩, e3⟩ : ∃ r, r = xAcc tx a2 59 1 b2 := ⟨_, rfl⟩
    rw [← e3] at h hR3 z
    dsimp only at h hR3 z
    rw [if_neg z] at h
    refine p_if_eq (i := 14) 31 rfl (by decide) (by omega) (fun c22 => ?_) (fun c22 => by exfalso; omega)
    refine p_ret (i := 19) rfl rfl ?_
    exact h M3 (frA.r fr3) hR3 (hL2.fi fr3 (by omega))
def xLooks (tx : List Int) (ns : Nat) : Nat → Nat → Int × Int → List Int → Nat × (Int × Int) × List Int
  | 0, a, b, l => (a, b, l)
  | f + 1, a, b, l => if ch tx (sk tx a) = 44 then xLooks tx ns f (xNum tx (xAcc tx (sk tx a) 44 1 b).1 0 ((ns : Int) - 1) (xAcc tx (sk tx a) 44 1 b).2).2.1 (xNum tx (xAcc tx (sk tx a) 44 1 b).1 0 ((ns : Int) - 1) (xAcc tx (sk tx a) 44 1 b).2).2.2 (l ++ [(xNum tx (xAcc tx (sk tx a) 44 1 b).1 0 ((ns : Int) - 1) (xAcc tx (sk tx a) 44 1 b).2).1]) else (sk tx a, b, l)
def xWearer (tx : List Int) (a : Nat) (b : Int × Int) (ln : LN) : Nat × (Int × Int) × LN :=
  match xNum tx a 0 ((nS ln : Int) - 1) b with
  | (v, a1, b1) => match xLooks tx (nS ln) 5 a1 b1 [v] with
    | (a2, b2, l) => ((xAcc tx a2 59 1 b2).1, (xAcc tx a2 59 1 b2).2, (ln.1, ln.2.1, ln.2.2 ++ [l]))
theorem x_readWearer {M : AM} {tx : List Int} {a p : Nat} {b : Int × Int} {ln : LN} {Q : Option Value → AM → Prop} (hR : XR M tx a b) (hb0 : 0 ≤ b.1 ∧ b.1 ≤ 3) (hL : LineB M p ln) (hp : 3 ≤ p) (h6 : nW ln < 6) (h : ∀ M', FrT p M M' → XR M' tx (xWearer tx a b ln).1 (xWearer tx a b ln).2.1 → LineB M' p (xWearer tx a b ln).2.2 → Q none M') : C mX7_readWearer [.ref 1, .ref p] M Q := by
  unfold xWearer at h
  have tail : ∀ (M1 : AM) (a2 : Nat) (b2 : Int × Int) (l : List Int) (x2 : Value), XR M1 tx a2 b2 → 0 ≤ b2.1 ∧ b2.1 ≤ 3 → LineB M1 p (ln.1, ln.2.1, ln.2.2 ++ [l]) → FrT p M M1 → (∀ M', FrT p M M' → XR M' tx (xAcc tx a2 59 1 b2).1 (xAcc tx a2 59 1 b2).2 → LineB M' p (ln.1, ln.2.1, ln.2.2 ++ [l]) → Q none M') → P none mX7_readWearer 65 [.ref 1, .ref p, x2] []  M1 Q := by
    intro M1 a2 b2 l x2 hR1 hb1 hL1 fr hq
    obtain ⟨i0, i1, f, k1, k2, hf⟩ := id hR1
    refine p_aload_n (i := 36) rfl rfl ?_
    refine p_bipush (i := 37) rfl (by decide) ?_
    refine p_iconst (i := 38) rfl ?_
    refine p_cV2 (i := 39) rfl ⟨lX7_47, rfl, rfl⟩ k1 ⟨_, rfl, rfl⟩ rfl (x_accept hR1 hb1 (by omega) (Or.inr rfl) (fun M3 hR3 fr3 z => ?_) (fun M3 hR3 fr3 z => ?_))
    · refine p_pop (i := 40) rfl rfl ?_
      refine p_ret (i := 41) rfl rfl ?_
      exact hq M3 (fr.r fr3) hR3 (hL1.fi fr3 (by omega))
    · refine p_pop (i := 40) rfl rfl ?_
      refine p_ret (i := 41) rfl rfl ?_
      exact hq M3 (fr.r fr3) hR3 (hL1.fi fr3 (by omega))
  have loop : ∀ (c i : Nat) (M1 : AM) (a1 : Nat) (b1 : Int × Int) (l : List Int), i + c = 6 → l.length = i → XR M1 tx a1 b1 → 0 ≤ b1.1 ∧ b1.1 ≤ 3 → LineB M1 p (ln.1, ln.2.1, ln.2.2 ++ [l]) → FrT p M M1 → (∀ M', FrT p M M' → XR M' tx (xAcc tx (xLooks tx (nS ln) c a1 b1 l).1 59 1 (xLooks tx (nS ln) c a1 b1 l).2.1).1 (xAcc tx (xLooks tx (nS ln) c a1 b1 l).1 59 1 (xLooks tx (nS ln) c a1 b1 l).2.1).2 → LineB M' p (ln.1, ln.2.1, ln.2.2 ++ [(xLooks tx (nS ln) c a1 b1 l).2.2]) → Q none M') → P none mX7_readWearer 21 [.ref 1, .ref p, zI (i : Int)] []  M1 Q := by
    intro c
    induction c with
    | zero =>
      intro i M1 a1 b1 l hic hl hR1 hb1 hL1 fr hq
      refine p_iload_n (i := 13) rfl rfl ?_
      refine p_bipush (i := 14) rfl (by decide) ?_
      refine p_icmp_ge (i := 15) 65 rfl (by decide) (by omega) (by omega) (fun c24 => ?_) (fun c24 => by exfalso; omega)
      exact tail M1 a1 b1 l _ hR1 hb1 hL1 fr hq
    | succ c ih =>
      intro i M1 a1 b1 l hic hl hR1 hb1 hL1 fr hq
      unfold xLooks at hq
      obtain ⟨i0, i1, f, k1, k2, hf⟩ := id hR1
      refine p_iload_n (i := 13) rfl rfl ?_
      refine p_bipush (i := 14) rfl (by decide) ?_
      refine p_icmp_ge (i := 15) 65 rfl (by decide) (by omega) (by omega) (fun c24 => by exfalso; omega) (fun c24 => ?_)
      refine p_aload_n (i := 16) rfl rfl ?_
      refine p_cV0 (i := 17) rfl ⟨lX7_40, rfl, rfl⟩ k1 ⟨_, rfl, rfl⟩ rfl (x_letterHere hR1 (fun M2 hR2 fr2 => ?_))
      have hL2 := hL1.fi fr2 (by omega)
      have frB := fr.r fr2
      obtain ⟨i0, i1, f, k1, k2, hf⟩ := id hR2
      have hch : -1 ≤ ch tx (sk tx a1) ∧ ch tx (sk tx a1) ≤ 255 := by
        rcases Nat.lt_or_ge (sk tx a1) tx.length with z | z
        · have := hf _ z; omega
        · rw [ch_end z]; omega
      refine p_bipush (i := 18) rfl (by decide) ?_
      refine p_icmp_ne (i := 19) 65 rfl (by decide) (by omega) (by omega) (fun c33 => ?_) (fun c33 => ?_)
      · rw [if_neg c33] at hq
        exact tail M2 _ _ l _ hR2 hb1 hL2 frB hq
      · rw [if_pos (by omega)] at hq
        refine p_aload_n (i := 20) rfl rfl ?_
        refine p_bipush (i := 21) rfl (by decide) ?_
        refine p_iconst (i := 22) rfl ?_
        have go2 : ∀ (M3 : AM) (v : Int), XR M3 tx (xAcc tx (sk tx a1) 44 1 b1).1 (xAcc tx (sk tx a1) 44 1 b1).2 → FrI 1 2 M2 M3 → P none mX7_readWearer 43 [.ref 1, .ref p, zI (i : Int)] [zI v] M3 Q := by
          intro M3 v hR3 fr3
          have hL3 := hL2.fi fr3 (by omega)
          have hb3 := xAcc_b (tx := tx) (a := sk tx a1) (c := 44) (r := 1) hb1
          obtain ⟨⟨a3, b3⟩, e3⟩ : ∃ r, r = xAcc tx (sk tx a1) 44 1 b1 := ⟨_, rfl⟩
          rw [← e3] at hq hR3 hb3
          dsimp only at hq hR3 hb3
          obtain ⟨i0, i1, f, k1, k2, hf⟩ := id hR3
          obtain ⟨o1, o2, o3, kf, bf, lc, lkf, ⟨hb, hk, hr, hc, ⟨gg, hg, hgi⟩, hrow⟩, hkb, hlk⟩ := id hL3
          have eN : nS (ln.1, ln.2.1, ln.2.2 ++ [l]) = nS ln := rfl
          rw [eN] at hb o1
          refine p_pop (i := 24) rfl rfl ?_
          refine p_aload_n (i := 25) rfl rfl ?_
          refine p_aload_n (i := 26) rfl rfl ?_
          refine p_iconst (i := 27) rfl ?_
          refine p_aload_n (i := 28) rfl rfl ?_
          refine p_getf (i := 29) rfl fX7_54 hb rfl ?_
          refine p_iconst (i := 30) rfl ?_
          refine p_isub (i := 31) rfl ?_
          refine p_cV2 (i := 32) rfl ⟨lX7_70, rfl, rfl⟩ k1 ⟨_, rfl, rfl⟩ rfl (x_readNumber hR3 hb3 (by omega) (by omega) (fun M4 hR4 fr4 => ?_))
          have hL4 := hL3.fi fr4 (by omega)
          have hb4 := xNum_b (tx := tx) (a := a3) (lo := 0) (hi := (nS ln : Int) - 1) hb3
          obtain ⟨⟨v4, a4, b4⟩, e4⟩ : ∃ r, r = xNum tx a3 0 ((nS ln : Int) - 1) b3 := ⟨_, rfl⟩
          rw [← e4] at hq hR4 hb4 ⊢
          dsimp only at hq hR4 hb4 ⊢
          have hb := fr4.at hb (by omega)
          refine p_cV1 (i := 33) rfl ⟨lX7_80, rfl, rfl⟩ hb ⟨_, rfl, rfl⟩ rfl (x_addLook hL4 (by omega) (fun M5 hL5 fr5 => ?_))
          refine p_iinc (i := 34) rfl rfl rfl ?_
          refine p_goto (i := 35) 21 rfl (by decide) ?_
          obtain ⟨i0, i1, f, k1, k2, hf⟩ := id hR4
          exact ih (i + 1) M5 a4 b4 (l ++ [v4]) (by omega) (by simp; omega) ⟨i0, i1, f, fr5.at k1 (by omega), fr5.at k2 (by omega), hf⟩ hb4 hL5 (((frB.r fr3).r fr4).l fr5) hq
        refine p_cV2 (i := 23) rfl ⟨lX7_47, rfl, rfl⟩ k1 ⟨_, rfl, rfl⟩ rfl (x_accept hR2 hb1 (by omega) (Or.inr rfl) (fun M3 hR3 fr3 z => ?_) (fun M3 hR3 fr3 z => ?_))
        · exact go2 M3 1 hR3 fr3
        · exact go2 M3 0 hR3 fr3
  obtain ⟨i0, i1, f, k1, k2, hf⟩ := id hR
  obtain ⟨o1, o2, o3, kf, bf, lc, lkf, ⟨hb, hk, hr, hc, ⟨gg, hg, hgi⟩, hrow⟩, hkb, hlk⟩ := id hL
  refine C_of okX7_readWearer (by decide) (Nat.le_of_ble_eq_true rfl) ?_
  show P none mX7_readWearer 0 [.ref 1, .ref p, .retAddr 0] [] _ _
  refine p_aload_n (i := 0) rfl rfl ?_
  refine p_cV0 (i := 1) rfl ⟨lX7_77, rfl, rfl⟩ hb ⟨_, rfl, rfl⟩ rfl (x_addWearer hL h6 (fun M1 hL1 fr1 => ?_))
  have hR1 : XR M1 tx a b := ⟨i0, i1, f, fr1.at k1 (by omega), fr1.at k2 (by omega), hf⟩
  obtain ⟨o1', o2, o3, kf, bf, lc, lkf, ⟨hb, hk, hr, hc, ⟨gg, hg, hgi⟩, hrow⟩, hkb, hlk⟩ := id hL1
  have eN : nS (ln.1, ln.2.1, ln.2.2 ++ [[]]) = nS ln := rfl
  rw [eN] at hb
  have k1 := fr1.at k1 (by omega)
  have k2 := fr1.at k2 (by omega)
  refine p_aload_n (i := 2) rfl rfl ?_
  refine p_aload_n (i := 3) rfl rfl ?_
  refine p_iconst (i := 4) rfl ?_
  refine p_aload_n (i := 5) rfl rfl ?_
  refine p_getf (i := 6) rfl fX7_54 hb rfl ?_
  refine p_iconst (i := 7) rfl ?_
  refine p_isub (i := 8) rfl ?_
  refine p_cV2 (i := 9) rfl ⟨lX7_70, rfl, rfl⟩ k1 ⟨_, rfl, rfl⟩ rfl (x_readNumber hR1 hb0 (by omega) (by omega) (fun M2 hR2 fr2 => ?_))
  have hL2 := hL1.fi fr2 (by omega)
  have hb2 := xNum_b (tx := tx) (a := a) (lo := 0) (hi := (nS ln : Int) - 1) hb0
  obtain ⟨⟨v, a1, b1⟩, e2⟩ : ∃ r, r = xNum tx a 0 ((nS ln : Int) - 1) b := ⟨_, rfl⟩
  rw [← e2] at h hR2 hb2 ⊢
  dsimp only at h hR2 hb2 ⊢
  have hb := fr2.at hb (by omega)
  refine p_cV1 (i := 10) rfl ⟨lX7_80, rfl, rfl⟩ hb ⟨_, rfl, rfl⟩ rfl (x_addLook hL2 (by decide) (fun M3 hL3 fr3 => ?_))
  refine p_iconst (i := 11) rfl ?_
  refine p_istore_n (i := 12) rfl rfl ?_
  obtain ⟨i0, i1, f, k1, k2, hf⟩ := id hR2
  exact loop 5 1 M3 a1 b1 [v] (by omega) rfl ⟨i0, i1, f, fr3.at k1 (by omega), fr3.at k2 (by omega), hf⟩ hb2 hL3 (((FrT.rf.l fr1).r fr2).l fr3) h
