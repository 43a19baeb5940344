-- the orders of turns, of the reference
def YTl (M : AM) (l : List Nat) : Prop := l.length ≤ 6 ∧ ∃ f, M 287 = some (zA 6 f) ∧ RowA f l
theorem YTl.fi {M M' : AM} {l : List Nat} {a n : Nat} (h : YTl M l) (hf : FrI a n M M') (hd : 288 ≤ a ∨ a + n ≤ 287) : YTl M' l := by
  obtain ⟨h0, f, h1, h2⟩ := h
  exact ⟨h0, f, hf.at h1 (by omega), h2⟩
theorem y_nextOrder {M : AM} {l : List Nat} {n : Nat} {Q : Option Value → AM → Prop} (hH : YH M) (hT : YTl M l) (en : l.length = n) (h2 : 2 ≤ n) (hlt : ∀ i, i < n → l.getD i 0 < 100) (hdi : ∀ i j, i < n → j < n → i ≠ j → l.getD i 0 ≠ l.getD j 0) (hn : nxP l = none → Q (some (zI 0)) M) (hs : ∀ M' r, nxP l = some r → YTl M' r → FrI 287 1 M M' → Q (some (zI 1)) M') : C mX10_nextOrder [.ref 276, zI (n : Int)] M Q := by
  obtain ⟨uy, sy, zy, fy, my, by_, ay, gy, ny, hy_, vy, ry, kY⟩ := id hH
  obtain ⟨l0, f, k1, hr⟩ := id hT
  unfold nxP at hn hs
  have hrc := ris_char l
  have rev : ∀ (c lo hi : Nat) (M1 : AM) (r : List Nat) (v2 v3 v4 : Int), lo + c ≤ 20 → r.length = l.length → hi < l.length → hi ≤ lo + 2 * c → YTl M1 r → FrI 287 1 M M1 → (∀ M', YTl M' (rvs c r lo hi) → FrI 287 1 M M' → Q (some (zI 1)) M') → P none mX10_nextOrder 100 [.ref 276, zI (n : Int), zI v2, zI v3, zI v4, zI (lo : Int), zI (hi : Int)] []  M1 Q := by
    intro c
    induction c with
    | zero =>
      intro lo hi M1 r v2 v3 v4 h20 hrl hhi hc hT1 fr hq
      refine p_iload (i := 64) rfl rfl ?_
      refine p_iload (i := 65) rfl rfl ?_
      refine p_icmp_ge (i := 66) 148 rfl (by decide) (by omega) (by omega) (fun c104 => ?_) (fun c104 => by exfalso; omega)
      refine p_iconst (i := 88) rfl ?_
      refine p_iret (i := 89) rfl rfl (by decide) ?_
      exact hq M1 hT1 fr
    | succ c ih =>
      intro lo hi M1 r v2 v3 v4 h20 hrl hhi hc hT1 fr hq
      unfold rvs at hq
      obtain ⟨m0, f1, k1, hr1⟩ := id hT1
      have kY := fr.at kY (by omega)
      refine p_iload (i := 64) rfl rfl ?_
      refine p_iload (i := 65) rfl rfl ?_
      refine p_icmp_ge (i := 66) 148 rfl (by decide) (by omega) (by omega) (fun c104 => ?_) (fun c104 => ?_)
      · rw [if_neg (by omega)] at hq
        refine p_iconst (i := 88) rfl ?_
        refine p_iret (i := 89) rfl rfl (by decide) ?_
        exact hq M1 hT1 fr
      · rw [if_pos (by omega)] at hq
        refine p_aload_n (i := 67) rfl rfl ?_
        refine p_getf (i := 68) rfl fX10_45 kY rfl ?_
        refine p_iload (i := 69) rfl rfl ?_
        refine p_iaX (i := 70) _ rfl k1 rfl (by omega) (by decide) ?_
        refine p_istore (i := 71) rfl rfl ?_
        refine p_aload_n (i := 72) rfl rfl ?_
        refine p_getf (i := 73) rfl fX10_45 kY rfl ?_
        refine p_iload (i := 74) rfl rfl ?_
        refine p_aload_n (i := 75) rfl rfl ?_
        refine p_getf (i := 76) rfl fX10_45 kY rfl ?_
        refine p_iload (i := 77) rfl rfl ?_
        refine p_iaX (i := 78) _ rfl k1 rfl (by omega) (by decide) ?_
        refine p_isX (i := 79) _ rfl k1 rfl (by omega) (by decide) (P_gen fun M e => ?_)
        have kY := aupN e kY (by omega)
        have fr := fr.up e (by omega)
        have k1 := aupE e
        refine p_aload_n (i := 80) rfl rfl ?_
        refine p_getf (i := 81) rfl fX10_45 kY rfl ?_
        refine p_iload (i := 82) rfl rfl ?_
        refine p_iload (i := 83) rfl rfl ?_
        refine p_isX (i := 84) _ rfl k1 rfl (by omega) (by decide) (P_gen fun M e => ?_)
        have kY := aupN e kY (by omega)
        have fr := fr.up e (by omega)
        have k1 := aupE e
        refine p_iinc (i := 85) rfl rfl rfl ?_
        refine p_iinc (i := 86) rfl rfl rfl ?_
        refine p_goto (i := 87) 100 rfl (by decide) ?_
        rw [show (hi : Int) + (-1) = ((hi - 1 : Nat) : Int) by omega]
        exact ih (lo + 1) (hi - 1) M _ v2 v3 _ (by omega) (by rw [swp_len]; exact hrl) (by omega) (by omega) ⟨by rw [swp_len]; exact m0, _, k1, RowA_swp hr1 (by omega) (by omega)⟩ fr hq
  have sw : ∀ (i j : Nat), ris l = i + 1 → i + 1 ≤ j → j < l.length → grt l i = j → P none mX10_nextOrder 62 [.ref 276, zI (n : Int), zI (i : Int), zI (j : Int), .retAddr 0, .retAddr 0, .retAddr 0] []  M Q := by
    intro i j ei hij hj eg
    rw [ei, if_neg (by omega), Nat.add_sub_cancel, eg] at hs
    have fr : FrI 287 1 M M := FrI.rf
    refine p_aload_n (i := 38) rfl rfl ?_
    refine p_getf (i := 39) rfl fX10_45 kY rfl ?_
    refine p_iload_n (i := 40) rfl rfl ?_
    refine p_iaX (i := 41) _ rfl k1 rfl (by omega) (by decide) ?_
    refine p_istore (i := 42) rfl rfl ?_
    refine p_aload_n (i := 43) rfl rfl ?_
    refine p_getf (i := 44) rfl fX10_45 kY rfl ?_
    refine p_iload_n (i := 45) rfl rfl ?_
    refine p_aload_n (i := 46) rfl rfl ?_
    refine p_getf (i := 47) rfl fX10_45 kY rfl ?_
    refine p_iload_n (i := 48) rfl rfl ?_
    refine p_iaX (i := 49) _ rfl k1 rfl (by omega) (by decide) ?_
    refine p_isX (i := 50) _ rfl k1 rfl (by omega) (by decide) (P_gen fun M e => ?_)
    have kY := aupN e kY (by omega)
    have fr := fr.up e (by omega)
    have k1 := aupE e
    refine p_aload_n (i := 51) rfl rfl ?_
    refine p_getf (i := 52) rfl fX10_45 kY rfl ?_
    refine p_iload_n (i := 53) rfl rfl ?_
    refine p_iload (i := 54) rfl rfl ?_
    refine p_isX (i := 55) _ rfl k1 rfl (by omega) (by decide) (P_gen fun M e => ?_)
    have kY := aupN e kY (by omega)
    have fr := fr.up e (by omega)
    have k1 := aupE e
    refine p_iload_n (i := 56) rfl rfl ?_
    refine p_iconst (i := 57) rfl ?_
    refine p_iadd (i := 58) rfl ?_
    refine p_istore (i := 59) rfl rfl ?_
    refine p_iload_n (i := 60) rfl rfl ?_
    refine p_iconst (i := 61) rfl ?_
    refine p_isub (i := 62) rfl ?_
    refine p_istore (i := 63) rfl rfl ?_
    rw [show (n : Int) - 1 = ((l.length - 1 : Nat) : Int) by omega]
    exact rev 5 (i + 1) (l.length - 1) M _ _ _ _ (by omega) swp_len (by omega) (by omega) ⟨by rw [swp_len]; exact l0, _, k1, RowA_swp hr (by omega) (by omega)⟩ fr (fun M' hT' fr' => hs M' _ rfl hT' fr')
  have gl : ∀ (c i : Nat), ris l = i + 1 → i + 1 + c < l.length → l.getD i 0 < l.getD (i + 1) 0 → (∀ q, i + 1 + c < q → q < l.length → ¬ l.getD i 0 < l.getD q 0) → P none mX10_nextOrder 41 [.ref 276, zI (n : Int), zI (i : Int), zI ((i + 1 + c : Nat) : Int), .retAddr 0, .retAddr 0, .retAddr 0] []  M Q := by
    intro c
    induction c with
    | zero =>
      intro i ei hc hr1 hq
      have e := hr (i + 1) (by omega)
      have e2 := hr i (by omega)
      have x1 := hlt i (by omega)
      have x2 := hlt (i + 1) (by omega)
      obtain ⟨c1, c2, c3, c4⟩ := grt_char l (i := i) hc hr1
      have eg : grt l i = i + 1 := by
        rcases Nat.lt_or_ge (i + 1) (grt l i) with z | z
        · exact absurd c3 (hq _ (by omega) c2)
        · omega
      rw [Nat.add_zero]
      refine p_aload_n (i := 27) rfl rfl ?_
      refine p_getf (i := 28) rfl fX10_45 kY rfl ?_
      refine p_iload_n (i := 29) rfl rfl ?_
      refine p_iaX (i := 30) (i + 1) rfl k1 (by omega) (by omega) (by decide) ?_
      refine p_aload_n (i := 31) rfl rfl ?_
      refine p_getf (i := 32) rfl fX10_45 kY rfl ?_
      refine p_iload_n (i := 33) rfl rfl ?_
      refine p_iaX (i := 34) _ rfl k1 rfl (by omega) (by decide) ?_
      refine p_icmp_ge (i := 35) 62 rfl (by decide) (by omega) (by omega) (fun c53 => ?_) (fun c53 => by exfalso; omega)
      exact sw i (i + 1) ei (by omega) hc eg
    | succ c ih =>
      intro i ei hc hr1 hq
      have e := hr (i + 1 + (c + 1)) (by omega)
      have e2 := hr i (by omega)
      have x1 := hlt i (by omega)
      have x2 := hlt (i + 1 + (c + 1)) (by omega)
      have x3 := hdi i (i + 1 + (c + 1)) (by omega) (by omega) (by omega)
      obtain ⟨c1, c2, c3, c4⟩ := grt_char l (i := i) (by omega) hr1
      refine p_aload_n (i := 27) rfl rfl ?_
      refine p_getf (i := 28) rfl fX10_45 kY rfl ?_
      refine p_iload_n (i := 29) rfl rfl ?_
      refine p_iaX (i := 30) (i + 1 + (c + 1)) rfl k1 (by omega) (by omega) (by decide) ?_
      refine p_aload_n (i := 31) rfl rfl ?_
      refine p_getf (i := 32) rfl fX10_45 kY rfl ?_
      refine p_iload_n (i := 33) rfl rfl ?_
      refine p_iaX (i := 34) _ rfl k1 rfl (by omega) (by decide) ?_
      refine p_icmp_ge (i := 35) 62 rfl (by decide) (by omega) (by omega) (fun c53 => ?_) (fun c53 => ?_)
      · have eg : grt l i = i + 1 + (c + 1) := by
          rcases Nat.lt_or_ge (i + 1 + (c + 1)) (grt l i) with z | z
          · exact absurd c3 (hq _ (by omega) c2)
          · rcases Nat.lt_or_ge (grt l i) (i + 1 + (c + 1)) with z2 | z2
            · exact absurd (show l.getD i 0 < l.getD (i + 1 + (c + 1)) 0 by omega) (c4 _ z2 (by omega))
            · omega
        exact sw i _ ei (by omega) (by omega) eg
      · refine p_iinc (i := 36) rfl rfl rfl ?_
        refine p_goto (i := 37) 41 rfl (by decide) ?_
        rw [show ((i + 1 + (c + 1) : Nat) : Int) + (-1) = ((i + 1 + c : Nat) : Int) by omega]
        refine ih i ei (by omega) hr1 (fun q h3 h4 => ?_)
        by_cases c : q = i + 1 + (c + 1)
        · rw [c]; omega
        · exact hq q (by omega) h4
  have rl : ∀ (k : Nat), k < l.length → (∀ q, k ≤ q → q + 1 < l.length → ¬ l.getD q 0 < l.getD (q + 1) 0) → P none mX10_nextOrder 4 [.ref 276, zI (n : Int), zI ((k : Int) - 1), .retAddr 0, .retAddr 0, .retAddr 0, .retAddr 0] []  M Q := by
    intro k
    induction k with
    | zero =>
      intro hkl hq
      have e0 : ris l = 0 := by
        rcases hrc with ⟨c1, c2⟩ | ⟨c1, c2, c3, c4⟩
        · exact c1
        · have := hq (ris l - 1) (by omega) (by omega)
          rw [show ris l - 1 + 1 = ris l by omega] at this
          exact absurd c3 this
      rw [if_pos e0] at hn
      refine p_iload_n (i := 4) rfl rfl ?_
      refine p_if_lt (i := 5) 31 rfl (by decide) (by omega) (fun c5 => ?_) (fun c5 => by exfalso; omega)
      refine p_iload_n (i := 19) rfl rfl ?_
      refine p_if_ge (i := 20) 37 rfl (by decide) (by omega) (fun c32 => by exfalso; omega) (fun c32 => ?_)
      refine p_iconst (i := 21) rfl ?_
      refine p_iret (i := 22) rfl rfl (by decide) ?_
      exact hn rfl
    | succ k ih =>
      intro hkl hq
      have e := hr (k + 1) (by omega)
      have e2 := hr k (by omega)
      have x1 := hlt k (by omega)
      have x2 := hlt (k + 1) (by omega)
      have x3 := hdi k (k + 1) (by omega) (by omega) (by omega)
      rw [show ((k + 1 : Nat) : Int) - 1 = (k : Int) by omega]
      refine p_iload_n (i := 4) rfl rfl ?_
      refine p_if_lt (i := 5) 31 rfl (by decide) (by omega) (fun c5 => by exfalso; omega) (fun c5 => ?_)
      refine p_aload_n (i := 6) rfl rfl ?_
      refine p_getf (i := 7) rfl fX10_45 kY rfl ?_
      refine p_iload_n (i := 8) rfl rfl ?_
      refine p_iaX (i := 9) (k) rfl k1 (by omega) (by omega) (by decide) ?_
      refine p_aload_n (i := 10) rfl rfl ?_
      refine p_getf (i := 11) rfl fX10_45 kY rfl ?_
      refine p_iload_n (i := 12) rfl rfl ?_
      refine p_iconst (i := 13) rfl ?_
      refine p_iadd (i := 14) rfl ?_
      refine p_iaX (i := 15) (k + 1) rfl k1 (by omega) (by omega) (by decide) ?_
      refine p_icmp_le (i := 16) 31 rfl (by decide) (by omega) (by omega) (fun c22 => ?_) (fun c22 => ?_)
      · have hlt2 : l.getD k 0 < l.getD (k + 1) 0 := by omega
        have er : ris l = k + 1 := by
          rcases hrc with ⟨c1, c2⟩ | ⟨c1, c2, c3, c4⟩
          · exact absurd hlt2 (c2 k hkl)
          · rcases Nat.lt_or_ge (k + 1) (ris l) with z | z
            · have := hq (ris l - 1) (by omega) (by omega)
              rw [show ris l - 1 + 1 = ris l by omega] at this
              exact absurd c3 this
            · rcases Nat.lt_or_ge (ris l) (k + 1) with z2 | z2
              · exact absurd hlt2 (c4 k (by omega) hkl)
              · omega
        refine p_iload_n (i := 19) rfl rfl ?_
        refine p_if_ge (i := 20) 37 rfl (by decide) (by omega) (fun c32 => ?_) (fun c32 => by exfalso; omega)
        refine p_iload_n (i := 23) rfl rfl ?_
        refine p_iconst (i := 24) rfl ?_
        refine p_isub (i := 25) rfl ?_
        refine p_istore_n (i := 26) rfl rfl ?_
        have := gl (n - 1 - (k + 1)) k er (by omega) hlt2 (fun q h3 h4 => by omega)
        rw [show k + 1 + (n - 1 - (k + 1)) = n - 1 by omega, show ((n - 1 : Nat) : Int) = (n : Int) - 1 by omega] at this
        exact this
      ·
        refine p_iinc (i := 17) rfl rfl rfl ?_
        refine p_goto (i := 18) 4 rfl (by decide) ?_
        rw [show (k : Int) + (-1) = (k : Int) - 1 by omega]
        refine ih (by omega) (fun q h3 h4 => ?_)
        by_cases c : q = k
        · rw [c]; omega
        · exact hq q (by omega) h4
  refine C_of okX10_nextOrder (by decide) (Nat.le_of_ble_eq_true rfl) ?_
  show P none mX10_nextOrder 0 [.ref 276, zI (n : Int), .retAddr 0, .retAddr 0, .retAddr 0, .retAddr 0, .retAddr 0] [] _ _
  refine p_iload_n (i := 0) rfl rfl ?_
  refine p_iconst (i := 1) rfl ?_
  refine p_isub (i := 2) rfl ?_
  refine p_istore_n (i := 3) rfl rfl ?_
  have := rl (n - 1) (by omega) (fun q h3 h4 => by omega)
  rw [show ((n - 1 : Nat) : Int) - 1 = (n : Int) - 2 by omega] at this
  exact this
