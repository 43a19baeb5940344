-- the orders of turns, of the class
def XTl (M : AM) (l : List Nat) : Prop := l.length ≤ 5 ∧ ∃ f, M 230 = some (zO 8 [.ref 231, zI (l.length : Nat)]) ∧ M 231 = some (zA 5 f) ∧ RowA f l
theorem XTl.fi {M M' : AM} {l : List Nat} {a n : Nat} (h : XTl M l) (hf : FrI a n M M') (hd : 232 ≤ a ∨ a + n ≤ 230) : XTl M' l := by
  obtain ⟨h0, f, h1, h2, h3⟩ := h
  exact ⟨h0, f, hf.at h1 (by omega), hf.at h2 (by omega), h3⟩
theorem XTl.tu {M : AM} {l : List Nat} (h : XTl M l) : XTu M := by
  obtain ⟨h0, f, h1, h2, h3⟩ := h
  exact ⟨f, _, h1, h2⟩
theorem x_tbegin {M : AM} {s : Nat} {Q : Option Value → AM → Prop} (hT : XTu M) (hs : s < 64) (hp : popc s ≤ 5) (h : ∀ M', XTl M' (bgL s 6 0 []) → FrI 230 2 M M' → Q none M') : C mX8_begin [.ref 230, zI (s : Int)] M Q := by
  have hlen : (bgL s 6 0 []).length = popc s := bgL_len ⟨s, hs⟩
  have loop : ∀ (c k : Nat) (M1 : AM) (l : List Nat), k + c = 6 → XTl M1 l → bgL s c k l = bgL s 6 0 [] → FrI 230 2 M M1 → P none mX8_begin 7 [.ref 230, zI (s : Int), zI (k : Int)] []  M1 Q := by
    intro c
    induction c with
    | zero =>
      intro k M1 l hkc hl e fr
      refine p_iload_n (i := 5) rfl rfl ?_
      refine p_bipush (i := 6) rfl (by decide) ?_
      refine p_icmp_ge (i := 7) 56 rfl (by decide) (by omega) (by omega) (fun c10 => ?_) (fun c10 => by exfalso; omega)
      refine p_ret (i := 33) rfl rfl ?_
      have e : l = bgL s 6 0 [] := e
      rw [e] at hl
      exact h M1 hl fr
    | succ c ih =>
      intro k M1 l hkc hl e fr
      unfold bgL at e
      obtain ⟨l0, f, k1, k2, hr⟩ := id hl
      refine p_iload_n (i := 5) rfl rfl ?_
      refine p_bipush (i := 6) rfl (by decide) ?_
      refine p_icmp_ge (i := 7) 56 rfl (by decide) (by omega) (by omega) (fun c10 => by exfalso; omega) (fun c10 => ?_)
      refine p_iload_n (i := 8) rfl rfl ?_
      refine p_iload_n (i := 9) rfl rfl ?_
      refine p_ishrN (i := 10) rfl (by omega) (by omega) ?_
      refine p_iconst (i := 11) rfl ?_
      refine p_iand1 (i := 12) rfl ?_
      refine p_iconst (i := 13) rfl ?_
      refine p_icmp_ne (i := 14) 50 rfl (by decide) (by omega) (by omega) (fun c19 => ?_) (fun c19 => ?_)
      · rw [if_neg (by omega)] at e
        refine p_iinc (i := 31) rfl rfl rfl ?_
        refine p_goto (i := 32) 7 rfl (by decide) ?_
        exact ih (k + 1) M1 l (by omega) hl (by rw [e]; rfl) fr
      · rw [if_pos (by omega)] at e
        have hm := bgL_mono s c (k + 1) (l ++ [k])
        have ha : (l ++ [k]).length = l.length + 1 := by simp
        have e2 : bgL s c (k + 1) (l ++ [k]) = bgL s 6 0 [] := by rw [e]; rfl
        rw [e2] at hm
        refine p_aload_n (i := 15) rfl rfl ?_
        refine p_getf (i := 16) rfl fX8_15 k1 rfl ?_
        refine p_iconst (i := 17) rfl ?_
        refine p_icmp_ge (i := 18) 50 rfl (by decide) (by omega) (by omega) (fun c27 => by exfalso; omega) (fun c27 => ?_)
        refine p_aload_n (i := 19) rfl rfl ?_
        refine p_getf (i := 20) rfl fX8_9 k1 rfl ?_
        refine p_aload_n (i := 21) rfl rfl ?_
        refine p_getf (i := 22) rfl fX8_15 k1 rfl ?_
        refine p_iload_n (i := 23) rfl rfl ?_
        refine p_isX (i := 24) (l.length) rfl k2 (by omega) (by omega) (by decide) (P_gen fun M e => ?_)
        have k1 := aupN e k1 (by omega)
        have fr := fr.up e (by omega)
        have k2 := aupE e
        refine p_aload_n (i := 25) rfl rfl ?_
        refine p_dup (i := 26) rfl rfl ?_
        refine p_getf (i := 27) rfl fX8_15 k1 rfl ?_
        refine p_iconst (i := 28) rfl ?_
        refine p_iadd (i := 29) rfl ?_
        refine p_puti (i := 30) rfl gX8_15 k1 rfl (P_gen fun M e => ?_)
        have k2 := aupN e k2 (by omega)
        have fr := fr.up e (by omega)
        have k1 := aupE e
        refine p_iinc (i := 31) rfl rfl rfl ?_
        refine p_goto (i := 32) 7 rfl (by decide) ?_
        have eT : ((l.length : Nat) : Int) + 1 = (((l ++ [k]).length : Nat) : Int) := by omega
        rw [eT] at k1
        exact ih (k + 1) M (l ++ [k]) (by omega) ⟨by omega, _, k1, k2, hr.app⟩ e2 fr
  obtain ⟨f, z, k1, k2⟩ := id hT
  have fr : FrI 230 2 M M := FrI.rf
  refine C_of okX8_begin (by decide) (Nat.le_of_ble_eq_true rfl) ?_
  show P none mX8_begin 0 [.ref 230, zI (s : Int), .retAddr 0] [] _ _
  refine p_aload_n (i := 0) rfl rfl ?_
  refine p_iconst (i := 1) rfl ?_
  refine p_puti (i := 2) rfl gX8_15 k1 rfl (P_gen fun M e => ?_)
  have k2 := aupN e k2 (by omega)
  have fr := fr.up e (by omega)
  have k1 := aupE e
  refine p_iconst (i := 3) rfl ?_
  refine p_istore_n (i := 4) rfl rfl ?_
  exact loop 6 0 M [] (by omega) ⟨by decide, f, k1, k2, fun i hi => absurd hi (Nat.not_lt_zero i)⟩ rfl fr
theorem x_tfigures {M : AM} {l : List Nat} {Q : Option Value → AM → Prop} (hT : XTl M l) (h : Q (some (zI (fig l))) M) : C mX8_figures [.ref 230] M Q := by
  obtain ⟨l0, f, k1, k2, hr⟩ := id hT
  have loop : ∀ (c k : Nat) (s : Int), k + c = l.length → Q (some (zI (fo (fun i s => s * 10 + (l.getD i 0 : Nat) + 1) c k s))) M → P none mX8_figures 4 [.ref 230, zI s, zI (k : Int)] []  M Q := by
    intro c
    induction c with
    | zero =>
      intro k s hkc hq
      refine p_iload_n (i := 4) rfl rfl ?_
      refine p_aload_n (i := 5) rfl rfl ?_
      refine p_getf (i := 6) rfl fX8_15 k1 rfl ?_
      refine p_icmp_ge (i := 7) 37 rfl (by decide) (by omega) (by omega) (fun c9 => ?_) (fun c9 => by exfalso; omega)
      refine p_iload_n (i := 24) rfl rfl ?_
      refine p_iret (i := 25) rfl rfl (rfl) ?_
      exact hq
    | succ c ih =>
      intro k s hkc hq
      have e := hr k (by omega)
      refine p_iload_n (i := 4) rfl rfl ?_
      refine p_aload_n (i := 5) rfl rfl ?_
      refine p_getf (i := 6) rfl fX8_15 k1 rfl ?_
      refine p_icmp_ge (i := 7) 37 rfl (by decide) (by omega) (by omega) (fun c9 => by exfalso; omega) (fun c9 => ?_)
      refine p_iload_n (i := 8) rfl rfl ?_
      refine p_iconst (i := 9) rfl ?_
      refine p_icmp_ge (i := 10) 37 rfl (by decide) (by omega) (by omega) (fun c14 => by exfalso; omega) (fun c14 => ?_)
      refine p_iload_n (i := 11) rfl rfl ?_
      refine p_bipush (i := 12) rfl (by decide) ?_
      refine p_imul (i := 13) rfl ?_
      refine p_aload_n (i := 14) rfl rfl ?_
      refine p_getf (i := 15) rfl fX8_9 k1 rfl ?_
      refine p_iload_n (i := 16) rfl rfl ?_
      refine p_iaX (i := 17) _ rfl k2 rfl (by omega) (by decide) ?_
      refine p_iadd (i := 18) rfl ?_
      refine p_iconst (i := 19) rfl ?_
      refine p_iadd (i := 20) rfl ?_
      refine p_istore_n (i := 21) rfl rfl ?_
      refine p_iinc (i := 22) rfl rfl rfl ?_
      refine p_goto (i := 23) 4 rfl (by decide) ?_
      rw [e]
      exact ih (k + 1) _ (by omega) hq
  refine C_of okX8_figures (by decide) (Nat.le_of_ble_eq_true rfl) ?_
  show P none mX8_figures 0 [.ref 230, .retAddr 0, .retAddr 0] [] _ _
  refine p_iconst (i := 0) rfl ?_
  refine p_istore_n (i := 1) rfl rfl ?_
  refine p_iconst (i := 2) rfl ?_
  refine p_istore_n (i := 3) rfl rfl ?_
  exact loop l.length 0 0 (by omega) h
theorem x_tlastRise {M : AM} {l : List Nat} {Q : Option Value → AM → Prop} (hT : XTl M l) (hlt : ∀ i, i < l.length → l.getD i 0 < 100) (h : Q (some (zI ((ris l : Nat) - 1))) M) : C mX8_lastRise [.ref 230] M Q := by
  obtain ⟨l0, f, k1, k2, hr⟩ := id hT
  have loop : ∀ (c k r : Nat), k + c = l.length - 1 → fo (fun i r => if l.getD i 0 < l.getD (i + 1) 0 then i + 1 else r) c k r = ris l → P none mX8_lastRise 4 [.ref 230, zI ((r : Int) - 1), zI (k : Int)] []  M Q := by
    intro c
    induction c with
    | zero =>
      intro k r hkc hq
      have hq : r = ris l := hq
      refine p_iload_n (i := 4) rfl rfl ?_
      refine p_iconst (i := 5) rfl ?_
      refine p_iadd (i := 6) rfl ?_
      refine p_aload_n (i := 7) rfl rfl ?_
      refine p_getf (i := 8) rfl fX8_15 k1 rfl ?_
      refine p_icmp_ge (i := 9) 46 rfl (by decide) (by omega) (by omega) (fun c11 => ?_) (fun c11 => by exfalso; omega)
      refine p_iload_n (i := 30) rfl rfl ?_
      refine p_iret (i := 31) rfl rfl (rfl) ?_
      rw [hq]
      exact h
    | succ c ih =>
      intro k r hkc hq
      have hq : fo (fun i r => if l.getD i 0 < l.getD (i + 1) 0 then i + 1 else r) c (k + 1) (if l.getD k 0 < l.getD (k + 1) 0 then k + 1 else r) = ris l := hq
      have e := hr k (by omega)
      have e2 := hr (k + 1) (by omega)
      have b1 := hlt k (by omega)
      have b2 := hlt (k + 1) (by omega)
      refine p_iload_n (i := 4) rfl rfl ?_
      refine p_iconst (i := 5) rfl ?_
      refine p_iadd (i := 6) rfl ?_
      refine p_aload_n (i := 7) rfl rfl ?_
      refine p_getf (i := 8) rfl fX8_15 k1 rfl ?_
      refine p_icmp_ge (i := 9) 46 rfl (by decide) (by omega) (by omega) (fun c11 => by exfalso; omega) (fun c11 => ?_)
      refine p_iload_n (i := 10) rfl rfl ?_
      refine p_iconst (i := 11) rfl ?_
      refine p_iadd (i := 12) rfl ?_
      refine p_iconst (i := 13) rfl ?_
      refine p_icmp_ge (i := 14) 46 rfl (by decide) (by omega) (by omega) (fun c18 => by exfalso; omega) (fun c18 => ?_)
      refine p_aload_n (i := 15) rfl rfl ?_
      refine p_getf (i := 16) rfl fX8_9 k1 rfl ?_
      refine p_iload_n (i := 17) rfl rfl ?_
      refine p_iaX (i := 18) _ rfl k2 rfl (by omega) (by decide) ?_
      refine p_aload_n (i := 19) rfl rfl ?_
      refine p_getf (i := 20) rfl fX8_9 k1 rfl ?_
      refine p_iload_n (i := 21) rfl rfl ?_
      refine p_iconst (i := 22) rfl ?_
      refine p_iadd (i := 23) rfl ?_
      refine p_iaX (i := 24) (k + 1) rfl k2 (by omega) (by omega) (by decide) ?_
      refine p_icmp_ge (i := 25) 40 rfl (by decide) (by omega) (by omega) (fun c35 => ?_) (fun c35 => ?_)
      · rw [if_neg (by omega)] at hq
        refine p_iinc (i := 28) rfl rfl rfl ?_
        refine p_goto (i := 29) 4 rfl (by decide) ?_
        exact ih (k + 1) r (by omega) hq
      · rw [if_pos (by omega)] at hq
        refine p_iload_n (i := 26) rfl rfl ?_
        refine p_istore_n (i := 27) rfl rfl ?_
        refine p_iinc (i := 28) rfl rfl rfl ?_
        refine p_goto (i := 29) 4 rfl (by decide) ?_
        have := ih (k + 1) (k + 1) (by omega) hq
        rw [show ((k + 1 : Nat) : Int) - 1 = (k : Int) by omega] at this
        exact this
  refine C_of okX8_lastRise (by decide) (Nat.le_of_ble_eq_true rfl) ?_
  show P none mX8_lastRise 0 [.ref 230, .retAddr 0, .retAddr 0] [] _ _
  refine p_iconst (i := 0) rfl ?_
  refine p_istore_n (i := 1) rfl rfl ?_
  refine p_iconst (i := 2) rfl ?_
  refine p_istore_n (i := 3) rfl rfl ?_
  exact loop (l.length - 1) 0 0 (by omega) rfl
theorem x_tswap {M : AM} {l : List Nat} {i j : Nat} {Q : Option Value → AM → Prop} (hT : XTl M l) (hi : i < l.length) (hj : j < l.length) (h : ∀ M', XTl M' (swp l i j) → FrI 230 2 M M' → Q none M') : C mX8_swap [.ref 230, zI (i : Int), zI (j : Int)] M Q := by
  obtain ⟨l0, f, k1, k2, hr⟩ := id hT
  have fr : FrI 230 2 M M := FrI.rf
  refine C_of okX8_swap (by decide) (Nat.le_of_ble_eq_true rfl) ?_
  show P none mX8_swap 0 [.ref 230, zI (i : Int), zI (j : Int), .retAddr 0] [] _ _
  refine p_iload_n (i := 0) rfl rfl ?_
  refine p_if_lt (i := 1) 44 rfl (by decide) (by omega) (fun c1 => by exfalso; omega) (fun c1 => ?_)
  refine p_iload_n (i := 2) rfl rfl ?_
  refine p_iconst (i := 3) rfl ?_
  refine p_icmp_ge (i := 4) 44 rfl (by decide) (by omega) (by omega) (fun c6 => by exfalso; omega) (fun c6 => ?_)
  refine p_iload_n (i := 5) rfl rfl ?_
  refine p_if_lt (i := 6) 44 rfl (by decide) (by omega) (fun c10 => by exfalso; omega) (fun c10 => ?_)
  refine p_iload_n (i := 7) rfl rfl ?_
  refine p_iconst (i := 8) rfl ?_
  refine p_icmp_ge (i := 9) 44 rfl (by decide) (by omega) (by omega) (fun c15 => by exfalso; omega) (fun c15 => ?_)
  refine p_aload_n (i := 10) rfl rfl ?_
  refine p_getf (i := 11) rfl fX8_9 k1 rfl ?_
  refine p_iload_n (i := 12) rfl rfl ?_
  refine p_iaX (i := 13) _ rfl k2 rfl (by omega) (by decide) ?_
  refine p_istore_n (i := 14) rfl rfl ?_
  refine p_aload_n (i := 15) rfl rfl ?_
  refine p_getf (i := 16) rfl fX8_9 k1 rfl ?_
  refine p_iload_n (i := 17) rfl rfl ?_
  refine p_aload_n (i := 18) rfl rfl ?_
  refine p_getf (i := 19) rfl fX8_9 k1 rfl ?_
  refine p_iload_n (i := 20) rfl rfl ?_
  refine p_iaX (i := 21) _ rfl k2 rfl (by omega) (by decide) ?_
  refine p_isX (i := 22) _ rfl k2 rfl (by omega) (by decide) (P_gen fun M e => ?_)
  have k1 := aupN e k1 (by omega)
  have fr := fr.up e (by omega)
  have k2 := aupE e
  refine p_aload_n (i := 23) rfl rfl ?_
  refine p_getf (i := 24) rfl fX8_9 k1 rfl ?_
  refine p_iload_n (i := 25) rfl rfl ?_
  refine p_iload_n (i := 26) rfl rfl ?_
  refine p_isX (i := 27) _ rfl k2 rfl (by omega) (by decide) (P_gen fun M e => ?_)
  have k1 := aupN e k1 (by omega)
  have fr := fr.up e (by omega)
  have k2 := aupE e
  refine p_ret (i := 28) rfl rfl ?_
  exact h M ⟨by rw [swp_len]; exact l0, _, by rw [swp_len]; exact k1, k2, RowA_swp hr hi hj⟩ fr
theorem x_tadvance {M : AM} {l : List Nat} {Q : Option Value → AM → Prop} (hT : XTl M l) (hlt : ∀ i, i < l.length → l.getD i 0 < 100) (hn : nxP l = none → Q (some (zI 0)) M) (hs : ∀ M' r, nxP l = some r → XTl M' r → FrI 230 2 M M' → Q (some (zI 1)) M') : C mX8_advance [.ref 230] M Q := by
  unfold nxP at hn hs
  obtain ⟨l0, f, k1, k2, hr⟩ := id hT
  have hrc := ris_char l
  have rev : ∀ (c lo hi : Nat) (M1 : AM) (r : List Nat) (v1 v2 : Int), lo + c ≤ 20 → r.length = l.length → hi < l.length → hi ≤ lo + 2 * c → XTl M1 r → FrI 230 2 M M1 → (∀ M', XTl M' (rvs c r lo hi) → FrI 230 2 M M' → Q (some (zI 1)) M') → P none mX8_advance 73 [.ref 230, zI v1, zI v2, zI (lo : Int), zI (hi : Int)] []  M1 Q := by
    intro c
    induction c with
    | zero =>
      intro lo hi M1 r v1 v2 h20 hrl hhi hc hT1 fr hq
      refine p_iload_n (i := 48) rfl rfl ?_
      refine p_iload (i := 49) rfl rfl ?_
      refine p_icmp_ge (i := 50) 95 rfl (by decide) (by omega) (by omega) (fun c76 => ?_) (fun c76 => by exfalso; omega)
      refine p_iconst (i := 58) rfl ?_
      refine p_iret (i := 59) rfl rfl (by decide) ?_
      exact hq M1 hT1 fr
    | succ c ih =>
      intro lo hi M1 r v1 v2 h20 hrl hhi hc hT1 fr hq
      unfold rvs at hq
      obtain ⟨l0, f, k1, k2, hr⟩ := id hT1
      refine p_iload_n (i := 48) rfl rfl ?_
      refine p_iload (i := 49) rfl rfl ?_
      refine p_icmp_ge (i := 50) 95 rfl (by decide) (by omega) (by omega) (fun c76 => ?_) (fun c76 => ?_)
      · rw [if_neg (by omega)] at hq
        refine p_iconst (i := 58) rfl ?_
        refine p_iret (i := 59) rfl rfl (by decide) ?_
        exact hq M1 hT1 fr
      · rw [if_pos (by omega)] at hq
        refine p_aload_n (i := 51) rfl rfl ?_
        refine p_iload_n (i := 52) rfl rfl ?_
        refine p_iload (i := 53) rfl rfl ?_
        refine p_cV2 (i := 54) rfl ⟨lX8_23, rfl, rfl⟩ k1 ⟨_, rfl, rfl⟩ rfl (x_tswap hT1 (by omega) (by omega) (fun M2 hT2 fr2 => ?_))
        refine p_iinc (i := 55) rfl rfl rfl ?_
        refine p_iinc (i := 56) rfl rfl rfl ?_
        refine p_goto (i := 57) 73 rfl (by decide) ?_
        rw [show (hi : Int) + (-1) = ((hi - 1 : Nat) : Int) by omega]
        exact ih (lo + 1) (hi - 1) M2 _ v1 v2 (by omega) (by rw [swp_len]; exact hrl) (by omega) (by omega) hT2 (fr.tr fr2) hq
  have gl : ∀ (c k r i : Nat) (v4 : Value), i + 1 < l.length → k + c = l.length → i < k → i < r ∧ r < l.length → fo (fun j r => if l.getD i 0 < l.getD j 0 then j else r) c k r = grt l i → P none mX8_advance 55 [.ref 230, zI (i : Int), zI (grt l i : Nat), zI (l.length : Nat), v4] []  M Q → P none mX8_advance 19 [.ref 230, zI (i : Int), zI (r : Int), zI (k : Int), v4] []  M Q := by
    intro c
    induction c with
    | zero =>
      intro k r i v4 hi hkc hik hrr hq hP
      obtain rfl : k = l.length := by omega
      have hq : r = grt l i := hq
      refine p_iload_n (i := 15) rfl rfl ?_
      refine p_aload_n (i := 16) rfl rfl ?_
      refine p_getf (i := 17) rfl fX8_15 k1 rfl ?_
      refine p_icmp_ge (i := 18) 55 rfl (by decide) (by omega) (by omega) (fun c24 => ?_) (fun c24 => by exfalso; omega)
      rw [hq]
      exact hP
    | succ c ih =>
      intro k r i v4 hi hkc hik hrr hq hP
      have hq : fo (fun j r => if l.getD i 0 < l.getD j 0 then j else r) c (k + 1) (if l.getD i 0 < l.getD k 0 then k else r) = grt l i := hq
      have e := hr k (by omega)
      have e2 := hr i (by omega)
      have b1 := hlt k (by omega)
      have b2 := hlt i (by omega)
      refine p_iload_n (i := 15) rfl rfl ?_
      refine p_aload_n (i := 16) rfl rfl ?_
      refine p_getf (i := 17) rfl fX8_15 k1 rfl ?_
      refine p_icmp_ge (i := 18) 55 rfl (by decide) (by omega) (by omega) (fun c24 => by exfalso; omega) (fun c24 => ?_)
      refine p_iload_n (i := 19) rfl rfl ?_
      refine p_iconst (i := 20) rfl ?_
      refine p_icmp_ge (i := 21) 55 rfl (by decide) (by omega) (by omega) (fun c29 => by exfalso; omega) (fun c29 => ?_)
      refine p_aload_n (i := 22) rfl rfl ?_
      refine p_getf (i := 23) rfl fX8_9 k1 rfl ?_
      refine p_iload_n (i := 24) rfl rfl ?_
      refine p_iaX (i := 25) _ rfl k2 rfl (by omega) (by decide) ?_
      refine p_aload_n (i := 26) rfl rfl ?_
      refine p_getf (i := 27) rfl fX8_9 k1 rfl ?_
      refine p_iload_n (i := 28) rfl rfl ?_
      refine p_iaX (i := 29) _ rfl k2 rfl (by omega) (by decide) ?_
      refine p_icmp_le (i := 30) 49 rfl (by decide) (by omega) (by omega) (fun c44 => ?_) (fun c44 => ?_)
      · rw [if_neg (by omega)] at hq
        refine p_iinc (i := 33) rfl rfl rfl ?_
        refine p_goto (i := 34) 19 rfl (by decide) ?_
        exact ih (k + 1) r i v4 hi (by omega) (by omega) hrr hq hP
      · rw [if_pos (by omega)] at hq
        refine p_iload_n (i := 31) rfl rfl ?_
        refine p_istore_n (i := 32) rfl rfl ?_
        refine p_iinc (i := 33) rfl rfl rfl ?_
        refine p_goto (i := 34) 19 rfl (by decide) ?_
        exact ih (k + 1) k i v4 hi (by omega) (by omega) (by omega) hq hP
  refine C_of okX8_advance (by decide) (Nat.le_of_ble_eq_true rfl) ?_
  show P none mX8_advance 0 [.ref 230, .retAddr 0, .retAddr 0, .retAddr 0, .retAddr 0] [] _ _
  refine p_aload_n (i := 0) rfl rfl ?_
  refine p_cV0 (i := 1) rfl ⟨lX8_19, rfl, rfl⟩ k1 ⟨_, rfl, rfl⟩ rfl (x_tlastRise hT hlt ?_)
  refine p_istore_n (i := 2) rfl rfl ?_
  refine p_iload_n (i := 3) rfl rfl ?_
  refine p_if_ge (i := 4) 11 rfl (by decide) (by omega) (fun c6 => ?_) (fun c6 => ?_)
  · rcases hrc with ⟨c1, c2⟩ | ⟨c1, c2, c3, c4⟩
    · omega
    · obtain ⟨i, ei⟩ : ∃ i, ris l = i + 1 := ⟨ris l - 1, by omega⟩
      rw [ei, if_neg (by omega), Nat.add_sub_cancel] at hs
      rw [ei, Nat.add_sub_cancel] at c3
      have gc := grt_char l (i := i) (by omega) c3
      rw [ei, show ((i + 1 : Nat) : Int) - 1 = (i : Int) by omega]
      refine p_iload_n (i := 7) rfl rfl ?_
      refine p_iconst (i := 8) rfl ?_
      refine p_iadd (i := 9) rfl ?_
      refine p_istore_n (i := 10) rfl rfl ?_
      refine p_iload_n (i := 11) rfl rfl ?_
      refine p_iconst (i := 12) rfl ?_
      refine p_iadd (i := 13) rfl ?_
      refine p_istore_n (i := 14) rfl rfl ?_
      refine gl (l.length - (i + 1)) (i + 1) (i + 1) i _ (by omega) (by omega) (by omega) (by omega) rfl ?_
      refine p_aload_n (i := 35) rfl rfl ?_
      refine p_iload_n (i := 36) rfl rfl ?_
      refine p_iload_n (i := 37) rfl rfl ?_
      refine p_cV2 (i := 38) rfl ⟨lX8_23, rfl, rfl⟩ k1 ⟨_, rfl, rfl⟩ rfl (x_tswap hT (by omega) (by omega) (fun M1 hT1 fr1 => ?_))
      obtain ⟨m0, f1, k1, k2, hr1⟩ := id hT1
      have el : (swp l i (grt l i)).length = l.length := swp_len
      refine p_iload_n (i := 39) rfl rfl ?_
      refine p_iconst (i := 40) rfl ?_
      refine p_iadd (i := 41) rfl ?_
      refine p_istore_n (i := 42) rfl rfl ?_
      refine p_aload_n (i := 43) rfl rfl ?_
      refine p_getf (i := 44) rfl fX8_15 k1 rfl ?_
      refine p_iconst (i := 45) rfl ?_
      refine p_isub (i := 46) rfl ?_
      refine p_istore (i := 47) rfl rfl ?_
      rw [show (((swp l i (grt l i)).length : Nat) : Int) - 1 = ((l.length - 1 : Nat) : Int) by omega]
      exact rev 5 (i + 1) (l.length - 1) M1 _ _ _ (by omega) el (by omega) (by omega) hT1 fr1 (fun M' hT' fr' => hs M' _ rfl hT' fr')
  · rw [if_pos (by omega)] at hn
    refine p_iconst (i := 5) rfl ?_
    refine p_iret (i := 6) rfl rfl (by decide) ?_
    exact hn rfl
