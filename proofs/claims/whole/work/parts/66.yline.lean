-- the reference: line
theorem sNum_ge {tx : List Int} {a a1 : Nat} {lo hi v : Int} (ha : a ≤ tx.length) (h : sNum tx a lo hi = .ok (a1, v)) : a ≤ a1 := by
  unfold sNum at h
  have h1 := (sk_rng tx a)
  have h2 := nmL_rng tx (tx.length - sk tx a) (sk tx a) 0 0 rfl (h1.2.1 ha)
  split at h
  · cases h
  · split at h
    · cases h
    · cases h
      exact Nat.le_trans h1.1 h2.1
theorem sEnd_ge {tx : List Int} {a a1 : Nat} {c : Int} (h : sEnd tx a c = .ok a1) : a < a1 := by
  unfold sEnd at h
  have h1 := (sk_rng tx a).1
  split at h
  · cases h
    exact Nat.lt_succ_of_le h1
  · cases h
theorem sLooks_ge (tx : List Int) (ns : Nat) : ∀ (f a a1 : Nat) (l l1 : List Int), a ≤ tx.length → sLooks tx ns f a l = .ok (a1, l1) → a ≤ a1
  | 0, a, a1, l, l1, ha, h => by cases h
  | f + 1, a, a1, l, l1, ha, h => by
    unfold sLooks at h
    cases e : sNum tx a 0 ((ns : Int) - 1) with
    | error e2 => rw [e] at h; cases h
    | ok p =>
      obtain ⟨a2, v⟩ := p
      rw [e] at h
      have h0 := sNum_ge ha e
      have hin := sNum_in (tx := tx) (lo := 0) (hi := (ns : Int) - 1) ha
      rw [e] at hin
      have hin : a2 ≤ tx.length := hin
      have h1 := (sk_rng tx a2)
      dsimp only at h
      split at h
      · split at h
        · cases h
        · rename_i c _
          have hlt : sk tx a2 < tx.length := by
            rcases Nat.lt_or_ge (sk tx a2) tx.length with z | z
            · exact z
            · rw [ch_end z] at c; exact absurd c (by decide)
          have := sLooks_ge tx ns f _ _ _ _ hlt h
          omega
      · split at h
        · cases h; omega
        · cases h
theorem sClause_gt {tx : List Int} {a a1 : Nat} {ln l1 : LN} (ha : a < tx.length) (h : sClause tx a ln = .ok (a1, l1)) : a < a1 := by
  unfold sClause at h
  split at h
  · split at h
    · cases h
    · unfold sClear at h
      cases e : sNum tx (a + 1) 1 99 with
      | error e2 => rw [e] at h; cases h
      | ok p =>
        obtain ⟨a2, v⟩ := p
        rw [e] at h
        have h0 := sNum_ge (by omega) e
        dsimp only at h
        cases e3 : sEnd tx a2 59 with
        | error e2 => rw [e3] at h; cases h
        | ok a3 =>
          rw [e3] at h
          cases h
          have := sEnd_ge e3
          omega
  · split at h
    · cases h
    · split at h
      · split at h
        · cases h
        · unfold sScene at h
          cases e : sNum tx (a + 1) 0 3 with
          | error e2 => rw [e] at h; cases h
          | ok p =>
            obtain ⟨a2, v⟩ := p
            rw [e] at h
            have h0 := sNum_ge (by omega) e
            have hin := sNum_in (tx := tx) (a := a + 1) (lo := 0) (hi := 3) (by omega)
            rw [e] at hin
            have hin : a2 ≤ tx.length := hin
            dsimp only at h
            cases e4 : sNum tx a2 1 99 with
            | error e2 => rw [e4] at h; cases h
            | ok p =>
              obtain ⟨a4, v4⟩ := p
              rw [e4] at h
              have h4 := sNum_ge hin e4
              dsimp only at h
              cases e3 : sEnd tx a4 59 with
              | error e2 => rw [e3] at h; cases h
              | ok a3 =>
                rw [e3] at h
                cases h
                have := sEnd_ge e3
                omega
      · split at h
        · split at h
          · cases h
          · unfold sWearer at h
            cases e : sLooks tx (nS ln) 6 (a + 1) [] with
            | error e2 => rw [e] at h; cases h
            | ok p =>
              obtain ⟨a2, v⟩ := p
              rw [e] at h
              cases h
              have := sLooks_ge tx (nS ln) 6 (a + 1) _ _ _ (by omega) e
              omega
        · cases h
theorem YLn.cg {f f' : Nat → Int} {ln : LN} (h : YLn f ln) (ho : LnOk ln) (e : ∀ q, q < 61 → f' q = f q) : YLn f' ln := by
  obtain ⟨n0, n1, n2, n3, n4⟩ := h
  obtain ⟨o1, o2, o3, o4, -, o6, -⟩ := ho
  refine ⟨by rw [e _ (by omega)]; exact n0, by rw [e _ (by omega)]; exact n1, by rw [e _ (by omega)]; exact n2, fun x hx => ?_, fun j hj => ?_⟩
  · rw [e _ (by omega), e _ (by omega)]
    exact n3 x hx
  · have h6 := (o6 j hj).2.1
    rw [e _ (by omega)]
    refine ⟨(n4 j hj).1, fun q hq => ?_⟩
    rw [e _ (by omega)]
    exact (n4 j hj).2 q hq
theorem YLn.zero {f : Nat → Int} (h : ∀ q, q < 61 → f q = 0) : YLn f (0, [], []) := ⟨h 0 (by decide), h 1 (by decide), h 2 (by decide), fun x hx => absurd hx (Nat.not_lt_zero x), fun x hx => absurd hx (Nat.not_lt_zero x)⟩
def Fr3 (a b c : Nat) (M M' : AM) : Prop := Fr (fun q => q ≠ a ∧ q ≠ b ∧ q ≠ c) M M'
theorem Fr3.rf {a b c : Nat} {M : AM} : Fr3 a b c M M := Fr.rf
theorem Fr3.up {a b d k : Nat} {M M' M'' : AM} {c : AE} (h : Fr3 a b d M M') (e : M'' = aup M' k c) (hk : k = a ∨ k = b ∨ k = d) : Fr3 a b d M M'' := Fr.up h e (fun z => by
  have z : k ≠ a ∧ k ≠ b ∧ k ≠ d := z
  omega)
theorem Fr3.at {a b d o : Nat} {M M' : AM} {x : AE} (h : Fr3 a b d M M') (hM : M o = some x) (ho : o ≠ a ∧ o ≠ b ∧ o ≠ d) : M' o = some x := Fr.at h hM ho
theorem Fr3.fi {a b d : Nat} {M M' : AM} (h : Fr3 a b d M M') {p n : Nat} (hp : (p ≤ a ∧ a < p + n) ∧ (p ≤ b ∧ b < p + n) ∧ (p ≤ d ∧ d < p + n)) : FrI p n M M' := Fr.weak h (fun q hq => by
  have hq : q < p ∨ p + n ≤ q := hq
  show q ≠ a ∧ q ≠ b ∧ q ≠ d
  omega)
theorem y_begins {M : AM} {w : YF} {at0 bg sg fg vl wr : Int} {f : Nat → Int} {h : Nat → Int} {Q : Option Value → AM → Prop} (hS : YS M w at0 bg sg fg vl wr) (kT : M 279 = some (zA 120 f)) (kK : M 283 = some (zB 2 h)) (hq : ∀ M' f' h', YS M' (0, w.2.1, w.2.2.1, w.2.2.2.1, 0, 0) at0 bg sg fg vl wr → M' 279 = some (zA 120 f') → (∀ q, q < 120 → f' q = if q = 31 then -1 else 0) → M' 283 = some (zB 2 h') → h' 0 = 0 → h' 1 = 0 → Fr3 276 279 283 M M' → Q none M') : C mX10_begins [.ref 276] M Q := by
  have loop : ∀ (c i : Nat) (M1 : AM) (f1 : Nat → Int), c + i = 120 → YS M1 w at0 bg sg fg vl wr → M1 279 = some (zA 120 f1) → (∀ q, q < i → f1 q = 0) → M1 283 = some (zB 2 h) → Fr3 276 279 283 M M1 → P none mX10_begins 2 [.ref 276, zI (i : Nat)] []  M1 Q := by
    intro c
    induction c with
    | zero =>
      intro i M1 f1 e1 kY kT hz kK fr
      unfold YS at kY
      refine p_iload_n (i := 2) rfl rfl ?_
      refine p_bipush (i := 3) rfl (by decide) ?_
      refine p_icmp_ge (i := 4) 21 rfl (by decide) (by omega) (by omega) (fun c5 => ?_) (fun c5 => by exfalso; omega)
      refine p_aload_n (i := 12) rfl rfl ?_
      refine p_getf (i := 13) rfl fX10_16 kY rfl ?_
      refine p_bipush (i := 14) rfl (by decide) ?_
      refine p_iconst (i := 15) rfl ?_
      refine p_isX (i := 16) (31) rfl kT (by omega) (by omega) (by decide) (P_gen fun M e => ?_)
      have kY := aupN e kY (by omega)
      have kK := aupN e kK (by omega)
      have fr := fr.up e (by omega)
      have kT := aupE e
      refine p_aload_n (i := 17) rfl rfl ?_
      refine p_iconst (i := 18) rfl ?_
      refine p_puti (i := 19) rfl gX10_48 kY rfl (P_gen fun M e => ?_)
      have kT := aupN e kT (by omega)
      have kK := aupN e kK (by omega)
      have fr := fr.up e (by omega)
      have kY := aupE e
      refine p_aload_n (i := 20) rfl rfl ?_
      refine p_iconst (i := 21) rfl ?_
      refine p_puti (i := 22) rfl gX10_51 kY rfl (P_gen fun M e => ?_)
      have kT := aupN e kT (by omega)
      have kK := aupN e kK (by omega)
      have fr := fr.up e (by omega)
      have kY := aupE e
      refine p_aload_n (i := 23) rfl rfl ?_
      refine p_iconst (i := 24) rfl ?_
      refine p_puti (i := 25) rfl gX10_54 kY rfl (P_gen fun M e => ?_)
      have kT := aupN e kT (by omega)
      have kK := aupN e kK (by omega)
      have fr := fr.up e (by omega)
      have kY := aupE e
      refine p_aload_n (i := 26) rfl rfl ?_
      refine p_getf (i := 27) rfl fX10_28 kY rfl ?_
      refine p_iconst (i := 28) rfl ?_
      refine p_iconst (i := 29) rfl ?_
      refine p_zsX (i := 30) (0) rfl kK (by omega) (by omega) (by decide) (by omega) (P_gen fun M e => ?_)
      have kY := aupN e kY (by omega)
      have kT := aupN e kT (by omega)
      have fr := fr.up e (by omega)
      have kK := aupE e
      refine p_aload_n (i := 31) rfl rfl ?_
      refine p_getf (i := 32) rfl fX10_28 kY rfl ?_
      refine p_iconst (i := 33) rfl ?_
      refine p_iconst (i := 34) rfl ?_
      refine p_zsX (i := 35) (1) rfl kK (by omega) (by omega) (by decide) (by omega) (P_gen fun M e => ?_)
      have kY := aupN e kY (by omega)
      have kT := aupN e kT (by omega)
      have fr := fr.up e (by omega)
      have kK := aupE e
      refine p_ret (i := 36) rfl rfl ?_
      refine hq M _ _ kY kT (fun q hq => ?_) kK ?_ ?_ fr
      · by_cases z : q = 31
        · rw [if_pos z, z, zup_e]
        · rw [if_neg z, zup_n z]; exact hz q (by omega)
      · rw [zup_n (by omega), zup_e]
      · rw [zup_e]
    | succ c ih =>
      intro i M1 f1 e1 kY kT hz kK fr
      unfold YS at kY
      refine p_iload_n (i := 2) rfl rfl ?_
      refine p_bipush (i := 3) rfl (by decide) ?_
      refine p_icmp_ge (i := 4) 21 rfl (by decide) (by omega) (by omega) (fun c5 => by exfalso; omega) (fun c5 => ?_)
      refine p_aload_n (i := 5) rfl rfl ?_
      refine p_getf (i := 6) rfl fX10_16 kY rfl ?_
      refine p_iload_n (i := 7) rfl rfl ?_
      refine p_iconst (i := 8) rfl ?_
      refine p_isX (i := 9) _ rfl kT rfl (by omega) (by decide) (P_gen fun M e => ?_)
      have kY := aupN e kY (by omega)
      have kK := aupN e kK (by omega)
      have fr := fr.up e (by omega)
      have kT := aupE e
      refine p_iinc (i := 10) rfl rfl rfl ?_
      refine p_goto (i := 11) 2 rfl (by decide) ?_
      refine ih (i + 1) M _ (by omega) kY kT (fun q hq => ?_) kK fr
      by_cases z : q = i
      · rw [z, zup_e]
      · rw [zup_n z]; exact hz q (by omega)
  refine C_of okX10_begins (by decide) (Nat.le_of_ble_eq_true rfl) ?_
  show P none mX10_begins 0 [.ref 276, .retAddr 0] [] _ _
  refine p_iconst (i := 0) rfl ?_
  refine p_istore_n (i := 1) rfl rfl ?_
  exact loop 120 0 M f rfl hS kT (fun q hq => absurd hq (Nat.not_lt_zero q)) kK Fr3.rf
