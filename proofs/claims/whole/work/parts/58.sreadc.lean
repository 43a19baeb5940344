theorem sNum_r {tx : List Int} {a a1 : Nat} {lo hi v : Int} (h : sNum tx a lo hi = .ok (a1, v)) : lo ≤ v ∧ v ≤ hi := by
  unfold sNum at h
  by_cases c : dg (ch tx (sk tx a))
  · rw [if_neg (not_not_intro c)] at h
    by_cases d : 3 < (nmL tx (tx.length - sk tx a) (sk tx a) 0 0).2.1 ∨ ¬ (lo ≤ (nmL tx (tx.length - sk tx a) (sk tx a) 0 0).2.2 ∧ (nmL tx (tx.length - sk tx a) (sk tx a) 0 0).2.2 ≤ hi)
    · rw [if_pos d] at h; cases h
    · rw [if_neg d] at h
      cases h
      omega
  · rw [if_pos c] at h; cases h
theorem sLooks_r (tx : List Int) (ns : Nat) : ∀ (f a : Nat) (l : List Int) (a1 : Nat) (l1 : List Int), l.length + f ≤ 6 → (∀ j, j < l.length → 0 ≤ l.getD j 0 ∧ l.getD j 0 < ns) → sLooks tx ns f a l = .ok (a1, l1) → 1 ≤ l1.length ∧ l1.length ≤ 6 ∧ ∀ j, j < l1.length → 0 ≤ l1.getD j 0 ∧ l1.getD j 0 < ns
  | 0, _, _, _, _, _, _, h => by unfold sLooks at h; cases h
  | f + 1, a, l, a1, l1, hl, hr, h => by
    unfold sLooks at h
    cases hs : sNum tx a 0 ((ns : Int) - 1) with
    | error e => rw [hs] at h; cases h
    | ok p =>
      obtain ⟨a2, v⟩ := p
      rw [hs] at h
      have hv := sNum_r hs
      have hr2 : ∀ j, j < (l ++ [v]).length → 0 ≤ (l ++ [v]).getD j 0 ∧ (l ++ [v]).getD j 0 < ns := fun j hj => by
        have hj : j < l.length + 1 := by simpa using hj
        rw [gd_app hj]
        by_cases c : j = l.length
        · rw [if_pos c]; omega
        · rw [if_neg c]; exact hr j (by omega)
      have el : (l ++ [v]).length = l.length + 1 := by simp
      dsimp only at h
      by_cases c : ch tx (sk tx a2) = 44
      · rw [if_pos c] at h
        by_cases d : f = 0
        · rw [if_pos d] at h; cases h
        · rw [if_neg d] at h
          exact sLooks_r tx ns f _ _ a1 l1 (by omega) hr2 h
      · rw [if_neg c] at h
        by_cases d : ch tx (sk tx a2) = 59
        · rw [if_pos d] at h
          cases h
          exact ⟨by omega, by omega, hr2⟩
        · rw [if_neg d] at h; cases h
theorem sClause_ok {tx : List Int} {a a1 : Nat} {ln l1 : LN} (ho : LnOk ln) (h : sClause tx a ln = .ok (a1, l1)) : LnOk l1 := by
  obtain ⟨o1, o2, o3, o4, o5, o6, o7⟩ := id ho
  unfold sClause at h
  by_cases c1 : ch tx a = 99
  · rw [if_pos c1] at h
    by_cases c2 : 0 < ln.1
    · rw [if_pos c2] at h; cases h
    · rw [if_neg c2] at h
      unfold sClear at h
      cases hs : sNum tx (a + 1) 1 99 with
      | error e => rw [hs] at h; cases h
      | ok p =>
        obtain ⟨a2, v⟩ := p
        rw [hs] at h
        have hv := sNum_r hs
        dsimp only at h
        cases he : sEnd tx a2 59 with
        | error e => rw [he] at h; cases h
        | ok a3 =>
          rw [he] at h
          cases h
          exact ⟨by show 0 ≤ v; omega, hv.2, o3, o4, o5, o6, fun z => by have z : v = 0 := z; omega⟩
  · rw [if_neg c1] at h
    by_cases c2 : ln.1 = 0
    · rw [if_pos c2] at h; cases h
    · rw [if_neg c2] at h
      by_cases c3 : ch tx a = 115
      · rw [if_pos c3] at h
        by_cases c4 : nS ln = 8
        · rw [if_pos c4] at h; cases h
        · rw [if_neg c4] at h
          unfold sScene at h
          cases hs : sNum tx (a + 1) 0 3 with
          | error e => rw [hs] at h; cases h
          | ok p =>
            obtain ⟨a2, k⟩ := p
            rw [hs] at h
            have hk := sNum_r hs
            dsimp only at h
            cases hs2 : sNum tx a2 1 99 with
            | error e => rw [hs2] at h; cases h
            | ok p2 =>
              obtain ⟨a3, v⟩ := p2
              rw [hs2] at h
              have hv := sNum_r hs2
              dsimp only at h
              cases he : sEnd tx a3 59 with
              | error e => rw [he] at h; cases h
              | ok a4 =>
                rw [he] at h
                cases h
                have e1 : nS (ln.1, ln.2.1 ++ [(k, v)], ln.2.2) = nS ln + 1 := by unfold nS; simp
                refine ⟨o1, o2, by omega, o4, fun x hx => ?_, fun w hw => ?_, fun z => absurd z c2⟩
                · rw [e1] at hx
                  unfold kd br
                  have hx2 : x < ln.2.1.length + 1 := hx
                  rw [gd_app hx2]
                  by_cases c : x = ln.2.1.length
                  · rw [if_pos c]; exact ⟨hk.1, hk.2, hv.1, hv.2⟩
                  · rw [if_neg c]
                    have c : ¬ x = nS ln := c
                    exact o5 x (by omega)
                · obtain ⟨w1, w2, w3⟩ := o6 w hw
                  refine ⟨w1, w2, fun j hj => ?_⟩
                  have := w3 j hj
                  rw [e1]
                  have e2 : lk (ln.1, ln.2.1 ++ [(k, v)], ln.2.2) w j = lk ln w j := rfl
                  rw [e2]
                  omega
      · rw [if_neg c3] at h
        by_cases c4 : ch tx a = 119
        · rw [if_pos c4] at h
          by_cases c5 : nW ln = 6
          · rw [if_pos c5] at h; cases h
          · rw [if_neg c5] at h
            unfold sWearer at h
            cases hs : sLooks tx (nS ln) 6 (a + 1) [] with
            | error e => rw [hs] at h; cases h
            | ok p =>
              obtain ⟨a2, l⟩ := p
              rw [hs] at h
              obtain ⟨r1, r2, r3⟩ := sLooks_r tx (nS ln) 6 (a + 1) [] a2 l (by decide) (fun j hj => absurd hj (Nat.not_lt_zero j)) hs
              cases h
              have e1 : nW (ln.1, ln.2.1, ln.2.2 ++ [l]) = nW ln + 1 := by unfold nW; simp
              refine ⟨o1, o2, o3, by omega, o5, fun w hw => ?_, fun z => absurd z c2⟩
              rw [e1] at hw
              have hw2 : w < ln.2.2.length + 1 := hw
              show 1 ≤ ((ln.2.2 ++ [l]).getD w []).length ∧ ((ln.2.2 ++ [l]).getD w []).length ≤ 6 ∧ ∀ j, j < ((ln.2.2 ++ [l]).getD w []).length → 0 ≤ ((ln.2.2 ++ [l]).getD w []).getD j 0 ∧ ((ln.2.2 ++ [l]).getD w []).getD j 0 < (nS ln : Nat)
              rw [gd_app hw2]
              by_cases c : w = ln.2.2.length
              · rw [if_pos c]; exact ⟨r1, r2, r3⟩
              · rw [if_neg c]
                have c : ¬ w = nW ln := c
                exact o6 w (by omega)
        · rw [if_neg c4] at h; cases h
theorem xRead_st (tx : List Int) : ∀ f a b ln, b.1 ≠ 0 → (xRead tx f a b ln).1 = b
  | 0, _, _, _, _ => rfl
  | f + 1, a, b, ln, h => by
    unfold xRead
    rw [if_neg (fun z => h z.1)]
theorem rx_read (tx : List Int) (hch : ∀ i, i < tx.length → 0 ≤ ch tx i) {b : Int × Int} (hb : b.1 = 0) : ∀ (f a : Nat) (ln : LN), LnOk ln → match sRead tx f a ln with
    | .ok l => xRead tx f (sk tx a) b ln = (b, l) ∧ LnOk l
    | .error e => (xRead tx f (sk tx a) b ln).1 = e ∧ e.1 ≠ 0
  | 0, a, ln, ho => ⟨rfl, ho⟩
  | f + 1, a, ln, ho => by
    have e1 : xRead tx (f + 1) (sk tx a) b ln = if b.1 = 0 ∧ sk tx a < tx.length then xRead tx f (sk tx (xClause tx (sk tx a) b ln).1) (xClause tx (sk tx a) b ln).2.1 (xClause tx (sk tx a) b ln).2.2 else (b, ln) := rfl
    rw [e1]
    unfold sRead
    by_cases c : sk tx a < tx.length
    · have := hch _ c
      rw [if_neg (show ¬ ch tx (sk tx a) = -1 by omega), if_pos ⟨hb, c⟩]
      have hx := rx_clause (tx := tx) (a := sk tx a) (ln := ln) hb ho.1 ho.2.2.1 ho.2.2.2.1
      rw [sk_sk] at hx
      cases hs : sClause tx (sk tx a) ln with
      | error e =>
        rw [hs] at hx
        obtain ⟨h1, h2⟩ := hx
        refine ⟨?_, h2⟩
        rw [xRead_st tx f _ _ _ (by rw [h1]; exact h2), h1]
      | ok p =>
        obtain ⟨a1, l1⟩ := p
        rw [hs] at hx
        have hx : xClause tx (sk tx a) b ln = (a1, b, l1) := hx
        rw [hx]
        exact rx_read tx hch hb f a1 l1 (sClause_ok ho hs)
    · rw [if_pos (ch_end (by omega)), if_neg (fun z => c z.2)]
      exact ⟨rfl, ho⟩
