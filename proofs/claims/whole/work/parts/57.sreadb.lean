theorem rx_looks (tx : List Int) (ns : Nat) {b : Int × Int} (hb : b.1 = 0) : ∀ (f a : Nat) (l : List Int), match sLooks tx ns (f + 1) a l with
    | .ok (a', l') => xAcc tx (xLooks tx ns f (xNum tx a 0 ((ns : Int) - 1) b).2.1 (xNum tx a 0 ((ns : Int) - 1) b).2.2 (l ++ [(xNum tx a 0 ((ns : Int) - 1) b).1])).1 59 1 (xLooks tx ns f (xNum tx a 0 ((ns : Int) - 1) b).2.1 (xNum tx a 0 ((ns : Int) - 1) b).2.2 (l ++ [(xNum tx a 0 ((ns : Int) - 1) b).1])).2.1 = (a', b) ∧ (xLooks tx ns f (xNum tx a 0 ((ns : Int) - 1) b).2.1 (xNum tx a 0 ((ns : Int) - 1) b).2.2 (l ++ [(xNum tx a 0 ((ns : Int) - 1) b).1])).2.2 = l'
    | .error e => (xAcc tx (xLooks tx ns f (xNum tx a 0 ((ns : Int) - 1) b).2.1 (xNum tx a 0 ((ns : Int) - 1) b).2.2 (l ++ [(xNum tx a 0 ((ns : Int) - 1) b).1])).1 59 1 (xLooks tx ns f (xNum tx a 0 ((ns : Int) - 1) b).2.1 (xNum tx a 0 ((ns : Int) - 1) b).2.2 (l ++ [(xNum tx a 0 ((ns : Int) - 1) b).1])).2.1).2 = e ∧ e.1 ≠ 0 := by
  intro f
  induction f with
  | zero =>
    intro a l
    unfold sLooks
    cases h : sNum tx a 0 ((ns : Int) - 1) with
    | error e =>
      obtain ⟨h1, h2⟩ := xNum_er hb h
      refine ⟨?_, h2⟩
      show (xAcc tx (xNum tx a 0 ((ns : Int) - 1) b).2.1 59 1 (xNum tx a 0 ((ns : Int) - 1) b).2.2).2 = e
      rw [h1, xAcc_st h2]
    | ok p =>
      obtain ⟨a1, v⟩ := p
      rw [xNum_ok (b := b) h]
      dsimp only
      have e0 : ∀ l2, xLooks tx ns 0 a1 b l2 = (a1, b, l2) := fun _ => rfl
      rw [e0]
      dsimp only
      by_cases c : ch tx (sk tx a1) = 44
      · rw [if_pos c, if_pos rfl]
        have hs : sEnd tx a1 59 = .error (1, (sk tx a1 : Nat)) := by unfold sEnd; rw [if_neg (by rw [c]; decide)]
        exact xAcc_er hb hs
      · rw [if_neg c]
        by_cases d : ch tx (sk tx a1) = 59
        · rw [if_pos d]
          have hs : sEnd tx a1 59 = .ok (sk tx a1 + 1) := by unfold sEnd; rw [if_pos d]
          exact ⟨xAcc_ok hs, rfl⟩
        · rw [if_neg d]
          have hs : sEnd tx a1 59 = .error (1, (sk tx a1 : Nat)) := by unfold sEnd; rw [if_neg d]
          exact xAcc_er hb hs
  | succ f ih =>
    intro a l
    unfold sLooks
    cases h : sNum tx a 0 ((ns : Int) - 1) with
    | error e =>
      obtain ⟨h1, h2⟩ := xNum_er hb h
      refine ⟨?_, h2⟩
      rw [h1]
      rw [xLooks_st tx ns (f + 1) _ _ _ h2, xAcc_st h2]
    | ok p =>
      obtain ⟨a1, v⟩ := p
      rw [xNum_ok (b := b) h]
      dsimp only
      by_cases c : ch tx (sk tx a1) = 44
      · rw [if_pos c, if_neg (by omega)]
        have hs : sEnd tx (sk tx a1) 44 = .ok (sk tx a1 + 1) := by unfold sEnd; rw [sk_sk, if_pos c]
        have e1 : xLooks tx ns (f + 1) a1 b (l ++ [v]) = xLooks tx ns f (xNum tx (sk tx a1 + 1) 0 ((ns : Int) - 1) b).2.1 (xNum tx (sk tx a1 + 1) 0 ((ns : Int) - 1) b).2.2 (l ++ [v] ++ [(xNum tx (sk tx a1 + 1) 0 ((ns : Int) - 1) b).1]) := by
          show (if ch tx (sk tx a1) = 44 then _ else _) = _
          rw [if_pos c, xAcc_ok hs]
        rw [e1]
        exact ih (sk tx a1 + 1) (l ++ [v])
      · rw [if_neg c]
        have e1 : xLooks tx ns (f + 1) a1 b (l ++ [v]) = (sk tx a1, b, l ++ [v]) := by
          show (if ch tx (sk tx a1) = 44 then _ else _) = _
          rw [if_neg c]
        rw [e1]
        dsimp only
        by_cases d : ch tx (sk tx a1) = 59
        · rw [if_pos d]
          have hs : sEnd tx (sk tx a1) 59 = .ok (sk tx a1 + 1) := by unfold sEnd; rw [sk_sk, if_pos d]
          exact ⟨xAcc_ok hs, rfl⟩
        · rw [if_neg d]
          have hs : sEnd tx (sk tx a1) 59 = .error (1, (sk tx a1 : Nat)) := by unfold sEnd; rw [sk_sk, if_neg d]
          exact xAcc_er hb hs
theorem rx_wearer {tx : List Int} {a : Nat} {b : Int × Int} {ln : LN} (hb : b.1 = 0) : RX (sWearer tx a ln) (xWearer tx a b ln) b := by
  have h := rx_looks tx (nS ln) hb 5 a []
  have e : xWearer tx a b ln = ((xAcc tx (xLooks tx (nS ln) 5 (xNum tx a 0 ((nS ln : Int) - 1) b).2.1 (xNum tx a 0 ((nS ln : Int) - 1) b).2.2 ([] ++ [(xNum tx a 0 ((nS ln : Int) - 1) b).1])).1 59 1 (xLooks tx (nS ln) 5 (xNum tx a 0 ((nS ln : Int) - 1) b).2.1 (xNum tx a 0 ((nS ln : Int) - 1) b).2.2 ([] ++ [(xNum tx a 0 ((nS ln : Int) - 1) b).1])).2.1).1, (xAcc tx (xLooks tx (nS ln) 5 (xNum tx a 0 ((nS ln : Int) - 1) b).2.1 (xNum tx a 0 ((nS ln : Int) - 1) b).2.2 ([] ++ [(xNum tx a 0 ((nS ln : Int) - 1) b).1])).1 59 1 (xLooks tx (nS ln) 5 (xNum tx a 0 ((nS ln : Int) - 1) b).2.1 (xNum tx a 0 ((nS ln : Int) - 1) b).2.2 ([] ++ [(xNum tx a 0 ((nS ln : Int) - 1) b).1])).2.1).2, (ln.1, ln.2.1, ln.2.2 ++ [(xLooks tx (nS ln) 5 (xNum tx a 0 ((nS ln : Int) - 1) b).2.1 (xNum tx a 0 ((nS ln : Int) - 1) b).2.2 ([] ++ [(xNum tx a 0 ((nS ln : Int) - 1) b).1])).2.2])) := rfl
  rw [e]
  unfold sWearer
  cases hs : sLooks tx (nS ln) 6 a [] with
  | error e2 =>
    rw [hs] at h
    exact h
  | ok p =>
    obtain ⟨a1, l⟩ := p
    rw [hs] at h
    obtain ⟨h1, h2⟩ := h
    show _ = (a1, b, (ln.1, ln.2.1, ln.2.2 ++ [l]))
    rw [h1, h2]
theorem rx_clause {tx : List Int} {a : Nat} {b : Int × Int} {ln : LN} (hb : b.1 = 0) (h0 : 0 ≤ ln.1) (h8 : nS ln ≤ 8) (h6 : nW ln ≤ 6) : RX (sClause tx (sk tx a) ln) (xClause tx a b ln) b := by
  have yes : ∀ c, ch tx (sk tx a) = c → xAcc tx (sk tx a) c 1 b = (sk tx a + 1, b) := fun c e => xAcc_ok (by unfold sEnd; rw [sk_sk, if_pos e])
  have no : ∀ c, ¬ ch tx (sk tx a) = c → (xAcc tx (sk tx a) c 1 b).2 = ((1, ((sk tx a : Nat) : Int)) : Int × Int) := fun c e => (xAcc_er hb (e := (1, (sk tx a : Nat))) (by unfold sEnd; rw [sk_sk, if_neg e])).1
  have full : ∀ c, ch tx (sk tx a) = c → (xAcc tx (sk tx a) c 0 b).2 = ((3, ((sk tx a : Nat) : Int)) : Int × Int) := fun c e => by
    unfold xAcc
    rw [sk_sk, if_neg (not_not_intro e), if_pos rfl]
    exact if_pos hb
  have n1 : ((1, ((sk tx a : Nat) : Int)) : Int × Int).1 ≠ 0 := by dsimp only; decide
  have n3 : ((3, ((sk tx a : Nat) : Int)) : Int × Int).1 ≠ 0 := by dsimp only; decide
  by_cases c0 : ln.1 = 0
  · by_cases c1 : ch tx (sk tx a) = 99
    · have eS : sClause tx (sk tx a) ln = sClear tx (sk tx a + 1) ln := by unfold sClause; rw [if_pos c1, if_neg (by omega)]
      have eX : xClause tx a b ln = xClear tx (sk tx a + 1) b ln := by unfold xClause; rw [if_pos c0, yes 99 c1, if_pos hb]
      rw [eS, eX]
      exact rx_clear hb
    · have eS : sClause tx (sk tx a) ln = .error (1, (sk tx a : Nat)) := by unfold sClause; rw [if_neg c1, if_pos c0]
      have eX : xClause tx a b ln = ((xAcc tx (sk tx a) 99 1 b).1, (xAcc tx (sk tx a) 99 1 b).2, ln) := by unfold xClause; rw [if_pos c0, if_neg (by rw [no 99 c1]; exact n1)]
      rw [eS, eX]
      exact ⟨no 99 c1, n1⟩
  · by_cases c1 : ch tx (sk tx a) = 99
    · have eS : sClause tx (sk tx a) ln = .error (3, (sk tx a : Nat)) := by unfold sClause; rw [if_pos c1, if_pos (by omega)]
      have eX : xClause tx a b ln = (sk tx a, blm b 3 (sk tx a : Nat), ln) := by unfold xClause; rw [if_neg c0, if_neg (by omega), if_neg (by omega), if_pos c1]
      rw [eS, eX]
      exact ⟨if_pos hb, n3⟩
    · by_cases c2 : ch tx (sk tx a) = 115
      · by_cases c3 : nS ln < 8
        · have eS : sClause tx (sk tx a) ln = sScene tx (sk tx a + 1) ln := by unfold sClause; rw [if_neg c1, if_neg c0, if_pos c2, if_neg (by omega)]
          have eX : xClause tx a b ln = xScene tx (sk tx a + 1) b ln := by unfold xClause; rw [if_neg c0, if_pos c2, if_pos c3, yes 115 c2, if_pos hb]
          rw [eS, eX]
          exact rx_scene hb
        · have eS : sClause tx (sk tx a) ln = .error (3, (sk tx a : Nat)) := by unfold sClause; rw [if_neg c1, if_neg c0, if_pos c2, if_pos (by omega)]
          have eX : xClause tx a b ln = ((xAcc tx (sk tx a) 115 0 b).1, (xAcc tx (sk tx a) 115 0 b).2, ln) := by unfold xClause; rw [if_neg c0, if_pos c2, if_neg c3]
          rw [eS, eX]
          exact ⟨full 115 c2, n3⟩
      · by_cases c4 : ch tx (sk tx a) = 119
        · by_cases c3 : nW ln < 6
          · have eS : sClause tx (sk tx a) ln = sWearer tx (sk tx a + 1) ln := by unfold sClause; rw [if_neg c1, if_neg c0, if_neg c2, if_pos c4, if_neg (by omega)]
            have eX : xClause tx a b ln = xWearer tx (sk tx a + 1) b ln := by unfold xClause; rw [if_neg c0, if_neg c2, if_pos c4, if_pos c3, yes 119 c4, if_pos hb]
            rw [eS, eX]
            exact rx_wearer hb
          · have eS : sClause tx (sk tx a) ln = .error (3, (sk tx a : Nat)) := by unfold sClause; rw [if_neg c1, if_neg c0, if_neg c2, if_pos c4, if_pos (by omega)]
            have eX : xClause tx a b ln = ((xAcc tx (sk tx a) 119 0 b).1, (xAcc tx (sk tx a) 119 0 b).2, ln) := by unfold xClause; rw [if_neg c0, if_neg c2, if_pos c4, if_neg c3]
            rw [eS, eX]
            exact ⟨full 119 c4, n3⟩
        · have eS : sClause tx (sk tx a) ln = .error (1, (sk tx a : Nat)) := by unfold sClause; rw [if_neg c1, if_neg c0, if_neg c2, if_neg c4]
          have eX : xClause tx a b ln = (sk tx a, blm b 1 (sk tx a : Nat), ln) := by unfold xClause; rw [if_neg c0, if_neg c2, if_neg c4, if_neg c1]
          rw [eS, eX]
          exact ⟨if_pos hb, n1⟩
