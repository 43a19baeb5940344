/-! ===== the reading that stops at the first fault, and the class's that reads on ===== -/
def sLooks (tx : List Int) (ns : Nat) : Nat → Nat → List Int → Except (Int × Int) (Nat × List Int)
  | 0, _, _ => .error (1, 0)
  | f + 1, a, l => match sNum tx a 0 ((ns : Int) - 1) with
    | .error e => .error e
    | .ok (a1, v) => if ch tx (sk tx a1) = 44 then (if f = 0 then .error (1, (sk tx a1 : Nat)) else sLooks tx ns f (sk tx a1 + 1) (l ++ [v])) else if ch tx (sk tx a1) = 59 then .ok (sk tx a1 + 1, l ++ [v]) else .error (1, (sk tx a1 : Nat))
def sScene (tx : List Int) (a : Nat) (ln : LN) : Except (Int × Int) (Nat × LN) :=
  match sNum tx a 0 3 with
  | .error e => .error e
  | .ok (a1, k) => match sNum tx a1 1 99 with
    | .error e => .error e
    | .ok (a2, v) => match sEnd tx a2 59 with
      | .error e => .error e
      | .ok a3 => .ok (a3, (ln.1, ln.2.1 ++ [(k, v)], ln.2.2))
def sClear (tx : List Int) (a : Nat) (ln : LN) : Except (Int × Int) (Nat × LN) :=
  match sNum tx a 1 99 with
  | .error e => .error e
  | .ok (a1, v) => match sEnd tx a1 59 with
    | .error e => .error e
    | .ok a2 => .ok (a2, (v, ln.2))
def sWearer (tx : List Int) (a : Nat) (ln : LN) : Except (Int × Int) (Nat × LN) :=
  match sLooks tx (nS ln) 6 a [] with
  | .error e => .error e
  | .ok (a1, l) => .ok (a1, (ln.1, ln.2.1, ln.2.2 ++ [l]))
/-- a clause, its first letter being at a -/
def sClause (tx : List Int) (a : Nat) (ln : LN) : Except (Int × Int) (Nat × LN) :=
  if ch tx a = 99 then (if 0 < ln.1 then .error (3, (a : Nat)) else sClear tx (a + 1) ln)
  else if ln.1 = 0 then .error (1, (a : Nat))
  else if ch tx a = 115 then (if nS ln = 8 then .error (3, (a : Nat)) else sScene tx (a + 1) ln)
  else if ch tx a = 119 then (if nW ln = 6 then .error (3, (a : Nat)) else sWearer tx (a + 1) ln)
  else .error (1, (a : Nat))
def sRead (tx : List Int) : Nat → Nat → LN → Except (Int × Int) LN
  | 0, _, ln => .ok ln
  | f + 1, a, ln => if ch tx (sk tx a) = -1 then .ok ln else match sClause tx (sk tx a) ln with
    | .error e => .error e
    | .ok (a1, l1) => sRead tx f a1 l1
theorem blm_st {b : Int × Int} {n w : Int} (hb : b.1 ≠ 0) : blm b n w = b := if_neg hb
theorem xNum_ok {tx : List Int} {a a1 : Nat} {lo hi v : Int} {b : Int × Int} (h : sNum tx a lo hi = .ok (a1, v)) : xNum tx a lo hi b = (v, a1, b) := by
  unfold sNum at h
  unfold xNum
  by_cases c : dg (ch tx (sk tx a))
  · rw [if_neg (not_not_intro c)] at h ⊢
    by_cases d : 3 < (nmL tx (tx.length - sk tx a) (sk tx a) 0 0).2.1 ∨ ¬ (lo ≤ (nmL tx (tx.length - sk tx a) (sk tx a) 0 0).2.2 ∧ (nmL tx (tx.length - sk tx a) (sk tx a) 0 0).2.2 ≤ hi)
    · rw [if_pos d] at h; cases h
    · rw [if_neg d] at h ⊢
      cases h
      rfl
  · rw [if_pos c] at h; cases h
theorem xNum_er {tx : List Int} {a : Nat} {lo hi : Int} {b e : Int × Int} (hb : b.1 = 0) (h : sNum tx a lo hi = .error e) : (xNum tx a lo hi b).2.2 = e ∧ e.1 ≠ 0 := by
  unfold sNum at h
  unfold xNum
  by_cases c : dg (ch tx (sk tx a))
  · rw [if_neg (not_not_intro c)] at h ⊢
    by_cases d : 3 < (nmL tx (tx.length - sk tx a) (sk tx a) 0 0).2.1 ∨ ¬ (lo ≤ (nmL tx (tx.length - sk tx a) (sk tx a) 0 0).2.2 ∧ (nmL tx (tx.length - sk tx a) (sk tx a) 0 0).2.2 ≤ hi)
    · rw [if_pos d] at h ⊢
      cases h
      exact ⟨if_pos hb, by dsimp only; decide⟩
    · rw [if_neg d] at h; cases h
  · rw [if_pos c] at h ⊢
    cases h
    exact ⟨if_pos hb, by dsimp only; decide⟩
theorem xNum_st {tx : List Int} {a : Nat} {lo hi : Int} {b : Int × Int} (hb : b.1 ≠ 0) : (xNum tx a lo hi b).2.2 = b := by
  unfold xNum
  split
  · exact blm_st hb
  · dsimp only
    split
    · exact blm_st hb
    · rfl
theorem xAcc_ok {tx : List Int} {a a1 : Nat} {c : Int} {b : Int × Int} (h : sEnd tx a c = .ok a1) : xAcc tx a c 1 b = (a1, b) := by
  unfold sEnd at h
  unfold xAcc
  by_cases d : ch tx (sk tx a) = c
  · rw [if_pos d] at h
    cases h
    rw [if_neg (not_not_intro d), if_neg (by decide)]
  · rw [if_neg d] at h; cases h
theorem xAcc_er {tx : List Int} {a : Nat} {c : Int} {b e : Int × Int} (hb : b.1 = 0) (h : sEnd tx a c = .error e) : (xAcc tx a c 1 b).2 = e ∧ e.1 ≠ 0 := by
  unfold sEnd at h
  unfold xAcc
  by_cases d : ch tx (sk tx a) = c
  · rw [if_pos d] at h; cases h
  · rw [if_neg d] at h
    cases h
    rw [if_pos d]
    exact ⟨if_pos hb, by dsimp only; decide⟩
theorem xAcc_st {tx : List Int} {a : Nat} {c r : Int} {b : Int × Int} (hb : b.1 ≠ 0) : (xAcc tx a c r b).2 = b := by
  unfold xAcc
  split
  · exact blm_st hb
  · split
    · exact blm_st hb
    · rfl
theorem xLooks_st (tx : List Int) (ns : Nat) : ∀ f a b l, b.1 ≠ 0 → (xLooks tx ns f a b l).2.1 = b
  | 0, _, _, _, _ => rfl
  | f + 1, a, b, l, hb => by
    unfold xLooks
    split
    · rw [xLooks_st tx ns f _ _ _ (by rw [xNum_st (by rw [xAcc_st hb]; exact hb), xAcc_st hb]; exact hb), xNum_st (by rw [xAcc_st hb]; exact hb), xAcc_st hb]
    · rfl
/-- what the class's reading comes to, against the one that stops -/
def RX (s : Except (Int × Int) (Nat × LN)) (r : Nat × (Int × Int) × LN) (b : Int × Int) : Prop := match s with
  | .ok (a, ln) => r = (a, b, ln)
  | .error e => r.2.1 = e ∧ e.1 ≠ 0
theorem rx_clear {tx : List Int} {a : Nat} {b : Int × Int} {ln : LN} (hb : b.1 = 0) : RX (sClear tx a ln) (xClear tx a b ln) b := by
  unfold sClear
  cases h : sNum tx a 1 99 with
  | error e =>
    obtain ⟨h1, h2⟩ := xNum_er hb h
    refine ⟨?_, h2⟩
    show (xAcc tx (xNum tx a 1 99 b).2.1 59 1 (xNum tx a 1 99 b).2.2).2 = e
    rw [h1, xAcc_st h2]
  | ok p =>
    obtain ⟨a1, v⟩ := p
    have h1 := xNum_ok (b := b) h
    dsimp only
    cases h3 : sEnd tx a1 59 with
    | error e =>
      obtain ⟨h4, h5⟩ := xAcc_er hb h3
      refine ⟨?_, h5⟩
      show (xAcc tx (xNum tx a 1 99 b).2.1 59 1 (xNum tx a 1 99 b).2.2).2 = e
      rw [h1]
      exact h4
    | ok a2 =>
      show xClear tx a b ln = (a2, b, (v, ln.2))
      unfold xClear
      rw [h1]
      dsimp only
      rw [xAcc_ok h3]
theorem xScene_eq (tx : List Int) (a : Nat) (b : Int × Int) (ln : LN) : xScene tx a b ln = ((xAcc tx (xNum tx (xNum tx a 0 3 b).2.1 1 99 (xNum tx a 0 3 b).2.2).2.1 59 1 (xNum tx (xNum tx a 0 3 b).2.1 1 99 (xNum tx a 0 3 b).2.2).2.2).1, (xAcc tx (xNum tx (xNum tx a 0 3 b).2.1 1 99 (xNum tx a 0 3 b).2.2).2.1 59 1 (xNum tx (xNum tx a 0 3 b).2.1 1 99 (xNum tx a 0 3 b).2.2).2.2).2, if (xAcc tx (xNum tx (xNum tx a 0 3 b).2.1 1 99 (xNum tx a 0 3 b).2.2).2.1 59 1 (xNum tx (xNum tx a 0 3 b).2.1 1 99 (xNum tx a 0 3 b).2.2).2.2).2.1 = 0 then (ln.1, ln.2.1 ++ [((xNum tx a 0 3 b).1, (xNum tx (xNum tx a 0 3 b).2.1 1 99 (xNum tx a 0 3 b).2.2).1)], ln.2.2) else ln) := rfl
theorem rx_scene {tx : List Int} {a : Nat} {b : Int × Int} {ln : LN} (hb : b.1 = 0) : RX (sScene tx a ln) (xScene tx a b ln) b := by
  unfold sScene
  rw [xScene_eq]
  cases h : sNum tx a 0 3 with
  | error e =>
    obtain ⟨h1, h2⟩ := xNum_er hb h
    refine ⟨?_, h2⟩
    dsimp only
    rw [h1, xNum_st h2, xAcc_st h2]
  | ok p =>
    obtain ⟨a1, k⟩ := p
    have h1 := xNum_ok (b := b) h
    dsimp only
    rw [h1]
    dsimp only
    cases h3 : sNum tx a1 1 99 with
    | error e =>
      obtain ⟨h4, h5⟩ := xNum_er hb h3
      refine ⟨?_, h5⟩
      dsimp only
      rw [h4, xAcc_st h5]
    | ok p2 =>
      obtain ⟨a2, v⟩ := p2
      have h4 := xNum_ok (b := b) h3
      dsimp only
      rw [h4]
      dsimp only
      cases h5 : sEnd tx a2 59 with
      | error e =>
        obtain ⟨h6, h7⟩ := xAcc_er hb h5
        exact ⟨h6, h7⟩
      | ok a3 =>
        have h6 := xAcc_ok (b := b) h5
        dsimp only
        rw [h6]
        show (a3, b, if b.1 = 0 then _ else ln) = _
        rw [if_pos hb]
