/-- where a reading may stop -/
def ErR (tx : List Int) (e : Int × Int) : Prop := 1 ≤ e.1 ∧ e.1 ≤ 3 ∧ 0 ≤ e.2 ∧ e.2 ≤ tx.length
theorem erR {tx : List Int} {n : Int} {a : Nat} (hn : 1 ≤ n ∧ n ≤ 3) (ha : a ≤ tx.length) : ErR tx (n, (a : Nat)) := ⟨hn.1, hn.2, by show (0 : Int) ≤ (a : Nat); omega, by show ((a : Nat) : Int) ≤ (tx.length : Nat); omega⟩
def InR (tx : List Int) {α : Type} (s : Except (Int × Int) (Nat × α)) : Prop := match s with
  | .error e => ErR tx e
  | .ok (a, _) => a ≤ tx.length
theorem sNum_in {tx : List Int} {a : Nat} {lo hi : Int} (ha : a ≤ tx.length) : InR tx (sNum tx a lo hi) := by
  have hk := (sk_rng tx a).2.1 ha
  have hn := nmL_rng tx (tx.length - sk tx a) (sk tx a) 0 0 rfl hk
  unfold sNum
  by_cases c : dg (ch tx (sk tx a))
  · rw [if_neg (not_not_intro c)]
    by_cases d : 3 < (nmL tx (tx.length - sk tx a) (sk tx a) 0 0).2.1 ∨ ¬ (lo ≤ (nmL tx (tx.length - sk tx a) (sk tx a) 0 0).2.2 ∧ (nmL tx (tx.length - sk tx a) (sk tx a) 0 0).2.2 ≤ hi)
    · rw [if_pos d]; exact erR (by omega) hk
    · rw [if_neg d]; exact hn.2.1
  · rw [if_pos c]; exact erR (by omega) hk
theorem ch_lt {tx : List Int} {a : Nat} {c : Int} (h : ch tx a = c) (hc : 0 ≤ c) : a < tx.length := by
  rcases Nat.lt_or_ge a tx.length with z | z
  · exact z
  · rw [ch_end z] at h; omega
theorem sEnd_in {tx : List Int} {a : Nat} (ha : a ≤ tx.length) : match sEnd tx a 59 with
    | .error e => ErR tx e
    | .ok a1 => a1 ≤ tx.length := by
  have hk := (sk_rng tx a).2.1 ha
  unfold sEnd
  by_cases d : ch tx (sk tx a) = 59
  · rw [if_pos d]; exact ch_lt d (by decide)
  · rw [if_neg d]; exact erR (by omega) hk
theorem sLooks_in (tx : List Int) (ns : Nat) : ∀ (f a : Nat) (l : List Int), a ≤ tx.length → InR tx (sLooks tx ns f a l)
  | 0, _, _, _ => ⟨by decide, by decide, by decide, by show (0 : Int) ≤ (tx.length : Nat); omega⟩
  | f + 1, a, l, ha => by
    have hn := sNum_in (lo := 0) (hi := (ns : Int) - 1) ha
    unfold sLooks
    cases hs : sNum tx a 0 ((ns : Int) - 1) with
    | error e => rw [hs] at hn; exact hn
    | ok p =>
      obtain ⟨a2, v⟩ := p
      rw [hs] at hn
      have hn : a2 ≤ tx.length := hn
      have hk := (sk_rng tx a2).2.1 hn
      dsimp only
      by_cases c : ch tx (sk tx a2) = 44
      · rw [if_pos c]
        by_cases d : f = 0
        · rw [if_pos d]; exact erR (by omega) hk
        · rw [if_neg d]; exact sLooks_in tx ns f _ _ (ch_lt c (by decide))
      · rw [if_neg c]
        by_cases d : ch tx (sk tx a2) = 59
        · rw [if_pos d]; exact ch_lt d (by decide)
        · rw [if_neg d]; exact erR (by omega) hk
theorem sClear_in {tx : List Int} {a : Nat} {ln : LN} (ha : a ≤ tx.length) : InR tx (sClear tx a ln) := by
  have hn := sNum_in (lo := 1) (hi := 99) ha
  unfold sClear
  cases hs : sNum tx a 1 99 with
  | error e => rw [hs] at hn; exact hn
  | ok p =>
    obtain ⟨a2, v⟩ := p
    rw [hs] at hn
    have he := sEnd_in (tx := tx) (a := a2) hn
    dsimp only
    cases h3 : sEnd tx a2 59 with
    | error e => rw [h3] at he; exact he
    | ok a3 => rw [h3] at he; exact he
theorem sScene_in {tx : List Int} {a : Nat} {ln : LN} (ha : a ≤ tx.length) : InR tx (sScene tx a ln) := by
  have hn := sNum_in (lo := 0) (hi := 3) ha
  unfold sScene
  cases hs : sNum tx a 0 3 with
  | error e => rw [hs] at hn; exact hn
  | ok p =>
    obtain ⟨a2, v⟩ := p
    rw [hs] at hn
    have hn2 := sNum_in (tx := tx) (a := a2) (lo := 1) (hi := 99) hn
    dsimp only
    cases hs2 : sNum tx a2 1 99 with
    | error e => rw [hs2] at hn2; exact hn2
    | ok p2 =>
      obtain ⟨a4, v2⟩ := p2
      rw [hs2] at hn2
      have he := sEnd_in (tx := tx) (a := a4) hn2
      dsimp only
      cases h3 : sEnd tx a4 59 with
      | error e => rw [h3] at he; exact he
      | ok a3 => rw [h3] at he; exact he
theorem sWearer_in {tx : List Int} {a : Nat} {ln : LN} (ha : a ≤ tx.length) : InR tx (sWearer tx a ln) := by
  have hn := sLooks_in tx (nS ln) 6 a [] ha
  unfold sWearer
  cases hs : sLooks tx (nS ln) 6 a [] with
  | error e => rw [hs] at hn; exact hn
  | ok p =>
    obtain ⟨a2, v⟩ := p
    rw [hs] at hn
    exact hn
theorem sClause_in {tx : List Int} {a : Nat} {ln : LN} (ha : a < tx.length) : InR tx (sClause tx a ln) := by
  have h1 : a ≤ tx.length := Nat.le_of_lt ha
  unfold sClause
  split
  · split
    · exact erR (by omega) h1
    · exact sClear_in ha
  · split
    · exact erR (by omega) h1
    · split
      · split
        · exact erR (by omega) h1
        · exact sScene_in ha
      · split
        · split
          · exact erR (by omega) h1
          · exact sWearer_in ha
        · exact erR (by omega) h1
theorem sRead_in (tx : List Int) : ∀ (f a : Nat) (ln : LN) (e : Int × Int), a ≤ tx.length → sRead tx f a ln = .error e → ErR tx e
  | 0, _, _, _, _, h => by cases h
  | f + 1, a, ln, e, ha, h => by
    unfold sRead at h
    by_cases c : ch tx (sk tx a) = -1
    · rw [if_pos c] at h; cases h
    · rw [if_neg c] at h
      have hlt : sk tx a < tx.length := by
        rcases Nat.lt_or_ge (sk tx a) tx.length with z | z
        · exact z
        · exact absurd (ch_end z) c
      have hi := sClause_in (tx := tx) (a := sk tx a) (ln := ln) hlt
      cases hs : sClause tx (sk tx a) ln with
      | error e2 =>
        rw [hs] at h hi
        cases h
        exact hi
      | ok p =>
        obtain ⟨a1, l1⟩ := p
        rw [hs] at h hi
        exact sRead_in tx f a1 l1 e hi h
def a_line : ST → Int × ST
  | (tx, _, ln, g, un, i0, i1, sd, me, bo) => match sRead tx 241 0 (0, [], []) with
    | .error e => (-10 - e.1, ([], e.2, ln, g, un, i0, i1, sd, me, bo))
    | .ok l => ((nS l : Nat), ([], -1, l, g0, [], none, none, sd, [], []))
theorem ln0_ok : LnOk (0, [], []) := ⟨by decide, by decide, by decide, by decide, fun x hx => absurd hx (Nat.not_lt_zero x), fun w hw => absurd hw (Nat.not_lt_zero w), fun _ => ⟨rfl, rfl⟩⟩
