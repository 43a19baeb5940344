/-! ===== what to wipe: the fewest layers, purely ===== -/
def okL (ln : LN) (Ls : List LY) (set wi : Nat) : Nat → Nat → Int
  | 0, _ => 1
  | f + 1, k => if set / 2 ^ k % 2 = 0 ∨ tk ln Ls (k : Int) 0 wi = (k : Int) then okL ln Ls set wi f (k + 1) else 0
def gdy (ln : LN) (Ls : List LY) (set : Nat) : Nat → Nat → Nat
  | 0, wi => wi
  | f + 1, wi => if okL ln Ls set wi (nS ln) 0 = 1 then wi else gdy ln Ls set f (if sb Ls wi = -1 then wi else wi ||| 2 ^ (sb Ls wi).toNat)
theorem okL_01 (ln : LN) (Ls : List LY) (set wi : Nat) : ∀ f k, okL ln Ls set wi f k = 0 ∨ okL ln Ls set wi f k = 1
  | 0, _ => Or.inr rfl
  | f + 1, k => by
    unfold okL
    split
    · exact okL_01 ln Ls set wi f (k + 1)
    · exact Or.inl rfl
theorem okL_iff {ln : LN} {Ls : List LY} {set wi : Nat} : ∀ f k, okL ln Ls set wi f k = 1 ↔ ∀ x, k ≤ x → x < k + f → set / 2 ^ x % 2 = 0 ∨ tk ln Ls (x : Int) 0 wi = (x : Int)
  | 0, k => ⟨fun _ x h1 h2 => by omega, fun _ => rfl⟩
  | f + 1, k => by
    unfold okL
    have ih := okL_iff (ln := ln) (Ls := Ls) (set := set) (wi := wi) f (k + 1)
    by_cases c : set / 2 ^ k % 2 = 0 ∨ tk ln Ls (k : Int) 0 wi = (k : Int)
    · rw [if_pos c, ih]
      constructor
      · intro h x h1 h2
        by_cases e : x = k
        · rw [e]; exact c
        · exact h x (by omega) (by omega)
      · exact fun h x h1 h2 => h x (by omega) (by omega)
    · rw [if_neg c]
      constructor
      · intro h; exact absurd h (by decide)
      · intro h; exact absurd (h k (Nat.le_refl k) (by omega)) c
theorem sb_char (Ls : List LY) (wi : Nat) (h : ∀ k, k < Ls.length → 0 ≤ lT Ls k) : (sb Ls wi = -1 ∧ ∀ k, k < Ls.length → wi / 2 ^ k % 2 = 1) ∨ (0 ≤ sb Ls wi ∧ sb Ls wi < Ls.length ∧ wi / 2 ^ (sb Ls wi).toNat % 2 = 0 ∧ ∀ k, k < Ls.length → wi / 2 ^ k % 2 = 0 → lT Ls k ≤ lT Ls (sb Ls wi).toNat ∧ (lT Ls k = lT Ls (sb Ls wi).toNat → (k : Int) ≤ sb Ls wi)) := by
  have hi := fo_inv (step := sbStep Ls wi) (fun j s => (s.1 = -1 ∧ s.2 = 0 ∧ ∀ k, k < j → wi / 2 ^ k % 2 = 1) ∨ (0 ≤ s.1 ∧ s.1 < j ∧ wi / 2 ^ s.1.toNat % 2 = 0 ∧ s.2 = lT Ls s.1.toNat ∧ ∀ k, k < j → wi / 2 ^ k % 2 = 0 → lT Ls k ≤ s.2 ∧ (lT Ls k = s.2 → (k : Int) ≤ s.1))) Ls.length 0 (-1, 0) (Or.inl ⟨rfl, rfl, fun k hk => absurd hk (Nat.not_lt_zero k)⟩) (fun j s _ hj hI => by
    have hT := h j (by omega)
    have hb : wi / 2 ^ j % 2 = 0 ∨ wi / 2 ^ j % 2 = 1 := by omega
    unfold sbStep
    by_cases c : wi / 2 ^ j % 2 = 0 ∧ s.2 ≤ lT Ls j
    · rw [if_pos c]
      right
      refine ⟨by show (0 : Int) ≤ (j : Int); omega, by show (j : Int) < ((j + 1 : Nat) : Int); omega, c.1, by show lT Ls j = lT Ls (j : Int).toNat; rw [Int.toNat_natCast], fun k hk hb => ?_⟩
      show lT Ls k ≤ lT Ls j ∧ (lT Ls k = lT Ls j → (k : Int) ≤ (j : Int))
      by_cases e : k = j
      · subst e; exact ⟨Int.le_refl _, fun _ => Int.le_refl _⟩
      · rcases hI with ⟨i1, i2, i3⟩ | ⟨i1, i2, i3, i4, i5⟩
        · have := i3 k (by omega); omega
        · have := i5 k (by omega) hb
          exact ⟨by omega, fun _ => by omega⟩
    · rw [if_neg c]
      rcases hI with ⟨i1, i2, i3⟩ | ⟨i1, i2, i3, i4, i5⟩
      · left
        refine ⟨i1, i2, fun k hk => ?_⟩
        by_cases e : k = j
        · subst e; omega
        · exact i3 k (by omega)
      · right
        refine ⟨i1, by omega, i3, i4, fun k hk hb2 => ?_⟩
        by_cases e : k = j
        · subst e; exact ⟨by omega, fun z => by omega⟩
        · exact i5 k (by omega) hb2)
  rw [Nat.zero_add] at hi
  have e : sb Ls wi = (fo (sbStep Ls wi) Ls.length 0 (-1, 0)).1 := rfl
  rw [← e] at hi
  rcases hi with ⟨i1, i2, i3⟩ | ⟨i1, i2, i3, i4, i5⟩
  · exact Or.inl ⟨i1, i3⟩
  · rw [i4] at i5
    exact Or.inr ⟨i1, i2, i3, i5⟩
def Sub (a b : Nat) : Prop := ∀ k, a / 2 ^ k % 2 = 1 → b / 2 ^ k % 2 = 1
theorem bit_tb (n k : Nat) : n.testBit k = decide (n / 2 ^ k % 2 = 1) := Nat.testBit_eq_decide_div_mod_eq
theorem bit_or (a j k : Nat) : (a ||| 2 ^ j) / 2 ^ k % 2 = 1 ↔ a / 2 ^ k % 2 = 1 ∨ j = k := by
  have h : (a ||| 2 ^ j).testBit k = (a.testBit k || decide (j = k)) := by rw [Nat.testBit_or, Nat.testBit_two_pow]
  rw [bit_tb, bit_tb] at h
  by_cases c : j = k
  · rw [decide_eq_true c, Bool.or_true, decide_eq_true_eq] at h
    exact ⟨fun _ => Or.inr c, fun _ => h⟩
  · rw [decide_eq_false c, Bool.or_false] at h
    have h := decide_eq_decide.mp h
    exact ⟨fun z => Or.inl (h.mp z), fun z => h.mpr (z.resolve_right c)⟩
/-- where the strongest left is not wiped, it decides as before -/
theorem sb_same {Ls : List LY} {wi m : Nat} (h : ∀ k, k < Ls.length → 0 ≤ lT Ls k) (hs : Sub wi m) (h0 : 0 ≤ sb Ls wi) (hm : m / 2 ^ (sb Ls wi).toNat % 2 = 0) : sb Ls m = sb Ls wi := by
  rcases sb_char Ls wi h with ⟨e, _⟩ | ⟨a1, a2, a3, a4⟩
  · omega
  · rcases sb_char Ls m h with ⟨e, f⟩ | ⟨b1, b2, b3, b4⟩
    · have := f (sb Ls wi).toNat (by omega); omega
    · have c1 : wi / 2 ^ (sb Ls m).toNat % 2 = 0 := by
        rcases (show wi / 2 ^ (sb Ls m).toNat % 2 = 0 ∨ wi / 2 ^ (sb Ls m).toNat % 2 = 1 by omega) with z | z
        · exact z
        · have := hs _ z; omega
      have d1 := a4 (sb Ls m).toNat (by omega) c1
      have d2 := b4 (sb Ls wi).toNat (by omega) hm
      have e1 : lT Ls (sb Ls m).toNat = lT Ls (sb Ls wi).toNat := by omega
      have e2 := d1.2 e1
      have e3 := d2.2 e1.symm
      omega
theorem gdy_sub {ln : LN} {Ls : List LY} {set m : Nat} (h : ∀ k, k < Ls.length → 0 ≤ lT Ls k) (hm : okL ln Ls set m (nS ln) 0 = 1) : ∀ f wi, Sub wi m → Sub (gdy ln Ls set f wi) m
  | 0, wi, hs => hs
  | f + 1, wi, hs => by
    unfold gdy
    by_cases c : okL ln Ls set wi (nS ln) 0 = 1
    · rw [if_pos c]; exact hs
    · rw [if_neg c]
      by_cases e : sb Ls wi = -1
      · rw [if_pos e]; exact gdy_sub h hm f wi hs
      · rw [if_neg e]
        refine gdy_sub h hm f _ (fun k hk => ?_)
        rcases (bit_or wi _ k).mp hk with z | z
        · exact hs k z
        · subst z
          have hr := sb_rng Ls wi
          rcases (show m / 2 ^ (sb Ls wi).toNat % 2 = 0 ∨ m / 2 ^ (sb Ls wi).toNat % 2 = 1 by omega) with w | w
          · exfalso
            have es := sb_same h hs (by omega) w
            refine c ((okL_iff (nS ln) 0).mpr (fun x h1 h2 => ?_))
            rcases (okL_iff (nS ln) 0).mp hm x h1 h2 with q | q
            · exact Or.inl q
            · right
              unfold tk at q ⊢
              rw [es] at q
              exact q
          · exact w
theorem popc_or : ∀ (n : Fin 1024) (k : Fin 10), n.val / 2 ^ k.val % 2 = 0 → popc (n.val ||| 2 ^ k.val) = popc n.val + 1 := by decide +kernel
theorem popc_all : ∀ n : Fin 1024, 10 ≤ popc n.val → n.val = 1023 := by decide +kernel
theorem bit_1023 : ∀ k : Fin 10, 1023 / 2 ^ k.val % 2 = 1 := by decide
theorem gdy_ok {ln : LN} {Ls : List LY} {set : Nat} (h : ∀ k, k < Ls.length → 0 ≤ lT Ls k) (hl : Ls.length ≤ 10) : ∀ f wi, wi < 2 ^ Ls.length → 10 ≤ popc wi + f → okL ln Ls set (gdy ln Ls set f wi) (nS ln) 0 = 1 ∧ gdy ln Ls set f wi < 2 ^ Ls.length
  | 0, wi, hw, hp => by
    have h10 : 2 ^ Ls.length ≤ 2 ^ 10 := Nat.pow_le_pow_right (by decide) hl
    have e := popc_all ⟨wi, by omega⟩ hp
    have e : wi = 1023 := e
    refine ⟨?_, hw⟩
    show okL ln Ls set wi (nS ln) 0 = 1
    rw [okL_iff]
    intro x _ _
    right
    unfold tk
    rw [if_neg]
    intro z
    rcases sb_char Ls wi h with ⟨e1, _⟩ | ⟨a1, a2, a3, a4⟩
    · omega
    · rw [e] at a3 a1 a2
      have := bit_1023 ⟨(sb Ls 1023).toNat, by omega⟩
      have : 1023 / 2 ^ (sb Ls 1023).toNat % 2 = 1 := this
      omega
  | f + 1, wi, hw, hp => by
    have h10 : 2 ^ Ls.length ≤ 2 ^ 10 := Nat.pow_le_pow_right (by decide) hl
    unfold gdy
    by_cases c : okL ln Ls set wi (nS ln) 0 = 1
    · rw [if_pos c]; exact ⟨c, hw⟩
    · rw [if_neg c]
      rcases sb_char Ls wi h with ⟨e1, _⟩ | ⟨a1, a2, a3, a4⟩
      · exfalso
        refine c ((okL_iff (nS ln) 0).mpr (fun x _ _ => Or.inr ?_))
        unfold tk
        rw [if_neg (by omega)]
      · rw [if_neg (by omega)]
        refine gdy_ok h hl f _ (or_lt hw (Nat.pow_lt_pow_right (by decide) (by omega))) ?_
        have := popc_or ⟨wi, by omega⟩ ⟨(sb Ls wi).toNat, by omega⟩ a3
        have : popc (wi ||| 2 ^ (sb Ls wi).toNat) = popc wi + 1 := this
        omega
theorem cP_sub {p q : Nat → Bool} : ∀ l : List Nat, (∀ i ∈ l, p i = true → q i = true) → l.countP p ≤ l.countP q ∧ (l.countP q ≤ l.countP p → ∀ i ∈ l, q i = true → p i = true)
  | [], _ => ⟨Nat.le_refl _, fun _ i hi => by cases hi⟩
  | a :: r, h => by
    obtain ⟨h1, h2⟩ := cP_sub (p := p) (q := q) r (fun i hi => h i (List.mem_cons_of_mem _ hi))
    have ha := h a List.mem_cons_self
    rw [List.countP_cons, List.countP_cons]
    refine ⟨?_, fun hle i hi hq => ?_⟩
    · by_cases c : p a = true
      · rw [if_pos c, if_pos (ha c)]; omega
      · rw [if_neg c]; split <;> omega
    · by_cases c : p a = true
      · rw [if_pos c, if_pos (ha c)] at hle
        rcases List.mem_cons.mp hi with e | e
        · rw [e]; exact c
        · exact h2 (by omega) i e hq
      · rw [if_neg c] at hle
        by_cases d : q a = true
        · rw [if_pos d] at hle; omega
        · rw [if_neg d] at hle
          rcases List.mem_cons.mp hi with e | e
          · rw [e] at hq; exact absurd hq d
          · exact h2 (by omega) i e hq
theorem popc_sub {a b : Nat} (ha : a < 1024) (hb : b < 1024) (hs : Sub a b) (hp : popc b ≤ popc a) : b = a := by
  have h := (cP_sub (p := fun i => a.testBit i) (q := fun i => b.testBit i) (List.range 10) (fun i _ hi => by
    rw [bit_tb, decide_eq_true_eq] at hi ⊢
    exact hs i hi)).2 hp
  apply Nat.eq_of_testBit_eq
  intro i
  by_cases c : i < 10
  · cases e : a.testBit i with
    | true =>
      rw [bit_tb, decide_eq_true_eq] at e
      rw [bit_tb, decide_eq_true_eq]
      exact hs i e
    | false =>
      cases e2 : b.testBit i with
      | false => rfl
      | true =>
        have := h i (List.mem_range.mpr c) e2
        rw [e] at this
        exact absurd this (by decide)
  · have p10 : 2 ^ 10 ≤ 2 ^ i := Nat.pow_le_pow_right (by decide) (by omega)
    rw [Nat.testBit_lt_two_pow (by omega), Nat.testBit_lt_two_pow (by omega)]
def bestI (ln : LN) (Ls : List LY) (set : Nat) (k : Nat) (b : Int) : Prop := (b = -1 ∧ ∀ m, m < k → okL ln Ls set m (nS ln) 0 ≠ 1) ∨ (0 ≤ b ∧ b < k ∧ okL ln Ls set b.toNat (nS ln) 0 = 1 ∧ ∀ m, m < k → okL ln Ls set m (nS ln) 0 = 1 → popc b.toNat ≤ popc m)
theorem bestI_end {ln : LN} {Ls : List LY} {set : Nat} {b : Int} (h : ∀ k, k < Ls.length → 0 ≤ lT Ls k) (hl : Ls.length ≤ 10) (hb : bestI ln Ls set (2 ^ Ls.length) b) : b = (gdy ln Ls set 10 0 : Nat) := by
  have h10 : 2 ^ Ls.length ≤ 2 ^ 10 := Nat.pow_le_pow_right (by decide) hl
  obtain ⟨g1, g2⟩ := gdy_ok (ln := ln) (set := set) h hl 10 0 (Nat.two_pow_pos _) (by omega)
  rcases hb with ⟨_, hb⟩ | ⟨b1, b2, b3, b4⟩
  · exact absurd g1 (hb _ g2)
  · have hs := gdy_sub h b3 10 0 (fun k hk => by rw [Nat.zero_div] at hk; exact absurd hk (by decide))
    have := popc_sub (a := gdy ln Ls set 10 0) (b := b.toNat) (by omega) (by omega) hs (b4 _ g2 g1)
    omega
theorem bestI_0 {ln : LN} {Ls : List LY} {set : Nat} : bestI ln Ls set 0 (-1) := Or.inl ⟨rfl, fun m hm => absurd hm (Nat.not_lt_zero m)⟩
theorem bestI_skip {ln : LN} {Ls : List LY} {set k : Nat} {b : Int} (h : bestI ln Ls set k b) (hn : okL ln Ls set k (nS ln) 0 ≠ 1 ∨ (0 ≤ b ∧ popc b.toNat ≤ popc k)) : bestI ln Ls set (k + 1) b := by
  rcases h with ⟨e, h⟩ | ⟨b1, b2, b3, b4⟩
  · rcases hn with hn | hn
    · refine Or.inl ⟨e, fun m hm => ?_⟩
      by_cases c : m = k
      · rw [c]; exact hn
      · exact h m (by omega)
    · omega
  · refine Or.inr ⟨b1, by omega, b3, fun m hm ho => ?_⟩
    by_cases c : m = k
    · rcases hn with hn | hn
      · rw [c] at ho; exact absurd ho hn
      · rw [c]; exact hn.2
    · exact b4 m (by omega) ho
theorem bestI_take {ln : LN} {Ls : List LY} {set k : Nat} {b : Int} (h : bestI ln Ls set k b) (ho : okL ln Ls set k (nS ln) 0 = 1) (hn : b = -1 ∨ popc k ≤ popc b.toNat) : bestI ln Ls set (k + 1) (k : Int) := by
  refine Or.inr ⟨by omega, by omega, by rw [Int.toNat_natCast]; exact ho, fun m hm hm2 => ?_⟩
  rw [Int.toNat_natCast]
  by_cases c : m = k
  · rw [c]; exact Nat.le_refl _
  · rcases h with ⟨e, h⟩ | ⟨b1, b2, b3, b4⟩
    · exact absurd hm2 (h m (by omega))
    · have := b4 m (by omega) hm2
      omega
def a_toWipe : ST → Int → Int → Int
  | (_, _, ln, g, _, _, _, _, _, _), s, what => if ¬ (0 ≤ s ∧ s < ((2 ^ nS ln : Nat) : Int)) then UNK else if ¬ (0 ≤ what ∧ what ≤ 1) then OUT else if what = 0 then (popc (gdy ln g.1 s.toNat 10 0) : Nat) else (gdy ln g.1 s.toNat 10 0 : Nat)
