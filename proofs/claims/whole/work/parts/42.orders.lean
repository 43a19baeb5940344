/-! ===== the orders of turns, purely ===== -/
def bgL (set : Nat) : Nat → Nat → List Nat → List Nat
  | 0, _, l => l
  | f + 1, k, l => bgL set f (k + 1) (if set / 2 ^ k % 2 = 1 then l ++ [k] else l)
def ris (l : List Nat) : Nat := fo (fun i r => if l.getD i 0 < l.getD (i + 1) 0 then i + 1 else r) (l.length - 1) 0 0
def grt (l : List Nat) (i : Nat) : Nat := fo (fun j r => if l.getD i 0 < l.getD j 0 then j else r) (l.length - (i + 1)) (i + 1) (i + 1)
def swp (l : List Nat) (i j : Nat) : List Nat := (l.set i (l.getD j 0)).set j (l.getD i 0)
def rvs : Nat → List Nat → Nat → Nat → List Nat
  | 0, l, _, _ => l
  | f + 1, l, lo, hi => if lo < hi then rvs f (swp l lo hi) (lo + 1) (hi - 1) else l
def nxP (l : List Nat) : Option (List Nat) := if ris l = 0 then none else some (rvs 5 (swp l (ris l - 1) (grt l (ris l - 1))) (ris l) (l.length - 1))
def gdR (set n : Nat) (l : List Nat) : Bool := l.length == n && (List.range n).all (fun i => set / 2 ^ (l.getD i 0) % 2 == 1 && (List.range n).all (fun j => i == j || l.getD i 0 != l.getD j 0))
def orb (set n : Nat) : Nat → List Nat → Bool
  | 0, l => gdR set n l && (nxP l).isNone
  | f + 1, l => gdR set n l && (match nxP l with
    | none => true
    | some r => orb set n f r)
theorem orb_all : ∀ s : Fin 64, 2 ≤ popc s.val → popc s.val ≤ 5 → orb s.val (popc s.val) 119 (bgL s.val 6 0 []) = true := by decide +kernel
theorem bgL_len : ∀ s : Fin 64, (bgL s.val 6 0 []).length = popc s.val := by decide +kernel
theorem bgL_mono (set : Nat) : ∀ f k l, l.length ≤ (bgL set f k l).length
  | 0, _, l => Nat.le_refl _
  | f + 1, k, l => by
    unfold bgL
    have := bgL_mono set f (k + 1) (if set / 2 ^ k % 2 = 1 then l ++ [k] else l)
    split at this
    · rw [List.length_append] at this
      have e : [k].length = 1 := rfl
      rw [if_pos (by assumption)]
      omega
    · rw [if_neg (by assumption)]
      exact this
theorem bgL_more {set : Nat} : ∀ f k l, (∀ j, k ≤ j → set / 2 ^ j % 2 = 0) → bgL set f k l = l
  | 0, _, _, _ => rfl
  | f + 1, k, l, h => by
    unfold bgL
    rw [if_neg (by rw [h k (Nat.le_refl k)]; decide)]
    exact bgL_more f (k + 1) l (fun j hj => h j (by omega))
theorem bgL_app (set : Nat) : ∀ a b k l, bgL set (a + b) k l = bgL set b (k + a) (bgL set a k l)
  | 0, b, k, l => by rw [Nat.zero_add]; rfl
  | a + 1, b, k, l => by
    rw [show a + 1 + b = a + b + 1 by omega]
    show bgL set (a + b) (k + 1) _ = bgL set b (k + (a + 1)) (bgL set a (k + 1) _)
    rw [bgL_app set a b (k + 1), show k + 1 + a = k + (a + 1) by omega]
theorem bit_hi {s n j : Nat} (h : s < 2 ^ n) (hj : n ≤ j) : s / 2 ^ j % 2 = 0 := by
  have : 2 ^ n ≤ 2 ^ j := Nat.pow_le_pow_right (by decide) hj
  rw [Nat.div_eq_of_lt (by omega)]
theorem bgL_nw {s n : Nat} (h : s < 2 ^ n) (hn : n ≤ 6) : bgL s n 0 [] = bgL s 6 0 [] := by
  obtain ⟨d, hd⟩ : ∃ d, 6 = n + d := ⟨6 - n, by omega⟩
  rw [hd, bgL_app s n d 0 [], Nat.zero_add]
  exact (bgL_more d n _ (fun j hj => bit_hi h hj)).symm
theorem gdR_at {set n : Nat} {l : List Nat} (h : gdR set n l = true) : l.length = n ∧ (∀ i, i < n → set / 2 ^ (l.getD i 0) % 2 = 1) ∧ ∀ i j, i < n → j < n → i ≠ j → l.getD i 0 ≠ l.getD j 0 := by
  unfold gdR at h
  rw [Bool.and_eq_true, beq_iff_eq, List.all_eq_true] at h
  obtain ⟨h1, h2⟩ := h
  refine ⟨h1, fun i hi => ?_, fun i j hi hj hne => ?_⟩
  · have := h2 i (List.mem_range.mpr hi)
    rw [Bool.and_eq_true, beq_iff_eq] at this
    exact this.1
  · have := h2 i (List.mem_range.mpr hi)
    rw [Bool.and_eq_true, List.all_eq_true] at this
    have := this.2 j (List.mem_range.mpr hj)
    rw [Bool.or_eq_true, beq_iff_eq, bne_iff_ne] at this
    exact this.resolve_left hne
theorem orb_g {set n f : Nat} {l : List Nat} (h : orb set n f l = true) : gdR set n l = true := by
  cases f with
  | zero => unfold orb at h; rw [Bool.and_eq_true] at h; exact h.1
  | succ f => unfold orb at h; rw [Bool.and_eq_true] at h; exact h.1
theorem orb_0 {set n : Nat} {l : List Nat} (h : orb set n 0 l = true) : nxP l = none := by
  unfold orb at h
  rw [Bool.and_eq_true, Option.isNone_iff_eq_none] at h
  exact h.2
theorem orb_s {set n f : Nat} {l r : List Nat} (h : orb set n (f + 1) l = true) (e : nxP l = some r) : orb set n f r = true := by
  unfold orb at h
  rw [Bool.and_eq_true, e] at h
  exact h.2
theorem ris_char (l : List Nat) : (ris l = 0 ∧ ∀ i, i + 1 < l.length → ¬ l.getD i 0 < l.getD (i + 1) 0) ∨ (0 < ris l ∧ ris l < l.length ∧ l.getD (ris l - 1) 0 < l.getD (ris l) 0 ∧ ∀ i, ris l ≤ i → i + 1 < l.length → ¬ l.getD i 0 < l.getD (i + 1) 0) := by
  have hi := fo_inv (step := fun i r => if l.getD i 0 < l.getD (i + 1) 0 then i + 1 else r) (fun j r => (r = 0 ∧ ∀ i, i < j → ¬ l.getD i 0 < l.getD (i + 1) 0) ∨ (0 < r ∧ r ≤ j ∧ l.getD (r - 1) 0 < l.getD r 0 ∧ ∀ i, r ≤ i → i < j → ¬ l.getD i 0 < l.getD (i + 1) 0)) (l.length - 1) 0 0 (Or.inl ⟨rfl, fun i hi => absurd hi (Nat.not_lt_zero i)⟩) (fun j r _ _ hI => by
    by_cases c : l.getD j 0 < l.getD (j + 1) 0
    · rw [if_pos c]
      exact Or.inr ⟨by omega, by omega, by rw [Nat.add_sub_cancel]; exact c, fun i h1 h2 => by omega⟩
    · rw [if_neg c]
      rcases hI with ⟨h1, h2⟩ | ⟨h1, h2, h3, h4⟩
      · refine Or.inl ⟨h1, fun i hi => ?_⟩
        by_cases e : i = j
        · rw [e]; exact c
        · exact h2 i (by omega)
      · refine Or.inr ⟨h1, by omega, h3, fun i h5 h6 => ?_⟩
        by_cases e : i = j
        · rw [e]; exact c
        · exact h4 i h5 (by omega))
  rw [Nat.zero_add] at hi
  rcases hi with ⟨h1, h2⟩ | ⟨h1, h2, h3, h4⟩
  · exact Or.inl ⟨h1, fun i hi => h2 i (by omega)⟩
  · refine Or.inr ⟨h1, ?_, h3, fun i h5 h6 => h4 i h5 (by omega)⟩
    have h2 : ris l ≤ l.length - 1 := h2
    have h1 : 0 < ris l := h1
    omega
theorem grt_char (l : List Nat) {i : Nat} (hi1 : i + 1 < l.length) (hr : l.getD i 0 < l.getD (i + 1) 0) : i + 1 ≤ grt l i ∧ grt l i < l.length ∧ l.getD i 0 < l.getD (grt l i) 0 ∧ ∀ j, grt l i < j → j < l.length → ¬ l.getD i 0 < l.getD j 0 := by
  have hi := fo_inv (step := fun j r => if l.getD i 0 < l.getD j 0 then j else r) (fun j r => i + 1 ≤ r ∧ r < l.length ∧ l.getD i 0 < l.getD r 0 ∧ ∀ q, r < q → q < j → ¬ l.getD i 0 < l.getD q 0) (l.length - (i + 1)) (i + 1) (i + 1) ⟨Nat.le_refl _, hi1, hr, fun q h1 h2 => by omega⟩ (fun j r h1 h2 hI => by
    by_cases c : l.getD i 0 < l.getD j 0
    · rw [if_pos c]
      exact ⟨h1, by omega, c, fun q h3 h4 => by omega⟩
    · rw [if_neg c]
      refine ⟨hI.1, hI.2.1, hI.2.2.1, fun q h3 h4 => ?_⟩
      by_cases e : q = j
      · rw [e]; exact c
      · exact hI.2.2.2 q h3 (by omega))
  rw [show i + 1 + (l.length - (i + 1)) = l.length by omega] at hi
  exact hi
def RowA (f : Nat → Int) (l : List Nat) : Prop := ∀ i, i < l.length → f i = ((l.getD i 0 : Nat) : Int)
theorem swp_len {l : List Nat} {i j : Nat} : (swp l i j).length = l.length := by unfold swp; rw [List.length_set, List.length_set]
theorem RowA_swp {f : Nat → Int} {l : List Nat} {i j : Nat} (h : RowA f l) (hi : i < l.length) (hj : j < l.length) : RowA (zup (zup f i (f j)) j (f i)) (swp l i j) := by
  intro q hq
  rw [swp_len] at hq
  unfold swp
  rw [st_getD _ _ _ _ _ (by rw [List.length_set]; exact hj), st_getD _ _ _ _ _ hi]
  by_cases c : q = j
  · rw [if_pos c, c, zup_e]; exact h i hi
  · rw [if_neg c, zup_n c]
    by_cases d : q = i
    · rw [if_pos d, d, zup_e]; exact h j hj
    · rw [if_neg d, zup_n d]; exact h q hq
theorem RowA.app {f : Nat → Int} {l : List Nat} {x : Nat} (h : RowA f l) : RowA (zup f l.length (x : Int)) (l ++ [x]) := by
  intro q hq
  have hq : q < l.length + 1 := by simpa using hq
  rw [gd_app hq]
  by_cases c : q = l.length
  · rw [if_pos c, c, zup_e]
  · rw [if_neg c, zup_n c]; exact h q (by omega)
def fig (l : List Nat) : Int := fo (fun i s => s * 10 + (l.getD i 0 : Nat) + 1) l.length 0 0
def dkG (ln : LN) (g : GS) (l : List Nat) : GS := fo (fun i s => passY ln (s.1, ((l.getD i 0 : Nat) : Int), s.2.2)) l.length 0 g
def dkT (ln : LN) (g : GS) (l : List Nat) : Int := smAll (dkG ln g l).1 / 10
def oSt (ln : LN) (g : GS) (l : List Nat) (s : Int × Int) : Int × Int := if dkT ln g l < s.1 then (dkT ln g l, fig l) else s
def ordF (ln : LN) (g : GS) : Nat → List Nat → Int × Int → Int × Int
  | 0, l, s => oSt ln g l s
  | f + 1, l, s => match nxP l with
    | none => oSt ln g l s
    | some r => ordF ln g f r (oSt ln g l s)
def a_order : ST → Int → Int → Int
  | (_, _, ln, g, _, _, _, _, _, _), s, what => if ¬ (0 ≤ s ∧ s < ((2 ^ nW ln : Nat) : Int)) then UNK else if ¬ (0 ≤ what ∧ what ≤ 1) then OUT else if ¬ (2 ≤ popc s.toNat ∧ popc s.toNat ≤ 5) then NOTN else if what = 0 then (ordF ln g 119 (bgL s.toNat 6 0 []) (100000000, 0)).1 else (ordF ln g 119 (bgL s.toNat 6 0 []) (100000000, 0)).2
