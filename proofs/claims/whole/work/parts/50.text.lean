/-! ===== the text that is read, purely ===== -/
def ch (tx : List Int) (i : Nat) : Int := if i < tx.length then tx.getD i 0 else -1
def skp (tx : List Int) : Nat → Nat → Nat
  | 0, a => a
  | f + 1, a => if ch tx a = 32 then skp tx f (a + 1) else a
def sk (tx : List Int) (a : Nat) : Nat := skp tx (tx.length - a) a
theorem ch_end {tx : List Int} {a : Nat} (h : tx.length ≤ a) : ch tx a = -1 := if_neg (by omega)
theorem sk_yes {tx : List Int} {a : Nat} (h : ch tx a = 32) : sk tx a = sk tx (a + 1) ∧ a < tx.length := by
  have ha : a < tx.length := by
    rcases Nat.lt_or_ge a tx.length with z | z
    · exact z
    · rw [ch_end z] at h; exact absurd h (by decide)
  refine ⟨?_, ha⟩
  unfold sk
  rw [show tx.length - a = tx.length - (a + 1) + 1 by omega]
  show (if ch tx a = 32 then skp tx (tx.length - (a + 1)) (a + 1) else a) = _
  rw [if_pos h]
theorem sk_no {tx : List Int} {a : Nat} (h : ¬ ch tx a = 32) : sk tx a = a := by
  unfold sk
  cases tx.length - a with
  | zero => rfl
  | succ f => exact if_neg h
theorem skp_rng (tx : List Int) : ∀ f a, f = tx.length - a → a ≤ skp tx f a ∧ (a ≤ tx.length → skp tx f a ≤ tx.length) ∧ ¬ ch tx (skp tx f a) = 32
  | 0, a, h => ⟨Nat.le_refl _, fun z => z, by show ¬ ch tx a = 32; rw [ch_end (by omega)]; decide⟩
  | f + 1, a, h => by
    show a ≤ (if ch tx a = 32 then skp tx f (a + 1) else a) ∧ (a ≤ tx.length → (if ch tx a = 32 then skp tx f (a + 1) else a) ≤ tx.length) ∧ ¬ ch tx (if ch tx a = 32 then skp tx f (a + 1) else a) = 32
    by_cases c : ch tx a = 32
    · rw [if_pos c]
      obtain ⟨h1, h2, h3⟩ := skp_rng tx f (a + 1) (by omega)
      exact ⟨by omega, fun _ => h2 (by omega), h3⟩
    · rw [if_neg c]
      exact ⟨Nat.le_refl _, fun z => z, c⟩
theorem sk_rng (tx : List Int) (a : Nat) : a ≤ sk tx a ∧ (a ≤ tx.length → sk tx a ≤ tx.length) ∧ ¬ ch tx (sk tx a) = 32 := skp_rng tx _ a rfl
theorem sk_sk (tx : List Int) (a : Nat) : sk tx (sk tx a) = sk tx a := sk_no (sk_rng tx a).2.2
abbrev dg (c : Int) : Prop := 48 ≤ c ∧ c ≤ 57
/-- the figures from here: where they end, how many, what the first three say -/
def nmL (tx : List Int) : Nat → Nat → Nat → Int → Nat × Nat × Int
  | 0, a, k, v => (a, k, v)
  | f + 1, a, k, v => if dg (ch tx a) then nmL tx f (a + 1) (k + 1) (if k < 3 then v * 10 + ch tx a - 48 else v) else (a, k, v)
theorem nmL_rng (tx : List Int) : ∀ f a k v, f = tx.length - a → a ≤ tx.length → a ≤ (nmL tx f a k v).1 ∧ (nmL tx f a k v).1 ≤ tx.length ∧ (nmL tx f a k v).2.1 + a = k + (nmL tx f a k v).1
  | 0, a, k, v, h, ha => ⟨Nat.le_refl _, ha, rfl⟩
  | f + 1, a, k, v, h, ha => by
    unfold nmL
    by_cases c : dg (ch tx a)
    · rw [if_pos c]
      obtain ⟨h1, h2, h3⟩ := nmL_rng tx f (a + 1) (k + 1) (if k < 3 then v * 10 + ch tx a - 48 else v) (by omega) (by omega)
      exact ⟨by omega, h2, by omega⟩
    · rw [if_neg c]
      exact ⟨Nat.le_refl _, ha, rfl⟩
theorem nmL_v (tx : List Int) : ∀ f a k v, (k = 0 ∧ v = 0) ∨ (k = 1 ∧ 0 ≤ v ∧ v ≤ 9) ∨ (k = 2 ∧ 0 ≤ v ∧ v ≤ 99) ∨ (3 ≤ k ∧ 0 ≤ v ∧ v ≤ 999) → 0 ≤ (nmL tx f a k v).2.2 ∧ (nmL tx f a k v).2.2 ≤ 999
  | 0, a, k, v, h => by show 0 ≤ v ∧ v ≤ 999; omega
  | f + 1, a, k, v, h => by
    unfold nmL
    by_cases c : dg (ch tx a)
    · rw [if_pos c]
      have c1 := c.1
      have c2 := c.2
      refine nmL_v tx f (a + 1) (k + 1) _ ?_
      by_cases e : k < 3
      · rw [if_pos e]; omega
      · rw [if_neg e]; omega
    · rw [if_neg c]; show 0 ≤ v ∧ v ≤ 999; omega
/-- a reading that stops at the first fault -/
def sNum (tx : List Int) (a : Nat) (lo hi : Int) : Except (Int × Int) (Nat × Int) :=
  if ¬ dg (ch tx (sk tx a)) then .error (1, (sk tx a : Nat)) else
  if 3 < (nmL tx (tx.length - sk tx a) (sk tx a) 0 0).2.1 ∨ ¬ (lo ≤ (nmL tx (tx.length - sk tx a) (sk tx a) 0 0).2.2 ∧ (nmL tx (tx.length - sk tx a) (sk tx a) 0 0).2.2 ≤ hi) then .error (2, (sk tx a : Nat)) else .ok ((nmL tx (tx.length - sk tx a) (sk tx a) 0 0).1, (nmL tx (tx.length - sk tx a) (sk tx a) 0 0).2.2)
def sEnd (tx : List Int) (a : Nat) (c : Int) : Except (Int × Int) Nat := if ch tx (sk tx a) = c then .ok (sk tx a + 1) else .error (1, (sk tx a : Nat))
/-- the class's: it reads on, the first blame stays -/
def blm (b : Int × Int) (n w : Int) : Int × Int := if b.1 = 0 then (n, w) else b
def xNum (tx : List Int) (a : Nat) (lo hi : Int) (b : Int × Int) : Int × Nat × (Int × Int) :=
  if ¬ dg (ch tx (sk tx a)) then (-1, sk tx a, blm b 1 (sk tx a : Nat)) else
  ((nmL tx (tx.length - sk tx a) (sk tx a) 0 0).2.2, (nmL tx (tx.length - sk tx a) (sk tx a) 0 0).1, if 3 < (nmL tx (tx.length - sk tx a) (sk tx a) 0 0).2.1 ∨ ¬ (lo ≤ (nmL tx (tx.length - sk tx a) (sk tx a) 0 0).2.2 ∧ (nmL tx (tx.length - sk tx a) (sk tx a) 0 0).2.2 ≤ hi) then blm b 2 (sk tx a : Nat) else b)
def xAcc (tx : List Int) (a : Nat) (c : Int) (room : Int) (b : Int × Int) : Nat × (Int × Int) :=
  if ¬ ch tx (sk tx a) = c then (sk tx a, blm b 1 (sk tx a : Nat)) else if room = 0 then (sk tx a, blm b 3 (sk tx a : Nat)) else (sk tx a + 1, b)
