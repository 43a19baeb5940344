/-! ===== loops as functions ===== -/
def fo {σ : Type} (step : Nat → σ → σ) : Nat → Nat → σ → σ
  | 0, _, s => s
  | f + 1, k, s => fo step f (k + 1) (step k s)
def fi (p : Nat → Bool) : Nat → Nat → Int
  | 0, _ => -1
  | f + 1, k => if p k = true then (k : Int) else fi p f (k + 1)
theorem fo_congr {σ : Type} {s1 s2 : Nat → σ → σ} : ∀ (f k : Nat) (s : σ), (∀ j t, k ≤ j → j < k + f → s1 j t = s2 j t) → fo s1 f k s = fo s2 f k s
  | 0, _, _, _ => rfl
  | f + 1, k, s, h => by
    show fo s1 f (k + 1) (s1 k s) = fo s2 f (k + 1) (s2 k s)
    rw [h k s (Nat.le_refl k) (by omega)]
    exact fo_congr f (k + 1) _ (fun j t h1 h2 => h j t (by omega) (by omega))
theorem fo_inv {σ : Type} {step : Nat → σ → σ} (I : Nat → σ → Prop) : ∀ (f k : Nat) (s : σ), I k s → (∀ j t, k ≤ j → j < k + f → I j t → I (j + 1) (step j t)) → I (k + f) (fo step f k s)
  | 0, _, _, h, _ => h
  | f + 1, k, s, h, hs => by
    show I (k + (f + 1)) (fo step f (k + 1) (step k s))
    rw [show k + (f + 1) = k + 1 + f by omega]
    exact fo_inv I f (k + 1) _ (hs k s (Nat.le_refl k) (by omega) h) (fun j t h1 h2 h3 => hs j t (by omega) (by omega) h3)
theorem fo_last {σ : Type} {step : Nat → σ → σ} : ∀ (f k : Nat) (s : σ), fo step (f + 1) k s = step (k + f) (fo step f k s)
  | 0, _, _ => rfl
  | f + 1, k, s => by
    show fo step (f + 1) (k + 1) (step k s) = step (k + (f + 1)) (fo step f (k + 1) (step k s))
    rw [fo_last f (k + 1) (step k s), show k + 1 + f = k + (f + 1) by omega]
theorem fi_congr {p q : Nat → Bool} : ∀ (f k : Nat), (∀ j, k ≤ j → j < k + f → p j = q j) → fi p f k = fi q f k
  | 0, _, _ => rfl
  | f + 1, k, h => by
    show (if p k = true then (k : Int) else fi p f (k + 1)) = if q k = true then (k : Int) else fi q f (k + 1)
    rw [h k (Nat.le_refl k) (by omega), fi_congr f (k + 1) (fun j h1 h2 => h j (by omega) (by omega))]
theorem fi_rng {p : Nat → Bool} : ∀ (f k : Nat), fi p f k = -1 ∨ (k ≤ fi p f k ∧ fi p f k < k + f ∧ p (fi p f k).toNat = true)
  | 0, _ => Or.inl rfl
  | f + 1, k => by
    unfold fi
    by_cases h : p k = true
    · rw [if_pos h]
      exact Or.inr ⟨by omega, by omega, h⟩
    · rw [if_neg h]
      rcases fi_rng (p := p) f (k + 1) with e | ⟨e1, e2, e3⟩
      · exact Or.inl e
      · exact Or.inr ⟨by omega, by omega, e3⟩
def sbStep (Ls : List LY) (wi : Nat) (k : Nat) (s : Int × Int) : Int × Int := if wi / 2 ^ k % 2 = 0 ∧ s.2 ≤ lT Ls k then ((k : Int), lT Ls k) else s
def sb (Ls : List LY) (wi : Nat) : Int := (fo (sbStep Ls wi) Ls.length 0 (-1, 0)).1
def wkStep (Ls : List LY) (k : Nat) (s : Int × Int) : Int × Int := if lT Ls k < s.2 then ((k : Int), lT Ls k) else s
def wk (Ls : List LY) : Int := (fo (wkStep Ls) Ls.length 0 (-1, 100)).1
def lbStep (Ls : List LY) (k i : Nat) (c : Int) : Int := if lT Ls k < lT Ls i ∨ (lT Ls i = lT Ls k ∧ k < i) then c + 1 else c
def lb (Ls : List LY) (k : Nat) : Int := fo (lbStep Ls k) Ls.length 0 0
def fnd (Ls : List LY) (w x : Int) : Int := fi (fun k => decide (lW Ls k = w ∧ lS Ls k = x)) Ls.length 0
def smAll (Ls : List LY) : Int := fo (fun k s => s + lT Ls k) Ls.length 0 0
def smOf (Ls : List LY) (x : Int) : Int := fo (fun k s => if lS Ls k = x then s + lT Ls k else s) Ls.length 0 0
def scOf (Ls : List LY) (w : Int) : Nat := fo (fun k s => if lW Ls k = w then s ||| 2 ^ (lS Ls k).toNat else s) Ls.length 0 0
def low (Ls : List LY) : Int := fi (fun k => decide (lW Ls k ≠ -1)) Ls.length 0
def thStep (Ls : List LY) (k : Nat) (s : Int × Int) : Int × Int := if 0 < k ∧ lS Ls k = lS Ls (k - 1) then (max s.1 (s.2 + 1), s.2 + 1) else (max s.1 1, 1)
def thk (Ls : List LY) : Int := (fo (thStep Ls) Ls.length 0 (0, 0)).1
def veil (ln : LN) (x more : Int) : Int := (ln.1 + more + br ln x.toNat) / 2
def tk (ln : LN) (Ls : List LY) (x more : Int) (wi : Nat) : Int := if 0 ≤ sb Ls wi ∧ veil ln x more < lT Ls (sb Ls wi).toNat then lS Ls (sb Ls wi).toNat else x
def fdg (kind t y : Int) : Int := if kind = 0 then 1 else if kind = 1 then t / 10 + 1 else if kind = 3 then (if y % 2 = 1 then 3 else 0) else 0
theorem sb_rng (Ls : List LY) (wi : Nat) : -1 ≤ sb Ls wi ∧ sb Ls wi < Ls.length := by
  have h := fo_inv (step := sbStep Ls wi) (fun j s => -1 ≤ s.1 ∧ s.1 < j) Ls.length 0 (-1, 0) ⟨by decide, by decide⟩ (fun j t _ _ h => by
    unfold sbStep
    split
    · exact ⟨by show (-1 : Int) ≤ (j : Int); omega, by show (j : Int) < ((j + 1 : Nat) : Int); omega⟩
    · exact ⟨h.1, by have := h.2; omega⟩)
  rw [Nat.zero_add] at h
  exact h
section PX
variable {sc : Option (Nat × (Nat → Int32))} {mr : MR} {pc : Nat} {L st : List Value} {M : AM} {Q : Option Value → AM → Prop}
theorem p_max {i idx : Nat} {a b : Int} (hi : (mrT mr)[i]? = some (pc, .invokestatic idx, 3)) (hs : SL (mrY mr).cls idx mJ9_max_7cf53 2) (hr : Nat.ble 1 (mrF mr) = true ∧ Nat.ble ((st.map fun v => v.category).sum + 13) (mrW mr) = true) (ha : -2147483648 ≤ a ∧ a ≤ 2147483647) (hb : -2147483648 ≤ b ∧ b ≤ 2147483647) (h : P sc mr (pc + 3) L (zI (max a b) :: st) M Q) : P sc mr pc L (zI b :: zI a :: st) M Q := by
  intro p l e R s m args below meth c D cA ad n H0 H locs cells slots ls Z hC hsc hW hS hL hk
  have h1 := h p l e R s m args below meth c D cA ad n H0 H locs cells slots ls Z hC hsc hW hS hL hk
  have hts := hC.2.2.2.2.1
  refine va_mmax hC.1 hC.2.1 (hC.2.2.1.trans hL.1.symm) hC.2.2.2.1 (hts _ hs.1) (hts _ hs.2.1) (hts _ hs.2.2.1) (hts _ hs.2.2.2.1) (Nat.le_trans (Nat.le_of_ble_eq_true hr.1) hC.2.2.2.2.2.2.1) (by rw [cv_sum]; exact Nat.le_trans (Nat.le_of_ble_eq_true hr.2) hC.2.2.2.2.2.2.2.1) hC.2.2.2.2.2.2.2.2.2.1 hC.2.2.2.2.2.2.2.2.2.2 (hC.dec hi) ?_
  have e : (if Int32.ofInt a < Int32.ofInt b then Int32.ofInt b else Int32.ofInt a) = Int32.ofInt (max a b) := by
    by_cases q : a < b
    · rw [if_pos ((zI_lt ha hb).mpr q), show max a b = b by omega]
    · rw [if_neg (fun z => q ((zI_lt ha hb).mp z)), show max a b = a by omega]
  rw [e]
  exact h1
theorem p_min {i idx : Nat} {a b : Int} (hi : (mrT mr)[i]? = some (pc, .invokestatic idx, 3)) (hs : SL (mrY mr).cls idx mJ9_min_7cf53 2) (hr : Nat.ble 1 (mrF mr) = true ∧ Nat.ble ((st.map fun v => v.category).sum + 13) (mrW mr) = true) (ha : -2147483648 ≤ a ∧ a ≤ 2147483647) (hb : -2147483648 ≤ b ∧ b ≤ 2147483647) (h : P sc mr (pc + 3) L (zI (min a b) :: st) M Q) : P sc mr pc L (zI b :: zI a :: st) M Q := by
  intro p l e R s m args below meth c D cA ad n H0 H locs cells slots ls Z hC hsc hW hS hL hk
  have h1 := h p l e R s m args below meth c D cA ad n H0 H locs cells slots ls Z hC hsc hW hS hL hk
  have hts := hC.2.2.2.2.1
  refine va_mmin hC.1 hC.2.1 (hC.2.2.1.trans hL.1.symm) hC.2.2.2.1 (hts _ hs.1) (hts _ hs.2.1) (hts _ hs.2.2.1) (hts _ hs.2.2.2.1) (Nat.le_trans (Nat.le_of_ble_eq_true hr.1) hC.2.2.2.2.2.2.1) (by rw [cv_sum]; exact Nat.le_trans (Nat.le_of_ble_eq_true hr.2) hC.2.2.2.2.2.2.2.1) hC.2.2.2.2.2.2.2.2.2.1 hC.2.2.2.2.2.2.2.2.2.2 (hC.dec hi) ?_
  have e : (if Int32.ofInt b < Int32.ofInt a then Int32.ofInt b else Int32.ofInt a) = Int32.ofInt (min a b) := by
    by_cases q : b < a
    · rw [if_pos ((zI_lt hb ha).mpr q), show min a b = b by omega]
    · rw [if_neg (fun z => q ((zI_lt hb ha).mp z)), show min a b = a by omega]
  rw [e]
  exact h1
end PX
