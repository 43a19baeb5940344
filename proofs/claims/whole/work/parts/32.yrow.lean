/-! ===== the reference's rows, purely ===== -/
def stStep (Ls : List LY) (x : Int) (k : Nat) (s : Int) : Int := if x = -1 ∨ lS Ls k = x then s + lT Ls k else s
theorem st_all (Ls : List LY) : fo (stStep Ls (-1)) Ls.length 0 0 = smAll Ls := fo_congr _ _ _ (fun j t _ _ => by unfold stStep; rw [if_pos (Or.inl rfl)])
theorem st_of (Ls : List LY) {x : Int} (hx : 0 ≤ x) : fo (stStep Ls x) Ls.length 0 0 = smOf Ls x := fo_congr _ _ _ (fun j t _ _ => by
  unfold stStep
  by_cases c : lS Ls j = x
  · rw [if_pos (Or.inr c), if_pos c]
  · rw [if_neg (by omega), if_neg c])
def wmStep (Ls : List LY) (k : Nat) (c : Nat) : Nat := if lT Ls k < lT Ls c then k else c
theorem wm_wk (Ls : List LY) : ∀ (f k c : Nat), (fo (wkStep Ls) f k ((c : Int), lT Ls c)).1 = (fo (wmStep Ls) f k c : Nat)
  | 0, _, _ => rfl
  | f + 1, k, c => by
    show (fo (wkStep Ls) f (k + 1) (wkStep Ls k ((c : Int), lT Ls c))).1 = ((fo (wmStep Ls) f (k + 1) (wmStep Ls k c) : Nat) : Int)
    unfold wkStep wmStep
    dsimp only
    by_cases h : lT Ls k < lT Ls c
    · rw [if_pos h, if_pos h]; exact wm_wk Ls f (k + 1) k
    · rw [if_neg h, if_neg h]; exact wm_wk Ls f (k + 1) c
theorem wk_ten {Ls : List LY} (hl : Ls.length = 10) (h0 : lT Ls 0 ≤ 99) : wk Ls = (fo (wmStep Ls) 9 1 0 : Nat) := by
  unfold wk
  rw [hl]
  show (fo (wkStep Ls) 9 1 (wkStep Ls 0 (-1, 100))).1 = _
  have e : wkStep Ls 0 (-1, 100) = (((0 : Nat) : Int), lT Ls 0) := by unfold wkStep; rw [if_pos (by show lT Ls 0 < 100; omega)]
  rw [e]
  exact wm_wk Ls 9 1 0
theorem fadeL_app (ln : LN) (y own : Int) : ∀ (a b : List LY) (i : Nat), fadeL ln y own i (a ++ b) = fadeL ln y own i a ++ fadeL ln y own (i + a.length) b
  | [], b, i => by simp [fadeL]
  | e :: r, b, i => by
    show fadeL ln y own i (e :: (r ++ b)) = fadeL ln y own i (e :: r) ++ fadeL ln y own (i + (e :: r).length) b
    rw [fadeL_cons, fadeL_cons, fadeL_app ln y own r b (i + 1)]
    rw [show i + 1 + r.length = i + (e :: r).length by simp; omega]
    split
    · rfl
    · split <;> rfl
/-- the layers as they are on the way up -/
def cup (ln : LN) (y own : Int) (Ls : List LY) (i : Nat) : List LY := fadeL ln y own 0 (Ls.take i) ++ Ls.drop i
def cuk (ln : LN) (y own : Int) (Ls : List LY) (i : Nat) : Nat := (fadeL ln y own 0 (Ls.take i)).length
theorem cup_0 {ln : LN} {y own : Int} {Ls : List LY} : cup ln y own Ls 0 = Ls ∧ cuk ln y own Ls 0 = 0 := by
  unfold cup cuk
  rw [List.take_zero, List.drop_zero]
  exact ⟨rfl, rfl⟩
theorem cup_all {ln : LN} {y own : Int} {Ls : List LY} : cup ln y own Ls Ls.length = fadeL ln y own 0 Ls := by
  unfold cup
  rw [List.take_length, List.drop_length, List.append_nil]
theorem cup_in {ln : LN} {y own : Int} {Ls : List LY} {i : Nat} (h : i < Ls.length) : cup ln y own Ls i = fadeL ln y own 0 (Ls.take i) ++ (lS Ls i, lW Ls i, lT Ls i) :: Ls.drop (i + 1) := by
  unfold cup
  rw [ly_drop h]
theorem cup_step {ln : LN} {y own : Int} {Ls : List LY} {i : Nat} (h : i < Ls.length) : fadeL ln y own 0 (Ls.take (i + 1)) = fadeL ln y own 0 (Ls.take i) ++ fadeL ln y own i [(lS Ls i, lW Ls i, lT Ls i)] := by
  rw [ly_take h, fadeL_app, tk_len h, Nat.zero_add]
theorem cup_at {ln : LN} {y own : Int} {Ls : List LY} {i : Nat} (h : i < Ls.length) : cuk ln y own Ls i < (cup ln y own Ls i).length ∧ lS (cup ln y own Ls i) (cuk ln y own Ls i) = lS Ls i ∧ lW (cup ln y own Ls i) (cuk ln y own Ls i) = lW Ls i ∧ lT (cup ln y own Ls i) (cuk ln y own Ls i) = lT Ls i := by
  rw [cup_in h]
  refine ⟨?_, ?_, ?_, ?_⟩
  · unfold cuk; rw [List.length_append]; simp
  · unfold lS; rw [mid_getD (by rfl)]
  · unfold lW; rw [mid_getD (by rfl)]
  · unfold lT; rw [mid_getD (by rfl)]
theorem cup_len {ln : LN} {y own : Int} {Ls : List LY} {i : Nat} : (cup ln y own Ls i).length ≤ Ls.length ∧ cuk ln y own Ls i ≤ i := by
  unfold cup cuk
  have := fadeL_len ln y own (Ls.take i) 0
  rw [List.length_take] at this
  rw [List.length_append, List.length_drop]
  constructor <;> omega
theorem cup_keep {ln : LN} {y own : Int} {Ls : List LY} {i : Nat} (h : i < Ls.length) (ho : (i : Int) = own) : cup ln y own Ls (i + 1) = cup ln y own Ls i ∧ cuk ln y own Ls (i + 1) = cuk ln y own Ls i + 1 := by
  rw [cup_in h]
  unfold cup cuk
  rw [cup_step h, fadeL_cons, if_pos ho]
  constructor
  · rw [List.append_assoc]; rfl
  · rw [List.length_append]; rfl
theorem cup_set {ln : LN} {y own : Int} {Ls : List LY} {i : Nat} (h : i < Ls.length) (ho : ¬ (i : Int) = own) (ht : 0 < lT Ls i - fdg (kd ln (lS Ls i).toNat) (lT Ls i) y) : (cup ln y own Ls i).set (cuk ln y own Ls i) (lS Ls i, lW Ls i, lT Ls i - fdg (kd ln (lS Ls i).toNat) (lT Ls i) y) = cup ln y own Ls (i + 1) ∧ cuk ln y own Ls (i + 1) = cuk ln y own Ls i + 1 := by
  rw [cup_in h]
  unfold cuk
  rw [mid_set rfl]
  unfold cup
  rw [cup_step h, fadeL_cons, if_neg ho, if_neg (by show ¬ lT Ls i - fdg (kd ln (lS Ls i).toNat) (lT Ls i) y ≤ 0; omega)]
  constructor
  · rw [List.append_assoc]; rfl
  · rw [List.length_append]; rfl
theorem cup_er {ln : LN} {y own : Int} {Ls : List LY} {i : Nat} {z : LY} (h : i < Ls.length) (ho : ¬ (i : Int) = own) (ht : lT Ls i - fdg (kd ln (lS Ls i).toNat) (lT Ls i) y ≤ 0) : ((cup ln y own Ls i).set (cuk ln y own Ls i) z).eraseIdx (cuk ln y own Ls i) = cup ln y own Ls (i + 1) ∧ cuk ln y own Ls (i + 1) = cuk ln y own Ls i := by
  rw [cup_in h]
  unfold cuk
  rw [mid_set rfl, mid_er rfl]
  unfold cup
  rw [cup_step h, fadeL_cons, if_neg ho, if_pos ht]
  constructor
  · rw [show fadeL ln y own (i + 1) [] = [] from rfl, List.append_nil]
  · rw [show fadeL ln y own (i + 1) [] = [] from rfl, List.append_nil]
