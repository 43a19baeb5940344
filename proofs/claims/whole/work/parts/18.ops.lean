/-! ===== what each call answers, and what it makes of the state ===== -/
def rem (un : List GS) (g : GS) : List GS := (if un.length = 30 then un.drop 1 else un) ++ [g]
theorem rem_len {un : List GS} {g : GS} (h : un.length ≤ 30) : (rem un g).length = if un.length = 30 then 30 else un.length + 1 := by
  unfold rem
  split <;> simp <;> omega
def ftL (me : List (Int × Int)) (t : Int) : Nat → Nat → Int
  | 0, _ => 1
  | f + 1, k => if (t = (me.getD k (0, 0)).1 ↔ (me.getD k (0, 0)).2 = 1) then ftL me t f (k + 1) else 0
theorem ftL_01 (me : List (Int × Int)) (t : Int) : ∀ f k, ftL me t f k = 0 ∨ ftL me t f k = 1
  | 0, _ => Or.inr rfl
  | f + 1, k => by
    unfold ftL
    split
    · exact ftL_01 me t f (k + 1)
    · exact Or.inl rfl
def stf (ln : LN) (Ls : List LY) (x : Int) : Nat := fo (fun y s => if tk ln Ls (y : Int) 0 0 = x then s ||| 2 ^ y else s) (nS ln) 0 0
def all_ (nw : Nat) (Ls : List LY) : Nat := if nw = 0 then 0 else fo (fun w s => s &&& scOf Ls (w : Int)) (nw - 1) 1 (scOf Ls 0)
/-- how many bits, of ten -/
def popc (n : Nat) : Nat := (List.range 10).countP (fun i => n.testBit i)
def kinStep (Ls : List LY) (w : Nat) (v : Nat) (s : Int × Int) : Int × Int := if v ≠ w ∧ s.2 < (popc (scOf Ls w &&& scOf Ls v) : Int) then ((v : Int), (popc (scOf Ls w &&& scOf Ls v) : Int)) else s
def kin_ (nw : Nat) (Ls : List LY) (w : Nat) : Int := (fo (kinStep Ls w) nw 0 (-1, 0)).1
def tryN (ln : LN) : Nat → GS → GS
  | 0, g => g
  | n + 1, g => tryN ln n (passY ln g)
def drw (sd : Int) : Int := (sd * 1103515245 + 12345) % 2147483648
theorem drw_rng {sd : Int} : 0 ≤ drw sd ∧ drw sd ≤ 2147483647 := by unfold drw; omega
def byDraw (ln : LN) (g : GS) (sd : Int) : GS × Int :=
  if drw sd / 65536 % 8 = 0 ∧ 0 < nW ln then ((g.1, drw (drw sd) / 65536 % (nW ln : Int), g.2.2), drw (drw sd))
  else if drw sd / 65536 % 8 = 1 ∧ 0 < g.1.length then ((g.1.eraseIdx (drw (drw sd) / 65536 % (g.1.length : Int)).toNat, g.2), drw (drw sd))
  else if drw sd / 65536 % 8 = 2 ∧ 0 < nS ln then ((layL g.1 (drw (drw sd) / 65536 % (nS ln : Int), -1, drw (drw (drw sd)) / 65536 % 30 + 1), g.2), drw (drw (drw sd)))
  else if drw sd / 65536 % 8 = 3 then ((g.1, -1, g.2.2), drw sd)
  else (g, drw sd)
def yearN (ln : LN) : Nat → GS → List GS → GS × List GS
  | 0, g, un => (g, un)
  | n + 1, g, un => yearN ln n (passY ln g) (rem un g)
def driftN (ln : LN) : Nat → GS → List GS → Int → GS × List GS × Int
  | 0, g, un, sd => (g, un, sd)
  | n + 1, g, un, sd => driftN ln n (passY ln (byDraw ln g sd).1) (rem un g) (byDraw ln g sd).2
def tdk (ln : LN) (m : Int) : Nat → Nat → GS → Int
  | 0, _, _ => -1
  | f + 1, n, g => if m ≤ smAll g.1 / 10 then (n : Int) else tdk ln m f (n + 1) (passY ln g)
def grd (ln : LN) (Ls : List LY) (x : Int) : Nat → Nat → Int
  | 0, _ => -1
  | f + 1, k => if tk ln Ls x (k : Int) 0 = x then (k : Int) else grd ln Ls x f (k + 1)
def mst (q : Int) : Nat → Int → Int
  | 0, x => x
  | n + 1, x => mst q n (x * q / 100)
def cb (ln : LN) (Ls : List LY) (me : List (Int × Int)) : Nat := fo (fun x s => if ftL me (tk ln Ls (x : Int) 0 0) me.length 0 = 1 then s ||| 2 ^ x else s) (nS ln) 0 0
def askStep (ln : LN) (Ls : List LY) (set : Nat) (x : Nat) (s : Int × Int) : Int × Int := if max (popc (set &&& stf ln Ls x) : Int) (popc set - popc (set &&& stf ln Ls x)) < s.2 then ((x : Int), max (popc (set &&& stf ln Ls x) : Int) (popc set - popc (set &&& stf ln Ls x))) else s
def ask_ (ln : LN) (Ls : List LY) (set : Nat) : Int := (fo (askStep ln Ls set) (nS ln) 0 (-1, (popc set : Int))).1
def jdg (ln : LN) (Ls : List LY) (bo : List (Int × Int)) : Int := fi (fun i => decide (tk ln Ls (bo.getD i (0, 0)).1 0 0 ≠ (bo.getD i (0, 0)).2)) bo.length 0
