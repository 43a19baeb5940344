/-! ===== the calls ===== -/
abbrev UNK : Int := -1000000001
abbrev OUT : Int := -1000000002
abbrev NOTN : Int := -1000000003
abbrev FUL : Int := -1000000004
def a_feed : ST → Int → Int × ST
  | (tx, fa, ln, g, un, i0, i1, sd, me, bo), a => if ¬ (0 ≤ a ∧ a ≤ 255) then (OUT, (tx, fa, ln, g, un, i0, i1, sd, me, bo)) else if tx.length = 240 then (FUL, (tx, fa, ln, g, un, i0, i1, sd, me, bo)) else ((tx.length : Int) + 1, (tx ++ [a], fa, ln, g, un, i0, i1, sd, me, bo))
def a_fault : ST → Int
  | (_, fa, _, _, _, _, _, _, _, _) => fa
def a_told : ST → Int → Int
  | (tx, _, ln, g, un, _, _, _, me, bo), a => if ¬ (0 ≤ a ∧ a < 16) then OUT else match a.toNat with
    | 0 => ln.1
    | 1 => (nS ln : Nat)
    | 2 => (nW ln : Nat)
    | 3 => (tx.length : Nat)
    | 4 => g.2.2.1
    | 5 => g.2.1
    | 6 => (g.1.length : Nat)
    | 7 => smAll g.1 / 10
    | 8 => (all_ (nW ln) g.1 : Nat)
    | 9 => low g.1
    | 10 => sb g.1 0
    | 11 => thk g.1
    | 12 => (g.2.2.2.2.length : Nat)
    | 13 => (me.length : Nat)
    | 14 => (bo.length : Nat)
    | _ => (un.length : Nat)
def a_scene : ST → Int → Int → Int
  | (_, _, ln, g, _, _, _, _, _, _), x, a => if ¬ (0 ≤ x ∧ x < nS ln) then UNK else if ¬ (0 ≤ a ∧ a < 4) then OUT else match a.toNat with
    | 0 => kd ln x.toNat
    | 1 => br ln x.toNat
    | 2 => (ln.1 + 0 + br ln x.toNat) / 2
    | _ => (stf ln g.1 x : Nat)
def a_wearer : ST → Int → Int → Int
  | (_, _, ln, g, _, _, _, _, _, _), w, a => if ¬ (0 ≤ w ∧ w < nW ln) then UNK else if ¬ (0 ≤ a ∧ a < 5) then OUT else match a.toNat with
    | 0 => (lkN ln w.toNat : Nat)
    | 1 => g.2.2.2.1.getD w.toNat 0
    | 2 => (scOf g.1 w : Nat)
    | 3 => kin_ (nW ln) g.1 w.toNat
    | _ => tk ln g.1 (nxt ln g w) 0 0
def a_layer : ST → Int → Int → Int
  | (_, _, _, g, _, _, _, _, _, _), k, a => if ¬ (0 ≤ k ∧ k < g.1.length) then UNK else if ¬ (0 ≤ a ∧ a < 3) then OUT else match a.toNat with
    | 0 => lS g.1 k.toNat
    | 1 => lW g.1 k.toNat
    | _ => lT g.1 k.toNat
def a_logged : ST → Int → Int → Int
  | (_, _, _, g, _, _, _, _, _, _), i, a => if ¬ (0 ≤ a ∧ a < 4) then OUT else logAt g.2.2.2.2 i a.toNat
/-- 0: so many years may pass -/
def refs (ln : LN) (g : GS) (n : Int) : Int := if ¬ (1 ≤ n ∧ n ≤ 30) then OUT else if ln.1 = 0 then NOTN else if 90000 < g.2.2.1 then FUL else 0
def a_year : ST → Int → Int × ST
  | (tx, fa, ln, g, un, i0, i1, sd, me, bo), n => if refs ln g n ≠ 0 then (refs ln g n, (tx, fa, ln, g, un, i0, i1, sd, me, bo)) else ((yearN ln n.toNat g un).1.2.2.1, (tx, fa, ln, (yearN ln n.toNat g un).1, (yearN ln n.toNat g un).2, i0, i1, sd, me, bo))
def a_wear : ST → Int → Int × ST
  | (tx, fa, ln, g, un, i0, i1, sd, me, bo), w => if ¬ (0 ≤ w ∧ w < nW ln) then (UNK, (tx, fa, ln, g, un, i0, i1, sd, me, bo)) else if g.2.1 = w then (NOTN, (tx, fa, ln, g, un, i0, i1, sd, me, bo)) else (g.2.1, (tx, fa, ln, (g.1, w, g.2.2), rem un g, i0, i1, sd, me, bo))
def a_takeOff : ST → Int × ST
  | (tx, fa, ln, g, un, i0, i1, sd, me, bo) => if g.2.1 = -1 then (NOTN, (tx, fa, ln, g, un, i0, i1, sd, me, bo)) else (g.2.1, (tx, fa, ln, (g.1, -1, g.2.2), rem un g, i0, i1, sd, me, bo))
def a_wipe : ST → Int → Int × ST
  | (tx, fa, ln, g, un, i0, i1, sd, me, bo), k => if ¬ (0 ≤ k ∧ k < g.1.length) then (UNK, (tx, fa, ln, g, un, i0, i1, sd, me, bo)) else (((g.1.eraseIdx k.toNat).length : Nat), (tx, fa, ln, (g.1.eraseIdx k.toNat, g.2), rem un g, i0, i1, sd, me, bo))
def a_chip : ST → Int → Int → Int × ST
  | (tx, fa, ln, g, un, i0, i1, sd, me, bo), x, n => if ¬ (0 ≤ x ∧ x < nS ln) then (UNK, (tx, fa, ln, g, un, i0, i1, sd, me, bo)) else if ¬ (1 ≤ n ∧ n ≤ 99) then (OUT, (tx, fa, ln, g, un, i0, i1, sd, me, bo)) else (((layL g.1 (x, -1, n)).length : Nat), (tx, fa, ln, (layL g.1 (x, -1, n), g.2), rem un g, i0, i1, sd, me, bo))
def a_drift : ST → Int → Int × ST
  | (tx, fa, ln, g, un, i0, i1, sd, me, bo), n => if refs ln g n ≠ 0 then (refs ln g n, (tx, fa, ln, g, un, i0, i1, sd, me, bo)) else ((driftN ln n.toNat g un sd).1.2.2.1, (tx, fa, ln, (driftN ln n.toNat g un sd).1, (driftN ln n.toNat g un sd).2.1, i0, i1, (driftN ln n.toNat g un sd).2.2, me, bo))
def a_undo : ST → Int → Int × ST
  | (tx, fa, ln, g, un, i0, i1, sd, me, bo), n => if ¬ (1 ≤ n ∧ n ≤ 30) then (OUT, (tx, fa, ln, g, un, i0, i1, sd, me, bo)) else if (un.length : Int) < n then (NOTN, (tx, fa, ln, g, un, i0, i1, sd, me, bo)) else ((un.getD (un.length - n.toNat) g0).2.2.1, (tx, fa, ln, un.getD (un.length - n.toNat) g0, un.take (un.length - n.toNat), i0, i1, sd, me, bo))
def a_takes : ST → Int → Int
  | (_, _, ln, g, _, _, _, _, _, _), x => if ¬ (0 ≤ x ∧ x < nS ln) then UNK else tk ln g.1 x 0 0
def a_dark : ST → Int → Int
  | (_, _, ln, g, _, _, _, _, _, _), n => if ¬ (0 ≤ n ∧ n ≤ 60) then OUT else smAll (tryN ln n.toNat g).1 / 10
def a_tooDark : ST → Int → Int
  | (_, _, ln, g, _, _, _, _, _, _), m => if ¬ (1 ≤ m ∧ m ≤ 99) then OUT else tdk ln m 201 0 g
def a_willShow : ST → Int → Int → Int
  | (_, _, ln, g, _, _, _, _, _, _), x, n => if ¬ (0 ≤ x ∧ x < nS ln) then UNK else if ¬ (0 ≤ n ∧ n ≤ 60) then OUT else smOf (tryN ln n.toNat g).1 x
def a_only : ST → Int → Int → Int
  | (_, _, ln, g, _, _, _, _, _, _), k, x => if ¬ (0 ≤ k ∧ k < g.1.length ∧ 0 ≤ x ∧ x < nS ln) then UNK else if lT g.1 k.toNat ≤ (ln.1 + 0 + br ln x.toNat) / 2 then -1 else lb g.1 k.toNat
def a_ground : ST → Int → Int
  | (_, _, ln, g, _, _, _, _, _, _), x => if ¬ (0 ≤ x ∧ x < nS ln) then UNK else grd ln g.1 x 100 0
def a_mist (n q : Int) : Int := if ¬ (0 ≤ n ∧ n ≤ 60 ∧ 0 ≤ q ∧ q ≤ 100) then OUT else mst q n.toNat 1000000000
def a_meet : ST → Int → Int → Int × ST
  | (tx, fa, ln, g, un, i0, i1, sd, me, bo), x, v => if ¬ (0 ≤ x ∧ x < nS ln) then (UNK, (tx, fa, ln, g, un, i0, i1, sd, me, bo)) else if me.length = 6 then (FUL, (tx, fa, ln, g, un, i0, i1, sd, me, bo)) else (((me ++ [(x, v)]).length : Nat), (tx, fa, ln, g, un, i0, i1, sd, me ++ [(x, v)], bo))
def a_couldBe : ST → Int
  | (_, _, ln, g, _, _, _, _, me, _) => (cb ln g.1 me : Nat)
def a_ask : ST → Int
  | (_, _, ln, g, _, _, _, _, me, _) => ask_ ln g.1 (cb ln g.1 me)
def a_write : ST → Int → Int → Int × ST
  | (tx, fa, ln, g, un, i0, i1, sd, me, bo), x, y => if ¬ (0 ≤ x ∧ x < nS ln ∧ 0 ≤ y ∧ y < nS ln) then (UNK, (tx, fa, ln, g, un, i0, i1, sd, me, bo)) else if bo.length = 20 then (FUL, (tx, fa, ln, g, un, i0, i1, sd, me, bo)) else (((bo ++ [(x, y)]).length : Nat), (tx, fa, ln, g, un, i0, i1, sd, me, bo ++ [(x, y)]))
def a_judge : ST → Int
  | (_, _, ln, g, _, _, _, _, _, bo) => jdg ln g.1 bo
def a_tear : ST → Int × ST
  | (tx, fa, ln, g, un, i0, i1, sd, me, bo) => ((me.length : Int) + bo.length, (tx, fa, ln, g, un, i0, i1, sd, [], []))
def a_seed : ST → Int → Int × ST
  | (tx, fa, ln, g, un, i0, i1, sd, me, bo), v => if v < 0 then (OUT, (tx, fa, ln, g, un, i0, i1, sd, me, bo)) else (sd, (tx, fa, ln, g, un, i0, i1, v, me, bo))
def a_keep : ST → Int → Int × ST
  | (tx, fa, ln, g, un, i0, i1, sd, me, bo), i => if ¬ (0 ≤ i ∧ i ≤ 1) then (UNK, (tx, fa, ln, g, un, i0, i1, sd, me, bo)) else if i = 0 then (1, (tx, fa, ln, g, [], some (g, sd), i1, sd, me, bo)) else (1, (tx, fa, ln, g, [], i0, some (g, sd), sd, me, bo))
def a_goBack : ST → Int → Int × ST
  | (tx, fa, ln, g, un, i0, i1, sd, me, bo), i => if ¬ (0 ≤ i ∧ i ≤ 1) then (UNK, (tx, fa, ln, g, un, i0, i1, sd, me, bo)) else match (if i = 0 then i0 else i1) with
    | none => (NOTN, (tx, fa, ln, g, un, i0, i1, sd, me, bo))
    | some q => (1, (tx, fa, ln, q.1, [], i0, i1, q.2, me, bo))
theorem passY_y (ln : LN) (g : GS) : (passY ln g).2.2.1 = g.2.2.1 + 1 := by
  unfold passY
  split <;> rfl
theorem refs_rng {ln : LN} {g : GS} {n : Int} : -2147483648 ≤ refs ln g n ∧ refs ln g n ≤ 2147483647 := by
  unfold refs
  split
  · decide
  · split
    · decide
    · split <;> decide
theorem refs_0 {ln : LN} {g : GS} {n : Int} (h : refs ln g n = 0) : 1 ≤ n ∧ n ≤ 30 ∧ ln.1 ≠ 0 ∧ g.2.2.1 ≤ 90000 := by
  unfold refs at h
  by_cases e1 : 1 ≤ n ∧ n ≤ 30
  · rw [if_neg (not_not_intro e1)] at h
    by_cases e2 : ln.1 = 0
    · rw [if_pos e2] at h; exact absurd h (by decide)
    · rw [if_neg e2] at h
      by_cases e3 : 90000 < g.2.2.1
      · rw [if_pos e3] at h; exact absurd h (by decide)
      · exact ⟨e1.1, e1.2, e2, by omega⟩
  · rw [if_pos e1] at h; exact absurd h (by decide)
theorem smAll_rng {Ls : List LY} {ns nw : Nat} (hok : LsOk ns nw Ls) : 0 ≤ smAll Ls ∧ smAll Ls ≤ 990 := by
  have h := fo_inv (step := fun k s => s + lT Ls k) (fun j s => 0 ≤ s ∧ s ≤ 99 * j) Ls.length 0 0 (by decide) (fun j t _ hj ht => by
    have := hok.at j (by omega)
    constructor <;> omega)
  have := hok.1
  unfold smAll
  constructor <;> omega
