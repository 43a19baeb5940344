/-! ===== what a state is: layers, the pair, the line ===== -/
abbrev LY : Type := Int × Int × Int
abbrev LN : Type := Int × List (Int × Int) × List (List Int)
abbrev GS : Type := List LY × Int × Int × List Int × List (Int × Int × Int × Int)
def lS (Ls : List LY) (k : Nat) : Int := (Ls.getD k (0, 0, 0)).1
def lW (Ls : List LY) (k : Nat) : Int := (Ls.getD k (0, 0, 0)).2.1
def lT (Ls : List LY) (k : Nat) : Int := (Ls.getD k (0, 0, 0)).2.2
def nS (ln : LN) : Nat := ln.2.1.length
def nW (ln : LN) : Nat := ln.2.2.length
def kd (ln : LN) (x : Nat) : Int := (ln.2.1.getD x (0, 0)).1
def br (ln : LN) (x : Nat) : Int := (ln.2.1.getD x (0, 0)).2
def lkN (ln : LN) (w : Nat) : Nat := (ln.2.2.getD w []).length
def lk (ln : LN) (w j : Nat) : Int := (ln.2.2.getD w []).getD j 0
/-- a line that was read without a fault (or none at all) -/
def LnOk (ln : LN) : Prop := 0 ≤ ln.1 ∧ ln.1 ≤ 99 ∧ nS ln ≤ 8 ∧ nW ln ≤ 6 ∧ (∀ x, x < nS ln → 0 ≤ kd ln x ∧ kd ln x ≤ 3 ∧ 1 ≤ br ln x ∧ br ln x ≤ 99) ∧ (∀ w, w < nW ln → 1 ≤ lkN ln w ∧ lkN ln w ≤ 6 ∧ ∀ j, j < lkN ln w → 0 ≤ lk ln w j ∧ lk ln w j < nS ln) ∧ (ln.1 = 0 → nS ln = 0 ∧ nW ln = 0)
/-- the cells of a Line of the class -/
def LineAt (M : AM) (b : Nat) (kf bf lc : Nat → Int) (lk : Nat → Nat → Int) (c s w : Int) : Prop :=
  M b = some (zO 3 [.ref (b + 1), .ref (b + 2), .ref (b + 3), .ref (b + 4), zI c, zI s, zI w]) ∧ M (b + 1) = some (zA 8 kf) ∧ M (b + 2) = some (zA 8 bf) ∧ M (b + 3) = some (zA 6 lc) ∧ (∃ g, M (b + 4) = some (zR 4 6 g) ∧ ∀ i, i < 6 → g i = some (b + 5 + i)) ∧ ∀ i, i < 6 → M (b + 5 + i) = some (zA 6 (lk i))
def LineA (M : AM) (b : Nat) (ln : LN) : Prop :=
  LnOk ln ∧ ∃ (kf bf lc : Nat → Int) (lkf : Nat → Nat → Int), LineAt M b kf bf lc lkf ln.1 (nS ln : Nat) (nW ln : Nat) ∧ (∀ x, x < nS ln → kf x = kd ln x ∧ bf x = br ln x) ∧ ∀ w, w < nW ln → lc w = lkN ln w ∧ ∀ j, j < lkN ln w → lkf w j = lk ln w j
theorem LineA.fr {M M' : AM} {b : Nat} {ln : LN} {F : Nat → Prop} (h : LineA M b ln) (hf : Fr F M M') (hF : ∀ q, b ≤ q ∧ q < b + 11 → F q) : LineA M' b ln := by
  obtain ⟨h0, kf, bf, lc, lkf, ⟨h1, h2, h3, h4, ⟨g, h5, h6⟩, h7⟩, h8, h9⟩ := h
  exact ⟨h0, kf, bf, lc, lkf, ⟨hf.at h1 (hF _ (by omega)), hf.at h2 (hF _ (by omega)), hf.at h3 (hF _ (by omega)), hf.at h4 (hF _ (by omega)), ⟨g, hf.at h5 (hF _ (by omega)), h6⟩, fun i hi => hf.at (h7 i hi) (hF _ (by omega))⟩, h8, h9⟩
/-- the cells of a Pair of the class, with its Log -/
def PairAt (M : AM) (p : Nat) (sc wh st hs lr : Nat → Int) (lf lz n w y : Int) : Prop :=
  M p = some (zO 6 [.ref (p + 1), .ref (p + 2), .ref (p + 3), .ref (p + 4), .ref (p + 5), zI n, zI w, zI y]) ∧ M (p + 1) = some (zA 10 sc) ∧ M (p + 2) = some (zA 10 wh) ∧ M (p + 3) = some (zA 10 st) ∧ M (p + 4) = some (zA 6 hs) ∧ M (p + 5) = some (zO 4 [.ref (p + 6), zI lf, zI lz]) ∧ M (p + 6) = some (zA 80 lr)
/-- what holds of every pair, a stale one too -/
def PairR (M : AM) (p : Nat) : Prop := ∃ (sc wh st hs lr : Nat → Int) (lf lz n w y : Int), PairAt M p sc wh st hs lr lf lz n w y ∧ 0 ≤ lf ∧ lf < 20 ∧ 0 ≤ lz ∧ lz ≤ 20
/-- the bounds of a pair's state, for a line of so many scenes and wearers -/
def GOk (ns nw : Nat) (g : GS) : Prop := g.1.length ≤ 10 ∧ (∀ k, k < g.1.length → 0 ≤ lS g.1 k ∧ lS g.1 k < ns ∧ -1 ≤ lW g.1 k ∧ lW g.1 k < nw ∧ 1 ≤ lT g.1 k ∧ lT g.1 k ≤ 99) ∧ -1 ≤ g.2.1 ∧ g.2.1 < nw ∧ 0 ≤ g.2.2.1 ∧ g.2.2.1 ≤ 100000 ∧ g.2.2.2.1.length = 6 ∧ (∀ j, j < 6 → 0 ≤ g.2.2.2.1.getD j 0 ∧ g.2.2.2.1.getD j 0 ≤ g.2.2.1) ∧ g.2.2.2.2.length ≤ 20 ∧ ns ≤ 8 ∧ nw ≤ 6
/-- the log in a ring: oldest first -/
def RLog (lr : Nat → Int) (lf lz : Int) (lg : List (Int × Int × Int × Int)) : Prop := lz = lg.length ∧ 0 ≤ lf ∧ lf < 20 ∧ lg.length ≤ 20 ∧ ∀ i, i < lg.length → ∀ r : Nat, (r : Int) = (lf + i) % 20 → lr (4 * r) = (lg.getD i (0, 0, 0, 0)).1 ∧ lr (4 * r + 1) = (lg.getD i (0, 0, 0, 0)).2.1 ∧ lr (4 * r + 2) = (lg.getD i (0, 0, 0, 0)).2.2.1 ∧ lr (4 * r + 3) = (lg.getD i (0, 0, 0, 0)).2.2.2
def RLay (sc wh st : Nat → Int) (Ls : List LY) : Prop := ∀ k, k < Ls.length → sc k = lS Ls k ∧ wh k = lW Ls k ∧ st k = lT Ls k
def RHis (hs : Nat → Int) (h : List Int) : Prop := ∀ j, j < 6 → hs j = h.getD j 0
/-- with its log (true), or the log being anything (false) -/
def RLogB (b : Bool) (lr : Nat → Int) (lf lz : Int) (lg : List (Int × Int × Int × Int)) : Prop := 0 ≤ lf ∧ lf < 20 ∧ 0 ≤ lz ∧ lz ≤ 20 ∧ (b = true → RLog lr lf lz lg)
def LogB (M : AM) (l : Nat) (b : Bool) (lg : List (Int × Int × Int × Int)) : Prop := ∃ (lr : Nat → Int) (lf lz : Int), M l = some (zO 4 [.ref (l + 1), zI lf, zI lz]) ∧ M (l + 1) = some (zA 80 lr) ∧ RLogB b lr lf lz lg
def PairB (b : Bool) (M : AM) (p : Nat) (ns nw : Nat) (g : GS) : Prop := GOk ns nw g ∧ ∃ (sc wh st hs lr : Nat → Int) (lf lz : Int), PairAt M p sc wh st hs lr lf lz (g.1.length : Nat) g.2.1 g.2.2.1 ∧ RLay sc wh st g.1 ∧ RHis hs g.2.2.2.1 ∧ RLogB b lr lf lz g.2.2.2.2
theorem PairB.g {b : Bool} {M : AM} {p ns nw : Nat} {g : GS} (h : PairB b M p ns nw g) : PairB false M p ns nw g := by
  obtain ⟨h0, sc, wh, st, hs, lr, lf, lz, h1, h2, h3, h4⟩ := h
  exact ⟨h0, sc, wh, st, hs, lr, lf, lz, h1, h2, h3, h4.1, h4.2.1, h4.2.2.1, h4.2.2.2.1, fun q => by cases q⟩
theorem PairB.r {b : Bool} {M : AM} {p ns nw : Nat} {g : GS} (h : PairB b M p ns nw g) : PairR M p := by
  obtain ⟨h0, sc, wh, st, hs, lr, lf, lz, h1, h2, h3, h4⟩ := h
  exact ⟨sc, wh, st, hs, lr, lf, lz, _, _, _, h1, h4.1, h4.2.1, h4.2.2.1, h4.2.2.2.1⟩
theorem PairAt.fr {M M' : AM} {p : Nat} {sc wh st hs lr : Nat → Int} {lf lz n w y : Int} {F : Nat → Prop} (h : PairAt M p sc wh st hs lr lf lz n w y) (hf : Fr F M M') (hF : ∀ q, p ≤ q ∧ q < p + 7 → F q) : PairAt M' p sc wh st hs lr lf lz n w y := by
  obtain ⟨h1, h2, h3, h4, h5, h6, h7⟩ := h
  exact ⟨hf.at h1 (hF _ (by omega)), hf.at h2 (hF _ (by omega)), hf.at h3 (hF _ (by omega)), hf.at h4 (hF _ (by omega)), hf.at h5 (hF _ (by omega)), hf.at h6 (hF _ (by omega)), hf.at h7 (hF _ (by omega))⟩
theorem PairB.fr {b : Bool} {M M' : AM} {p ns nw : Nat} {g : GS} {F : Nat → Prop} (h : PairB b M p ns nw g) (hf : Fr F M M') (hF : ∀ q, p ≤ q ∧ q < p + 7 → F q) : PairB b M' p ns nw g := by
  obtain ⟨h0, sc, wh, st, hs, lr, lf, lz, h1, h2⟩ := h
  exact ⟨h0, sc, wh, st, hs, lr, lf, lz, h1.fr hf hF, h2⟩
theorem PairR.fr {M M' : AM} {p : Nat} {F : Nat → Prop} (h : PairR M p) (hf : Fr F M M') (hF : ∀ q, p ≤ q ∧ q < p + 7 → F q) : PairR M' p := by
  obtain ⟨sc, wh, st, hs, lr, lf, lz, n, w, y, h1, h2⟩ := h
  exact ⟨sc, wh, st, hs, lr, lf, lz, n, w, y, h1.fr hf hF, h2⟩
def logAdd (lg : List (Int × Int × Int × Int)) (e : Int × Int × Int × Int) : List (Int × Int × Int × Int) := (if lg.length = 20 then lg.drop 1 else lg) ++ [e]
def logAt (lg : List (Int × Int × Int × Int)) (i : Int) (c : Nat) : Int := if 0 ≤ i ∧ i < lg.length then (match c with
  | 0 => (lg.getD (lg.length - 1 - i.toNat) (0, 0, 0, 0)).1
  | 1 => (lg.getD (lg.length - 1 - i.toNat) (0, 0, 0, 0)).2.1
  | 2 => (lg.getD (lg.length - 1 - i.toNat) (0, 0, 0, 0)).2.2.1
  | _ => (lg.getD (lg.length - 1 - i.toNat) (0, 0, 0, 0)).2.2.2) else -1
theorem gd_app_l {α : Type} {l r : List α} {i : Nat} {d : α} (h : i < l.length) : (l ++ r).getD i d = l.getD i d := by
  rw [List.getD_eq_getElem?_getD, List.getD_eq_getElem?_getD, List.getElem?_append_left h]
theorem gd_app_last {α : Type} {l : List α} {x d : α} : (l ++ [x]).getD l.length d = x := by
  rw [List.getD_eq_getElem?_getD, List.getElem?_append_right (Nat.le_refl _), Nat.sub_self]; rfl
theorem gd_drop {α : Type} {l : List α} {n i : Nat} {d : α} : (l.drop n).getD i d = l.getD (n + i) d := by
  rw [List.getD_eq_getElem?_getD, List.getD_eq_getElem?_getD, List.getElem?_drop]
theorem logAdd_len {lg : List (Int × Int × Int × Int)} {e : Int × Int × Int × Int} (h : lg.length ≤ 20) : (logAdd lg e).length = if lg.length = 20 then 20 else lg.length + 1 := by
  unfold logAdd
  split <;> simp <;> omega
theorem RLog.add {lr lr' : Nat → Int} {lf lz lf' lz' : Int} {lg : List (Int × Int × Int × Int)} {y w x t : Int} (h : RLog lr lf lz lg) (hz : lz' = if lz = 20 then 20 else lz + 1) (hf : lf' = if lz = 20 then (lf + 1) % 20 else lf)
    (r : Nat) (hr : (r : Int) = (lf + lz) % 20) (h0 : lr' (4 * r) = y) (h1 : lr' (4 * r + 1) = w) (h2 : lr' (4 * r + 2) = x) (h3 : lr' (4 * r + 3) = t) (ho : ∀ j, ¬ (4 * r ≤ j ∧ j < 4 * r + 4) → lr' j = lr j) : RLog lr' lf' lz' (logAdd lg (y, w, x, t)) := by
  obtain ⟨a1, a2, a3, a4, a5⟩ := h
  have hl := logAdd_len (e := (y, w, x, t)) a4
  refine ⟨?_, ?_, ?_, ?_, ?_⟩
  · rw [hl, hz]; split <;> split <;> omega
  · rw [hf]; split <;> omega
  · rw [hf]; split <;> omega
  · rw [hl]; split <;> omega
  · intro i hi q hq
    rw [hl] at hi
    by_cases c : lg.length = 20
    · rw [if_pos c] at hi
      have e1 : logAdd lg (y, w, x, t) = lg.drop 1 ++ [(y, w, x, t)] := by unfold logAdd; rw [if_pos c]
      have e2 : (lg.drop 1).length = 19 := by rw [List.length_drop, c]
      rw [e1]
      by_cases c2 : i = 19
      · have e3 : (lg.drop 1 ++ [(y, w, x, t)]).getD i (0, 0, 0, 0) = (y, w, x, t) := by rw [c2, ← e2]; exact gd_app_last
        have e4 : q = r := by rw [hf, if_pos (by omega)] at hq; omega
        rw [e3, e4]
        exact ⟨h0, h1, h2, h3⟩
      · have e3 : (lg.drop 1 ++ [(y, w, x, t)]).getD i (0, 0, 0, 0) = lg.getD (1 + i) (0, 0, 0, 0) := by rw [gd_app_l (by omega), gd_drop]
        rw [e3]
        have e5 := a5 (1 + i) (by omega) q (by rw [hf, if_pos (by omega)] at hq; omega)
        have e6 : q ≠ r := by rw [hf, if_pos (by omega)] at hq; omega
        rw [ho _ (by omega), ho _ (by omega), ho _ (by omega), ho _ (by omega)]
        exact e5
    · rw [if_neg c] at hi
      have e1 : logAdd lg (y, w, x, t) = lg ++ [(y, w, x, t)] := by unfold logAdd; rw [if_neg c]
      rw [e1]
      by_cases c2 : i = lg.length
      · have e3 : (lg ++ [(y, w, x, t)]).getD i (0, 0, 0, 0) = (y, w, x, t) := by rw [c2]; exact gd_app_last
        have e4 : q = r := by rw [hf, if_neg (by omega)] at hq; omega
        rw [e3, e4]
        exact ⟨h0, h1, h2, h3⟩
      · have e3 : (lg ++ [(y, w, x, t)]).getD i (0, 0, 0, 0) = lg.getD i (0, 0, 0, 0) := gd_app_l (by omega)
        rw [e3]
        have e5 := a5 i (by omega) q (by rw [hf, if_neg (by omega)] at hq; omega)
        have e6 : q ≠ r := by rw [hf, if_neg (by omega)] at hq; omega
        rw [ho _ (by omega), ho _ (by omega), ho _ (by omega), ho _ (by omega)]
        exact e5
/-- the memory is the same but for these n places -/
def FrI (p n : Nat) (M M' : AM) : Prop := Fr (fun q => q < p ∨ p + n ≤ q) M M'
theorem FrI.rf {p n : Nat} {M : AM} : FrI p n M M := Fr.rf
theorem FrI.tr {p n : Nat} {M M' M'' : AM} (h : FrI p n M M') (h2 : FrI p n M' M'') : FrI p n M M'' := Fr.tr h h2
theorem FrI.up {p n k : Nat} {M M' M'' : AM} {c : AE} (h : FrI p n M M') (e : M'' = aup M' k c) (hk : p ≤ k ∧ k < p + n) : FrI p n M M'' := Fr.up h e (fun z => by
  have z : k < p ∨ p + n ≤ k := z
  omega)
theorem FrI.at {p n o : Nat} {M M' : AM} {x : AE} (h : FrI p n M M') (hM : M o = some x) (ho : o < p ∨ p + n ≤ o) : M' o = some x := Fr.at h hM ho
theorem FrI.weak {p n p' n' : Nat} {M M' : AM} (h : FrI p n M M') (hw : p' ≤ p ∧ p + n ≤ p' + n') : FrI p' n' M M' := Fr.weak h (fun q hq => by
  have hq : q < p' ∨ p' + n' ≤ q := hq
  show q < p ∨ p + n ≤ q
  omega)
theorem PairB.fi {b : Bool} {M M' : AM} {p ns nw a n : Nat} {g : GS} (h : PairB b M p ns nw g) (hf : FrI a n M M') (hd : p + 7 ≤ a ∨ a + n ≤ p) : PairB b M' p ns nw g := h.fr hf (fun q hq => by show q < a ∨ a + n ≤ q; omega)
theorem PairR.fi {M M' : AM} {p a n : Nat} (h : PairR M p) (hf : FrI a n M M') (hd : p + 7 ≤ a ∨ a + n ≤ p) : PairR M' p := h.fr hf (fun q hq => by show q < a ∨ a + n ≤ q; omega)
theorem LineA.fi {M M' : AM} {b a n : Nat} {ln : LN} (h : LineA M b ln) (hf : FrI a n M M') (hd : b + 11 ≤ a ∨ a + n ≤ b) : LineA M' b ln := h.fr hf (fun q hq => by show q < a ∨ a + n ≤ q; omega)
