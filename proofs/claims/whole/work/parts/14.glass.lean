/-! ===== what is done with layers ===== -/
def PairW (M : AM) (p : Nat) (Ls : List LY) (w y : Int) (hs lr : Nat → Int) (lf lz : Int) : Prop := Ls.length ≤ 10 ∧ ∃ (sc wh st : Nat → Int), PairAt M p sc wh st hs lr lf lz (Ls.length : Nat) w y ∧ RLay sc wh st Ls
theorem PairB.w {b : Bool} {M : AM} {p ns nw : Nat} {g : GS} (h : PairB b M p ns nw g) : GOk ns nw g ∧ ∃ (hs lr : Nat → Int) (lf lz : Int), PairW M p g.1 g.2.1 g.2.2.1 hs lr lf lz ∧ RHis hs g.2.2.2.1 ∧ RLogB b lr lf lz g.2.2.2.2 := by
  obtain ⟨h0, sc, wh, st, hs, lr, lf, lz, h1, h2, h3, h4⟩ := h
  exact ⟨h0, hs, lr, lf, lz, ⟨h0.1, sc, wh, st, h1, h2⟩, h3, h4⟩
theorem PairW.b {b : Bool} {M : AM} {p ns nw : Nat} {g : GS} {hs lr : Nat → Int} {lf lz : Int} (h : PairW M p g.1 g.2.1 g.2.2.1 hs lr lf lz) (h0 : GOk ns nw g) (h3 : RHis hs g.2.2.2.1) (h4 : RLogB b lr lf lz g.2.2.2.2) : PairB b M p ns nw g := by
  obtain ⟨-, sc, wh, st, h1, h2⟩ := h
  exact ⟨h0, sc, wh, st, hs, lr, lf, lz, h1, h2, h3, h4⟩
def layL (Ls : List LY) (e : LY) : List LY := (if 10 ≤ Ls.length then Ls.eraseIdx (wk Ls).toNat else Ls) ++ [e]
def deepL (Ls : List LY) (w x gain : Int) : List LY × Int := if 0 ≤ fnd Ls w x then (Ls.set (fnd Ls w x).toNat (x, w, min 99 (lT Ls (fnd Ls w x).toNat + gain)), fnd Ls w x) else (layL Ls (x, w, gain), ((layL Ls (x, w, gain)).length : Int) - 1)
def fadeL (ln : LN) (y own : Int) : Nat → List LY → List LY
  | _, [] => []
  | i, e :: r => if (i : Int) = own then e :: fadeL ln y own (i + 1) r else if e.2.2 - fdg (kd ln e.1.toNat) e.2.2 y ≤ 0 then fadeL ln y own (i + 1) r else (e.1, e.2.1, e.2.2 - fdg (kd ln e.1.toNat) e.2.2 y) :: fadeL ln y own (i + 1) r
def nxt (ln : LN) (g : GS) (w : Int) : Int := lk ln w.toNat ((g.2.2.2.1.getD w.toNat 0).toNat % lkN ln w.toNat)
def passY (ln : LN) (g : GS) : GS := if 0 ≤ g.2.1 then
    (fadeL ln g.2.2.1 (deepL g.1 g.2.1 (nxt ln g g.2.1) (br ln (nxt ln g g.2.1).toNat / 10 + 1)).2 0 (deepL g.1 g.2.1 (nxt ln g g.2.1) (br ln (nxt ln g g.2.1).toNat / 10 + 1)).1, g.2.1, g.2.2.1 + 1, g.2.2.2.1.set g.2.1.toNat (g.2.2.2.1.getD g.2.1.toNat 0 + 1), logAdd g.2.2.2.2 (g.2.2.1, g.2.1, nxt ln g g.2.1, tk ln g.1 (nxt ln g g.2.1) 0 0))
  else (fadeL ln g.2.2.1 (-1) 0 g.1, g.2.1, g.2.2.1 + 1, g.2.2.2.1, g.2.2.2.2)
theorem er_getD {α : Type} (l : List α) (i j : Nat) (d : α) : (l.eraseIdx i).getD j d = if j < i then l.getD j d else l.getD (j + 1) d := by
  rw [List.getD_eq_getElem?_getD, List.getElem?_eraseIdx]
  split <;> rw [List.getD_eq_getElem?_getD]
theorem er_len {α : Type} {l : List α} {i : Nat} (h : i < l.length) : (l.eraseIdx i).length = l.length - 1 := List.length_eraseIdx_of_lt h
theorem st_getD {α : Type} (l : List α) (i j : Nat) (x d : α) (h : i < l.length) : (l.set i x).getD j d = if j = i then x else l.getD j d := by
  rw [List.getD_eq_getElem?_getD, List.getElem?_set]
  by_cases e : i = j
  · subst e; rw [if_pos rfl, if_pos h, if_pos rfl]; rfl
  · rw [if_neg e, if_neg (fun q => e q.symm), List.getD_eq_getElem?_getD]
def shf (f : Nat → Int) (k i : Nat) : Nat → Int := fun j => if k ≤ j ∧ j + 1 < i then f (j + 1) else f j
theorem shf_0 (f : Nat → Int) (k : Nat) : shf f k (k + 1) = f := by
  funext j
  unfold shf
  rw [if_neg (by omega)]
theorem shf_s (f : Nat → Int) (k i : Nat) (h : k < i) : zup (shf f k i) (i - 1) (shf f k i i) = shf f k (i + 1) := by
  funext j
  unfold shf zup
  by_cases e : j = i - 1
  · rw [if_pos e, if_neg (by omega), if_pos (by omega), show j + 1 = i by omega]
  · rw [if_neg e]
    show (if k ≤ j ∧ j + 1 < i then f (j + 1) else f j) = _
    by_cases e2 : k ≤ j ∧ j + 1 < i
    · rw [if_pos e2, if_pos (by omega)]
    · rw [if_neg e2, if_neg (by omega)]
theorem RLay.er {sc wh st : Nat → Int} {Ls : List LY} {k : Nat} (h : RLay sc wh st Ls) (hk : k < Ls.length) : RLay (shf sc k Ls.length) (shf wh k Ls.length) (shf st k Ls.length) (Ls.eraseIdx k) := by
  intro j hj
  rw [er_len hk] at hj
  unfold lS lW lT shf
  rw [er_getD]
  by_cases e : j < k
  · rw [if_pos e, if_neg (by omega), if_neg (by omega), if_neg (by omega)]
    exact h j (by omega)
  · rw [if_neg e, if_pos (by omega), if_pos (by omega), if_pos (by omega)]
    exact h (j + 1) (by omega)
theorem RLay.app {sc wh st : Nat → Int} {Ls : List LY} {x w t : Int} (h : RLay sc wh st Ls) : RLay (zup sc Ls.length x) (zup wh Ls.length w) (zup st Ls.length t) (Ls ++ [(x, w, t)]) := by
  intro j hj
  rw [List.length_append] at hj
  unfold lS lW lT
  by_cases e : j = Ls.length
  · subst e
    rw [gd_app_last, zup_e, zup_e, zup_e]
    exact ⟨rfl, rfl, rfl⟩
  · have hj' : j < Ls.length := by simp at hj; omega
    rw [gd_app_l hj', zup_n e, zup_n e, zup_n e]
    exact h j hj'
theorem RLay.setT {sc wh st : Nat → Int} {Ls : List LY} {k : Nat} {t : Int} (h : RLay sc wh st Ls) (hk : k < Ls.length) : RLay sc wh (zup st k t) (Ls.set k (lS Ls k, lW Ls k, t)) := by
  intro j hj
  rw [List.length_set] at hj
  obtain ⟨h1, h2, h3⟩ := h j hj
  unfold lS at h1
  unfold lW at h2
  unfold lT at h3
  unfold lS lW lT
  rw [st_getD _ _ _ _ _ hk]
  by_cases e : j = k
  · subst e
    rw [if_pos rfl, zup_e]
    exact ⟨h1, h2, rfl⟩
  · rw [if_neg e, zup_n e]
    exact ⟨h1, h2, h3⟩
theorem ly_drop {Ls : List LY} {k : Nat} (h : k < Ls.length) : Ls.drop k = (lS Ls k, lW Ls k, lT Ls k) :: Ls.drop (k + 1) := by
  rw [List.drop_eq_getElem_cons h]
  unfold lS lW lT
  rw [List.getD_eq_getElem?_getD, List.getElem?_eq_getElem h]
  rfl
theorem wk_rng {Ls : List LY} (h0 : 0 < Ls.length) (h : ∀ k, k < Ls.length → lT Ls k ≤ 99) : 0 ≤ wk Ls ∧ wk Ls < Ls.length := by
  have hi := fo_inv (step := wkStep Ls) (fun j s => s.2 ≤ 100 ∧ s.1 < j ∧ (0 < j → 0 ≤ s.1) ∧ (j = 0 → s.2 = 100)) Ls.length 0 (-1, 100) ⟨by decide, by decide, fun q => absurd q (by decide), fun _ => rfl⟩ (fun j t _ hj ⟨a1, a2, a3, a4⟩ => by
    have hj := h j (by omega)
    unfold wkStep
    split
    · exact ⟨by show lT Ls j ≤ 100; omega, by show (j : Int) < ((j + 1 : Nat) : Int); omega, fun _ => by show (0 : Int) ≤ (j : Int); omega, fun q => by omega⟩
    · refine ⟨a1, by omega, fun _ => a3 ?_, fun q => by omega⟩
      rcases Nat.eq_zero_or_pos j with e | e
      · have := a4 e; omega
      · exact e)
  rw [Nat.zero_add] at hi
  exact ⟨hi.2.2.1 h0, hi.2.1⟩
theorem fadeL_len (ln : LN) (y own : Int) : ∀ (l : List LY) (i : Nat), (fadeL ln y own i l).length ≤ l.length
  | [], _ => Nat.le_refl _
  | e :: r, i => by
    unfold fadeL
    have := fadeL_len ln y own r (i + 1)
    split
    · simp; omega
    · split <;> simp <;> omega
theorem fdg_nn {k t y : Int} (ht : 0 ≤ t) : 0 ≤ fdg k t y := by
  unfold fdg
  split
  · decide
  · split
    · omega
    · split
      · split <;> decide
      · decide
theorem fadeL_mem (ln : LN) (y own : Int) : ∀ (l : List LY) (i : Nat) (e : LY), (∀ a ∈ l, 1 ≤ a.2.2) → e ∈ fadeL ln y own i l → ∃ a ∈ l, e.1 = a.1 ∧ e.2.1 = a.2.1 ∧ 1 ≤ e.2.2 ∧ e.2.2 ≤ a.2.2
  | [], _, _, _, h => by cases h
  | a :: r, i, e, h1, h => by
    unfold fadeL at h
    have ha := h1 a List.mem_cons_self
    have hn := fdg_nn (k := kd ln a.1.toNat) (y := y) (t := a.2.2) (by omega)
    have rec' : e ∈ fadeL ln y own (i + 1) r → ∃ b ∈ a :: r, e.1 = b.1 ∧ e.2.1 = b.2.1 ∧ 1 ≤ e.2.2 ∧ e.2.2 ≤ b.2.2 := fun q => by
      obtain ⟨b, hb, z⟩ := fadeL_mem ln y own r (i + 1) e (fun c hc => h1 c (List.mem_cons_of_mem _ hc)) q
      exact ⟨b, List.mem_cons_of_mem _ hb, z⟩
    split at h
    · rcases List.mem_cons.mp h with q | q
      · subst q; exact ⟨e, List.mem_cons_self, rfl, rfl, ha, Int.le_refl _⟩
      · exact rec' q
    · split at h
      · exact rec' h
      · rcases List.mem_cons.mp h with q | q
        · subst q; exact ⟨a, List.mem_cons_self, rfl, rfl, by show 1 ≤ a.2.2 - _; omega, by show a.2.2 - _ ≤ a.2.2; omega⟩
        · exact rec' q
theorem ly_mem {Ls : List LY} {k : Nat} (h : k < Ls.length) : (lS Ls k, lW Ls k, lT Ls k) ∈ Ls := by
  unfold lS lW lT
  rw [List.getD_eq_getElem?_getD, List.getElem?_eq_getElem h]
  exact List.getElem_mem h
theorem ly_of_mem {Ls : List LY} {e : LY} (h : e ∈ Ls) : ∃ k, k < Ls.length ∧ e = (lS Ls k, lW Ls k, lT Ls k) := by
  obtain ⟨k, hk, he⟩ := List.getElem_of_mem h
  refine ⟨k, hk, ?_⟩
  unfold lS lW lT
  rw [List.getD_eq_getElem?_getD, List.getElem?_eq_getElem hk, ← he]
  rfl
/-- every layer within its bounds -/
def LyOk (ns nw : Nat) (e : LY) : Prop := 0 ≤ e.1 ∧ e.1 < ns ∧ -1 ≤ e.2.1 ∧ e.2.1 < nw ∧ 1 ≤ e.2.2 ∧ e.2.2 ≤ 99
def LsOk (ns nw : Nat) (Ls : List LY) : Prop := Ls.length ≤ 10 ∧ ∀ e ∈ Ls, LyOk ns nw e
theorem LsOk.at {ns nw : Nat} {Ls : List LY} (h : LsOk ns nw Ls) : ∀ k, k < Ls.length → 0 ≤ lS Ls k ∧ lS Ls k < ns ∧ -1 ≤ lW Ls k ∧ lW Ls k < nw ∧ 1 ≤ lT Ls k ∧ lT Ls k ≤ 99 := fun k hk => h.2 _ (ly_mem hk)
theorem GOk.ls {ns nw : Nat} {g : GS} (h : GOk ns nw g) : LsOk ns nw g.1 := ⟨h.1, fun e he => by
  obtain ⟨k, hk, rfl⟩ := ly_of_mem he
  exact h.2.1 k hk⟩
theorem LsOk.er {ns nw k : Nat} {Ls : List LY} (h : LsOk ns nw Ls) : LsOk ns nw (Ls.eraseIdx k) := ⟨Nat.le_trans (List.length_eraseIdx_le ..) h.1, fun e he => h.2 e (List.mem_of_mem_eraseIdx he)⟩
theorem LsOk.lay {ns nw : Nat} {Ls : List LY} {e : LY} (h : LsOk ns nw Ls) (he : LyOk ns nw e) : LsOk ns nw (layL Ls e) := by
  unfold layL
  split
  · rename_i c
    have hw := wk_rng (Ls := Ls) (by omega) (fun k hk => (h.at k hk).2.2.2.2.2)
    refine ⟨?_, fun a ha => ?_⟩
    · rw [List.length_append, er_len (by omega)]; have := h.1; simp; omega
    · rcases List.mem_append.mp ha with q | q
      · exact h.2 a (List.mem_of_mem_eraseIdx q)
      · rw [List.mem_singleton.mp q]; exact he
  · rename_i c
    refine ⟨by simp; omega, fun a ha => ?_⟩
    rcases List.mem_append.mp ha with q | q
    · exact h.2 a q
    · rw [List.mem_singleton.mp q]; exact he
theorem LsOk.fade {ns nw : Nat} {Ls : List LY} {ln : LN} {y own : Int} {i : Nat} (h : LsOk ns nw Ls) : LsOk ns nw (fadeL ln y own i Ls) := by
  refine ⟨Nat.le_trans (fadeL_len ln y own Ls i) h.1, fun e he => ?_⟩
  obtain ⟨a, ha, e1, e2, e3, e4⟩ := fadeL_mem ln y own Ls i e (fun b hb => (h.2 b hb).2.2.2.2.1) he
  obtain ⟨a1, a2, a3, a4, a5, a6⟩ := h.2 a ha
  exact ⟨by rw [e1]; exact a1, by rw [e1]; exact a2, by rw [e2]; exact a3, by rw [e2]; exact a4, e3, by omega⟩
theorem fnd_rng (Ls : List LY) (w x : Int) : fnd Ls w x = -1 ∨ (0 ≤ fnd Ls w x ∧ fnd Ls w x < Ls.length ∧ lW Ls (fnd Ls w x).toNat = w ∧ lS Ls (fnd Ls w x).toNat = x) := by
  have h := fi_rng (p := fun k => decide (lW Ls k = w ∧ lS Ls k = x)) Ls.length 0
  rcases h with h | ⟨h1, h2, h3⟩
  · exact Or.inl h
  · rw [decide_eq_true_eq] at h3
    exact Or.inr ⟨by unfold fnd; omega, by unfold fnd; omega, h3.1, h3.2⟩
theorem LsOk.deep {ns nw : Nat} {Ls : List LY} {w x gain : Int} (h : LsOk ns nw Ls) (hw : 0 ≤ w ∧ w < nw) (hx : 0 ≤ x ∧ x < ns) (hg : 1 ≤ gain ∧ gain ≤ 10) : LsOk ns nw (deepL Ls w x gain).1 ∧ -1 ≤ (deepL Ls w x gain).2 ∧ (deepL Ls w x gain).2 < (deepL Ls w x gain).1.length := by
  unfold deepL
  rcases fnd_rng Ls w x with e | ⟨e1, e2, e3, e4⟩
  · rw [if_neg (by omega)]
    exact ⟨h.lay ⟨hx.1, hx.2, by show -1 ≤ w; omega, hw.2, hg.1, by show gain ≤ 99; omega⟩, by show (-1 : Int) ≤ _ - 1; omega, by show ((layL Ls (x, w, gain)).length : Int) - 1 < (layL Ls (x, w, gain)).length; omega⟩
  · rw [if_pos e1]
    have ht := h.at (fnd Ls w x).toNat (by omega)
    refine ⟨⟨by rw [List.length_set]; exact h.1, fun a ha => ?_⟩, by show (-1 : Int) ≤ fnd Ls w x; omega, by show fnd Ls w x < ((Ls.set _ _).length : Int); rw [List.length_set]; exact e2⟩
    rcases List.mem_or_eq_of_mem_set ha with q | q
    · exact h.2 a q
    · subst q
      exact ⟨hx.1, hx.2, by show -1 ≤ w; omega, hw.2, by show 1 ≤ min 99 _; omega, by show min 99 _ ≤ (99 : Int); omega⟩
/-- the layers as they are on the way down -/
def cur (ln : LN) (y own : Int) (Ls : List LY) (j : Nat) : List LY := Ls.take j ++ fadeL ln y own j (Ls.drop j)
theorem ly_take {Ls : List LY} {j : Nat} (h : j < Ls.length) : Ls.take (j + 1) = Ls.take j ++ [(lS Ls j, lW Ls j, lT Ls j)] := by
  rw [List.take_succ, List.getElem?_eq_getElem h]
  unfold lS lW lT
  rw [List.getD_eq_getElem?_getD, List.getElem?_eq_getElem h]
  rfl
theorem cur_in {ln : LN} {y own : Int} {Ls : List LY} {j : Nat} (h : j < Ls.length) : cur ln y own Ls (j + 1) = Ls.take j ++ (lS Ls j, lW Ls j, lT Ls j) :: fadeL ln y own (j + 1) (Ls.drop (j + 1)) := by
  unfold cur
  rw [ly_take h, List.append_assoc]
  rfl
theorem cur_0 {ln : LN} {y own : Int} {Ls : List LY} : cur ln y own Ls 0 = fadeL ln y own 0 Ls := rfl
theorem cur_big {ln : LN} {y own : Int} {Ls : List LY} {j : Nat} (h : Ls.length ≤ j) : cur ln y own Ls j = Ls := by
  unfold cur
  rw [List.take_of_length_le h, List.drop_of_length_le h]
  unfold fadeL
  rw [List.append_nil]
theorem cur_len {ln : LN} {y own : Int} {Ls : List LY} {j : Nat} : (cur ln y own Ls j).length ≤ Ls.length := by
  unfold cur
  have := fadeL_len ln y own (Ls.drop j) j
  rw [List.length_append, List.length_take]
  rw [List.length_drop] at this
  omega
theorem tk_len {Ls : List LY} {j : Nat} (h : j < Ls.length) : (Ls.take j).length = j := by rw [List.length_take]; omega
theorem mid_getD {α : Type} {a b : List α} {x d : α} {j : Nat} (h : a.length = j) : (a ++ x :: b).getD j d = x := by
  subst h
  rw [List.getD_eq_getElem?_getD, List.getElem?_append_right (Nat.le_refl _), Nat.sub_self]
  rfl
theorem mid_set {α : Type} {a b : List α} {x z : α} {j : Nat} (h : a.length = j) : (a ++ x :: b).set j z = a ++ z :: b := by
  subst h
  rw [List.set_append, if_neg (Nat.lt_irrefl _), Nat.sub_self]
  rfl
theorem mid_er {α : Type} {a b : List α} {x : α} {j : Nat} (h : a.length = j) : (a ++ x :: b).eraseIdx j = a ++ b := by
  subst h
  rw [List.eraseIdx_append_of_length_le (Nat.le_refl _), Nat.sub_self]
  rfl
theorem cur_at {ln : LN} {y own : Int} {Ls : List LY} {j : Nat} (h : j < Ls.length) : lS (cur ln y own Ls (j + 1)) j = lS Ls j ∧ lW (cur ln y own Ls (j + 1)) j = lW Ls j ∧ lT (cur ln y own Ls (j + 1)) j = lT Ls j ∧ j < (cur ln y own Ls (j + 1)).length := by
  rw [cur_in h]
  refine ⟨?_, ?_, ?_, ?_⟩
  · unfold lS; rw [mid_getD (tk_len h)]
  · unfold lW; rw [mid_getD (tk_len h)]
  · unfold lT; rw [mid_getD (tk_len h)]
  · rw [List.length_append, tk_len h]; simp
theorem fadeL_cons {ln : LN} {y own : Int} {e : LY} {r : List LY} {i : Nat} : fadeL ln y own i (e :: r) = if (i : Int) = own then e :: fadeL ln y own (i + 1) r else if e.2.2 - fdg (kd ln e.1.toNat) e.2.2 y ≤ 0 then fadeL ln y own (i + 1) r else (e.1, e.2.1, e.2.2 - fdg (kd ln e.1.toNat) e.2.2 y) :: fadeL ln y own (i + 1) r := rfl
theorem cur_keep {ln : LN} {y own : Int} {Ls : List LY} {j : Nat} (h : j < Ls.length) (ho : (j : Int) = own) : cur ln y own Ls (j + 1) = cur ln y own Ls j := by
  rw [cur_in h]
  unfold cur
  rw [ly_drop h, fadeL_cons, if_pos ho]
theorem cur_set {ln : LN} {y own : Int} {Ls : List LY} {j : Nat} (h : j < Ls.length) (ho : ¬ (j : Int) = own) (ht : 0 < lT Ls j - fdg (kd ln (lS Ls j).toNat) (lT Ls j) y) : (cur ln y own Ls (j + 1)).set j (lS Ls j, lW Ls j, lT Ls j - fdg (kd ln (lS Ls j).toNat) (lT Ls j) y) = cur ln y own Ls j := by
  rw [cur_in h, mid_set (tk_len h)]
  unfold cur
  rw [ly_drop h, fadeL_cons, if_neg ho, if_neg (by show ¬ lT Ls j - fdg (kd ln (lS Ls j).toNat) (lT Ls j) y ≤ 0; omega)]
theorem cur_er {ln : LN} {y own : Int} {Ls : List LY} {j : Nat} {z : LY} (h : j < Ls.length) (ho : ¬ (j : Int) = own) (ht : lT Ls j - fdg (kd ln (lS Ls j).toNat) (lT Ls j) y ≤ 0) : ((cur ln y own Ls (j + 1)).set j z).eraseIdx j = cur ln y own Ls j := by
  rw [cur_in h, mid_set (tk_len h), mid_er (tk_len h)]
  unfold cur
  rw [ly_drop h, fadeL_cons, if_neg ho, if_pos ht]
theorem P_L {sc : Option (Nat × (Nat → Int32))} {mr : MR} {pc : Nat} {L L' st : List Value} {M : AM} {Q : Option Value → AM → Prop} (e : L = L') (h : P sc mr pc L' st M Q) : P sc mr pc L st M Q := e ▸ h
theorem PairW.fi {M M' : AM} {p a n : Nat} {Ls : List LY} {w y : Int} {hs lr : Nat → Int} {lf lz : Int} (h : PairW M p Ls w y hs lr lf lz) (hf : FrI a n M M') (hd : p + 7 ≤ a ∨ a + n ≤ p) : PairW M' p Ls w y hs lr lf lz := by
  obtain ⟨h0, sc, wh, st, h1, h2⟩ := h
  exact ⟨h0, sc, wh, st, h1.fr hf (fun q hq => by show q < a ∨ a + n ≤ q; omega), h2⟩
