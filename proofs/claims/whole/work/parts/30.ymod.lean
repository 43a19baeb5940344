/-! ===== how the reference holds the state ===== -/
def YLay (f : Nat → Int) (Ls : List LY) : Prop := f 0 = (Ls.length : Nat) ∧ ∀ k, k < Ls.length → f (1 + k) = lS Ls k ∧ f (11 + k) = lW Ls k ∧ f (21 + k) = lT Ls k
def YRst (f : Nat → Int) (r : Int × Int × List Int × List (Int × Int × Int × Int)) : Prop := f 31 = r.1 ∧ f 32 = r.2.1 ∧ (∀ j, j < 6 → f (33 + j) = r.2.2.1.getD j 0) ∧ f 39 = (r.2.2.2.length : Nat) ∧ ∀ i, i < r.2.2.2.length → f (40 + 4 * i) = (r.2.2.2.getD i (0, 0, 0, 0)).1 ∧ f (40 + 4 * i + 1) = (r.2.2.2.getD i (0, 0, 0, 0)).2.1 ∧ f (40 + 4 * i + 2) = (r.2.2.2.getD i (0, 0, 0, 0)).2.2.1 ∧ f (40 + 4 * i + 3) = (r.2.2.2.getD i (0, 0, 0, 0)).2.2.2
def YG (f : Nat → Int) (g : GS) : Prop := YLay f g.1 ∧ YRst f g.2
def YLn (f : Nat → Int) (ln : LN) : Prop := f 0 = ln.1 ∧ f 1 = (nS ln : Nat) ∧ f 2 = (nW ln : Nat) ∧ (∀ x, x < nS ln → f (3 + x) = kd ln x ∧ f (11 + x) = br ln x) ∧ ∀ w, w < nW ln → f (19 + w) = (lkN ln w : Nat) ∧ ∀ j, j < lkN ln w → f (25 + 6 * w + j) = lk ln w j
/-- the object of the reference: its arrays in their places -/
def YH (M : AM) : Prop := ∃ (u sd sz fa mm bm a bg sg fg vl wr : Int), M 276 = some (zO 10 [.ref 277, .ref 278, .ref 279, .ref 280, .ref 281, zI u, .ref 282, .ref 283, zJ sd, .ref 284, zI sz, zI fa, .ref 285, zI mm, .ref 286, zI bm, zI a, zI bg, zI sg, zI fg, zI vl, zI wr, .ref 287])
/-- its line -/
def YL (M : AM) (ln : LN) : Prop := YH M ∧ LnOk ln ∧ ∃ f, M 277 = some (zA 61 f) ∧ YLn f ln
theorem YL.fi {M M' : AM} {ln : LN} {a n : Nat} (h : YL M ln) (hf : FrI a n M M') (hd : 278 ≤ a ∨ a + n ≤ 276) : YL M' ln := by
  obtain ⟨⟨u, sd, sz, fa, mm, bm, x, bg, sg, fg, vl, wr, h1⟩, h2, f, h3, h4⟩ := h
  exact ⟨⟨u, sd, sz, fa, mm, bm, x, bg, sg, fg, vl, wr, hf.at h1 (by omega)⟩, h2, f, hf.at h3 (by omega), h4⟩
/-- one of its rows of a pair's state -/
def YA (M : AM) (t : Nat) (ns nw : Nat) (g : GS) : Prop := GOk ns nw g ∧ ∃ f, M t = some (zA 120 f) ∧ YG f g
theorem YA.fi {M M' : AM} {t ns nw : Nat} {g : GS} {a n : Nat} (h : YA M t ns nw g) (hf : FrI a n M M') (hd : t < a ∨ a + n ≤ t) : YA M' t ns nw g := by
  obtain ⟨h1, f, h2, h3⟩ := h
  exact ⟨h1, f, hf.at h2 (by omega), h3⟩
/-- the layers of a row, on their way -/
def Sh (f f1 : Nat → Int) (k j : Nat) : Prop := ∀ q, f1 q = if (1 + k ≤ q ∧ q < 1 + j) ∨ (11 + k ≤ q ∧ q < 11 + j) ∨ (21 + k ≤ q ∧ q < 21 + j) then f (q + 1) else f q
theorem Sh.rf {f : Nat → Int} {k : Nat} : Sh f f k k := fun q => by rw [if_neg (by omega)]
theorem Sh.step {f f1 : Nat → Int} {k j : Nat} (h : Sh f f1 k j) (hk : k ≤ j) (hj : j < 9) : Sh f (zup (zup (zup f1 (1 + j) (f1 (1 + j + 1))) (11 + j) (zup f1 (1 + j) (f1 (1 + j + 1)) (11 + j + 1))) (21 + j) (zup (zup f1 (1 + j) (f1 (1 + j + 1))) (11 + j) (zup f1 (1 + j) (f1 (1 + j + 1)) (11 + j + 1)) (21 + j + 1))) k (j + 1) := by
  intro q
  have e1 : f1 (1 + j + 1) = f (1 + j + 1) := by rw [h, if_neg (by omega)]
  have e2 : f1 (11 + j + 1) = f (11 + j + 1) := by rw [h, if_neg (by omega)]
  have e3 : f1 (21 + j + 1) = f (21 + j + 1) := by rw [h, if_neg (by omega)]
  by_cases c3 : q = 21 + j
  · subst c3
    rw [zup_e, zup_n (by omega), zup_n (by omega), e3, if_pos (by omega)]
  · rw [zup_n c3]
    by_cases c2 : q = 11 + j
    · subst c2
      rw [zup_e, zup_n (by omega), e2, if_pos (by omega)]
    · rw [zup_n c2]
      by_cases c1 : q = 1 + j
      · subst c1
        rw [zup_e, e1, if_pos (by omega)]
      · rw [zup_n c1, h]
        by_cases c : (1 + k ≤ q ∧ q < 1 + j) ∨ (11 + k ≤ q ∧ q < 11 + j) ∨ (21 + k ≤ q ∧ q < 21 + j)
        · rw [if_pos c, if_pos (by omega)]
        · rw [if_neg c, if_neg (by omega)]
theorem YLay.er {f f1 : Nat → Int} {Ls : List LY} {k : Nat} (h : YLay f Ls) (hk : k < Ls.length) (hl : Ls.length ≤ 10) (hs : Sh f f1 k (Ls.length - 1)) : YLay (zup f1 0 (f1 0 - 1)) (Ls.eraseIdx k) := by
  obtain ⟨h0, h1⟩ := h
  have e0 : f1 0 = (Ls.length : Nat) := by rw [hs, if_neg (by omega)]; exact h0
  refine ⟨by rw [zup_e, er_len hk, e0]; omega, fun j hj => ?_⟩
  rw [er_len hk] at hj
  rw [zup_n (by omega), zup_n (by omega), zup_n (by omega), hs, hs, hs]
  unfold lS lW lT
  rw [er_getD]
  by_cases c : j < k
  · rw [if_pos c, if_neg (by omega), if_neg (by omega), if_neg (by omega)]
    exact h1 j (by omega)
  · rw [if_neg c, if_pos (by omega), if_pos (by omega), if_pos (by omega)]
    have := h1 (j + 1) (by omega)
    rw [show 1 + (j + 1) = 1 + j + 1 by omega, show 11 + (j + 1) = 11 + j + 1 by omega, show 21 + (j + 1) = 21 + j + 1 by omega] at this
    exact this
theorem YRst.keep {f f1 : Nat → Int} {r : Int × Int × List Int × List (Int × Int × Int × Int)} (h : YRst f r) (hl : r.2.2.2.length ≤ 20) (he : ∀ q, 31 ≤ q → f1 q = f q) : YRst f1 r := by
  obtain ⟨a1, a2, a3, a4, a5⟩ := h
  refine ⟨by rw [he _ (by omega)]; exact a1, by rw [he _ (by omega)]; exact a2, fun j hj => by rw [he _ (by omega)]; exact a3 j hj, by rw [he _ (by omega)]; exact a4, fun i hi => ?_⟩
  rw [he _ (by omega), he _ (by omega), he _ (by omega), he _ (by omega)]
  exact a5 i hi
theorem Sh.hi {f f1 : Nat → Int} {k j : Nat} (h : Sh f f1 k j) (hj : j ≤ 9) : ∀ q, 31 ≤ q → f1 q = f q := fun q hq => by rw [h, if_neg (by omega)]
theorem YLay.app {f : Nat → Int} {Ls : List LY} {x w t : Int} (h : YLay f Ls) (hl : Ls.length < 10) (f1 : Nat → Int) (h1 : f1 (1 + Ls.length) = x) (h2 : f1 (11 + Ls.length) = w) (h3 : f1 (21 + Ls.length) = t) (h4 : f1 0 = (Ls.length : Nat) + 1) (ho : ∀ q, q ≠ 0 → q ≠ 1 + Ls.length → q ≠ 11 + Ls.length → q ≠ 21 + Ls.length → f1 q = f q) : YLay f1 (Ls ++ [(x, w, t)]) := by
  refine ⟨by rw [h4]; simp, fun j hj => ?_⟩
  rw [List.length_append] at hj
  have hj : j < Ls.length + 1 := by simpa using hj
  unfold lS lW lT
  rw [gd_app hj]
  by_cases c : j = Ls.length
  · subst c
    rw [if_pos rfl]
    exact ⟨h1, h2, h3⟩
  · rw [if_neg c, ho _ (by omega) (by omega) (by omega) (by omega), ho _ (by omega) (by omega) (by omega) (by omega), ho _ (by omega) (by omega) (by omega) (by omega)]
    exact h.2 j (by omega)
theorem YLay.setT {f f1 : Nat → Int} {Ls : List LY} {k : Nat} {t : Int} (h : YLay f Ls) (hk : k < Ls.length) (hl : Ls.length ≤ 10) (h1 : f1 (21 + k) = t) (ho : ∀ q, q ≠ 21 + k → f1 q = f q) : YLay f1 (Ls.set k (lS Ls k, lW Ls k, t)) := by
  refine ⟨by rw [ho _ (by omega), List.length_set]; exact h.1, fun j hj => ?_⟩
  rw [List.length_set] at hj
  obtain ⟨a1, a2, a3⟩ := h.2 j hj
  unfold lS at a1
  unfold lW at a2
  unfold lT at a3
  unfold lS lW lT
  rw [st_getD _ _ _ _ _ hk]
  by_cases e : j = k
  · subst e
    rw [if_pos rfl, ho _ (by omega), ho _ (by omega), h1]
    exact ⟨a1, a2, rfl⟩
  · rw [if_neg e, ho _ (by omega), ho _ (by omega), ho _ (by omega)]
    exact ⟨a1, a2, a3⟩
/-- the reference's own choice of a layer -/
def tbStep (Ls : List LY) (wi : Nat) (hf : Int) (k : Nat) (c : Int) : Int := if (wi / 2 ^ k % 2 = 0 ∧ hf < lT Ls k) ∧ (c = -1 ∨ lT Ls c.toNat ≤ lT Ls k) then (k : Int) else c
theorem tb_sb {Ls : List LY} {wi : Nat} {hf : Int} (h : ∀ k, k < Ls.length → 0 ≤ lT Ls k) : ∀ f, f ≤ Ls.length → ∀ b m c, fo (sbStep Ls wi) f 0 (-1, 0) = (b, m) → fo (tbStep Ls wi hf) f 0 (-1) = c → (b = -1 ∧ m = 0 ∧ c = -1) ∨ (0 ≤ b ∧ b < f ∧ m = lT Ls b.toNat ∧ (if hf < m then c = b else c = -1))
  | 0, _, b, m, c, h1, h2 => by
    left
    have h1 : ((-1 : Int), (0 : Int)) = (b, m) := h1
    have h2 : (-1 : Int) = c := h2
    cases h1
    exact ⟨rfl, rfl, h2.symm⟩
  | f + 1, hl, b, m, c, h1, h2 => by
    rw [fo_last, Nat.zero_add] at h1 h2
    obtain ⟨⟨b0, m0⟩, e1⟩ : ∃ s, s = fo (sbStep Ls wi) f 0 (-1, 0) := ⟨_, rfl⟩
    obtain ⟨c0, e2⟩ : ∃ s, s = fo (tbStep Ls wi hf) f 0 (-1) := ⟨_, rfl⟩
    have ih := tb_sb h f (by omega) b0 m0 c0 e1.symm e2.symm
    rw [← e1] at h1
    rw [← e2] at h2
    have hT := h f (by omega)
    unfold sbStep at h1
    unfold tbStep at h2
    dsimp only at h1
    by_cases g : wi / 2 ^ f % 2 = 0
    · rcases ih with ⟨i1, i2, i3⟩ | ⟨i1, i2, i3, i4⟩
      · rw [if_pos ⟨g, by omega⟩] at h1
        cases h1
        right
        refine ⟨by omega, by omega, by rw [Int.toNat_natCast], ?_⟩
        by_cases hh : hf < lT Ls f
        · rw [if_pos hh, ← h2, if_pos ⟨⟨g, hh⟩, Or.inl i3⟩]
        · rw [if_neg hh, ← h2, if_neg (fun z => hh z.1.2)]; exact i3
      · right
        by_cases hm : m0 ≤ lT Ls f
        · rw [if_pos ⟨g, hm⟩] at h1
          cases h1
          refine ⟨by omega, by omega, by rw [Int.toNat_natCast], ?_⟩
          by_cases hh : hf < lT Ls f
          · rw [if_pos hh, ← h2, if_pos]
            refine ⟨⟨g, hh⟩, ?_⟩
            by_cases h5 : hf < m0
            · rw [if_pos h5] at i4; rw [i4]; right; omega
            · rw [if_neg h5] at i4; exact Or.inl i4
          · rw [if_neg hh, ← h2, if_neg (fun z => hh z.1.2)]
            rw [if_neg (by omega)] at i4
            exact i4
        · rw [if_neg (fun z => hm z.2)] at h1
          cases h1
          refine ⟨i1, by omega, i3, ?_⟩
          by_cases hh : hf < m
          · rw [if_pos hh] at i4 ⊢
            rw [← h2, if_neg]
            · exact i4
            · rw [i4]
              intro z
              have := z.2
              omega
          · rw [if_neg hh] at i4 ⊢
            rw [← h2, if_neg]
            · exact i4
            · intro z
              have := z.1.2
              omega
    · rw [if_neg (fun z => g z.1)] at h1
      rw [if_neg (fun z => g z.1.1)] at h2
      cases h1
      subst h2
      rcases ih with ih | ⟨i1, i2, i3, i4⟩
      · exact Or.inl ih
      · exact Or.inr ⟨i1, by omega, i3, i4⟩
theorem tb_tk {ln : LN} {Ls : List LY} {x more : Int} {wi : Nat} (h : ∀ k, k < Ls.length → 0 ≤ lT Ls k) : (if fo (tbStep Ls wi (veil ln x more)) Ls.length 0 (-1) = -1 then x else lS Ls (fo (tbStep Ls wi (veil ln x more)) Ls.length 0 (-1)).toNat) = tk ln Ls x more wi := by
  obtain ⟨⟨b, m⟩, e1⟩ : ∃ s, s = fo (sbStep Ls wi) Ls.length 0 (-1, 0) := ⟨_, rfl⟩
  obtain ⟨c, e2⟩ : ∃ s, s = fo (tbStep Ls wi (veil ln x more)) Ls.length 0 (-1) := ⟨_, rfl⟩
  have hs : sb Ls wi = b := by unfold sb; rw [← e1]
  unfold tk
  rw [hs, ← e2]
  rcases tb_sb h Ls.length (Nat.le_refl _) b m c e1.symm e2.symm with ⟨i1, i2, i3⟩ | ⟨i1, i2, i3, i4⟩
  · rw [if_pos i3, if_neg (by omega)]
  · rw [i3] at i4
    by_cases hh : veil ln x more < lT Ls b.toNat
    · rw [if_pos hh] at i4
      rw [if_neg (by omega), if_pos ⟨i1, hh⟩, i4]
    · rw [if_neg hh] at i4
      rw [if_pos i4, if_neg (fun z => hh z.2)]
