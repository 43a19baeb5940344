/-! ===== how the reference holds the whole state ===== -/
def YRt (M : AM) (u sd sz fa mm bm : Int) : Prop := ∃ (a bg sg fg vl wr : Int), M 276 = some (zO 10 [.ref 277, .ref 278, .ref 279, .ref 280, .ref 281, zI u, .ref 282, .ref 283, zJ sd, .ref 284, zI sz, zI fa, .ref 285, zI mm, .ref 286, zI bm, zI a, zI bg, zI sg, zI fg, zI vl, zI wr, .ref 287])
def YLi (M : AM) (ln : LN) : Prop := LnOk ln ∧ ∃ f, M 277 = some (zA 61 f) ∧ YLn f ln
def YPa (M : AM) (ns nw : Nat) (un : List GS) : Prop := un.length ≤ 30 ∧ ∃ f, M 281 = some (zA 3600 f) ∧ ∀ i, i < un.length → GOk ns nw (un.getD i g0) ∧ YG (fun q => f (120 * i + q)) (un.getD i g0) ∧ (un.getD i g0).2.2.1 ≤ 90030
def YI1 (ns nw : Nat) (f h : Nat → Int) (b : Nat) : Option (GS × Int) → Prop
  | none => h b = 0
  | some q => h b = 1 ∧ f (121 * b + 120) = q.2 ∧ 0 ≤ q.2 ∧ q.2 ≤ 2147483647 ∧ GOk ns nw q.1 ∧ YG (fun j => f (121 * b + j)) q.1 ∧ q.1.2.2.1 ≤ 90030
def YIm (M : AM) (ns nw : Nat) (i0 i1 : Option (GS × Int)) : Prop := ∃ f h, M 282 = some (zA 242 f) ∧ M 283 = some (zB 2 h) ∧ YI1 ns nw f h 0 i0 ∧ YI1 ns nw f h 1 i1
def YTx (M : AM) (tx : List Int) : Prop := tx.length ≤ 240 ∧ ∃ f, M 284 = some (zA 240 f) ∧ ∀ i, i < tx.length → f i = tx.getD i 0 ∧ 0 ≤ tx.getD i 0 ∧ tx.getD i 0 ≤ 255
def YMe (M : AM) (me : List (Int × Int)) : Prop := me.length ≤ 6 ∧ ∃ f, M 285 = some (zA 12 f) ∧ ∀ i, i < me.length → f (2 * i) = (me.getD i (0, 0)).1 ∧ f (2 * i + 1) = (me.getD i (0, 0)).2 ∧ 0 ≤ (me.getD i (0, 0)).1 ∧ (me.getD i (0, 0)).1 ≤ 7 ∧ ((me.getD i (0, 0)).2 = 0 ∨ (me.getD i (0, 0)).2 = 1)
def YBo (M : AM) (bo : List (Int × Int)) : Prop := bo.length ≤ 20 ∧ ∃ f, M 286 = some (zA 40 f) ∧ ∀ i, i < bo.length → f (2 * i) = (bo.getD i (0, 0)).1 ∧ f (2 * i + 1) = (bo.getD i (0, 0)).2 ∧ 0 ≤ (bo.getD i (0, 0)).1 ∧ (bo.getD i (0, 0)).1 ≤ 7 ∧ 0 ≤ (bo.getD i (0, 0)).2 ∧ (bo.getD i (0, 0)).2 ≤ 7
def YNy (M : AM) : Prop := (∃ f, M 278 = some (zA 61 f)) ∧ (∃ f, M 280 = some (zA 120 f)) ∧ ∃ f, M 287 = some (zA 6 f)
def YW (M : AM) (σ : ST) : Prop := match σ with
  | (tx, fa, ln, g, un, i0, i1, sd, me, bo) => YRt M (un.length : Nat) sd (tx.length : Nat) fa (me.length : Nat) (bo.length : Nat) ∧ YLi M ln ∧ YA M 279 (nS ln) (nW ln) g ∧ YPa M (nS ln) (nW ln) un ∧ YIm M (nS ln) (nW ln) i0 i1 ∧ YTx M tx ∧ YMe M me ∧ YBo M bo ∧ YNy M ∧ g.2.2.1 ≤ 90030 ∧ 0 ≤ sd ∧ sd ≤ 2147483647 ∧ LiOk (nS ln) me ∧ LiOk2 (nS ln) bo ∧ -1 ≤ fa ∧ fa ≤ 240
theorem YRt.fi {M M' : AM} {u sd sz fa mm bm : Int} {a n : Nat} (h : YRt M u sd sz fa mm bm) (hf : FrI a n M M') (hd : 277 ≤ a ∨ a + n ≤ 276) : YRt M' u sd sz fa mm bm := by
  obtain ⟨x, bg, sg, fg, vl, wr, h1⟩ := h
  exact ⟨x, bg, sg, fg, vl, wr, hf.at h1 (by omega)⟩
theorem YLi.fi {M M' : AM} {ln : LN} {a n : Nat} (h : YLi M ln) (hf : FrI a n M M') (hd : 278 ≤ a ∨ a + n ≤ 277) : YLi M' ln := by
  obtain ⟨h2, f, h3, h4⟩ := h
  exact ⟨h2, f, hf.at h3 (by omega), h4⟩
theorem YPa.fi {M M' : AM} {ns nw : Nat} {un : List GS} {a n : Nat} (h : YPa M ns nw un) (hf : FrI a n M M') (hd : 282 ≤ a ∨ a + n ≤ 281) : YPa M' ns nw un := by
  obtain ⟨h2, f, h3, h4⟩ := h
  exact ⟨h2, f, hf.at h3 (by omega), h4⟩
theorem YIm.fi {M M' : AM} {ns nw : Nat} {i0 i1 : Option (GS × Int)} {a n : Nat} (h : YIm M ns nw i0 i1) (hf : FrI a n M M') (hd : 284 ≤ a ∨ a + n ≤ 282) : YIm M' ns nw i0 i1 := by
  obtain ⟨f, g, h1, h2, h3⟩ := h
  exact ⟨f, g, hf.at h1 (by omega), hf.at h2 (by omega), h3⟩
theorem YTx.fi {M M' : AM} {tx : List Int} {a n : Nat} (h : YTx M tx) (hf : FrI a n M M') (hd : 285 ≤ a ∨ a + n ≤ 284) : YTx M' tx := by
  obtain ⟨h2, f, h3, h4⟩ := h
  exact ⟨h2, f, hf.at h3 (by omega), h4⟩
theorem YMe.fi {M M' : AM} {me : List (Int × Int)} {a n : Nat} (h : YMe M me) (hf : FrI a n M M') (hd : 286 ≤ a ∨ a + n ≤ 285) : YMe M' me := by
  obtain ⟨h2, f, h3, h4⟩ := h
  exact ⟨h2, f, hf.at h3 (by omega), h4⟩
theorem YBo.fi {M M' : AM} {bo : List (Int × Int)} {a n : Nat} (h : YBo M bo) (hf : FrI a n M M') (hd : 287 ≤ a ∨ a + n ≤ 286) : YBo M' bo := by
  obtain ⟨h2, f, h3, h4⟩ := h
  exact ⟨h2, f, hf.at h3 (by omega), h4⟩
theorem YNy.fi {M M' : AM} {a n : Nat} (h : YNy M) (hf : FrI a n M M') (hd : 288 ≤ a ∨ a + n ≤ 278 ∨ (279 ≤ a ∧ a + n ≤ 280) ∨ (281 ≤ a ∧ a + n ≤ 287)) : YNy M' := by
  obtain ⟨⟨f, h1⟩, ⟨f2, h2⟩, f3, h3⟩ := h
  exact ⟨⟨f, hf.at h1 (by omega)⟩, ⟨f2, hf.at h2 (by omega)⟩, f3, hf.at h3 (by omega)⟩
theorem YNy.as {M M' : AM} {a : Nat} (h : YNy M) (hf : FrI a 1 M M') (ha : a = 280) (hA : ∃ f, M' 280 = some (zA 120 f)) : YNy M' := by
  obtain ⟨⟨f, h1⟩, ⟨f2, h2⟩, f3, h3⟩ := h
  exact ⟨⟨f, hf.at h1 (by omega)⟩, hA, f3, hf.at h3 (by omega)⟩
theorem YRt.h {M : AM} {u sd sz fa mm bm : Int} (h : YRt M u sd sz fa mm bm) : YH M := by
  obtain ⟨x, bg, sg, fg, vl, wr, h1⟩ := h
  exact ⟨_, _, _, _, _, _, x, bg, sg, fg, vl, wr, h1⟩
theorem YLi.l {M : AM} {ln : LN} (h : YLi M ln) (h1 : YH M) : YL M ln := ⟨h1, h.1, h.2⟩
theorem YL.li {M : AM} {ln : LN} (h : YL M ln) : YLi M ln := ⟨h.2.1, h.2.2⟩
theorem YW.fi {M M' : AM} {σ : ST} {a n : Nat} (h : YW M σ) (hf : FrI a n M M') (hd : a + n ≤ 276) : YW M' σ := by
  obtain ⟨tx, fa, ln, g, un, i0, i1, sd, me, bo⟩ := σ
  obtain ⟨h1, h2, h3, h4, h5, h6, h7, h8, h9, h10⟩ := h
  exact ⟨h1.fi hf (by omega), h2.fi hf (by omega), h3.fi hf (by omega), h4.fi hf (by omega), h5.fi hf (by omega), h6.fi hf (by omega), h7.fi hf (by omega), h8.fi hf (by omega), h9.fi hf (by omega), h10⟩
