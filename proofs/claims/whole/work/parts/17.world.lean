/-! ===== the whole state, and how the class holds it ===== -/
abbrev ST : Type := List Int × Int × LN × GS × List GS × Option (GS × Int) × Option (GS × Int) × Int × List (Int × Int) × List (Int × Int)
def LineR (M : AM) (b : Nat) : Prop := ∃ (kf bf lc : Nat → Int) (lk : Nat → Nat → Int) (c s w : Int), LineAt M b kf bf lc lk c s w
theorem LineAt.fi {M M' : AM} {b a n : Nat} {kf bf lc : Nat → Int} {lk : Nat → Nat → Int} {c s w : Int} (h : LineAt M b kf bf lc lk c s w) (hf : FrI a n M M') (hd : b + 11 ≤ a ∨ a + n ≤ b) : LineAt M' b kf bf lc lk c s w := by
  obtain ⟨h1, h2, h3, h4, ⟨g, h5, h6⟩, h7⟩ := h
  exact ⟨hf.at h1 (by omega), hf.at h2 (by omega), hf.at h3 (by omega), hf.at h4 (by omega), ⟨g, hf.at h5 (by omega), h6⟩, fun i hi => hf.at (h7 i hi) (by omega)⟩
theorem LineR.fi {M M' : AM} {b a n : Nat} (h : LineR M b) (hf : FrI a n M M') (hd : b + 11 ≤ a ∨ a + n ≤ b) : LineR M' b := by
  obtain ⟨kf, bf, lc, lk, c, s, w, h⟩ := h
  exact ⟨kf, bf, lc, lk, c, s, w, h.fi hf hd⟩
theorem LineA.r {M : AM} {b : Nat} {ln : LN} (h : LineA M b ln) : LineR M b := by
  obtain ⟨-, kf, bf, lc, lk, h, -⟩ := h
  exact ⟨kf, bf, lc, lk, _, _, _, h⟩
def XRd (M : AM) (tx : List Int) : Prop := tx.length ≤ 240 ∧ ∃ (f : Nat → Int) (a ft fp : Int), M 1 = some (zO 7 [.ref 2, zI (tx.length : Nat), zI a, zI ft, zI fp]) ∧ M 2 = some (zA 240 f) ∧ ∀ i, i < tx.length → f i = tx.getD i 0 ∧ 0 ≤ tx.getD i 0 ∧ tx.getD i 0 ≤ 255
def XHi (M : AM) (ns nw : Nat) (un : List GS) : Prop := un.length ≤ 30 ∧ ∃ (g : Nat → Option Nat) (fs : Int), M 3 = some (zO 1 [.ref 4, zI fs, zI (un.length : Nat)]) ∧ M 4 = some (zR 3 30 g) ∧ (∀ i, i < 30 → g i = some (5 + 7 * i) ∧ PairR M (5 + 7 * i)) ∧ 0 ≤ fs ∧ fs < 30 ∧ ∀ i, i < un.length → ∀ r : Nat, (r : Int) = (fs + i) % 30 → PairB true M (5 + 7 * r) ns nw (un.getD i g0) ∧ (un.getD i g0).2.2.1 ≤ 90030
def XIm (M : AM) (ns nw b : Nat) (o : Option (GS × Int)) : Prop := PairR M (b + 1) ∧ ∃ (s k : Int), M b = some (zO 2 [.ref (b + 1), zI s, zI k]) ∧ (match o with
  | none => k = 0
  | some q => k = 1 ∧ s = q.2 ∧ 0 ≤ q.2 ∧ q.2 ≤ 2147483647 ∧ PairB true M (b + 1) ns nw q.1 ∧ q.1.2.2.1 ≤ 90030)
def XIr (M : AM) : Prop := ∃ g : Nat → Option Nat, M 215 = some (zR 2 2 g) ∧ g 0 = some 260 ∧ g 1 = some 268
def XTu (M : AM) : Prop := ∃ (f : Nat → Int) (z : Int), M 230 = some (zO 8 [.ref 231, zI z]) ∧ M 231 = some (zA 5 f)
def XMe (M : AM) (me : List (Int × Int)) : Prop := me.length ≤ 6 ∧ ∃ (f h : Nat → Int), M 232 = some (zO 5 [.ref 233, .ref 234, zI (me.length : Nat)]) ∧ M 233 = some (zA 6 f) ∧ M 234 = some (zB 6 h) ∧ ∀ i, i < me.length → f i = (me.getD i (0, 0)).1 ∧ h i = (me.getD i (0, 0)).2 ∧ 0 ≤ (me.getD i (0, 0)).1 ∧ (me.getD i (0, 0)).1 ≤ 7 ∧ ((me.getD i (0, 0)).2 = 0 ∨ (me.getD i (0, 0)).2 = 1)
def XBo (M : AM) (bo : List (Int × Int)) : Prop := bo.length ≤ 20 ∧ ∃ (f h : Nat → Int), M 235 = some (zO 0 [.ref 236, .ref 237, zI (bo.length : Nat)]) ∧ M 236 = some (zA 20 f) ∧ M 237 = some (zA 20 h) ∧ ∀ i, i < bo.length → f i = (bo.getD i (0, 0)).1 ∧ h i = (bo.getD i (0, 0)).2 ∧ 0 ≤ (bo.getD i (0, 0)).1 ∧ (bo.getD i (0, 0)).1 ≤ 7 ∧ 0 ≤ (bo.getD i (0, 0)).2 ∧ (bo.getD i (0, 0)).2 ≤ 7
def XRt (M : AM) (la sa : Nat) (fa sd : Int) : Prop := M 0 = some (zO 9 [.ref 1, .ref 3, .ref 215, .ref 216, .ref 223, .ref 230, .ref 232, .ref 235, .ref la, .ref sa, zI fa, zI sd]) ∧ (la = 238 ∧ sa = 249 ∨ la = 249 ∧ sa = 238)
/-- what is written into met and book are scenes of the line -/
def LiOk (ns : Nat) (l : List (Int × Int)) : Prop := ∀ i, i < l.length → (l.getD i (0, 0)).1 < ns
def LiOk2 (ns : Nat) (l : List (Int × Int)) : Prop := ∀ i, i < l.length → (l.getD i (0, 0)).1 < ns ∧ (l.getD i (0, 0)).2 < ns
def XW (M : AM) (σ : ST) : Prop := match σ with
  | (tx, fa, ln, g, un, i0, i1, sd, me, bo) => ∃ la sa : Nat, XRt M la sa fa sd ∧ XRd M tx ∧ XHi M (nS ln) (nW ln) un ∧ XIr M ∧ XIm M (nS ln) (nW ln) 260 i0 ∧ XIm M (nS ln) (nW ln) 268 i1 ∧ PairB true M 216 (nS ln) (nW ln) g ∧ PairR M 223 ∧ XTu M ∧ XMe M me ∧ XBo M bo ∧ LineA M la ln ∧ LineR M sa ∧ g.2.2.1 ≤ 90030 ∧ 0 ≤ sd ∧ sd ≤ 2147483647 ∧ LiOk (nS ln) me ∧ LiOk2 (nS ln) bo ∧ -1 ≤ fa ∧ fa ≤ 240
theorem XRd.fi {M M' : AM} {tx : List Int} {a n : Nat} (h : XRd M tx) (hf : FrI a n M M') (hd : 3 ≤ a ∨ a + n ≤ 1) : XRd M' tx := by
  obtain ⟨h0, f, x, ft, fp, h1, h2, h3⟩ := h
  exact ⟨h0, f, x, ft, fp, hf.at h1 (by omega), hf.at h2 (by omega), h3⟩
theorem XHi.fi {M M' : AM} {ns nw : Nat} {un : List GS} {a n : Nat} (h : XHi M ns nw un) (hf : FrI a n M M') (hd : 215 ≤ a ∨ a + n ≤ 3) : XHi M' ns nw un := by
  obtain ⟨h0, g, fs, h1, h2, h3, h4, h5, h6⟩ := h
  exact ⟨h0, g, fs, hf.at h1 (by omega), hf.at h2 (by omega), fun i hi => ⟨(h3 i hi).1, (h3 i hi).2.fi hf (by omega)⟩, h4, h5, fun i hi r hr => ⟨(h6 i hi r hr).1.fi hf (by omega), (h6 i hi r hr).2⟩⟩
theorem XIm.fi {M M' : AM} {ns nw b : Nat} {o : Option (GS × Int)} {a n : Nat} (h : XIm M ns nw b o) (hf : FrI a n M M') (hd : b + 8 ≤ a ∨ a + n ≤ b) : XIm M' ns nw b o := by
  obtain ⟨h0, s, k, h1, h2⟩ := h
  refine ⟨h0.fi hf (by omega), s, k, hf.at h1 (by omega), ?_⟩
  cases o with
  | none => exact h2
  | some q => exact ⟨h2.1, h2.2.1, h2.2.2.1, h2.2.2.2.1, h2.2.2.2.2.1.fi hf (by omega), h2.2.2.2.2.2⟩
theorem XIr.fi {M M' : AM} {a n : Nat} (h : XIr M) (hf : FrI a n M M') (hd : 216 ≤ a ∨ a + n ≤ 215) : XIr M' := by
  obtain ⟨g, h1, h2, h3⟩ := h
  exact ⟨g, hf.at h1 (by omega), h2, h3⟩
theorem XTu.fi {M M' : AM} {a n : Nat} (h : XTu M) (hf : FrI a n M M') (hd : 232 ≤ a ∨ a + n ≤ 230) : XTu M' := by
  obtain ⟨f, z, h1, h2⟩ := h
  exact ⟨f, z, hf.at h1 (by omega), hf.at h2 (by omega)⟩
theorem XMe.fi {M M' : AM} {me : List (Int × Int)} {a n : Nat} (h : XMe M me) (hf : FrI a n M M') (hd : 235 ≤ a ∨ a + n ≤ 232) : XMe M' me := by
  obtain ⟨h0, f, g, h1, h2, h3, h4⟩ := h
  exact ⟨h0, f, g, hf.at h1 (by omega), hf.at h2 (by omega), hf.at h3 (by omega), h4⟩
theorem XBo.fi {M M' : AM} {bo : List (Int × Int)} {a n : Nat} (h : XBo M bo) (hf : FrI a n M M') (hd : 238 ≤ a ∨ a + n ≤ 235) : XBo M' bo := by
  obtain ⟨h0, f, g, h1, h2, h3, h4⟩ := h
  exact ⟨h0, f, g, hf.at h1 (by omega), hf.at h2 (by omega), hf.at h3 (by omega), h4⟩
theorem XRt.fi {M M' : AM} {la sa : Nat} {fa sd : Int} {a n : Nat} (h : XRt M la sa fa sd) (hf : FrI a n M M') (hd : 1 ≤ a) : XRt M' la sa fa sd := ⟨hf.at h.1 (by omega), h.2⟩
theorem XW.fi {M M' : AM} {σ : ST} {a n : Nat} (h : XW M σ) (hf : FrI a n M M') (hd : 276 ≤ a) : XW M' σ := by
  obtain ⟨tx, fa, ln, g, un, i0, i1, sd, me, bo⟩ := σ
  obtain ⟨la, sa, h1, h2, h3, h4, h5, h6, h7, h8, h9, h10, h11, h12, h13, h14⟩ := h
  have hla := h1.2
  exact ⟨la, sa, h1.fi hf (by omega), h2.fi hf (by omega), h3.fi hf (by omega), h4.fi hf (by omega), h5.fi hf (by omega), h6.fi hf (by omega), h7.fi hf (by omega), h8.fi hf (by omega), h9.fi hf (by omega), h10.fi hf (by omega), h11.fi hf (by omega), h12.fi hf (by omega), h13.fi hf (by omega), h14⟩
