-- the reference: letters and numbers
abbrev YF : Type := Int × Int × Int × Int × Int × Int
def YS (M : AM) (w : YF) (at0 bg sg fg vl wr : Int) : Prop := M 276 = some (zO 10 [.ref 277, .ref 278, .ref 279, .ref 280, .ref 281, zI w.1, .ref 282, .ref 283, zJ w.2.1, .ref 284, zI w.2.2.1, zI w.2.2.2.1, .ref 285, zI w.2.2.2.2.1, .ref 286, zI w.2.2.2.2.2, zI at0, zI bg, zI sg, zI fg, zI vl, zI wr, .ref 287])
def YT (M : AM) (tx : List Int) : Prop := tx.length ≤ 240 ∧ ∃ f, M 284 = some (zA 240 f) ∧ ∀ i, i < tx.length → f i = ch tx i ∧ 0 ≤ ch tx i ∧ ch tx i ≤ 255
theorem YT.fi {M M' : AM} {tx : List Int} {a n : Nat} (h : YT M tx) (hf : FrI a n M M') (hd : 285 ≤ a ∨ a + n ≤ 284) : YT M' tx := by
  obtain ⟨h0, f, h1, h2⟩ := h
  exact ⟨h0, f, hf.at h1 (by omega), h2⟩
theorem YT.c {M : AM} {tx : List Int} (h : YT M tx) (a : Nat) : -1 ≤ ch tx a ∧ ch tx a ≤ 255 := by
  obtain ⟨h0, f, h1, h2⟩ := h
  rcases Nat.lt_or_ge a tx.length with z | z
  · have := h2 a z; omega
  · rw [ch_end z]; omega
theorem y_here {M : AM} {tx : List Int} {w : YF} {a : Nat} {bg sg fg vl wr : Int} {Q : Option Value → AM → Prop} (kY : YS M w (a : Int) bg sg fg vl wr) (hw : w.2.2.1 = (tx.length : Nat)) (hT : YT M tx) (ha : a ≤ tx.length) (h : Q (some (zI (ch tx a))) M) : C mX10_here [.ref 276] M Q := by
  unfold YS at kY
  obtain ⟨v0, tf, kX, v1⟩ := id hT
  refine C_of okX10_here (by decide) (Nat.le_of_ble_eq_true rfl) ?_
  show P none mX10_here 0 [.ref 276] [] _ _
  refine p_aload_n (i := 0) rfl rfl ?_
  refine p_getf (i := 1) rfl fX10_68 kY rfl ?_
  refine p_aload_n (i := 2) rfl rfl ?_
  refine p_getf (i := 3) rfl fX10_64 kY rfl ?_
  refine p_icmp_ge (i := 4) 23 rfl (by decide) (by omega) (by omega) (fun c8 => ?_) (fun c8 => ?_)
  · rw [ch_end (by omega)] at h
    refine p_iconst (i := 11) rfl ?_
    refine p_iret (i := 12) rfl rfl (rfl) ?_
    exact h
  · refine p_aload_n (i := 5) rfl rfl ?_
    refine p_getf (i := 6) rfl fX10_32 kY rfl ?_
    refine p_aload_n (i := 7) rfl rfl ?_
    refine p_getf (i := 8) rfl fX10_68 kY rfl ?_
    refine p_iaX (i := 9) (a) rfl kX (by omega) (by omega) (by decide) ?_
    refine p_goto (i := 10) 24 rfl (by decide) ?_
    refine p_iret (i := 12) rfl rfl (rfl) ?_
    rw [(v1 a (by omega)).1]
    exact h
