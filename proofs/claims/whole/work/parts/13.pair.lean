-- Pair of the class: reads
theorem x_hasLayer {b : Bool} {M : AM} {p ns nw : Nat} {g : GS} {k : Int} {Q : Option Value → AM → Prop} (hP : PairB b M p ns nw g) (hk : -2147483648 ≤ k ∧ k ≤ 2147483647) (h1 : 0 ≤ k ∧ k < g.1.length → Q (some (zI 1)) M) (h0 : ¬ (0 ≤ k ∧ k < g.1.length) → Q (some (zI 0)) M) : C mX6_hasLayer [.ref p, zI k] M Q := by
  obtain ⟨⟨q1, q2, q3, q4, q5, q6, q7, q8, q9, q10, q11⟩, sc, wh, st, hs, lr, lf, lz, ⟨hp, hS, hW, hT, hH, hG, hR⟩, rL, rH, rG⟩ := id hP
  refine C_of okX6_hasLayer (by decide) (Nat.le_of_ble_eq_true rfl) ?_
  show P none mX6_hasLayer 0 [.ref p, zI k] [] _ _
  refine p_iload_n (i := 0) rfl rfl ?_
  refine p_if_lt (i := 1) 22 rfl (by decide) (by omega) (fun c1 => ?_) (fun c1 => ?_)
  · refine p_iconst (i := 11) rfl ?_
    refine p_iret (i := 12) rfl rfl (by decide) ?_
    exact h0 (by omega)
  · refine p_iload_n (i := 2) rfl rfl ?_
    refine p_aload_n (i := 3) rfl rfl ?_
    refine p_getf (i := 4) rfl fX6_31 hp rfl ?_
    refine p_icmp_ge (i := 5) 22 rfl (by decide) (by omega) (by omega) (fun c9 => ?_) (fun c9 => ?_)
    · refine p_iconst (i := 11) rfl ?_
      refine p_iret (i := 12) rfl rfl (by decide) ?_
      exact h0 (by omega)
    · refine p_iload_n (i := 6) rfl rfl ?_
      refine p_bipush (i := 7) rfl (by decide) ?_
      refine p_icmp_ge (i := 8) 22 rfl (by decide) (by omega) (by omega) (fun c15 => by exfalso; omega) (fun c15 => ?_)
      refine p_iconst (i := 9) rfl ?_
      refine p_goto (i := 10) 23 rfl (by decide) ?_
      refine p_iret (i := 12) rfl rfl (by decide) ?_
      exact h1 (by omega)
theorem x_yearsOf {b : Bool} {M : AM} {p ns nw : Nat} {g : GS} {w : Int} {Q : Option Value → AM → Prop} (hP : PairB b M p ns nw g) (hw : 0 ≤ w ∧ w < 6) (h : Q (some (zI (g.2.2.2.1.getD w.toNat 0))) M) : C mX6_yearsOf [.ref p, zI w] M Q := by
  obtain ⟨⟨q1, q2, q3, q4, q5, q6, q7, q8, q9, q10, q11⟩, sc, wh, st, hs, lr, lf, lz, ⟨hp, hS, hW, hT, hH, hG, hR⟩, rL, rH, rG⟩ := id hP
  refine C_of okX6_yearsOf (by decide) (Nat.le_of_ble_eq_true rfl) ?_
  show P none mX6_yearsOf 0 [.ref p, zI w] [] _ _
  refine p_iload_n (i := 0) rfl rfl ?_
  refine p_if_lt (i := 1) 19 rfl (by decide) (by omega) (fun c1 => by exfalso; omega) (fun c1 => ?_)
  refine p_iload_n (i := 2) rfl rfl ?_
  refine p_bipush (i := 3) rfl (by decide) ?_
  refine p_icmp_ge (i := 4) 19 rfl (by decide) (by omega) (by omega) (fun c7 => by exfalso; omega) (fun c7 => ?_)
  refine p_aload_n (i := 5) rfl rfl ?_
  refine p_getf (i := 6) rfl fX6_21 hp rfl ?_
  refine p_iload_n (i := 7) rfl rfl ?_
  refine p_iaX (i := 8) (w.toNat) rfl hH (by omega) (by omega) (by decide) ?_
  refine p_goto (i := 9) 20 rfl (by decide) ?_
  refine p_iret (i := 11) rfl rfl (rfl) ?_
  rw [rH _ (by omega)]
  exact h
theorem x_strongestBut {b : Bool} {M : AM} {p ns nw : Nat} {g : GS} {wi : Nat} {Q : Option Value → AM → Prop} (hP : PairB b M p ns nw g) (hw : wi < 2147483648) (h : Q (some (zI (sb g.1 wi))) M) : C mX6_strongestBut [.ref p, zI (wi : Int)] M Q := by
  obtain ⟨⟨q1, q2, q3, q4, q5, q6, q7, q8, q9, q10, q11⟩, sc, wh, st, hs, lr, lf, lz, ⟨hp, hS, hW, hT, hH, hG, hR⟩, rL, rH, rG⟩ := id hP
  have loop : ∀ (f k : Nat) (s : Int × Int), k + f = g.1.length → 0 ≤ s.2 ∧ s.2 ≤ 99 → Q (some (zI (fo (sbStep g.1 wi) f k s).1)) M → P none mX6_strongestBut 7 [.ref p, zI (wi : Int), zI s.1, zI s.2, zI (k : Int)] []  M Q := by
    intro f
    induction f with
    | zero =>
      intro k s hk hs hq
      refine p_iload (i := 6) rfl rfl ?_
      refine p_aload_n (i := 7) rfl rfl ?_
      refine p_getf (i := 8) rfl fX6_31 hp rfl ?_
      refine p_icmp_ge (i := 9) 60 rfl (by decide) (by omega) (by omega) (fun c13 => ?_) (fun c13 => by exfalso; omega)
      refine p_iload_n (i := 34) rfl rfl ?_
      refine p_iret (i := 35) rfl rfl (rfl) ?_
      exact hq
    | succ f ih =>
      intro k s hk hs hq
      obtain ⟨e1, e2, e3⟩ := rL k (by omega)
      have e4 := q2 k (by omega)
      have hq : Q (some (zI (fo (sbStep g.1 wi) f (k + 1) (sbStep g.1 wi k s)).1)) M := hq
      unfold sbStep at hq
      refine p_iload (i := 6) rfl rfl ?_
      refine p_aload_n (i := 7) rfl rfl ?_
      refine p_getf (i := 8) rfl fX6_31 hp rfl ?_
      refine p_icmp_ge (i := 9) 60 rfl (by decide) (by omega) (by omega) (fun c13 => by exfalso; omega) (fun c13 => ?_)
      refine p_iload (i := 10) rfl rfl ?_
      refine p_bipush (i := 11) rfl (by decide) ?_
      refine p_icmp_ge (i := 12) 60 rfl (by decide) (by omega) (by omega) (fun c20 => by exfalso; omega) (fun c20 => ?_)
      refine p_iload_n (i := 13) rfl rfl ?_
      refine p_iload (i := 14) rfl rfl ?_
      refine p_ishrN (i := 15) rfl (by omega) (by omega) ?_
      refine p_iconst (i := 16) rfl ?_
      refine p_iand1 (i := 17) rfl ?_
      have e5 : wi / 2 ^ k % 2 < 2 := Nat.mod_lt _ (by decide)
      refine p_if_ne (i := 18) 54 rfl (by decide) (by omega) (fun c29 => ?_) (fun c29 => ?_)
      · refine p_iinc (i := 32) rfl rfl rfl ?_
        refine p_goto (i := 33) 7 rfl (by decide) ?_
        rw [if_neg (by omega)] at hq
        exact ih (k + 1) s (by omega) hs hq
      · refine p_aload_n (i := 19) rfl rfl ?_
        refine p_getf (i := 20) rfl fX6_18 hp rfl ?_
        refine p_iload (i := 21) rfl rfl ?_
        refine p_iaX (i := 22) _ rfl hT rfl (by omega) (by decide) ?_
        refine p_iload_n (i := 23) rfl rfl ?_
        refine p_icmp_lt (i := 24) 54 rfl (by decide) (by omega) (by omega) (fun c40 => ?_) (fun c40 => ?_)
        · refine p_iinc (i := 32) rfl rfl rfl ?_
          refine p_goto (i := 33) 7 rfl (by decide) ?_
          rw [if_neg (by omega)] at hq
          exact ih (k + 1) s (by omega) hs hq
        · refine p_aload_n (i := 25) rfl rfl ?_
          refine p_getf (i := 26) rfl fX6_18 hp rfl ?_
          refine p_iload (i := 27) rfl rfl ?_
          refine p_iaX (i := 28) _ rfl hT rfl (by omega) (by decide) ?_
          refine p_istore_n (i := 29) rfl rfl ?_
          refine p_iload (i := 30) rfl rfl ?_
          refine p_istore_n (i := 31) rfl rfl ?_
          refine p_iinc (i := 32) rfl rfl rfl ?_
          refine p_goto (i := 33) 7 rfl (by decide) ?_
          rw [if_pos (by omega)] at hq
          rw [e3]
          exact ih (k + 1) _ (by omega) (by show 0 ≤ lT g.1 k ∧ lT g.1 k ≤ 99; omega) hq
  refine C_of okX6_strongestBut (by decide) (Nat.le_of_ble_eq_true rfl) ?_
  show P none mX6_strongestBut 0 [.ref p, zI (wi : Int), .retAddr 0, .retAddr 0, .retAddr 0] [] _ _
  refine p_iconst (i := 0) rfl ?_
  refine p_istore_n (i := 1) rfl rfl ?_
  refine p_iconst (i := 2) rfl ?_
  refine p_istore_n (i := 3) rfl rfl ?_
  refine p_iconst (i := 4) rfl ?_
  refine p_istore (i := 5) rfl rfl ?_
  exact loop g.1.length 0 (-1, 0) (by omega) (by decide) h
theorem x_weakest {b : Bool} {M : AM} {p ns nw : Nat} {g : GS} {Q : Option Value → AM → Prop} (hP : PairB b M p ns nw g) (h : Q (some (zI (wk g.1))) M) : C mX6_weakest [.ref p] M Q := by
  obtain ⟨⟨q1, q2, q3, q4, q5, q6, q7, q8, q9, q10, q11⟩, sc, wh, st, hs, lr, lf, lz, ⟨hp, hS, hW, hT, hH, hG, hR⟩, rL, rH, rG⟩ := id hP
  have loop : ∀ (f k : Nat) (s : Int × Int), k + f = g.1.length → 0 ≤ s.2 ∧ s.2 ≤ 100 → Q (some (zI (fo (wkStep g.1) f k s).1)) M → P none mX6_weakest 7 [.ref p, zI s.1, zI s.2, zI (k : Int)] []  M Q := by
    intro f
    induction f with
    | zero =>
      intro k s hk hs hq
      refine p_iload_n (i := 6) rfl rfl ?_
      refine p_aload_n (i := 7) rfl rfl ?_
      refine p_getf (i := 8) rfl fX6_31 hp rfl ?_
      refine p_icmp_ge (i := 9) 46 rfl (by decide) (by omega) (by omega) (fun c12 => ?_) (fun c12 => by exfalso; omega)
      refine p_iload_n (i := 28) rfl rfl ?_
      refine p_iret (i := 29) rfl rfl (rfl) ?_
      exact hq
    | succ f ih =>
      intro k s hk hs hq
      obtain ⟨e1, e2, e3⟩ := rL k (by omega)
      have e4 := q2 k (by omega)
      have hq : Q (some (zI (fo (wkStep g.1) f (k + 1) (wkStep g.1 k s)).1)) M := hq
      unfold wkStep at hq
      refine p_iload_n (i := 6) rfl rfl ?_
      refine p_aload_n (i := 7) rfl rfl ?_
      refine p_getf (i := 8) rfl fX6_31 hp rfl ?_
      refine p_icmp_ge (i := 9) 46 rfl (by decide) (by omega) (by omega) (fun c12 => by exfalso; omega) (fun c12 => ?_)
      refine p_iload_n (i := 10) rfl rfl ?_
      refine p_bipush (i := 11) rfl (by decide) ?_
      refine p_icmp_ge (i := 12) 46 rfl (by decide) (by omega) (by omega) (fun c18 => by exfalso; omega) (fun c18 => ?_)
      refine p_aload_n (i := 13) rfl rfl ?_
      refine p_getf (i := 14) rfl fX6_18 hp rfl ?_
      refine p_iload_n (i := 15) rfl rfl ?_
      refine p_iaX (i := 16) _ rfl hT rfl (by omega) (by decide) ?_
      refine p_iload_n (i := 17) rfl rfl ?_
      refine p_icmp_ge (i := 18) 40 rfl (by decide) (by omega) (by omega) (fun c28 => ?_) (fun c28 => ?_)
      · refine p_iinc (i := 26) rfl rfl rfl ?_
        refine p_goto (i := 27) 7 rfl (by decide) ?_
        rw [if_neg (by omega)] at hq
        exact ih (k + 1) s (by omega) hs hq
      · refine p_aload_n (i := 19) rfl rfl ?_
        refine p_getf (i := 20) rfl fX6_18 hp rfl ?_
        refine p_iload_n (i := 21) rfl rfl ?_
        refine p_iaX (i := 22) _ rfl hT rfl (by omega) (by decide) ?_
        refine p_istore_n (i := 23) rfl rfl ?_
        refine p_iload_n (i := 24) rfl rfl ?_
        refine p_istore_n (i := 25) rfl rfl ?_
        refine p_iinc (i := 26) rfl rfl rfl ?_
        refine p_goto (i := 27) 7 rfl (by decide) ?_
        rw [if_pos (by omega)] at hq
        rw [e3]
        exact ih (k + 1) _ (by omega) (by show 0 ≤ lT g.1 k ∧ lT g.1 k ≤ 100; omega) hq
  refine C_of okX6_weakest (by decide) (Nat.le_of_ble_eq_true rfl) ?_
  show P none mX6_weakest 0 [.ref p, .retAddr 0, .retAddr 0, .retAddr 0] [] _ _
  refine p_iconst (i := 0) rfl ?_
  refine p_istore_n (i := 1) rfl rfl ?_
  refine p_bipush (i := 2) rfl (by decide) ?_
  refine p_istore_n (i := 3) rfl rfl ?_
  refine p_iconst (i := 4) rfl ?_
  refine p_istore_n (i := 5) rfl rfl ?_
  exact loop g.1.length 0 (-1, 100) (by omega) (by decide) h
theorem x_layersBefore {b : Bool} {M : AM} {p ns nw : Nat} {g : GS} {k0 : Nat} {Q : Option Value → AM → Prop} (hP : PairB b M p ns nw g) (hk0 : k0 < g.1.length) (h : Q (some (zI (lb g.1 k0))) M) : C mX6_layersBefore [.ref p, zI (k0 : Int)] M Q := by
  obtain ⟨⟨q1, q2, q3, q4, q5, q6, q7, q8, q9, q10, q11⟩, sc, wh, st, hs, lr, lf, lz, ⟨hp, hS, hW, hT, hH, hG, hR⟩, rL, rH, rG⟩ := id hP
  obtain ⟨u1, u2, u3⟩ := rL k0 (by omega)
  have u4 := q2 k0 (by omega)
  have loop : ∀ (f k : Nat) (s : Int), k + f = g.1.length → 0 ≤ s ∧ s ≤ k → Q (some (zI (fo (lbStep g.1 k0) f k s))) M → P none mX6_layersBefore 14 [.ref p, zI (k0 : Int), zI s, zI (k : Int)] []  M Q := by
    intro f
    induction f with
    | zero =>
      intro k s hk hs hq
      refine p_iload_n (i := 10) rfl rfl ?_
      refine p_aload_n (i := 11) rfl rfl ?_
      refine p_getf (i := 12) rfl fX6_31 hp rfl ?_
      refine p_icmp_ge (i := 13) 72 rfl (by decide) (by omega) (by omega) (fun c19 => ?_) (fun c19 => by exfalso; omega)
      refine p_iload_n (i := 41) rfl rfl ?_
      refine p_iret (i := 42) rfl rfl (rfl) ?_
      exact hq
    | succ f ih =>
      intro k s hk hs hq
      obtain ⟨e1, e2, e3⟩ := rL k (by omega)
      have e4 := q2 k (by omega)
      have hq : Q (some (zI (fo (lbStep g.1 k0) f (k + 1) (lbStep g.1 k0 k s)))) M := hq
      unfold lbStep at hq
      refine p_iload_n (i := 10) rfl rfl ?_
      refine p_aload_n (i := 11) rfl rfl ?_
      refine p_getf (i := 12) rfl fX6_31 hp rfl ?_
      refine p_icmp_ge (i := 13) 72 rfl (by decide) (by omega) (by omega) (fun c19 => by exfalso; omega) (fun c19 => ?_)
      refine p_iload_n (i := 14) rfl rfl ?_
      refine p_bipush (i := 15) rfl (by decide) ?_
      refine p_icmp_ge (i := 16) 72 rfl (by decide) (by omega) (by omega) (fun c25 => by exfalso; omega) (fun c25 => ?_)
      refine p_aload_n (i := 17) rfl rfl ?_
      refine p_getf (i := 18) rfl fX6_18 hp rfl ?_
      refine p_iload_n (i := 19) rfl rfl ?_
      refine p_iaX (i := 20) _ rfl hT rfl (by omega) (by decide) ?_
      refine p_aload_n (i := 21) rfl rfl ?_
      refine p_getf (i := 22) rfl fX6_18 hp rfl ?_
      refine p_iload_n (i := 23) rfl rfl ?_
      refine p_iaX (i := 24) _ rfl hT rfl (by omega) (by decide) ?_
      refine p_icmp_gt (i := 25) 63 rfl (by decide) (by omega) (by omega) (fun c40 => ?_) (fun c40 => ?_)
      · refine p_iinc (i := 38) rfl rfl rfl ?_
        refine p_iinc (i := 39) rfl rfl rfl ?_
        refine p_goto (i := 40) 14 rfl (by decide) ?_
        rw [if_pos (by omega)] at hq
        exact ih (k + 1) _ (by omega) (by omega) hq
      · refine p_aload_n (i := 26) rfl rfl ?_
        refine p_getf (i := 27) rfl fX6_18 hp rfl ?_
        refine p_iload_n (i := 28) rfl rfl ?_
        refine p_iaX (i := 29) _ rfl hT rfl (by omega) (by decide) ?_
        refine p_aload_n (i := 30) rfl rfl ?_
        refine p_getf (i := 31) rfl fX6_18 hp rfl ?_
        refine p_iload_n (i := 32) rfl rfl ?_
        refine p_iaX (i := 33) _ rfl hT rfl (by omega) (by decide) ?_
        refine p_icmp_ne (i := 34) 66 rfl (by decide) (by omega) (by omega) (fun c55 => ?_) (fun c55 => ?_)
        · refine p_iinc (i := 39) rfl rfl rfl ?_
          refine p_goto (i := 40) 14 rfl (by decide) ?_
          rw [if_neg (by omega)] at hq
          exact ih (k + 1) _ (by omega) (by omega) hq
        · refine p_iload_n (i := 35) rfl rfl ?_
          refine p_iload_n (i := 36) rfl rfl ?_
          refine p_icmp_le (i := 37) 66 rfl (by decide) (by omega) (by omega) (fun c60 => ?_) (fun c60 => ?_)
          · refine p_iinc (i := 39) rfl rfl rfl ?_
            refine p_goto (i := 40) 14 rfl (by decide) ?_
            rw [if_neg (by omega)] at hq
            exact ih (k + 1) _ (by omega) (by omega) hq
          · refine p_iinc (i := 38) rfl rfl rfl ?_
            refine p_iinc (i := 39) rfl rfl rfl ?_
            refine p_goto (i := 40) 14 rfl (by decide) ?_
            rw [if_pos (by omega)] at hq
            exact ih (k + 1) _ (by omega) (by omega) hq
  refine C_of okX6_layersBefore (by decide) (Nat.le_of_ble_eq_true rfl) ?_
  show P none mX6_layersBefore 0 [.ref p, zI (k0 : Int), .retAddr 0, .retAddr 0] [] _ _
  refine p_aload_n (i := 0) rfl rfl ?_
  refine p_iload_n (i := 1) rfl rfl ?_
  refine p_cV1 (i := 2) rfl ⟨lX6_90, rfl, rfl⟩ hp ⟨_, rfl, rfl⟩ rfl (x_hasLayer hP (by omega) (fun q => ?_) (fun q => by exfalso; omega))
  · refine p_if_ne (i := 3) 10 rfl (by decide) (by omega) (fun c5 => ?_) (fun c5 => by exfalso; omega)
    refine p_iconst (i := 6) rfl ?_
    refine p_istore_n (i := 7) rfl rfl ?_
    refine p_iconst (i := 8) rfl ?_
    refine p_istore_n (i := 9) rfl rfl ?_
    exact loop g.1.length 0 0 (by omega) (by decide) h
theorem x_find {b : Bool} {M : AM} {p ns nw : Nat} {g : GS} {w x : Int} {Q : Option Value → AM → Prop} (hP : PairB b M p ns nw g) (hw : -1 ≤ w ∧ w ≤ 10) (hx : 0 ≤ x ∧ x ≤ 10) (h : Q (some (zI (fnd g.1 w x))) M) : C mX6_find [.ref p, zI w, zI x] M Q := by
  obtain ⟨⟨q1, q2, q3, q4, q5, q6, q7, q8, q9, q10, q11⟩, sc, wh, st, hs, lr, lf, lz, ⟨hp, hS, hW, hT, hH, hG, hR⟩, rL, rH, rG⟩ := id hP
  have loop : ∀ (f k : Nat), k + f = g.1.length → Q (some (zI (fi (fun k => decide (lW g.1 k = w ∧ lS g.1 k = x)) f k))) M → P none mX6_find 2 [.ref p, zI w, zI x, zI (k : Int)] []  M Q := by
    intro f
    induction f with
    | zero =>
      intro k hk hq
      refine p_iload_n (i := 2) rfl rfl ?_
      refine p_aload_n (i := 3) rfl rfl ?_
      refine p_getf (i := 4) rfl fX6_31 hp rfl ?_
      refine p_icmp_ge (i := 5) 44 rfl (by decide) (by omega) (by omega) (fun c7 => ?_) (fun c7 => by exfalso; omega)
      refine p_iconst (i := 25) rfl ?_
      refine p_iret (i := 26) rfl rfl (rfl) ?_
      exact hq
    | succ f ih =>
      intro k hk hq
      obtain ⟨e1, e2, e3⟩ := rL k (by omega)
      have e4 := q2 k (by omega)
      unfold fi at hq
      refine p_iload_n (i := 2) rfl rfl ?_
      refine p_aload_n (i := 3) rfl rfl ?_
      refine p_getf (i := 4) rfl fX6_31 hp rfl ?_
      refine p_icmp_ge (i := 5) 44 rfl (by decide) (by omega) (by omega) (fun c7 => by exfalso; omega) (fun c7 => ?_)
      refine p_iload_n (i := 6) rfl rfl ?_
      refine p_bipush (i := 7) rfl (by decide) ?_
      refine p_icmp_ge (i := 8) 44 rfl (by decide) (by omega) (by omega) (fun c13 => by exfalso; omega) (fun c13 => ?_)
      refine p_aload_n (i := 9) rfl rfl ?_
      refine p_getf (i := 10) rfl fX6_15 hp rfl ?_
      refine p_iload_n (i := 11) rfl rfl ?_
      refine p_iaX (i := 12) _ rfl hW rfl (by omega) (by decide) ?_
      refine p_iload_n (i := 13) rfl rfl ?_
      refine p_icmp_ne (i := 14) 38 rfl (by decide) (by omega) (by omega) (fun c23 => ?_) (fun c23 => ?_)
      · refine p_iinc (i := 23) rfl rfl rfl ?_
        refine p_goto (i := 24) 2 rfl (by decide) ?_
        rw [if_neg (by rw [decide_eq_true_eq]; omega)] at hq
        exact ih (k + 1) (by omega) hq
      · refine p_aload_n (i := 15) rfl rfl ?_
        refine p_getf (i := 16) rfl fX6_9 hp rfl ?_
        refine p_iload_n (i := 17) rfl rfl ?_
        refine p_iaX (i := 18) _ rfl hS rfl (by omega) (by decide) ?_
        refine p_iload_n (i := 19) rfl rfl ?_
        refine p_icmp_ne (i := 20) 38 rfl (by decide) (by omega) (by omega) (fun c33 => ?_) (fun c33 => ?_)
        · refine p_iinc (i := 23) rfl rfl rfl ?_
          refine p_goto (i := 24) 2 rfl (by decide) ?_
          rw [if_neg (by rw [decide_eq_true_eq]; omega)] at hq
          exact ih (k + 1) (by omega) hq
        · refine p_iload_n (i := 21) rfl rfl ?_
          refine p_iret (i := 22) rfl rfl (rfl) ?_
          rw [if_pos (by rw [decide_eq_true_eq]; omega)] at hq
          exact hq
  refine C_of okX6_find (by decide) (Nat.le_of_ble_eq_true rfl) ?_
  show P none mX6_find 0 [.ref p, zI w, zI x, .retAddr 0] [] _ _
  refine p_iconst (i := 0) rfl ?_
  refine p_istore_n (i := 1) rfl rfl ?_
  exact loop g.1.length 0 (by omega) h
theorem x_darkness {b : Bool} {M : AM} {p ns nw : Nat} {g : GS} {Q : Option Value → AM → Prop} (hP : PairB b M p ns nw g) (h : Q (some (zI (smAll g.1 / 10))) M) : C mX6_darkness [.ref p] M Q := by
  obtain ⟨⟨q1, q2, q3, q4, q5, q6, q7, q8, q9, q10, q11⟩, sc, wh, st, hs, lr, lf, lz, ⟨hp, hS, hW, hT, hH, hG, hR⟩, rL, rH, rG⟩ := id hP
  have loop : ∀ (f k : Nat) (s : Int), k + f = g.1.length → 0 ≤ s ∧ s ≤ 99 * k → Q (some (zI (fo (fun k s => s + lT g.1 k) f k s / 10))) M → P none mX6_darkness 4 [.ref p, zI s, zI (k : Int)] []  M Q := by
    intro f
    induction f with
    | zero =>
      intro k s hk hs hq
      refine p_iload_n (i := 4) rfl rfl ?_
      refine p_aload_n (i := 5) rfl rfl ?_
      refine p_getf (i := 6) rfl fX6_31 hp rfl ?_
      refine p_icmp_ge (i := 7) 33 rfl (by decide) (by omega) (by omega) (fun c9 => ?_) (fun c9 => by exfalso; omega)
      refine p_iload_n (i := 20) rfl rfl ?_
      refine p_bipush (i := 21) rfl (by decide) ?_
      refine p_idiv (i := 22) rfl (by omega) (by omega) ?_
      refine p_iret (i := 23) rfl rfl (rfl) ?_
      exact hq
    | succ f ih =>
      intro k s hk hs hq
      obtain ⟨e1, e2, e3⟩ := rL k (by omega)
      have e4 := q2 k (by omega)
      refine p_iload_n (i := 4) rfl rfl ?_
      refine p_aload_n (i := 5) rfl rfl ?_
      refine p_getf (i := 6) rfl fX6_31 hp rfl ?_
      refine p_icmp_ge (i := 7) 33 rfl (by decide) (by omega) (by omega) (fun c9 => by exfalso; omega) (fun c9 => ?_)
      refine p_iload_n (i := 8) rfl rfl ?_
      refine p_bipush (i := 9) rfl (by decide) ?_
      refine p_icmp_ge (i := 10) 33 rfl (by decide) (by omega) (by omega) (fun c15 => by exfalso; omega) (fun c15 => ?_)
      refine p_iload_n (i := 11) rfl rfl ?_
      refine p_aload_n (i := 12) rfl rfl ?_
      refine p_getf (i := 13) rfl fX6_18 hp rfl ?_
      refine p_iload_n (i := 14) rfl rfl ?_
      refine p_iaX (i := 15) _ rfl hT rfl (by omega) (by decide) ?_
      refine p_iadd (i := 16) rfl ?_
      refine p_istore_n (i := 17) rfl rfl ?_
      refine p_iinc (i := 18) rfl rfl rfl ?_
      refine p_goto (i := 19) 4 rfl (by decide) ?_
      rw [e3]
      exact ih (k + 1) _ (by omega) (by omega) hq
  refine C_of okX6_darkness (by decide) (Nat.le_of_ble_eq_true rfl) ?_
  show P none mX6_darkness 0 [.ref p, .retAddr 0, .retAddr 0] [] _ _
  refine p_iconst (i := 0) rfl ?_
  refine p_istore_n (i := 1) rfl rfl ?_
  refine p_iconst (i := 2) rfl ?_
  refine p_istore_n (i := 3) rfl rfl ?_
  exact loop g.1.length 0 0 (by omega) (by decide) h
theorem x_strengthOfScene {b : Bool} {M : AM} {p ns nw : Nat} {g : GS} {x : Int} {Q : Option Value → AM → Prop} (hP : PairB b M p ns nw g) (hx : 0 ≤ x ∧ x ≤ 10) (h : Q (some (zI (smOf g.1 x))) M) : C mX6_strengthOfScene [.ref p, zI x] M Q := by
  obtain ⟨⟨q1, q2, q3, q4, q5, q6, q7, q8, q9, q10, q11⟩, sc, wh, st, hs, lr, lf, lz, ⟨hp, hS, hW, hT, hH, hG, hR⟩, rL, rH, rG⟩ := id hP
  have loop : ∀ (f k : Nat) (s : Int), k + f = g.1.length → 0 ≤ s ∧ s ≤ 99 * k → Q (some (zI (fo (fun k s => if lS g.1 k = x then s + lT g.1 k else s) f k s))) M → P none mX6_strengthOfScene 4 [.ref p, zI x, zI s, zI (k : Int)] []  M Q := by
    intro f
    induction f with
    | zero =>
      intro k s hk hs hq
      refine p_iload_n (i := 4) rfl rfl ?_
      refine p_aload_n (i := 5) rfl rfl ?_
      refine p_getf (i := 6) rfl fX6_31 hp rfl ?_
      refine p_icmp_ge (i := 7) 43 rfl (by decide) (by omega) (by omega) (fun c9 => ?_) (fun c9 => by exfalso; omega)
      refine p_iload_n (i := 26) rfl rfl ?_
      refine p_iret (i := 27) rfl rfl (rfl) ?_
      exact hq
    | succ f ih =>
      intro k s hk hs hq
      obtain ⟨e1, e2, e3⟩ := rL k (by omega)
      have e4 := q2 k (by omega)
      have hq : Q (some (zI (fo (fun k s => if lS g.1 k = x then s + lT g.1 k else s) f (k + 1) (if lS g.1 k = x then s + lT g.1 k else s)))) M := hq
      refine p_iload_n (i := 4) rfl rfl ?_
      refine p_aload_n (i := 5) rfl rfl ?_
      refine p_getf (i := 6) rfl fX6_31 hp rfl ?_
      refine p_icmp_ge (i := 7) 43 rfl (by decide) (by omega) (by omega) (fun c9 => by exfalso; omega) (fun c9 => ?_)
      refine p_iload_n (i := 8) rfl rfl ?_
      refine p_bipush (i := 9) rfl (by decide) ?_
      refine p_icmp_ge (i := 10) 43 rfl (by decide) (by omega) (by omega) (fun c15 => by exfalso; omega) (fun c15 => ?_)
      refine p_aload_n (i := 11) rfl rfl ?_
      refine p_getf (i := 12) rfl fX6_9 hp rfl ?_
      refine p_iload_n (i := 13) rfl rfl ?_
      refine p_iaX (i := 14) _ rfl hS rfl (by omega) (by decide) ?_
      refine p_iload_n (i := 15) rfl rfl ?_
      refine p_icmp_ne (i := 16) 37 rfl (by decide) (by omega) (by omega) (fun c25 => ?_) (fun c25 => ?_)
      · refine p_iinc (i := 24) rfl rfl rfl ?_
        refine p_goto (i := 25) 4 rfl (by decide) ?_
        rw [if_neg (show ¬ lS g.1 k = x by omega)] at hq
        exact ih (k + 1) _ (by omega) (by omega) hq
      · refine p_iload_n (i := 17) rfl rfl ?_
        refine p_aload_n (i := 18) rfl rfl ?_
        refine p_getf (i := 19) rfl fX6_18 hp rfl ?_
        refine p_iload_n (i := 20) rfl rfl ?_
        refine p_iaX (i := 21) _ rfl hT rfl (by omega) (by decide) ?_
        refine p_iadd (i := 22) rfl ?_
        refine p_istore_n (i := 23) rfl rfl ?_
        refine p_iinc (i := 24) rfl rfl rfl ?_
        refine p_goto (i := 25) 4 rfl (by decide) ?_
        rw [if_pos (show lS g.1 k = x by omega)] at hq
        rw [e3]
        exact ih (k + 1) _ (by omega) (by omega) hq
  refine C_of okX6_strengthOfScene (by decide) (Nat.le_of_ble_eq_true rfl) ?_
  show P none mX6_strengthOfScene 0 [.ref p, zI x, .retAddr 0, .retAddr 0] [] _ _
  refine p_iconst (i := 0) rfl ?_
  refine p_istore_n (i := 1) rfl rfl ?_
  refine p_iconst (i := 2) rfl ?_
  refine p_istore_n (i := 3) rfl rfl ?_
  exact loop g.1.length 0 0 (by omega) (by decide) h
theorem x_scenesOf {b : Bool} {M : AM} {p ns nw : Nat} {g : GS} {w : Int} {Q : Option Value → AM → Prop} (hP : PairB b M p ns nw g) (hw : -1 ≤ w ∧ w ≤ 10) (h : Q (some (zI (scOf g.1 w : Nat))) M) : C mX6_scenesOf [.ref p, zI w] M Q := by
  obtain ⟨⟨q1, q2, q3, q4, q5, q6, q7, q8, q9, q10, q11⟩, sc, wh, st, hs, lr, lf, lz, ⟨hp, hS, hW, hT, hH, hG, hR⟩, rL, rH, rG⟩ := id hP
  have loop : ∀ (f k : Nat) (s : Nat), k + f = g.1.length → Q (some (zI ((fo (fun k s => if lW g.1 k = w then s ||| 2 ^ (lS g.1 k).toNat else s) f k s : Nat) : Int))) M → P none mX6_scenesOf 4 [.ref p, zI w, zI (s : Int), zI (k : Int)] []  M Q := by
    intro f
    induction f with
    | zero =>
      intro k s hk hq
      refine p_iload_n (i := 4) rfl rfl ?_
      refine p_aload_n (i := 5) rfl rfl ?_
      refine p_getf (i := 6) rfl fX6_31 hp rfl ?_
      refine p_icmp_ge (i := 7) 45 rfl (by decide) (by omega) (by omega) (fun c9 => ?_) (fun c9 => by exfalso; omega)
      refine p_iload_n (i := 28) rfl rfl ?_
      refine p_iret (i := 29) rfl rfl (rfl) ?_
      exact hq
    | succ f ih =>
      intro k s hk hq
      obtain ⟨e1, e2, e3⟩ := rL k (by omega)
      have e4 := q2 k (by omega)
      have hq : Q (some (zI ((fo (fun k s => if lW g.1 k = w then s ||| 2 ^ (lS g.1 k).toNat else s) f (k + 1) (if lW g.1 k = w then s ||| 2 ^ (lS g.1 k).toNat else s) : Nat) : Int))) M := hq
      refine p_iload_n (i := 4) rfl rfl ?_
      refine p_aload_n (i := 5) rfl rfl ?_
      refine p_getf (i := 6) rfl fX6_31 hp rfl ?_
      refine p_icmp_ge (i := 7) 45 rfl (by decide) (by omega) (by omega) (fun c9 => by exfalso; omega) (fun c9 => ?_)
      refine p_iload_n (i := 8) rfl rfl ?_
      refine p_bipush (i := 9) rfl (by decide) ?_
      refine p_icmp_ge (i := 10) 45 rfl (by decide) (by omega) (by omega) (fun c15 => by exfalso; omega) (fun c15 => ?_)
      refine p_aload_n (i := 11) rfl rfl ?_
      refine p_getf (i := 12) rfl fX6_15 hp rfl ?_
      refine p_iload_n (i := 13) rfl rfl ?_
      refine p_iaX (i := 14) _ rfl hW rfl (by omega) (by decide) ?_
      refine p_iload_n (i := 15) rfl rfl ?_
      refine p_icmp_ne (i := 16) 39 rfl (by decide) (by omega) (by omega) (fun c25 => ?_) (fun c25 => ?_)
      · refine p_iinc (i := 26) rfl rfl rfl ?_
        refine p_goto (i := 27) 4 rfl (by decide) ?_
        rw [if_neg (show ¬ lW g.1 k = w by omega)] at hq
        exact ih (k + 1) _ (by omega) hq
      ·
        refine p_iload_n (i := 17) rfl rfl ?_
        refine p_iconst (i := 18) rfl ?_
        refine p_aload_n (i := 19) rfl rfl ?_
        refine p_getf (i := 20) rfl fX6_9 hp rfl ?_
        refine p_iload_n (i := 21) rfl rfl ?_
        refine p_iaX (i := 22) _ rfl hS rfl (by omega) (by decide) ?_
        rw [if_pos (show lW g.1 k = w by omega)] at hq
        refine p_top (b := (((lS g.1 k).toNat : Nat) : Int)) (by omega) ?_
        refine p_ishl1 (i := 23) rfl (by omega) ?_
        refine p_iorN (i := 24) rfl ?_
        refine p_istore_n (i := 25) rfl rfl ?_
        refine p_iinc (i := 26) rfl rfl rfl ?_
        refine p_goto (i := 27) 4 rfl (by decide) ?_
        exact ih (k + 1) _ (by omega) hq
  refine C_of okX6_scenesOf (by decide) (Nat.le_of_ble_eq_true rfl) ?_
  show P none mX6_scenesOf 0 [.ref p, zI w, .retAddr 0, .retAddr 0] [] _ _
  refine p_iconst (i := 0) rfl ?_
  refine p_istore_n (i := 1) rfl rfl ?_
  refine p_iconst (i := 2) rfl ?_
  refine p_istore_n (i := 3) rfl rfl ?_
  exact loop g.1.length 0 0 (by omega) h
theorem x_lowestOfWearers {b : Bool} {M : AM} {p ns nw : Nat} {g : GS} {Q : Option Value → AM → Prop} (hP : PairB b M p ns nw g) (h : Q (some (zI (low g.1))) M) : C mX6_lowestOfWearers [.ref p] M Q := by
  obtain ⟨⟨q1, q2, q3, q4, q5, q6, q7, q8, q9, q10, q11⟩, sc, wh, st, hs, lr, lf, lz, ⟨hp, hS, hW, hT, hH, hG, hR⟩, rL, rH, rG⟩ := id hP
  have loop : ∀ (f k : Nat), k + f = g.1.length → Q (some (zI (fi (fun k => decide (lW g.1 k ≠ -1)) f k))) M → P none mX6_lowestOfWearers 2 [.ref p, zI (k : Int)] []  M Q := by
    intro f
    induction f with
    | zero =>
      intro k hk hq
      refine p_iload_n (i := 2) rfl rfl ?_
      refine p_aload_n (i := 3) rfl rfl ?_
      refine p_getf (i := 4) rfl fX6_31 hp rfl ?_
      refine p_icmp_ge (i := 5) 34 rfl (by decide) (by omega) (by omega) (fun c7 => ?_) (fun c7 => by exfalso; omega)
      refine p_iconst (i := 19) rfl ?_
      refine p_iret (i := 20) rfl rfl (rfl) ?_
      exact hq
    | succ f ih =>
      intro k hk hq
      obtain ⟨e1, e2, e3⟩ := rL k (by omega)
      have e4 := q2 k (by omega)
      unfold fi at hq
      refine p_iload_n (i := 2) rfl rfl ?_
      refine p_aload_n (i := 3) rfl rfl ?_
      refine p_getf (i := 4) rfl fX6_31 hp rfl ?_
      refine p_icmp_ge (i := 5) 34 rfl (by decide) (by omega) (by omega) (fun c7 => by exfalso; omega) (fun c7 => ?_)
      refine p_iload_n (i := 6) rfl rfl ?_
      refine p_bipush (i := 7) rfl (by decide) ?_
      refine p_icmp_ge (i := 8) 34 rfl (by decide) (by omega) (by omega) (fun c13 => by exfalso; omega) (fun c13 => ?_)
      refine p_aload_n (i := 9) rfl rfl ?_
      refine p_getf (i := 10) rfl fX6_15 hp rfl ?_
      refine p_iload_n (i := 11) rfl rfl ?_
      refine p_iaX (i := 12) _ rfl hW rfl (by omega) (by decide) ?_
      refine p_iconst (i := 13) rfl ?_
      refine p_icmp_eq (i := 14) 28 rfl (by decide) (by omega) (by omega) (fun c23 => ?_) (fun c23 => ?_)
      · refine p_iinc (i := 17) rfl rfl rfl ?_
        refine p_goto (i := 18) 2 rfl (by decide) ?_
        rw [if_neg (by rw [decide_eq_true_eq]; omega)] at hq
        exact ih (k + 1) (by omega) hq
      · refine p_iload_n (i := 15) rfl rfl ?_
        refine p_iret (i := 16) rfl rfl (rfl) ?_
        rw [if_pos (by rw [decide_eq_true_eq]; omega)] at hq
        exact hq
  refine C_of okX6_lowestOfWearers (by decide) (Nat.le_of_ble_eq_true rfl) ?_
  show P none mX6_lowestOfWearers 0 [.ref p, .retAddr 0] [] _ _
  refine p_iconst (i := 0) rfl ?_
  refine p_istore_n (i := 1) rfl rfl ?_
  exact loop g.1.length 0 (by omega) h
theorem x_thickest {b : Bool} {M : AM} {p ns nw : Nat} {g : GS} {Q : Option Value → AM → Prop} (hP : PairB b M p ns nw g) (h : Q (some (zI (thk g.1))) M) : C mX6_thickest [.ref p] M Q := by
  obtain ⟨⟨q1, q2, q3, q4, q5, q6, q7, q8, q9, q10, q11⟩, sc, wh, st, hs, lr, lf, lz, ⟨hp, hS, hW, hT, hH, hG, hR⟩, rL, rH, rG⟩ := id hP
  have loop : ∀ (f k : Nat) (s : Int × Int), k + f = g.1.length → 0 ≤ s.1 ∧ s.1 ≤ k ∧ 0 ≤ s.2 ∧ s.2 ≤ k → Q (some (zI (fo (thStep g.1) f k s).1)) M → P none mX6_thickest 6 [.ref p, zI s.1, zI s.2, zI (k : Int)] []  M Q := by
    intro f
    induction f with
    | zero =>
      intro k s hk hs hq
      refine p_iload_n (i := 6) rfl rfl ?_
      refine p_aload_n (i := 7) rfl rfl ?_
      refine p_getf (i := 8) rfl fX6_31 hp rfl ?_
      refine p_icmp_ge (i := 9) 61 rfl (by decide) (by omega) (by omega) (fun c11 => ?_) (fun c11 => by exfalso; omega)
      refine p_iload_n (i := 38) rfl rfl ?_
      refine p_iret (i := 39) rfl rfl (rfl) ?_
      exact hq
    | succ f ih =>
      intro k s hk hs hq
      obtain ⟨e1, e2, e3⟩ := rL k (by omega)
      have e4 := q2 k (by omega)
      have hq : Q (some (zI (fo (thStep g.1) f (k + 1) (thStep g.1 k s)).1)) M := hq
      unfold thStep at hq
      refine p_iload_n (i := 6) rfl rfl ?_
      refine p_aload_n (i := 7) rfl rfl ?_
      refine p_getf (i := 8) rfl fX6_31 hp rfl ?_
      refine p_icmp_ge (i := 9) 61 rfl (by decide) (by omega) (by omega) (fun c11 => by exfalso; omega) (fun c11 => ?_)
      refine p_iload_n (i := 10) rfl rfl ?_
      refine p_bipush (i := 11) rfl (by decide) ?_
      refine p_icmp_ge (i := 12) 61 rfl (by decide) (by omega) (by omega) (fun c17 => by exfalso; omega) (fun c17 => ?_)
      refine p_iload_n (i := 13) rfl rfl ?_
      refine p_if_le (i := 14) 47 rfl (by decide) (by omega) (fun c21 => ?_) (fun c21 => ?_)
      · refine p_iconst (i := 30) rfl ?_
        refine p_istore_n (i := 31) rfl rfl ?_
        refine p_iload_n (i := 32) rfl rfl ?_
        refine p_iload_n (i := 33) rfl rfl ?_
        refine p_max (i := 34) rfl lX6_122 ⟨rfl, rfl⟩ (by omega) (by omega) ?_
        refine p_istore_n (i := 35) rfl rfl ?_
        refine p_iinc (i := 36) rfl rfl rfl ?_
        refine p_goto (i := 37) 6 rfl (by decide) ?_
        rw [if_neg (by omega)] at hq
        exact ih (k + 1) _ (by omega) (by show 0 ≤ max s.1 1 ∧ max s.1 1 ≤ ((k + 1 : Nat) : Int) ∧ (0 : Int) ≤ 1 ∧ (1 : Int) ≤ ((k + 1 : Nat) : Int); omega) hq
      · obtain ⟨d1, d2, d3⟩ := rL (k - 1) (by omega)
        have d4 := q2 (k - 1) (by omega)
        refine p_aload_n (i := 15) rfl rfl ?_
        refine p_getf (i := 16) rfl fX6_9 hp rfl ?_
        refine p_iload_n (i := 17) rfl rfl ?_
        refine p_iaX (i := 18) _ rfl hS rfl (by omega) (by decide) ?_
        refine p_aload_n (i := 19) rfl rfl ?_
        refine p_getf (i := 20) rfl fX6_9 hp rfl ?_
        refine p_iload_n (i := 21) rfl rfl ?_
        refine p_iconst (i := 22) rfl ?_
        refine p_isub (i := 23) rfl ?_
        refine p_iaX (i := 24) (k - 1) rfl hS (by omega) (by omega) (by decide) ?_
        refine p_icmp_ne (i := 25) 47 rfl (by decide) (by omega) (by omega) (fun c38 => ?_) (fun c38 => ?_)
        · refine p_iconst (i := 30) rfl ?_
          refine p_istore_n (i := 31) rfl rfl ?_
          refine p_iload_n (i := 32) rfl rfl ?_
          refine p_iload_n (i := 33) rfl rfl ?_
          refine p_max (i := 34) rfl lX6_122 ⟨rfl, rfl⟩ (by omega) (by omega) ?_
          refine p_istore_n (i := 35) rfl rfl ?_
          refine p_iinc (i := 36) rfl rfl rfl ?_
          refine p_goto (i := 37) 6 rfl (by decide) ?_
          rw [if_neg (by omega)] at hq
          exact ih (k + 1) _ (by omega) (by show 0 ≤ max s.1 1 ∧ max s.1 1 ≤ ((k + 1 : Nat) : Int) ∧ (0 : Int) ≤ 1 ∧ (1 : Int) ≤ ((k + 1 : Nat) : Int); omega) hq
        · refine p_iload_n (i := 26) rfl rfl ?_
          refine p_iconst (i := 27) rfl ?_
          refine p_iadd (i := 28) rfl ?_
          refine p_goto (i := 29) 48 rfl (by decide) ?_
          refine p_istore_n (i := 31) rfl rfl ?_
          refine p_iload_n (i := 32) rfl rfl ?_
          refine p_iload_n (i := 33) rfl rfl ?_
          refine p_max (i := 34) rfl lX6_122 ⟨rfl, rfl⟩ (by omega) (by omega) ?_
          refine p_istore_n (i := 35) rfl rfl ?_
          refine p_iinc (i := 36) rfl rfl rfl ?_
          refine p_goto (i := 37) 6 rfl (by decide) ?_
          rw [if_pos (by omega)] at hq
          exact ih (k + 1) _ (by omega) (by show 0 ≤ max s.1 (s.2 + 1) ∧ max s.1 (s.2 + 1) ≤ ((k + 1 : Nat) : Int) ∧ (0 : Int) ≤ s.2 + 1 ∧ s.2 + 1 ≤ ((k + 1 : Nat) : Int); omega) hq
  refine C_of okX6_thickest (by decide) (Nat.le_of_ble_eq_true rfl) ?_
  show P none mX6_thickest 0 [.ref p, .retAddr 0, .retAddr 0, .retAddr 0] [] _ _
  refine p_iconst (i := 0) rfl ?_
  refine p_istore_n (i := 1) rfl rfl ?_
  refine p_iconst (i := 2) rfl ?_
  refine p_istore_n (i := 3) rfl rfl ?_
  refine p_iconst (i := 4) rfl ?_
  refine p_istore_n (i := 5) rfl rfl ?_
  exact loop g.1.length 0 (0, 0) (by omega) (by decide) h
theorem x_takenFor {b : Bool} {M : AM} {p ns nw lb : Nat} {g : GS} {ln : LN} {x m : Int} {wi : Nat} {Q : Option Value → AM → Prop} (hP : PairB b M p ns nw g) (hL : LineA M lb ln) (hx : 0 ≤ x ∧ x < nS ln) (hm : 0 ≤ m ∧ m ≤ 99) (hw : wi < 2147483648) (h : Q (some (zI (tk ln g.1 x m wi))) M) : C mX6_takenFor [.ref p, .ref lb, zI x, zI m, zI (wi : Int)] M Q := by
  obtain ⟨⟨q1, q2, q3, q4, q5, q6, q7, q8, q9, q10, q11⟩, sc, wh, st, hs, lr, lf, lz, ⟨hp, hS, hW, hT, hH, hG, hR⟩, rL, rH, rG⟩ := id hP
  obtain ⟨⟨o1, o2, o3, o4, o5, o6, o7⟩, kf, bf, lc, lkf, ⟨hb, hk, hr, hc, ⟨gg, hg, hgi⟩, hrow⟩, hkb, hlk⟩ := id hL
  have hsb := sb_rng g.1 wi
  obtain ⟨n1, n2, n3, n4⟩ := o5 x.toNat (by omega)
  unfold tk veil at h
  refine C_of okX6_takenFor (by decide) (Nat.le_of_ble_eq_true rfl) ?_
  show P none mX6_takenFor 0 [.ref p, .ref lb, zI x, zI m, zI (wi : Int), .retAddr 0] [] _ _
  refine p_aload_n (i := 0) rfl rfl ?_
  refine p_iload (i := 1) rfl rfl ?_
  refine p_cV1 (i := 2) rfl ⟨lX6_116, rfl, rfl⟩ hp ⟨_, rfl, rfl⟩ rfl (x_strongestBut hP hw ?_)
  refine p_istore (i := 3) rfl rfl ?_
  refine p_aload_n (i := 4) rfl rfl ?_
  refine p_iload (i := 5) rfl rfl ?_
  refine p_cV1 (i := 6) rfl ⟨lX6_90, rfl, rfl⟩ hp ⟨_, rfl, rfl⟩ rfl (x_hasLayer hP (by omega) (fun q => ?_) (fun q => ?_))
  · refine p_if_eq (i := 7) 43 rfl (by decide) (by omega) (fun c14 => by exfalso; omega) (fun c14 => ?_)
    obtain ⟨e1, e2, e3⟩ := rL (sb g.1 wi).toNat (by omega)
    have e4 := q2 (sb g.1 wi).toNat (by omega)
    refine p_aload_n (i := 8) rfl rfl ?_
    refine p_getf (i := 9) rfl fX6_18 hp rfl ?_
    refine p_iload (i := 10) rfl rfl ?_
    refine p_iaX (i := 11) ((sb g.1 wi).toNat) rfl hT (by omega) (by omega) (by decide) ?_
    refine p_aload_n (i := 12) rfl rfl ?_
    refine p_iload_n (i := 13) rfl rfl ?_
    refine p_iload_n (i := 14) rfl rfl ?_
    refine p_cV2 (i := 15) rfl ⟨lX6_119, rfl, rfl⟩ hb ⟨_, rfl, rfl⟩ rfl (x_veil hL hx hm ?_)
    refine p_icmp_le (i := 16) 43 rfl (by decide) (by omega) (by omega) (fun c30 => ?_) (fun c30 => ?_)
    · refine p_iload_n (i := 22) rfl rfl ?_
      refine p_iret (i := 23) rfl rfl (rfl) ?_
      rw [if_neg (by omega)] at h
      exact h
    · refine p_aload_n (i := 17) rfl rfl ?_
      refine p_getf (i := 18) rfl fX6_9 hp rfl ?_
      refine p_iload (i := 19) rfl rfl ?_
      refine p_iaX (i := 20) ((sb g.1 wi).toNat) rfl hS (by omega) (by omega) (by decide) ?_
      refine p_goto (i := 21) 44 rfl (by decide) ?_
      refine p_iret (i := 23) rfl rfl (rfl) ?_
      rw [if_pos (by omega)] at h
      rw [e1]
      exact h
  · refine p_if_eq (i := 7) 43 rfl (by decide) (by omega) (fun c14 => ?_) (fun c14 => by exfalso; omega)
    refine p_iload_n (i := 22) rfl rfl ?_
    refine p_iret (i := 23) rfl rfl (rfl) ?_
    rw [if_neg (by omega)] at h
    exact h
theorem x_fading {b : Bool} {M : AM} {p ns nw : Nat} {g : GS} {k t : Int} {Q : Option Value → AM → Prop} (hP : PairB b M p ns nw g) (hk : 0 ≤ k ∧ k ≤ 3) (ht : 0 ≤ t ∧ t ≤ 1000) (h : Q (some (zI (fdg k t g.2.2.1))) M) : C mX6_fading [.ref p, zI k, zI t] M Q := by
  obtain ⟨⟨q1, q2, q3, q4, q5, q6, q7, q8, q9, q10, q11⟩, sc, wh, st, hs, lr, lf, lz, ⟨hp, hS, hW, hT, hH, hG, hR⟩, rL, rH, rG⟩ := id hP
  have hc : k = 0 ∨ k = 1 ∨ k = 2 ∨ k = 3 := by omega
  refine C_of okX6_fading (by decide) (Nat.le_of_ble_eq_true rfl) ?_
  show P none mX6_fading 0 [.ref p, zI k, zI t] [] _ _
  refine p_iload_n (i := 0) rfl rfl ?_
  rcases hc with rfl | rfl | rfl | rfl
  · refine p_tsIn (i := 1) 32 rfl (by omega) (by omega) (by rfl) (by decide) ?_
    refine p_iconst (i := 2) rfl ?_
    refine p_iret (i := 3) rfl rfl (rfl) ?_
    exact h
  ·
    refine p_tsIn (i := 1) 34 rfl (by omega) (by omega) (by rfl) (by decide) ?_
    refine p_iload_n (i := 4) rfl rfl ?_
    refine p_bipush (i := 5) rfl (by decide) ?_
    refine p_idiv (i := 6) rfl (by omega) (by omega) ?_
    refine p_iconst (i := 7) rfl ?_
    refine p_iadd (i := 8) rfl ?_
    refine p_iret (i := 9) rfl rfl (rfl) ?_
    exact h
  ·
    refine p_tsIn (i := 1) 57 rfl (by omega) (by omega) (by rfl) (by decide) ?_
    refine p_iconst (i := 20) rfl ?_
    refine p_iret (i := 21) rfl rfl (rfl) ?_
    exact h
  ·
    refine p_tsIn (i := 1) 41 rfl (by omega) (by omega) (by rfl) (by decide) ?_
    refine p_aload_n (i := 10) rfl rfl ?_
    refine p_getf (i := 11) rfl fX6_38 hp rfl ?_
    refine p_iconst (i := 12) rfl ?_
    refine p_irem (i := 13) rfl (by omega) (by omega) ?_
    refine p_iconst (i := 14) rfl ?_
    refine p_icmp_ne (i := 15) 55 rfl (by decide) (by omega) (by omega) (fun c48 => ?_) (fun c48 => ?_)
    · refine p_iconst (i := 18) rfl ?_
      refine p_iret (i := 19) rfl rfl (rfl) ?_
      have e : fdg 3 t g.2.2.1 = 0 := by unfold fdg; rw [if_neg (by decide), if_neg (by decide), if_pos rfl, if_neg (by omega)]
      rw [e] at h
      exact h
    · refine p_iconst (i := 16) rfl ?_
      refine p_goto (i := 17) 56 rfl (by decide) ?_
      refine p_iret (i := 19) rfl rfl (rfl) ?_
      have e : fdg 3 t g.2.2.1 = 3 := by unfold fdg; rw [if_neg (by decide), if_neg (by decide), if_pos rfl, if_pos (by omega)]
      rw [e] at h
      exact h
