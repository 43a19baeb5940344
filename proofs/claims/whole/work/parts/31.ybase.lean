-- the reference: small methods
theorem y_in {M : AM} {v a c : Int} {Q : Option Value → AM → Prop} (hv : -2147483648 ≤ v ∧ v ≤ 2147483647) (ha : -2147483648 ≤ a ∧ a ≤ 2147483647) (hc : -2147483648 ≤ c ∧ c ≤ 2147483647) (h1 : a ≤ v ∧ v ≤ c → Q (some (zI 1)) M) (h0 : ¬ (a ≤ v ∧ v ≤ c) → Q (some (zI 0)) M) : C mX10_in [zJ v, zJ a, zJ c] M Q := by
  have e1 : (cmpZ v a < 0 ↔ v < a) ∧ -1 ≤ cmpZ v a ∧ cmpZ v a ≤ 1 := by unfold cmpZ; split <;> (try split) <;> omega
  have e2 : (0 < cmpZ v c ↔ c < v) ∧ -1 ≤ cmpZ v c ∧ cmpZ v c ≤ 1 := by unfold cmpZ; split <;> (try split) <;> omega
  refine C_of okX10_in (by decide) (Nat.le_of_ble_eq_true rfl) ?_
  show P none mX10_in 0 [zJ v, .retAddr 0, zJ a, .retAddr 0, zJ c, .retAddr 0] [] _ _
  refine p_lload_n (i := 0) rfl rfl ?_
  refine p_lload_n (i := 1) rfl rfl ?_
  refine p_lcmp (i := 2) rfl (by omega) (by omega) ?_
  refine p_if_lt (i := 3) 17 rfl (by decide) (by omega) (fun c3 => ?_) (fun c3 => ?_)
  · refine p_iconst (i := 10) rfl ?_
    refine p_iret (i := 11) rfl rfl (by decide) ?_
    exact h0 (by omega)
  · refine p_lload_n (i := 4) rfl rfl ?_
    refine p_lload (i := 5) rfl rfl ?_
    refine p_lcmp (i := 6) rfl (by omega) (by omega) ?_
    refine p_if_gt (i := 7) 17 rfl (by decide) (by omega) (fun c10 => ?_) (fun c10 => ?_)
    · refine p_iconst (i := 10) rfl ?_
      refine p_iret (i := 11) rfl rfl (by decide) ?_
      exact h0 (by omega)
    · refine p_iconst (i := 8) rfl ?_
      refine p_goto (i := 9) 18 rfl (by decide) ?_
      refine p_iret (i := 11) rfl rfl (by decide) ?_
      exact h1 (by omega)
theorem y_has {M : AM} {set i : Nat} {Q : Option Value → AM → Prop} (hs : set < 2147483648) (hi : i < 32) (h : Q (some (zI ((set / 2 ^ i % 2 : Nat) : Int))) M) : C mX10_has [zI (set : Int), zI (i : Int)] M Q := by
  have e : set / 2 ^ i % 2 = 0 ∨ set / 2 ^ i % 2 = 1 := by omega
  refine C_of okX10_has (by decide) (Nat.le_of_ble_eq_true rfl) ?_
  show P none mX10_has 0 [zI (set : Int), zI (i : Int)] [] _ _
  refine p_iload_n (i := 0) rfl rfl ?_
  refine p_iload_n (i := 1) rfl rfl ?_
  refine p_ishrN (i := 2) rfl (by omega) (by omega) ?_
  refine p_iconst (i := 3) rfl ?_
  refine p_iand1 (i := 4) rfl ?_
  refine p_iconst (i := 5) rfl ?_
  refine p_icmp_ne (i := 6) 13 rfl (by decide) (by omega) (by omega) (fun c6 => ?_) (fun c6 => ?_)
  · refine p_iconst (i := 9) rfl ?_
    refine p_iret (i := 10) rfl rfl (by decide) ?_
    rw [show set / 2 ^ i % 2 = 0 by omega] at h
    exact h
  · refine p_iconst (i := 7) rfl ?_
    refine p_goto (i := 8) 14 rfl (by decide) ?_
    refine p_iret (i := 10) rfl rfl (by decide) ?_
    rw [show set / 2 ^ i % 2 = 1 by omega] at h
    exact h
theorem bits_dec : ∀ n : Fin 1024, n.val ≠ 0 → (n.val &&& (n.val - 1)) < n.val ∧ popc (n.val &&& (n.val - 1)) + 1 = popc n.val := by decide +kernel
theorem y_bits {M : AM} {n : Nat} {Q : Option Value → AM → Prop} (hn : n < 1024) (h : Q (some (zI (popc n : Nat))) M) : C mX10_bits [zI (n : Int)] M Q := by
  have hp0 : popc 0 = 0 := by decide
  have loop : ∀ (f : Nat) (m c : Nat), m ≤ f → m < 1024 → c + popc m = popc n → P none mX10_bits 4 [zI (n : Int), zI (c : Int), zI (m : Int)] []  M Q := by
    intro f
    induction f with
    | zero =>
      intro m c hf hm hc
      obtain rfl : m = 0 := by omega
      refine p_iload_n (i := 4) rfl rfl ?_
      refine p_if_eq (i := 5) 20 rfl (by decide) (by omega) (fun c5 => ?_) (fun c5 => by exfalso; omega)
      refine p_iload_n (i := 14) rfl rfl ?_
      refine p_iret (i := 15) rfl rfl (rfl) ?_
      rw [show c = popc n by omega]
      exact h
    | succ f ih =>
      intro m c hf hm hc
      have hpl := popc_le n
      refine p_iload_n (i := 4) rfl rfl ?_
      refine p_if_eq (i := 5) 20 rfl (by decide) (by omega) (fun c5 => ?_) (fun c5 => ?_)
      · refine p_iload_n (i := 14) rfl rfl ?_
        refine p_iret (i := 15) rfl rfl (rfl) ?_
        obtain rfl : m = 0 := by omega
        rw [show c = popc n by omega]
        exact h
      ·
        refine p_iinc (i := 6) rfl rfl rfl ?_
        refine p_iload_n (i := 7) rfl rfl ?_
        refine p_iload_n (i := 8) rfl rfl ?_
        refine p_iconst (i := 9) rfl ?_
        refine p_isub (i := 10) rfl ?_
        obtain ⟨b1, b2⟩ := bits_dec ⟨m, hm⟩ (by show m ≠ 0; omega)
        dsimp only at b1 b2
        refine p_top (b := ((m - 1 : Nat) : Int)) (by omega) ?_
        refine p_iandN (i := 11) rfl ?_
        refine p_istore_n (i := 12) rfl rfl ?_
        refine p_goto (i := 13) 4 rfl (by decide) ?_
        exact ih (m &&& (m - 1)) (c + 1) (by omega) (by omega) (by omega)
  refine C_of okX10_bits (by decide) (Nat.le_of_ble_eq_true rfl) ?_
  show P none mX10_bits 0 [zI (n : Int), .retAddr 0, .retAddr 0] [] _ _
  refine p_iconst (i := 0) rfl ?_
  refine p_istore_n (i := 1) rfl rfl ?_
  refine p_iload_n (i := 2) rfl rfl ?_
  refine p_istore_n (i := 3) rfl rfl ?_
  exact loop n n 0 (Nat.le_refl _) hn (by omega)
theorem y_lesser {M : AM} {a c : Int} {Q : Option Value → AM → Prop} (ha : -2147483648 ≤ a ∧ a ≤ 2147483647) (hc : -2147483648 ≤ c ∧ c ≤ 2147483647) (h : Q (some (zI (min a c))) M) : C mX10_lesser [zI a, zI c] M Q := by
  refine C_of okX10_lesser (by decide) (Nat.le_of_ble_eq_true rfl) ?_
  show P none mX10_lesser 0 [zI a, zI c] [] _ _
  refine p_iload_n (i := 0) rfl rfl ?_
  refine p_iload_n (i := 1) rfl rfl ?_
  refine p_icmp_ge (i := 2) 9 rfl (by decide) (by omega) (by omega) (fun c2 => ?_) (fun c2 => ?_)
  · refine p_iload_n (i := 5) rfl rfl ?_
    refine p_iret (i := 6) rfl rfl (rfl) ?_
    rw [show min a c = c by omega] at h
    exact h
  · refine p_iload_n (i := 3) rfl rfl ?_
    refine p_goto (i := 4) 10 rfl (by decide) ?_
    refine p_iret (i := 6) rfl rfl (rfl) ?_
    rw [show min a c = a by omega] at h
    exact h
theorem y_greater {M : AM} {a c : Int} {Q : Option Value → AM → Prop} (ha : -2147483648 ≤ a ∧ a ≤ 2147483647) (hc : -2147483648 ≤ c ∧ c ≤ 2147483647) (h : Q (some (zI (max a c))) M) : C mX10_greater [zI a, zI c] M Q := by
  refine C_of okX10_greater (by decide) (Nat.le_of_ble_eq_true rfl) ?_
  show P none mX10_greater 0 [zI a, zI c] [] _ _
  refine p_iload_n (i := 0) rfl rfl ?_
  refine p_iload_n (i := 1) rfl rfl ?_
  refine p_icmp_le (i := 2) 9 rfl (by decide) (by omega) (by omega) (fun c2 => ?_) (fun c2 => ?_)
  · refine p_iload_n (i := 5) rfl rfl ?_
    refine p_iret (i := 6) rfl rfl (rfl) ?_
    rw [show max a c = c by omega] at h
    exact h
  · refine p_iload_n (i := 3) rfl rfl ?_
    refine p_goto (i := 4) 10 rfl (by decide) ?_
    refine p_iret (i := 6) rfl rfl (rfl) ?_
    rw [show max a c = a by omega] at h
    exact h
theorem y_copies {M : AM} {o1 o2 n1 n2 i j m : Nat} {f g : Nat → Int} {Q : Option Value → AM → Prop} (k1 : M o1 = some (zA n1 f)) (k2 : M o2 = some (zA n2 g)) (hd : o1 ≠ o2) (hi : i + m ≤ n1) (hj : j + m ≤ n2) (hn : n1 < 100000 ∧ n2 < 100000) (h : ∀ M' g', M' o2 = some (zA n2 g') → (∀ q, g' q = if j ≤ q ∧ q < j + m then f (i + (q - j)) else g q) → FrI o2 1 M M' → Q none M') : C mX10_copies [.ref o1, zI (i : Int), .ref o2, zI (j : Int), zI (m : Int)] M Q := by
  have loop : ∀ (c k : Nat) (M1 : AM) (g1 : Nat → Int), k + c = m → M1 o1 = some (zA n1 f) → M1 o2 = some (zA n2 g1) → FrI o2 1 M M1 → (∀ q, g1 q = if j ≤ q ∧ q < j + k then f (i + (q - j)) else g q) → P none mX10_copies 3 [.ref o1, zI (i : Int), .ref o2, zI (j : Int), zI (m : Int), zI (k : Int)] []  M1 Q := by
    intro c
    induction c with
    | zero =>
      intro k M g1 hk k1 k2 fr hg
      refine p_iload (i := 2) rfl rfl ?_
      refine p_iload (i := 3) rfl rfl ?_
      refine p_icmp_ge (i := 4) 28 rfl (by decide) (by omega) (by omega) (fun c7 => ?_) (fun c7 => by exfalso; omega)
      refine p_ret (i := 17) rfl rfl ?_
      rw [show k = m by omega] at hg
      exact h M g1 k2 hg fr
    | succ c ih =>
      intro k M g1 hk k1 k2 fr hg
      refine p_iload (i := 2) rfl rfl ?_
      refine p_iload (i := 3) rfl rfl ?_
      refine p_icmp_ge (i := 4) 28 rfl (by decide) (by omega) (by omega) (fun c7 => by exfalso; omega) (fun c7 => ?_)
      have hn1 : n1 < 2147483648 := by omega
      have hn2 : n2 < 2147483648 := by omega
      refine p_aload_n (i := 5) rfl rfl ?_
      refine p_iload_n (i := 6) rfl rfl ?_
      refine p_iload (i := 7) rfl rfl ?_
      refine p_iadd (i := 8) rfl ?_
      refine p_aload_n (i := 9) rfl rfl ?_
      refine p_iload_n (i := 10) rfl rfl ?_
      refine p_iload (i := 11) rfl rfl ?_
      refine p_iadd (i := 12) rfl ?_
      refine p_iaX (i := 13) (i + k) rfl k1 (by omega) (by omega) hn1 ?_
      refine p_isX (i := 14) (j + k) rfl k2 (by omega) (by omega) hn2 (P_gen fun M e => ?_)
      have k1 := aupN e k1 (by omega)
      have fr := fr.up e (by omega)
      have k2 := aupE e
      refine p_iinc (i := 15) rfl rfl rfl ?_
      refine p_goto (i := 16) 3 rfl (by decide) ?_
      refine ih (k + 1) M _ (by omega) k1 k2 fr (fun q => ?_)
      by_cases c1 : q = j + k
      · rw [c1, zup_e, if_pos (by omega), show j + k - j = k by omega]
      · rw [zup_n c1, hg]
        by_cases c2 : j ≤ q ∧ q < j + k
        · rw [if_pos c2, if_pos (by omega)]
        · rw [if_neg c2, if_neg (by omega)]
  refine C_of okX10_copies (by decide) (Nat.le_of_ble_eq_true rfl) ?_
  show P none mX10_copies 0 [.ref o1, zI (i : Int), .ref o2, zI (j : Int), zI (m : Int), .retAddr 0] [] _ _
  refine p_iconst (i := 0) rfl ?_
  refine p_istore (i := 1) rfl rfl ?_
  exact loop m 0 M g (by omega) k1 k2 FrI.rf (fun q => by rw [if_neg (by omega)])
theorem y_half {M : AM} {ln : LN} {x c : Int} {Q : Option Value → AM → Prop} (hL : YL M ln) (hx : 0 ≤ x ∧ x < nS ln) (hc : 0 ≤ c ∧ c ≤ 1000) (h : Q (some (zI ((c + br ln x.toNat) / 2))) M) : C mX10_half [.ref 276, zI x, zI c] M Q := by
  obtain ⟨⟨uy, sy, zy, fy, my, by_, ay, gy, ny, hy_, vy, ry, kY⟩, ⟨o1, o2, o3, o4, o5, o6, o7⟩, lf, kL, l0, l1, l2, l3, l4⟩ := id hL
  obtain ⟨n1, n2, n3, n4⟩ := o5 x.toNat (by omega)
  obtain ⟨m1, m2⟩ := l3 x.toNat (by omega)
  refine C_of okX10_half (by decide) (Nat.le_of_ble_eq_true rfl) ?_
  show P none mX10_half 0 [.ref 276, zI x, zI c] [] _ _
  refine p_iload_n (i := 0) rfl rfl ?_
  refine p_aload_n (i := 1) rfl rfl ?_
  refine p_getf (i := 2) rfl fX10_7 kY rfl ?_
  refine p_bipush (i := 3) rfl (by decide) ?_
  refine p_iload_n (i := 4) rfl rfl ?_
  refine p_iadd (i := 5) rfl ?_
  refine p_iaX (i := 6) (11 + x.toNat) rfl kL (by omega) (by omega) (by decide) ?_
  refine p_iadd (i := 7) rfl ?_
  refine p_iconst (i := 8) rfl ?_
  refine p_idiv (i := 9) rfl (by omega) (by omega) ?_
  refine p_iret (i := 10) rfl rfl (rfl) ?_
  rw [m2]
  exact h
theorem y_takesBy {M : AM} {t : Nat} {ln : LN} {g : GS} {x c m : Int} {wi : Nat} {Q : Option Value → AM → Prop} (hL : YL M ln) (hA : YA M t (nS ln) (nW ln) g) (hx : 0 ≤ x ∧ x < nS ln) (hm : 0 ≤ m ∧ m ≤ 99) (hc : c = ln.1 + m) (hw : wi < 2147483648) (h : Q (some (zI (tk ln g.1 x m wi))) M) : C mX10_takesBy [.ref 276, .ref t, zI x, zI (wi : Int), zI c] M Q := by
  obtain ⟨⟨uy, sy, zy, fy, my, by_, ay, gy, ny, hy_, vy, ry, kY⟩, ⟨o1, o2, o3, o4, o5, o6, o7⟩, lf, kL, l0, l1, l2, l3, l4⟩ := id hL
  obtain ⟨⟨q1, q2, q3, q4, q5, q6, q7, q8, q9, q10, q11⟩, f, kT, ⟨t0, t1⟩, ⟨u1, u2, u3, u4, u5⟩⟩ := id hA
  have ev : veil ln x m = (c + br ln x.toNat) / 2 := by unfold veil; rw [hc]
  obtain ⟨n1, n2, n3, n4⟩ := o5 x.toNat (by omega)
  have loop : ∀ (f1 k : Nat) (b : Int) (v : Value), k + f1 = g.1.length → -1 ≤ b ∧ b < k → Q (some (zI (if fo (tbStep g.1 wi (veil ln x m)) f1 k b = -1 then x else lS g.1 (fo (tbStep g.1 wi (veil ln x m)) f1 k b).toNat))) M → P none mX10_takesBy 6 [.ref 276, .ref t, zI x, zI (wi : Int), zI c, zI b, zI (k : Int), v] []  M Q := by
    intro f1
    induction f1 with
    | zero =>
      intro k b v hk hb hq
      have hq : Q (some (zI (if b = -1 then x else lS g.1 b.toNat))) M := hq
      refine p_iload (i := 4) rfl rfl ?_
      refine p_aload_n (i := 5) rfl rfl ?_
      refine p_iconst (i := 6) rfl ?_
      refine p_iaX (i := 7) (0) rfl kT (by omega) (by omega) (by decide) ?_
      refine p_icmp_ge (i := 8) 90 rfl (by decide) (by omega) (by omega) (fun c11 => ?_) (fun c11 => by exfalso; omega)
      refine p_iload (i := 49) rfl rfl ?_
      refine p_iconst (i := 50) rfl ?_
      refine p_icmp_ne (i := 51) 100 rfl (by decide) (by omega) (by omega) (fun c93 => ?_) (fun c93 => ?_)
      · rw [if_neg c93] at hq
        obtain ⟨e1, e2, e3⟩ := t1 b.toNat (by omega)
        refine p_aload_n (i := 54) rfl rfl ?_
        refine p_iconst (i := 55) rfl ?_
        refine p_iload (i := 56) rfl rfl ?_
        refine p_iadd (i := 57) rfl ?_
        refine p_iaX (i := 58) (1 + b.toNat) rfl kT (by omega) (by omega) (by decide) ?_
        refine p_iret (i := 59) rfl rfl (rfl) ?_
        rw [e1]
        exact hq
      · rw [if_pos c93] at hq
        refine p_iload_n (i := 52) rfl rfl ?_
        refine p_goto (i := 53) 106 rfl (by decide) ?_
        refine p_iret (i := 59) rfl rfl (rfl) ?_
        exact hq
    | succ f1 ih =>
      intro k b v hk hb hq
      obtain ⟨e1, e2, e3⟩ := t1 k (by omega)
      have e4 := q2 k (by omega)
      have hq : Q (some (zI (if fo (tbStep g.1 wi (veil ln x m)) f1 (k + 1) (tbStep g.1 wi (veil ln x m) k b) = -1 then x else lS g.1 (fo (tbStep g.1 wi (veil ln x m)) f1 (k + 1) (tbStep g.1 wi (veil ln x m) k b)).toNat))) M := hq
      have e5 : wi / 2 ^ k % 2 < 2 := Nat.mod_lt _ (by decide)
      refine p_iload (i := 4) rfl rfl ?_
      refine p_aload_n (i := 5) rfl rfl ?_
      refine p_iconst (i := 6) rfl ?_
      refine p_iaX (i := 7) (0) rfl kT (by omega) (by omega) (by decide) ?_
      refine p_icmp_ge (i := 8) 90 rfl (by decide) (by omega) (by omega) (fun c11 => by exfalso; omega) (fun c11 => ?_)
      refine p_iload_n (i := 9) rfl rfl ?_
      refine p_iload (i := 10) rfl rfl ?_
      refine p_cS2 (i := 11) rfl ⟨lX10_125, rfl, rfl⟩ rfl (y_has hw (by omega) ?_)
      refine p_if_ne (i := 12) 44 rfl (by decide) (by omega) (fun c20 => ?_) (fun c20 => ?_)
      · have es : tbStep g.1 wi (veil ln x m) k b = b := by unfold tbStep; rw [if_neg (by omega)]
        rw [es] at hq
        refine p_iconst (i := 25) rfl ?_
        refine p_istore (i := 26) rfl rfl ?_
        refine p_iload (i := 27) rfl rfl ?_
        refine p_if_eq (i := 28) 80 rfl (by decide) (by omega) (fun c49 => ?_) (fun c49 => by exfalso; omega)
        refine p_iload (i := 45) rfl rfl ?_
        refine p_istore (i := 46) rfl rfl ?_
        refine p_iinc (i := 47) rfl rfl rfl ?_
        refine p_goto (i := 48) 6 rfl (by decide) ?_
        exact ih (k + 1) b _ (by omega) (by omega) hq
      · refine p_aload_n (i := 13) rfl rfl ?_
        refine p_bipush (i := 14) rfl (by decide) ?_
        refine p_iload (i := 15) rfl rfl ?_
        refine p_iadd (i := 16) rfl ?_
        refine p_iaX (i := 17) ((21 + k)) rfl kT (by omega) (by omega) (by decide) ?_
        refine p_aload_n (i := 18) rfl rfl ?_
        refine p_iload_n (i := 19) rfl rfl ?_
        refine p_iload (i := 20) rfl rfl ?_
        refine p_cV2 (i := 21) rfl ⟨lX10_129, rfl, rfl⟩ kY ⟨_, rfl, rfl⟩ rfl (y_half hL hx (by omega) ?_)
        rw [← ev]
        refine p_icmp_le (i := 22) 44 rfl (by decide) (by omega) (by omega) (fun c37 => ?_) (fun c37 => ?_)
        · have es : tbStep g.1 wi (veil ln x m) k b = b := by unfold tbStep; rw [if_neg (by omega)]
          rw [es] at hq
          refine p_iconst (i := 25) rfl ?_
          refine p_istore (i := 26) rfl rfl ?_
          refine p_iload (i := 27) rfl rfl ?_
          refine p_if_eq (i := 28) 80 rfl (by decide) (by omega) (fun c49 => ?_) (fun c49 => by exfalso; omega)
          refine p_iload (i := 45) rfl rfl ?_
          refine p_istore (i := 46) rfl rfl ?_
          refine p_iinc (i := 47) rfl rfl rfl ?_
          refine p_goto (i := 48) 6 rfl (by decide) ?_
          exact ih (k + 1) b _ (by omega) (by omega) hq
        · refine p_iconst (i := 23) rfl ?_
          refine p_goto (i := 24) 45 rfl (by decide) ?_
          refine p_istore (i := 26) rfl rfl ?_
          refine p_iload (i := 27) rfl rfl ?_
          refine p_if_eq (i := 28) 80 rfl (by decide) (by omega) (fun c49 => by exfalso; omega) (fun c49 => ?_)
          refine p_iload (i := 29) rfl rfl ?_
          refine p_iconst (i := 30) rfl ?_
          refine p_icmp_eq (i := 31) 75 rfl (by decide) (by omega) (by omega) (fun c55 => ?_) (fun c55 => ?_)
          · have es : tbStep g.1 wi (veil ln x m) k b = k := by unfold tbStep; rw [if_pos (by omega)]
            rw [es] at hq
            refine p_iload (i := 43) rfl rfl ?_
            refine p_goto (i := 44) 82 rfl (by decide) ?_
            refine p_istore (i := 46) rfl rfl ?_
            refine p_iinc (i := 47) rfl rfl rfl ?_
            refine p_goto (i := 48) 6 rfl (by decide) ?_
            exact ih (k + 1) _ _ (by omega) (by omega) hq
          · obtain ⟨d1, d2, d3⟩ := t1 b.toNat (by omega)
            have d4 := q2 b.toNat (by omega)
            refine p_aload_n (i := 32) rfl rfl ?_
            refine p_bipush (i := 33) rfl (by decide) ?_
            refine p_iload (i := 34) rfl rfl ?_
            refine p_iadd (i := 35) rfl ?_
            refine p_iaX (i := 36) ((21 + k)) rfl kT (by omega) (by omega) (by decide) ?_
            refine p_aload_n (i := 37) rfl rfl ?_
            refine p_bipush (i := 38) rfl (by decide) ?_
            refine p_iload (i := 39) rfl rfl ?_
            refine p_iadd (i := 40) rfl ?_
            refine p_iaX (i := 41) (21 + b.toNat) rfl kT (by omega) (by omega) (by decide) ?_
            refine p_icmp_lt (i := 42) 80 rfl (by decide) (by omega) (by omega) (fun c72 => ?_) (fun c72 => ?_)
            · have es : tbStep g.1 wi (veil ln x m) k b = b := by unfold tbStep; rw [if_neg (by omega)]
              rw [es] at hq
              refine p_iload (i := 45) rfl rfl ?_
              refine p_istore (i := 46) rfl rfl ?_
              refine p_iinc (i := 47) rfl rfl rfl ?_
              refine p_goto (i := 48) 6 rfl (by decide) ?_
              exact ih (k + 1) _ _ (by omega) (by omega) hq
            · have es : tbStep g.1 wi (veil ln x m) k b = k := by unfold tbStep; rw [if_pos (by omega)]
              rw [es] at hq
              refine p_iload (i := 43) rfl rfl ?_
              refine p_goto (i := 44) 82 rfl (by decide) ?_
              refine p_istore (i := 46) rfl rfl ?_
              refine p_iinc (i := 47) rfl rfl rfl ?_
              refine p_goto (i := 48) 6 rfl (by decide) ?_
              exact ih (k + 1) _ _ (by omega) (by omega) hq
  rw [← tb_tk (fun k hk => by have := q2 k hk; omega)] at h
  refine C_of okX10_takesBy (by decide) (Nat.le_of_ble_eq_true rfl) ?_
  show P none mX10_takesBy 0 [.ref 276, .ref t, zI x, zI (wi : Int), zI c, .retAddr 0, .retAddr 0, .retAddr 0] [] _ _
  refine p_iconst (i := 0) rfl ?_
  refine p_istore (i := 1) rfl rfl ?_
  refine p_iconst (i := 2) rfl ?_
  refine p_istore (i := 3) rfl rfl ?_
  exact loop g.1.length 0 (-1) _ (by omega) (by omega) h
