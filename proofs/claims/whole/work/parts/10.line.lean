-- Line of the class: reads
theorem x_hasScene {M : AM} {b : Nat} {ln : LN} {x : Int} {Q : Option Value → AM → Prop} (hL : LineA M b ln) (hx : -2147483648 ≤ x ∧ x ≤ 2147483647) (h1 : 0 ≤ x ∧ x < nS ln → Q (some (zI 1)) M) (h0 : ¬ (0 ≤ x ∧ x < nS ln) → Q (some (zI 0)) M) : C mX3_hasScene [.ref b, zI x] M Q := by
  obtain ⟨⟨o1, o2, o3, o4, o5, o6, o7⟩, kf, bf, lc, lkf, ⟨hb, hk, hr, hc, ⟨gg, hg, hgi⟩, hrow⟩, hkb, hlk⟩ := hL
  refine C_of okX3_hasScene (by decide) (Nat.le_of_ble_eq_true rfl) ?_
  show P none mX3_hasScene 0 [.ref b, zI x] [] _ _
  refine p_iload_n (i := 0) rfl rfl ?_
  refine p_if_lt (i := 1) 22 rfl (by decide) (by omega) (fun c1 => ?_) (fun c1 => ?_)
  · refine p_iconst (i := 11) rfl ?_
    refine p_iret (i := 12) rfl rfl (by decide) ?_
    exact h0 (by omega)
  · refine p_iload_n (i := 2) rfl rfl ?_
    refine p_aload_n (i := 3) rfl rfl ?_
    refine p_getf (i := 4) rfl fX3_30 hb rfl ?_
    refine p_icmp_ge (i := 5) 22 rfl (by decide) (by omega) (by omega) (fun c9 => ?_) (fun c9 => ?_)
    · refine p_iconst (i := 11) rfl ?_
      refine p_iret (i := 12) rfl rfl (by decide) ?_
      exact h0 (by omega)
    · refine p_iload_n (i := 6) rfl rfl ?_
      refine p_bipush (i := 7) rfl (by decide) ?_
      refine p_icmp_ge (i := 8) 22 rfl (by decide) (by omega) (by omega) (fun c15 => by exfalso; omega) (fun c15 => ?_)
      refine p_iconst (i := 9) rfl ?_
      refine p_goto (i := 10) 23 rfl (by decide) ?_
      refine p_iret (i := 12) rfl rfl (by decide) ?_
      exact h1 (by omega)
theorem x_hasWearer {M : AM} {b : Nat} {ln : LN} {x : Int} {Q : Option Value → AM → Prop} (hL : LineA M b ln) (hx : -2147483648 ≤ x ∧ x ≤ 2147483647) (h1 : 0 ≤ x ∧ x < nW ln → Q (some (zI 1)) M) (h0 : ¬ (0 ≤ x ∧ x < nW ln) → Q (some (zI 0)) M) : C mX3_hasWearer [.ref b, zI x] M Q := by
  obtain ⟨⟨o1, o2, o3, o4, o5, o6, o7⟩, kf, bf, lc, lkf, ⟨hb, hk, hr, hc, ⟨gg, hg, hgi⟩, hrow⟩, hkb, hlk⟩ := hL
  refine C_of okX3_hasWearer (by decide) (Nat.le_of_ble_eq_true rfl) ?_
  show P none mX3_hasWearer 0 [.ref b, zI x] [] _ _
  refine p_iload_n (i := 0) rfl rfl ?_
  refine p_if_lt (i := 1) 22 rfl (by decide) (by omega) (fun c1 => ?_) (fun c1 => ?_)
  · refine p_iconst (i := 11) rfl ?_
    refine p_iret (i := 12) rfl rfl (by decide) ?_
    exact h0 (by omega)
  · refine p_iload_n (i := 2) rfl rfl ?_
    refine p_aload_n (i := 3) rfl rfl ?_
    refine p_getf (i := 4) rfl fX3_33 hb rfl ?_
    refine p_icmp_ge (i := 5) 22 rfl (by decide) (by omega) (by omega) (fun c9 => ?_) (fun c9 => ?_)
    · refine p_iconst (i := 11) rfl ?_
      refine p_iret (i := 12) rfl rfl (by decide) ?_
      exact h0 (by omega)
    · refine p_iload_n (i := 6) rfl rfl ?_
      refine p_bipush (i := 7) rfl (by decide) ?_
      refine p_icmp_ge (i := 8) 22 rfl (by decide) (by omega) (by omega) (fun c15 => by exfalso; omega) (fun c15 => ?_)
      refine p_iconst (i := 9) rfl ?_
      refine p_goto (i := 10) 23 rfl (by decide) ?_
      refine p_iret (i := 12) rfl rfl (by decide) ?_
      exact h1 (by omega)
theorem x_kindOf {M : AM} {b : Nat} {ln : LN} {x : Int} {Q : Option Value → AM → Prop} (hL : LineA M b ln) (hx : 0 ≤ x ∧ x < nS ln) (h : Q (some (zI (kd ln x.toNat))) M) : C mX3_kindOf [.ref b, zI x] M Q := by
  obtain ⟨⟨o1, o2, o3, o4, o5, o6, o7⟩, kf, bf, lc, lkf, ⟨hb, hk, hr, hc, ⟨gg, hg, hgi⟩, hrow⟩, hkb, hlk⟩ := id hL
  refine C_of okX3_kindOf (by decide) (Nat.le_of_ble_eq_true rfl) ?_
  show P none mX3_kindOf 0 [.ref b, zI x] [] _ _
  refine p_aload_n (i := 0) rfl rfl ?_
  refine p_iload_n (i := 1) rfl rfl ?_
  refine p_cV1 (i := 2) rfl ⟨lX3_40, rfl, rfl⟩ hb ⟨_, rfl, rfl⟩ rfl (x_hasScene hL (by omega) (fun q => ?_) (fun q => ?_))
  · refine p_if_eq (i := 3) 17 rfl (by decide) (by omega) (fun c5 => by exfalso; omega) (fun c5 => ?_)
    refine p_aload_n (i := 4) rfl rfl ?_
    refine p_getf (i := 5) rfl fX3_9 hb rfl ?_
    refine p_iload_n (i := 6) rfl rfl ?_
    refine p_iaX (i := 7) (x.toNat) rfl hk (by omega) (by omega) (by decide) ?_
    refine p_goto (i := 8) 18 rfl (by decide) ?_
    refine p_iret (i := 10) rfl rfl (rfl) ?_
    rw [(hkb x.toNat (by omega)).1]
    exact h
  · exact absurd hx q
theorem x_brightOf {M : AM} {b : Nat} {ln : LN} {x : Int} {Q : Option Value → AM → Prop} (hL : LineA M b ln) (hx : 0 ≤ x ∧ x < nS ln) (h : Q (some (zI (br ln x.toNat))) M) : C mX3_brightOf [.ref b, zI x] M Q := by
  obtain ⟨⟨o1, o2, o3, o4, o5, o6, o7⟩, kf, bf, lc, lkf, ⟨hb, hk, hr, hc, ⟨gg, hg, hgi⟩, hrow⟩, hkb, hlk⟩ := id hL
  refine C_of okX3_brightOf (by decide) (Nat.le_of_ble_eq_true rfl) ?_
  show P none mX3_brightOf 0 [.ref b, zI x] [] _ _
  refine p_aload_n (i := 0) rfl rfl ?_
  refine p_iload_n (i := 1) rfl rfl ?_
  refine p_cV1 (i := 2) rfl ⟨lX3_40, rfl, rfl⟩ hb ⟨_, rfl, rfl⟩ rfl (x_hasScene hL (by omega) (fun q => ?_) (fun q => ?_))
  · refine p_if_eq (i := 3) 17 rfl (by decide) (by omega) (fun c5 => by exfalso; omega) (fun c5 => ?_)
    refine p_aload_n (i := 4) rfl rfl ?_
    refine p_getf (i := 5) rfl fX3_15 hb rfl ?_
    refine p_iload_n (i := 6) rfl rfl ?_
    refine p_iaX (i := 7) (x.toNat) rfl hr (by omega) (by omega) (by decide) ?_
    refine p_goto (i := 8) 18 rfl (by decide) ?_
    refine p_iret (i := 10) rfl rfl (rfl) ?_
    rw [(hkb x.toNat (by omega)).2]
    exact h
  · exact absurd hx q
theorem x_looksOf {M : AM} {b : Nat} {ln : LN} {x : Int} {Q : Option Value → AM → Prop} (hL : LineA M b ln) (hx : 0 ≤ x ∧ x < nW ln) (h : Q (some (zI (lkN ln x.toNat : Nat))) M) : C mX3_looksOf [.ref b, zI x] M Q := by
  obtain ⟨⟨o1, o2, o3, o4, o5, o6, o7⟩, kf, bf, lc, lkf, ⟨hb, hk, hr, hc, ⟨gg, hg, hgi⟩, hrow⟩, hkb, hlk⟩ := id hL
  refine C_of okX3_looksOf (by decide) (Nat.le_of_ble_eq_true rfl) ?_
  show P none mX3_looksOf 0 [.ref b, zI x] [] _ _
  refine p_aload_n (i := 0) rfl rfl ?_
  refine p_iload_n (i := 1) rfl rfl ?_
  refine p_cV1 (i := 2) rfl ⟨lX3_36, rfl, rfl⟩ hb ⟨_, rfl, rfl⟩ rfl (x_hasWearer hL (by omega) (fun q => ?_) (fun q => ?_))
  · refine p_if_eq (i := 3) 17 rfl (by decide) (by omega) (fun c5 => by exfalso; omega) (fun c5 => ?_)
    refine p_aload_n (i := 4) rfl rfl ?_
    refine p_getf (i := 5) rfl fX3_18 hb rfl ?_
    refine p_iload_n (i := 6) rfl rfl ?_
    refine p_iaX (i := 7) (x.toNat) rfl hc (by omega) (by omega) (by decide) ?_
    refine p_goto (i := 8) 18 rfl (by decide) ?_
    refine p_iret (i := 10) rfl rfl (rfl) ?_
    rw [(hlk x.toNat (by omega)).1]
    exact h
  · exact absurd hx q
theorem x_sceneInYear {M : AM} {b : Nat} {ln : LN} {w y : Int} {Q : Option Value → AM → Prop} (hL : LineA M b ln) (hw : 0 ≤ w ∧ w < nW ln) (hy : 0 ≤ y ∧ y ≤ 2147483647) (h : Q (some (zI (lk ln w.toNat (y.toNat % lkN ln w.toNat)))) M) : C mX3_sceneInYear [.ref b, zI w, zI y] M Q := by
  obtain ⟨⟨o1, o2, o3, o4, o5, o6, o7⟩, kf, bf, lc, lkf, ⟨hb, hk, hr, hc, ⟨gg, hg, hgi⟩, hrow⟩, hkb, hlk⟩ := id hL
  obtain ⟨n1, n2, n3⟩ := o6 w.toNat (by omega)
  refine C_of okX3_sceneInYear (by decide) (Nat.le_of_ble_eq_true rfl) ?_
  show P none mX3_sceneInYear 0 [.ref b, zI w, zI y, .retAddr 0] [] _ _
  refine p_aload_n (i := 0) rfl rfl ?_
  refine p_iload_n (i := 1) rfl rfl ?_
  refine p_cV1 (i := 2) rfl ⟨lX3_43, rfl, rfl⟩ hb ⟨_, rfl, rfl⟩ rfl (x_looksOf hL hw ?_)
  refine p_istore_n (i := 3) rfl rfl ?_
  refine p_iload_n (i := 4) rfl rfl ?_
  refine p_iconst (i := 5) rfl ?_
  refine p_icmp_lt (i := 6) 21 rfl (by decide) (by omega) (by omega) (fun c8 => by exfalso; omega) (fun c8 => ?_)
  refine p_iload_n (i := 7) rfl rfl ?_
  refine p_bipush (i := 8) rfl (by decide) ?_
  refine p_icmp_gt (i := 9) 21 rfl (by decide) (by omega) (by omega) (fun c14 => by exfalso; omega) (fun c14 => ?_)
  refine p_iload_n (i := 10) rfl rfl ?_
  refine p_if_ge (i := 11) 23 rfl (by decide) (by omega) (fun c18 => ?_) (fun c18 => by exfalso; omega)
  refine p_aload_n (i := 14) rfl rfl ?_
  refine p_getf (i := 15) rfl fX3_23 hb rfl ?_
  refine p_iload_n (i := 16) rfl rfl ?_
  refine p_aaX (i := 17) (w.toNat) rfl hg (by omega) (by omega) (by omega) (by decide) (hgi _ (by omega)) ?_
  have hrw := hrow w.toNat (by omega)
  have e1 : y % (lkN ln w.toNat : Int) = ((y.toNat % lkN ln w.toNat : Nat) : Int) := by
    rw [Int.natCast_emod]
    congr 1
    omega
  have e2 : y.toNat % lkN ln w.toNat < lkN ln w.toNat := Nat.mod_lt _ (by omega)
  refine p_iload_n (i := 18) rfl rfl ?_
  refine p_iload_n (i := 19) rfl rfl ?_
  refine p_irem (i := 20) rfl (by omega) (by omega) ?_
  refine p_iaX (i := 21) (y.toNat % lkN ln w.toNat) rfl hrw (by omega) (by omega) (by decide) ?_
  refine p_iret (i := 22) rfl rfl (rfl) ?_
  rw [(hlk w.toNat (by omega)).2 _ e2]
  exact h
theorem x_veil {M : AM} {b : Nat} {ln : LN} {x m : Int} {Q : Option Value → AM → Prop} (hL : LineA M b ln) (hx : 0 ≤ x ∧ x < nS ln) (hm : 0 ≤ m ∧ m ≤ 99) (h : Q (some (zI ((ln.1 + m + br ln x.toNat) / 2))) M) : C mX3_veil [.ref b, zI x, zI m] M Q := by
  obtain ⟨⟨o1, o2, o3, o4, o5, o6, o7⟩, kf, bf, lc, lkf, ⟨hb, hk, hr, hc, ⟨gg, hg, hgi⟩, hrow⟩, hkb, hlk⟩ := id hL
  obtain ⟨n1, n2, n3, n4⟩ := o5 x.toNat (by omega)
  refine C_of okX3_veil (by decide) (Nat.le_of_ble_eq_true rfl) ?_
  show P none mX3_veil 0 [.ref b, zI x, zI m] [] _ _
  refine p_aload_n (i := 0) rfl rfl ?_
  refine p_getf (i := 1) rfl fX3_26 hb rfl ?_
  refine p_iload_n (i := 2) rfl rfl ?_
  refine p_iadd (i := 3) rfl ?_
  refine p_aload_n (i := 4) rfl rfl ?_
  refine p_iload_n (i := 5) rfl rfl ?_
  refine p_cV1 (i := 6) rfl ⟨lX3_47, rfl, rfl⟩ hb ⟨_, rfl, rfl⟩ rfl (x_brightOf hL hx ?_)
  refine p_iadd (i := 7) rfl ?_
  refine p_iconst (i := 8) rfl ?_
  refine p_idiv (i := 9) rfl (by omega) (by omega) ?_
  refine p_iret (i := 10) rfl rfl (rfl) ?_
  exact h
theorem x_gain {M : AM} {b : Nat} {ln : LN} {x : Int} {Q : Option Value → AM → Prop} (hL : LineA M b ln) (hx : 0 ≤ x ∧ x < nS ln) (h : Q (some (zI (br ln x.toNat / 10 + 1))) M) : C mX3_gain [.ref b, zI x] M Q := by
  obtain ⟨⟨o1, o2, o3, o4, o5, o6, o7⟩, kf, bf, lc, lkf, ⟨hb, hk, hr, hc, ⟨gg, hg, hgi⟩, hrow⟩, hkb, hlk⟩ := id hL
  obtain ⟨n1, n2, n3, n4⟩ := o5 x.toNat (by omega)
  refine C_of okX3_gain (by decide) (Nat.le_of_ble_eq_true rfl) ?_
  show P none mX3_gain 0 [.ref b, zI x] [] _ _
  refine p_aload_n (i := 0) rfl rfl ?_
  refine p_iload_n (i := 1) rfl rfl ?_
  refine p_cV1 (i := 2) rfl ⟨lX3_47, rfl, rfl⟩ hb ⟨_, rfl, rfl⟩ rfl (x_brightOf hL hx ?_)
  refine p_bipush (i := 3) rfl (by decide) ?_
  refine p_idiv (i := 4) rfl (by omega) (by omega) ?_
  refine p_iconst (i := 5) rfl ?_
  refine p_iadd (i := 6) rfl ?_
  refine p_iret (i := 7) rfl rfl (rfl) ?_
  exact h
