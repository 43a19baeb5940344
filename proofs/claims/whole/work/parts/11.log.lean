-- Log of the class
theorem zup_e {g : Nat → Int} {k : Nat} {v : Int} : zup g k v k = v := if_pos rfl
theorem zup_n {g : Nat → Int} {k j : Nat} {v : Int} (h : j ≠ k) : zup g k v j = g j := if_neg h
theorem x_logAdd {M : AM} {l : Nat} {b : Bool} {lg : List (Int × Int × Int × Int)} {y w x t : Int} {Q : Option Value → AM → Prop} (h : LogB M l b lg) (k : ∀ M', LogB M' l b (logAdd lg (y, w, x, t)) → FrI l 2 M M' → Q none M') : C mX4_add [.ref l, zI y, zI w, zI x, zI t] M Q := by
  obtain ⟨lr, lf, lz, hG, hR, r1, r2, r3, r4, r5⟩ := h
  obtain ⟨r, hr⟩ : ∃ r : Nat, (r : Int) = (lf + lz) % 20 := ⟨((lf + lz) % 20).toNat, by omega⟩
  have tail : ∀ (M1 : AM) (f2 z2 : Int), M1 l = some (zO 4 [.ref (l + 1), zI f2, zI z2]) → M1 (l + 1) = some (zA 80 lr) → FrI l 2 M M1 → z2 = (if lz = 20 then 20 else lz + 1) → f2 = (if lz = 20 then (lf + 1) % 20 else lf) → P none mX4_add 49 [.ref l, zI y, zI w, zI x, zI t, zI ((lf + lz) % 20), .retAddr 0] []  M1 Q := by
    intro M f2 z2 hG hR fr hz hf
    refine p_iload (i := 27) rfl rfl ?_
    refine p_iconst (i := 28) rfl ?_
    refine p_imul (i := 29) rfl ?_
    refine p_istore (i := 30) rfl rfl ?_
    refine p_aload_n (i := 31) rfl rfl ?_
    refine p_getf (i := 32) rfl fX4_9 hG rfl ?_
    refine p_iload (i := 33) rfl rfl ?_
    refine p_iload_n (i := 34) rfl rfl ?_
    refine p_isX (i := 35) (4 * r) rfl hR (by omega) (by omega) (by decide) (P_gen fun M e => ?_)
    have hG := aupN e hG (by omega)
    have fr := fr.up e (by omega)
    have hR := aupE e
    refine p_aload_n (i := 36) rfl rfl ?_
    refine p_getf (i := 37) rfl fX4_9 hG rfl ?_
    refine p_iload (i := 38) rfl rfl ?_
    refine p_iconst (i := 39) rfl ?_
    refine p_iadd (i := 40) rfl ?_
    refine p_iload_n (i := 41) rfl rfl ?_
    refine p_isX (i := 42) (4 * r + 1) rfl hR (by omega) (by omega) (by decide) (P_gen fun M e => ?_)
    have hG := aupN e hG (by omega)
    have fr := fr.up e (by omega)
    have hR := aupE e
    refine p_aload_n (i := 43) rfl rfl ?_
    refine p_getf (i := 44) rfl fX4_9 hG rfl ?_
    refine p_iload (i := 45) rfl rfl ?_
    refine p_iconst (i := 46) rfl ?_
    refine p_iadd (i := 47) rfl ?_
    refine p_iload_n (i := 48) rfl rfl ?_
    refine p_isX (i := 49) (4 * r + 2) rfl hR (by omega) (by omega) (by decide) (P_gen fun M e => ?_)
    have hG := aupN e hG (by omega)
    have fr := fr.up e (by omega)
    have hR := aupE e
    refine p_aload_n (i := 50) rfl rfl ?_
    refine p_getf (i := 51) rfl fX4_9 hG rfl ?_
    refine p_iload (i := 52) rfl rfl ?_
    refine p_iconst (i := 53) rfl ?_
    refine p_iadd (i := 54) rfl ?_
    refine p_iload (i := 55) rfl rfl ?_
    refine p_isX (i := 56) (4 * r + 3) rfl hR (by omega) (by omega) (by decide) (P_gen fun M e => ?_)
    have hG := aupN e hG (by omega)
    have fr := fr.up e (by omega)
    have hR := aupE e
    refine p_ret (i := 57) rfl rfl ?_
    refine k M ⟨_, f2, z2, hG, hR, by rw [hf]; split <;> omega, by rw [hf]; split <;> omega, by rw [hz]; split <;> omega, by rw [hz]; split <;> omega, fun hb => ?_⟩ fr
    refine (r5 hb).add hz hf r hr ?_ ?_ ?_ ?_ ?_
    · rw [zup_n (by omega), zup_n (by omega), zup_n (by omega), zup_e]
    · rw [zup_n (by omega), zup_n (by omega), zup_e]
    · rw [zup_n (by omega), zup_e]
    · rw [zup_e]
    · intro j hj
      rw [zup_n (by omega), zup_n (by omega), zup_n (by omega), zup_n (by omega)]
  have fr : FrI l 2 M M := FrI.rf
  refine C_of okX4_add (by decide) (Nat.le_of_ble_eq_true rfl) ?_
  show P none mX4_add 0 [.ref l, zI y, zI w, zI x, zI t, .retAddr 0, .retAddr 0] [] _ _
  refine p_aload_n (i := 0) rfl rfl ?_
  refine p_getf (i := 1) rfl fX4_15 hG rfl ?_
  refine p_aload_n (i := 2) rfl rfl ?_
  refine p_getf (i := 3) rfl fX4_19 hG rfl ?_
  refine p_iadd (i := 4) rfl ?_
  refine p_bipush (i := 5) rfl (by decide) ?_
  refine p_irem (i := 6) rfl (by omega) (by omega) ?_
  refine p_istore (i := 7) rfl rfl ?_
  refine p_aload_n (i := 8) rfl rfl ?_
  refine p_getf (i := 9) rfl fX4_19 hG rfl ?_
  refine p_bipush (i := 10) rfl (by decide) ?_
  refine p_icmp_ge (i := 11) 36 rfl (by decide) (by omega) (by omega) (fun c20 => ?_) (fun c20 => ?_)
  ·
    refine p_aload_n (i := 19) rfl rfl ?_
    refine p_aload_n (i := 20) rfl rfl ?_
    refine p_getf (i := 21) rfl fX4_15 hG rfl ?_
    refine p_iconst (i := 22) rfl ?_
    refine p_iadd (i := 23) rfl ?_
    refine p_bipush (i := 24) rfl (by decide) ?_
    refine p_irem (i := 25) rfl (by omega) (by omega) ?_
    refine p_puti (i := 26) rfl gX4_15 hG rfl (P_gen fun M e => ?_)
    have hR := aupN e hR (by omega)
    have fr := fr.up e (by omega)
    have hG := aupE e
    exact tail _ _ _ hG hR fr (by rw [if_pos (by omega)]; omega) (by rw [if_pos (by omega)])
  ·
    refine p_aload_n (i := 12) rfl rfl ?_
    refine p_dup (i := 13) rfl rfl ?_
    refine p_getf (i := 14) rfl fX4_19 hG rfl ?_
    refine p_iconst (i := 15) rfl ?_
    refine p_iadd (i := 16) rfl ?_
    refine p_puti (i := 17) rfl gX4_19 hG rfl (P_gen fun M e => ?_)
    have hR := aupN e hR (by omega)
    have fr := fr.up e (by omega)
    have hG := aupE e
    refine p_goto (i := 18) 49 rfl (by decide) ?_
    exact tail _ _ _ hG hR fr (by rw [if_neg (by omega)]) (by rw [if_neg (by omega)])
theorem x_logAt {M : AM} {l : Nat} {lg : List (Int × Int × Int × Int)} {i : Int} {c : Nat} {Q : Option Value → AM → Prop} (h : LogB M l true lg) (hi : -2147483648 ≤ i ∧ i ≤ 2147483647) (hc : c < 4) (k : Q (some (zI (logAt lg i c))) M) : C mX4_at [.ref l, zI i, zI (c : Int)] M Q := by
  obtain ⟨lr, lf, lz, hG, hR, r1, r2, r3, r4, r5⟩ := h
  obtain ⟨a1, a2, a3, a4, a5⟩ := r5 rfl
  refine C_of okX4_at (by decide) (Nat.le_of_ble_eq_true rfl) ?_
  show P none mX4_at 0 [.ref l, zI i, zI (c : Int)] [] _ _
  refine p_iload_n (i := 0) rfl rfl ?_
  refine p_if_lt (i := 1) 21 rfl (by decide) (by omega) (fun c1 => ?_) (fun c1 => ?_)
  · refine p_iconst (i := 11) rfl ?_
    refine p_iret (i := 12) rfl rfl (rfl) ?_
    unfold logAt at k
    rw [if_neg (by omega)] at k
    exact k
  · refine p_iload_n (i := 2) rfl rfl ?_
    refine p_aload_n (i := 3) rfl rfl ?_
    refine p_getf (i := 4) rfl fX4_19 hG rfl ?_
    refine p_icmp_ge (i := 5) 21 rfl (by decide) (by omega) (by omega) (fun c9 => ?_) (fun c9 => ?_)
    · refine p_iconst (i := 11) rfl ?_
      refine p_iret (i := 12) rfl rfl (rfl) ?_
      unfold logAt at k
      rw [if_neg (by omega)] at k
      exact k
    · refine p_iload_n (i := 6) rfl rfl ?_
      refine p_if_lt (i := 7) 21 rfl (by decide) (by omega) (fun c13 => by exfalso; omega) (fun c13 => ?_)
      refine p_iload_n (i := 8) rfl rfl ?_
      refine p_iconst (i := 9) rfl ?_
      refine p_icmp_lt (i := 10) 23 rfl (by decide) (by omega) (by omega) (fun c18 => ?_) (fun c18 => by exfalso; omega)
      obtain ⟨r, hr⟩ : ∃ r : Nat, (r : Int) = (lf + lz - 1 - i) % 20 := ⟨((lf + lz - 1 - i) % 20).toNat, by omega⟩
      refine p_aload_n (i := 13) rfl rfl ?_
      refine p_getf (i := 14) rfl fX4_9 hG rfl ?_
      refine p_aload_n (i := 15) rfl rfl ?_
      refine p_getf (i := 16) rfl fX4_15 hG rfl ?_
      refine p_aload_n (i := 17) rfl rfl ?_
      refine p_getf (i := 18) rfl fX4_19 hG rfl ?_
      refine p_iadd (i := 19) rfl ?_
      refine p_iconst (i := 20) rfl ?_
      refine p_isub (i := 21) rfl ?_
      refine p_iload_n (i := 22) rfl rfl ?_
      refine p_isub (i := 23) rfl ?_
      refine p_bipush (i := 24) rfl (by decide) ?_
      refine p_irem (i := 25) rfl (by omega) (by omega) ?_
      refine p_iconst (i := 26) rfl ?_
      refine p_imul (i := 27) rfl ?_
      refine p_iload_n (i := 28) rfl rfl ?_
      refine p_iadd (i := 29) rfl ?_
      refine p_iaX (i := 30) (4 * r + c) rfl hR (by omega) (by omega) (by decide) ?_
      refine p_iret (i := 31) rfl rfl (rfl) ?_
      unfold logAt at k
      rw [if_pos (by omega)] at k
      obtain ⟨g1, g2, g3, g4⟩ := a5 (lg.length - 1 - i.toNat) (by omega) r (by rw [hr]; congr 1; omega)
      match c, hc, k with
      | 0, _, k => rw [Nat.add_zero, g1]; exact k
      | 1, _, k => rw [g2]; exact k
      | 2, _, k => rw [g3]; exact k
      | 3, _, k => rw [g4]; exact k
theorem x_logCopy {M : AM} {l o : Nat} {lg : List (Int × Int × Int × Int)} {lr0 : Nat → Int} {lf0 lz0 : Int} {Q : Option Value → AM → Prop} (h : LogB M o true lg) (h0 : M l = some (zO 4 [.ref (l + 1), zI lf0, zI lz0])) (h1 : M (l + 1) = some (zA 80 lr0)) (hd : l + 2 ≤ o ∨ o + 2 ≤ l) (k : ∀ M', LogB M' l true lg → FrI l 2 M M' → Q none M') : C mX4_copyAll [.ref l, .ref o] M Q := by
  obtain ⟨lr, lf, lz, hG, hR, r1, r2, r3, r4, r5⟩ := h
  have fr : FrI l 2 M M := FrI.rf
  refine C_of okX4_copyAll (by decide) (Nat.le_of_ble_eq_true rfl) ?_
  show P none mX4_copyAll 0 [.ref l, .ref o] [] _ _
  refine p_aload_n (i := 0) rfl rfl ?_
  refine p_aload_n (i := 1) rfl rfl ?_
  refine p_getf (i := 2) rfl fX4_15 hG rfl ?_
  refine p_puti (i := 3) rfl gX4_15 h0 rfl (P_gen fun M e => ?_)
  have h1 := aupN e h1 (by omega)
  have hG := aupN e hG (by omega)
  have hR := aupN e hR (by omega)
  have fr := fr.up e (by omega)
  have h0 := aupE e
  refine p_aload_n (i := 4) rfl rfl ?_
  refine p_aload_n (i := 5) rfl rfl ?_
  refine p_getf (i := 6) rfl fX4_19 hG rfl ?_
  refine p_puti (i := 7) rfl gX4_19 h0 rfl (P_gen fun M e => ?_)
  have h1 := aupN e h1 (by omega)
  have hG := aupN e hG (by omega)
  have hR := aupN e hR (by omega)
  have fr := fr.up e (by omega)
  have h0 := aupE e
  refine p_aload_n (i := 8) rfl rfl ?_
  refine p_getf (i := 9) rfl fX4_9 hG rfl ?_
  refine p_iconst (i := 10) rfl ?_
  refine p_aload_n (i := 11) rfl rfl ?_
  refine p_getf (i := 12) rfl fX4_9 h0 rfl ?_
  refine p_iconst (i := 13) rfl ?_
  refine p_bipush (i := 14) rfl (by decide) ?_
  refine p_copy (i := 15) rfl lX4_22 w_copy hR h1 (by omega) (by decide) (by decide) (P_gen fun M e => ?_)
  have h0 := aupN e h0 (by omega)
  have hG := aupN e hG (by omega)
  have hR := aupN e hR (by omega)
  have fr := fr.up e (by omega)
  have h1 := aupE e
  refine p_ret (i := 16) rfl rfl ?_
  refine k M ⟨_, lf, lz, h0, h1, r1, r2, r3, r4, fun hb => ?_⟩ fr
  obtain ⟨a1, a2, a3, a4, a5⟩ := r5 hb
  refine ⟨a1, a2, a3, a4, fun i hi r hr => ?_⟩
  obtain ⟨g1, g2, g3, g4⟩ := a5 i hi r hr
  have e : ∀ j, j < 80 → va_cpy lr lr0 (0 : Int).toNat (0 : Int).toNat (80 : Int).toNat j = lr j := fun j hj => by
    show (if 0 ≤ j ∧ j < 0 + 80 then lr (0 + (j - 0)) else lr0 j) = lr j
    rw [if_pos (by omega)]
    congr 1
    omega
  rw [e _ (by omega), e _ (by omega), e _ (by omega), e _ (by omega)]
  exact ⟨g1, g2, g3, g4⟩
theorem x_logForget {M : AM} {l : Nat} {b : Bool} {lr0 : Nat → Int} {lf0 lz0 : Int} {Q : Option Value → AM → Prop} (h0 : M l = some (zO 4 [.ref (l + 1), zI lf0, zI lz0])) (h1 : M (l + 1) = some (zA 80 lr0)) (k : ∀ M', LogB M' l b [] → FrI l 2 M M' → Q none M') : C mX4_forget [.ref l] M Q := by
  have fr : FrI l 2 M M := FrI.rf
  refine C_of okX4_forget (by decide) (Nat.le_of_ble_eq_true rfl) ?_
  show P none mX4_forget 0 [.ref l] [] _ _
  refine p_aload_n (i := 0) rfl rfl ?_
  refine p_iconst (i := 1) rfl ?_
  refine p_puti (i := 2) rfl gX4_15 h0 rfl (P_gen fun M e => ?_)
  have h1 := aupN e h1 (by omega)
  have fr := fr.up e (by omega)
  have h0 := aupE e
  refine p_aload_n (i := 3) rfl rfl ?_
  refine p_iconst (i := 4) rfl ?_
  refine p_puti (i := 5) rfl gX4_19 h0 rfl (P_gen fun M e => ?_)
  have h1 := aupN e h1 (by omega)
  have fr := fr.up e (by omega)
  have h0 := aupE e
  refine p_ret (i := 6) rfl rfl ?_
  exact k M ⟨_, 0, 0, h0, h1, by omega, by omega, by omega, by omega, fun hb => ⟨rfl, by omega, by omega, by decide, fun i hi => absurd hi (Nat.not_lt_zero i)⟩⟩ fr
