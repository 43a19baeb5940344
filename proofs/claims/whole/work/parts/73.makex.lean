-- the constructors of the parts
theorem c_X4 {M : AM} {b : Nat} {Q : Nat → AM → Prop} (kO : M b = some (zO 4 [.null, zI 0, zI 0])) (h : ∀ M', M' b = some (zO 4 [.ref (b + 1), zI 0, zI 0]) → M' (b + 1) = some (zA 80 (fun _ => 0)) → FrI b 2 M M' → Q (b + 2) M') : C1 mX4_init b (b + 1) M 1 80 Q := by
  have fr : FrI b 2 M M := FrI.rf
  refine C1_of okX4_init (by decide) rfl rfl rfl (okX4_init.dec (i := 12) rfl) (by omega) ?_
  show P1 mX4_init 0 [.ref b] [] (b + 1) M 1 80 _
  refine q_aload_n (i := 0) rfl rfl ?_
  refine q_obj (i := 1) rfl olX4_init w_oi rfl rfl ?_
  refine q_aload_n (i := 2) rfl rfl ?_
  refine q_bipush (i := 3) rfl (by decide) ?_
  refine q_newi (i := 4) 80 rfl (by decide) w_ci (by omega) (by omega) (P1_gen fun M e => ?_)
  have kO := aupN e kO (by omega)
  have fr := fr.up e (by omega)
  have kp0 := aupE e
  refine q_putF (i := 5) rfl ffX4_init_9 kO (fun _ => rfl) (fun _ => rfl) rfl (P1_gen fun M e => ?_)
  have kp0 := aupN e kp0 (by omega)
  have fr := fr.up e (by omega)
  have kO := aupE e
  refine q_aload_n (i := 6) rfl rfl ?_
  refine q_iconst (i := 7) rfl ?_
  refine q_puti (i := 8) rfl gX4_15 kO rfl (P1_gen fun M e => ?_)
  have kp0 := aupN e kp0 (by omega)
  have fr := fr.up e (by omega)
  have kO := aupE e
  refine q_aload_n (i := 9) rfl rfl ?_
  refine q_iconst (i := 10) rfl ?_
  refine q_puti (i := 11) rfl gX4_19 kO rfl (P1_gen fun M e => ?_)
  have kp0 := aupN e kp0 (by omega)
  have fr := fr.up e (by omega)
  have kO := aupE e
  exact q_end ⟨rfl, h M kO kp0 fr⟩
theorem c_X6 {M : AM} {b : Nat} {Q : Nat → AM → Prop} (kO : M b = some (zO 6 [.null, .null, .null, .null, .null, zI 0, zI 0, zI 0])) (h : ∀ M', PairB true M' b 0 0 g0 → FrI b 7 M M' → Q (b + 7) M') : C1 mX6_init b (b + 1) M 6 119 Q := by
  have fr : FrI b 7 M M := FrI.rf
  refine C1_of okX6_init (by decide) rfl rfl rfl (okX6_init.dec (i := 32) rfl) (by omega) ?_
  show P1 mX6_init 0 [.ref b] [] (b + 1) M 6 119 _
  refine q_aload_n (i := 0) rfl rfl ?_
  refine q_obj (i := 1) rfl olX6_init w_oi rfl rfl ?_
  refine q_aload_n (i := 2) rfl rfl ?_
  refine q_bipush (i := 3) rfl (by decide) ?_
  refine q_newi (i := 4) 10 rfl (by decide) w_ci (by omega) (by omega) (P1_gen fun M e => ?_)
  have kO := aupN e kO (by omega)
  have fr := fr.up e (by omega)
  have kp0 := aupE e
  refine q_putF (i := 5) rfl ffX6_init_9 kO (fun _ => rfl) (fun _ => rfl) rfl (P1_gen fun M e => ?_)
  have kp0 := aupN e kp0 (by omega)
  have fr := fr.up e (by omega)
  have kO := aupE e
  refine q_aload_n (i := 6) rfl rfl ?_
  refine q_bipush (i := 7) rfl (by decide) ?_
  refine q_newi (i := 8) 10 rfl (by decide) w_ci (by omega) (by omega) (P1_gen fun M e => ?_)
  have kO := aupN e kO (by omega)
  have kp0 := aupN e kp0 (by omega)
  have fr := fr.up e (by omega)
  have kp1 := aupE e
  refine q_putF (i := 9) rfl ffX6_init_15 kO (fun _ => rfl) (fun _ => rfl) rfl (P1_gen fun M e => ?_)
  have kp0 := aupN e kp0 (by omega)
  have kp1 := aupN e kp1 (by omega)
  have fr := fr.up e (by omega)
  have kO := aupE e
  refine q_aload_n (i := 10) rfl rfl ?_
  refine q_bipush (i := 11) rfl (by decide) ?_
  refine q_newi (i := 12) 10 rfl (by decide) w_ci (by omega) (by omega) (P1_gen fun M e => ?_)
  have kO := aupN e kO (by omega)
  have kp0 := aupN e kp0 (by omega)
  have kp1 := aupN e kp1 (by omega)
  have fr := fr.up e (by omega)
  have kp2 := aupE e
  refine q_putF (i := 13) rfl ffX6_init_18 kO (fun _ => rfl) (fun _ => rfl) rfl (P1_gen fun M e => ?_)
  have kp0 := aupN e kp0 (by omega)
  have kp1 := aupN e kp1 (by omega)
  have kp2 := aupN e kp2 (by omega)
  have fr := fr.up e (by omega)
  have kO := aupE e
  refine q_aload_n (i := 14) rfl rfl ?_
  refine q_bipush (i := 15) rfl (by decide) ?_
  refine q_newi (i := 16) 6 rfl (by decide) w_ci (by omega) (by omega) (P1_gen fun M e => ?_)
  have kO := aupN e kO (by omega)
  have kp0 := aupN e kp0 (by omega)
  have kp1 := aupN e kp1 (by omega)
  have kp2 := aupN e kp2 (by omega)
  have fr := fr.up e (by omega)
  have kp3 := aupE e
  refine q_putF (i := 17) rfl ffX6_init_21 kO (fun _ => rfl) (fun _ => rfl) rfl (P1_gen fun M e => ?_)
  have kp0 := aupN e kp0 (by omega)
  have kp1 := aupN e kp1 (by omega)
  have kp2 := aupN e kp2 (by omega)
  have kp3 := aupN e kp3 (by omega)
  have fr := fr.up e (by omega)
  have kO := aupE e
  refine q_aload_n (i := 18) rfl rfl ?_
  refine q_new (i := 19) rfl nkX6_init_24 (by omega) (by omega) (P1_gen fun M e => ?_)
  have kO := aupN e kO (by omega)
  have kp0 := aupN e kp0 (by omega)
  have kp1 := aupN e kp1 (by omega)
  have kp2 := aupN e kp2 (by omega)
  have kp3 := aupN e kp3 (by omega)
  have fr := fr.up e (by omega)
  have kp4 := aupE e
  refine q_dup (i := 20) rfl rfl ?_
  refine q_init (i := 21) rfl ioX6_init_26 rfl (by omega) (by omega) (c_X4 kp4 (fun M2 k5 k6 fr2 => ?_))
  have kO := fr2.at kO (by omega)
  have kp0 := fr2.at kp0 (by omega)
  have kp1 := fr2.at kp1 (by omega)
  have kp2 := fr2.at kp2 (by omega)
  have kp3 := fr2.at kp3 (by omega)
  have fr := fr.tr (fr2.weak (p' := b) (n' := 7) (by omega))
  refine q_putF (i := 22) rfl ffX6_init_27 kO (fun _ => rfl) (fun _ => rfl) rfl (P1_gen fun M e => ?_)
  have kp0 := aupN e kp0 (by omega)
  have kp1 := aupN e kp1 (by omega)
  have kp2 := aupN e kp2 (by omega)
  have kp3 := aupN e kp3 (by omega)
  have k5 := aupN e k5 (by omega)
  have k6 := aupN e k6 (by omega)
  have fr := fr.up e (by omega)
  have kO := aupE e
  refine q_aload_n (i := 23) rfl rfl ?_
  refine q_iconst (i := 24) rfl ?_
  refine q_puti (i := 25) rfl gX6_31 kO rfl (P1_gen fun M e => ?_)
  have kp0 := aupN e kp0 (by omega)
  have kp1 := aupN e kp1 (by omega)
  have kp2 := aupN e kp2 (by omega)
  have kp3 := aupN e kp3 (by omega)
  have k5 := aupN e k5 (by omega)
  have k6 := aupN e k6 (by omega)
  have fr := fr.up e (by omega)
  have kO := aupE e
  refine q_aload_n (i := 26) rfl rfl ?_
  refine q_iconst (i := 27) rfl ?_
  refine q_puti (i := 28) rfl gX6_35 kO rfl (P1_gen fun M e => ?_)
  have kp0 := aupN e kp0 (by omega)
  have kp1 := aupN e kp1 (by omega)
  have kp2 := aupN e kp2 (by omega)
  have kp3 := aupN e kp3 (by omega)
  have k5 := aupN e k5 (by omega)
  have k6 := aupN e k6 (by omega)
  have fr := fr.up e (by omega)
  have kO := aupE e
  refine q_aload_n (i := 29) rfl rfl ?_
  refine q_iconst (i := 30) rfl ?_
  refine q_puti (i := 31) rfl gX6_38 kO rfl (P1_gen fun M e => ?_)
  have kp0 := aupN e kp0 (by omega)
  have kp1 := aupN e kp1 (by omega)
  have kp2 := aupN e kp2 (by omega)
  have kp3 := aupN e kp3 (by omega)
  have k5 := aupN e k5 (by omega)
  have k6 := aupN e k6 (by omega)
  have fr := fr.up e (by omega)
  have kO := aupE e
  refine q_end ⟨rfl, h M ⟨g0_ok (by decide) (by decide), _, _, _, _, _, _, _, ⟨kO, kp0, kp1, kp2, kp3, k5, k6⟩, fun k hk => absurd hk (Nat.not_lt_zero k), fun j hj => ?_, by decide, by decide, by decide, by decide, fun _ => ⟨rfl, by decide, by decide, by decide, fun i hi => absurd hi (Nat.not_lt_zero i)⟩⟩ fr⟩
  have : ∀ j, j < 6 → ([0, 0, 0, 0, 0, 0] : List Int).getD j 0 = 0 := by decide
  exact (this j hj).symm
theorem c_X2 {M : AM} {b : Nat} {Q : Nat → AM → Prop} (kO : M b = some (zO 2 [.null, zI 0, zI 0])) (h : ∀ M', XIm M' 0 0 b none → FrI b 8 M M' → Q (b + 8) M') : C1 mX2_init b (b + 1) M 7 127 Q := by
  have fr : FrI b 8 M M := FrI.rf
  refine C1_of okX2_init (by decide) rfl rfl rfl (okX2_init.dec (i := 13) rfl) (by omega) ?_
  show P1 mX2_init 0 [.ref b] [] (b + 1) M 7 127 _
  refine q_aload_n (i := 0) rfl rfl ?_
  refine q_obj (i := 1) rfl olX2_init w_oi rfl rfl ?_
  refine q_aload_n (i := 2) rfl rfl ?_
  refine q_new (i := 3) rfl nkX2_init_7 (by omega) (by omega) (P1_gen fun M e => ?_)
  have kO := aupN e kO (by omega)
  have fr := fr.up e (by omega)
  have kp0 := aupE e
  refine q_dup (i := 4) rfl rfl ?_
  refine q_init (i := 5) rfl ioX2_init_9 rfl (by omega) (by omega) (c_X6 kp0 (fun M2 hP fr2 => ?_))
  have kO := fr2.at kO (by omega)
  have fr := fr.tr (fr2.weak (p' := b) (n' := 8) (by omega))
  have fr0 : FrI b 1 M2 M2 := FrI.rf
  refine q_putF (i := 6) rfl ffX2_init_10 kO (fun _ => rfl) (fun _ => rfl) rfl (P1_gen fun M e => ?_)
  have fr := fr.up e (by omega)
  have fr0 := fr0.up e (by omega)
  have kO := aupE e
  refine q_aload_n (i := 7) rfl rfl ?_
  refine q_iconst (i := 8) rfl ?_
  refine q_puti (i := 9) rfl gX2_16 kO rfl (P1_gen fun M e => ?_)
  have fr := fr.up e (by omega)
  have fr0 := fr0.up e (by omega)
  have kO := aupE e
  refine q_aload_n (i := 10) rfl rfl ?_
  refine q_iconst (i := 11) rfl ?_
  refine q_put (i := 12) rfl gX2_20 kO (fun _ => rfl) (fun _ => rfl) (Nat.blt_eq.mp rfl) (P1_gen fun M e => ?_)
  have fr := fr.up e (by omega)
  have fr0 := fr0.up e (by omega)
  have kO := aupE e
  exact q_end ⟨rfl, h M ⟨(hP.fi fr0 (by omega)).r, 0, 0, kO, rfl⟩ fr⟩
theorem c_X7 {M : AM} {Q : Nat → AM → Prop} (kO : M 1 = some (zO 7 [.null, zI 0, zI 0, zI 0, zI 0])) (h : ∀ M', XRd M' [] → FrI 1 2 M M' → Q 3 M') : C1 mX7_init 1 2 M 1 240 Q := by
  have fr : FrI 1 2 M M := FrI.rf
  refine C1_of okX7_init (by decide) rfl rfl rfl (okX7_init.dec (i := 18) rfl) (by omega) ?_
  show P1 mX7_init 0 [.ref 1] [] 2 M 1 240 _
  refine q_aload_n (i := 0) rfl rfl ?_
  refine q_obj (i := 1) rfl olX7_init w_oi rfl rfl ?_
  refine q_aload_n (i := 2) rfl rfl ?_
  refine q_sipush (i := 3) rfl (by decide) ?_
  refine q_newi (i := 4) 240 rfl (by decide) w_ci (by omega) (by omega) (P1_gen fun M e => ?_)
  have kO := aupN e kO (by omega)
  have fr := fr.up e (by omega)
  have kp0 := aupE e
  refine q_putF (i := 5) rfl ffX7_init_9 kO (fun _ => rfl) (fun _ => rfl) rfl (P1_gen fun M e => ?_)
  have kp0 := aupN e kp0 (by omega)
  have fr := fr.up e (by omega)
  have kO := aupE e
  refine q_aload_n (i := 6) rfl rfl ?_
  refine q_iconst (i := 7) rfl ?_
  refine q_puti (i := 8) rfl gX7_15 kO rfl (P1_gen fun M e => ?_)
  have kp0 := aupN e kp0 (by omega)
  have fr := fr.up e (by omega)
  have kO := aupE e
  refine q_aload_n (i := 9) rfl rfl ?_
  refine q_iconst (i := 10) rfl ?_
  refine q_puti (i := 11) rfl gX7_19 kO rfl (P1_gen fun M e => ?_)
  have kp0 := aupN e kp0 (by omega)
  have fr := fr.up e (by omega)
  have kO := aupE e
  refine q_aload_n (i := 12) rfl rfl ?_
  refine q_iconst (i := 13) rfl ?_
  refine q_puti (i := 14) rfl gX7_22 kO rfl (P1_gen fun M e => ?_)
  have kp0 := aupN e kp0 (by omega)
  have fr := fr.up e (by omega)
  have kO := aupE e
  refine q_aload_n (i := 15) rfl rfl ?_
  refine q_iconst (i := 16) rfl ?_
  refine q_puti (i := 17) rfl gX7_25 kO rfl (P1_gen fun M e => ?_)
  have kp0 := aupN e kp0 (by omega)
  have fr := fr.up e (by omega)
  have kO := aupE e
  exact q_end ⟨rfl, h M ⟨by decide, _, _, _, _, kO, kp0, fun i hi => absurd hi (Nat.not_lt_zero i)⟩ fr⟩
theorem c_X8 {M : AM} {Q : Nat → AM → Prop} (kO : M 230 = some (zO 8 [.null, zI 0])) (h : ∀ M', XTu M' → FrI 230 2 M M' → Q 232 M') : C1 mX8_init 230 231 M 1 5 Q := by
  have fr : FrI 230 2 M M := FrI.rf
  refine C1_of okX8_init (by decide) rfl rfl rfl (okX8_init.dec (i := 9) rfl) (by omega) ?_
  show P1 mX8_init 0 [.ref 230] [] 231 M 1 5 _
  refine q_aload_n (i := 0) rfl rfl ?_
  refine q_obj (i := 1) rfl olX8_init w_oi rfl rfl ?_
  refine q_aload_n (i := 2) rfl rfl ?_
  refine q_iconst (i := 3) rfl ?_
  refine q_newi (i := 4) 5 rfl (by decide) w_ci (by omega) (by omega) (P1_gen fun M e => ?_)
  have kO := aupN e kO (by omega)
  have fr := fr.up e (by omega)
  have kp0 := aupE e
  refine q_putF (i := 5) rfl ffX8_init_9 kO (fun _ => rfl) (fun _ => rfl) rfl (P1_gen fun M e => ?_)
  have kp0 := aupN e kp0 (by omega)
  have fr := fr.up e (by omega)
  have kO := aupE e
  refine q_aload_n (i := 6) rfl rfl ?_
  refine q_iconst (i := 7) rfl ?_
  refine q_puti (i := 8) rfl gX8_15 kO rfl (P1_gen fun M e => ?_)
  have kp0 := aupN e kp0 (by omega)
  have fr := fr.up e (by omega)
  have kO := aupE e
  exact q_end ⟨rfl, h M ⟨_, _, kO, kp0⟩ fr⟩
theorem c_X5 {M : AM} {Q : Nat → AM → Prop} (kO : M 232 = some (zO 5 [.null, .null, zI 0])) (h : ∀ M', XMe M' [] → FrI 232 3 M M' → Q 235 M') : C1 mX5_init 232 233 M 2 12 Q := by
  have fr : FrI 232 3 M M := FrI.rf
  refine C1_of okX5_init (by decide) rfl rfl rfl (okX5_init.dec (i := 13) rfl) (by omega) ?_
  show P1 mX5_init 0 [.ref 232] [] 233 M 2 12 _
  refine q_aload_n (i := 0) rfl rfl ?_
  refine q_obj (i := 1) rfl olX5_init w_oi rfl rfl ?_
  refine q_aload_n (i := 2) rfl rfl ?_
  refine q_bipush (i := 3) rfl (by decide) ?_
  refine q_newi (i := 4) 6 rfl (by decide) w_ci (by omega) (by omega) (P1_gen fun M e => ?_)
  have kO := aupN e kO (by omega)
  have fr := fr.up e (by omega)
  have kp0 := aupE e
  refine q_putF (i := 5) rfl ffX5_init_9 kO (fun _ => rfl) (fun _ => rfl) rfl (P1_gen fun M e => ?_)
  have kp0 := aupN e kp0 (by omega)
  have fr := fr.up e (by omega)
  have kO := aupE e
  refine q_aload_n (i := 6) rfl rfl ?_
  refine q_bipush (i := 7) rfl (by decide) ?_
  refine q_newz (i := 8) 6 rfl (by decide) w_cz (by omega) (by omega) (P1_gen fun M e => ?_)
  have kO := aupN e kO (by omega)
  have kp0 := aupN e kp0 (by omega)
  have fr := fr.up e (by omega)
  have kp1 := aupE e
  refine q_putF (i := 9) rfl ffX5_init_15 kO (fun _ => rfl) (fun _ => rfl) rfl (P1_gen fun M e => ?_)
  have kp0 := aupN e kp0 (by omega)
  have kp1 := aupN e kp1 (by omega)
  have fr := fr.up e (by omega)
  have kO := aupE e
  refine q_aload_n (i := 10) rfl rfl ?_
  refine q_iconst (i := 11) rfl ?_
  refine q_puti (i := 12) rfl gX5_19 kO rfl (P1_gen fun M e => ?_)
  have kp0 := aupN e kp0 (by omega)
  have kp1 := aupN e kp1 (by omega)
  have fr := fr.up e (by omega)
  have kO := aupE e
  exact q_end ⟨rfl, h M ⟨by decide, _, _, kO, kp0, kp1, fun i hi => absurd hi (Nat.not_lt_zero i)⟩ fr⟩
theorem c_X0 {M : AM} {Q : Nat → AM → Prop} (kO : M 235 = some (zO 0 [.null, .null, zI 0])) (h : ∀ M', XBo M' [] → FrI 235 3 M M' → Q 238 M') : C1 mX0_init 235 236 M 2 40 Q := by
  have fr : FrI 235 3 M M := FrI.rf
  refine C1_of okX0_init (by decide) rfl rfl rfl (okX0_init.dec (i := 13) rfl) (by omega) ?_
  show P1 mX0_init 0 [.ref 235] [] 236 M 2 40 _
  refine q_aload_n (i := 0) rfl rfl ?_
  refine q_obj (i := 1) rfl olX0_init w_oi rfl rfl ?_
  refine q_aload_n (i := 2) rfl rfl ?_
  refine q_bipush (i := 3) rfl (by decide) ?_
  refine q_newi (i := 4) 20 rfl (by decide) w_ci (by omega) (by omega) (P1_gen fun M e => ?_)
  have kO := aupN e kO (by omega)
  have fr := fr.up e (by omega)
  have kp0 := aupE e
  refine q_putF (i := 5) rfl ffX0_init_9 kO (fun _ => rfl) (fun _ => rfl) rfl (P1_gen fun M e => ?_)
  have kp0 := aupN e kp0 (by omega)
  have fr := fr.up e (by omega)
  have kO := aupE e
  refine q_aload_n (i := 6) rfl rfl ?_
  refine q_bipush (i := 7) rfl (by decide) ?_
  refine q_newi (i := 8) 20 rfl (by decide) w_ci (by omega) (by omega) (P1_gen fun M e => ?_)
  have kO := aupN e kO (by omega)
  have kp0 := aupN e kp0 (by omega)
  have fr := fr.up e (by omega)
  have kp1 := aupE e
  refine q_putF (i := 9) rfl ffX0_init_15 kO (fun _ => rfl) (fun _ => rfl) rfl (P1_gen fun M e => ?_)
  have kp0 := aupN e kp0 (by omega)
  have kp1 := aupN e kp1 (by omega)
  have fr := fr.up e (by omega)
  have kO := aupE e
  refine q_aload_n (i := 10) rfl rfl ?_
  refine q_iconst (i := 11) rfl ?_
  refine q_puti (i := 12) rfl gX0_18 kO rfl (P1_gen fun M e => ?_)
  have kp0 := aupN e kp0 (by omega)
  have kp1 := aupN e kp1 (by omega)
  have fr := fr.up e (by omega)
  have kO := aupE e
  exact q_end ⟨rfl, h M ⟨by decide, _, _, kO, kp0, kp1, fun i hi => absurd hi (Nat.not_lt_zero i)⟩ fr⟩
theorem c_X3 (hm : MnaRow) {M : AM} {b : Nat} {Q : Nat → AM → Prop} (kO : M b = some (zO 3 [.null, .null, .null, .null, zI 0, zI 0, zI 0])) (h : ∀ M', LineA M' b (0, [], []) → FrI b 11 M M' → Q (b + 11) M') : C1 mX3_init b (b + 1) M 10 64 Q := by
  have fr : FrI b 11 M M := FrI.rf
  refine C1_of okX3_init (by decide) rfl rfl rfl (okX3_init.dec (i := 28) rfl) (by omega) ?_
  show P1 mX3_init 0 [.ref b] [] (b + 1) M 10 64 _
  refine q_aload_n (i := 0) rfl rfl ?_
  refine q_obj (i := 1) rfl olX3_init w_oi rfl rfl ?_
  refine q_aload_n (i := 2) rfl rfl ?_
  refine q_bipush (i := 3) rfl (by decide) ?_
  refine q_newi (i := 4) 8 rfl (by decide) w_ci (by omega) (by omega) (P1_gen fun M e => ?_)
  have kO := aupN e kO (by omega)
  have fr := fr.up e (by omega)
  have kp0 := aupE e
  refine q_putF (i := 5) rfl ffX3_init_9 kO (fun _ => rfl) (fun _ => rfl) rfl (P1_gen fun M e => ?_)
  have kp0 := aupN e kp0 (by omega)
  have fr := fr.up e (by omega)
  have kO := aupE e
  refine q_aload_n (i := 6) rfl rfl ?_
  refine q_bipush (i := 7) rfl (by decide) ?_
  refine q_newi (i := 8) 8 rfl (by decide) w_ci (by omega) (by omega) (P1_gen fun M e => ?_)
  have kO := aupN e kO (by omega)
  have kp0 := aupN e kp0 (by omega)
  have fr := fr.up e (by omega)
  have kp1 := aupE e
  refine q_putF (i := 9) rfl ffX3_init_15 kO (fun _ => rfl) (fun _ => rfl) rfl (P1_gen fun M e => ?_)
  have kp0 := aupN e kp0 (by omega)
  have kp1 := aupN e kp1 (by omega)
  have fr := fr.up e (by omega)
  have kO := aupE e
  refine q_aload_n (i := 10) rfl rfl ?_
  refine q_bipush (i := 11) rfl (by decide) ?_
  refine q_newi (i := 12) 6 rfl (by decide) w_ci (by omega) (by omega) (P1_gen fun M e => ?_)
  have kO := aupN e kO (by omega)
  have kp0 := aupN e kp0 (by omega)
  have kp1 := aupN e kp1 (by omega)
  have fr := fr.up e (by omega)
  have kp2 := aupE e
  refine q_putF (i := 13) rfl ffX3_init_18 kO (fun _ => rfl) (fun _ => rfl) rfl (P1_gen fun M e => ?_)
  have kp0 := aupN e kp0 (by omega)
  have kp1 := aupN e kp1 (by omega)
  have kp2 := aupN e kp2 (by omega)
  have fr := fr.up e (by omega)
  have kO := aupE e
  refine q_aload_n (i := 14) rfl rfl ?_
  refine q_bipush (i := 15) rfl (by decide) ?_
  refine q_bipush (i := 16) rfl (by decide) ?_
  refine hm _ _ _ _ _ _ _ _ _ 17 _ rfl nmX3_init_21 (by omega) (by omega) (P1_gen fun M e => ?_)
  have up : ∀ {o : Nat} {x : AE} {M0 : AM}, M = mnaM M0 (b + 4) → M0 o = some x → o < b + 4 → M o = some x := fun e0 hx ho => by
    rw [e0]; unfold mnaM; rw [if_neg (by omega), if_neg (by omega)]; exact hx
  have kO := up e kO (by omega)
  have kp0 := up e kp0 (by omega)
  have kp1 := up e kp1 (by omega)
  have kp2 := up e kp2 (by omega)
  have k4 : M (b + 4) = some (zR 4 6 (fun i => if i < 6 then some (b + 4 + 1 + i) else none)) := by rw [e]; exact if_pos rfl
  have k5 : ∀ i, i < 6 → M (b + 5 + i) = some (zA 6 (fun _ => 0)) := fun i hi => by rw [e]; unfold mnaM; rw [if_neg (by omega), if_pos (by omega)]
  have frm : ∀ {M0 : AM}, M = mnaM M0 (b + 4) → FrI b 11 M0 M := fun e0 q hq => by
    have hq1 : q < b ∨ b + 11 ≤ q := hq
    rw [e0]
    unfold mnaM
    rw [if_neg (by omega), if_neg (by omega)]
  have fr := fr.tr (frm e)
  have fr0 : FrI b 1 M M := FrI.rf
  refine q_putF (i := 18) rfl ffX3_init_23 kO (fun _ => rfl) (fun _ => rfl) rfl (P1_gen fun M e => ?_)
  have kp0 := aupN e kp0 (by omega)
  have kp1 := aupN e kp1 (by omega)
  have kp2 := aupN e kp2 (by omega)
  have k4 := aupN e k4 (by omega)
  have fr := fr.up e (by omega)
  have fr0 := fr0.up e (by omega)
  have kO := aupE e
  refine q_aload_n (i := 19) rfl rfl ?_
  refine q_iconst (i := 20) rfl ?_
  refine q_puti (i := 21) rfl gX3_26 kO rfl (P1_gen fun M e => ?_)
  have kp0 := aupN e kp0 (by omega)
  have kp1 := aupN e kp1 (by omega)
  have kp2 := aupN e kp2 (by omega)
  have k4 := aupN e k4 (by omega)
  have fr := fr.up e (by omega)
  have fr0 := fr0.up e (by omega)
  have kO := aupE e
  refine q_aload_n (i := 22) rfl rfl ?_
  refine q_iconst (i := 23) rfl ?_
  refine q_puti (i := 24) rfl gX3_30 kO rfl (P1_gen fun M e => ?_)
  have kp0 := aupN e kp0 (by omega)
  have kp1 := aupN e kp1 (by omega)
  have kp2 := aupN e kp2 (by omega)
  have k4 := aupN e k4 (by omega)
  have fr := fr.up e (by omega)
  have fr0 := fr0.up e (by omega)
  have kO := aupE e
  refine q_aload_n (i := 25) rfl rfl ?_
  refine q_iconst (i := 26) rfl ?_
  refine q_puti (i := 27) rfl gX3_33 kO rfl (P1_gen fun M e => ?_)
  have kp0 := aupN e kp0 (by omega)
  have kp1 := aupN e kp1 (by omega)
  have kp2 := aupN e kp2 (by omega)
  have k4 := aupN e k4 (by omega)
  have fr := fr.up e (by omega)
  have fr0 := fr0.up e (by omega)
  have kO := aupE e
  refine q_end ⟨rfl, h M ⟨ln0_ok, _, _, _, fun _ _ => 0, ⟨kO, kp0, kp1, kp2, ⟨_, k4, fun i hi => ?_⟩, fun i hi => fr0.at (k5 i hi) (by omega)⟩, fun x hx => absurd hx (Nat.not_lt_zero x), fun x hx => absurd hx (Nat.not_lt_zero x)⟩ fr⟩
  show (if i < 6 then some (b + 4 + 1 + i) else none) = _
  rw [if_pos hi, show b + 4 + 1 + i = b + 5 + i by omega]
