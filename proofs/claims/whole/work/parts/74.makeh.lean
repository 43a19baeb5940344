-- the constructors of the whole
theorem c_X1 {M : AM} {Q : Nat → AM → Prop} (kO : M 3 = some (zO 1 [.null, zI 0, zI 0])) (h : ∀ M', XHi M' 0 0 [] → FrI 3 212 M M' → Q 215 M') : C1 mX1_init 3 4 M 211 3840 Q := by
  have loop : ∀ (c i : Nat) (M1 : AM) (g : Nat → Option Nat), c + i = 30 → M1 3 = some (zO 1 [.ref 4, zI 0, zI 0]) → M1 4 = some (zR 3 30 g) → (∀ j, j < i → g j = some (5 + 7 * j) ∧ PairR M1 (5 + 7 * j)) → FrI 3 212 M M1 → P1 mX1_init 25 [.ref 3, zI (i : Nat)] [] (5 + 7 * i) M1 (7 * c) (127 * c) (fun pc' _ n' M' => pc' = 50 ∧ Q n' M') := by
    intro c
    induction c with
    | zero =>
      intro i M1 g e1 kO kR hg fr
      refine q_iload_n (i := 14) rfl rfl ?_
      refine q_bipush (i := 15) rfl (by decide) ?_
      refine q_icmp_ge (i := 16) 50 rfl (by decide) (by omega) (by omega) (fun c28 => ?_) (fun c28 => by exfalso; omega)
      have ei : i = 30 := by omega
      subst ei
      exact q_end ⟨rfl, h M1 ⟨by decide, g, 0, kO, kR, fun j hj => hg j hj, by decide, by decide, fun j hj => absurd hj (Nat.not_lt_zero j)⟩ fr⟩
    | succ c ih =>
      intro i M1 g e1 kO kR hg fr
      have f0 : FrI (5 + 7 * i) 1 M1 M1 := FrI.rf
      refine q_iload_n (i := 14) rfl rfl ?_
      refine q_bipush (i := 15) rfl (by decide) ?_
      refine q_icmp_ge (i := 16) 50 rfl (by decide) (by omega) (by omega) (fun c28 => by exfalso; omega) (fun c28 => ?_)
      refine q_aload_n (i := 17) rfl rfl ?_
      refine q_getf (i := 18) rfl fX1_11 kO rfl ?_
      refine q_iload_n (i := 19) rfl rfl ?_
      refine q_new (i := 20) rfl nkX1_init_9 (by omega) (by omega) (P1_gen fun M e => ?_)
      have kO := aupN e kO (by omega)
      have kR := aupN e kR (by omega)
      have fr := fr.up e (by omega)
      have f0 := f0.up e (by omega)
      have kp0 := aupE e
      refine q_dup (i := 21) rfl rfl ?_
      refine q_init (i := 22) rfl ioX1_init_24 rfl (by omega) (by omega) (c_X6 kp0 (fun M2 hP fr2 => ?_))
      have kO := fr2.at kO (by omega)
      have kR := fr2.at kR (by omega)
      have fr := fr.tr (fr2.weak (p' := 3) (n' := 212) (by omega))
      have hg := fun j hj => (⟨(hg j hj).1, ((hg j hj).2.fi f0 (by omega)).fi fr2 (by omega)⟩ : g j = some (5 + 7 * j) ∧ PairR M2 (5 + 7 * j))
      obtain ⟨g1, sc, wh, st, hs, lr, lf, lz, hPA, -⟩ := id hP
      have kP := hPA.1
      have f2 : FrI 4 1 M2 M2 := FrI.rf
      refine q_aast (i := 23) (i) rfl kR kP (Or.inr ⟨rfl, rfl⟩) (by omega) (by omega) (by decide) (P1_gen fun M e => ?_)
      have kO := aupN e kO (by omega)
      have kP := aupN e kP (by omega)
      have fr := fr.up e (by omega)
      have f2 := f2.up e (by omega)
      have kR := aupE e
      refine q_iinc (i := 24) rfl rfl rfl rfl ?_
      refine q_goto (i := 25) 25 rfl (by decide) ?_
      refine P1_wk (k' := 7 * c) (sl' := 127 * c) (by omega) (by omega) ?_
      have ih2 := ih (i + 1) M _ (by omega) kO kR (fun j hj => ?_) fr
      · rw [show 5 + 7 * (i + 1) = 5 + 7 * i + 7 by omega] at ih2
        exact ih2
      · by_cases z : j = i
        · rw [z]
          exact ⟨if_pos rfl, hP.r.fi f2 (by omega)⟩
        · exact ⟨(if_neg z).trans (hg j (by omega)).1, (hg j (by omega)).2.fi f2 (by omega)⟩
  have fr : FrI 3 212 M M := FrI.rf
  refine C1_of okX1_init (by decide) rfl rfl rfl (okX1_init.dec (i := 26) rfl) (by omega) ?_
  show P1 mX1_init 0 [.ref 3, .retAddr 0] [] 4 M 211 3840 _
  refine q_aload_n (i := 0) rfl rfl ?_
  refine q_obj (i := 1) rfl olX1_init w_oi rfl rfl ?_
  refine q_aload_n (i := 2) rfl rfl ?_
  refine q_bipush (i := 3) rfl (by decide) ?_
  refine q_newq (i := 4) 30 rfl (by decide) nqX1_init_9 (Or.inr ⟨rfl, rfl⟩) (by omega) (by omega) (P1_gen fun M e => ?_)
  have kO := aupN e kO (by omega)
  have fr := fr.up e (by omega)
  have kp0 := aupE e
  refine q_putF (i := 5) rfl ffX1_init_11 kO (fun _ => rfl) (fun _ => rfl) rfl (P1_gen fun M e => ?_)
  have kp0 := aupN e kp0 (by omega)
  have fr := fr.up e (by omega)
  have kO := aupE e
  refine q_aload_n (i := 6) rfl rfl ?_
  refine q_iconst (i := 7) rfl ?_
  refine q_puti (i := 8) rfl gX1_17 kO rfl (P1_gen fun M e => ?_)
  have kp0 := aupN e kp0 (by omega)
  have fr := fr.up e (by omega)
  have kO := aupE e
  refine q_aload_n (i := 9) rfl rfl ?_
  refine q_iconst (i := 10) rfl ?_
  refine q_puti (i := 11) rfl gX1_21 kO rfl (P1_gen fun M e => ?_)
  have kp0 := aupN e kp0 (by omega)
  have fr := fr.up e (by omega)
  have kO := aupE e
  refine q_iconst (i := 12) rfl ?_
  refine q_istore_n (i := 13) rfl rfl rfl ?_
  exact P1_wk (by omega) (by omega) (loop 30 0 M (fun _ => none) rfl kO kp0 (fun j hj => absurd hj (Nat.not_lt_zero j)) fr)
def σ0 : ST := ([], -1, (0, [], []), g0, [], none, none, 0, [], [])
theorem c_X9 (hm : MnaRow) {M : AM} {Q : Nat → AM → Prop} (kO : M 0 = some (zO 9 [.null, .null, .null, .null, .null, .null, .null, .null, .null, .null, zI 0, zI 0])) (h : ∀ M', XW M' σ0 → FrI 0 276 M M' → Q 276 M') : C1 mX9_init 0 1 M 300 5000 Q := by
  have fr : FrI 0 276 M M := FrI.rf
  refine C1_of okX9_init (by decide) rfl rfl rfl (okX9_init.dec (i := 71) rfl) (by omega) ?_
  show P1 mX9_init 0 [.ref 0, .retAddr 0] [] 1 M 300 5000 _
  refine q_aload_n (i := 0) rfl rfl ?_
  refine q_obj (i := 1) rfl olX9_init w_oi rfl rfl ?_
  refine q_aload_n (i := 2) rfl rfl ?_
  have f1 : FrI 1 1 M M := FrI.rf
  refine q_new (i := 3) rfl nkX9_init_7 (by omega) (by omega) (P1_gen fun M e => ?_)
  have kO := aupN e kO (by omega)
  have fr := fr.up e (by omega)
  have f1 := f1.up e (by omega)
  have kp0 := aupE e
  refine q_dup (i := 4) rfl rfl ?_
  refine q_init (i := 5) rfl ioX9_init_9 rfl (by omega) (by omega) (c_X7 kp0 (fun M2 hRd fr2 => ?_))
  have kO := fr2.at kO (by omega)
  have fr := fr.tr (fr2.weak (p' := 0) (n' := 276) (by omega))
  have g1 : FrI 0 1 M2 M2 := FrI.rf
  refine q_putF (i := 6) rfl ffX9_init_10 kO (fun _ => rfl) (fun _ => rfl) rfl (P1_gen fun M e => ?_)
  have fr := fr.up e (by omega)
  have g1 := g1.up e (by omega)
  have kO := aupE e
  refine q_aload_n (i := 7) rfl rfl ?_
  have hRd := hRd.fi g1 (by omega)
  have f3 : FrI 3 1 M M := FrI.rf
  refine q_new (i := 8) rfl nkX9_init_16 (by omega) (by omega) (P1_gen fun M e => ?_)
  have kO := aupN e kO (by omega)
  have fr := fr.up e (by omega)
  have f3 := f3.up e (by omega)
  have kp1 := aupE e
  refine q_dup (i := 9) rfl rfl ?_
  have hRd := hRd.fi f3 (by omega)
  refine q_init (i := 10) rfl ioX9_init_18 rfl (by omega) (by omega) (c_X1 kp1 (fun M2 hHi fr2 => ?_))
  have kO := fr2.at kO (by omega)
  have hRd := hRd.fi fr2 (by omega)
  have fr := fr.tr (fr2.weak (p' := 0) (n' := 276) (by omega))
  have g3 : FrI 0 1 M2 M2 := FrI.rf
  refine q_putF (i := 11) rfl ffX9_init_19 kO (fun _ => rfl) (fun _ => rfl) rfl (P1_gen fun M e => ?_)
  have fr := fr.up e (by omega)
  have g3 := g3.up e (by omega)
  have kO := aupE e
  refine q_aload_n (i := 12) rfl rfl ?_
  have hRd := hRd.fi g3 (by omega)
  have hHi := hHi.fi g3 (by omega)
  have f215 : FrI 215 1 M M := FrI.rf
  refine q_iconst (i := 13) rfl ?_
  refine q_newq (i := 14) 2 rfl (by decide) nqX9_init_23 (Or.inl ⟨rfl, rfl⟩) (by omega) (by omega) (P1_gen fun M e => ?_)
  have kO := aupN e kO (by omega)
  have fr := fr.up e (by omega)
  have f215 := f215.up e (by omega)
  have kp2 := aupE e
  have hRd := hRd.fi f215 (by omega)
  have hHi := hHi.fi f215 (by omega)
  have kI := kp2
  have g215 : FrI 0 1 M M := FrI.rf
  refine q_putF (i := 15) rfl ffX9_init_25 kO (fun _ => rfl) (fun _ => rfl) rfl (P1_gen fun M e => ?_)
  have kp2 := aupN e kp2 (by omega)
  have fr := fr.up e (by omega)
  have g215 := g215.up e (by omega)
  have kO := aupE e
  refine q_aload_n (i := 16) rfl rfl ?_
  have hRd := hRd.fi g215 (by omega)
  have hHi := hHi.fi g215 (by omega)
  have kI := g215.at kI (by omega)
  have f216 : FrI 216 1 M M := FrI.rf
  refine q_new (i := 17) rfl nkX9_init_29 (by omega) (by omega) (P1_gen fun M e => ?_)
  have kO := aupN e kO (by omega)
  have fr := fr.up e (by omega)
  have f216 := f216.up e (by omega)
  have kp3 := aupE e
  refine q_dup (i := 18) rfl rfl ?_
  have hRd := hRd.fi f216 (by omega)
  have hHi := hHi.fi f216 (by omega)
  have kI := f216.at kI (by omega)
  refine q_init (i := 19) rfl ioX9_init_31 rfl (by omega) (by omega) (c_X6 kp3 (fun M2 hPa fr2 => ?_))
  have kO := fr2.at kO (by omega)
  have hRd := hRd.fi fr2 (by omega)
  have hHi := hHi.fi fr2 (by omega)
  have kI := fr2.at kI (by omega)
  have fr := fr.tr (fr2.weak (p' := 0) (n' := 276) (by omega))
  have g216 : FrI 0 1 M2 M2 := FrI.rf
  refine q_putF (i := 20) rfl ffX9_init_32 kO (fun _ => rfl) (fun _ => rfl) rfl (P1_gen fun M e => ?_)
  have fr := fr.up e (by omega)
  have g216 := g216.up e (by omega)
  have kO := aupE e
  refine q_aload_n (i := 21) rfl rfl ?_
  have hRd := hRd.fi g216 (by omega)
  have hHi := hHi.fi g216 (by omega)
  have kI := g216.at kI (by omega)
  have hPa := hPa.fi g216 (by omega)
  have f223 : FrI 223 1 M M := FrI.rf
  refine q_new (i := 22) rfl nkX9_init_29 (by omega) (by omega) (P1_gen fun M e => ?_)
  have kO := aupN e kO (by omega)
  have fr := fr.up e (by omega)
  have f223 := f223.up e (by omega)
  have kp4 := aupE e
  refine q_dup (i := 23) rfl rfl ?_
  have hRd := hRd.fi f223 (by omega)
  have hHi := hHi.fi f223 (by omega)
  have kI := f223.at kI (by omega)
  have hPa := hPa.fi f223 (by omega)
  refine q_init (i := 24) rfl ioX9_init_31 rfl (by omega) (by omega) (c_X6 kp4 (fun M2 hTr fr2 => ?_))
  have kO := fr2.at kO (by omega)
  have hRd := hRd.fi fr2 (by omega)
  have hHi := hHi.fi fr2 (by omega)
  have kI := fr2.at kI (by omega)
  have hPa := hPa.fi fr2 (by omega)
  have fr := fr.tr (fr2.weak (p' := 0) (n' := 276) (by omega))
  have g223 : FrI 0 1 M2 M2 := FrI.rf
  refine q_putF (i := 25) rfl ffX9_init_36 kO (fun _ => rfl) (fun _ => rfl) rfl (P1_gen fun M e => ?_)
  have fr := fr.up e (by omega)
  have g223 := g223.up e (by omega)
  have kO := aupE e
  refine q_aload_n (i := 26) rfl rfl ?_
  have hRd := hRd.fi g223 (by omega)
  have hHi := hHi.fi g223 (by omega)
  have kI := g223.at kI (by omega)
  have hPa := hPa.fi g223 (by omega)
  have hTr := hTr.fi g223 (by omega)
  have f230 : FrI 230 1 M M := FrI.rf
  refine q_new (i := 27) rfl nkX9_init_39 (by omega) (by omega) (P1_gen fun M e => ?_)
  have kO := aupN e kO (by omega)
  have fr := fr.up e (by omega)
  have f230 := f230.up e (by omega)
  have kp5 := aupE e
  refine q_dup (i := 28) rfl rfl ?_
  have hRd := hRd.fi f230 (by omega)
  have hHi := hHi.fi f230 (by omega)
  have kI := f230.at kI (by omega)
  have hPa := hPa.fi f230 (by omega)
  have hTr := hTr.fi f230 (by omega)
  refine q_init (i := 29) rfl ioX9_init_41 rfl (by omega) (by omega) (c_X8 kp5 (fun M2 hTu fr2 => ?_))
  have kO := fr2.at kO (by omega)
  have hRd := hRd.fi fr2 (by omega)
  have hHi := hHi.fi fr2 (by omega)
  have kI := fr2.at kI (by omega)
  have hPa := hPa.fi fr2 (by omega)
  have hTr := hTr.fi fr2 (by omega)
  have fr := fr.tr (fr2.weak (p' := 0) (n' := 276) (by omega))
  have g230 : FrI 0 1 M2 M2 := FrI.rf
  refine q_putF (i := 30) rfl ffX9_init_42 kO (fun _ => rfl) (fun _ => rfl) rfl (P1_gen fun M e => ?_)
  have fr := fr.up e (by omega)
  have g230 := g230.up e (by omega)
  have kO := aupE e
  refine q_aload_n (i := 31) rfl rfl ?_
  have hRd := hRd.fi g230 (by omega)
  have hHi := hHi.fi g230 (by omega)
  have kI := g230.at kI (by omega)
  have hPa := hPa.fi g230 (by omega)
  have hTr := hTr.fi g230 (by omega)
  have hTu := hTu.fi g230 (by omega)
  have f232 : FrI 232 1 M M := FrI.rf
  refine q_new (i := 32) rfl nkX9_init_46 (by omega) (by omega) (P1_gen fun M e => ?_)
  have kO := aupN e kO (by omega)
  have fr := fr.up e (by omega)
  have f232 := f232.up e (by omega)
  have kp6 := aupE e
  refine q_dup (i := 33) rfl rfl ?_
  have hRd := hRd.fi f232 (by omega)
  have hHi := hHi.fi f232 (by omega)
  have kI := f232.at kI (by omega)
  have hPa := hPa.fi f232 (by omega)
  have hTr := hTr.fi f232 (by omega)
  have hTu := hTu.fi f232 (by omega)
  refine q_init (i := 34) rfl ioX9_init_48 rfl (by omega) (by omega) (c_X5 kp6 (fun M2 hMe fr2 => ?_))
  have kO := fr2.at kO (by omega)
  have hRd := hRd.fi fr2 (by omega)
  have hHi := hHi.fi fr2 (by omega)
  have kI := fr2.at kI (by omega)
  have hPa := hPa.fi fr2 (by omega)
  have hTr := hTr.fi fr2 (by omega)
  have hTu := hTu.fi fr2 (by omega)
  have fr := fr.tr (fr2.weak (p' := 0) (n' := 276) (by omega))
  have g232 : FrI 0 1 M2 M2 := FrI.rf
  refine q_putF (i := 35) rfl ffX9_init_49 kO (fun _ => rfl) (fun _ => rfl) rfl (P1_gen fun M e => ?_)
  have fr := fr.up e (by omega)
  have g232 := g232.up e (by omega)
  have kO := aupE e
  refine q_aload_n (i := 36) rfl rfl ?_
  have hRd := hRd.fi g232 (by omega)
  have hHi := hHi.fi g232 (by omega)
  have kI := g232.at kI (by omega)
  have hPa := hPa.fi g232 (by omega)
  have hTr := hTr.fi g232 (by omega)
  have hTu := hTu.fi g232 (by omega)
  have hMe := hMe.fi g232 (by omega)
  have f235 : FrI 235 1 M M := FrI.rf
  refine q_new (i := 37) rfl nkX9_init_53 (by omega) (by omega) (P1_gen fun M e => ?_)
  have kO := aupN e kO (by omega)
  have fr := fr.up e (by omega)
  have f235 := f235.up e (by omega)
  have kp7 := aupE e
  refine q_dup (i := 38) rfl rfl ?_
  have hRd := hRd.fi f235 (by omega)
  have hHi := hHi.fi f235 (by omega)
  have kI := f235.at kI (by omega)
  have hPa := hPa.fi f235 (by omega)
  have hTr := hTr.fi f235 (by omega)
  have hTu := hTu.fi f235 (by omega)
  have hMe := hMe.fi f235 (by omega)
  refine q_init (i := 39) rfl ioX9_init_55 rfl (by omega) (by omega) (c_X0 kp7 (fun M2 hBo fr2 => ?_))
  have kO := fr2.at kO (by omega)
  have hRd := hRd.fi fr2 (by omega)
  have hHi := hHi.fi fr2 (by omega)
  have kI := fr2.at kI (by omega)
  have hPa := hPa.fi fr2 (by omega)
  have hTr := hTr.fi fr2 (by omega)
  have hTu := hTu.fi fr2 (by omega)
  have hMe := hMe.fi fr2 (by omega)
  have fr := fr.tr (fr2.weak (p' := 0) (n' := 276) (by omega))
  have g235 : FrI 0 1 M2 M2 := FrI.rf
  refine q_putF (i := 40) rfl ffX9_init_56 kO (fun _ => rfl) (fun _ => rfl) rfl (P1_gen fun M e => ?_)
  have fr := fr.up e (by omega)
  have g235 := g235.up e (by omega)
  have kO := aupE e
  refine q_aload_n (i := 41) rfl rfl ?_
  have hRd := hRd.fi g235 (by omega)
  have hHi := hHi.fi g235 (by omega)
  have kI := g235.at kI (by omega)
  have hPa := hPa.fi g235 (by omega)
  have hTr := hTr.fi g235 (by omega)
  have hTu := hTu.fi g235 (by omega)
  have hMe := hMe.fi g235 (by omega)
  have hBo := hBo.fi g235 (by omega)
  have f238 : FrI 238 1 M M := FrI.rf
  refine q_new (i := 42) rfl nkX9_init_60 (by omega) (by omega) (P1_gen fun M e => ?_)
  have kO := aupN e kO (by omega)
  have fr := fr.up e (by omega)
  have f238 := f238.up e (by omega)
  have kp8 := aupE e
  refine q_dup (i := 43) rfl rfl ?_
  have hRd := hRd.fi f238 (by omega)
  have hHi := hHi.fi f238 (by omega)
  have kI := f238.at kI (by omega)
  have hPa := hPa.fi f238 (by omega)
  have hTr := hTr.fi f238 (by omega)
  have hTu := hTu.fi f238 (by omega)
  have hMe := hMe.fi f238 (by omega)
  have hBo := hBo.fi f238 (by omega)
  refine q_init (i := 44) rfl ioX9_init_62 rfl (by omega) (by omega) (c_X3 hm kp8 (fun M2 hLi fr2 => ?_))
  have kO := fr2.at kO (by omega)
  have hRd := hRd.fi fr2 (by omega)
  have hHi := hHi.fi fr2 (by omega)
  have kI := fr2.at kI (by omega)
  have hPa := hPa.fi fr2 (by omega)
  have hTr := hTr.fi fr2 (by omega)
  have hTu := hTu.fi fr2 (by omega)
  have hMe := hMe.fi fr2 (by omega)
  have hBo := hBo.fi fr2 (by omega)
  have fr := fr.tr (fr2.weak (p' := 0) (n' := 276) (by omega))
  have g238 : FrI 0 1 M2 M2 := FrI.rf
  refine q_puta (i := 45) rfl gX9_63 kO rfl (P1_gen fun M e => ?_)
  have fr := fr.up e (by omega)
  have g238 := g238.up e (by omega)
  have kO := aupE e
  refine q_aload_n (i := 46) rfl rfl ?_
  have hRd := hRd.fi g238 (by omega)
  have hHi := hHi.fi g238 (by omega)
  have kI := g238.at kI (by omega)
  have hPa := hPa.fi g238 (by omega)
  have hTr := hTr.fi g238 (by omega)
  have hTu := hTu.fi g238 (by omega)
  have hMe := hMe.fi g238 (by omega)
  have hBo := hBo.fi g238 (by omega)
  have hLi := hLi.fi g238 (by omega)
  have f249 : FrI 249 1 M M := FrI.rf
  refine q_new (i := 47) rfl nkX9_init_60 (by omega) (by omega) (P1_gen fun M e => ?_)
  have kO := aupN e kO (by omega)
  have fr := fr.up e (by omega)
  have f249 := f249.up e (by omega)
  have kp9 := aupE e
  refine q_dup (i := 48) rfl rfl ?_
  have hRd := hRd.fi f249 (by omega)
  have hHi := hHi.fi f249 (by omega)
  have kI := f249.at kI (by omega)
  have hPa := hPa.fi f249 (by omega)
  have hTr := hTr.fi f249 (by omega)
  have hTu := hTu.fi f249 (by omega)
  have hMe := hMe.fi f249 (by omega)
  have hBo := hBo.fi f249 (by omega)
  have hLi := hLi.fi f249 (by omega)
  refine q_init (i := 49) rfl ioX9_init_62 rfl (by omega) (by omega) (c_X3 hm kp9 (fun M2 hLs fr2 => ?_))
  have kO := fr2.at kO (by omega)
  have hRd := hRd.fi fr2 (by omega)
  have hHi := hHi.fi fr2 (by omega)
  have kI := fr2.at kI (by omega)
  have hPa := hPa.fi fr2 (by omega)
  have hTr := hTr.fi fr2 (by omega)
  have hTu := hTu.fi fr2 (by omega)
  have hMe := hMe.fi fr2 (by omega)
  have hBo := hBo.fi fr2 (by omega)
  have hLi := hLi.fi fr2 (by omega)
  have fr := fr.tr (fr2.weak (p' := 0) (n' := 276) (by omega))
  have g249 : FrI 0 1 M2 M2 := FrI.rf
  refine q_puta (i := 50) rfl gX9_67 kO rfl (P1_gen fun M e => ?_)
  have fr := fr.up e (by omega)
  have g249 := g249.up e (by omega)
  have kO := aupE e
  refine q_aload_n (i := 51) rfl rfl ?_
  refine q_iconst (i := 52) rfl ?_
  refine q_puti (i := 53) rfl gX9_70 kO rfl (P1_gen fun M e => ?_)
  have fr := fr.up e (by omega)
  have g249 := g249.up e (by omega)
  have kO := aupE e
  refine q_aload_n (i := 54) rfl rfl ?_
  refine q_iconst (i := 55) rfl ?_
  refine q_puti (i := 56) rfl gX9_74 kO rfl (P1_gen fun M e => ?_)
  have fr := fr.up e (by omega)
  have g249 := g249.up e (by omega)
  have kO := aupE e
  refine q_iconst (i := 57) rfl ?_
  refine q_istore_n (i := 58) rfl rfl rfl ?_
  have hRd := hRd.fi g249 (by omega)
  have hHi := hHi.fi g249 (by omega)
  have kI := g249.at kI (by omega)
  have hPa := hPa.fi g249 (by omega)
  have hTr := hTr.fi g249 (by omega)
  have hTu := hTu.fi g249 (by omega)
  have hMe := hMe.fi g249 (by omega)
  have hBo := hBo.fi g249 (by omega)
  have hLi := hLi.fi g249 (by omega)
  have hLs := hLs.fi g249 (by omega)
  have f260 : FrI 260 1 M M := FrI.rf
  refine q_iload_n (i := 59) rfl rfl ?_
  refine q_iconst (i := 60) rfl ?_
  refine q_icmp_ge (i := 61) 147 rfl (by decide) (by omega) (by omega) (fun c125 => by exfalso; omega) (fun c125 => ?_)
  refine q_aload_n (i := 62) rfl rfl ?_
  refine q_getf (i := 63) rfl fX9_25 kO rfl ?_
  refine q_iload_n (i := 64) rfl rfl ?_
  refine q_new (i := 65) rfl nkX9_init_23 (by omega) (by omega) (P1_gen fun M e => ?_)
  have kO := aupN e kO (by omega)
  have kI := aupN e kI (by omega)
  have fr := fr.up e (by omega)
  have f260 := f260.up e (by omega)
  have kp10 := aupE e
  refine q_dup (i := 66) rfl rfl ?_
  have hRd := hRd.fi f260 (by omega)
  have hHi := hHi.fi f260 (by omega)
  have hPa := hPa.fi f260 (by omega)
  have hTr := hTr.fi f260 (by omega)
  have hTu := hTu.fi f260 (by omega)
  have hMe := hMe.fi f260 (by omega)
  have hBo := hBo.fi f260 (by omega)
  have hLi := hLi.fi f260 (by omega)
  have hLs := hLs.fi f260 (by omega)
  refine q_init (i := 67) rfl ioX9_init_77 rfl (by omega) (by omega) (c_X2 kp10 (fun M2 hI0 fr2 => ?_))
  have kO := fr2.at kO (by omega)
  have hRd := hRd.fi fr2 (by omega)
  have hHi := hHi.fi fr2 (by omega)
  have kI := fr2.at kI (by omega)
  have hPa := hPa.fi fr2 (by omega)
  have hTr := hTr.fi fr2 (by omega)
  have hTu := hTu.fi fr2 (by omega)
  have hMe := hMe.fi fr2 (by omega)
  have hBo := hBo.fi fr2 (by omega)
  have hLi := hLi.fi fr2 (by omega)
  have hLs := hLs.fi fr2 (by omega)
  have fr := fr.tr (fr2.weak (p' := 0) (n' := 276) (by omega))
  obtain ⟨hIr0, s0, k0, kQ0, kk0⟩ := id hI0
  have g260 : FrI 215 1 M2 M2 := FrI.rf
  refine q_aast (i := 68) (0) rfl kI kQ0 (Or.inl ⟨rfl, rfl⟩) (by omega) (by omega) (by decide) (P1_gen fun M e => ?_)
  have kO := aupN e kO (by omega)
  have kQ0 := aupN e kQ0 (by omega)
  have fr := fr.up e (by omega)
  have g260 := g260.up e (by omega)
  have kI := aupE e
  refine q_iinc (i := 69) rfl rfl rfl rfl ?_
  refine q_goto (i := 70) 123 rfl (by decide) ?_
  have hRd := hRd.fi g260 (by omega)
  have hHi := hHi.fi g260 (by omega)
  have hPa := hPa.fi g260 (by omega)
  have hTr := hTr.fi g260 (by omega)
  have hTu := hTu.fi g260 (by omega)
  have hMe := hMe.fi g260 (by omega)
  have hBo := hBo.fi g260 (by omega)
  have hLi := hLi.fi g260 (by omega)
  have hLs := hLs.fi g260 (by omega)
  have hI0 := hI0.fi g260 (by omega)
  have f268 : FrI 268 1 M M := FrI.rf
  refine q_iload_n (i := 59) rfl rfl ?_
  refine q_iconst (i := 60) rfl ?_
  refine q_icmp_ge (i := 61) 147 rfl (by decide) (by omega) (by omega) (fun c125 => by exfalso; omega) (fun c125 => ?_)
  refine q_aload_n (i := 62) rfl rfl ?_
  refine q_getf (i := 63) rfl fX9_25 kO rfl ?_
  refine q_iload_n (i := 64) rfl rfl ?_
  refine q_new (i := 65) rfl nkX9_init_23 (by omega) (by omega) (P1_gen fun M e => ?_)
  have kO := aupN e kO (by omega)
  have kI := aupN e kI (by omega)
  have fr := fr.up e (by omega)
  have f268 := f268.up e (by omega)
  have kp11 := aupE e
  refine q_dup (i := 66) rfl rfl ?_
  have hRd := hRd.fi f268 (by omega)
  have hHi := hHi.fi f268 (by omega)
  have hPa := hPa.fi f268 (by omega)
  have hTr := hTr.fi f268 (by omega)
  have hTu := hTu.fi f268 (by omega)
  have hMe := hMe.fi f268 (by omega)
  have hBo := hBo.fi f268 (by omega)
  have hLi := hLi.fi f268 (by omega)
  have hLs := hLs.fi f268 (by omega)
  have hI0 := hI0.fi f268 (by omega)
  refine q_init (i := 67) rfl ioX9_init_77 rfl (by omega) (by omega) (c_X2 kp11 (fun M2 hI1 fr2 => ?_))
  have kO := fr2.at kO (by omega)
  have hRd := hRd.fi fr2 (by omega)
  have hHi := hHi.fi fr2 (by omega)
  have kI := fr2.at kI (by omega)
  have hPa := hPa.fi fr2 (by omega)
  have hTr := hTr.fi fr2 (by omega)
  have hTu := hTu.fi fr2 (by omega)
  have hMe := hMe.fi fr2 (by omega)
  have hBo := hBo.fi fr2 (by omega)
  have hLi := hLi.fi fr2 (by omega)
  have hLs := hLs.fi fr2 (by omega)
  have hI0 := hI0.fi fr2 (by omega)
  have fr := fr.tr (fr2.weak (p' := 0) (n' := 276) (by omega))
  obtain ⟨hIr1, s1, k1, kQ1, kk1⟩ := id hI1
  have g268 : FrI 215 1 M2 M2 := FrI.rf
  refine q_aast (i := 68) (1) rfl kI kQ1 (Or.inl ⟨rfl, rfl⟩) (by omega) (by omega) (by decide) (P1_gen fun M e => ?_)
  have kO := aupN e kO (by omega)
  have kQ1 := aupN e kQ1 (by omega)
  have fr := fr.up e (by omega)
  have g268 := g268.up e (by omega)
  have kI := aupE e
  refine q_iinc (i := 69) rfl rfl rfl rfl ?_
  refine q_goto (i := 70) 123 rfl (by decide) ?_
  have hRd := hRd.fi g268 (by omega)
  have hHi := hHi.fi g268 (by omega)
  have hPa := hPa.fi g268 (by omega)
  have hTr := hTr.fi g268 (by omega)
  have hTu := hTu.fi g268 (by omega)
  have hMe := hMe.fi g268 (by omega)
  have hBo := hBo.fi g268 (by omega)
  have hLi := hLi.fi g268 (by omega)
  have hLs := hLs.fi g268 (by omega)
  have hI0 := hI0.fi g268 (by omega)
  have hI1 := hI1.fi g268 (by omega)
  refine q_iload_n (i := 59) rfl rfl ?_
  refine q_iconst (i := 60) rfl ?_
  refine q_icmp_ge (i := 61) 147 rfl (by decide) (by omega) (by omega) (fun c125 => ?_) (fun c125 => by exfalso; omega)
  refine q_end ⟨rfl, h M ⟨238, 249, ⟨kO, Or.inl ⟨rfl, rfl⟩⟩, hRd, hHi, ⟨_, kI, rfl, rfl⟩, hI0, hI1, hPa, hTr.r, hTu, hMe, hBo, hLi, hLs.r, by decide, by decide, by decide, fun i hi => absurd hi (Nat.not_lt_zero i), fun i hi => absurd hi (Nat.not_lt_zero i), by decide, by decide⟩ fr⟩
theorem c_X10 {M : AM} {Q : Nat → AM → Prop} (kO : M 276 = some (zO 10 [.null, .null, .null, .null, .null, zI 0, .null, .null, zJ 0, .null, zI 0, zI 0, .null, zI 0, .null, zI 0, zI 0, zI 0, zI 0, zI 0, zI 0, zI 0, .null])) (h : ∀ M', YW M' σ0 → FrI 276 12 M M' → Q 288 M') : C1 mX10_init 276 277 M 11 4504 Q := by
  have fr : FrI 276 12 M M := FrI.rf
  refine C1_of okX10_init (by decide) rfl rfl rfl (okX10_init.dec (i := 54) rfl) (by omega) ?_
  show P1 mX10_init 0 [.ref 276] [] 277 M 11 4504 _
  refine q_aload_n (i := 0) rfl rfl ?_
  refine q_obj (i := 1) rfl olX10_init w_oi rfl rfl ?_
  refine q_aload_n (i := 2) rfl rfl ?_
  refine q_bipush (i := 3) rfl (by decide) ?_
  refine q_newi (i := 4) 61 rfl (by decide) w_ci (by omega) (by omega) (P1_gen fun M e => ?_)
  have kO := aupN e kO (by omega)
  have fr := fr.up e (by omega)
  have kp0 := aupE e
  refine q_putF (i := 5) rfl ffX10_init_7 kO (fun _ => rfl) (fun _ => rfl) rfl (P1_gen fun M e => ?_)
  have kp0 := aupN e kp0 (by omega)
  have fr := fr.up e (by omega)
  have kO := aupE e
  refine q_aload_n (i := 6) rfl rfl ?_
  refine q_bipush (i := 7) rfl (by decide) ?_
  refine q_newi (i := 8) 61 rfl (by decide) w_ci (by omega) (by omega) (P1_gen fun M e => ?_)
  have kO := aupN e kO (by omega)
  have kp0 := aupN e kp0 (by omega)
  have fr := fr.up e (by omega)
  have kp1 := aupE e
  refine q_putF (i := 9) rfl ffX10_init_13 kO (fun _ => rfl) (fun _ => rfl) rfl (P1_gen fun M e => ?_)
  have kp0 := aupN e kp0 (by omega)
  have kp1 := aupN e kp1 (by omega)
  have fr := fr.up e (by omega)
  have kO := aupE e
  refine q_aload_n (i := 10) rfl rfl ?_
  refine q_bipush (i := 11) rfl (by decide) ?_
  refine q_newi (i := 12) 120 rfl (by decide) w_ci (by omega) (by omega) (P1_gen fun M e => ?_)
  have kO := aupN e kO (by omega)
  have kp0 := aupN e kp0 (by omega)
  have kp1 := aupN e kp1 (by omega)
  have fr := fr.up e (by omega)
  have kp2 := aupE e
  refine q_putF (i := 13) rfl ffX10_init_16 kO (fun _ => rfl) (fun _ => rfl) rfl (P1_gen fun M e => ?_)
  have kp0 := aupN e kp0 (by omega)
  have kp1 := aupN e kp1 (by omega)
  have kp2 := aupN e kp2 (by omega)
  have fr := fr.up e (by omega)
  have kO := aupE e
  refine q_aload_n (i := 14) rfl rfl ?_
  refine q_bipush (i := 15) rfl (by decide) ?_
  refine q_newi (i := 16) 120 rfl (by decide) w_ci (by omega) (by omega) (P1_gen fun M e => ?_)
  have kO := aupN e kO (by omega)
  have kp0 := aupN e kp0 (by omega)
  have kp1 := aupN e kp1 (by omega)
  have kp2 := aupN e kp2 (by omega)
  have fr := fr.up e (by omega)
  have kp3 := aupE e
  refine q_putF (i := 17) rfl ffX10_init_19 kO (fun _ => rfl) (fun _ => rfl) rfl (P1_gen fun M e => ?_)
  have kp0 := aupN e kp0 (by omega)
  have kp1 := aupN e kp1 (by omega)
  have kp2 := aupN e kp2 (by omega)
  have kp3 := aupN e kp3 (by omega)
  have fr := fr.up e (by omega)
  have kO := aupE e
  refine q_aload_n (i := 18) rfl rfl ?_
  refine q_sipush (i := 19) rfl (by decide) ?_
  refine q_newi (i := 20) 3600 rfl (by decide) w_ci (by omega) (by omega) (P1_gen fun M e => ?_)
  have kO := aupN e kO (by omega)
  have kp0 := aupN e kp0 (by omega)
  have kp1 := aupN e kp1 (by omega)
  have kp2 := aupN e kp2 (by omega)
  have kp3 := aupN e kp3 (by omega)
  have fr := fr.up e (by omega)
  have kp4 := aupE e
  refine q_putF (i := 21) rfl ffX10_init_22 kO (fun _ => rfl) (fun _ => rfl) rfl (P1_gen fun M e => ?_)
  have kp0 := aupN e kp0 (by omega)
  have kp1 := aupN e kp1 (by omega)
  have kp2 := aupN e kp2 (by omega)
  have kp3 := aupN e kp3 (by omega)
  have kp4 := aupN e kp4 (by omega)
  have fr := fr.up e (by omega)
  have kO := aupE e
  refine q_aload_n (i := 22) rfl rfl ?_
  refine q_sipush (i := 23) rfl (by decide) ?_
  refine q_newi (i := 24) 242 rfl (by decide) w_ci (by omega) (by omega) (P1_gen fun M e => ?_)
  have kO := aupN e kO (by omega)
  have kp0 := aupN e kp0 (by omega)
  have kp1 := aupN e kp1 (by omega)
  have kp2 := aupN e kp2 (by omega)
  have kp3 := aupN e kp3 (by omega)
  have kp4 := aupN e kp4 (by omega)
  have fr := fr.up e (by omega)
  have kp5 := aupE e
  refine q_putF (i := 25) rfl ffX10_init_25 kO (fun _ => rfl) (fun _ => rfl) rfl (P1_gen fun M e => ?_)
  have kp0 := aupN e kp0 (by omega)
  have kp1 := aupN e kp1 (by omega)
  have kp2 := aupN e kp2 (by omega)
  have kp3 := aupN e kp3 (by omega)
  have kp4 := aupN e kp4 (by omega)
  have kp5 := aupN e kp5 (by omega)
  have fr := fr.up e (by omega)
  have kO := aupE e
  refine q_aload_n (i := 26) rfl rfl ?_
  refine q_iconst (i := 27) rfl ?_
  refine q_newz (i := 28) 2 rfl (by decide) w_cz (by omega) (by omega) (P1_gen fun M e => ?_)
  have kO := aupN e kO (by omega)
  have kp0 := aupN e kp0 (by omega)
  have kp1 := aupN e kp1 (by omega)
  have kp2 := aupN e kp2 (by omega)
  have kp3 := aupN e kp3 (by omega)
  have kp4 := aupN e kp4 (by omega)
  have kp5 := aupN e kp5 (by omega)
  have fr := fr.up e (by omega)
  have kp6 := aupE e
  refine q_putF (i := 29) rfl ffX10_init_28 kO (fun _ => rfl) (fun _ => rfl) rfl (P1_gen fun M e => ?_)
  have kp0 := aupN e kp0 (by omega)
  have kp1 := aupN e kp1 (by omega)
  have kp2 := aupN e kp2 (by omega)
  have kp3 := aupN e kp3 (by omega)
  have kp4 := aupN e kp4 (by omega)
  have kp5 := aupN e kp5 (by omega)
  have kp6 := aupN e kp6 (by omega)
  have fr := fr.up e (by omega)
  have kO := aupE e
  refine q_aload_n (i := 30) rfl rfl ?_
  refine q_sipush (i := 31) rfl (by decide) ?_
  refine q_newi (i := 32) 240 rfl (by decide) w_ci (by omega) (by omega) (P1_gen fun M e => ?_)
  have kO := aupN e kO (by omega)
  have kp0 := aupN e kp0 (by omega)
  have kp1 := aupN e kp1 (by omega)
  have kp2 := aupN e kp2 (by omega)
  have kp3 := aupN e kp3 (by omega)
  have kp4 := aupN e kp4 (by omega)
  have kp5 := aupN e kp5 (by omega)
  have kp6 := aupN e kp6 (by omega)
  have fr := fr.up e (by omega)
  have kp7 := aupE e
  refine q_putF (i := 33) rfl ffX10_init_32 kO (fun _ => rfl) (fun _ => rfl) rfl (P1_gen fun M e => ?_)
  have kp0 := aupN e kp0 (by omega)
  have kp1 := aupN e kp1 (by omega)
  have kp2 := aupN e kp2 (by omega)
  have kp3 := aupN e kp3 (by omega)
  have kp4 := aupN e kp4 (by omega)
  have kp5 := aupN e kp5 (by omega)
  have kp6 := aupN e kp6 (by omega)
  have kp7 := aupN e kp7 (by omega)
  have fr := fr.up e (by omega)
  have kO := aupE e
  refine q_aload_n (i := 34) rfl rfl ?_
  refine q_iconst (i := 35) rfl ?_
  refine q_puti (i := 36) rfl gX10_35 kO rfl (P1_gen fun M e => ?_)
  have kp0 := aupN e kp0 (by omega)
  have kp1 := aupN e kp1 (by omega)
  have kp2 := aupN e kp2 (by omega)
  have kp3 := aupN e kp3 (by omega)
  have kp4 := aupN e kp4 (by omega)
  have kp5 := aupN e kp5 (by omega)
  have kp6 := aupN e kp6 (by omega)
  have kp7 := aupN e kp7 (by omega)
  have fr := fr.up e (by omega)
  have kO := aupE e
  refine q_aload_n (i := 37) rfl rfl ?_
  refine q_bipush (i := 38) rfl (by decide) ?_
  refine q_newi (i := 39) 12 rfl (by decide) w_ci (by omega) (by omega) (P1_gen fun M e => ?_)
  have kO := aupN e kO (by omega)
  have kp0 := aupN e kp0 (by omega)
  have kp1 := aupN e kp1 (by omega)
  have kp2 := aupN e kp2 (by omega)
  have kp3 := aupN e kp3 (by omega)
  have kp4 := aupN e kp4 (by omega)
  have kp5 := aupN e kp5 (by omega)
  have kp6 := aupN e kp6 (by omega)
  have kp7 := aupN e kp7 (by omega)
  have fr := fr.up e (by omega)
  have kp8 := aupE e
  refine q_putF (i := 40) rfl ffX10_init_39 kO (fun _ => rfl) (fun _ => rfl) rfl (P1_gen fun M e => ?_)
  have kp0 := aupN e kp0 (by omega)
  have kp1 := aupN e kp1 (by omega)
  have kp2 := aupN e kp2 (by omega)
  have kp3 := aupN e kp3 (by omega)
  have kp4 := aupN e kp4 (by omega)
  have kp5 := aupN e kp5 (by omega)
  have kp6 := aupN e kp6 (by omega)
  have kp7 := aupN e kp7 (by omega)
  have kp8 := aupN e kp8 (by omega)
  have fr := fr.up e (by omega)
  have kO := aupE e
  refine q_aload_n (i := 41) rfl rfl ?_
  refine q_bipush (i := 42) rfl (by decide) ?_
  refine q_newi (i := 43) 40 rfl (by decide) w_ci (by omega) (by omega) (P1_gen fun M e => ?_)
  have kO := aupN e kO (by omega)
  have kp0 := aupN e kp0 (by omega)
  have kp1 := aupN e kp1 (by omega)
  have kp2 := aupN e kp2 (by omega)
  have kp3 := aupN e kp3 (by omega)
  have kp4 := aupN e kp4 (by omega)
  have kp5 := aupN e kp5 (by omega)
  have kp6 := aupN e kp6 (by omega)
  have kp7 := aupN e kp7 (by omega)
  have kp8 := aupN e kp8 (by omega)
  have fr := fr.up e (by omega)
  have kp9 := aupE e
  refine q_putF (i := 44) rfl ffX10_init_42 kO (fun _ => rfl) (fun _ => rfl) rfl (P1_gen fun M e => ?_)
  have kp0 := aupN e kp0 (by omega)
  have kp1 := aupN e kp1 (by omega)
  have kp2 := aupN e kp2 (by omega)
  have kp3 := aupN e kp3 (by omega)
  have kp4 := aupN e kp4 (by omega)
  have kp5 := aupN e kp5 (by omega)
  have kp6 := aupN e kp6 (by omega)
  have kp7 := aupN e kp7 (by omega)
  have kp8 := aupN e kp8 (by omega)
  have kp9 := aupN e kp9 (by omega)
  have fr := fr.up e (by omega)
  have kO := aupE e
  refine q_aload_n (i := 45) rfl rfl ?_
  refine q_bipush (i := 46) rfl (by decide) ?_
  refine q_newi (i := 47) 6 rfl (by decide) w_ci (by omega) (by omega) (P1_gen fun M e => ?_)
  have kO := aupN e kO (by omega)
  have kp0 := aupN e kp0 (by omega)
  have kp1 := aupN e kp1 (by omega)
  have kp2 := aupN e kp2 (by omega)
  have kp3 := aupN e kp3 (by omega)
  have kp4 := aupN e kp4 (by omega)
  have kp5 := aupN e kp5 (by omega)
  have kp6 := aupN e kp6 (by omega)
  have kp7 := aupN e kp7 (by omega)
  have kp8 := aupN e kp8 (by omega)
  have kp9 := aupN e kp9 (by omega)
  have fr := fr.up e (by omega)
  have kp10 := aupE e
  refine q_putF (i := 48) rfl ffX10_init_45 kO (fun _ => rfl) (fun _ => rfl) rfl (P1_gen fun M e => ?_)
  have kp0 := aupN e kp0 (by omega)
  have kp1 := aupN e kp1 (by omega)
  have kp2 := aupN e kp2 (by omega)
  have kp3 := aupN e kp3 (by omega)
  have kp4 := aupN e kp4 (by omega)
  have kp5 := aupN e kp5 (by omega)
  have kp6 := aupN e kp6 (by omega)
  have kp7 := aupN e kp7 (by omega)
  have kp8 := aupN e kp8 (by omega)
  have kp9 := aupN e kp9 (by omega)
  have kp10 := aupN e kp10 (by omega)
  have fr := fr.up e (by omega)
  have kO := aupE e
  refine q_aload_n (i := 49) rfl rfl ?_
  refine q_getf (i := 50) rfl fX10_16 kO rfl ?_
  refine q_bipush (i := 51) rfl (by decide) ?_
  refine q_iconst (i := 52) rfl ?_
  refine q_iast (i := 53) 31 rfl kp2 rfl (by decide) (by decide) (P1_gen fun M e => ?_)
  have kO := aupN e kO (by omega)
  have kp0 := aupN e kp0 (by omega)
  have kp1 := aupN e kp1 (by omega)
  have kp3 := aupN e kp3 (by omega)
  have kp4 := aupN e kp4 (by omega)
  have kp5 := aupN e kp5 (by omega)
  have kp6 := aupN e kp6 (by omega)
  have kp7 := aupN e kp7 (by omega)
  have kp8 := aupN e kp8 (by omega)
  have kp9 := aupN e kp9 (by omega)
  have kp10 := aupN e kp10 (by omega)
  have fr := fr.up e (by omega)
  have kp2 := aupE e
  refine q_end ⟨rfl, h M ⟨⟨_, _, _, _, _, _, kO⟩, ⟨ln0_ok, _, kp0, YLn.zero (fun _ _ => rfl)⟩, ⟨g0_ok (by decide) (by decide), _, kp2, ⟨rfl, fun k hk => absurd hk (Nat.not_lt_zero k)⟩, ?_⟩, ⟨by decide, _, kp4, fun i hi => absurd hi (Nat.not_lt_zero i)⟩, ⟨_, _, kp5, kp6, rfl, rfl⟩, ⟨by decide, _, kp7, fun i hi => absurd hi (Nat.not_lt_zero i)⟩, ⟨by decide, _, kp8, fun i hi => absurd hi (Nat.not_lt_zero i)⟩, ⟨by decide, _, kp9, fun i hi => absurd hi (Nat.not_lt_zero i)⟩, ⟨⟨_, kp1⟩, ⟨_, kp3⟩, _, kp10⟩, by decide, by decide, by decide, fun i hi => absurd hi (Nat.not_lt_zero i), fun i hi => absurd hi (Nat.not_lt_zero i), by decide, by decide⟩ fr⟩
  refine ⟨rfl, rfl, fun j hj => ?_, rfl, fun k hk => absurd hk (Nat.not_lt_zero k)⟩
  rw [zup_n (by omega)]
  have : ∀ j, j < 6 → ([0, 0, 0, 0, 0, 0] : List Int).getD j 0 = 0 := by decide
  exact (this j hj).symm
