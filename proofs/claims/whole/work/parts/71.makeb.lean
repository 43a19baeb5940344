/-! ===== making: new objects, new arrays, constructors ===== -/
section PN
variable {mr : MR} {pc : Nat} {L st : List Value} {n : Nat} {M : AM} {k sl : Nat} {Q : Nat → List Value → Nat → AM → Prop}
theorem P1.grow {m' kc ns pc' : Nat} {st0 : List Value} {M' : AM} (h : P1 mr pc' L (.ref n :: st) (n + m') M' (k - kc) (sl - ns) Q) (hm : 0 < m') (h1 : kc ≤ k) (h2 : ns ≤ sl)
    {p : Program} {l : Launch} {e : Env} {R : Room} {s : State} {m : MethodId} {args : Array Value} {below : List Frame} {meth : Method} {c : Code} {D : va_G} {cA : Nat → ClassId} {ad ad' : Nat → Nat} {A : Nat → Prop} {H0 H H1 : Heap} {locs : List Loc} {cells slots : Nat} {ls : Array Slot} {x0 : Nat} {Z : State → Prop}
    (S : St1 p R s m args meth c D cA ad A H0 H locs (cells + k) (slots + sl) ls x0 mr L st0 n M) (rS : rk n st)
    (hk : ∀ (ad' : Nat → Nat) (n' : Nat) (M' : AM) (pc' : Nat) (L' : List Value) (H' : Heap) (locs' : List Loc) (ls' : Array Slot), Q pc' L' n' M' → (∀ j, j < n ∨ n' ≤ j → ad' j = ad j) → n ≤ n' → (∀ j, j < n' → A (ad' j)) → Wd1 D cA ad' n' M' H' → va_S A H0 H' locs' → LV0 x0 ad' ls' (mrL mr) L' → W p l e R s m args below meth c H' locs' (cells + k) (slots + sl) Z (F0 m pc' ls' []))
    (ea : ∀ j, j < n ∨ n + m' ≤ j → ad' j = ad j) (hM : ∀ j, j < n → M' j = M j) (hR : ∀ x y, M' x = some y → x < n + m' ∧ Rk (n + m') y)
    (hP : va_P D vwCl (wl cA ad n M ++ (List.range m').map (fun i => (ad' (n + i), wc cA ad' (M' (n + i))))) H1) (hD : va_D A (wl cA ad n M ++ (List.range m').map (fun i => (ad' (n + i), wc cA ad' (M' (n + i)))))) (hS1 : va_S A H0 H1 locs) :
    W p l e R s m args below meth c H1 locs (cells + kc) (slots + ns) Z (F0 m pc' ls (.ref (ad' n) :: st.map (cv ad))) := by
  obtain ⟨hC, hZ, hN, hA, hAd, hW, hS, hL, rL, -⟩ := S
  have ea1 : ∀ j, j < n → ad' j = ad j := fun j hj => ea j (Or.inl hj)
  obtain ⟨hW', hA'⟩ := hW.app ea1 hM hR hP hD
  have e1 : cells + kc + (k - kc) = cells + k := by omega
  have e2 : slots + ns + (sl - ns) = slots + sl := by omega
  have h3 := h p l e R s m args below meth c D cA ad' A H0 H1 locs (cells + kc) (slots + ns) ls x0 Z ⟨by rw [e1, e2]; exact hC, hZ, hN, hA, hA', hW', hS1, hL.cg rL ea1, rk_mono rL (by omega), rk_c (by omega) (rk_mono rS (by omega))⟩ (fun ad2 n2 M2 pc2 L2 H2 locs2 ls2 a1 a2 a3 a4 a5 a6 a7 => by
    rw [e1, e2]
    exact hk ad2 n2 M2 pc2 L2 H2 locs2 ls2 a1 (fun j hj => (a2 j (by omega)).trans (ea j (by omega))) (by omega) a4 a5 a6 a7)
  have e3 : (Value.ref n :: st).map (cv ad') = .ref (ad' n) :: st.map (cv ad) := by
    rw [List.map_cons, cvs_cg rS ea1]
    rfl
  rw [e3] at h3
  exact h3
theorem P1.grow1 {kc ns pc' : Nat} {st0 : List Value} {cc : AE} {x : va_E} (h : P1 mr pc' L (.ref n :: st) (n + 1) (aup M n cc) (k - kc) (sl - ns) Q) (h1 : kc ≤ k) (h2 : ns ≤ sl)
    {p : Program} {l : Launch} {e : Env} {R : Room} {s : State} {m : MethodId} {args : Array Value} {below : List Frame} {meth : Method} {c : Code} {D : va_G} {cA : Nat → ClassId} {ad : Nat → Nat} {A : Nat → Prop} {H0 H H1 : Heap} {locs : List Loc} {cells slots q : Nat} {ls : Array Slot} {x0 : Nat} {Z : State → Prop}
    (S : St1 p R s m args meth c D cA ad A H0 H locs (cells + k) (slots + sl) ls x0 mr L st0 n M) (rS : rk n st)
    (hk : ∀ (ad' : Nat → Nat) (n' : Nat) (M' : AM) (pc' : Nat) (L' : List Value) (H' : Heap) (locs' : List Loc) (ls' : Array Slot), Q pc' L' n' M' → (∀ j, j < n ∨ n' ≤ j → ad' j = ad j) → n ≤ n' → (∀ j, j < n' → A (ad' j)) → Wd1 D cA ad' n' M' H' → va_S A H0 H' locs' → LV0 x0 ad' ls' (mrL mr) L' → W p l e R s m args below meth c H' locs' (cells + k) (slots + sl) Z (F0 m pc' ls' []))
    (hx : ∀ ad', wc cA ad' (some cc) = x) (hcc : Rk n cc)
    (hP : va_P D vwCl (wl cA ad n M ++ [(q, x)]) H1) (hD : va_D A (wl cA ad n M ++ [(q, x)])) (hS1 : va_S A H0 H1 locs) :
    W p l e R s m args below meth c H1 locs (cells + kc) (slots + ns) Z (F0 m pc' ls (.ref q :: st.map (cv ad))) := by
  have en : (fun j => if j = n then q else ad j) n = q := if_pos rfl
  have em : aup M n cc n = some cc := by unfold aup; rw [if_pos rfl]
  have eL : (List.range 1).map (fun i => ((fun j => if j = n then q else ad j) (n + i), wc cA (fun j => if j = n then q else ad j) (aup M n cc (n + i)))) = [(q, x)] := by
    show [((fun j => if j = n then q else ad j) n, wc cA (fun j => if j = n then q else ad j) (aup M n cc n))] = _
    rw [en, em, hx]
  have h4 := P1.grow (ad' := fun j => if j = n then q else ad j) (H1 := H1) h (by omega) h1 h2 S rS hk (fun j hj => if_neg (by omega)) (fun j hj => by unfold aup; rw [if_neg (by omega)]) (fun y z hy => by
    unfold aup at hy
    by_cases ee : y = n
    · rw [if_pos ee] at hy
      cases hy
      exact ⟨by omega, hcc.mono (by omega)⟩
    · rw [if_neg ee] at hy
      exact ⟨by have := S.2.2.2.2.2.1.1.2.2 y z hy; omega, (S.2.2.2.2.2.1.2 y z hy).mono (by omega)⟩) (by rw [eL]; exact hP) (by rw [eL]; exact hD) hS1
  rw [show (if n = n then q else ad n) = q from if_pos rfl] at h4
  exact h4
def nref (v : Value) : Bool := match v with
  | .ref _ => false
  | _ => true
theorem nref_rk {n : Nat} {fs : List Value} (h : fs.all nref = true) : rk n fs := fun a ha => by
  have := List.all_eq_true.mp h _ ha
  cases this
theorem nref_cv {fs : List Value} (h : fs.all nref = true) (ad : Nat → Nat) : fs.map (cv ad) = fs := by
  have : fs.map (cv ad) = fs.map id := by
    apply List.map_congr_left
    intro v hv
    have h1 := List.all_eq_true.mp h v hv
    cases v with
    | ref a => cases h1
    | _ => rfl
  rw [this, List.map_id]
def NOk (mr : MR) (idx ci N : Nat) (fs : List Value) : Prop := ∃ (C : String) (T : u_T) (ty : Nat → FieldType), (Jvm.Cond.classLink (mrY mr).cls idx C ∈ lwg ∧ Jvm.Cond.instantiable C N ∈ lwg ∧ Jvm.Cond.initialized C ∈ lwg) ∧ vwCl[ci]? = some (C, T, N) ∧ (∀ k, k < N → parseFieldDescriptor (T k).2.2.1 = some (ty k)) ∧ (∀ j, j < N → defaultValue (ty j) = vp_V fs j) ∧ fs.all nref = true
theorem q_new {i idx ci N : Nat} {fs : List Value} (hi : (mrT mr)[i]? = some (pc, .new idx, 3)) (hw : NOk mr idx ci N fs) (h1 : 1 ≤ k) (h2 : N ≤ sl) (h : P1 mr (pc + 3) L (.ref n :: st) (n + 1) (aup M n (zO ci fs)) (k - 1) (sl - N) Q) : P1 mr pc L st n M k sl Q := by
  intro p l e R s m args below meth c D cA ad A H0 H locs cells slots ls x0 Z S hk
  have S0 := S
  obtain ⟨hC, hZ, hN, hA, hAd, hW, hS, hL, rL, rS⟩ := S
  obtain ⟨C, T, ty, hw, hc, hty, hfs, hnr⟩ := hw
  have hts := hC.2.2.2.2.1
  have g1 := hC.2.2.2.2.2.2.2.2.2.1
  have g2 := hC.2.2.2.2.2.2.2.2.2.2
  refine va_new hC.1 hC.2.1 hts (cls_in hc) ty hty hC.2.2.2.1 (hts _ hw.1) (hts _ hw.2.1) (hts _ hw.2.2) hC.2.2.2.2.2.1 hW.1.1 (hW.D1 hAd) hS hA hc (fs := fs) hfs (by omega) (by show slots + N ≤ R.slots; omega) (hC.dec hi) (fun q H1 hP hD hS1 => ?_)
  exact P1.grow1 h h1 h2 S0 rS hk (fun ad' => by show (Sum.inr (ci, fs.map (cv ad')) : va_E) = _; rw [nref_cv hnr]) (nref_rk hnr) hP hD hS1
theorem q_newi {i : Nat} {a : Int} (N : Nat) (hi : (mrT mr)[i]? = some (pc, .newarray .int, 2)) (hN : ¬ Int32.ofInt a < 0 ∧ (Int32.ofInt a).toNatClampNeg = N ∧ N ≤ 100000) (hw : Jvm.Cond.arrayClass .int ∈ lwg) (h1 : 1 ≤ k) (h2 : N ≤ sl) (h : P1 mr (pc + 2) L (.ref n :: st) (n + 1) (aup M n (zA N (fun _ => 0))) (k - 1) (sl - N) Q) : P1 mr pc L (zI a :: st) n M k sl Q := by
  intro p l e R s m args below meth c D cA ad A H0 H locs cells slots ls x0 Z S hk
  have S0 := S
  obtain ⟨hC, hZ, hNm, hA, hAd, hW, hS, hL, rL, rS⟩ := S
  have hts := hC.2.2.2.2.1
  have g1 := hC.2.2.2.2.2.2.2.2.2.1
  have g2 := hC.2.2.2.2.2.2.2.2.2.2
  refine va_newa hC.1 hC.2.1 (atype := .int) (hts _ hw) (ty := .int) rfl hC.2.2.2.2.2.1 hW.1.1 (hW.D1 hAd) hS hA (N' := N) (a0 := (N, .inl (fun _ => Int32.ofInt 0))) (fun cA => rfl) hN.1 hN.2.1 (by show N * 4 ≤ 536870912; have := hN.2.2; omega) (by omega) (by omega) (hC.dec hi) (fun q cN H1 hK hP hD hS1 => ?_)
  have ec : cN = cA 0 := Option.some.inj ((hK.2 5 (cN, .int) rfl).2.symm.trans (hK.2 0 (cA 0, .int) rfl).2)
  subst ec
  exact P1.grow1 h h1 h2 S0 (rk_t rS) hk (fun ad' => rfl) trivial hP hD hS1
theorem q_newz {i : Nat} {a : Int} (N : Nat) (hi : (mrT mr)[i]? = some (pc, .newarray .boolean, 2)) (hN : ¬ Int32.ofInt a < 0 ∧ (Int32.ofInt a).toNatClampNeg = N ∧ N ≤ 100000) (hw : Jvm.Cond.arrayClass .boolean ∈ lwg) (h1 : 1 ≤ k) (h2 : N ≤ sl) (h : P1 mr (pc + 2) L (.ref n :: st) (n + 1) (aup M n (zB N (fun _ => 0))) (k - 1) (sl - N) Q) : P1 mr pc L (zI a :: st) n M k sl Q := by
  intro p l e R s m args below meth c D cA ad A H0 H locs cells slots ls x0 Z S hk
  have S0 := S
  obtain ⟨hC, hZ, hNm, hA, hAd, hW, hS, hL, rL, rS⟩ := S
  have hts := hC.2.2.2.2.1
  have g1 := hC.2.2.2.2.2.2.2.2.2.1
  have g2 := hC.2.2.2.2.2.2.2.2.2.2
  refine va_newa hC.1 hC.2.1 (atype := .boolean) (hts _ hw) (ty := .boolean) rfl hC.2.2.2.2.2.1 hW.1.1 (hW.D1 hAd) hS hA (N' := N) (a0 := (N, .inl (fun _ => Int32.ofInt 0))) (fun cA => rfl) hN.1 hN.2.1 (by show N * 1 ≤ 536870912; have := hN.2.2; omega) (by omega) (by omega) (hC.dec hi) (fun q cN H1 hK hP hD hS1 => ?_)
  have ec : cN = cA 1 := Option.some.inj ((hK.2 5 (cN, .boolean) rfl).2.symm.trans (hK.2 1 (cA 1, .boolean) rfl).2)
  subst ec
  exact P1.grow1 h h1 h2 S0 (rk_t rS) hk (fun ad' => rfl) trivial hP hD hS1
theorem q_newq {i idx t : Nat} {a : Int} (N : Nat) {C : String} (hi : (mrT mr)[i]? = some (pc, .anewarray idx, 3)) (hN : ¬ Int32.ofInt a < 0 ∧ (Int32.ofInt a).toNatClampNeg = N ∧ N ≤ 100000) (hw : Jvm.Cond.classLink (mrY mr).cls idx C ∈ lwg) (ht : (t = 2 ∧ C = RX2) ∨ (t = 3 ∧ C = RX6)) (h1 : 1 ≤ k) (h2 : N ≤ sl) (h : P1 mr (pc + 3) L (.ref n :: st) (n + 1) (aup M n (zR t N (fun _ => none))) (k - 1) (sl - N) Q) : P1 mr pc L (zI a :: st) n M k sl Q := by
  intro p l e R s m args below meth c D cA ad A H0 H locs cells slots ls x0 Z S hk
  have S0 := S
  obtain ⟨hC, hZ, hNm, hA, hAd, hW, hS, hL, rL, rS⟩ := S
  have hts := hC.2.2.2.2.1
  have g1 := hC.2.2.2.2.2.2.2.2.2.1
  have g2 := hC.2.2.2.2.2.2.2.2.2.2
  have hao : va_AO C s := by
    rcases ht with ⟨-, rfl⟩ | ⟨-, rfl⟩
    · exact hZ.2.1
    · exact hZ.2.2.1
  refine va_newq hC.1 hC.2.1 hC.2.2.2.1 (hts _ hw) hao hC.2.2.2.2.2.1 hW.1.1 (hW.D1 hAd) hS hA (N' := N) hN.1 hN.2.1 (by have := hN.2.2; omega) (by omega) (by omega) (hC.dec hi) (fun q cN H1 hK hP hD hS1 => ?_)
  have ec : cN = cA t := by
    rcases ht with ⟨rfl, rfl⟩ | ⟨rfl, rfl⟩
    · obtain ⟨_, _, _, _, _, z1⟩ := (hK.2 5 (cN, .object RX2) rfl).2
      obtain ⟨_, _, _, _, _, z2⟩ := (hK.2 2 (cA 2, .object RX2) rfl).2
      exact Option.some.inj (z1.symm.trans z2)
    · obtain ⟨_, _, _, _, _, z1⟩ := (hK.2 5 (cN, .object RX6) rfl).2
      obtain ⟨_, _, _, _, _, z2⟩ := (hK.2 3 (cA 3, .object RX6) rfl).2
      exact Option.some.inj (z1.symm.trans z2)
  subst ec
  exact P1.grow1 h h1 h2 S0 (rk_t rS) hk (fun ad' => rfl) (fun j a ha => by cases ha) hP hD hS1
theorem q_iast {i o N : Nat} {g : Nat → Int} {a v : Int} (j : Nat) (hi : (mrT mr)[i]? = some (pc, .iastore, 1)) (hM : M o = some (zA N g)) (he : a = (j : Int)) (hj : j < N) (hN : N < 2147483648) (h : P1 mr (pc + 1) L st n (aup M o (zA N (zup g j v))) k sl Q) : P1 mr pc L (zI v :: zI a :: .ref o :: st) n M k sl Q := by
  subst he
  intro p l e R s m args below meth c D cA ad A H0 H locs cells slots ls x0 Z ⟨hC, hZ, hNm, hA, hAd, hW, hS, hL, rL, rS⟩ hk
  obtain ⟨g1, g2⟩ := zI_in (a := (j : Int)) (n := N) (by omega) hN
  refine va_iast hC.1 hC.2.1 hC.2.2.2.2.2.1 hW.1.1 (hW.D1 hAd) hS o 0 (by rw [wl_get (hW.1.2.2 o _ hM), hM]; rfl) rfl g1 (hC.dec hi) (fun H1 locs1 hP hD hS1 => ?_)
  refine h p l e R s m args below meth c D cA ad A H0 H1 locs1 cells slots ls x0 Z ⟨hC, hZ, hNm, hA, hAd, hW.put (hW.1.2.2 o _ hM) trivial ?_, hS1, hL, rL, rk_t (rk_t (rk_t rS))⟩ hk
  rw [g2, zup_upd] at hP
  exact hP
theorem q_aast {i o v t N ci : Nat} {g : Nat → Option Nat} {vs : List Value} {a : Int} (j : Nat) (hi : (mrT mr)[i]? = some (pc, .aastore, 1)) (hM : M o = some (zR t N g)) (hv : M v = some (zO ci vs)) (ht : (t = 2 ∧ ci = 2) ∨ (t = 3 ∧ ci = 6)) (he : a = (j : Int)) (hj : j < N) (hN : N < 2147483648) (h : P1 mr (pc + 1) L st n (aup M o (zR t N (fun x => if x = j then some v else g x))) k sl Q) : P1 mr pc L (.ref v :: zI a :: .ref o :: st) n M k sl Q := by
  subst he
  intro p l e R s m args below meth c D cA ad A H0 H locs cells slots ls x0 Z ⟨hC, hZ, hNm, hA, hAd, hW, hS, hL, rL, rS⟩ hk
  obtain ⟨g1, g2⟩ := zI_in (a := (j : Int)) (n := N) (by omega) hN
  have hrk : Rk n (zR t N (fun x => if x = j then some v else g x)) := fun x b hb => by
    dsimp only at hb
    split at hb
    · cases hb; exact rk_h rS
    · exact hW.2 o _ hM x b hb
  have key : ∀ (H1 : Heap) (locs1 : List Loc), va_P D vwCl ((wl cA ad n M).set o (ad o, .inl (cA t, N, .inr (.inr (.inr (.inr (va_up (fun j => (g j).map ad) (Int32.ofInt (j : Int)).toNatClampNeg (some (ad v))))))))) H1 → va_S A H0 H1 locs1 → W p l e R s m args below meth c H1 locs1 cells slots Z (F0 m (pc + 1) ls (st.map (cv ad))) := fun H1 locs1 hP hS1 => by
    refine h p l e R s m args below meth c D cA ad A H0 H1 locs1 cells slots ls x0 Z ⟨hC, hZ, hNm, hA, hAd, hW.put (hW.1.2.2 o _ hM) hrk ?_, hS1, hL, rL, rk_t (rk_t (rk_t rS))⟩ hk
    have ef : va_up (fun j => (g j).map ad) (Int32.ofInt (j : Int)).toNatClampNeg (some (ad v)) = fun x => (if x = j then some v else g x).map ad := by
      rw [g2]
      funext x
      unfold va_up
      by_cases ee : x = j
      · rw [if_pos (by omega), if_pos ee]; rfl
      · rw [if_neg (by omega), if_neg ee]
    rw [ef] at hP
    exact hP
  rcases ht with ⟨rfl, rfl⟩ | ⟨rfl, rfl⟩
  · exact va_astq hC.1 hC.2.1 hC.2.2.2.2.2.1 hW.1.1 (hW.D1 hAd) hS o 2 v 2 (r := (RX2, TX2, 3)) (vs := vs.map (cv ad)) (by rw [wl_get (hW.1.2.2 o _ hM), hM]; rfl) rfl (by rw [wl_get (hW.1.2.2 v _ hv), hv]; rfl) rfl g1 (hC.dec hi) (fun H1 locs1 hP _ hS1 => key H1 locs1 hP hS1)
  · exact va_astq hC.1 hC.2.1 hC.2.2.2.2.2.1 hW.1.1 (hW.D1 hAd) hS o 3 v 6 (r := (RX6, TX6, 8)) (vs := vs.map (cv ad)) (by rw [wl_get (hW.1.2.2 o _ hM), hM]; rfl) rfl (by rw [wl_get (hW.1.2.2 v _ hv), hv]; rfl) rfl g1 (hC.dec hi) (fun H1 locs1 hP _ hS1 => key H1 locs1 hP hS1)
theorem q_obj {i idx a : Nat} (hi : (mrT mr)[i]? = some (pc, .invokespecial idx, 3)) (hl : Jvm.Cond.methodLink (mrY mr).cls idx objectInit ∈ lwg) (ho : Jvm.Cond.instanceMethod objectInit ∈ lwg ∧ Jvm.Cond.code objectInit ⟨#[0xb1]⟩ 1 none ∈ lwg) (hF : Nat.ble 1 (mrF mr) = true) (hWd : Nat.ble 12 (mrW mr) = true) (h : P1 mr (pc + 3) L [] n M k sl Q) : P1 mr pc L [.ref a] n M k sl Q := by
  intro p l e R s m args below meth c D cA ad A H0 H locs cells slots ls x0 Z ⟨hC, hZ, hNm, hA, hAd, hW, hS, hL, rL, rS⟩ hk
  have hts := hC.2.2.2.2.1
  refine W.objInit hC.1 hC.2.1 hC.2.2.2.1 (hts _ hl) (hts _ ho.1) (hts _ ho.2) rfl (hL.1.1.trans hC.2.2.1.symm) rfl (hC.dec hi) (Nat.le_trans (Nat.le_of_ble_eq_true hF) hC.2.2.2.2.2.2.1) (Nat.le_trans (Nat.le_of_ble_eq_true hWd) hC.2.2.2.2.2.2.2.1) ?_
  refine W.eq (g2 := F0 m (pc + 3) ls []) rfl ?_
  exact h p l e R s m args below meth c D cA ad A H0 H locs cells slots ls x0 Z ⟨hC, hZ, hNm, hA, hAd, hW, hS, hL, rL, rk_nil⟩ hk
def FA1 (ad : Nat → Nat) (n sz : Nat) : Nat → Prop := fun q => FA ad n q ∨ sz ≤ q
def C1 (mr : MR) (b n : Nat) (M : AM) (k sl : Nat) (Q : Nat → AM → Prop) : Prop :=
  ∀ (l : Launch) (D : va_G) (cA : Nat → ClassId) (ad : Nat → Nat) (sz : Nat),
    Met l (mrY mr) (mrWs mr) { frames := mrF mr, cells := k, slots := sl, locals := mrW mr } (va_Pc [.ref (ad b)] (fun U : State => U.heap.size = sz ∧ va_K D vwCl (tysL cA) U ∧ Zw U ∧ Wd1 D cA ad n M U.heap))
      (fun (_ : Array Value) (st : State) (oc : Outcome) (t : State) => ∃ (ad' : Nat → Nat) (n' : Nat) (M' : AM), oc = Outcome.returned none ∧ Q n' M' ∧ (∀ j, j < n ∨ n' ≤ j → ad' j = ad j) ∧ n ≤ n' ∧ (∀ j, j < n' → FA1 ad n sz (ad' j)) ∧ Wd1 D cA ad' n' M' t.heap ∧ va_F (FA1 ad n sz) st t) k sl (FA1 ad n sz)
theorem C1_of {b pcr : Nat} {Q0 : Nat → AM → Prop} (ht : TabOk mr) (hpl : plainName (mrY mr).cls = true) (hini : (mrY mr).name = "<init>") (hr0 : mrR mr = none) (hn : Nat.ble 1 (mrL mr) = true) (hd : decode (mrB mr) pcr = .ok (.return_, 1)) (hb : b < n) (h : P1 mr 0 (en (mrL mr) [.ref b]) [] n M k sl (fun pc' _ n' M' => pc' = pcr ∧ Q0 n' M')) : C1 mr b n M k sl Q0 := by
  intro l D cA ad sz
  have hn : (lg_sl [Value.ref b]).length ≤ mrL mr := Nat.le_of_ble_eq_true hn
  refine Met.ofW (cc := mrB mr) (maxL := mrL mr) (ret := mrR mr) hpl rfl ?_
  intro p e s m args below meth c s₁ B hml hv
  obtain ⟨rfl, hsz, hK, hZ, hW⟩ := hv
  have hts := atoms_spec (ws := mrWs mr) B.pre
  have hown : s.vm.findClass (mrY mr).cls = some m.cls := findClass_of_methodNamed B.named
  have hlocks := B.notSynchronized
  have hr := B.returns
  have hin : meth.name = (mrY mr).name := (name_of_methodNamed B.named B.method).1
  have hl := lv_entry ([Value.ref b].map (cv ad)) (n := mrL mr) (by rw [lg_sl_cv]; exact hn)
  rw [lg_entry_eq]
  refine h p l e (headSpec (mrWs mr) { frames := mrF mr, cells := k, slots := sl, locals := mrW mr }).room s m _ below meth c D cA ad (FA1 ad n sz) s.heap s.heap [] 0 0 _ (ad b) _ ⟨⟨B.exec, B.bytes, hml, hown, fun w hw => hts w (List.mem_cons_of_mem _ hw), hK, Nat.le_refl _, Nat.le_refl _, ht, by rw [Nat.zero_add]; exact Nat.le_refl _, by rw [Nat.zero_add]; exact Nat.le_refl _⟩, hZ, fun _ => hin.trans hini, fun q hq => Or.inr (by rw [← hsz]; exact hq), fun j hj => Or.inl ⟨j, hj, rfl⟩, hW, va_S.rf, ⟨⟨hl.1, hl.2.1, en_len [Value.ref b] _ hn, fun i v hi hv => ?_⟩, hl.2.2 (0, .ref (ad b)) List.mem_cons_self⟩, fun a ha => ?_, rk_nil⟩ ?_
  · have := hl.2.2 _ (en_args ad [Value.ref b] (mrL mr) 0 i v hi hv)
    rw [Nat.zero_add] at this
    exact this
  · have ha : Value.ref a ∈ (Value.ref b :: List.replicate (mrL mr - 1) (.retAddr 0)) := ha
    rcases List.mem_cons.mp ha with q | q
    · cases q; exact hb
    · have := List.eq_of_mem_replicate q
      cases this
  · intro ad' n' M' pc' L' H' locs' ls' hq a2 a3 a4 a5 a6 a7
    obtain ⟨rfl, hq⟩ := hq
    rw [Nat.zero_add, Nat.zero_add]
    exact W.vret B.exec B.bytes (hr.trans hr0) (fun t ht2 hWm => ⟨ad', n', M', rfl, hq, a2, a3, a4, by rw [ht2]; exact a5, a6.F ht2⟩) a6.2.2 hd
def IOk (mr : MR) (idx : Nat) (mr' : MR) : Prop :=
  (Jvm.Cond.methodLink (mrY mr).cls idx (mrY mr') ∈ lwg ∨ ∃ host, ((mrY mr).cls, idx, mrY mr', host) ∈ nests) ∧ (mrR mr' = none ∧ (mrY mr').name = "<init>" ∧ Jvm.Cond.instanceMethod (mrY mr') ∈ lwg ∧ Jvm.Cond.initialized (mrY mr').cls ∈ lwg ∧ Jvm.Cond.code (mrY mr') (mrB mr') (mrL mr') (mrR mr') ∈ lwg ∧ ((mrY mr').cls ≠ "java/lang/invoke/MethodHandle" ∧ (mrY mr').cls ≠ "java/lang/invoke/VarHandle" ∧ (parseMethodDescriptor (mrY mr').desc).map (fun d => d.parameters.length) = some 0)) ∧ Nat.ble (mrF mr' + 1) (mrF mr) = true ∧ Nat.ble (8 + (mrL mr' + 11) + mrW mr') (mrW mr) = true
set_option maxHeartbeats 4000000 in
theorem q_init {i idx b kc ns : Nat} {mr' : MR} (hi : (mrT mr)[i]? = some (pc, .invokespecial idx, 3)) (hv : IOk mr idx mr') (hr : Nat.ble (st.map fun v => v.category).sum 8 = true) (h1 : kc ≤ k) (h2 : ns ≤ sl) (h : C1 mr' b n M kc ns (fun n' M' => P1 mr (pc + 3) L st n' M' (k - kc) (sl - ns) Q)) : P1 mr pc L (.ref b :: st) n M k sl Q := by
  intro p l e R s m args below meth c D cA ad A H0 H locs cells slots ls x0 Z ⟨hC, hZ, hNm, hA, hAd, hW, hS, hL, rL, rS⟩ hk
  obtain ⟨v1, ⟨v2, v3, v4, v5, v6, ⟨v7, v8, v9⟩⟩, v10, v11⟩ := hv
  have v10 := Nat.le_of_ble_eq_true v10
  have v11 := Nat.le_of_ble_eq_true v11
  have hr := Nat.le_of_ble_eq_true hr
  have hts := hC.2.2.2.2.1
  have g1 := hC.2.2.2.2.2.2.2.2.2.1
  have g2 := hC.2.2.2.2.2.2.2.2.2.2
  have hpre : PreS s H (va_Pc [.ref (ad b)] (fun U : State => U.heap.size = H.size ∧ va_K D vwCl (tysL cA) U ∧ Zw U ∧ Wd1 D cA ad n M U.heap)) (.ref (ad b) :: []) := ⟨fun a U g mk z => by obtain ⟨z1, z2, z3, z4, z5⟩ := z; exact ⟨z1, z2, va_K.moved (u := U) (U := U.calling g mk a) (Vm.Alike.refl U.vm) z3, z4.blind g mk a, z5⟩, fun U hU hWm => ⟨rfl, by rw [hU], va_K.moved hWm.alike hC.2.2.2.2.2.1, hZ.warm hWm, by rw [hU]; exact hW⟩⟩
  rw [v2] at v6
  have hmw : Jvm.Cond.code (mrY mr') (mrB mr') (mrL mr') none ∈ mrWs mr' := by
    show Jvm.Cond.code (mrY mr') (mrB mr') (mrL mr') none ∈ Jvm.Cond.code (mrY mr') (mrB mr') (mrL mr') (mrR mr') :: lwg
    rw [v2]
    exact List.mem_cons_self
  have hpay : ∀ w ∈ mrWs mr', ∀ (a' : Array Value) (U : State), s.WarmedH U.vm → w.before a' U = true := pay_in hts (lw_goodIn (by rw [v2]; exact v6))
  have hlen : ∀ sig, parseMethodDescriptor (mrY mr').desc = some sig → 0 = sig.parameters.length := fun sig hs => by rw [hs] at v9; exact (Option.some.inj v9).symm
  have hfr : mrF mr' + 1 ≤ R.frames := Nat.le_trans v10 hC.2.2.2.2.2.2.1
  have hlo : 8 + (mrL mr' + 11) + mrW mr' ≤ R.locals := Nat.le_trans v11 hC.2.2.2.2.2.2.2.1
  have hcd : (Jvm.Cond.code (mrY mr') (mrB mr') (mrL mr') none).before args s = true := hts _ v6
  have hin0 : (Jvm.Cond.initialized (mrY mr').cls).before args s = true := hts _ v5
  have him : (Jvm.Cond.instanceMethod (mrY mr')).before args s = true := hts _ v4
  have hfix : CallFix p m c (mrB mr) (mrL mr) s args lwg (mrY mr).cls := ⟨hC.1, hC.2.1, hC.2.2.1, hC.2.2.2.1, hts⟩
  have hroom := lv_room (m := m) (pc := pc) (ls := ls) (rest := (Value.ref b :: st).map (cv ad)) (st := st.map (cv ad)) (by rw [cv_sum]; exact hr)
  have hdec := hC.dec hi
  have hM := h l D cA ad H.size
  have hcs : cells + kc ≤ R.cells ∧ slots + ns ≤ R.slots := ⟨by omega, by omega⟩
  have hrun : va_Run p l e R s m args below meth c H locs cells slots kc ns (F0 m pc ls ((Value.ref b :: st).map (cv ad))) (st.map (cv ad)) (fun (st1 : State) (oc : Outcome) (t : State) => ∃ (ad' : Nat → Nat) (n' : Nat) (M' : AM), oc = Outcome.returned none ∧ P1 mr (pc + 3) L st n' M' (k - kc) (sl - ns) Q ∧ (∀ j, j < n ∨ n' ≤ j → ad' j = ad j) ∧ n ≤ n' ∧ (∀ j, j < n' → FA1 ad n H.size (ad' j)) ∧ Wd1 D cA ad' n' M' t.heap ∧ va_F (FA1 ad n H.size) st1 t) (FA1 ad n H.size) := by
    rcases v1 with v1 | ⟨host, v1⟩
    · have hlk : (Jvm.Cond.methodLink (mrY mr).cls idx (mrY mr')).before args s = true := hts _ v1
      have hcw : CallB R s args (mrY mr).cls idx (mrY mr') (mrB mr') (mrL mr') none (mrWs mr') { frames := mrF mr', cells := kc, slots := ns, locals := mrW mr' } kc ns 0 := ⟨rfl, rfl, hfr, hlo, hpay, hmw, hcd, hin0, ⟨v7, v8⟩, hlen, hlk⟩
      exact va_runI (As := []) (rest := st.map (cv ad)) (b := ad b) hfix hM ⟨hcw, v3, him⟩ hpre rfl rfl hL.1.1 rfl hroom hdec hcs
    · have hnw : va_Nw (.methodLinkNest (mrY mr).cls idx (mrY mr') host) s := hZ.1 ((mrY mr).cls, idx, mrY mr', host) v1
      have hlk : (Jvm.Cond.methodLinkNest (mrY mr).cls idx (mrY mr') host).before args s = true := va_Nw.use rfl hnw
      have hcw : va_CN R s args (mrY mr).cls idx (mrY mr') host (mrB mr') (mrL mr') none (mrWs mr') { frames := mrF mr', cells := kc, slots := ns, locals := mrW mr' } kc ns 0 := ⟨⟨rfl, rfl, hfr, hlo, hpay, hmw⟩, hcd, hin0, ⟨v7, v8⟩, hlen, hlk⟩
      exact va_runIN (As := []) (rest := st.map (cv ad)) (b := ad b) hfix hM ⟨hcw, v3, him⟩ hpre rfl rfl hL.1.1 rfl hroom hdec hcs
  intro T hT X
  obtain ⟨v, st₀, t, T', Lc, h0, X', hLc, e1, e2, ⟨ad', n', M', er, hqq, b2, b3, b4, b5, hF⟩, stp⟩ := hrun T hT X
  cases er
  have hS' : va_S A H0 T'.heap (locs ++ Lc) := by
    rw [e1]
    refine ⟨Nat.le_trans hS.1 (by rw [← h0]; exact hF.1), fun x h3 h4 => ?_, fun x hx => ?_⟩
    · have hxl : x < H.size := Nat.lt_of_lt_of_le h3 hS.1
      rw [hF.2 x (by rw [h0]; exact hxl) (fun z => ?_), h0]
      · exact hS.2.1 x h3 h4
      · rcases z with ⟨j, hj, ej⟩ | z
        · exact h4 (ej ▸ hAd j hj)
        · omega
    · rcases List.mem_append.mp hx with z | z
      · exact hS.2.2 x z
      · rcases hLc x z with ⟨j, hj, ej⟩ | z
        · exact ej ▸ hAd j hj
        · exact hA _ (Nat.le_trans hS.1 z)
  have ea1 : ∀ j, j < n → ad' j = ad j := fun j hj => b2 j (Or.inl hj)
  have e3 : cells + kc + (k - kc) = cells + k := by omega
  have e4 : slots + ns + (sl - ns) = slots + sl := by omega
  have hA' : ∀ j, j < n' → A (ad' j) := fun j hj => by
    rcases b4 j hj with ⟨x, hx, ex⟩ | z
    · exact ex ▸ hAd x hx
    · exact hA _ (Nat.le_trans hS.1 z)
  obtain ⟨t2, a1, c1⟩ := hqq p l e R s m args below meth c D cA ad' A H0 T'.heap (locs ++ Lc) (cells + kc) (slots + ns) ls x0 Z ⟨by rw [e3, e4]; exact hC, hZ, hNm, hA, hA', by rw [e1]; exact b5, hS', hL.cg rL ea1, rk_mono rL b3, rk_mono (rk_t rS) b3⟩ (fun ad2 n2 M2 pc2 L2 H2 locs2 ls2 d1 d2 d3 d4 d5 d6 d7 => by
    rw [e3, e4]
    exact hk ad2 n2 M2 pc2 L2 H2 locs2 ls2 d1 (fun j hj => (d2 j (by omega)).trans (b2 j (by omega))) (by omega) d4 d5 d6 d7) T' rfl X'
  refine ⟨t2, stp t2 ?_, c1⟩
  rw [cvs_cg (rk_t rS) ea1] at a1
  exact a1
end PN
