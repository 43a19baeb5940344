/-! ===== the machine that makes objects: places come in their order ===== -/
def AOA (U : State) : Prop := (Jvm.Cond.arrayOver (.array .int)).before #[] U = true
def AoM : Prop := ∀ u U : State, u.vm.Alike U.vm → AOA u → AOA U
def nests : List (String × Nat × MethodName × String) := [(RX9, 9, yX7_init, RX9), (RX1, 24, yX6_init, RX9), (RX6, 26, yX4_init, RX9), (RX9, 31, yX6_init, RX9), (RX9, 41, yX8_init, RX9), (RX9, 48, yX5_init, RX9), (RX9, 55, yX0_init, RX9), (RX9, 62, yX3_init, RX9), (RX9, 77, yX2_init, RX9), (RX2, 9, yX6_init, RX9)]
def Zw (s : State) : Prop := (∀ q ∈ nests, va_Nw (.methodLinkNest q.1 q.2.1 q.2.2.1 q.2.2.2) s) ∧ va_AO RX2 s ∧ va_AO RX6 s ∧ AOA s ∧ AoM
theorem Zw.warm {s U : State} (h : Zw s) (hW : s.WarmedH U.vm) : Zw U := ⟨fun q hq => va_Nw.warmM hW (h.1 q hq), va_AO.moved hW.alike h.2.1, va_AO.moved hW.alike h.2.2.1, h.2.2.2.2 s U hW.alike h.2.2.2.1, h.2.2.2.2⟩
theorem Zw.blind {U : State} (h : Zw U) (g : JFrame) (mk : MethodId) (a : Array Value) : Zw (U.calling g mk a) := ⟨fun q hq => va_Nw.same rfl rfl (h.1 q hq), va_AO.moved (u := U) (U := U.calling g mk a) (Vm.Alike.refl U.vm) h.2.1, va_AO.moved (u := U) (U := U.calling g mk a) (Vm.Alike.refl U.vm) h.2.2.1, h.2.2.2.2 U (U.calling g mk a) (Vm.Alike.refl U.vm) h.2.2.2.1, h.2.2.2.2⟩
/-- a cell whose references are places below n -/
def Rk (n : Nat) (c : AE) : Prop := match c with
  | .inr (_, fs) => ∀ a, Value.ref a ∈ fs → a < n
  | .inl (_, _, .inr (.inr (.inr (.inr g)))) => ∀ j a, g j = some a → a < n
  | .inl _ => True
def rk (n : Nat) (l : List Value) : Prop := ∀ a, Value.ref a ∈ l → a < n
theorem rk_c {n a : Nat} {l : List Value} (h : a < n) (hl : rk n l) : rk n (.ref a :: l) := fun x hx => by
  rcases List.mem_cons.mp hx with e | e
  · cases e; exact h
  · exact hl x e
theorem rk_i {n : Nat} {x : Int32} {l : List Value} (hl : rk n l) : rk n (.int x :: l) := fun y hy => by
  rcases List.mem_cons.mp hy with e | e
  · cases e
  · exact hl y e
theorem rk_t {n : Nat} {v : Value} {l : List Value} (h : rk n (v :: l)) : rk n l := fun x hx => h x (List.mem_cons_of_mem _ hx)
theorem rk_h {n a : Nat} {l : List Value} (h : rk n (.ref a :: l)) : a < n := h a List.mem_cons_self
theorem rk_nil {n : Nat} : rk n [] := fun x hx => absurd hx List.not_mem_nil
theorem rk_mono {n n' : Nat} {l : List Value} (h : rk n l) (hn : n ≤ n') : rk n' l := fun x hx => Nat.lt_of_lt_of_le (h x hx) hn
theorem rk_set {n k : Nat} {v : Value} {l : List Value} (h : rk n l) (hv : ∀ a, v = .ref a → a < n) : rk n (l.set k v) := fun x hx => by
  rcases List.mem_or_eq_of_mem_set hx with e | e
  · exact h x e
  · exact hv x e.symm
theorem Rk.mono {n n' : Nat} {c : AE} (h : Rk n c) (hn : n ≤ n') : Rk n' c := by
  unfold Rk at h ⊢
  split at h
  · exact fun a ha => Nat.lt_of_lt_of_le (h a ha) hn
  · exact fun j a ha => Nat.lt_of_lt_of_le (h j a ha) hn
  · trivial
theorem cv_cg {ad ad' : Nat → Nat} {n : Nat} {v : Value} (h : ∀ a, v = .ref a → a < n) (e : ∀ j, j < n → ad' j = ad j) : cv ad' v = cv ad v := by
  cases v with
  | ref a => show Value.ref (ad' a) = Value.ref (ad a); rw [e a (h a rfl)]
  | _ => rfl
theorem cvs_cg {ad ad' : Nat → Nat} {n : Nat} {l : List Value} (h : rk n l) (e : ∀ j, j < n → ad' j = ad j) : l.map (cv ad') = l.map (cv ad) := by
  apply List.map_congr_left
  intro v hv
  exact cv_cg (fun a ha => h a (ha ▸ hv)) e
theorem wc_cg {cA : Nat → ClassId} {ad ad' : Nat → Nat} {n : Nat} {c : AE} (h : Rk n c) (e : ∀ j, j < n → ad' j = ad j) : wc cA ad' (some c) = wc cA ad (some c) := by
  match c, h with
  | .inr (ci, fs), h =>
    show (Sum.inr (ci, fs.map (cv ad')) : va_E) = _
    rw [cvs_cg h e]
    rfl
  | .inl (t, m, .inr (.inr (.inr (.inr g)))), h =>
    have h : ∀ j a, g j = some a → a < n := h
    show (Sum.inl (cA t, m, .inr (.inr (.inr (.inr (fun j => (g j).map ad'))))) : va_E) = Sum.inl (cA t, m, .inr (.inr (.inr (.inr (fun j => (g j).map ad)))))
    have e2 : (fun j => (g j).map ad') = (fun j => (g j).map ad) := by
      funext j
      cases hg : g j with
      | none => rfl
      | some a => show some (ad' a) = some (ad a); rw [e a (h j a hg)]
    rw [e2]
  | .inl (t, m, .inl f), h => rfl
  | .inl (t, m, .inr (.inl f)), h => rfl
  | .inl (t, m, .inr (.inr (.inl f))), h => rfl
  | .inl (t, m, .inr (.inr (.inr (.inl f)))), h => rfl
theorem LV.cg {ad ad' : Nat → Nat} {ls : Array Slot} {nL n : Nat} {L : List Value} (h : LV ad ls nL L) (r : rk n L) (e : ∀ j, j < n → ad' j = ad j) : LV ad' ls nL L := by
  refine ⟨h.1, h.2.1, h.2.2.1, fun i v hi hv => ?_⟩
  rw [cv_cg (fun a ha => r a (ha ▸ List.mem_of_getElem? hi)) e]
  exact h.2.2.2 i v hi hv
/-- the locals, and what the machine has in the first of them -/
def LV0 (x0 : Nat) (ad : Nat → Nat) (ls : Array Slot) (nL : Nat) (L : List Value) : Prop := LV ad ls nL L ∧ ls[0]? = some (Slot.val (.ref x0))
theorem LV0.cg {x0 : Nat} {ad ad' : Nat → Nat} {ls : Array Slot} {nL n : Nat} {L : List Value} (h : LV0 x0 ad ls nL L) (r : rk n L) (e : ∀ j, j < n → ad' j = ad j) : LV0 x0 ad' ls nL L := ⟨h.1.cg r e, h.2⟩
abbrev lvl (ad : Nat → Nat) (nL : Nat) (L : List Value) : List (Nat × Value) := (List.range nL).filterMap (fun i => match L[i]? with
    | some v => if v = .retAddr 0 then none else some (i, cv ad v)
    | none => none)
theorem LV0.lv {x0 : Nat} {ad : Nat → Nat} {ls : Array Slot} {nL : Nat} {L : List Value} (h : LV0 x0 ad ls nL L) : lv_has ls nL ((0, .ref x0) :: lvl ad nL L) := by
  refine ⟨h.1.1, h.1.2.1, fun q hq => ?_⟩
  rcases List.mem_cons.mp hq with e | e
  · rw [e]; exact h.2
  · exact h.1.lv.2.2 q e
theorem LV0.store {x0 : Nat} {ad : Nat → Nat} {ls ls' : Array Slot} {nL i : Nat} {L : List Value} {v : Value} (h : LV0 x0 ad ls nL L) (hi : i < nL) (h0 : 0 < i) (hb : ∀ j w, j + 1 = i → L[j]? = some w → w.category ≠ 2)
    (h' : lv_has ls' nL ((i, cv ad v) :: ((0, Value.ref x0) :: lvl ad nL L).filter (fun q => !(q.1 == i) && !(q.1 + 1 == i && q.2.category == 2)))) : LV0 x0 ad ls' nL (L.set i v) := by
  refine ⟨h.1.store hi hb ⟨h'.1, h'.2.1, fun q hq => h'.2.2 q ?_⟩, ?_⟩
  · rcases List.mem_cons.mp hq with e | e
    · rw [e]; exact List.mem_cons_self
    · obtain ⟨e1, e2⟩ := List.mem_filter.mp e
      exact List.mem_cons_of_mem _ (List.mem_filter.mpr ⟨List.mem_cons_of_mem _ e1, e2⟩)
  · refine h'.2.2 (0, .ref x0) (List.mem_cons_of_mem _ (List.mem_filter.mpr ⟨List.mem_cons_self, ?_⟩))
    have z1 : ((0 : Nat) == i) = false := beq_eq_false_iff_ne.mpr (by omega)
    have z2 : ((Value.ref x0).category == 2) = false := rfl
    simp [z1, z2]
def Wd1 (D : va_G) (cA : Nat → ClassId) (ad : Nat → Nat) (n : Nat) (M : AM) (H : Heap) : Prop := Wd D cA ad n M H ∧ ∀ k c, M k = some c → Rk n c
theorem Wd1.D1 {D : va_G} {cA : Nat → ClassId} {ad : Nat → Nat} {n : Nat} {M : AM} {H : Heap} {A : Nat → Prop} (h : Wd1 D cA ad n M H) (hA : ∀ j, j < n → A (ad j)) : va_D A (wl cA ad n M) := by
  refine ⟨h.1.D.1, fun k q hk => ?_⟩
  obtain ⟨h1, rfl⟩ := wl_at hk
  exact hA k h1
theorem Wd1.put {D : va_G} {cA : Nat → ClassId} {ad : Nat → Nat} {n : Nat} {M : AM} {H H1 : Heap} {k : Nat} {c : AE} (h : Wd1 D cA ad n M H) (hk : k < n) (hc : Rk n c) (hP : va_P D vwCl ((wl cA ad n M).set k (ad k, wc cA ad (some c))) H1) : Wd1 D cA ad n (aup M k c) H1 := by
  refine ⟨h.1.put hk hP, fun j x hx => ?_⟩
  unfold aup at hx
  by_cases e : j = k
  · rw [if_pos e] at hx; cases hx; exact hc
  · rw [if_neg e] at hx; exact h.2 j x hx
theorem Wd1.app {D : va_G} {cA : Nat → ClassId} {ad ad' : Nat → Nat} {n m : Nat} {M M' : AM} {H H1 : Heap} {A : Nat → Prop} (h : Wd1 D cA ad n M H) (e : ∀ j, j < n → ad' j = ad j) (hM : ∀ j, j < n → M' j = M j) (hR : ∀ k c, M' k = some c → k < n + m ∧ Rk (n + m) c)
    (hP : va_P D vwCl (wl cA ad n M ++ (List.range m).map (fun i => (ad' (n + i), wc cA ad' (M' (n + i))))) H1) (hD : va_D A (wl cA ad n M ++ (List.range m).map (fun i => (ad' (n + i), wc cA ad' (M' (n + i)))))) : Wd1 D cA ad' (n + m) M' H1 ∧ ∀ j, j < n + m → A (ad' j) := by
  have ew : wl cA ad' (n + m) M' = wl cA ad n M ++ (List.range m).map (fun i => (ad' (n + i), wc cA ad' (M' (n + i)))) := by
    unfold wl
    rw [List.range_add, List.map_append, List.map_map]
    congr 1
    apply List.map_congr_left
    intro k hk
    have hk := List.mem_range.mp hk
    rw [e k hk, hM k hk]
    cases hc : M k with
    | none => rfl
    | some c => rw [wc_cg (h.2 k c hc) e]
  rw [← ew] at hP hD
  exact ⟨⟨⟨hP, fun i j hi hj q => hD.1 i j _ _ (wl_get hi) (wl_get hj) q, fun k c hk => (hR k c hk).1⟩, fun k c hk => (hR k c hk).2⟩, fun j hj => hD.2 j _ (wl_get hj)⟩
def St1 (p : Program) (R : Room) (s : State) (m : MethodId) (args : Array Value) (meth : Method) (c : Code) (D : va_G) (cA : Nat → ClassId) (ad : Nat → Nat) (A : Nat → Prop) (H0 H : Heap) (locs : List Loc) (cells slots : Nat) (ls : Array Slot) (x0 : Nat) (mr : MR) (L st : List Value) (n : Nat) (M : AM) : Prop :=
  Ctx p R s m args c D cA cells slots mr ∧ Zw s ∧ ((mrY mr).name = "<init>" → meth.name = "<init>") ∧ (∀ q, H0.size ≤ q → A q) ∧ (∀ j, j < n → A (ad j)) ∧ Wd1 D cA ad n M H ∧ va_S A H0 H locs ∧ LV0 x0 ad ls (mrL mr) L ∧ rk n L ∧ rk n st
def P1 (mr : MR) (pc : Nat) (L st : List Value) (n : Nat) (M : AM) (k sl : Nat) (Q : Nat → List Value → Nat → AM → Prop) : Prop :=
  ∀ (p : Program) (l : Launch) (e : Env) (R : Room) (s : State) (m : MethodId) (args : Array Value) (below : List Frame) (meth : Method) (c : Code) (D : va_G) (cA : Nat → ClassId) (ad : Nat → Nat) (A : Nat → Prop) (H0 H : Heap) (locs : List Loc) (cells slots : Nat) (ls : Array Slot) (x0 : Nat) (Z : State → Prop),
    St1 p R s m args meth c D cA ad A H0 H locs (cells + k) (slots + sl) ls x0 mr L st n M →
    (∀ (ad' : Nat → Nat) (n' : Nat) (M' : AM) (pc' : Nat) (L' : List Value) (H' : Heap) (locs' : List Loc) (ls' : Array Slot), Q pc' L' n' M' → (∀ j, j < n ∨ n' ≤ j → ad' j = ad j) → n ≤ n' → (∀ j, j < n' → A (ad' j)) → Wd1 D cA ad' n' M' H' → va_S A H0 H' locs' → LV0 x0 ad' ls' (mrL mr) L' → W p l e R s m args below meth c H' locs' (cells + k) (slots + sl) Z (F0 m pc' ls' [])) →
    W p l e R s m args below meth c H locs cells slots Z (F0 m pc ls (st.map (cv ad)))
theorem Ctx.wk {p : Program} {R : Room} {s : State} {m : MethodId} {args : Array Value} {c : Code} {D : va_G} {cA : Nat → ClassId} {cells slots cells' slots' : Nat} {mr : MR} (h : Ctx p R s m args c D cA cells slots mr) (h1 : cells' ≤ cells) (h2 : slots' ≤ slots) : Ctx p R s m args c D cA cells' slots' mr := by
  obtain ⟨a1, a2, a3, a4, a5, a6, a7, a8, a9, a10, a11⟩ := h
  exact ⟨a1, a2, a3, a4, a5, a6, a7, a8, a9, Nat.le_trans h1 a10, Nat.le_trans h2 a11⟩
section PQ
variable {mr : MR} {pc : Nat} {L st : List Value} {n : Nat} {M : AM} {k sl : Nat} {Q : Nat → List Value → Nat → AM → Prop}
theorem P1_wk {k' sl' : Nat} (h1 : k' ≤ k) (h2 : sl' ≤ sl) (h : P1 mr pc L st n M k' sl' Q) : P1 mr pc L st n M k sl Q := by
  intro p l e R s m args below meth c D cA ad A H0 H locs cells slots ls x0 Z ⟨hC, hZ⟩ hk
  refine h p l e R s m args below meth c D cA ad A H0 H locs cells slots ls x0 Z ⟨hC.wk (by omega) (by omega), hZ⟩ (fun ad' n' M' pc' L' H' locs' ls' a1 a2 a3 a4 a5 a6 a7 => ?_)
  exact W.widen (by omega) (by omega) (hk ad' n' M' pc' L' H' locs' ls' a1 a2 a3 a4 a5 a6 a7)
theorem q_end (h : Q pc L n M) : P1 mr pc L [] n M k sl Q := by
  intro p l e R s m args below meth c D cA ad A H0 H locs cells slots ls x0 Z ⟨hC, hZ, hN, hA, hAd, hW, hS, hL, rL, rS⟩ hk
  exact W.widen (by omega) (by omega) (hk ad n M pc L H locs ls h (fun _ _ => rfl) (Nat.le_refl _) hAd hW hS hL)
theorem q_iconst {i : Nat} {a : Int} (hi : (mrT mr)[i]? = some (pc, .iconst a, 1)) (h : P1 mr (pc + 1) L (zI a :: st) n M k sl Q) : P1 mr pc L st n M k sl Q := by
  intro p l e R s m args below meth c D cA ad A H0 H locs cells slots ls x0 Z ⟨hC, hZ, hN, hA, hAd, hW, hS, hL, rL, rS⟩ hk
  exact lv_iconst hC.1 hC.2.1 (hC.dec hi) rfl (h p l e R s m args below meth c D cA ad A H0 H locs cells slots ls x0 Z ⟨hC, hZ, hN, hA, hAd, hW, hS, hL, rL, rk_i rS⟩ hk)
theorem q_bipush {i : Nat} {a : Int} (hi : (mrT mr)[i]? = some (pc, .bipush a, 2)) (ha : (Int8.ofInt a).toInt32 = Int32.ofInt a) (h : P1 mr (pc + 2) L (zI a :: st) n M k sl Q) : P1 mr pc L st n M k sl Q := by
  intro p l e R s m args below meth c D cA ad A H0 H locs cells slots ls x0 Z ⟨hC, hZ, hN, hA, hAd, hW, hS, hL, rL, rS⟩ hk
  exact lv_bipush hC.1 hC.2.1 (hC.dec hi) ha (h p l e R s m args below meth c D cA ad A H0 H locs cells slots ls x0 Z ⟨hC, hZ, hN, hA, hAd, hW, hS, hL, rL, rk_i rS⟩ hk)
theorem q_sipush {i : Nat} {a : Int} (hi : (mrT mr)[i]? = some (pc, .sipush a, 3)) (ha : (Int16.ofInt a).toInt32 = Int32.ofInt a) (h : P1 mr (pc + 3) L (zI a :: st) n M k sl Q) : P1 mr pc L st n M k sl Q := by
  intro p l e R s m args below meth c D cA ad A H0 H locs cells slots ls x0 Z ⟨hC, hZ, hN, hA, hAd, hW, hS, hL, rL, rS⟩ hk
  exact lv_sipush hC.1 hC.2.1 (hC.dec hi) ha (h p l e R s m args below meth c D cA ad A H0 H locs cells slots ls x0 Z ⟨hC, hZ, hN, hA, hAd, hW, hS, hL, rL, rk_i rS⟩ hk)
theorem q_iload_n {i : Nat} {j : Fin 4} {x : Int32} (hi : (mrT mr)[i]? = some (pc, .iload_n j, 1)) (hv : L[(j : Nat)]? = some (.int x)) (h : P1 mr (pc + 1) L (.int x :: st) n M k sl Q) : P1 mr pc L st n M k sl Q := by
  intro p l e R s m args below meth c D cA ad A H0 H locs cells slots ls x0 Z ⟨hC, hZ, hN, hA, hAd, hW, hS, hL, rL, rS⟩ hk
  exact lv_iload_n hC.1 hC.2.1 (hC.dec hi) rfl (hL.1.2.2.2 j (.int x) hv (fun q => by cases q)) (h p l e R s m args below meth c D cA ad A H0 H locs cells slots ls x0 Z ⟨hC, hZ, hN, hA, hAd, hW, hS, hL, rL, rk_i rS⟩ hk)
theorem q_aload_n {i : Nat} {j : Fin 4} {x : Nat} (hi : (mrT mr)[i]? = some (pc, .aload_n j, 1)) (hv : L[(j : Nat)]? = some (.ref x)) (h : P1 mr (pc + 1) L (.ref x :: st) n M k sl Q) : P1 mr pc L st n M k sl Q := by
  intro p l e R s m args below meth c D cA ad A H0 H locs cells slots ls x0 Z ⟨hC, hZ, hN, hA, hAd, hW, hS, hL, rL, rS⟩ hk
  exact lv_aload_n hC.1 hC.2.1 (hC.dec hi) rfl (hL.1.2.2.2 j (.ref x) hv (fun q => by cases q)) (h p l e R s m args below meth c D cA ad A H0 H locs cells slots ls x0 Z ⟨hC, hZ, hN, hA, hAd, hW, hS, hL, rL, rk_c (rL x (List.mem_of_getElem? hv)) rS⟩ hk)
theorem q_istore_n {i : Nat} {j : Fin 4} {x : Int32} (hi : (mrT mr)[i]? = some (pc, .istore_n j, 1)) (hb : okS L (j : Nat) = true) (hj : Nat.blt 0 (j : Nat) = true) (h : P1 mr (pc + 1) (L.set (j : Nat) (.int x)) st n M k sl Q) : P1 mr pc L (.int x :: st) n M k sl Q := by
  intro p l e R s m args below meth c D cA ad A H0 H locs cells slots ls x0 Z ⟨hC, hZ, hN, hA, hAd, hW, hS, hL, rL, rS⟩ hk
  exact lv_istore_n hC.1 hC.2.1 (hC.dec hi) rfl hL.lv (by rw [← hL.1.2.2.1]; exact okS_lt hb) rfl (fun ls' hl' => h p l e R s m args below meth c D cA ad A H0 H locs cells slots ls' x0 Z ⟨hC, hZ, hN, hA, hAd, hW, hS, hL.store (by rw [← hL.1.2.2.1]; exact okS_lt hb) (Nat.blt_eq.mp hj) (okS_b hb) hl', rk_set rL (fun a q => by cases q), rk_t rS⟩ hk)
theorem q_astore_n {i : Nat} {j : Fin 4} {x : Nat} (hi : (mrT mr)[i]? = some (pc, .astore_n j, 1)) (hb : okS L (j : Nat) = true) (hj : Nat.blt 0 (j : Nat) = true) (h : P1 mr (pc + 1) (L.set (j : Nat) (.ref x)) st n M k sl Q) : P1 mr pc L (.ref x :: st) n M k sl Q := by
  intro p l e R s m args below meth c D cA ad A H0 H locs cells slots ls x0 Z ⟨hC, hZ, hN, hA, hAd, hW, hS, hL, rL, rS⟩ hk
  exact lv_astore_n hC.1 hC.2.1 (hC.dec hi) rfl hL.lv (by rw [← hL.1.2.2.1]; exact okS_lt hb) rfl (fun ls' hl' => h p l e R s m args below meth c D cA ad A H0 H locs cells slots ls' x0 Z ⟨hC, hZ, hN, hA, hAd, hW, hS, hL.store (by rw [← hL.1.2.2.1]; exact okS_lt hb) (Nat.blt_eq.mp hj) (okS_b hb) hl', rk_set rL (fun a q => by cases q; exact rk_h rS), rk_t rS⟩ hk)
theorem q_iinc {i : Nat} {j : Nat} {d a : Int} (hi : (mrT mr)[i]? = some (pc, .iinc j d, 3)) (hv : L[j]? = some (zI a)) (hb : okS L j = true) (hj0 : Nat.blt 0 j = true) (h : P1 mr (pc + 3) (L.set j (zI (a + d))) st n M k sl Q) : P1 mr pc L st n M k sl Q := by
  intro p l e R s m args below meth c D cA ad A H0 H locs cells slots ls x0 Z ⟨hC, hZ, hN, hA, hAd, hW, hS, hL, rL, rS⟩ hk
  obtain ⟨x, hj⟩ := hL.1.pos hv (fun q => by cases q)
  exact lv_iinc hC.1 hC.2.1 (hC.dec hi) hL.lv (show ((0, Value.ref x0) :: lvl ad (mrL mr) L)[x + 1]? = _ from hj) (Int32.ofInt_add a d).symm (by rw [← hL.1.2.2.1]; exact okS_lt hb) rfl (fun ls' hl' => h p l e R s m args below meth c D cA ad A H0 H locs cells slots ls' x0 Z ⟨hC, hZ, hN, hA, hAd, hW, hS, hL.store (by rw [← hL.1.2.2.1]; exact okS_lt hb) (Nat.blt_eq.mp hj0) (okS_b hb) hl', rk_set rL (fun a q => by cases q), rS⟩ hk)
theorem q_dup {i : Nat} {v : Value} (hi : (mrT mr)[i]? = some (pc, .dup, 1)) (hv : v.category = 1) (h : P1 mr (pc + 1) L (v :: v :: st) n M k sl Q) : P1 mr pc L (v :: st) n M k sl Q := by
  intro p l e R s m args below meth c D cA ad A H0 H locs cells slots ls x0 Z ⟨hC, hZ, hN, hA, hAd, hW, hS, hL, rL, rS⟩ hk
  exact lv_dup hC.1 hC.2.1 (hC.dec hi) ((cv_cat ad v).trans hv) (h p l e R s m args below meth c D cA ad A H0 H locs cells slots ls x0 Z ⟨hC, hZ, hN, hA, hAd, hW, hS, hL, rL, fun x hx => by
    rcases List.mem_cons.mp hx with q | q
    · exact rS x (q ▸ List.mem_cons_self)
    · exact rS x q⟩ hk)
theorem q_icmp_ge {i : Nat} {a b off : Int} (tgt : Nat) (hi : (mrT mr)[i]? = some (pc, .if_icmp .ge off, 3)) (ht : (pc : Int) + off = (tgt : Int)) (ha : -2147483648 ≤ a ∧ a ≤ 2147483647) (hb : -2147483648 ≤ b ∧ b ≤ 2147483647) (kt : b ≤ a → P1 mr tgt L st n M k sl Q) (kf : ¬ (b ≤ a) → P1 mr (pc + 3) L st n M k sl Q) : P1 mr pc L (zI b :: zI a :: st) n M k sl Q := by
  intro p l e R s m args below meth c D cA ad A H0 H locs cells slots ls x0 Z ⟨hC, hZ, hN, hA, hAd, hW, hS, hL, rL, rS⟩ hk
  exact lv_icmp_ge hC.1 hC.2.1 (hC.dec hi) ht (fun q => kt ((zI_le hb ha).mp q) p l e R s m args below meth c D cA ad A H0 H locs cells slots ls x0 Z ⟨hC, hZ, hN, hA, hAd, hW, hS, hL, rL, rk_t (rk_t rS)⟩ hk) (fun q => kf (fun w => q ((zI_le hb ha).mpr w)) p l e R s m args below meth c D cA ad A H0 H locs cells slots ls x0 Z ⟨hC, hZ, hN, hA, hAd, hW, hS, hL, rL, rk_t (rk_t rS)⟩ hk)
theorem q_goto {i : Nat} {off : Int} (tgt : Nat) (hi : (mrT mr)[i]? = some (pc, .goto off, 3)) (ht : (pc : Int) + off = (tgt : Int)) (h : P1 mr tgt L st n M k sl Q) : P1 mr pc L st n M k sl Q := by
  intro p l e R s m args below meth c D cA ad A H0 H locs cells slots ls x0 Z hs hk
  exact lv_goto hs.1.1 hs.1.2.1 (hs.1.dec hi) ht (h p l e R s m args below meth c D cA ad A H0 H locs cells slots ls x0 Z hs hk)
theorem q_getf {i idx ci j o : Nat} {fs : List Value} {v : Value} (hi : (mrT mr)[i]? = some (pc, .getfield idx, 3)) (hf : FOk (mrY mr).cls idx ci j) (hM : M o = some (zO ci fs)) (hv : fs[j]? = some v) (h : P1 mr (pc + 3) L (v :: st) n M k sl Q) : P1 mr pc L (.ref o :: st) n M k sl Q := by
  intro p l e R s m args below meth c D cA ad A H0 H locs cells slots ls x0 Z ⟨hC, hZ, hN, hA, hAd, hW, hS, hL, rL, rS⟩ hk
  have h1 := h p l e R s m args below meth c D cA ad A H0 H locs cells slots ls x0 Z ⟨hC, hZ, hN, hA, hAd, hW, hS, hL, rL, fun x hx => by
    rcases List.mem_cons.mp hx with q | q
    · exact hW.2 o _ hM x (q ▸ List.mem_of_getElem? hv)
    · exact rS x (List.mem_cons_of_mem _ q)⟩ hk
  obtain ⟨⟨C, T, N⟩, hc, hkN, hw⟩ := hf
  exact va_get (v := cv ad v) hC.1 hC.2.1 hC.2.2.2.2.1 (cls_in hc) hC.2.2.2.1 hC.2.2.2.2.2.1 hW.1.1 o (fs := fs.map (cv ad)) (by rw [wl_get (hW.1.2.2 o _ hM), hM]; rfl) hc j hkN (hC.2.2.2.2.1 _ hw) (fun _ q => q) (by rw [List.getElem?_map, hv]; rfl) (hC.dec hi) h1
theorem q_put {i idx ci j o : Nat} {fs : List Value} {v : Value} {ty : FieldType} (hi : (mrT mr)[i]? = some (pc, .putfield idx, 3)) (hf : FPut (mrY mr).cls idx ci j ty) (hM : M o = some (zO ci fs)) (hn : ∀ ad, narrow ty (cv ad v) = cv ad v) (hfit : ∀ ad, fits ty (cv ad v) = true) (hl : j < fs.length) (h : P1 mr (pc + 3) L st n (aup M o (zO ci (fs.set j v))) k sl Q) : P1 mr pc L (v :: .ref o :: st) n M k sl Q := by
  intro p l e R s m args below meth c D cA ad A H0 H locs cells slots ls x0 Z ⟨hC, hZ, hN, hA, hAd, hW, hS, hL, rL, rS⟩ hk
  obtain ⟨⟨C, T, N⟩, hc, hkN, hw, hfin, hty⟩ := hf
  obtain ⟨ty0, ht0, hnm⟩ := cls_ty hc
  refine va_put (v := cv ad v) hC.1 hC.2.1 hC.2.2.2.2.1 (cls_in hc) ty0 ht0 hnm hC.2.2.2.1 hC.2.2.2.2.2.1 hW.1.1 (hW.D1 hAd) hS o (fs := fs.map (cv ad)) (by rw [wl_get (hW.1.2.2 o _ hM), hM]; rfl) hc j hkN (hC.2.2.2.2.1 _ hw) (fun _ q => q) hfin hty (hn ad) (hfit ad) (by rw [List.length_map]; exact hl) (hC.dec hi) (fun H1 locs1 hP hD hS1 => ?_)
  refine h p l e R s m args below meth c D cA ad A H0 H1 locs1 cells slots ls x0 Z ⟨hC, hZ, hN, hA, hAd, hW.put (hW.1.2.2 o _ hM) ?_ ?_, hS1, hL, rL, rk_t (rk_t rS)⟩ hk
  · exact rk_set (n := n) (hW.2 o _ hM) (fun a q => rS a (q ▸ List.mem_cons_self))
  · rw [← List.map_set] at hP
    exact hP
def FFin (mr : MR) (idx ci j : Nat) (ty : FieldType) : Prop := (mrY mr).name = "<init>" ∧ ∃ q : vw_C, vwCl[ci]? = some q ∧ j < q.2.2 ∧ Jvm.Cond.fieldLink (mrY mr).cls idx (q.2.1 j).1 (q.2.1 j).2.1 (q.2.1 j).2.2.1 ∈ lwg ∧ (q.2.1 j).2.2.2 = true ∧ (q.2.1 j).1 = (mrY mr).cls ∧ parseFieldDescriptor (q.2.1 j).2.2.1 = some ty
theorem q_putF {i idx ci j o a : Nat} {fs : List Value} {ty : FieldType} (hi : (mrT mr)[i]? = some (pc, .putfield idx, 3)) (hf : FFin mr idx ci j ty) (hM : M o = some (zO ci fs)) (hn : ∀ a, narrow ty (Value.ref a) = Value.ref a) (hfit : ∀ a, fits ty (Value.ref a) = true) (hl : Nat.blt j fs.length = true) (h : P1 mr (pc + 3) L st n (aup M o (zO ci (fs.set j (.ref a)))) k sl Q) : P1 mr pc L (.ref a :: .ref o :: st) n M k sl Q := by
  intro p l e R s m args below meth c D cA ad A H0 H locs cells slots ls x0 Z ⟨hC, hZ, hN, hA, hAd, hW, hS, hL, rL, rS⟩ hk
  obtain ⟨hini, ⟨C, T, N⟩, hc, hkN, hw, hfin, hdecl, hty⟩ := hf
  obtain ⟨ty0, ht0, hnm⟩ := cls_ty hc
  refine va_putF (v := cv ad (.ref a)) hC.1 hC.2.1 hC.2.2.2.2.1 (cls_in hc) ty0 ht0 hnm hC.2.2.2.1 hC.2.2.2.2.2.1 hW.1.1 (hW.D1 hAd) hS o (fs := fs.map (cv ad)) (by rw [wl_get (hW.1.2.2 o _ hM), hM]; rfl) hc j hkN (hC.2.2.2.2.1 _ hw) (fun _ q => q) hfin (hN hini) hdecl hty (hn _) (hfit _) (by rw [List.length_map]; exact Nat.blt_eq.mp hl) (hC.dec hi) (fun H1 locs1 hP hD hS1 => ?_)
  refine h p l e R s m args below meth c D cA ad A H0 H1 locs1 cells slots ls x0 Z ⟨hC, hZ, hN, hA, hAd, hW.put (hW.1.2.2 o _ hM) ?_ ?_, hS1, hL, rL, rk_t (rk_t rS)⟩ hk
  · exact rk_set (n := n) (hW.2 o _ hM) (fun x q => rS x (q ▸ List.mem_cons_self))
  · rw [← List.map_set] at hP
    exact hP
theorem q_puti {i idx ci j o : Nat} {fs : List Value} {x : Int32} (hi : (mrT mr)[i]? = some (pc, .putfield idx, 3)) (hf : FPut (mrY mr).cls idx ci j .int) (hM : M o = some (zO ci fs)) (hl : Nat.blt j fs.length = true) (h : P1 mr (pc + 3) L st n (aup M o (zO ci (fs.set j (.int x)))) k sl Q) : P1 mr pc L (.int x :: .ref o :: st) n M k sl Q := q_put hi hf hM (fun _ => rfl) (fun _ => rfl) (Nat.blt_eq.mp hl) h
theorem q_puta {i idx ci j o a : Nat} {fs : List Value} {nm : String} (hi : (mrT mr)[i]? = some (pc, .putfield idx, 3)) (hf : FPut (mrY mr).cls idx ci j (.object nm)) (hM : M o = some (zO ci fs)) (hl : Nat.blt j fs.length = true) (h : P1 mr (pc + 3) L st n (aup M o (zO ci (fs.set j (.ref a)))) k sl Q) : P1 mr pc L (.ref a :: .ref o :: st) n M k sl Q := q_put hi hf hM (fun _ => rfl) (fun _ => rfl) (Nat.blt_eq.mp hl) h
end PQ
