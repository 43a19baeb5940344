/-! ===== the one step of the machine: new int[6][6] ===== -/
/-- t, begun in U, comes to its end with a in V, whatever is asked behind it -/
def mq_E {α : Type} (e : Env) (t : Jvm.Sem α) (U : State) (a : α) (V : State) : Prop := ∀ (Q : α → Jvm.Pre) (E : Jvm.CtlPost) (d : Bool) (acts : List Jvm.Action), (∀ d' acts', Q a d' acts' V) → Jvm.Sem.wp t Q E e d acts U
theorem mq_pure {α : Type} {e : Env} (a : α) (U : State) : mq_E e (Pure.pure a) U a U := fun Q E d acts h => h d acts
theorem mq_bind {α β : Type} {e : Env} {t : Jvm.Sem α} {g : α → Jvm.Sem β} {U V Z : State} {a : α} {b : β} (h1 : mq_E e t U a V) (h2 : mq_E e (g a) V b Z) : mq_E e (t >>= g) U b Z := fun Q E d acts h => by
  rw [Jvm.Sem.wp_bind']
  exact h1 _ E d acts (fun d' acts' => h2 Q E d' acts' h)
theorem mq_mark {e : Env} (w : String) (U : State) : mq_E e (Jvm.mark w) U () U := fun Q E d acts h => h d acts
theorem mq_cls {e : Env} {U : State} {cX : ClassId} {k : Class} (hk : U.vm.classes[cX]? = some k) : mq_E e (Jvm.theClass cX) U k U := fun Q E d acts h => (Jvm.W.theClass cX).mpr ⟨k, hk, h d acts⟩
theorem mq_write {e : Env} {U : State} {a i : Nat} {x : Cell} {v : Value} (h1 : U.heap[a]? = some x) (h2 : x.vm ≠ .unknown) (h3 : i < x.slots.size) (h4 : U.fitsSlot x.cls x.vm i v = true) : mq_E e (Jvm.writeLoc a i v) U () (U.setCell a (x.setSlot i v)) := fun Q E d acts h => (Jvm.W.writeLoc a i v _).mpr ⟨x, h1, h2, h3, h4, h _ _⟩
theorem mq_push {e : Env} {F : State} {g : JFrame} (ht : F.topJava?.isSome) (a : Nat) : mq_E e (Jvm.pushRef a) (F.setTop g) () (F.setTop { g with stack := .ref a :: g.stack }) := fun Q E d acts h => (Jvm.W.pushRef a).mpr ⟨g, Jvm.State.topJava?_setTop' g ht, by rw [Jvm.State.setTop_setTop]; exact h _ _⟩
theorem mq_pop2 {e : Env} {F : State} {g : JFrame} {u v : Value} {rest : List Value} (ht : F.topJava?.isSome) (hs : g.stack = v :: u :: rest) : mq_E e (Jvm.popN 2) (F.setTop g) [u, v] (F.setTop { g with stack := rest }) := fun Q E d acts h => (Jvm.Op.popN_top (args := [u, v]) (rest := rest) ht hs).mpr (h _ _)
theorem mq_new {e : Env} {U : State} {cX : ClassId} {k : Class} {comp : ClassId} {ty : FieldType} {N : Nat} {z : Value} (hk : U.vm.classes[cX]? = some k) (hkind : k.kind = .array comp ty) (h1 : ¬ N > e.platform.arrayLengthLimit) (h2 : ¬ N * componentBytes ty > e.platform.maxHeapBytes) (h3 : U.heap.size < e.platform.maxCells) (h4 : U.slotsUsed + N ≤ e.platform.maxSlots) (h5 : fits ty z = true) : mq_E e (Jvm.newArray cX N z) U U.heap.size (U.pushCell (arrV cX N (fun _ => z))) := fun Q E d acts h => Jvm.W.newArray_of hk hkind h1 h2 h3 h4 h5 (fun acts' => by
  have := h d acts'
  rw [← arrV_new] at this
  exact this)
/-- a loop over i, i + 1 ..: what each round keeps, all keep -/
theorem mq_loop {e : Env} {f : Nat → PUnit → Jvm.Sem (ForInStep PUnit)} {I : Nat → State → Prop} {N : Nat} (hf : ∀ i U, i < N → I i U → ∃ V, I (i + 1) V ∧ mq_E e (f i PUnit.unit) U (.yield PUnit.unit) V) : ∀ (n i : Nat) (U : State), i + n = N → I i U → ∃ V, I N V ∧ mq_E e (forIn (List.range' i n) PUnit.unit f) U PUnit.unit V
  | 0, i, U, hn, h => ⟨U, by rw [← hn]; exact h, mq_pure _ _⟩
  | n + 1, i, U, hn, h => by
    obtain ⟨V, hV, e1⟩ := hf i U (by omega) h
    obtain ⟨Z, hZ, e2⟩ := mq_loop hf n (i + 1) V (by omega) hV
    refine ⟨Z, hZ, ?_⟩
    rw [List.range'_succ, List.forIn_cons]
    exact mq_bind e1 e2
/-- one row -/
theorem mq_leaf {e : Env} {U : State} {cX : ClassId} {k : Class} {comp : ClassId} {n : Int32} (hn : ¬ n < 0) (h6 : n.toNatClampNeg = 6) (hk : U.vm.classes[cX]? = some k) (hkind : k.kind = .array comp .int) (h1 : ¬ 6 > e.platform.arrayLengthLimit) (h2 : ¬ 6 * componentBytes .int > e.platform.maxHeapBytes) (h3 : U.heap.size < e.platform.maxCells) (h4 : U.slotsUsed + 6 ≤ e.platform.maxSlots) : mq_E e (Jvm.Op.multianewarray.make cX [n]) U U.heap.size (U.pushCell (arrV cX 6 (fun _ => .int (Int32.ofInt 0)))) := by
  have hN := mq_new (z := .int (Int32.ofInt 0)) hk hkind h1 h2 h3 h4 rfl
  rw [Jvm.Op.multianewarray.make]
  simp only [hn, if_false]
  refine mq_bind (mq_cls hk) ?_
  simp only [hkind, h6]
  exact hN
/-- the rows are there as far as i -/
def mq_I (p : Program) (l : Launch) (e : Env) (R : Room) (s : State) (m : MethodId) (args : Array Value) (below : List Frame) (meth : Method) (c : Code) (H : Array Cell) (g : JFrame) (locs : List Loc) (cells slots : Nat) (cN cI : ClassId) (i : Nat) (U : State) : Prop := ∃ F : State, U = F.setTop g ∧ Stand p l e R s m args below meth c F locs (cells + 1 + i) (slots + 6 + 6 * i) ∧ F.heap.size = H.size + 1 + i ∧
  F.heap[H.size]? = some (arrV cN 6 (fun j => va_rf (if j < i then some (H.size + 1 + j) else none))) ∧ (∀ j, j < i → F.heap[H.size + 1 + j]? = some (arrV cI 6 (fun _ => .int (Int32.ofInt 0)))) ∧ ∀ x, x < H.size → F.heap[x]? = H[x]?
theorem mq_upd (c : ClassId) (h0 i : Nat) : (arrV c 6 (fun j => va_rf (if j < i then some (h0 + 1 + j) else none))).setSlot i (.ref (h0 + 1 + i)) = arrV c 6 (fun j => va_rf (if j < i + 1 then some (h0 + 1 + j) else none)) := by
  rw [arrV_store]
  refine congrArg (arrV c 6) (funext fun j => ?_)
  unfold updV
  by_cases z : j = i
  · rw [if_pos z, if_pos (by omega), z]
    rfl
  · rw [if_neg z]
    dsimp only
    by_cases y : j < i
    · rw [if_pos y, if_pos (by omega)]
    · rw [if_neg y, if_neg (by omega)]
theorem mq_row {p : Program} {l : Launch} {e : Env} {R : Room} {s : State} {m : MethodId} {args : Array Value} {below : List Frame} {meth : Method} {c : Code} {H : Array Cell} {g : JFrame} {locs : List Loc} {cells slots : Nat} {cN cI cc : ClassId} {kN kI : Class} {n : Int32} (hn : ¬ n < 0) (h6 : n.toNatClampNeg = 6) (hkN : s.vm.classes[cN]? = some kN) (hkindN : kN.kind = .array cI (.array .int)) (hkI : s.vm.classes[cI]? = some kI) (hkindI : kI.kind = .array cc .int) (hH : s.heap.size ≤ H.size) (g1 : cells + 7 ≤ R.cells) (g2 : slots + 42 ≤ R.slots) (i : Nat) (U : State) (hi : i < 6) (h : mq_I p l e R s m args below meth c H g locs cells slots cN cI i U) : ∃ V, mq_I p l e R s m args below meth c H g locs cells slots cN cI (i + 1) V ∧ mq_E e (do
    let x ← Jvm.Op.multianewarray.make cI [n]
    Jvm.writeLoc H.size i (.ref x)
    Pure.pure (ForInStep.yield PUnit.unit)) U (.yield PUnit.unit) V := by
  obtain ⟨F, rfl, X, hs, ho, hin, hold⟩ := h
  have hal := X.warmed.alike
  obtain ⟨kI', hkI', heI⟩ := hal.2.2 _ _ hkI
  obtain ⟨kN', hkN', heN⟩ := hal.2.2 _ _ hkN
  have hkindI' : kI'.kind = .array cc .int := by rw [heI]; exact hkindI
  have hkindN' : kN'.kind = .array cI (.array .int) := by rw [heN]; exact hkindN
  obtain ⟨r1, r2⟩ := X.roomAbove (a := 1) (b := 6) (by omega) (by omega)
  have E1 := mq_leaf (U := F.setTop g) hn h6 hkI' hkindI' (by rw [Jvm.Launch.admits_arrayLengthLimit X.admits]; decide) (by rw [Jvm.Launch.admits_maxHeapBytes X.admits]; decide) (by show F.heap.size < _; omega) r2
  have o1 : (F.pushCell (arrV cI 6 (fun _ => .int (Int32.ofInt 0)))).heap[H.size]? = some (arrV cN 6 (fun j => va_rf (if j < i then some (H.size + 1 + j) else none))) := by
    rw [Jvm.State.heap_pushCell, Array.getElem?_push, if_neg (by omega)]
    exact ho
  have E2 := mq_write (e := e) (U := (F.pushCell (arrV cI 6 (fun _ => .int (Int32.ofInt 0)))).setTop g) (i := i) (v := .ref (H.size + 1 + i)) o1 (fun z => by cases z) (by rw [arrV_size]; exact hi) (by
    show F.fitsSlot cN .none i (.ref (H.size + 1 + i)) = true
    simp [Jvm.State.fitsSlot, Jvm.State.slotType?, hkN', hkindN']
    rfl)
  have X1 := (X.pushed (arrV cI 6 (fun _ => .int (Int32.ofInt 0)))).stored o1 i (.ref (H.size + 1 + i))
  rw [arrV_size] at X1
  have X2 := X1.dropFresh (fun x hx => by rw [List.mem_singleton.mp hx]; exact hH)
  rw [mq_upd] at X2
  have es : (F.setTop g).heap.size = H.size + 1 + i := hs
  rw [es] at E1
  rw [mq_upd] at E2
  refine ⟨((F.pushCell (arrV cI 6 (fun _ => .int (Int32.ofInt 0)))).setCell H.size (arrV cN 6 (fun j => va_rf (if j < i + 1 then some (H.size + 1 + j) else none)))).setTop g, ⟨_, rfl, ?_, ?_, ?_, ?_, ?_⟩, mq_bind E1 (mq_bind E2 (mq_pure _ _))⟩
  · rw [show cells + 1 + (i + 1) = cells + 1 + i + 1 by omega, show slots + 6 + 6 * (i + 1) = slots + 6 + 6 * i + 6 by omega]
    exact X2
  · rw [Jvm.State.heap_setCell, Array.size_setIfInBounds, Jvm.State.heap_pushCell, Array.size_push, hs]
    omega
  · rw [Jvm.State.heap_setCell, Array.getElem?_setIfInBounds, if_pos rfl, if_pos (by rw [Jvm.State.heap_pushCell, Array.size_push]; omega)]
  · intro j hj
    rw [Jvm.State.heap_setCell, Array.getElem?_setIfInBounds, if_neg (by omega), Jvm.State.heap_pushCell, Array.getElem?_push]
    by_cases z : j = i
    · rw [if_pos (by omega)]
    · rw [if_neg (by omega)]
      exact hin j (by omega)
  · intro x hx
    rw [Jvm.State.heap_setCell, Array.getElem?_setIfInBounds, if_neg (by omega), Jvm.State.heap_pushCell, Array.getElem?_push, if_neg (by omega)]
    exact hold x hx
/-- all of it: the outer array, then its rows -/
theorem mq_make {p : Program} {l : Launch} {e : Env} {R : Room} {s : State} {m : MethodId} {args : Array Value} {below : List Frame} {meth : Method} {c : Code} {T : State} {g : JFrame} {locs : List Loc} {cells slots : Nat} {cN cI cc : ClassId} {kN kI : Class} {n : Int32} (X : Stand p l e R s m args below meth c T locs cells slots) (hn : ¬ n < 0) (hz : (n == 0) = false) (h6 : n.toNatClampNeg = 6) (hkN : s.vm.classes[cN]? = some kN) (hkindN : kN.kind = .array cI (.array .int)) (hkI : s.vm.classes[cI]? = some kI) (hkindI : kI.kind = .array cc .int) (g1 : cells + 7 ≤ R.cells) (g2 : slots + 42 ≤ R.slots) : ∃ V, mq_I p l e R s m args below meth c T.heap g locs cells slots cN cI 6 V ∧ mq_E e (Jvm.Op.multianewarray.make cN [n, n]) (T.setTop g) T.heap.size V := by
  have hal := X.warmed.alike
  obtain ⟨kN', hkN', heN⟩ := hal.2.2 _ _ hkN
  have hkindN' : kN'.kind = .array cI (.array .int) := by rw [heN]; exact hkindN
  obtain ⟨r1, r2⟩ := X.roomAbove (a := 1) (b := 6) (by omega) (by omega)
  have E1 := mq_new (e := e) (U := T.setTop g) (N := 6) (z := .null) hkN' hkindN' (by rw [Jvm.Launch.admits_arrayLengthLimit X.admits]; decide) (by rw [Jvm.Launch.admits_maxHeapBytes X.admits]; decide) (by show T.heap.size < _; omega) r2 rfl
  have X1 := X.pushed (arrV cN 6 (fun _ => .null))
  rw [arrV_size] at X1
  have I0 : mq_I p l e R s m args below meth c T.heap g locs cells slots cN cI 0 ((T.pushCell (arrV cN 6 (fun _ => .null))).setTop g) := by
    refine ⟨_, rfl, X1, ?_, ?_, fun j hj => absurd hj (Nat.not_lt_zero j), fun x hx => ?_⟩
    · rw [Jvm.State.heap_pushCell, Array.size_push]
    · rw [Jvm.State.heap_pushCell, Array.getElem?_push, if_pos rfl]
      rfl
    · rw [Jvm.State.heap_pushCell, Array.getElem?_push, if_neg (by omega)]
  obtain ⟨V, hV, e2⟩ := mq_loop (N := 6) (f := fun i _ => do
    let x ← Jvm.Op.multianewarray.make cI [n]
    Jvm.writeLoc T.heap.size i (.ref x)
    Pure.pure (ForInStep.yield PUnit.unit)) (mq_row (n := n) hn h6 hkN hkindN hkI hkindI X.heapGrown g1 g2) 6 0 _ rfl I0
  refine ⟨V, hV, ?_⟩
  rw [Jvm.Op.multianewarray.make]
  simp only [hn, if_false]
  refine mq_bind (mq_cls hkN') ?_
  simp only [hkindN', h6, hz, Bool.false_eq_true, if_false]
  refine mq_bind E1 (mq_bind (a := PUnit.unit) (V := V) ?_ (mq_pure _ _))
  rw [Std.Legacy.Range.forIn_eq_forIn_range']
  exact e2
theorem mn2 : Mn2 := by
  intro p l e R s m args below meth c T locs cells slots X hx own index hown hcl hao harr pc ls rest hd g1 g2
  have hpl : e.platform.magicAccessors = ({} : Platform).magicAccessors := by rw [X.admits.platform]
  obtain ⟨comp, cN, kN, hcomp, -, hkN, hkindN, hnN⟩ := aoa_spec hao
  obtain ⟨cI, kI, cc, hnI, hkI, hkindI⟩ := Jvm.Cond.arrayClass_spec harr
  have eI : cI = comp := Option.some.inj (hnI.symm.trans hcomp)
  subst eI
  obtain ⟨c2, hf2, hcl2⟩ := Jvm.Cond.classLink_spec hown hcl e.platform hpl
  have es : "[" ++ (FieldType.array .int).toString = "[[I" := by decide
  have e2 : c2 = cN := Option.some.inj (hf2.symm.trans (by rw [← es]; exact hnN))
  subst e2
  obtain ⟨hg₁, hwarm₁, hready₁⟩ := Jvm.State.classEntry (e := e) X.warmed hcl2
  generalize T.vm.noted m.cls index (.cls c2) = vm₁ at hg₁ hwarm₁ hready₁
  have X1 := X.noted hwarm₁
  have ht : (T.setVm vm₁).topJava?.isSome := X1.here.top
  obtain ⟨V, ⟨F, rfl, XF, f1, f2, f3, f4⟩, E4⟩ := mq_make (g := F0 m pc ls rest) (n := Int32.ofInt 6) X1 (by decide) (by decide) (by decide) hkN hkindN hkI hkindI g1 g2
  have E1 : mq_E e (Jvm.resolveClassAt index) (T.setTop (F0 m pc ls (zI 6 :: zI 6 :: rest))) c2 ((T.setVm vm₁).setTop (F0 m pc ls (zI 6 :: zI 6 :: rest))) := fun Q E d acts h => by
    refine (Jvm.W.resolveClassAt_transfer (s := T.setTop (F0 m pc ls (zI 6 :: zI 6 :: rest))) (m := m) (Jvm.State.method?_setTop _ X.here.top) hg₁ hready₁ ?_).mpr ?_
    · have a1 := hwarm₁.alike.2.1
      have a2 := X.warmed.alike.2.1
      show vm₁.classes.size ≤ T.vm.classes.size
      omega
    · exact (Jvm.W.resolveClassAt_ready (s := (T.setVm vm₁).setTop (F0 m pc ls (zI 6 :: zI 6 :: rest))) (m := m) (Jvm.State.method?_setTop _ ht) hready₁).mpr (h d acts)
  have E9 : mq_E e (Jvm.Op.multianewarray.sem index 2) (T.setTop (F0 m pc ls (zI 6 :: zI 6 :: rest))) () (F.setTop (F0 m pc ls (.ref T.heap.size :: rest))) := by
    unfold Jvm.Op.multianewarray.sem
    refine mq_bind E1 (mq_bind (mq_pop2 ht rfl) (mq_bind (a := [Int32.ofInt 6, Int32.ofInt 6]) (V := (T.setVm vm₁).setTop (F0 m pc ls rest)) (fun Q E d acts h => h d acts) (mq_bind E4 (mq_bind (mq_mark _ _) (mq_push XF.here.top _)))))
  refine ⟨F, c2, cI, hnN, hcomp, XF, f2, f3, f4, by have := f1; show T.heap.size ≤ _; have ev : (T.setVm vm₁).heap.size = T.heap.size := rfl; omega, fun target h => ?_⟩
  refine Jvm.Steps.instr (f := F0 m pc ls (zI 6 :: zI 6 :: rest)) X.here ?_
  rw [show decode c.code (F0 m pc ls (zI 6 :: zI 6 :: rest)).pc = _ from hd]
  show Jvm.Sem.wpRun (p.tables.exec (.multianewarray index 2)) _ _ e _
  rw [hx]
  exact E9 _ _ _ _ (fun d' acts' acts => by rw [Jvm.afterInstr_ok]; exact h)
