/-! ===== THE ABSTRACT MACHINE: a state is locals, operand stack, and memory by places; P: from here the method comes to its end with Q; C: a call comes back with Q ===== -/
abbrev AE : Type := (Nat × vp_A) ⊕ (Nat × List Value)
abbrev AM : Type := Nat → Option AE
/-- a method: name, bytes, locals, what it returns, frames and words that it needs, its instructions -/
abbrev MR : Type := MethodName × ByteArray × Nat × Option FieldType × Nat × Nat × List (Nat × Instr × Nat)
abbrev mrY (m : MR) : MethodName := m.1
abbrev mrB (m : MR) : ByteArray := m.2.1
abbrev mrL (m : MR) : Nat := m.2.2.1
abbrev mrR (m : MR) : Option FieldType := m.2.2.2.1
abbrev mrF (m : MR) : Nat := m.2.2.2.2.1
abbrev mrW (m : MR) : Nat := m.2.2.2.2.2.1
abbrev mrT (m : MR) : List (Nat × Instr × Nat) := m.2.2.2.2.2.2
def TabOk (m : MR) : Prop := ∀ q ∈ mrT m, decode (mrB m) q.1 = .ok q.2
/-- the words that a callee keeps -/
def lwg : List Jvm.Cond := lw_tbl.filter goodWord
theorem lwg_of {w : Jvm.Cond} (h : w ∈ lw_tbl) (hg : goodWord w = true) : w ∈ lwg := List.mem_filter.mpr ⟨h, hg⟩
abbrev mrWs (m : MR) : List Jvm.Cond := Jvm.Cond.code (mrY m) (mrB m) (mrL m) (mrR m) :: lwg
abbrev mrRm (m : MR) : Room := { frames := mrF m, cells := 0, slots := 0, locals := mrW m }
/-- abstract values: a reference is a place; retAddr 0 is what nobody reads -/
def cv (ad : Nat → Nat) (v : Value) : Value := match v with
  | .ref k => .ref (ad k)
  | w => w
def wc (cA : Nat → ClassId) (ad : Nat → Nat) (c : Option AE) : va_E := match c with
  | none => .inr (0, [])
  | some (.inr (ci, fs)) => .inr (ci, fs.map (cv ad))
  | some (.inl (t, n, .inr (.inr (.inr (.inr g))))) => .inl (cA t, n, .inr (.inr (.inr (.inr (fun j => (g j).map ad)))))
  | some (.inl (t, x)) => .inl (cA t, x)
def wl (cA : Nat → ClassId) (ad : Nat → Nat) (n : Nat) (M : AM) : va_W := (List.range n).map (fun k => (ad k, wc cA ad (M k)))
def aup (M : AM) (k : Nat) (c : AE) : AM := fun j => if j = k then some c else M j
def FA (ad : Nat → Nat) (n : Nat) : Nat → Prop := fun q => ∃ k, k < n ∧ ad k = q
def Wd (D : va_G) (cA : Nat → ClassId) (ad : Nat → Nat) (n : Nat) (M : AM) (H : Heap) : Prop :=
  va_P D vwCl (wl cA ad n M) H ∧ (∀ i j, i < n → j < n → ad i = ad j → i = j) ∧ ∀ k c, M k = some c → k < n
abbrev tysL (cA : Nat → ClassId) : List (ClassId × FieldType) := [(cA 0, .int), (cA 1, .boolean), (cA 2, .object RX2), (cA 3, .object RX6), (cA 4, .array .int)]
def LV (ad : Nat → Nat) (ls : Array Slot) (nL : Nat) (L : List Value) : Prop :=
  ls.size = nL ∧ lv_wf ls ∧ L.length = nL ∧ ∀ (i : Nat) (v : Value), L[i]? = some v → v ≠ Value.retAddr 0 → ls[i]? = some (Slot.val (cv ad v))
def ScOk (sc : Option (Nat × (Nat → Int32))) (ad : Nat → Nat) (n : Nat) (s : State) (H0 : Heap) : Prop :=
  ∀ q, sc = some q → va_X (ad 1000000) q.1 q.2 s H0 ∧ ad 1000000 < H0.size ∧ ¬ FA ad n (ad 1000000)
def Ctx (p : Program) (R : Room) (s : State) (m : MethodId) (args : Array Value) (c : Code) (D : va_G) (cA : Nat → ClassId) (cells slots : Nat) (mr : MR) : Prop :=
  p.tables.exec = Jvm.exec ∧ c.code = mrB mr ∧ c.maxLocals = mrL mr ∧ s.vm.findClass (mrY mr).cls = some m.cls ∧ (∀ w ∈ lwg, w.before args s = true) ∧ va_K D vwCl (tysL cA) s ∧ mrF mr ≤ R.frames ∧ mrW mr ≤ R.locals ∧ TabOk mr ∧ cells ≤ R.cells ∧ slots ≤ R.slots
def RetAt (mr : MR) (pc : Nat) (r : Option Value) : Prop :=
  (r = none ∧ mrR mr = none ∧ decode (mrB mr) pc = .ok (.return_, 1)) ∨ ∃ v ty, r = some (.int v) ∧ mrR mr = some ty ∧ narrow ty (.int v) = .int v ∧ decode (mrB mr) pc = .ok (.ireturn, 1)
def P (sc : Option (Nat × (Nat → Int32))) (mr : MR) (pc : Nat) (L st : List Value) (M : AM) (Q : Option Value → AM → Prop) : Prop :=
  ∀ (p : Program) (l : Launch) (e : Env) (R : Room) (s : State) (m : MethodId) (args : Array Value) (below : List Frame) (meth : Method) (c : Code) (D : va_G) (cA : Nat → ClassId) (ad : Nat → Nat) (n : Nat) (H0 H : Heap) (locs : List Loc) (cells slots : Nat) (ls : Array Slot) (Z : State → Prop),
    Ctx p R s m args c D cA cells slots mr → ScOk sc ad n s H0 → Wd D cA ad n M H → va_S (FA ad n) H0 H locs → LV ad ls (mrL mr) L →
    (∀ (r : Option Value) (M' : AM) (pcr : Nat) (H' : Heap) (locs' : List Loc) (ls' : Array Slot), RetAt mr pcr r → Q r M' → Wd D cA ad n M' H' → va_S (FA ad n) H0 H' locs' → W p l e R s m args below meth c H' locs' cells slots Z (F0 m pcr ls' (r.toList.map (cv ad)))) →
    W p l e R s m args below meth c H locs cells slots Z (F0 m pc ls (st.map (cv ad)))
def C (mr : MR) (vs : List Value) (M : AM) (Q : Option Value → AM → Prop) : Prop :=
  ∀ (l : Launch) (D : va_G) (cA : Nat → ClassId) (ad : Nat → Nat) (n : Nat),
    Met l (mrY mr) (mrWs mr) (mrRm mr) (va_Pc (vs.map (cv ad)) (fun U : State => va_K D vwCl (tysL cA) U ∧ Wd D cA ad n M U.heap))
      (fun (_ : Array Value) (st : State) (oc : Outcome) (t : State) => ∃ (r : Option Value) (M' : AM), oc = Outcome.returned (r.map (cv ad)) ∧ Q r M' ∧ Wd D cA ad n M' t.heap ∧ va_F (FA ad n) st t) 0 0 (FA ad n)
theorem TabOk.dec {mr : MR} (h : TabOk mr) {i pc k : Nat} {x : Instr} (hi : (mrT mr)[i]? = some (pc, x, k)) : decode (mrB mr) pc = .ok (x, k) := h (pc, x, k) (List.mem_of_getElem? hi)
theorem Ctx.dec {p : Program} {R : Room} {s : State} {m : MethodId} {args : Array Value} {c : Code} {D : va_G} {cA : Nat → ClassId} {cells slots : Nat} {mr : MR} (h : Ctx p R s m args c D cA cells slots mr) {i pc k : Nat} {x : Instr} (hi : (mrT mr)[i]? = some (pc, x, k)) : decode (mrB mr) pc = .ok (x, k) := TabOk.dec h.2.2.2.2.2.2.2.2.1 hi
theorem wl_get {cA : Nat → ClassId} {ad : Nat → Nat} {n k : Nat} {M : AM} (h : k < n) : (wl cA ad n M)[k]? = some (ad k, wc cA ad (M k)) := by
  unfold wl
  rw [List.getElem?_map, List.getElem?_range h]
  rfl
theorem wl_len {cA : Nat → ClassId} {ad : Nat → Nat} {n : Nat} {M : AM} : (wl cA ad n M).length = n := by simp [wl]
theorem wl_at {cA : Nat → ClassId} {ad : Nat → Nat} {n k : Nat} {M : AM} {q : Nat × va_E} (h : (wl cA ad n M)[k]? = some q) : k < n ∧ q = (ad k, wc cA ad (M k)) := by
  have hk : k < n := by
    have := (List.getElem?_eq_some_iff.mp h).1
    rw [wl_len] at this
    exact this
  rw [wl_get hk] at h
  exact ⟨hk, (Option.some.inj h).symm⟩
theorem wl_set {cA : Nat → ClassId} {ad : Nat → Nat} {n k : Nat} {M : AM} (h : k < n) (c : AE) : (wl cA ad n M).set k (ad k, wc cA ad (some c)) = wl cA ad n (aup M k c) := by
  apply List.ext_getElem?
  intro i
  by_cases hi : i < n
  · rw [wl_get hi, List.getElem?_set]
    by_cases e : k = i
    · subst e
      rw [if_pos rfl, if_pos (by rw [wl_len]; exact h)]
      simp [aup]
    · rw [if_neg e, wl_get hi]
      have e2 : ¬ i = k := fun q => e q.symm
      unfold aup
      rw [if_neg e2]
  · rw [List.getElem?_eq_none (by rw [List.length_set, wl_len]; omega), List.getElem?_eq_none (by rw [wl_len]; omega)]
theorem Wd.D {D : va_G} {cA : Nat → ClassId} {ad : Nat → Nat} {n : Nat} {M : AM} {H : Heap} (h : Wd D cA ad n M H) : va_D (FA ad n) (wl cA ad n M) := by
  refine ⟨fun i j p q hi hj e => ?_, fun k q hk => ?_⟩
  · obtain ⟨h1, rfl⟩ := wl_at hi
    obtain ⟨h2, rfl⟩ := wl_at hj
    exact h.2.1 i j h1 h2 e
  · obtain ⟨h1, rfl⟩ := wl_at hk
    exact ⟨k, h1, rfl⟩
theorem Wd.put {D : va_G} {cA : Nat → ClassId} {ad : Nat → Nat} {n : Nat} {M : AM} {H H1 : Heap} {k : Nat} {c : AE} (h : Wd D cA ad n M H) (hk : k < n) (hP : va_P D vwCl ((wl cA ad n M).set k (ad k, wc cA ad (some c))) H1) : Wd D cA ad n (aup M k c) H1 := by
  rw [wl_set hk] at hP
  refine ⟨hP, h.2.1, fun j x hx => ?_⟩
  unfold aup at hx
  by_cases e : j = k
  · rw [e]; exact hk
  · rw [if_neg e] at hx
    exact h.2.2 j x hx
theorem LV.lv {ad : Nat → Nat} {ls : Array Slot} {nL : Nat} {L : List Value} (h : LV ad ls nL L) : lv_has ls nL ((List.range nL).filterMap (fun i => match L[i]? with
    | some v => if v = .retAddr 0 then none else some (i, cv ad v)
    | none => none)) := by
  refine ⟨h.1, h.2.1, fun q hq => ?_⟩
  obtain ⟨i, hi, e⟩ := List.mem_filterMap.mp hq
  cases hv : L[i]? with
  | none => rw [hv] at e; cases e
  | some v =>
    rw [hv] at e
    by_cases hz : v = .retAddr 0
    · simp [hz] at e
    · simp [hz] at e
      subst e
      exact h.2.2.2 i v hv hz
theorem cv_cat (ad : Nat → Nat) (v : Value) : (cv ad v).category = v.category := by cases v <;> rfl
theorem cv_sum (ad : Nat → Nat) (st : List Value) : ((st.map (cv ad)).map fun v => v.category).sum = (st.map fun v => v.category).sum := by
  rw [List.map_map]
  congr 1
  apply List.map_congr_left
  intro v _
  exact cv_cat ad v
/-- a store of one word: what is not the word stays; the word below it is no long -/
theorem LV.store {ad : Nat → Nat} {ls ls' : Array Slot} {nL i : Nat} {L : List Value} {v : Value} (h : LV ad ls nL L) (hi : i < nL)
    (hb : ∀ j w, j + 1 = i → L[j]? = some w → w.category ≠ 2)
    (h' : lv_has ls' nL ((i, cv ad v) :: ((List.range nL).filterMap (fun i => match L[i]? with
    | some v => if v = .retAddr 0 then none else some (i, cv ad v)
    | none => none)).filter (fun q => !(q.1 == i) && !(q.1 + 1 == i && q.2.category == 2)))) : LV ad ls' nL (L.set i v) := by
  refine ⟨h'.1, h'.2.1, by rw [List.length_set]; exact h.2.2.1, fun j w hj hw => ?_⟩
  rw [List.getElem?_set] at hj
  by_cases e : i = j
  · subst e
    rw [if_pos rfl, if_pos (by rw [h.2.2.1]; exact hi)] at hj
    obtain rfl := Option.some.inj hj
    exact h'.2.2 (i, cv ad v) List.mem_cons_self
  · rw [if_neg e] at hj
    have hjn : j < nL := by
      have := (List.getElem?_eq_some_iff.mp hj).1
      rw [h.2.2.1] at this
      exact this
    refine h'.2.2 (j, cv ad w) (List.mem_cons_of_mem _ (List.mem_filter.mpr ⟨List.mem_filterMap.mpr ⟨j, List.mem_range.mpr hjn, by rw [hj]; simp [hw]⟩, ?_⟩))
    have h1 : (j == i) = false := beq_eq_false_iff_ne.mpr (by omega)
    by_cases h2 : j + 1 = i
    · have := hb j w h2 hj
      simp [h1, cv_cat, this]
    · simp [h1, h2]
theorem LV.store2 {ad : Nat → Nat} {ls ls' : Array Slot} {nL i : Nat} {L : List Value} {v : Value} (h : LV ad ls nL L) (hi : i + 1 < nL)
    (hb : ∀ j w, j + 1 = i → L[j]? = some w → w.category ≠ 2)
    (h' : lv_has ls' nL ((i, cv ad v) :: ((List.range nL).filterMap (fun i => match L[i]? with
    | some v => if v = .retAddr 0 then none else some (i, cv ad v)
    | none => none)).filter (fun q => !(q.1 == i) && (!(q.1 == i + 1) && !(q.1 + 1 == i && q.2.category == 2))))) : LV ad ls' nL ((L.set i v).set (i + 1) (.retAddr 0)) := by
  refine ⟨h'.1, h'.2.1, by rw [List.length_set, List.length_set]; exact h.2.2.1, fun j w hj hw => ?_⟩
  rw [List.getElem?_set] at hj
  by_cases e1 : i + 1 = j
  · rw [if_pos e1, if_pos (by rw [List.length_set, h.2.2.1]; omega)] at hj
    exact absurd (Option.some.inj hj).symm hw
  · rw [if_neg e1, List.getElem?_set] at hj
    by_cases e : i = j
    · subst e
      rw [if_pos rfl, if_pos (by rw [h.2.2.1]; omega)] at hj
      obtain rfl := Option.some.inj hj
      exact h'.2.2 (i, cv ad v) List.mem_cons_self
    · rw [if_neg e] at hj
      have hjn : j < nL := by
        have := (List.getElem?_eq_some_iff.mp hj).1
        rw [h.2.2.1] at this
        exact this
      refine h'.2.2 (j, cv ad w) (List.mem_cons_of_mem _ (List.mem_filter.mpr ⟨List.mem_filterMap.mpr ⟨j, List.mem_range.mpr hjn, by rw [hj]; simp [hw]⟩, ?_⟩))
      have h1 : (j == i) = false := beq_eq_false_iff_ne.mpr (by omega)
      have h3 : (j == i + 1) = false := beq_eq_false_iff_ne.mpr (by omega)
      by_cases h2 : j + 1 = i
      · have := hb j w h2 hj
        simp [h1, h3, cv_cat, this]
      · simp [h1, h2, h3]
/-- the locals at a method's start -/
def en : Nat → List Value → List Value
  | n, [] => List.replicate n (.retAddr 0)
  | n, v :: vs => if v.category = 2 then v :: .retAddr 0 :: en (n - 2) vs else v :: en (n - 1) vs
theorem en_len : ∀ (vs : List Value) (n : Nat), (lg_sl vs).length ≤ n → (en n vs).length = n
  | [], n, _ => by simp [en]
  | v :: vs, n, h => by
    have e : lg_sl (v :: vs) = (if v.category = 2 then [Slot.val v, .second] else [Slot.val v]) ++ lg_sl vs := by simp [lg_sl]
    rw [e] at h
    unfold en
    by_cases hc : v.category = 2
    · rw [if_pos hc] at h ⊢
      simp only [List.length_append, List.length_cons, List.length_nil] at h
      rw [List.length_cons, List.length_cons, en_len vs (n - 2) (by omega)]
      omega
    · rw [if_neg hc] at h ⊢
      simp only [List.length_append, List.length_cons, List.length_nil] at h
      rw [List.length_cons, en_len vs (n - 1) (by omega)]
      omega
theorem en_args (ad : Nat → Nat) : ∀ (vs : List Value) (n o i : Nat) (v : Value), (en n vs)[i]? = some v → v ≠ .retAddr 0 → (o + i, cv ad v) ∈ lv_args o (vs.map (cv ad))
  | [], n, o, i, v, h, hv => by
    unfold en at h
    rw [List.getElem?_replicate] at h
    split at h
    · exact absurd (Option.some.inj h).symm hv
    · cases h
  | w :: vs, n, o, i, v, h, hv => by
    unfold en at h
    show (o + i, cv ad v) ∈ (o, cv ad w) :: lv_args (if (cv ad w).category = 2 then o + 2 else o + 1) (vs.map (cv ad))
    rw [cv_cat]
    by_cases hc : w.category = 2
    · rw [if_pos hc] at h ⊢
      match i, h with
      | 0, h => obtain rfl : w = v := Option.some.inj h; exact List.mem_cons_self
      | 1, h => exact absurd (Option.some.inj h).symm hv
      | i + 2, h =>
        have := en_args ad vs (n - 2) (o + 2) i v h hv
        rw [show o + (i + 2) = o + 2 + i by omega]
        exact List.mem_cons_of_mem _ this
    · rw [if_neg hc] at h ⊢
      match i, h with
      | 0, h => obtain rfl : w = v := Option.some.inj h; exact List.mem_cons_self
      | i + 1, h =>
        have := en_args ad vs (n - 1) (o + 1) i v h hv
        rw [show o + (i + 1) = o + 1 + i by omega]
        exact List.mem_cons_of_mem _ this
theorem lg_sl_cv (ad : Nat → Nat) (vs : List Value) : (lg_sl (vs.map (cv ad))).length = (lg_sl vs).length := by
  induction vs with
  | nil => rfl
  | cons v vs ih =>
    have e : ∀ (w : Value) (ws : List Value), lg_sl (w :: ws) = (if w.category = 2 then [Slot.val w, .second] else [Slot.val w]) ++ lg_sl ws := by intro w ws; simp [lg_sl]
    rw [List.map_cons, e, e, List.length_append, List.length_append, ih, cv_cat]
    by_cases hc : v.category = 2 <;> simp [hc]
/-- a contract out of a walk -/
theorem C_of {mr : MR} {vs : List Value} {M : AM} {Q : Option Value → AM → Prop} (ht : TabOk mr) (hpl : plainName (mrY mr).cls = true) (hn : (lg_sl vs).length ≤ mrL mr) (h : P none mr 0 (en (mrL mr) vs) [] M Q) : C mr vs M Q := by
  intro l D cA ad n
  refine Met.ofW (cc := mrB mr) (maxL := mrL mr) (ret := mrR mr) hpl rfl ?_
  intro p e s m args below meth c s₁ B hml hv
  obtain ⟨rfl, hK, hW⟩ := hv
  have hts := atoms_spec (ws := mrWs mr) B.pre
  have hown : s.vm.findClass (mrY mr).cls = some m.cls := findClass_of_methodNamed B.named
  have hlocks := B.notSynchronized
  have hr := B.returns
  have hl := lv_entry (vs.map (cv ad)) (n := mrL mr) (by rw [lg_sl_cv]; exact hn)
  rw [lg_entry_eq]
  refine h p l e (headSpec (mrWs mr) (mrRm mr)).room s m _ below meth c D cA ad n s.heap s.heap [] 0 0 _ _ ⟨B.exec, B.bytes, hml, hown, fun w hw => hts w (List.mem_cons_of_mem _ hw), hK, Nat.le_refl _, Nat.le_refl _, ht, Nat.zero_le _, Nat.zero_le _⟩ (fun q hq => by cases hq) hW va_S.rf ⟨hl.1, hl.2.1, en_len vs _ hn, fun i v hi hv => ?_⟩ ?_
  · have := hl.2.2 _ (en_args ad vs (mrL mr) 0 i v hi hv)
    rw [Nat.zero_add] at this
    exact this
  · intro r M' pcr H' locs' ls' hret hq hW' hS'
    rcases hret with ⟨rfl, hrt, hd⟩ | ⟨v, ty, rfl, hrt, hnar, hd⟩
    · exact W.vret B.exec B.bytes (hr.trans hrt) (fun t ht2 hWm => ⟨none, M', rfl, hq, by rw [ht2]; exact hW', hS'.F ht2⟩) hS'.2.2 hd
    · exact W.zret B.exec B.bytes (hr.trans hrt) hnar (fun t ht2 hWm => ⟨some (.int v), M', rfl, hq, by rw [ht2]; exact hW', hS'.F ht2⟩) hS'.2.2 hd
theorem C_mono {mr : MR} {vs : List Value} {M : AM} {Q Q' : Option Value → AM → Prop} (h : C mr vs M Q) (hq : ∀ r M', Q r M' → Q' r M') : C mr vs M Q' := by
  intro l D cA ad n
  have h1 := h l D cA ad n
  intro p e ha hc hk s m args below hf happ hp hx
  obtain ⟨t, o, a1, a2, a3, ⟨r, M', e1, e2, e3⟩, a4⟩ := h1 p e ha hc hk s m args below hf happ hp hx
  exact ⟨t, o, a1, a2, a3, ⟨r, M', e1, hq r M' e2, e3⟩, a4⟩
