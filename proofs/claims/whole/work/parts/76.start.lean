-- the law's start
set_option maxRecDepth 20000 in
theorem c_law (hm : MnaRow) : P1 mL_law 0 [.retAddr 0, .retAddr 0, .retAddr 0, .retAddr 0] [] 0 (fun _ => none) 400 10000 (fun pc' L' n' M' => pc' = 16 ∧ L' = [.retAddr 0, .ref 0, .ref 276, .retAddr 0] ∧ n' = 288 ∧ XW M' σ0 ∧ YW M' σ0) := by
  refine q_new (i := 0) rfl nkL_law_7 (by omega) (by omega) (P1_gen fun M e => ?_)
  have kp0 := aupE e
  refine q_dup (i := 1) rfl rfl ?_
  refine q_init (i := 2) rfl ioL_law_9 rfl (by omega) (by omega) (c_X9 hm kp0 (fun M2 hX fr2 => ?_))
  have f276 : FrI 276 1 M2 M2 := FrI.rf
  refine q_astore_n (i := 3) rfl rfl rfl ?_
  refine q_new (i := 4) rfl nkL_law_10 (by omega) (by omega) (P1_gen fun M e => ?_)
  have f276 := f276.up e (by omega)
  have kp1 := aupE e
  refine q_dup (i := 5) rfl rfl ?_
  have hX := hX.fi f276 (by omega)
  refine q_init (i := 6) rfl ioL_law_12 rfl (by omega) (by omega) (c_X10 kp1 (fun M3 hY fr3 => ?_))
  have hX := hX.fi fr3 (by omega)
  refine q_astore_n (i := 7) rfl rfl rfl ?_
  exact q_end ⟨rfl, rfl, rfl, hX, hY⟩
theorem aoa_spec {s : State} (h : AOA s) : ∃ comp c k, s.vm.findClass (FieldType.array .int).toString = some comp ∧ (s.vm.classes.findIdx? fun x => match x.kind with | .array component _ => component == comp | _ => false) = some c ∧ s.vm.classes[c]? = some k ∧ k.kind = .array comp (.array .int) ∧ s.vm.findClass ("[" ++ (FieldType.array .int).toString) = some c := by
  unfold AOA Jvm.Cond.before at h
  simp only [Jvm.Cond.holds, Jvm.Cond.value, beq_iff_eq] at h
  cases hc : s.vm.findClass (FieldType.array .int).toString with
  | none => simp [hc] at h
  | some comp =>
    simp only [hc, Option.bind_some, Option.bind_eq_some_iff, Option.map_eq_some_iff] at h
    obtain ⟨c, hi, k, hk, hb⟩ := h
    obtain ⟨hlt, hp, -⟩ := Array.findIdx?_eq_some_iff_getElem.mp hi
    have hkk : s.vm.classes[c] = k := (Array.getElem?_eq_some_iff.mp hk).2
    rw [hkk] at hp
    cases hkind : k.kind with
    | array component ty =>
      rw [hkind] at hb hp
      simp at hb hp
      exact ⟨comp, c, k, rfl, hi, hk, by rw [hkind, hp, hb.1], hb.2⟩
    | _ => rw [hkind] at hb; simp at hb
theorem aoM : AoM := by
  intro u U hvm h
  obtain ⟨comp, c, k, h1, h2, h3, h4, h5⟩ := aoa_spec h
  obtain ⟨k', hk', he⟩ := hvm.2.2 _ _ h3
  have hi : (U.vm.classes.findIdx? fun (x : Class) => match x.kind with | .array component _ => component == comp | _ => false) = some c := by
    have e1 := va_idx_bare U.vm comp
    have e2 := va_idx_bare u.vm comp
    have e3 : U.vm.bare = u.vm.bare := by first | exact hvm.bare_eq | exact hvm.bare_eq.symm
    rw [e3] at e1
    exact e1.symm.trans (e2.trans h2)
  have hkind : k'.kind = .array comp (.array .int) := by rw [he]; exact h4
  have f1 : U.vm.findClass (FieldType.array .int).toString = some comp := by rw [hvm.findClass]; exact h1
  have f2 : U.vm.findClass ("[" ++ (FieldType.array .int).toString) = some c := by rw [hvm.findClass]; exact h5
  unfold AOA Jvm.Cond.before Jvm.Cond.holds
  simp only [Jvm.Cond.value]
  rw [f1, Option.bind_some]
  refine (congrArg (fun o : Option Nat => (o.bind (fun c => (U.vm.classes[c]?).map fun (k : Class) => match k.kind with | .array _ ty => decide (ty = FieldType.array .int) && decide (U.vm.findClass ("[" ++ (FieldType.array .int).toString) = some c) | _ => false) == some true)) hi).trans ?_
  simp [hk', hkind, f2]
set_option maxRecDepth 20000 in
theorem inX0 : Jvm.Cond.instantiable RX0 3 ∈ lwg := (lwg_of (List.mem_append_right _ (List.mem_of_getElem? (i := 159) rfl)) rfl)
set_option maxRecDepth 20000 in
theorem inX1 : Jvm.Cond.instantiable RX1 3 ∈ lwg := (lwg_of (List.mem_append_right _ (List.mem_of_getElem? (i := 49) rfl)) rfl)
set_option maxRecDepth 20000 in
theorem inX2 : Jvm.Cond.instantiable RX2 3 ∈ lwg := (lwg_of (List.mem_append_right _ (List.mem_of_getElem? (i := 213) rfl)) rfl)
set_option maxRecDepth 20000 in
theorem inX3 : Jvm.Cond.instantiable RX3 7 ∈ lwg := (lwg_of (List.mem_append_right _ (List.mem_of_getElem? (i := 178) rfl)) rfl)
set_option maxRecDepth 20000 in
theorem inX4 : Jvm.Cond.instantiable RX4 3 ∈ lwg := (lwg_of (List.mem_append_right _ (List.mem_of_getElem? (i := 62) rfl)) rfl)
set_option maxRecDepth 20000 in
theorem inX5 : Jvm.Cond.instantiable RX5 3 ∈ lwg := (lwg_of (List.mem_append_right _ (List.mem_of_getElem? (i := 141) rfl)) rfl)
set_option maxRecDepth 20000 in
theorem inX6 : Jvm.Cond.instantiable RX6 8 ∈ lwg := (lwg_of (List.mem_append_right _ (List.mem_of_getElem? (i := 56) rfl)) rfl)
set_option maxRecDepth 20000 in
theorem inX7 : Jvm.Cond.instantiable RX7 5 ∈ lwg := (lwg_of (List.mem_append_right _ (List.mem_of_getElem? (i := 24) rfl)) rfl)
set_option maxRecDepth 20000 in
theorem inX8 : Jvm.Cond.instantiable RX8 2 ∈ lwg := (lwg_of (List.mem_append_right _ (List.mem_of_getElem? (i := 126) rfl)) rfl)
set_option maxRecDepth 20000 in
theorem inX9 : Jvm.Cond.instantiable RX9 12 ∈ lwg := (lwg_of (List.mem_append_right _ (List.mem_of_getElem? (i := 16) rfl)) rfl)
set_option maxRecDepth 20000 in
theorem inX10 : Jvm.Cond.instantiable RX10 23 ∈ lwg := (lwg_of (List.mem_append_right _ (List.mem_of_getElem? (i := 742) rfl)) rfl)
theorem cls_inst {ci : Nat} {q : vw_C} (h : vwCl[ci]? = some q) : Jvm.Cond.instantiable q.1 q.2.2 ∈ lwg := by
  match ci, h with
  | 0, h => cases h; exact inX0
  | 1, h => cases h; exact inX1
  | 2, h => cases h; exact inX2
  | 3, h => cases h; exact inX3
  | 4, h => cases h; exact inX4
  | 5, h => cases h; exact inX5
  | 6, h => cases h; exact inX6
  | 7, h => cases h; exact inX7
  | 8, h => cases h; exact inX8
  | 9, h => cases h; exact inX9
  | 10, h => cases h; exact inX10
  | ci + 11, h => cases h
set_option maxRecDepth 20000 in
theorem nests_in : ∀ q ∈ nests, Jvm.Cond.methodLinkNest q.1 q.2.1 q.2.2.1 q.2.2.2 ∈ lw_tbl := List.forall_mem_cons.mpr ⟨(List.mem_append_right _ (List.mem_of_getElem? (i := 25) rfl)), List.forall_mem_cons.mpr ⟨(List.mem_append_right _ (List.mem_of_getElem? (i := 57) rfl)), List.forall_mem_cons.mpr ⟨(List.mem_append_right _ (List.mem_of_getElem? (i := 63) rfl)), List.forall_mem_cons.mpr ⟨(List.mem_append_right _ (List.mem_of_getElem? (i := 124) rfl)), List.forall_mem_cons.mpr ⟨(List.mem_append_right _ (List.mem_of_getElem? (i := 127) rfl)), List.forall_mem_cons.mpr ⟨(List.mem_append_right _ (List.mem_of_getElem? (i := 142) rfl)), List.forall_mem_cons.mpr ⟨(List.mem_append_right _ (List.mem_of_getElem? (i := 160) rfl)), List.forall_mem_cons.mpr ⟨(List.mem_append_right _ (List.mem_of_getElem? (i := 179) rfl)), List.forall_mem_cons.mpr ⟨(List.mem_append_right _ (List.mem_of_getElem? (i := 214) rfl)), List.forall_mem_cons.mpr ⟨(List.mem_append_right _ (List.mem_of_getElem? (i := 219) rfl)), fun _ h => absurd h List.not_mem_nil⟩⟩⟩⟩⟩⟩⟩⟩⟩⟩
set_option maxRecDepth 20000 in
theorem over_in : Jvm.Cond.arrayOver (.object RX2) ∈ lw_tbl ∧ Jvm.Cond.arrayOver (.object RX6) ∈ lw_tbl ∧ Jvm.Cond.arrayOver (.array .int) ∈ lw_tbl := ⟨(List.mem_append_right _ (List.mem_of_getElem? (i := 122) rfl)), (List.mem_append_right _ (List.mem_of_getElem? (i := 55) rfl)), (List.mem_append_right _ (List.mem_of_getElem? (i := 184) rfl))⟩
theorem zw_of {s : State} {args : Array Value} (hts : ∀ w ∈ lw_tbl, w.before args s = true) : Zw s := ⟨fun q hq => va_Nw.of rfl (hts _ (nests_in q hq)), va_AO.of (hts _ over_in.1), va_AO.of (hts _ over_in.2.1), hts _ over_in.2.2, aoM⟩
theorem know {s : State} {args : Array Value} (hts : ∀ w ∈ lw_tbl, w.before args s = true) : ∃ (D : va_G) (cA : Nat → ClassId), va_K D vwCl (tysL cA) s := by
  have htg : ∀ w ∈ lwg, w.before args s = true := fun w hw => hts w (List.mem_filter.mp hw).1
  have h1 : ∀ ci : Nat, ∃ d : ClassId × (Nat → Nat), ∀ q : vw_C, vwCl[ci]? = some q → u_Kn s q.1 q.2.1 q.2.2 d.1 d.2 := fun ci => by
    cases hq : vwCl[ci]? with
    | none => exact ⟨(0, fun _ => 0), fun q h => by cases h⟩
    | some q =>
      obtain ⟨cC, iS, h⟩ := u_known htg (cls_in hq) (htg _ (cls_inst hq))
      exact ⟨(cC, iS), fun q' h' => by cases h'; exact h⟩
  obtain ⟨F, hF⟩ := Classical.axiomOfChoice h1
  obtain ⟨c0, k0, p0, a1, a2, a3⟩ := Cond.arrayClass_spec (htg _ w_ci)
  obtain ⟨c1, k1, p1, b1, b2, b3⟩ := Cond.arrayClass_spec (htg _ w_cz)
  obtain ⟨p2, c2, k2, d1, d2, d3, d4, d5⟩ := Cond.arrayOver_spec (hts _ over_in.1)
  obtain ⟨p3, c3, k3, e1, e2, e3, e4, e5⟩ := Cond.arrayOver_spec (hts _ over_in.2.1)
  obtain ⟨p4, c4, k4, f1, f2, f3, f4, f5⟩ := aoa_spec (show AOA s from hts _ over_in.2.2)
  refine ⟨(fun ci => (F ci).1, fun ci => (F ci).2), fun t => match t with
    | 0 => c0
    | 1 => c1
    | 2 => c2
    | 3 => c3
    | _ => c4, fun ci q hq => hF ci q hq, fun t q hq => ?_⟩
  match t, hq with
  | 0, hq => cases hq; exact ⟨fun n z => ⟨fun k h => (by cases h), k0, a2, p0, a3⟩, a1⟩
  | 1, hq => cases hq; exact ⟨fun n z => ⟨fun k h => (by cases h), k1, b2, p1, b3⟩, b1⟩
  | 2, hq => cases hq; exact ⟨fun n z => ⟨fun k h => (by cases h), k2, d3, p2, d4⟩, k2, p2, d3, d4, d1, d5⟩
  | 3, hq => cases hq; exact ⟨fun n z => ⟨fun k h => (by cases h), k3, e3, p3, e4⟩, k3, p3, e3, e4, e1, e5⟩
  | 4, hq => cases hq; exact ⟨fun n z => ⟨fun k h => (by cases h), k4, f3, p4, f4⟩, f5⟩
  | t + 5, hq => cases hq
