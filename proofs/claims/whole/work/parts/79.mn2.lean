/-! ===== the one step of the machine: new int[6][6] ===== -/
theorem mn_outer (c : ClassId) (N h0 : Nat) : ∀ i : Nat, Jvm.Free.Multi.outerC c N h0 i = arrV c N (fun j => va_rf (if j < i then some (h0 + 1 + j) else none))
  | 0 => by
    have e : (fun j => va_rf (if j < 0 then some (h0 + 1 + j) else none)) = fun _ => Value.null := by
      funext j
      rw [if_neg (Nat.not_lt_zero j)]
      rfl
    rw [e, ← arrV_new]
    rfl
  | i + 1 => by
    show (Jvm.Free.Multi.outerC c N h0 i).setSlot i (.ref (h0 + 1 + i)) = _
    rw [mn_outer c N h0 i, arrV_store]
    refine congrArg (arrV c N) (funext fun j => ?_)
    unfold updV
    by_cases z : j = i
    · rw [if_pos z, if_pos (by omega), z]
      rfl
    · rw [if_neg z]
      dsimp only
      by_cases y : j < i
      · rw [if_pos y, if_pos (by omega)]
      · rw [if_neg y, if_neg (by omega)]
theorem mn2 : Mn2 := by
  intro p l e R s m args below meth c T locs cells slots X hx own index hown hcl hao harr pc ls rest hd g1 g2
  have es : "[" ++ (FieldType.array .int).toString = "[[I" := by decide
  have e6 : (Int32.ofInt 6).toNatClampNeg = 6 := by decide
  obtain ⟨vm₁, cN, comp, -, fA, fC, -, -, X', step⟩ := Jvm.Stand.multianewarray2F X hx (own := own) (index := index) (ty := .int) hown (by rw [es]; exact hcl) hao harr (g := F0 m pc ls (zI 6 :: zI 6 :: rest)) rfl hd (n := Int32.ofInt 6) (k := Int32.ofInt 6) (rest := rest) rfl (by decide) (by decide) (by rw [e6]; decide) (by rw [e6]; decide) (by rw [e6]; decide) rfl rfl (by rw [e6]; omega) (by rw [e6]; omega)
  rw [e6] at X' step
  have f := Jvm.Free.Multi.fill_facts (T.setVm vm₁) cN comp 6 6 (defaultValue .int) 6
  have fo := fun x hx => Jvm.Free.Multi.fill_old (T.setVm vm₁) cN comp 6 6 (defaultValue .int) (a := x) hx 6
  have fi := Jvm.Free.Multi.fill_inner (T.setVm vm₁) cN comp 6 6 (defaultValue .int) 6
  refine ⟨_, cN, comp, fA, fC, X', ?_, fun j hj => ?_, fun x hx => fo x hx, ?_, fun target h => step target h⟩
  · have := f.2.1
    rw [mn_outer] at this
    exact this
  · refine (fi j hj).trans ?_
    show some ({ cls := comp, slots := Array.replicate 6 (Value.int (Int32.ofInt 0)), vm := .none } : Cell) = _
    rw [arrV_new]
  · have h9 := f.1
    show T.heap.size ≤ _
    rw [h9]
    show T.heap.size ≤ T.heap.size + 1 + 6
    omega
