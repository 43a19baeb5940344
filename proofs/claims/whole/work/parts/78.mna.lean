/-! ===== new int[6][6]: out of one step of the machine, what the places are ===== -/
def Mn2 : Prop := ∀ (p : Program) (l : Launch) (e : Env) (R : Room) (s : State) (m : MethodId) (args : Array Value) (below : List Frame) (meth : Method) (c : Code) (T : State) (locs : List Loc) (cells slots : Nat), Stand p l e R s m args below meth c T locs cells slots → p.tables.exec = Jvm.exec →
  ∀ (own : String) (index : Nat), s.vm.findClass own = some m.cls → (Jvm.Cond.classLink own index "[[I").before args s = true → AOA s → (Jvm.Cond.arrayClass .int).before args s = true →
  ∀ (pc : Nat) (ls : Array Slot) (rest : List Value), decode c.code pc = .ok (.multianewarray index 2, 4) → cells + 7 ≤ R.cells → slots + 42 ≤ R.slots →
  ∃ (F : State) (cN comp : ClassId), s.vm.findClass ("[" ++ (FieldType.array .int).toString) = some cN ∧ s.vm.findClass (FieldType.array .int).toString = some comp ∧ Stand p l e R s m args below meth c F locs (cells + 7) (slots + 42) ∧
    F.heap[T.heap.size]? = some (arrV cN 6 (fun j => va_rf (if j < 6 then some (T.heap.size + 1 + j) else none))) ∧ (∀ j, j < 6 → F.heap[T.heap.size + 1 + j]? = some (arrV comp 6 (fun _ => .int (Int32.ofInt 0)))) ∧ (∀ x, x < T.heap.size → F.heap[x]? = T.heap[x]?) ∧ T.heap.size ≤ F.heap.size ∧
    ∀ target, Steps p.tables e below (F.setTop (F0 m (pc + 4) ls (.ref T.heap.size :: rest))) target → Steps p.tables e below (T.setTop (F0 m pc ls (zI 6 :: zI 6 :: rest))) target
theorem mna_of (h2 : Mn2) : MnaRow := by
  intro mr pc L st n M k sl Q i idx hi hw h1 hs2 h
  intro p l e R s m args below meth c D cA ad A H0 H locs cells slots ls x0 Z S hk
  have S0 := S
  obtain ⟨hC, hZ, hNm, hA, hAd, hW, hS, hL, rL, rS⟩ := S
  have hts := hC.2.2.2.2.1
  have hK := hC.2.2.2.2.2.1
  have g1 := hC.2.2.2.2.2.2.2.2.2.1
  have g2 := hC.2.2.2.2.2.2.2.2.2.2
  intro T hT X
  obtain ⟨F, cN, comp, fA, fC, X', o1, o2, o3, o4, step⟩ := h2 p l e R s m args below meth c T locs cells slots X hC.1 (mrY mr).cls idx hC.2.2.2.1 (hts _ hw) hZ.2.2.2.1 (hts _ w_ci) pc ls (st.map (cv ad)) (by rw [hC.2.1]; exact hC.dec hi) (by omega) (by omega)
  have ec : cN = cA 4 := Option.some.inj (fA.symm.trans (hK.2 4 (cA 4, .array .int) rfl).2)
  have ep : comp = cA 0 := Option.some.inj (fC.symm.trans (hK.2 0 (cA 0, .int) rfl).2)
  subst ec
  subst ep
  rw [hT] at o1 o2 o3 o4 step
  obtain ⟨ad', ead⟩ : ∃ f : Nat → Nat, f = fun j => if n ≤ j ∧ j ≤ n + 6 then H.size + (j - n) else ad j := ⟨_, rfl⟩
  have an : ∀ j, n ≤ j → j ≤ n + 6 → ad' j = H.size + (j - n) := fun j u v => by rw [ead]; exact if_pos ⟨u, v⟩
  have ao : ∀ j, j < n ∨ n + 7 ≤ j → ad' j = ad j := fun j u => by rw [ead]; exact if_neg (by omega)
  have elt : ∀ j x, ((List.range 7).map (fun i => (ad' (n + i), wc cA ad' (mnaM M n (n + i)))))[j]? = some x → j < 7 ∧ x = (H.size + j, wc cA ad' (mnaM M n (n + j))) := fun j x hx => by
    rw [List.getElem?_map] at hx
    by_cases hj : j < 7
    · rw [List.getElem?_range hj] at hx
      refine ⟨hj, ?_⟩
      have hx : (ad' (n + j), wc cA ad' (mnaM M n (n + j))) = x := Option.some.inj hx
      rw [← hx, an (n + j) (by omega) (by omega), show n + j - n = j by omega]
    · rw [List.getElem?_eq_none (by rw [List.length_range]; omega)] at hx
      cases hx
  have hP' : va_P D vwCl (wl cA ad n M ++ (List.range 7).map (fun i => (ad' (n + i), wc cA ad' (mnaM M n (n + i))))) F.heap := by
    refine (hW.1.1.kept (fun k x hx => o3 x.1 ((hW.1.1 k x hx).lt))).app (fun j x hx => ?_)
    obtain ⟨hj, rfl⟩ := elt j x hx
    by_cases j0 : j = 0
    · subst j0
      have em : mnaM M n (n + 0) = some (zR 4 6 (fun i => if i < 6 then some (n + 1 + i) else none)) := if_pos rfl
      rw [em]
      show F.heap[H.size + 0]? = some (arrV (cA 4) 6 (fun j => va_rf ((if j < 6 then some (n + 1 + j) else none).map ad')))
      rw [Nat.add_zero, o1]
      have ef : (fun j => va_rf (if j < 6 then some (H.size + 1 + j) else none)) = (fun j => va_rf ((if j < 6 then some (n + 1 + j) else none).map ad')) := by
        funext j
        by_cases z : j < 6
        · rw [if_pos z, if_pos z]
          show va_rf (some (H.size + 1 + j)) = va_rf (some (ad' (n + 1 + j)))
          rw [an (n + 1 + j) (by omega) (by omega), show H.size + (n + 1 + j - n) = H.size + 1 + j by omega]
        · rw [if_neg z, if_neg z]; rfl
      rw [ef]
    · have em : mnaM M n (n + j) = some (zA 6 (fun _ => 0)) := by
        unfold mnaM
        rw [if_neg (by omega), if_pos (by omega)]
      rw [em]
      show F.heap[H.size + j]? = some (arrV (cA 0) 6 (fun _ => .int (Int32.ofInt 0)))
      have := o2 (j - 1) (by omega)
      rw [show H.size + 1 + (j - 1) = H.size + j by omega] at this
      exact this
  have eall : ∀ i x, (wl cA ad n M ++ (List.range 7).map (fun i => (ad' (n + i), wc cA ad' (mnaM M n (n + i)))))[i]? = some x → (i < n ∧ x.1 = ad i ∧ x.1 < H.size) ∨ (n ≤ i ∧ x.1 = H.size + (i - n)) := fun i x hx => by
    by_cases z : i < n
    · rw [List.getElem?_append_left (by rw [wl_len]; exact z)] at hx
      have hl := (hW.1.1 i x hx).lt
      obtain ⟨-, rfl⟩ := wl_at hx
      exact Or.inl ⟨z, rfl, hl⟩
    · rw [List.getElem?_append_right (by rw [wl_len]; omega), wl_len] at hx
      obtain ⟨-, rfl⟩ := elt _ x hx
      exact Or.inr ⟨by omega, rfl⟩
  have hD' : va_D A (wl cA ad n M ++ (List.range 7).map (fun i => (ad' (n + i), wc cA ad' (mnaM M n (n + i))))) := by
    refine ⟨fun i j x y hx hy exy => ?_, fun i x hx => ?_⟩
    · rcases eall i x hx with ⟨a1, a2, a3⟩ | ⟨a1, a2⟩ <;> rcases eall j y hy with ⟨b1, b2, b3⟩ | ⟨b1, b2⟩
      · exact hW.1.2.1 i j a1 b1 (by rw [← a2, ← b2]; exact exy)
      · omega
      · omega
      · omega
    · rcases eall i x hx with ⟨a1, a2, a3⟩ | ⟨a1, a2⟩
      · rw [a2]; exact hAd i a1
      · rw [a2]; exact hA _ (by have := hS.1; omega)
  have hS1 : va_S A H0 F.heap locs := ⟨Nat.le_trans hS.1 o4, fun q u v => (o3 q (Nat.lt_of_lt_of_le u hS.1)).trans (hS.2.1 q u v), hS.2.2⟩
  have hg := P1.grow (ad' := ad') (H1 := F.heap) h (by omega) h1 hs2 S0 (rk_t (rk_t rS)) hk ao (fun j hj => by unfold mnaM; rw [if_neg (by omega), if_neg (by omega)]) (fun x y hx => by
    unfold mnaM at hx
    by_cases z : x = n
    · rw [if_pos z] at hx
      cases hx
      refine ⟨by omega, fun j a ha => ?_⟩
      dsimp only at ha
      split at ha
      · cases ha; omega
      · cases ha
    · rw [if_neg z] at hx
      by_cases z2 : n < x ∧ x ≤ n + 6
      · rw [if_pos z2] at hx
        cases hx
        exact ⟨by omega, trivial⟩
      · rw [if_neg z2] at hx
        exact ⟨by have := hW.1.2.2 x y hx; omega, (hW.2 x y hx).mono (by omega)⟩) hP' hD' hS1
  obtain ⟨t, a1, b1⟩ := hg F rfl X'
  refine ⟨t, step t ?_, b1⟩
  rw [an n (by omega) (by omega), Nat.sub_self, Nat.add_zero] at a1
  exact a1
