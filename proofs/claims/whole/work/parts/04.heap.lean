theorem lw_goodIn {mr : MR} (h : Jvm.Cond.code (mrY mr) (mrB mr) (mrL mr) (mrR mr) ∈ lwg) : GoodIn lwg (mrWs mr) := by
  intro w hw
  have hm : w ∈ lwg := by
    rcases List.mem_cons.mp hw with e | e
    · rw [e]; exact h
    · exact e
  exact ⟨hm, good_of_word (List.mem_filter.mp hm).2⟩
theorem iX0 : ∀ w ∈ u_ws RX0 TX0 3, w ∈ lwg := by decide +kernel
theorem iX1 : ∀ w ∈ u_ws RX1 TX1 3, w ∈ lwg := by decide +kernel
theorem iX2 : ∀ w ∈ u_ws RX2 TX2 3, w ∈ lwg := by decide +kernel
theorem iX3 : ∀ w ∈ u_ws RX3 TX3 7, w ∈ lwg := by decide +kernel
theorem iX4 : ∀ w ∈ u_ws RX4 TX4 3, w ∈ lwg := by decide +kernel
theorem iX5 : ∀ w ∈ u_ws RX5 TX5 3, w ∈ lwg := by decide +kernel
theorem iX6 : ∀ w ∈ u_ws RX6 TX6 8, w ∈ lwg := by decide +kernel
theorem iX7 : ∀ w ∈ u_ws RX7 TX7 5, w ∈ lwg := by decide +kernel
theorem iX8 : ∀ w ∈ u_ws RX8 TX8 2, w ∈ lwg := by decide +kernel
theorem iX9 : ∀ w ∈ u_ws RX9 TX9 12, w ∈ lwg := by decide +kernel
theorem iX10 : ∀ w ∈ u_ws RX10 TX10 23, w ∈ lwg := by decide +kernel
theorem cls_in {ci : Nat} {q : vw_C} (h : vwCl[ci]? = some q) : ∀ w ∈ u_ws q.1 q.2.1 q.2.2, w ∈ lwg := by
  match ci, h with
  | 0, h => cases h; exact iX0
  | 1, h => cases h; exact iX1
  | 2, h => cases h; exact iX2
  | 3, h => cases h; exact iX3
  | 4, h => cases h; exact iX4
  | 5, h => cases h; exact iX5
  | 6, h => cases h; exact iX6
  | 7, h => cases h; exact iX7
  | 8, h => cases h; exact iX8
  | 9, h => cases h; exact iX9
  | 10, h => cases h; exact iX10
  | ci + 11, h => cases h
theorem cls_ty {ci : Nat} {q : vw_C} (h : vwCl[ci]? = some q) : ∃ ty0 : Nat → FieldType, (∀ k, k < q.2.2 → parseFieldDescriptor (q.2.1 k).2.2.1 = some (ty0 k)) ∧ ∀ a, a < q.2.2 → ∀ b, b < q.2.2 → a ≠ b → (q.2.1 a).2.1 ≠ (q.2.1 b).2.1 := by
  match ci, h with
  | 0, h => cases h; exact ⟨tyX0, tyX0_ok, nmX0⟩
  | 1, h => cases h; exact ⟨tyX1, tyX1_ok, nmX1⟩
  | 2, h => cases h; exact ⟨tyX2, tyX2_ok, nmX2⟩
  | 3, h => cases h; exact ⟨tyX3, tyX3_ok, nmX3⟩
  | 4, h => cases h; exact ⟨tyX4, tyX4_ok, nmX4⟩
  | 5, h => cases h; exact ⟨tyX5, tyX5_ok, nmX5⟩
  | 6, h => cases h; exact ⟨tyX6, tyX6_ok, nmX6⟩
  | 7, h => cases h; exact ⟨tyX7, tyX7_ok, nmX7⟩
  | 8, h => cases h; exact ⟨tyX8, tyX8_ok, nmX8⟩
  | 9, h => cases h; exact ⟨tyX9, tyX9_ok, nmX9⟩
  | 10, h => cases h; exact ⟨tyX10, tyX10_ok, nmX10⟩
  | ci + 11, h => cases h
def FOk (own : String) (idx ci k : Nat) : Prop := ∃ q : vw_C, vwCl[ci]? = some q ∧ k < q.2.2 ∧ Jvm.Cond.fieldLink own idx (q.2.1 k).1 (q.2.1 k).2.1 (q.2.1 k).2.2.1 ∈ lwg
def FPut (own : String) (idx ci k : Nat) (ty : FieldType) : Prop := ∃ q : vw_C, vwCl[ci]? = some q ∧ k < q.2.2 ∧ Jvm.Cond.fieldLink own idx (q.2.1 k).1 (q.2.1 k).2.1 (q.2.1 k).2.2.1 ∈ lwg ∧ (q.2.1 k).2.2.2 = false ∧ parseFieldDescriptor (q.2.1 k).2.2.1 = some ty
def VM (mr' : MR) (nA : Nat) : Prop :=
  Jvm.Cond.instanceMethod (mrY mr') ∈ lwg ∧ Jvm.Cond.selects (mrY mr').cls (mrY mr') (mrY mr') ∈ lwg ∧ Jvm.Cond.initialized (mrY mr').cls ∈ lwg ∧ Jvm.Cond.code (mrY mr') (mrB mr') (mrL mr') (mrR mr') ∈ lwg ∧ ((mrY mr').cls ≠ "java/lang/invoke/MethodHandle" ∧ (mrY mr').cls ≠ "java/lang/invoke/VarHandle" ∧ (parseMethodDescriptor (mrY mr').desc).map (fun d => d.parameters.length) = some nA)
def VL (own : String) (idx : Nat) (mr' : MR) (nA : Nat) : Prop := Jvm.Cond.methodLink own idx (mrY mr') ∈ lwg ∧ VM mr' nA
def VOk (mr : MR) (idx : Nat) (mr' : MR) (nA : Nat) : Prop := VL (mrY mr).cls idx mr' nA ∧ Nat.ble (mrF mr' + 1) (mrF mr) = true ∧ Nat.ble (8 + (mrL mr' + 11) + mrW mr') (mrW mr) = true
def SM (mr' : MR) (nA : Nat) : Prop :=
  Jvm.Cond.static (mrY mr') ∈ lwg ∧ Jvm.Cond.initialized (mrY mr').cls ∈ lwg ∧ Jvm.Cond.code (mrY mr') (mrB mr') (mrL mr') (mrR mr') ∈ lwg ∧ ((mrY mr').cls ≠ "java/lang/invoke/MethodHandle" ∧ (mrY mr').cls ≠ "java/lang/invoke/VarHandle" ∧ (parseMethodDescriptor (mrY mr').desc).map (fun d => d.parameters.length) = some nA)
def SL (own : String) (idx : Nat) (mr' : MR) (nA : Nat) : Prop := Jvm.Cond.methodLink own idx (mrY mr') ∈ lwg ∧ SM mr' nA
def SOk (mr : MR) (idx : Nat) (mr' : MR) (nA : Nat) : Prop := SL (mrY mr).cls idx mr' nA ∧ Nat.ble (mrF mr' + 1) (mrF mr) = true ∧ Nat.ble (8 + (mrL mr' + 11) + mrW mr') (mrW mr) = true
abbrev zA (n : Nat) (g : Nat → Int) : AE := .inl (0, n, .inl (fun j => Int32.ofInt (g j)))
abbrev zB (n : Nat) (g : Nat → Int) : AE := .inl (1, n, .inl (fun j => Int32.ofInt (g j)))
abbrev zR (t n : Nat) (g : Nat → Option Nat) : AE := .inl (t, n, .inr (.inr (.inr (.inr g))))
abbrev zO (ci : Nat) (fs : List Value) : AE := .inr (ci, fs)
def zup (g : Nat → Int) (k : Nat) (v : Int) : Nat → Int := fun j => if j = k then v else g j
theorem zup_upd (g : Nat → Int) (k : Nat) (v : Int) : upd (fun j => Int32.ofInt (g j)) k (Int32.ofInt v) = fun j => Int32.ofInt (zup g k v j) := by
  funext j
  unfold upd zup
  split <;> rfl
theorem zcpy (f g : Nat → Int) (sp dp n : Nat) : va_cpy (fun j => Int32.ofInt (f j)) (fun j => Int32.ofInt (g j)) sp dp n = fun j => Int32.ofInt (va_cpy f g sp dp n j) := by
  funext j
  unfold va_cpy
  split <;> rfl
section PH
variable {sc : Option (Nat × (Nat → Int32))} {mr : MR} {pc : Nat} {L st : List Value} {M : AM} {Q : Option Value → AM → Prop}
theorem p_getf {i idx ci k o : Nat} {fs : List Value} {v : Value} (hi : (mrT mr)[i]? = some (pc, .getfield idx, 3)) (hf : FOk (mrY mr).cls idx ci k) (hM : M o = some (zO ci fs)) (hv : fs[k]? = some v) (h : P sc mr (pc + 3) L (v :: st) M Q) : P sc mr pc L (.ref o :: st) M Q := by
  intro p l e R s m args below meth c D cA ad n H0 H locs cells slots ls Z hC hsc hW hS hL hk
  have h1 := h p l e R s m args below meth c D cA ad n H0 H locs cells slots ls Z hC hsc hW hS hL hk
  obtain ⟨⟨C, T, N⟩, hc, hkN, hw⟩ := hf
  exact va_get (v := cv ad v) hC.1 hC.2.1 hC.2.2.2.2.1 (cls_in hc) hC.2.2.2.1 hC.2.2.2.2.2.1 hW.1 o (fs := fs.map (cv ad)) (by rw [wl_get (hW.2.2 o _ hM), hM]; rfl) hc k hkN (hC.2.2.2.2.1 _ hw) (fun _ q => q) (by rw [List.getElem?_map, hv]; rfl) (hC.dec hi) h1
theorem p_put {i idx ci k o : Nat} {fs : List Value} {v : Value} {ty : FieldType} (hi : (mrT mr)[i]? = some (pc, .putfield idx, 3)) (hf : FPut (mrY mr).cls idx ci k ty) (hM : M o = some (zO ci fs)) (hn : ∀ ad, narrow ty (cv ad v) = cv ad v) (hfit : ∀ ad, fits ty (cv ad v) = true) (hl : k < fs.length) (h : P sc mr (pc + 3) L st (aup M o (zO ci (fs.set k v))) Q) : P sc mr pc L (v :: .ref o :: st) M Q := by
  intro p l e R s m args below meth c D cA ad n H0 H locs cells slots ls Z hC hsc hW hS hL hk
  obtain ⟨⟨C, T, N⟩, hc, hkN, hw, hfin, hty⟩ := hf
  obtain ⟨ty0, ht0, hnm⟩ := cls_ty hc
  refine va_put (v := cv ad v) hC.1 hC.2.1 hC.2.2.2.2.1 (cls_in hc) ty0 ht0 hnm hC.2.2.2.1 hC.2.2.2.2.2.1 hW.1 hW.D hS o (fs := fs.map (cv ad)) (by rw [wl_get (hW.2.2 o _ hM), hM]; rfl) hc k hkN (hC.2.2.2.2.1 _ hw) (fun _ q => q) hfin hty (hn ad) (hfit ad) (by rw [List.length_map]; exact hl) (hC.dec hi) (fun H1 locs1 hP hD hS1 => ?_)
  refine h p l e R s m args below meth c D cA ad n H0 H1 locs1 cells slots ls Z hC hsc (hW.put (hW.2.2 o _ hM) ?_) hS1 hL hk
  rw [← List.map_set] at hP
  exact hP
theorem p_puti {i idx ci k o : Nat} {fs : List Value} {x : Int32} (hi : (mrT mr)[i]? = some (pc, .putfield idx, 3)) (hf : FPut (mrY mr).cls idx ci k .int) (hM : M o = some (zO ci fs)) (hl : Nat.blt k fs.length = true) (h : P sc mr (pc + 3) L st (aup M o (zO ci (fs.set k (.int x)))) Q) : P sc mr pc L (.int x :: .ref o :: st) M Q := p_put hi hf hM (fun _ => rfl) (fun _ => rfl) (Nat.blt_eq.mp hl) h
theorem p_putz {i idx ci k o : Nat} {fs : List Value} {a : Int} (hi : (mrT mr)[i]? = some (pc, .putfield idx, 3)) (hf : FPut (mrY mr).cls idx ci k .boolean) (hM : M o = some (zO ci fs)) (ha : a = 0 ∨ a = 1) (hl : Nat.blt k fs.length = true) (h : P sc mr (pc + 3) L st (aup M o (zO ci (fs.set k (zI a)))) Q) : P sc mr pc L (zI a :: .ref o :: st) M Q := p_put hi hf hM (fun _ => by rcases ha with rfl | rfl <;> rfl) (fun _ => by rcases ha with rfl | rfl <;> rfl) (Nat.blt_eq.mp hl) h
theorem p_putl {i idx ci k o : Nat} {fs : List Value} {x : Int64} (hi : (mrT mr)[i]? = some (pc, .putfield idx, 3)) (hf : FPut (mrY mr).cls idx ci k .long) (hM : M o = some (zO ci fs)) (hl : Nat.blt k fs.length = true) (h : P sc mr (pc + 3) L st (aup M o (zO ci (fs.set k (.long x)))) Q) : P sc mr pc L (.long x :: .ref o :: st) M Q := p_put hi hf hM (fun _ => rfl) (fun _ => rfl) (Nat.blt_eq.mp hl) h
theorem p_puta {i idx ci k o a : Nat} {fs : List Value} {nm : String} (hi : (mrT mr)[i]? = some (pc, .putfield idx, 3)) (hf : FPut (mrY mr).cls idx ci k (.object nm)) (hM : M o = some (zO ci fs)) (hl : Nat.blt k fs.length = true) (h : P sc mr (pc + 3) L st (aup M o (zO ci (fs.set k (.ref a)))) Q) : P sc mr pc L (.ref a :: .ref o :: st) M Q := p_put hi hf hM (fun _ => rfl) (fun _ => rfl) (Nat.blt_eq.mp hl) h
theorem p_iald {i o n : Nat} {g : Nat → Int} {a : Int} (hi : (mrT mr)[i]? = some (pc, .iaload, 1)) (hM : M o = some (zA n g)) (ha : 0 ≤ a ∧ a < n) (hn : n < 2147483648) (h : P sc mr (pc + 1) L (zI (g a.toNat) :: st) M Q) : P sc mr pc L (zI a :: .ref o :: st) M Q := by
  intro p l e R s m args below meth c D cA ad nn H0 H locs cells slots ls Z hC hsc hW hS hL hk
  have h1 := h p l e R s m args below meth c D cA ad nn H0 H locs cells slots ls Z hC hsc hW hS hL hk
  obtain ⟨g1, g2⟩ := zI_in ha hn
  exact va_iald hC.1 hC.2.1 hC.2.2.2.2.2.1 hW.1 o 0 (by rw [wl_get (hW.2.2 o _ hM), hM]; rfl) rfl g1 (hC.dec hi) (by rw [g2]; exact h1)
theorem p_zald {i o n : Nat} {g : Nat → Int} {a : Int} (hi : (mrT mr)[i]? = some (pc, .baload, 1)) (hM : M o = some (zB n g)) (ha : 0 ≤ a ∧ a < n) (hn : n < 2147483648) (h : P sc mr (pc + 1) L (zI (g a.toNat) :: st) M Q) : P sc mr pc L (zI a :: .ref o :: st) M Q := by
  intro p l e R s m args below meth c D cA ad nn H0 H locs cells slots ls Z hC hsc hW hS hL hk
  have h1 := h p l e R s m args below meth c D cA ad nn H0 H locs cells slots ls Z hC hsc hW hS hL hk
  obtain ⟨g1, g2⟩ := zI_in ha hn
  exact va_zald hC.1 hC.2.1 hC.2.2.2.2.2.1 hW.1 o 1 (by rw [wl_get (hW.2.2 o _ hM), hM]; rfl) rfl g1 (hC.dec hi) (by rw [g2]; exact h1)
theorem p_iast {i o n : Nat} {g : Nat → Int} {a v : Int} (hi : (mrT mr)[i]? = some (pc, .iastore, 1)) (hM : M o = some (zA n g)) (ha : 0 ≤ a ∧ a < n) (hn : n < 2147483648) (h : P sc mr (pc + 1) L st (aup M o (zA n (zup g a.toNat v))) Q) : P sc mr pc L (zI v :: zI a :: .ref o :: st) M Q := by
  intro p l e R s m args below meth c D cA ad nn H0 H locs cells slots ls Z hC hsc hW hS hL hk
  obtain ⟨g1, g2⟩ := zI_in ha hn
  refine va_iast hC.1 hC.2.1 hC.2.2.2.2.2.1 hW.1 hW.D hS o 0 (by rw [wl_get (hW.2.2 o _ hM), hM]; rfl) rfl g1 (hC.dec hi) (fun H1 locs1 hP hD hS1 => ?_)
  refine h p l e R s m args below meth c D cA ad nn H0 H1 locs1 cells slots ls Z hC hsc (hW.put (hW.2.2 o _ hM) ?_) hS1 hL hk
  rw [g2, zup_upd] at hP
  exact hP
theorem p_zast {i o n : Nat} {g : Nat → Int} {a v : Int} (hi : (mrT mr)[i]? = some (pc, .bastore, 1)) (hM : M o = some (zB n g)) (ha : 0 ≤ a ∧ a < n) (hn : n < 2147483648) (hv : v = 0 ∨ v = 1) (h : P sc mr (pc + 1) L st (aup M o (zB n (zup g a.toNat v))) Q) : P sc mr pc L (zI v :: zI a :: .ref o :: st) M Q := by
  intro p l e R s m args below meth c D cA ad nn H0 H locs cells slots ls Z hC hsc hW hS hL hk
  obtain ⟨g1, g2⟩ := zI_in ha hn
  have hb : vp_nar .boolean (Int32.ofInt v) = Int32.ofInt v := by rcases hv with rfl | rfl <;> decide
  refine va_zast hC.1 hC.2.1 hC.2.2.2.2.2.1 hW.1 hW.D hS o 1 (by rw [wl_get (hW.2.2 o _ hM), hM]; rfl) rfl g1 (hC.dec hi) (fun H1 locs1 hP hD hS1 => ?_)
  refine h p l e R s m args below meth c D cA ad nn H0 H1 locs1 cells slots ls Z hC hsc (hW.put (hW.2.2 o _ hM) ?_) hS1 hL hk
  rw [g2, hb, zup_upd] at hP
  exact hP
theorem p_aald {i o n t k : Nat} {g : Nat → Option Nat} {a : Int} (hi : (mrT mr)[i]? = some (pc, .aaload, 1)) (hM : M o = some (zR t n g)) (ht : t = 2 ∨ t = 3 ∨ t = 4) (ha : 0 ≤ a ∧ a < n) (hn : n < 2147483648) (hg : g a.toNat = some k) (h : P sc mr (pc + 1) L (.ref k :: st) M Q) : P sc mr pc L (zI a :: .ref o :: st) M Q := by
  intro p l e R s m args below meth c D cA ad nn H0 H locs cells slots ls Z hC hsc hW hS hL hk
  have h1 := h p l e R s m args below meth c D cA ad nn H0 H locs cells slots ls Z hC hsc hW hS hL hk
  obtain ⟨g1, g2⟩ := zI_in ha hn
  have hat : (wl cA ad nn M)[o]? = some (ad o, .inl (cA t, n, .inr (.inr (.inr (.inr (fun j => (g j).map ad)))))) := by rw [wl_get (hW.2.2 o _ hM), hM]; rfl
  have hv : va_rf ((fun j => (g j).map ad) (Int32.ofInt a).toNatClampNeg) = .ref (ad k) := by rw [g2]; simp only [hg]; rfl
  rcases ht with rfl | rfl | rfl
  · exact va_aldq hC.1 hC.2.1 hC.2.2.2.2.2.1 hW.1 o 2 hat rfl g1 (hC.dec hi) (by rw [hv]; exact h1)
  · exact va_aldq hC.1 hC.2.1 hC.2.2.2.2.2.1 hW.1 o 3 hat rfl g1 (hC.dec hi) (by rw [hv]; exact h1)
  · have hlt : (Int32.ofInt a).toNatClampNeg < n := Nat.not_le.mp fun q => g1 (Or.inr q)
    exact W.aald (v := .ref (ad k)) (ty := .array .int) hC.1 hC.2.1 (hW.1 o _ hat) ((hC.2.2.2.2.2.1.2 4 _ rfl).1 n (fun j => va_rf ((g j).map ad))) rfl (fun q => by cases q) (by show ¬ (_ < 0 ∨ (arrV _ _ _).slots.size ≤ _); rw [arrV_size]; exact g1) (by show (arrV _ _ _).slots[_]? = _; rw [arrV_read _ _ hlt]; exact congrArg some hv) rfl rfl (hC.dec hi) h1
theorem p_slen {i : Nat} {q : Nat × (Nat → Int32)} (hq : sc = some q) (hi : (mrT mr)[i]? = some (pc, .arraylength, 1)) (h : P sc mr (pc + 1) L (zI (q.1 : Int) :: st) M Q) : P sc mr pc L (.ref 1000000 :: st) M Q := by
  intro p l e R s m args below meth c D cA ad nn H0 H locs cells slots ls Z hC hsc hW hS hL hk
  have h1 := h p l e R s m args below meth c D cA ad nn H0 H locs cells slots ls Z hC hsc hW hS hL hk
  obtain ⟨hX, hb, hA⟩ := hsc q hq
  exact va_slen hC.1 hC.2.1 hX hb hA hS (hC.dec hi) (by rw [← Int32.ofInt_eq_ofNat]; exact h1)
theorem p_sld {i : Nat} {q : Nat × (Nat → Int32)} {a : Int} (hq : sc = some q) (hi : (mrT mr)[i]? = some (pc, .iaload, 1)) (ha : 0 ≤ a ∧ a < q.1) (hn : q.1 < 2147483648) (h : P sc mr (pc + 1) L (zI (q.2 a.toNat).toInt :: st) M Q) : P sc mr pc L (zI a :: .ref 1000000 :: st) M Q := by
  intro p l e R s m args below meth c D cA ad nn H0 H locs cells slots ls Z hC hsc hW hS hL hk
  have h1 := h p l e R s m args below meth c D cA ad nn H0 H locs cells slots ls Z hC hsc hW hS hL hk
  obtain ⟨hX, hb, hA⟩ := hsc q hq
  obtain ⟨g1, g2⟩ := zI_in ha hn
  exact va_sld hC.1 hC.2.1 hX hb hA hS g1 (hC.dec hi) (by rw [g2, ← Int32.ofInt_toInt (q.2 a.toNat)]; exact h1)
theorem p_copy {i idx o0 o1 n0 n1 : Nat} {f g : Nat → Int} {a b d : Int} (hi : (mrT mr)[i]? = some (pc, .invokestatic idx, 3)) (hw : Jvm.Cond.methodLink (mrY mr).cls idx arraycopyName ∈ lwg) (hw2 : Jvm.Cond.native arraycopyName ∈ lwg ∧ Jvm.Cond.static arraycopyName ∈ lwg ∧ Jvm.Cond.initialized "java/lang/System" ∈ lwg) (hM0 : M o0 = some (zA n0 f)) (hM1 : M o1 = some (zA n1 g)) (ha : 0 ≤ a ∧ 0 ≤ b ∧ 0 ≤ d ∧ a + d ≤ n0 ∧ b + d ≤ n1) (hn : n0 < 2147483648 ∧ n1 < 2147483648) (hr : 1 ≤ mrF mr ∧ (st.map fun v => v.category).sum + 18 ≤ mrW mr) (h : P sc mr (pc + 3) L st (aup M o1 (zA n1 (va_cpy f g a.toNat b.toNat d.toNat))) Q) : P sc mr pc L (zI d :: zI b :: .ref o1 :: zI a :: .ref o0 :: st) M Q := by
  intro p l e R s m args below meth c D cA ad nn H0 H locs cells slots ls Z hC hsc hW hS hL hk
  have e0 : ∀ z : Int, 0 ≤ z ∧ z ≤ 2147483647 → ¬ Int32.ofInt z < 0 ∧ (Int32.ofInt z).toNatClampNeg = z.toNat := fun z hz => by
    have e : (Int32.ofInt z).toInt = z := zI_T (by omega)
    refine ⟨?_, ?_⟩
    · rw [← zI_0, zI_lt (by omega) (by omega)]; omega
    · show (Int32.ofInt z).toInt.toNat = z.toNat
      rw [e]
  obtain ⟨a1, a2⟩ := e0 a (by omega)
  obtain ⟨b1, b2⟩ := e0 b (by omega)
  obtain ⟨d1, d2⟩ := e0 d (by omega)
  refine va_copyi hC.1 hC.2.1 (hC.2.2.1.trans hL.1.symm) hC.2.2.2.1 (hC.2.2.2.2.1 _ hw) (hC.2.2.2.2.1 _ hw2.1) (hC.2.2.2.2.1 _ hw2.2.1) (hC.2.2.2.2.1 _ hw2.2.2) hC.2.2.2.2.2.1 hW.1 hW.D hS o0 o1 0 0 (by rw [wl_get (hW.2.2 o0 _ hM0), hM0]; rfl) (by rw [wl_get (hW.2.2 o1 _ hM1), hM1]; rfl) rfl rfl rfl a1 b1 d1 (by rw [a2, d2]; omega) (by rw [b2, d2]; omega) (fun _ _ => rfl) (Nat.le_trans hr.1 hC.2.2.2.2.2.2.1) ?_ (hC.dec hi) (fun H1 locs1 hP hD hS1 => ?_)
  · have e : nativeFrameWords "java/lang/System" "arraycopy" 5 = 7 := by decide
    rw [cv_sum, e]
    exact Nat.le_trans hr.2 hC.2.2.2.2.2.2.2.1
  · refine h p l e R s m args below meth c D cA ad nn H0 H1 locs1 cells slots ls Z hC hsc (hW.put (hW.2.2 o1 _ hM1) ?_) hS1 hL hk
    rw [a2, b2, d2, zcpy] at hP
    exact hP
theorem p_cV {i idx nA o ci : Nat} {mr' : MR} {vs rest fs : List Value} (hi : (mrT mr)[i]? = some (pc, .invokevirtual idx, 3)) (hv : VOk mr idx mr' nA) (hn : vs.length = nA) (hM : M o = some (zO ci fs)) (hc : ∃ q, vwCl[ci]? = some q ∧ q.1 = (mrY mr').cls) (hr : (rest.map fun v => v.category).sum ≤ 8) (h : C mr' (.ref o :: vs) M (fun r M' => P sc mr (pc + 3) L (r.toList ++ rest) M' Q)) : P sc mr pc L (vs.reverse ++ .ref o :: rest) M Q := by
  intro p l e R s m args below meth c D cA ad n H0 H locs cells slots ls Z hC hsc hW hS hL hk
  obtain ⟨⟨v1, v2, v3, v4, v5, ⟨v6, v7, v8⟩⟩, v9, v10⟩ := hv
  have v9 := Nat.le_of_ble_eq_true v9
  have v10 := Nat.le_of_ble_eq_true v10
  have hts := hC.2.2.2.2.1
  obtain ⟨q, hq, hqc⟩ := hc
  have hat : (wl cA ad n M)[o]? = some (ad o, .inr (ci, fs.map (cv ad))) := by rw [wl_get (hW.2.2 o _ hM), hM]; rfl
  have hrun := va_runV (As := vs.map (cv ad)) (rest := rest.map (cv ad)) (b := ad o) (cells := cells) (slots := slots) (locs := locs) (below := below) (meth := meth) (e := e) (g := F0 m pc ls ((vs.reverse ++ .ref o :: rest).map (cv ad))) (C := (mrY mr').cls) (bytes := mrB mr') (maxL := mrL mr') (ret := mrR mr') (n := nA) (R := R) (H := H)
    ⟨hC.1, hC.2.1, hC.2.2.1, hC.2.2.2.1, hts⟩ (h l D cA ad n)
    ⟨⟨rfl, rfl, Nat.le_trans v9 hC.2.2.2.2.2.2.1, Nat.le_trans v10 hC.2.2.2.2.2.2.2.1, pay_in hts (lw_goodIn v5), List.mem_cons_self, hts _ v5, hts _ v4, ⟨v6, v7⟩, fun sig hs => by rw [hs] at v8; exact (Option.some.inj v8).symm, hts _ v1⟩, hts _ v2, hts _ v3⟩
    ⟨fun a U g mk z => by obtain ⟨z1, z2, z3⟩ := z; exact ⟨z1, va_K.moved (u := U) (U := U.calling g mk a) (Vm.Alike.refl U.vm) z2, z3⟩, by rw [← hqc]; exact va_recv hC.2.2.2.2.2.1 hW.1 hq hat, fun U hU hWm => ⟨rfl, va_K.moved hWm.alike hC.2.2.2.2.2.1, by rw [hU]; exact hW⟩⟩
    rfl (by rw [List.length_map]; exact hn) hL.1 (by show (vs.reverse ++ .ref o :: rest).map (cv ad) = _; rw [List.map_append, List.map_reverse]; rfl) (lv_room (by rw [cv_sum]; exact hr)) (hC.dec hi) ⟨hC.2.2.2.2.2.2.2.2.2.1, hC.2.2.2.2.2.2.2.2.2.2⟩
  intro T hT X
  obtain ⟨v, st₀, t, T', Lc, h0, X', hLc, e1, e2, ⟨r, M', er, hqq, hW', hF⟩, stp⟩ := hrun T hT X
  cases er
  have hS' : va_S (FA ad n) H0 T'.heap (locs ++ Lc) := by
    rw [e1]
    refine ⟨Nat.le_trans hS.1 (by rw [← h0]; exact hF.1), fun x h1 h2 => ?_, fun x hx => ?_⟩
    · rw [hF.2 x (by rw [h0]; exact Nat.lt_of_lt_of_le h1 hS.1) h2, h0]
      exact hS.2.1 x h1 h2
    · rcases List.mem_append.mp hx with z | z
      · exact hS.2.2 x z
      · exact hLc x z
  obtain ⟨t2, a1, b1⟩ := hqq p l e R s m args below meth c D cA ad n H0 T'.heap (locs ++ Lc) cells slots ls Z hC hsc (by rw [e1]; exact hW') hS' hL hk T' rfl X'
  refine ⟨t2, stp t2 ?_, b1⟩
  have ee : (r.map (cv ad)).toList ++ rest.map (cv ad) = (r.toList ++ rest).map (cv ad) := by
    rw [List.map_append]
    cases r <;> rfl
  rw [ee]
  exact a1
theorem p_cS {i idx nA : Nat} {mr' : MR} {vs rest : List Value} (hi : (mrT mr)[i]? = some (pc, .invokestatic idx, 3)) (hv : SOk mr idx mr' nA) (hn : vs.length = nA) (hr : (rest.map fun v => v.category).sum ≤ 8) (h : C mr' vs M (fun r M' => P sc mr (pc + 3) L (r.toList ++ rest) M' Q)) : P sc mr pc L (vs.reverse ++ rest) M Q := by
  intro p l e R s m args below meth c D cA ad n H0 H locs cells slots ls Z hC hsc hW hS hL hk
  obtain ⟨⟨v1, v2, v4, v5, ⟨v6, v7, v8⟩⟩, v9, v10⟩ := hv
  have v9 := Nat.le_of_ble_eq_true v9
  have v10 := Nat.le_of_ble_eq_true v10
  have hts := hC.2.2.2.2.1
  have hrun := va_runS (As := vs.map (cv ad)) (rest := rest.map (cv ad)) (cells := cells) (slots := slots) (locs := locs) (below := below) (meth := meth) (e := e) (g := F0 m pc ls ((vs.reverse ++ rest).map (cv ad))) (bytes := mrB mr') (maxL := mrL mr') (ret := mrR mr') (n := nA) (R := R) (H := H)
    ⟨hC.1, hC.2.1, hC.2.2.1, hC.2.2.2.1, hts⟩ (h l D cA ad n)
    ⟨⟨rfl, rfl, Nat.le_trans v9 hC.2.2.2.2.2.2.1, Nat.le_trans v10 hC.2.2.2.2.2.2.2.1, pay_in hts (lw_goodIn v5), List.mem_cons_self, hts _ v5, hts _ v4, ⟨v6, v7⟩, fun sig hs => by rw [hs] at v8; exact (Option.some.inj v8).symm, hts _ v1⟩, hts _ v2⟩
    ⟨fun a U g mk z => by obtain ⟨z1, z2, z3⟩ := z; exact ⟨z1, va_K.moved (u := U) (U := U.calling g mk a) (Vm.Alike.refl U.vm) z2, z3⟩, fun U hU hWm => ⟨rfl, va_K.moved hWm.alike hC.2.2.2.2.2.1, by rw [hU]; exact hW⟩⟩
    rfl (by rw [List.length_map]; exact hn) hL.1 (by show (vs.reverse ++ rest).map (cv ad) = _; rw [List.map_append, List.map_reverse]) (lv_room (by rw [cv_sum]; exact hr)) (hC.dec hi) ⟨hC.2.2.2.2.2.2.2.2.2.1, hC.2.2.2.2.2.2.2.2.2.2⟩
  intro T hT X
  obtain ⟨v, st₀, t, T', Lc, h0, X', hLc, e1, e2, ⟨r, M', er, hqq, hW', hF⟩, stp⟩ := hrun T hT X
  cases er
  have hS' : va_S (FA ad n) H0 T'.heap (locs ++ Lc) := by
    rw [e1]
    refine ⟨Nat.le_trans hS.1 (by rw [← h0]; exact hF.1), fun x h1 h2 => ?_, fun x hx => ?_⟩
    · rw [hF.2 x (by rw [h0]; exact Nat.lt_of_lt_of_le h1 hS.1) h2, h0]
      exact hS.2.1 x h1 h2
    · rcases List.mem_append.mp hx with z | z
      · exact hS.2.2 x z
      · exact hLc x z
  obtain ⟨t2, a1, b1⟩ := hqq p l e R s m args below meth c D cA ad n H0 T'.heap (locs ++ Lc) cells slots ls Z hC hsc (by rw [e1]; exact hW') hS' hL hk T' rfl X'
  refine ⟨t2, stp t2 ?_, b1⟩
  have ee : (r.map (cv ad)).toList ++ rest.map (cv ad) = (r.toList ++ rest).map (cv ad) := by
    rw [List.map_append]
    cases r <;> rfl
  rw [ee]
  exact a1
theorem p_cV0 {i idx o ci : Nat} {mr' : MR} {rest fs : List Value} (hi : (mrT mr)[i]? = some (pc, .invokevirtual idx, 3)) (hv : VOk mr idx mr' 0) (hM : M o = some (zO ci fs)) (hc : ∃ q, vwCl[ci]? = some q ∧ q.1 = (mrY mr').cls) (hr : Nat.ble (rest.map fun v => v.category).sum 8 = true) (h : C mr' (.ref o :: []) M (fun r M' => P sc mr (pc + 3) L (r.toList ++ rest) M' Q)) : P sc mr pc L (.ref o :: rest) M Q := p_cV (vs := []) hi hv rfl hM hc (Nat.le_of_ble_eq_true hr) h
theorem p_cS0 {i idx : Nat} {mr' : MR} {rest : List Value} (hi : (mrT mr)[i]? = some (pc, .invokestatic idx, 3)) (hv : SOk mr idx mr' 0) (hr : Nat.ble (rest.map fun v => v.category).sum 8 = true) (h : C mr' [] M (fun r M' => P sc mr (pc + 3) L (r.toList ++ rest) M' Q)) : P sc mr pc L (rest) M Q := p_cS (vs := []) hi hv rfl (Nat.le_of_ble_eq_true hr) h
theorem p_cV1 {i idx o ci : Nat} {mr' : MR} {rest fs : List Value} {v1 : Value} (hi : (mrT mr)[i]? = some (pc, .invokevirtual idx, 3)) (hv : VOk mr idx mr' 1) (hM : M o = some (zO ci fs)) (hc : ∃ q, vwCl[ci]? = some q ∧ q.1 = (mrY mr').cls) (hr : Nat.ble (rest.map fun v => v.category).sum 8 = true) (h : C mr' (.ref o :: [v1]) M (fun r M' => P sc mr (pc + 3) L (r.toList ++ rest) M' Q)) : P sc mr pc L (v1 :: .ref o :: rest) M Q := p_cV (vs := [v1]) hi hv rfl hM hc (Nat.le_of_ble_eq_true hr) h
theorem p_cS1 {i idx : Nat} {mr' : MR} {rest : List Value} {v1 : Value} (hi : (mrT mr)[i]? = some (pc, .invokestatic idx, 3)) (hv : SOk mr idx mr' 1) (hr : Nat.ble (rest.map fun v => v.category).sum 8 = true) (h : C mr' [v1] M (fun r M' => P sc mr (pc + 3) L (r.toList ++ rest) M' Q)) : P sc mr pc L (v1 :: rest) M Q := p_cS (vs := [v1]) hi hv rfl (Nat.le_of_ble_eq_true hr) h
theorem p_cV2 {i idx o ci : Nat} {mr' : MR} {rest fs : List Value} {v1 v2 : Value} (hi : (mrT mr)[i]? = some (pc, .invokevirtual idx, 3)) (hv : VOk mr idx mr' 2) (hM : M o = some (zO ci fs)) (hc : ∃ q, vwCl[ci]? = some q ∧ q.1 = (mrY mr').cls) (hr : Nat.ble (rest.map fun v => v.category).sum 8 = true) (h : C mr' (.ref o :: [v1, v2]) M (fun r M' => P sc mr (pc + 3) L (r.toList ++ rest) M' Q)) : P sc mr pc L (v2 :: v1 :: .ref o :: rest) M Q := p_cV (vs := [v1, v2]) hi hv rfl hM hc (Nat.le_of_ble_eq_true hr) h
theorem p_cS2 {i idx : Nat} {mr' : MR} {rest : List Value} {v1 v2 : Value} (hi : (mrT mr)[i]? = some (pc, .invokestatic idx, 3)) (hv : SOk mr idx mr' 2) (hr : Nat.ble (rest.map fun v => v.category).sum 8 = true) (h : C mr' [v1, v2] M (fun r M' => P sc mr (pc + 3) L (r.toList ++ rest) M' Q)) : P sc mr pc L (v2 :: v1 :: rest) M Q := p_cS (vs := [v1, v2]) hi hv rfl (Nat.le_of_ble_eq_true hr) h
theorem p_cV3 {i idx o ci : Nat} {mr' : MR} {rest fs : List Value} {v1 v2 v3 : Value} (hi : (mrT mr)[i]? = some (pc, .invokevirtual idx, 3)) (hv : VOk mr idx mr' 3) (hM : M o = some (zO ci fs)) (hc : ∃ q, vwCl[ci]? = some q ∧ q.1 = (mrY mr').cls) (hr : Nat.ble (rest.map fun v => v.category).sum 8 = true) (h : C mr' (.ref o :: [v1, v2, v3]) M (fun r M' => P sc mr (pc + 3) L (r.toList ++ rest) M' Q)) : P sc mr pc L (v3 :: v2 :: v1 :: .ref o :: rest) M Q := p_cV (vs := [v1, v2, v3]) hi hv rfl hM hc (Nat.le_of_ble_eq_true hr) h
theorem p_cS3 {i idx : Nat} {mr' : MR} {rest : List Value} {v1 v2 v3 : Value} (hi : (mrT mr)[i]? = some (pc, .invokestatic idx, 3)) (hv : SOk mr idx mr' 3) (hr : Nat.ble (rest.map fun v => v.category).sum 8 = true) (h : C mr' [v1, v2, v3] M (fun r M' => P sc mr (pc + 3) L (r.toList ++ rest) M' Q)) : P sc mr pc L (v3 :: v2 :: v1 :: rest) M Q := p_cS (vs := [v1, v2, v3]) hi hv rfl (Nat.le_of_ble_eq_true hr) h
theorem p_cV4 {i idx o ci : Nat} {mr' : MR} {rest fs : List Value} {v1 v2 v3 v4 : Value} (hi : (mrT mr)[i]? = some (pc, .invokevirtual idx, 3)) (hv : VOk mr idx mr' 4) (hM : M o = some (zO ci fs)) (hc : ∃ q, vwCl[ci]? = some q ∧ q.1 = (mrY mr').cls) (hr : Nat.ble (rest.map fun v => v.category).sum 8 = true) (h : C mr' (.ref o :: [v1, v2, v3, v4]) M (fun r M' => P sc mr (pc + 3) L (r.toList ++ rest) M' Q)) : P sc mr pc L (v4 :: v3 :: v2 :: v1 :: .ref o :: rest) M Q := p_cV (vs := [v1, v2, v3, v4]) hi hv rfl hM hc (Nat.le_of_ble_eq_true hr) h
theorem p_cS4 {i idx : Nat} {mr' : MR} {rest : List Value} {v1 v2 v3 v4 : Value} (hi : (mrT mr)[i]? = some (pc, .invokestatic idx, 3)) (hv : SOk mr idx mr' 4) (hr : Nat.ble (rest.map fun v => v.category).sum 8 = true) (h : C mr' [v1, v2, v3, v4] M (fun r M' => P sc mr (pc + 3) L (r.toList ++ rest) M' Q)) : P sc mr pc L (v4 :: v3 :: v2 :: v1 :: rest) M Q := p_cS (vs := [v1, v2, v3, v4]) hi hv rfl (Nat.le_of_ble_eq_true hr) h
theorem p_cS5 {i idx : Nat} {mr' : MR} {rest : List Value} {v1 v2 v3 v4 v5 : Value} (hi : (mrT mr)[i]? = some (pc, .invokestatic idx, 3)) (hv : SOk mr idx mr' 5) (hr : Nat.ble (rest.map fun v => v.category).sum 8 = true) (h : C mr' [v1, v2, v3, v4, v5] M (fun r M' => P sc mr (pc + 3) L (r.toList ++ rest) M' Q)) : P sc mr pc L (v5 :: v4 :: v3 :: v2 :: v1 :: rest) M Q := p_cS (vs := [v1, v2, v3, v4, v5]) hi hv rfl (Nat.le_of_ble_eq_true hr) h
theorem P_mem {M' : AM} (e : M = M') (h : P sc mr pc L st M' Q) : P sc mr pc L st M Q := e ▸ h
end PH
theorem tab_ok {m : MR} (h : (mrT m).all (fun q => decide (decode (mrB m) q.1 = .ok q.2)) = true) : TabOk m := fun q hq => of_decide_eq_true (List.all_eq_true.mp h q hq)
