abbrev zI (a : Int) : Value := .int (Int32.ofInt a)
abbrev zJ (a : Int) : Value := .long (Int64.ofInt a)
def okS (L : List Value) (i : Nat) : Bool := Nat.blt i L.length && (match i with
  | 0 => true
  | j + 1 => match L[j]? with
    | some w => !(w.category == 2)
    | none => true)
theorem okS_lt {L : List Value} {i : Nat} (h : okS L i = true) : i < L.length := by
  unfold okS at h
  rw [Bool.and_eq_true] at h
  exact Nat.blt_eq.mp h.1
theorem okS_b {L : List Value} {i : Nat} (h : okS L i = true) : ∀ j w, j + 1 = i → L[j]? = some w → w.category ≠ 2 := by
  intro j w e hj
  subst e
  unfold okS at h
  rw [Bool.and_eq_true] at h
  have h2 := h.2
  simp only [hj] at h2
  intro q
  rw [q] at h2
  cases h2
theorem R_min : Int32.minValue.toInt = -2147483648 := by decide
theorem R_max : Int32.maxValue.toInt = 2147483647 := by decide
theorem R_minL : Int64.minValue.toInt = -9223372036854775808 := by decide
theorem R_maxL : Int64.maxValue.toInt = 9223372036854775807 := by decide
theorem zI_lt {a b : Int} (ha : -2147483648 ≤ a ∧ a ≤ 2147483647) (hb : -2147483648 ≤ b ∧ b ≤ 2147483647) : Int32.ofInt a < Int32.ofInt b ↔ a < b := Int32.ofInt_lt_iff_lt (by rw [R_min]; exact ha.1) (by rw [R_max]; exact ha.2) (by rw [R_min]; exact hb.1) (by rw [R_max]; exact hb.2)
theorem zI_le {a b : Int} (ha : -2147483648 ≤ a ∧ a ≤ 2147483647) (hb : -2147483648 ≤ b ∧ b ≤ 2147483647) : Int32.ofInt a ≤ Int32.ofInt b ↔ a ≤ b := Int32.ofInt_le_iff_le (by rw [R_min]; exact ha.1) (by rw [R_max]; exact ha.2) (by rw [R_min]; exact hb.1) (by rw [R_max]; exact hb.2)
theorem zI_eq {a b : Int} (ha : -2147483648 ≤ a ∧ a ≤ 2147483647) (hb : -2147483648 ≤ b ∧ b ≤ 2147483647) : Int32.ofInt a = Int32.ofInt b ↔ a = b := by
  constructor
  · intro h
    have h1 := (zI_le ha hb).mp (by rw [h]; exact Int32.le_refl _)
    have h2 := (zI_le hb ha).mp (by rw [h]; exact Int32.le_refl _)
    omega
  · intro h; rw [h]
theorem zI_0 : Int32.ofInt 0 = 0 := by decide
theorem zI_T {a : Int} (ha : -2147483648 ≤ a ∧ a ≤ 2147483647) : (Int32.ofInt a).toInt = a := Int32.toInt_ofInt_of_le (by omega) (by omega)
theorem zJ_T {a : Int} (ha : -9223372036854775808 ≤ a ∧ a ≤ 9223372036854775807) : (Int64.ofInt a).toInt = a := Int64.toInt_ofInt_of_le (by omega) (by omega)
theorem zI_in {a : Int} {n : Nat} (h : 0 ≤ a ∧ a < n) (hn : n < 2147483648) : vp_in (Int32.ofInt a) n ∧ (Int32.ofInt a).toNatClampNeg = a.toNat := by
  have e : (Int32.ofInt a).toInt = a := zI_T (by omega)
  refine ⟨vp_in_iff.mpr (by rw [e]; exact h), ?_⟩
  show (Int32.ofInt a).toInt.toNat = a.toNat
  rw [e]
theorem zI_div {a b : Int} (ha : 0 ≤ a ∧ a ≤ 2147483647) (hb : 0 < b ∧ b ≤ 2147483647) : Int32.ofInt a / Int32.ofInt b = Int32.ofInt (a / b) := by
  rw [← Int32.ofInt_tdiv (by rw [R_min]; omega) (by rw [R_max]; omega) (by rw [R_min]; omega) (by rw [R_max]; omega), Int.tdiv_eq_ediv_of_nonneg ha.1]
theorem zI_rem {a b : Int} (ha : 0 ≤ a ∧ a ≤ 2147483647) (hb : 0 < b ∧ b ≤ 2147483647) : Int32.ofInt a - Int32.ofInt a / Int32.ofInt b * Int32.ofInt b = Int32.ofInt (a % b) := by
  rw [zI_div ha hb, ← Int32.ofInt_mul, ← Int32.ofInt_sub, Int.emod_def, Int.mul_comm]
theorem zJ_div {a b : Int} (ha : 0 ≤ a ∧ a ≤ 9223372036854775807) (hb : 0 < b ∧ b ≤ 9223372036854775807) : Int64.ofInt a / Int64.ofInt b = Int64.ofInt (a / b) := by
  rw [← Int64.ofInt_tdiv (by rw [R_minL]; omega) (by rw [R_maxL]; omega) (by rw [R_minL]; omega) (by rw [R_maxL]; omega), Int.tdiv_eq_ediv_of_nonneg ha.1]
theorem zJ_rem {a b : Int} (ha : 0 ≤ a ∧ a ≤ 9223372036854775807) (hb : 0 < b ∧ b ≤ 9223372036854775807) : Int64.ofInt a - Int64.ofInt a / Int64.ofInt b * Int64.ofInt b = Int64.ofInt (a % b) := by
  rw [zJ_div ha hb, ← Int64.ofInt_mul, ← Int64.ofInt_sub, Int.emod_def, Int.mul_comm]
theorem zI_ne0 {a : Int} (h : a ≠ 0) (ha : -2147483648 ≤ a ∧ a ≤ 2147483647) : ¬ Int32.ofInt a = 0 := by
  rw [← zI_0, zI_eq ha (by omega)]; exact h
theorem zJ_ne0 {a : Int} (h : a ≠ 0) (ha : -9223372036854775808 ≤ a ∧ a ≤ 9223372036854775807) : ¬ Int64.ofInt a = 0 := by
  intro q
  have := congrArg Int64.toInt q
  rw [zJ_T ha] at this
  exact h this
theorem zI_2l {a : Int} (ha : -2147483648 ≤ a ∧ a ≤ 2147483647) : (Int32.ofInt a).toInt64 = Int64.ofInt a := by
  apply Int64.toInt_inj.mp
  rw [zJ_T (by omega), Int32.toInt_toInt64, zI_T ha]
theorem zJ_2i {a : Int} : (Int64.ofInt a).toInt32 = Int32.ofInt a := Int64.toInt32_ofInt
def cmpZ (a b : Int) : Int := if b < a then 1 else if a = b then 0 else -1
theorem zJ_cmp {a b : Int} (ha : -9223372036854775808 ≤ a ∧ a ≤ 9223372036854775807) (hb : -9223372036854775808 ≤ b ∧ b ≤ 9223372036854775807) : lg_cmp (Int64.ofInt a) (Int64.ofInt b) = Int32.ofInt (cmpZ a b) := by
  have e1 : (Int64.ofInt b < Int64.ofInt a) ↔ b < a := by rw [Int64.lt_iff_toInt_lt, zJ_T ha, zJ_T hb]
  have e2 : (Int64.ofInt a = Int64.ofInt b) ↔ a = b := by rw [← Int64.toInt_inj, zJ_T ha, zJ_T hb]
  unfold lg_cmp cmpZ
  simp only [gt_iff_lt, e1, e2]
  split
  · rfl
  · split <;> rfl
section PR
variable {sc : Option (Nat × (Nat → Int32))} {mr : MR} {pc : Nat} {L st : List Value} {M : AM} {Q : Option Value → AM → Prop}
theorem p_iconst {i : Nat} {a : Int} (hi : (mrT mr)[i]? = some (pc, .iconst a, 1)) (h : P sc mr (pc + 1) L (zI a :: st) M Q) : P sc mr pc L st M Q := by
  intro p l e R s m args below meth c D cA ad n H0 H locs cells slots ls Z hC hsc hW hS hL hk
  have h1 := h p l e R s m args below meth c D cA ad n H0 H locs cells slots ls Z hC hsc hW hS hL hk
  exact lv_iconst hC.1 hC.2.1 (hC.dec hi) rfl h1
theorem p_bipush {i : Nat} {a : Int} (hi : (mrT mr)[i]? = some (pc, .bipush a, 2)) (ha : (Int8.ofInt a).toInt32 = Int32.ofInt a) (h : P sc mr (pc + 2) L (zI a :: st) M Q) : P sc mr pc L st M Q := by
  intro p l e R s m args below meth c D cA ad n H0 H locs cells slots ls Z hC hsc hW hS hL hk
  have h1 := h p l e R s m args below meth c D cA ad n H0 H locs cells slots ls Z hC hsc hW hS hL hk
  exact lv_bipush hC.1 hC.2.1 (hC.dec hi) ha h1
theorem p_sipush {i : Nat} {a : Int} (hi : (mrT mr)[i]? = some (pc, .sipush a, 3)) (ha : (Int16.ofInt a).toInt32 = Int32.ofInt a) (h : P sc mr (pc + 3) L (zI a :: st) M Q) : P sc mr pc L st M Q := by
  intro p l e R s m args below meth c D cA ad n H0 H locs cells slots ls Z hC hsc hW hS hL hk
  have h1 := h p l e R s m args below meth c D cA ad n H0 H locs cells slots ls Z hC hsc hW hS hL hk
  exact lv_sipush hC.1 hC.2.1 (hC.dec hi) ha h1
theorem p_lconst {i : Nat} {a : Fin 2} (hi : (mrT mr)[i]? = some (pc, .lconst a, 1)) (h : P sc mr (pc + 1) L (zJ ((a : Nat) : Int) :: st) M Q) : P sc mr pc L st M Q := by
  intro p l e R s m args below meth c D cA ad n H0 H locs cells slots ls Z hC hsc hW hS hL hk
  have h1 := h p l e R s m args below meth c D cA ad n H0 H locs cells slots ls Z hC hsc hW hS hL hk
  exact lv_lconst hC.1 hC.2.1 (hC.dec hi) (by rw [Int64.ofInt_eq_ofNat]) h1
theorem p_ldc {i : Nat} {k : Nat} {a : Int} (hi : (mrT mr)[i]? = some (pc, .ldc k, 2)) (hw : Jvm.Cond.constant (mrY mr).cls k (Int32.ofInt a) ∈ lwg) (h : P sc mr (pc + 2) L (zI a :: st) M Q) : P sc mr pc L st M Q := by
  intro p l e R s m args below meth c D cA ad n H0 H locs cells slots ls Z hC hsc hW hS hL hk
  have h1 := h p l e R s m args below meth c D cA ad n H0 H locs cells slots ls Z hC hsc hW hS hL hk
  exact lv_ldc hC.1 hC.2.1 hC.2.2.2.1 (hC.2.2.2.2.1 _ hw) (hC.dec hi) h1
theorem p_ldcw {i : Nat} {k : Nat} {a : Int} (hi : (mrT mr)[i]? = some (pc, .ldc_w k, 3)) (hw : Jvm.Cond.constant (mrY mr).cls k (Int32.ofInt a) ∈ lwg) (h : P sc mr (pc + 3) L (zI a :: st) M Q) : P sc mr pc L st M Q := by
  intro p l e R s m args below meth c D cA ad n H0 H locs cells slots ls Z hC hsc hW hS hL hk
  have h1 := h p l e R s m args below meth c D cA ad n H0 H locs cells slots ls Z hC hsc hW hS hL hk
  exact lv_ldcw hC.1 hC.2.1 hC.2.2.2.1 (hC.2.2.2.2.1 _ hw) (hC.dec hi) h1
theorem p_ldc2 {i : Nat} {k : Nat} {a : Int} (hi : (mrT mr)[i]? = some (pc, .ldc2_w k, 3)) (hw : Jvm.Cond.constantLong (mrY mr).cls k (Int64.ofInt a) ∈ lwg) (h : P sc mr (pc + 3) L (zJ a :: st) M Q) : P sc mr pc L st M Q := by
  intro p l e R s m args below meth c D cA ad n H0 H locs cells slots ls Z hC hsc hW hS hL hk
  have h1 := h p l e R s m args below meth c D cA ad n H0 H locs cells slots ls Z hC hsc hW hS hL hk
  exact lv_ldc2 hC.1 hC.2.1 hC.2.2.2.1 (hC.2.2.2.2.1 _ hw) (hC.dec hi) h1
theorem p_iload {i : Nat} {k : Nat} {x : Int32} (hi : (mrT mr)[i]? = some (pc, .iload k, 2)) (hv : L[k]? = some (.int x)) (h : P sc mr (pc + 2) L (.int x :: st) M Q) : P sc mr pc L st M Q := by
  intro p l e R s m args below meth c D cA ad n H0 H locs cells slots ls Z hC hsc hW hS hL hk
  have h1 := h p l e R s m args below meth c D cA ad n H0 H locs cells slots ls Z hC hsc hW hS hL hk
  exact lv_iload hC.1 hC.2.1 (hC.dec hi) (hL.2.2.2 k (.int x) hv (fun q => by cases q)) h1
theorem p_iload_n {i : Nat} {k : Fin 4} {x : Int32} (hi : (mrT mr)[i]? = some (pc, .iload_n k, 1)) (hv : L[(k : Nat)]? = some (.int x)) (h : P sc mr (pc + 1) L (.int x :: st) M Q) : P sc mr pc L st M Q := by
  intro p l e R s m args below meth c D cA ad n H0 H locs cells slots ls Z hC hsc hW hS hL hk
  have h1 := h p l e R s m args below meth c D cA ad n H0 H locs cells slots ls Z hC hsc hW hS hL hk
  exact lv_iload_n hC.1 hC.2.1 (hC.dec hi) rfl (hL.2.2.2 k (.int x) hv (fun q => by cases q)) h1
theorem p_lload {i : Nat} {k : Nat} {x : Int64} (hi : (mrT mr)[i]? = some (pc, .lload k, 2)) (hv : L[k]? = some (.long x)) (h : P sc mr (pc + 2) L (.long x :: st) M Q) : P sc mr pc L st M Q := by
  intro p l e R s m args below meth c D cA ad n H0 H locs cells slots ls Z hC hsc hW hS hL hk
  have h1 := h p l e R s m args below meth c D cA ad n H0 H locs cells slots ls Z hC hsc hW hS hL hk
  exact lv_lload hC.1 hC.2.1 (hC.dec hi) (hL.2.2.2 k (.long x) hv (fun q => by cases q)) h1
theorem p_lload_n {i : Nat} {k : Fin 4} {x : Int64} (hi : (mrT mr)[i]? = some (pc, .lload_n k, 1)) (hv : L[(k : Nat)]? = some (.long x)) (h : P sc mr (pc + 1) L (.long x :: st) M Q) : P sc mr pc L st M Q := by
  intro p l e R s m args below meth c D cA ad n H0 H locs cells slots ls Z hC hsc hW hS hL hk
  have h1 := h p l e R s m args below meth c D cA ad n H0 H locs cells slots ls Z hC hsc hW hS hL hk
  exact lv_lload_n hC.1 hC.2.1 (hC.dec hi) rfl (hL.2.2.2 k (.long x) hv (fun q => by cases q)) h1
theorem p_aload {i : Nat} {k : Nat} {x : Nat} (hi : (mrT mr)[i]? = some (pc, .aload k, 2)) (hv : L[k]? = some (.ref x)) (h : P sc mr (pc + 2) L (.ref x :: st) M Q) : P sc mr pc L st M Q := by
  intro p l e R s m args below meth c D cA ad n H0 H locs cells slots ls Z hC hsc hW hS hL hk
  have h1 := h p l e R s m args below meth c D cA ad n H0 H locs cells slots ls Z hC hsc hW hS hL hk
  exact lv_aload hC.1 hC.2.1 (hC.dec hi) (hL.2.2.2 k (.ref x) hv (fun q => by cases q)) h1
theorem p_aload_n {i : Nat} {k : Fin 4} {x : Nat} (hi : (mrT mr)[i]? = some (pc, .aload_n k, 1)) (hv : L[(k : Nat)]? = some (.ref x)) (h : P sc mr (pc + 1) L (.ref x :: st) M Q) : P sc mr pc L st M Q := by
  intro p l e R s m args below meth c D cA ad n H0 H locs cells slots ls Z hC hsc hW hS hL hk
  have h1 := h p l e R s m args below meth c D cA ad n H0 H locs cells slots ls Z hC hsc hW hS hL hk
  exact lv_aload_n hC.1 hC.2.1 (hC.dec hi) rfl (hL.2.2.2 k (.ref x) hv (fun q => by cases q)) h1
theorem p_istore {i : Nat} {k : Nat} {x : Int32} (hi : (mrT mr)[i]? = some (pc, .istore k, 2)) (hb : okS L k = true) (h : P sc mr (pc + 2) (L.set k (.int x)) st M Q) : P sc mr pc L (.int x :: st) M Q := by
  intro p l e R s m args below meth c D cA ad n H0 H locs cells slots ls Z hC hsc hW hS hL hk
  exact lv_istore hC.1 hC.2.1 (hC.dec hi) hL.lv (by rw [← hL.2.2.1]; exact okS_lt hb) rfl (fun ls' hl' => h p l e R s m args below meth c D cA ad n H0 H locs cells slots ls' Z hC hsc hW hS (LV.store hL (by rw [← hL.2.2.1]; exact okS_lt hb) (okS_b hb) hl') hk)
theorem p_istore_n {i : Nat} {k : Fin 4} {x : Int32} (hi : (mrT mr)[i]? = some (pc, .istore_n k, 1)) (hb : okS L (k : Nat) = true) (h : P sc mr (pc + 1) (L.set (k : Nat) (.int x)) st M Q) : P sc mr pc L (.int x :: st) M Q := by
  intro p l e R s m args below meth c D cA ad n H0 H locs cells slots ls Z hC hsc hW hS hL hk
  exact lv_istore_n hC.1 hC.2.1 (hC.dec hi) rfl hL.lv (by rw [← hL.2.2.1]; exact okS_lt hb) rfl (fun ls' hl' => h p l e R s m args below meth c D cA ad n H0 H locs cells slots ls' Z hC hsc hW hS (LV.store hL (by rw [← hL.2.2.1]; exact okS_lt hb) (okS_b hb) hl') hk)
theorem p_lstore {i : Nat} {k : Nat} {x : Int64} (hi : (mrT mr)[i]? = some (pc, .lstore k, 2)) (hb : okS L k = true) (hb2 : Nat.blt (k + 1) L.length = true) (h : P sc mr (pc + 2) ((L.set k (.long x)).set (k + 1) (.retAddr 0)) st M Q) : P sc mr pc L (.long x :: st) M Q := by
  intro p l e R s m args below meth c D cA ad n H0 H locs cells slots ls Z hC hsc hW hS hL hk
  exact lv_lstore hC.1 hC.2.1 (hC.dec hi) hL.lv (by rw [← hL.2.2.1]; exact Nat.blt_eq.mp hb2) rfl (fun ls' hl' => h p l e R s m args below meth c D cA ad n H0 H locs cells slots ls' Z hC hsc hW hS (LV.store2 hL (by rw [← hL.2.2.1]; exact Nat.blt_eq.mp hb2) (okS_b hb) hl') hk)
theorem p_lstore_n {i : Nat} {k : Fin 4} {x : Int64} (hi : (mrT mr)[i]? = some (pc, .lstore_n k, 1)) (hb : okS L (k : Nat) = true) (hb2 : Nat.blt ((k : Nat) + 1) L.length = true) (h : P sc mr (pc + 1) ((L.set (k : Nat) (.long x)).set ((k : Nat) + 1) (.retAddr 0)) st M Q) : P sc mr pc L (.long x :: st) M Q := by
  intro p l e R s m args below meth c D cA ad n H0 H locs cells slots ls Z hC hsc hW hS hL hk
  exact lv_lstore_n hC.1 hC.2.1 (hC.dec hi) rfl hL.lv (by rw [← hL.2.2.1]; exact Nat.blt_eq.mp hb2) rfl (fun ls' hl' => h p l e R s m args below meth c D cA ad n H0 H locs cells slots ls' Z hC hsc hW hS (LV.store2 hL (by rw [← hL.2.2.1]; exact Nat.blt_eq.mp hb2) (okS_b hb) hl') hk)
theorem p_astore_n {i : Nat} {k : Fin 4} {x : Nat} (hi : (mrT mr)[i]? = some (pc, .astore_n k, 1)) (hb : okS L (k : Nat) = true) (h : P sc mr (pc + 1) (L.set (k : Nat) (.ref x)) st M Q) : P sc mr pc L (.ref x :: st) M Q := by
  intro p l e R s m args below meth c D cA ad n H0 H locs cells slots ls Z hC hsc hW hS hL hk
  exact lv_astore_n hC.1 hC.2.1 (hC.dec hi) rfl hL.lv (by rw [← hL.2.2.1]; exact okS_lt hb) rfl (fun ls' hl' => h p l e R s m args below meth c D cA ad n H0 H locs cells slots ls' Z hC hsc hW hS (LV.store hL (by rw [← hL.2.2.1]; exact okS_lt hb) (okS_b hb) hl') hk)
theorem LV.pos {ad : Nat → Nat} {ls : Array Slot} {nL k : Nat} {L : List Value} {v : Value} (h : LV ad ls nL L) (hv : L[k]? = some v) (h0 : v ≠ .retAddr 0) : ∃ j : Nat, ((List.range nL).filterMap (fun i => match L[i]? with
    | some v => if v = .retAddr 0 then none else some (i, cv ad v)
    | none => none))[j]? = some (k, cv ad v) := by
  have hk : k < nL := by
    have := (List.getElem?_eq_some_iff.mp hv).1
    rw [h.2.2.1] at this
    exact this
  exact List.getElem?_of_mem (List.mem_filterMap.mpr ⟨k, List.mem_range.mpr hk, by rw [hv]; simp [h0]⟩)
theorem p_iinc {i : Nat} {k : Nat} {d a : Int} (hi : (mrT mr)[i]? = some (pc, .iinc k d, 3)) (hv : L[k]? = some (zI a)) (hb : okS L k = true) (h : P sc mr (pc + 3) (L.set k (zI (a + d))) st M Q) : P sc mr pc L st M Q := by
  intro p l e R s m args below meth c D cA ad n H0 H locs cells slots ls Z hC hsc hW hS hL hk
  obtain ⟨j, hj⟩ := hL.pos hv (fun q => by cases q)
  exact lv_iinc hC.1 hC.2.1 (hC.dec hi) hL.lv hj (Int32.ofInt_add a d).symm (by rw [← hL.2.2.1]; exact okS_lt hb) rfl (fun ls' hl' => h p l e R s m args below meth c D cA ad n H0 H locs cells slots ls' Z hC hsc hW hS (LV.store hL (by rw [← hL.2.2.1]; exact okS_lt hb) (okS_b hb) hl') hk)
theorem p_iadd {i : Nat} {a b : Int} (hi : (mrT mr)[i]? = some (pc, .iadd, 1)) (h : P sc mr (pc + 1) L (zI (a + b) :: st) M Q) : P sc mr pc L (zI b :: zI a :: st) M Q := by
  intro p l e R s m args below meth c D cA ad n H0 H locs cells slots ls Z hC hsc hW hS hL hk
  have h1 := h p l e R s m args below meth c D cA ad n H0 H locs cells slots ls Z hC hsc hW hS hL hk
  exact lv_iadd hC.1 hC.2.1 (hC.dec hi) (by rw [← Int32.ofInt_add a b]; exact h1)
theorem p_isub {i : Nat} {a b : Int} (hi : (mrT mr)[i]? = some (pc, .isub, 1)) (h : P sc mr (pc + 1) L (zI (a - b) :: st) M Q) : P sc mr pc L (zI b :: zI a :: st) M Q := by
  intro p l e R s m args below meth c D cA ad n H0 H locs cells slots ls Z hC hsc hW hS hL hk
  have h1 := h p l e R s m args below meth c D cA ad n H0 H locs cells slots ls Z hC hsc hW hS hL hk
  exact lv_isub hC.1 hC.2.1 (hC.dec hi) (by rw [← Int32.ofInt_sub a b]; exact h1)
theorem p_imul {i : Nat} {a b : Int} (hi : (mrT mr)[i]? = some (pc, .imul, 1)) (h : P sc mr (pc + 1) L (zI (a * b) :: st) M Q) : P sc mr pc L (zI b :: zI a :: st) M Q := by
  intro p l e R s m args below meth c D cA ad n H0 H locs cells slots ls Z hC hsc hW hS hL hk
  have h1 := h p l e R s m args below meth c D cA ad n H0 H locs cells slots ls Z hC hsc hW hS hL hk
  exact lv_imul hC.1 hC.2.1 (hC.dec hi) (by rw [← Int32.ofInt_mul a b]; exact h1)
theorem p_idiv {i : Nat} {a b : Int} (hi : (mrT mr)[i]? = some (pc, .idiv, 1)) (ha : 0 ≤ a ∧ a ≤ 2147483647) (hb : 0 < b ∧ b ≤ 2147483647) (h : P sc mr (pc + 1) L (zI (a / b) :: st) M Q) : P sc mr pc L (zI b :: zI a :: st) M Q := by
  intro p l e R s m args below meth c D cA ad n H0 H locs cells slots ls Z hC hsc hW hS hL hk
  have h1 := h p l e R s m args below meth c D cA ad n H0 H locs cells slots ls Z hC hsc hW hS hL hk
  exact lv_idiv hC.1 hC.2.1 (hC.dec hi) (zI_ne0 (by omega) (by omega)) (by rw [zI_div ha hb]; exact h1)
theorem p_irem {i : Nat} {a b : Int} (hi : (mrT mr)[i]? = some (pc, .irem, 1)) (ha : 0 ≤ a ∧ a ≤ 2147483647) (hb : 0 < b ∧ b ≤ 2147483647) (h : P sc mr (pc + 1) L (zI (a % b) :: st) M Q) : P sc mr pc L (zI b :: zI a :: st) M Q := by
  intro p l e R s m args below meth c D cA ad n H0 H locs cells slots ls Z hC hsc hW hS hL hk
  have h1 := h p l e R s m args below meth c D cA ad n H0 H locs cells slots ls Z hC hsc hW hS hL hk
  exact lv_irem hC.1 hC.2.1 (hC.dec hi) (zI_ne0 (by omega) (by omega)) (by rw [zI_rem ha hb]; exact h1)
theorem p_iand {i : Nat} {x y : Int32} (hi : (mrT mr)[i]? = some (pc, .iand, 1)) (h : P sc mr (pc + 1) L (.int (x &&& y) :: st) M Q) : P sc mr pc L (.int y :: .int x :: st) M Q := by
  intro p l e R s m args below meth c D cA ad n H0 H locs cells slots ls Z hC hsc hW hS hL hk
  have h1 := h p l e R s m args below meth c D cA ad n H0 H locs cells slots ls Z hC hsc hW hS hL hk
  exact lv_iand hC.1 hC.2.1 (hC.dec hi) h1
theorem p_ior {i : Nat} {x y : Int32} (hi : (mrT mr)[i]? = some (pc, .ior, 1)) (h : P sc mr (pc + 1) L (.int (x ||| y) :: st) M Q) : P sc mr pc L (.int y :: .int x :: st) M Q := by
  intro p l e R s m args below meth c D cA ad n H0 H locs cells slots ls Z hC hsc hW hS hL hk
  have h1 := h p l e R s m args below meth c D cA ad n H0 H locs cells slots ls Z hC hsc hW hS hL hk
  exact lv_ior hC.1 hC.2.1 (hC.dec hi) h1
theorem p_ishl {i : Nat} {x y : Int32} (hi : (mrT mr)[i]? = some (pc, .ishl, 1)) (h : P sc mr (pc + 1) L (.int (x <<< (y &&& 31)) :: st) M Q) : P sc mr pc L (.int y :: .int x :: st) M Q := by
  intro p l e R s m args below meth c D cA ad n H0 H locs cells slots ls Z hC hsc hW hS hL hk
  have h1 := h p l e R s m args below meth c D cA ad n H0 H locs cells slots ls Z hC hsc hW hS hL hk
  exact lv_ishl hC.1 hC.2.1 (hC.dec hi) h1
theorem p_ishr {i : Nat} {x y : Int32} (hi : (mrT mr)[i]? = some (pc, .ishr, 1)) (h : P sc mr (pc + 1) L (.int (x >>> (y &&& 31)) :: st) M Q) : P sc mr pc L (.int y :: .int x :: st) M Q := by
  intro p l e R s m args below meth c D cA ad n H0 H locs cells slots ls Z hC hsc hW hS hL hk
  have h1 := h p l e R s m args below meth c D cA ad n H0 H locs cells slots ls Z hC hsc hW hS hL hk
  exact lv_ishr hC.1 hC.2.1 (hC.dec hi) h1
theorem p_iushr {i : Nat} {x y : Int32} (hi : (mrT mr)[i]? = some (pc, .iushr, 1)) (h : P sc mr (pc + 1) L (.int ((x.toUInt32 >>> (y.toUInt32 &&& Int32.toUInt32 31)).toInt32) :: st) M Q) : P sc mr pc L (.int y :: .int x :: st) M Q := by
  intro p l e R s m args below meth c D cA ad n H0 H locs cells slots ls Z hC hsc hW hS hL hk
  have h1 := h p l e R s m args below meth c D cA ad n H0 H locs cells slots ls Z hC hsc hW hS hL hk
  exact lv_iushr hC.1 hC.2.1 (hC.dec hi) rfl h1
theorem p_iadd32 {i : Nat} {x y : Int32} (hi : (mrT mr)[i]? = some (pc, .iadd, 1)) (h : P sc mr (pc + 1) L (.int (x + y) :: st) M Q) : P sc mr pc L (.int y :: .int x :: st) M Q := by
  intro p l e R s m args below meth c D cA ad n H0 H locs cells slots ls Z hC hsc hW hS hL hk
  have h1 := h p l e R s m args below meth c D cA ad n H0 H locs cells slots ls Z hC hsc hW hS hL hk
  exact lv_iadd hC.1 hC.2.1 (hC.dec hi) h1
theorem p_isub32 {i : Nat} {x y : Int32} (hi : (mrT mr)[i]? = some (pc, .isub, 1)) (h : P sc mr (pc + 1) L (.int (x - y) :: st) M Q) : P sc mr pc L (.int y :: .int x :: st) M Q := by
  intro p l e R s m args below meth c D cA ad n H0 H locs cells slots ls Z hC hsc hW hS hL hk
  have h1 := h p l e R s m args below meth c D cA ad n H0 H locs cells slots ls Z hC hsc hW hS hL hk
  exact lv_isub hC.1 hC.2.1 (hC.dec hi) h1
theorem p_ladd {i : Nat} {a b : Int} (hi : (mrT mr)[i]? = some (pc, .ladd, 1)) (h : P sc mr (pc + 1) L (zJ (a + b) :: st) M Q) : P sc mr pc L (zJ b :: zJ a :: st) M Q := by
  intro p l e R s m args below meth c D cA ad n H0 H locs cells slots ls Z hC hsc hW hS hL hk
  have h1 := h p l e R s m args below meth c D cA ad n H0 H locs cells slots ls Z hC hsc hW hS hL hk
  exact lv_ladd hC.1 hC.2.1 (hC.dec hi) (by rw [← Int64.ofInt_add a b]; exact h1)
theorem p_lmul {i : Nat} {a b : Int} (hi : (mrT mr)[i]? = some (pc, .lmul, 1)) (h : P sc mr (pc + 1) L (zJ (a * b) :: st) M Q) : P sc mr pc L (zJ b :: zJ a :: st) M Q := by
  intro p l e R s m args below meth c D cA ad n H0 H locs cells slots ls Z hC hsc hW hS hL hk
  have h1 := h p l e R s m args below meth c D cA ad n H0 H locs cells slots ls Z hC hsc hW hS hL hk
  exact lv_lmul hC.1 hC.2.1 (hC.dec hi) (by rw [← Int64.ofInt_mul a b]; exact h1)
theorem p_ldiv {i : Nat} {a b : Int} (hi : (mrT mr)[i]? = some (pc, .ldiv, 1)) (ha : 0 ≤ a ∧ a ≤ 9223372036854775807) (hb : 0 < b ∧ b ≤ 9223372036854775807) (h : P sc mr (pc + 1) L (zJ (a / b) :: st) M Q) : P sc mr pc L (zJ b :: zJ a :: st) M Q := by
  intro p l e R s m args below meth c D cA ad n H0 H locs cells slots ls Z hC hsc hW hS hL hk
  have h1 := h p l e R s m args below meth c D cA ad n H0 H locs cells slots ls Z hC hsc hW hS hL hk
  exact lv_ldiv hC.1 hC.2.1 (hC.dec hi) (zJ_ne0 (by omega) (by omega)) (by rw [zJ_div ha hb]; exact h1)
theorem p_lrem {i : Nat} {a b : Int} (hi : (mrT mr)[i]? = some (pc, .lrem, 1)) (ha : 0 ≤ a ∧ a ≤ 9223372036854775807) (hb : 0 < b ∧ b ≤ 9223372036854775807) (h : P sc mr (pc + 1) L (zJ (a % b) :: st) M Q) : P sc mr pc L (zJ b :: zJ a :: st) M Q := by
  intro p l e R s m args below meth c D cA ad n H0 H locs cells slots ls Z hC hsc hW hS hL hk
  have h1 := h p l e R s m args below meth c D cA ad n H0 H locs cells slots ls Z hC hsc hW hS hL hk
  exact lv_lrem hC.1 hC.2.1 (hC.dec hi) (zJ_ne0 (by omega) (by omega)) (by rw [zJ_rem ha hb]; exact h1)
theorem p_lcmp {i : Nat} {a b : Int} (hi : (mrT mr)[i]? = some (pc, .lcmp, 1)) (ha : -9223372036854775808 ≤ a ∧ a ≤ 9223372036854775807) (hb : -9223372036854775808 ≤ b ∧ b ≤ 9223372036854775807) (h : P sc mr (pc + 1) L (zI (cmpZ a b) :: st) M Q) : P sc mr pc L (zJ b :: zJ a :: st) M Q := by
  intro p l e R s m args below meth c D cA ad n H0 H locs cells slots ls Z hC hsc hW hS hL hk
  have h1 := h p l e R s m args below meth c D cA ad n H0 H locs cells slots ls Z hC hsc hW hS hL hk
  exact W.lcmp hC.1 hC.2.1 (hC.dec hi) (by rw [zJ_cmp ha hb]; exact h1)
theorem p_i2l {i : Nat} {a : Int} (hi : (mrT mr)[i]? = some (pc, .i2l, 1)) (ha : -2147483648 ≤ a ∧ a ≤ 2147483647) (h : P sc mr (pc + 1) L (zJ a :: st) M Q) : P sc mr pc L (zI a :: st) M Q := by
  intro p l e R s m args below meth c D cA ad n H0 H locs cells slots ls Z hC hsc hW hS hL hk
  have h1 := h p l e R s m args below meth c D cA ad n H0 H locs cells slots ls Z hC hsc hW hS hL hk
  exact lv_i2l hC.1 hC.2.1 (hC.dec hi) (zI_2l ha) h1
theorem p_l2i {i : Nat} {a : Int} (hi : (mrT mr)[i]? = some (pc, .l2i, 1)) (h : P sc mr (pc + 1) L (zI a :: st) M Q) : P sc mr pc L (zJ a :: st) M Q := by
  intro p l e R s m args below meth c D cA ad n H0 H locs cells slots ls Z hC hsc hW hS hL hk
  have h1 := h p l e R s m args below meth c D cA ad n H0 H locs cells slots ls Z hC hsc hW hS hL hk
  exact lv_l2i hC.1 hC.2.1 (hC.dec hi) zJ_2i h1
theorem p_dup {i : Nat} {v : Value} (hi : (mrT mr)[i]? = some (pc, .dup, 1)) (hv : v.category = 1) (h : P sc mr (pc + 1) L (v :: v :: st) M Q) : P sc mr pc L (v :: st) M Q := by
  intro p l e R s m args below meth c D cA ad n H0 H locs cells slots ls Z hC hsc hW hS hL hk
  have h1 := h p l e R s m args below meth c D cA ad n H0 H locs cells slots ls Z hC hsc hW hS hL hk
  exact lv_dup hC.1 hC.2.1 (hC.dec hi) ((cv_cat ad v).trans hv) h1
theorem p_pop {i : Nat} {v : Value} (hi : (mrT mr)[i]? = some (pc, .pop, 1)) (hv : v.category = 1) (h : P sc mr (pc + 1) L st M Q) : P sc mr pc L (v :: st) M Q := by
  intro p l e R s m args below meth c D cA ad n H0 H locs cells slots ls Z hC hsc hW hS hL hk
  have h1 := h p l e R s m args below meth c D cA ad n H0 H locs cells slots ls Z hC hsc hW hS hL hk
  exact lv_pop hC.1 hC.2.1 (hC.dec hi) ((cv_cat ad v).trans hv) h1
theorem p_dup2 {i : Nat} {v w : Value} (hi : (mrT mr)[i]? = some (pc, .dup2, 1)) (hv : v.category = 1) (hw : w.category = 1) (h : P sc mr (pc + 1) L (v :: w :: v :: w :: st) M Q) : P sc mr pc L (v :: w :: st) M Q := by
  intro p l e R s m args below meth c D cA ad n H0 H locs cells slots ls Z hC hsc hW hS hL hk
  have h1 := h p l e R s m args below meth c D cA ad n H0 H locs cells slots ls Z hC hsc hW hS hL hk
  exact lv_dup2_11 hC.1 hC.2.1 (hC.dec hi) ((cv_cat ad v).trans hv) ((cv_cat ad w).trans hw) h1
theorem p_icmp_eq {i : Nat} {a b off : Int} (tgt : Nat) (hi : (mrT mr)[i]? = some (pc, .if_icmp .eq off, 3)) (ht : (pc : Int) + off = (tgt : Int)) (ha : -2147483648 ≤ a ∧ a ≤ 2147483647) (hb : -2147483648 ≤ b ∧ b ≤ 2147483647) (kt : a = b → P sc mr tgt L st M Q) (kf : ¬ (a = b) → P sc mr (pc + 3) L st M Q) : P sc mr pc L (zI b :: zI a :: st) M Q := by
  intro p l e R s m args below meth c D cA ad n H0 H locs cells slots ls Z hC hsc hW hS hL hk
  exact lv_icmp_eq hC.1 hC.2.1 (hC.dec hi) ht (fun q => kt ((zI_eq ha hb).mp q) p l e R s m args below meth c D cA ad n H0 H locs cells slots ls Z hC hsc hW hS hL hk) (fun q => kf (fun w => q ((zI_eq ha hb).mpr w)) p l e R s m args below meth c D cA ad n H0 H locs cells slots ls Z hC hsc hW hS hL hk)
theorem p_icmp_ne {i : Nat} {a b off : Int} (tgt : Nat) (hi : (mrT mr)[i]? = some (pc, .if_icmp .ne off, 3)) (ht : (pc : Int) + off = (tgt : Int)) (ha : -2147483648 ≤ a ∧ a ≤ 2147483647) (hb : -2147483648 ≤ b ∧ b ≤ 2147483647) (kt : ¬ a = b → P sc mr tgt L st M Q) (kf : a = b → P sc mr (pc + 3) L st M Q) : P sc mr pc L (zI b :: zI a :: st) M Q := by
  intro p l e R s m args below meth c D cA ad n H0 H locs cells slots ls Z hC hsc hW hS hL hk
  exact lv_icmp_ne hC.1 hC.2.1 (hC.dec hi) ht (fun q => kt (fun w => q ((zI_eq ha hb).mpr w)) p l e R s m args below meth c D cA ad n H0 H locs cells slots ls Z hC hsc hW hS hL hk) (fun q => kf ((zI_eq ha hb).mp q) p l e R s m args below meth c D cA ad n H0 H locs cells slots ls Z hC hsc hW hS hL hk)
theorem p_icmp_lt {i : Nat} {a b off : Int} (tgt : Nat) (hi : (mrT mr)[i]? = some (pc, .if_icmp .lt off, 3)) (ht : (pc : Int) + off = (tgt : Int)) (ha : -2147483648 ≤ a ∧ a ≤ 2147483647) (hb : -2147483648 ≤ b ∧ b ≤ 2147483647) (kt : a < b → P sc mr tgt L st M Q) (kf : ¬ (a < b) → P sc mr (pc + 3) L st M Q) : P sc mr pc L (zI b :: zI a :: st) M Q := by
  intro p l e R s m args below meth c D cA ad n H0 H locs cells slots ls Z hC hsc hW hS hL hk
  exact lv_icmp_lt hC.1 hC.2.1 (hC.dec hi) ht (fun q => kt ((zI_lt ha hb).mp q) p l e R s m args below meth c D cA ad n H0 H locs cells slots ls Z hC hsc hW hS hL hk) (fun q => kf (fun w => q ((zI_lt ha hb).mpr w)) p l e R s m args below meth c D cA ad n H0 H locs cells slots ls Z hC hsc hW hS hL hk)
theorem p_icmp_ge {i : Nat} {a b off : Int} (tgt : Nat) (hi : (mrT mr)[i]? = some (pc, .if_icmp .ge off, 3)) (ht : (pc : Int) + off = (tgt : Int)) (ha : -2147483648 ≤ a ∧ a ≤ 2147483647) (hb : -2147483648 ≤ b ∧ b ≤ 2147483647) (kt : b ≤ a → P sc mr tgt L st M Q) (kf : ¬ (b ≤ a) → P sc mr (pc + 3) L st M Q) : P sc mr pc L (zI b :: zI a :: st) M Q := by
  intro p l e R s m args below meth c D cA ad n H0 H locs cells slots ls Z hC hsc hW hS hL hk
  exact lv_icmp_ge hC.1 hC.2.1 (hC.dec hi) ht (fun q => kt ((zI_le hb ha).mp q) p l e R s m args below meth c D cA ad n H0 H locs cells slots ls Z hC hsc hW hS hL hk) (fun q => kf (fun w => q ((zI_le hb ha).mpr w)) p l e R s m args below meth c D cA ad n H0 H locs cells slots ls Z hC hsc hW hS hL hk)
theorem p_icmp_gt {i : Nat} {a b off : Int} (tgt : Nat) (hi : (mrT mr)[i]? = some (pc, .if_icmp .gt off, 3)) (ht : (pc : Int) + off = (tgt : Int)) (ha : -2147483648 ≤ a ∧ a ≤ 2147483647) (hb : -2147483648 ≤ b ∧ b ≤ 2147483647) (kt : b < a → P sc mr tgt L st M Q) (kf : ¬ (b < a) → P sc mr (pc + 3) L st M Q) : P sc mr pc L (zI b :: zI a :: st) M Q := by
  intro p l e R s m args below meth c D cA ad n H0 H locs cells slots ls Z hC hsc hW hS hL hk
  exact lv_icmp_gt hC.1 hC.2.1 (hC.dec hi) ht (fun q => kt ((zI_lt hb ha).mp q) p l e R s m args below meth c D cA ad n H0 H locs cells slots ls Z hC hsc hW hS hL hk) (fun q => kf (fun w => q ((zI_lt hb ha).mpr w)) p l e R s m args below meth c D cA ad n H0 H locs cells slots ls Z hC hsc hW hS hL hk)
theorem p_icmp_le {i : Nat} {a b off : Int} (tgt : Nat) (hi : (mrT mr)[i]? = some (pc, .if_icmp .le off, 3)) (ht : (pc : Int) + off = (tgt : Int)) (ha : -2147483648 ≤ a ∧ a ≤ 2147483647) (hb : -2147483648 ≤ b ∧ b ≤ 2147483647) (kt : a ≤ b → P sc mr tgt L st M Q) (kf : ¬ (a ≤ b) → P sc mr (pc + 3) L st M Q) : P sc mr pc L (zI b :: zI a :: st) M Q := by
  intro p l e R s m args below meth c D cA ad n H0 H locs cells slots ls Z hC hsc hW hS hL hk
  exact lv_icmp_le hC.1 hC.2.1 (hC.dec hi) ht (fun q => kt ((zI_le ha hb).mp q) p l e R s m args below meth c D cA ad n H0 H locs cells slots ls Z hC hsc hW hS hL hk) (fun q => kf (fun w => q ((zI_le ha hb).mpr w)) p l e R s m args below meth c D cA ad n H0 H locs cells slots ls Z hC hsc hW hS hL hk)
theorem p_if_eq {i : Nat} {a off : Int} (tgt : Nat) (hi : (mrT mr)[i]? = some (pc, .ifCond .eq off, 3)) (ht : (pc : Int) + off = (tgt : Int)) (ha : -2147483648 ≤ a ∧ a ≤ 2147483647) (kt : a = 0 → P sc mr tgt L st M Q) (kf : ¬ (a = 0) → P sc mr (pc + 3) L st M Q) : P sc mr pc L (zI a :: st) M Q := by
  intro p l e R s m args below meth c D cA ad n H0 H locs cells slots ls Z hC hsc hW hS hL hk
  exact lv_if_eq hC.1 hC.2.1 (hC.dec hi) ht (fun q => kt ((zI_eq ha (by omega)).mp (q.trans zI_0.symm)) p l e R s m args below meth c D cA ad n H0 H locs cells slots ls Z hC hsc hW hS hL hk) (fun q => kf (fun w => q (by rw [w]; exact zI_0)) p l e R s m args below meth c D cA ad n H0 H locs cells slots ls Z hC hsc hW hS hL hk)
theorem p_if_ne {i : Nat} {a off : Int} (tgt : Nat) (hi : (mrT mr)[i]? = some (pc, .ifCond .ne off, 3)) (ht : (pc : Int) + off = (tgt : Int)) (ha : -2147483648 ≤ a ∧ a ≤ 2147483647) (kt : ¬ a = 0 → P sc mr tgt L st M Q) (kf : a = 0 → P sc mr (pc + 3) L st M Q) : P sc mr pc L (zI a :: st) M Q := by
  intro p l e R s m args below meth c D cA ad n H0 H locs cells slots ls Z hC hsc hW hS hL hk
  exact lv_if_ne hC.1 hC.2.1 (hC.dec hi) ht (fun q => kt (fun w => q (by rw [w]; exact zI_0)) p l e R s m args below meth c D cA ad n H0 H locs cells slots ls Z hC hsc hW hS hL hk) (fun q => kf ((zI_eq ha (by omega)).mp (q.trans zI_0.symm)) p l e R s m args below meth c D cA ad n H0 H locs cells slots ls Z hC hsc hW hS hL hk)
theorem p_if_lt {i : Nat} {a off : Int} (tgt : Nat) (hi : (mrT mr)[i]? = some (pc, .ifCond .lt off, 3)) (ht : (pc : Int) + off = (tgt : Int)) (ha : -2147483648 ≤ a ∧ a ≤ 2147483647) (kt : a < 0 → P sc mr tgt L st M Q) (kf : ¬ (a < 0) → P sc mr (pc + 3) L st M Q) : P sc mr pc L (zI a :: st) M Q := by
  intro p l e R s m args below meth c D cA ad n H0 H locs cells slots ls Z hC hsc hW hS hL hk
  exact lv_if_lt hC.1 hC.2.1 (hC.dec hi) ht (fun q => kt ((zI_lt ha (by omega)).mp (by rw [zI_0]; exact q)) p l e R s m args below meth c D cA ad n H0 H locs cells slots ls Z hC hsc hW hS hL hk) (fun q => kf (fun w => q (by rw [← zI_0]; exact (zI_lt ha (by omega)).mpr w)) p l e R s m args below meth c D cA ad n H0 H locs cells slots ls Z hC hsc hW hS hL hk)
theorem p_if_ge {i : Nat} {a off : Int} (tgt : Nat) (hi : (mrT mr)[i]? = some (pc, .ifCond .ge off, 3)) (ht : (pc : Int) + off = (tgt : Int)) (ha : -2147483648 ≤ a ∧ a ≤ 2147483647) (kt : 0 ≤ a → P sc mr tgt L st M Q) (kf : ¬ (0 ≤ a) → P sc mr (pc + 3) L st M Q) : P sc mr pc L (zI a :: st) M Q := by
  intro p l e R s m args below meth c D cA ad n H0 H locs cells slots ls Z hC hsc hW hS hL hk
  exact lv_if_ge hC.1 hC.2.1 (hC.dec hi) ht (fun q => kt ((zI_le (by omega) ha).mp (by rw [zI_0]; exact q)) p l e R s m args below meth c D cA ad n H0 H locs cells slots ls Z hC hsc hW hS hL hk) (fun q => kf (fun w => q (by rw [← zI_0]; exact (zI_le (by omega) ha).mpr w)) p l e R s m args below meth c D cA ad n H0 H locs cells slots ls Z hC hsc hW hS hL hk)
theorem p_if_gt {i : Nat} {a off : Int} (tgt : Nat) (hi : (mrT mr)[i]? = some (pc, .ifCond .gt off, 3)) (ht : (pc : Int) + off = (tgt : Int)) (ha : -2147483648 ≤ a ∧ a ≤ 2147483647) (kt : 0 < a → P sc mr tgt L st M Q) (kf : ¬ (0 < a) → P sc mr (pc + 3) L st M Q) : P sc mr pc L (zI a :: st) M Q := by
  intro p l e R s m args below meth c D cA ad n H0 H locs cells slots ls Z hC hsc hW hS hL hk
  exact lv_if_gt hC.1 hC.2.1 (hC.dec hi) ht (fun q => kt ((zI_lt (by omega) ha).mp (by rw [zI_0]; exact q)) p l e R s m args below meth c D cA ad n H0 H locs cells slots ls Z hC hsc hW hS hL hk) (fun q => kf (fun w => q (by rw [← zI_0]; exact (zI_lt (by omega) ha).mpr w)) p l e R s m args below meth c D cA ad n H0 H locs cells slots ls Z hC hsc hW hS hL hk)
theorem p_if_le {i : Nat} {a off : Int} (tgt : Nat) (hi : (mrT mr)[i]? = some (pc, .ifCond .le off, 3)) (ht : (pc : Int) + off = (tgt : Int)) (ha : -2147483648 ≤ a ∧ a ≤ 2147483647) (kt : a ≤ 0 → P sc mr tgt L st M Q) (kf : ¬ (a ≤ 0) → P sc mr (pc + 3) L st M Q) : P sc mr pc L (zI a :: st) M Q := by
  intro p l e R s m args below meth c D cA ad n H0 H locs cells slots ls Z hC hsc hW hS hL hk
  exact lv_if_le hC.1 hC.2.1 (hC.dec hi) ht (fun q => kt ((zI_le ha (by omega)).mp (by rw [zI_0]; exact q)) p l e R s m args below meth c D cA ad n H0 H locs cells slots ls Z hC hsc hW hS hL hk) (fun q => kf (fun w => q (by rw [← zI_0]; exact (zI_le ha (by omega)).mpr w)) p l e R s m args below meth c D cA ad n H0 H locs cells slots ls Z hC hsc hW hS hL hk)
theorem p_goto {i : Nat} {off : Int} (tgt : Nat) (hi : (mrT mr)[i]? = some (pc, .goto off, 3)) (ht : (pc : Int) + off = (tgt : Int)) (h : P sc mr tgt L st M Q) : P sc mr pc L st M Q := by
  intro p l e R s m args below meth c D cA ad n H0 H locs cells slots ls Z hC hsc hW hS hL hk
  exact lv_goto hC.1 hC.2.1 (hC.dec hi) ht (h p l e R s m args below meth c D cA ad n H0 H locs cells slots ls Z hC hsc hW hS hL hk)
theorem p_tsOut {i : Nat} {dflt lo hi a : Int} {offs : Array Int} {len : Nat} (tgt : Nat) (hi' : (mrT mr)[i]? = some (pc, .tableswitch dflt lo hi offs, len)) (ht : (pc : Int) + dflt = (tgt : Int)) (ha : -2147483648 ≤ a ∧ a ≤ 2147483647) (ho : a < lo ∨ hi < a) (h : P sc mr tgt L st M Q) : P sc mr pc L (zI a :: st) M Q := by
  intro p l e R s m args below meth c D cA ad n H0 H locs cells slots ls Z hC hsc hW hS hL hk
  exact lv_tableOut hC.1 hC.2.1 (hC.dec hi') (by rw [zI_T ha]; exact ho) ht (h p l e R s m args below meth c D cA ad n H0 H locs cells slots ls Z hC hsc hW hS hL hk)
theorem p_tsIn {i : Nat} {dflt lo hi a off : Int} {offs : Array Int} {len : Nat} (tgt : Nat) (hi' : (mrT mr)[i]? = some (pc, .tableswitch dflt lo hi offs, len)) (ha : -2147483648 ≤ a ∧ a ≤ 2147483647) (ho : lo ≤ a ∧ a ≤ hi) (hof : offs[(a - lo).toNat]? = some off) (ht : (pc : Int) + off = (tgt : Int)) (h : P sc mr tgt L st M Q) : P sc mr pc L (zI a :: st) M Q := by
  intro p l e R s m args below meth c D cA ad n H0 H locs cells slots ls Z hC hsc hW hS hL hk
  exact lv_tableIn hC.1 hC.2.1 (hC.dec hi') (by rw [zI_T ha]; omega) (by rw [zI_T ha]; omega) (by rw [zI_T ha]; exact hof) ht (h p l e R s m args below meth c D cA ad n H0 H locs cells slots ls Z hC hsc hW hS hL hk)
theorem p_lsw {i : Nat} {dflt a off : Int} {ps : Array (Int × Int)} {len : Nat} (tgt : Nat) (hi' : (mrT mr)[i]? = some (pc, .lookupswitch dflt ps, len)) (ha : -2147483648 ≤ a ∧ a ≤ 2147483647) (hp : (ps.toList.zip (ps.toList.drop 1)).all (fun (a, next) => a.1 < next.1) = true) (ho : Op.lookupswitch.offset ps.toList dflt a = off) (ht : (pc : Int) + off = (tgt : Int)) (h : P sc mr tgt L st M Q) : P sc mr pc L (zI a :: st) M Q := by
  intro p l e R s m args below meth c D cA ad n H0 H locs cells slots ls Z hC hsc hW hS hL hk
  exact lv_lookup hC.1 hC.2.1 (hC.dec hi') hp (by rw [zI_T ha]; exact ho) ht (h p l e R s m args below meth c D cA ad n H0 H locs cells slots ls Z hC hsc hW hS hL hk)
theorem p_ret {i : Nat} (hi : (mrT mr)[i]? = some (pc, .return_, 1)) (hr : mrR mr = none) (h : Q none M) : P sc mr pc L [] M Q := by
  intro p l e R s m args below meth c D cA ad n H0 H locs cells slots ls Z hC hsc hW hS hL hk
  exact hk none M pc H locs ls (Or.inl ⟨rfl, hr, hC.dec hi⟩) h hW hS
theorem p_iret {i : Nat} {x : Int32} (hi : (mrT mr)[i]? = some (pc, .ireturn, 1)) {ty : FieldType} (hr : mrR mr = some ty) (hn : narrow ty (.int x) = .int x) (h : Q (some (.int x)) M) : P sc mr pc L [.int x] M Q := by
  intro p l e R s m args below meth c D cA ad n H0 H locs cells slots ls Z hC hsc hW hS hL hk
  exact hk (some (.int x)) M pc H locs ls (Or.inr ⟨x, ty, rfl, hr, hn, hC.dec hi⟩) h hW hS
end PR
