theorem aupN {M M' : AM} {k o : Nat} {c x : AE} (e : M' = aup M k c) (h : M o = some x) (hn : o ≠ k) : M' o = some x := by
  rw [e]; unfold aup; rw [if_neg hn]; exact h
theorem aupE {M M' : AM} {k : Nat} {c : AE} (e : M' = aup M k c) : M' k = some c := by
  rw [e]; unfold aup; rw [if_pos rfl]
/-- outside of it the memory is the same -/
def Fr (F : Nat → Prop) (M M' : AM) : Prop := ∀ q, F q → M' q = M q
theorem Fr.rf {F : Nat → Prop} {M : AM} : Fr F M M := fun _ _ => rfl
theorem Fr.tr {F : Nat → Prop} {M M' M'' : AM} (h : Fr F M M') (h2 : Fr F M' M'') : Fr F M M'' := fun q hq => (h2 q hq).trans (h q hq)
theorem Fr.up {F : Nat → Prop} {M M' M'' : AM} {k : Nat} {c : AE} (h : Fr F M M') (e : M'' = aup M' k c) (hn : ¬ F k) : Fr F M M'' := fun q hq => by
  rw [e]; unfold aup; rw [if_neg (show ¬ q = k from fun z => hn (by rw [← z]; exact hq))]; exact h q hq
theorem Fr.weak {F G : Nat → Prop} {M M' : AM} (h : Fr F M M') (hg : ∀ q, G q → F q) : Fr G M M' := fun q hq => h q (hg q hq)
theorem Fr.at {F : Nat → Prop} {M M' : AM} {o : Nat} {x : AE} (h : Fr F M M') (hM : M o = some x) (hf : F o) : M' o = some x := (h o hf).trans hM
section PM
variable {sc : Option (Nat × (Nat → Int32))} {mr : MR} {pc : Nat} {L st : List Value} {M : AM} {Q : Option Value → AM → Prop}
theorem P_gen {X : AM} (h : ∀ M', M' = X → P sc mr pc L st M' Q) : P sc mr pc L st X Q := h X rfl
theorem p_lconst0 {i : Nat} (hi : (mrT mr)[i]? = some (pc, .lconst 0, 1)) (h : P sc mr (pc + 1) L (zJ 0 :: st) M Q) : P sc mr pc L st M Q := p_lconst hi h
theorem p_lconst1 {i : Nat} (hi : (mrT mr)[i]? = some (pc, .lconst 1, 1)) (h : P sc mr (pc + 1) L (zJ 1 :: st) M Q) : P sc mr pc L st M Q := p_lconst hi h
/-- an index that is a number: its place -/
theorem p_iaN {i o n k : Nat} {g : Nat → Int} (hi : (mrT mr)[i]? = some (pc, .iaload, 1)) (hM : M o = some (zA n g)) (ha : k < n) (hn : n < 2147483648) (h : P sc mr (pc + 1) L (zI (g k) :: st) M Q) : P sc mr pc L (zI (k : Int) :: .ref o :: st) M Q :=
  p_iald hi hM (by omega) hn h
theorem p_iaX {i o n : Nat} {a : Int} (k : Nat) {g : Nat → Int} (hi : (mrT mr)[i]? = some (pc, .iaload, 1)) (hM : M o = some (zA n g)) (he : a = (k : Int)) (ha : k < n) (hn : n < 2147483648) (h : P sc mr (pc + 1) L (zI (g k) :: st) M Q) : P sc mr pc L (zI a :: .ref o :: st) M Q := by
  subst he; exact p_iaN hi hM ha hn h
theorem p_zaX {i o n : Nat} {a : Int} (k : Nat) {g : Nat → Int} (hi : (mrT mr)[i]? = some (pc, .baload, 1)) (hM : M o = some (zB n g)) (he : a = (k : Int)) (ha : k < n) (hn : n < 2147483648) (h : P sc mr (pc + 1) L (zI (g k) :: st) M Q) : P sc mr pc L (zI a :: .ref o :: st) M Q := by
  subst he; exact p_zald hi hM (by omega) hn h
theorem p_isX {i o n : Nat} {a v : Int} (k : Nat) {g : Nat → Int} (hi : (mrT mr)[i]? = some (pc, .iastore, 1)) (hM : M o = some (zA n g)) (he : a = (k : Int)) (ha : k < n) (hn : n < 2147483648) (h : P sc mr (pc + 1) L st (aup M o (zA n (zup g k v))) Q) : P sc mr pc L (zI v :: zI a :: .ref o :: st) M Q := by
  subst he; exact p_iast hi hM (by omega) hn h
theorem p_zsX {i o n : Nat} {a v : Int} (k : Nat) {g : Nat → Int} (hi : (mrT mr)[i]? = some (pc, .bastore, 1)) (hM : M o = some (zB n g)) (he : a = (k : Int)) (ha : k < n) (hn : n < 2147483648) (hv : v = 0 ∨ v = 1) (h : P sc mr (pc + 1) L st (aup M o (zB n (zup g k v))) Q) : P sc mr pc L (zI v :: zI a :: .ref o :: st) M Q := by
  subst he; exact p_zast hi hM (by omega) hn hv h
theorem p_aaX {i o n t j : Nat} {a : Int} (k : Nat) {g : Nat → Option Nat} (hi : (mrT mr)[i]? = some (pc, .aaload, 1)) (hM : M o = some (zR t n g)) (ht : t = 2 ∨ t = 3 ∨ t = 4) (he : a = (k : Int)) (ha : k < n) (hn : n < 2147483648) (hg : g k = some j) (h : P sc mr (pc + 1) L (.ref j :: st) M Q) : P sc mr pc L (zI a :: .ref o :: st) M Q := by
  subst he; exact p_aald hi hM ht (by omega) hn hg h
/-- a top of stack by another name -/
theorem p_top {a b : Int} (e : a = b) (h : P sc mr pc L (zI b :: st) M Q) : P sc mr pc L (zI a :: st) M Q := e ▸ h
theorem p_top32 {x : Int32} {b : Int} (e : x = Int32.ofInt b) (h : P sc mr pc L (zI b :: st) M Q) : P sc mr pc L (.int x :: st) M Q := by rw [e]; exact h
theorem zI_and (a b : Nat) : Int32.ofInt (a : Int) &&& Int32.ofInt (b : Int) = Int32.ofInt ((a &&& b : Nat) : Int) := by
  rw [Int32.ofInt_eq_ofNat, Int32.ofInt_eq_ofNat, Int32.ofInt_eq_ofNat]
  apply Int32.toBitVec.inj
  simp [Int32.toBitVec_and, BitVec.ofNat_and]
theorem zI_or (a b : Nat) : Int32.ofInt (a : Int) ||| Int32.ofInt (b : Int) = Int32.ofInt ((a ||| b : Nat) : Int) := by
  rw [Int32.ofInt_eq_ofNat, Int32.ofInt_eq_ofNat, Int32.ofInt_eq_ofNat]
  apply Int32.toBitVec.inj
  simp [Int32.toBitVec_or, BitVec.ofNat_or]
theorem zI_amt : ∀ k, k < 32 → ((Int32.ofInt ((k : Nat) : Int) &&& 31).toBitVec.smod 32).toNat = k := by decide
theorem zI_shr {a k : Nat} (ha : a < 2147483648) (hk : k < 32) : Int32.ofInt (a : Int) >>> (Int32.ofInt (k : Int) &&& 31) = Int32.ofInt ((a / 2 ^ k : Nat) : Int) := by
  rw [Int32.ofInt_eq_ofNat (n := a), Int32.ofInt_eq_ofNat (n := a / 2 ^ k)]
  exact pk_shrN (n := a) ha _ k (zI_amt k hk)
theorem zI_shl {a k : Nat} (ha : a * 2 ^ k < 4294967296) (hk : k < 32) : Int32.ofInt (a : Int) <<< (Int32.ofInt (k : Int) &&& 31) = Int32.ofInt ((a * 2 ^ k : Nat) : Int) := by
  rw [Int32.ofInt_eq_ofNat (n := a), Int32.ofInt_eq_ofNat (n := a * 2 ^ k)]
  exact pk_shlN (n := a) _ k (zI_amt k hk) ha
theorem p_iandN {i a b : Nat} (hi : (mrT mr)[i]? = some (pc, .iand, 1)) (h : P sc mr (pc + 1) L (zI ((a &&& b : Nat) : Int) :: st) M Q) : P sc mr pc L (zI (b : Int) :: zI (a : Int) :: st) M Q := p_iand hi (p_top32 (zI_and a b) h)
theorem p_iand1 {i a : Nat} (hi : (mrT mr)[i]? = some (pc, .iand, 1)) (h : P sc mr (pc + 1) L (zI ((a % 2 : Nat) : Int) :: st) M Q) : P sc mr pc L (zI 1 :: zI (a : Int) :: st) M Q := p_iand hi (p_top32 ((zI_and a 1).trans (by rw [Nat.and_one_is_mod])) h)
theorem p_iorN {i a b : Nat} (hi : (mrT mr)[i]? = some (pc, .ior, 1)) (h : P sc mr (pc + 1) L (zI ((a ||| b : Nat) : Int) :: st) M Q) : P sc mr pc L (zI (b : Int) :: zI (a : Int) :: st) M Q := p_ior hi (p_top32 (zI_or a b) h)
theorem p_ishrN {i a k : Nat} (hi : (mrT mr)[i]? = some (pc, .ishr, 1)) (ha : a < 2147483648) (hk : k < 32) (h : P sc mr (pc + 1) L (zI ((a / 2 ^ k : Nat) : Int) :: st) M Q) : P sc mr pc L (zI (k : Int) :: zI (a : Int) :: st) M Q := p_ishr hi (p_top32 (zI_shr ha hk) h)
theorem p_ishl1 {i k : Nat} (hi : (mrT mr)[i]? = some (pc, .ishl, 1)) (hk : k < 31) (h : P sc mr (pc + 1) L (zI ((2 ^ k : Nat) : Int) :: st) M Q) : P sc mr pc L (zI (k : Int) :: zI 1 :: st) M Q := p_ishl hi (p_top32 ((zI_shl (a := 1) (k := k) (by have : 2 ^ k ≤ 2 ^ 30 := Nat.pow_le_pow_right (by decide) (by omega); omega) (by omega)).trans (by rw [Nat.one_mul])) h)
end PM
