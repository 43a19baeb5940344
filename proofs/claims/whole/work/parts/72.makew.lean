theorem P1_gen {mr : MR} {pc : Nat} {L st : List Value} {n : Nat} {X : AM} {k sl : Nat} {Q : Nat → List Value → Nat → AM → Prop} (h : ∀ M', M' = X → P1 mr pc L st n M' k sl Q) : P1 mr pc L st n X k sl Q := h X rfl
/-- what new int[6][6] leaves -/
def mnaM (M : AM) (n : Nat) : AM := fun j => if j = n then some (zR 4 6 (fun i => if i < 6 then some (n + 1 + i) else none)) else if n < j ∧ j ≤ n + 6 then some (zA 6 (fun _ => 0)) else M j
def MnaRow : Prop := ∀ (mr : MR) (pc : Nat) (L st : List Value) (n : Nat) (M : AM) (k sl : Nat) (Q : Nat → List Value → Nat → AM → Prop) (i idx : Nat), (mrT mr)[i]? = some (pc, .multianewarray idx 2, 4) → Jvm.Cond.classLink (mrY mr).cls idx "[[I" ∈ lwg → 7 ≤ k → 42 ≤ sl → P1 mr (pc + 4) L (.ref n :: st) (n + 7) (mnaM M n) (k - 7) (sl - 42) Q → P1 mr pc L (zI 6 :: zI 6 :: st) n M k sl Q
set_option maxRecDepth 20000 in
theorem w_ci : Jvm.Cond.arrayClass .int ∈ lwg := (lwg_of (List.mem_append_right _ (List.mem_of_getElem? (i := 47) rfl)) rfl)
set_option maxRecDepth 20000 in
theorem w_cz : Jvm.Cond.arrayClass .boolean ∈ lwg := (lwg_of (List.mem_append_right _ (List.mem_of_getElem? (i := 157) rfl)) rfl)
set_option maxRecDepth 20000 in
theorem w_oi : Jvm.Cond.instanceMethod objectInit ∈ lwg ∧ Jvm.Cond.code objectInit ⟨#[0xb1]⟩ 1 none ∈ lwg := ⟨(lwg_of (List.mem_append_right _ (List.mem_of_getElem? (i := 21) rfl)) rfl), (lwg_of (List.mem_append_right _ (List.mem_of_getElem? (i := 22) rfl)) rfl)⟩
set_option maxRecDepth 20000 in
theorem olX0_init : Jvm.Cond.methodLink (mrY mX0_init).cls 3 objectInit ∈ lwg := (lwg_of (List.mem_append_right _ (List.mem_of_getElem? (i := 163) rfl)) rfl)
set_option maxRecDepth 20000 in
theorem ffX0_init_9 : FFin mX0_init 9 0 0 (.array .int) := ⟨rfl, _, rfl, by decide, (lwg_of (List.mem_append_right _ (List.mem_of_getElem? (i := 164) rfl)) rfl), rfl, rfl, by decide +kernel⟩
set_option maxRecDepth 20000 in
theorem ffX0_init_15 : FFin mX0_init 15 0 1 (.array .int) := ⟨rfl, _, rfl, by decide, (lwg_of (List.mem_append_right _ (List.mem_of_getElem? (i := 166) rfl)) rfl), rfl, rfl, by decide +kernel⟩
set_option maxRecDepth 20000 in
theorem olX1_init : Jvm.Cond.methodLink (mrY mX1_init).cls 3 objectInit ∈ lwg := (lwg_of (List.mem_append_right _ (List.mem_of_getElem? (i := 53) rfl)) rfl)
set_option maxRecDepth 20000 in
theorem nqX1_init_9 : Jvm.Cond.classLink (mrY mX1_init).cls 9 RX6 ∈ lwg := (lwg_of (List.mem_append_right _ (List.mem_of_getElem? (i := 54) rfl)) rfl)
set_option maxRecDepth 20000 in
theorem ffX1_init_11 : FFin mX1_init 11 1 0 (.array (.object "HandedLens$Pair")) := ⟨rfl, _, rfl, by decide, (lwg_of (List.mem_append_right _ (List.mem_of_getElem? (i := 110) rfl)) rfl), rfl, rfl, by decide +kernel⟩
set_option maxRecDepth 20000 in
theorem nkX1_init_9 : NOk mX1_init 9 6 8 [.null, .null, .null, .null, .null, zI 0, zI 0, zI 0] := ⟨RX6, TX6, tyX6, ⟨(lwg_of (List.mem_append_right _ (List.mem_of_getElem? (i := 54) rfl)) rfl), (lwg_of (List.mem_append_right _ (List.mem_of_getElem? (i := 56) rfl)) rfl), (lwg_of (List.mem_append_right _ (List.mem_of_getElem? (i := 4) rfl)) rfl)⟩, rfl, tyX6_ok, by decide +kernel, rfl⟩
set_option maxRecDepth 20000 in
theorem ioX1_init_24 : IOk mX1_init 24 mX6_init := ⟨Or.inr ⟨RX9, by decide +kernel⟩, ⟨rfl, rfl, (lwg_of (List.mem_append_right _ (List.mem_of_getElem? (i := 58) rfl)) rfl), (lwg_of (List.mem_append_right _ (List.mem_of_getElem? (i := 4) rfl)) rfl), (lwg_of (List.mem_append_right _ (List.mem_of_getElem? (i := 59) rfl)) rfl), ⟨by decide, by decide, by decide⟩⟩, rfl, rfl⟩
set_option maxRecDepth 20000 in
theorem olX2_init : Jvm.Cond.methodLink (mrY mX2_init).cls 1 objectInit ∈ lwg := (lwg_of (List.mem_append_right _ (List.mem_of_getElem? (i := 217) rfl)) rfl)
set_option maxRecDepth 20000 in
theorem nkX2_init_7 : NOk mX2_init 7 6 8 [.null, .null, .null, .null, .null, zI 0, zI 0, zI 0] := ⟨RX6, TX6, tyX6, ⟨(lwg_of (List.mem_append_right _ (List.mem_of_getElem? (i := 218) rfl)) rfl), (lwg_of (List.mem_append_right _ (List.mem_of_getElem? (i := 56) rfl)) rfl), (lwg_of (List.mem_append_right _ (List.mem_of_getElem? (i := 4) rfl)) rfl)⟩, rfl, tyX6_ok, by decide +kernel, rfl⟩
set_option maxRecDepth 20000 in
theorem ioX2_init_9 : IOk mX2_init 9 mX6_init := ⟨Or.inr ⟨RX9, by decide +kernel⟩, ⟨rfl, rfl, (lwg_of (List.mem_append_right _ (List.mem_of_getElem? (i := 58) rfl)) rfl), (lwg_of (List.mem_append_right _ (List.mem_of_getElem? (i := 4) rfl)) rfl), (lwg_of (List.mem_append_right _ (List.mem_of_getElem? (i := 59) rfl)) rfl), ⟨by decide, by decide, by decide⟩⟩, rfl, rfl⟩
set_option maxRecDepth 20000 in
theorem ffX2_init_10 : FFin mX2_init 10 2 0 (.object "HandedLens$Pair") := ⟨rfl, _, rfl, by decide, (lwg_of (List.mem_append_right _ (List.mem_of_getElem? (i := 220) rfl)) rfl), rfl, rfl, by decide +kernel⟩
set_option maxRecDepth 20000 in
theorem olX3_init : Jvm.Cond.methodLink (mrY mX3_init).cls 3 objectInit ∈ lwg := (lwg_of (List.mem_append_right _ (List.mem_of_getElem? (i := 182) rfl)) rfl)
set_option maxRecDepth 20000 in
theorem ffX3_init_9 : FFin mX3_init 9 3 0 (.array .int) := ⟨rfl, _, rfl, by decide, (lwg_of (List.mem_append_right _ (List.mem_of_getElem? (i := 185) rfl)) rfl), rfl, rfl, by decide +kernel⟩
set_option maxRecDepth 20000 in
theorem ffX3_init_15 : FFin mX3_init 15 3 1 (.array .int) := ⟨rfl, _, rfl, by decide, (lwg_of (List.mem_append_right _ (List.mem_of_getElem? (i := 186) rfl)) rfl), rfl, rfl, by decide +kernel⟩
set_option maxRecDepth 20000 in
theorem ffX3_init_18 : FFin mX3_init 18 3 2 (.array .int) := ⟨rfl, _, rfl, by decide, (lwg_of (List.mem_append_right _ (List.mem_of_getElem? (i := 187) rfl)) rfl), rfl, rfl, by decide +kernel⟩
set_option maxRecDepth 20000 in
theorem nmX3_init_21 : Jvm.Cond.classLink (mrY mX3_init).cls 21 "[[I" ∈ lwg := (lwg_of (List.mem_append_right _ (List.mem_of_getElem? (i := 183) rfl)) rfl)
set_option maxRecDepth 20000 in
theorem ffX3_init_23 : FFin mX3_init 23 3 3 (.array (.array .int)) := ⟨rfl, _, rfl, by decide, (lwg_of (List.mem_append_right _ (List.mem_of_getElem? (i := 188) rfl)) rfl), rfl, rfl, by decide +kernel⟩
set_option maxRecDepth 20000 in
theorem olX4_init : Jvm.Cond.methodLink (mrY mX4_init).cls 3 objectInit ∈ lwg := (lwg_of (List.mem_append_right _ (List.mem_of_getElem? (i := 66) rfl)) rfl)
set_option maxRecDepth 20000 in
theorem ffX4_init_9 : FFin mX4_init 9 4 0 (.array .int) := ⟨rfl, _, rfl, by decide, (lwg_of (List.mem_append_right _ (List.mem_of_getElem? (i := 67) rfl)) rfl), rfl, rfl, by decide +kernel⟩
set_option maxRecDepth 20000 in
theorem olX5_init : Jvm.Cond.methodLink (mrY mX5_init).cls 3 objectInit ∈ lwg := (lwg_of (List.mem_append_right _ (List.mem_of_getElem? (i := 145) rfl)) rfl)
set_option maxRecDepth 20000 in
theorem ffX5_init_9 : FFin mX5_init 9 5 0 (.array .int) := ⟨rfl, _, rfl, by decide, (lwg_of (List.mem_append_right _ (List.mem_of_getElem? (i := 146) rfl)) rfl), rfl, rfl, by decide +kernel⟩
set_option maxRecDepth 20000 in
theorem ffX5_init_15 : FFin mX5_init 15 5 1 (.array .boolean) := ⟨rfl, _, rfl, by decide, (lwg_of (List.mem_append_right _ (List.mem_of_getElem? (i := 147) rfl)) rfl), rfl, rfl, by decide +kernel⟩
set_option maxRecDepth 20000 in
theorem olX6_init : Jvm.Cond.methodLink (mrY mX6_init).cls 3 objectInit ∈ lwg := (lwg_of (List.mem_append_right _ (List.mem_of_getElem? (i := 60) rfl)) rfl)
set_option maxRecDepth 20000 in
theorem ffX6_init_9 : FFin mX6_init 9 6 0 (.array .int) := ⟨rfl, _, rfl, by decide, (lwg_of (List.mem_append_right _ (List.mem_of_getElem? (i := 78) rfl)) rfl), rfl, rfl, by decide +kernel⟩
set_option maxRecDepth 20000 in
theorem ffX6_init_15 : FFin mX6_init 15 6 1 (.array .int) := ⟨rfl, _, rfl, by decide, (lwg_of (List.mem_append_right _ (List.mem_of_getElem? (i := 80) rfl)) rfl), rfl, rfl, by decide +kernel⟩
set_option maxRecDepth 20000 in
theorem ffX6_init_18 : FFin mX6_init 18 6 2 (.array .int) := ⟨rfl, _, rfl, by decide, (lwg_of (List.mem_append_right _ (List.mem_of_getElem? (i := 82) rfl)) rfl), rfl, rfl, by decide +kernel⟩
set_option maxRecDepth 20000 in
theorem ffX6_init_21 : FFin mX6_init 21 6 3 (.array .int) := ⟨rfl, _, rfl, by decide, (lwg_of (List.mem_append_right _ (List.mem_of_getElem? (i := 84) rfl)) rfl), rfl, rfl, by decide +kernel⟩
set_option maxRecDepth 20000 in
theorem nkX6_init_24 : NOk mX6_init 24 4 3 [.null, zI 0, zI 0] := ⟨RX4, TX4, tyX4, ⟨(lwg_of (List.mem_append_right _ (List.mem_of_getElem? (i := 61) rfl)) rfl), (lwg_of (List.mem_append_right _ (List.mem_of_getElem? (i := 62) rfl)) rfl), (lwg_of (List.mem_append_right _ (List.mem_of_getElem? (i := 5) rfl)) rfl)⟩, rfl, tyX4_ok, by decide +kernel, rfl⟩
set_option maxRecDepth 20000 in
theorem ioX6_init_26 : IOk mX6_init 26 mX4_init := ⟨Or.inr ⟨RX9, by decide +kernel⟩, ⟨rfl, rfl, (lwg_of (List.mem_append_right _ (List.mem_of_getElem? (i := 64) rfl)) rfl), (lwg_of (List.mem_append_right _ (List.mem_of_getElem? (i := 5) rfl)) rfl), (lwg_of (List.mem_append_right _ (List.mem_of_getElem? (i := 65) rfl)) rfl), ⟨by decide, by decide, by decide⟩⟩, rfl, rfl⟩
set_option maxRecDepth 20000 in
theorem ffX6_init_27 : FFin mX6_init 27 6 4 (.object "HandedLens$Log") := ⟨rfl, _, rfl, by decide, (lwg_of (List.mem_append_right _ (List.mem_of_getElem? (i := 85) rfl)) rfl), rfl, rfl, by decide +kernel⟩
set_option maxRecDepth 20000 in
theorem olX7_init : Jvm.Cond.methodLink (mrY mX7_init).cls 3 objectInit ∈ lwg := (lwg_of (List.mem_append_right _ (List.mem_of_getElem? (i := 28) rfl)) rfl)
set_option maxRecDepth 20000 in
theorem ffX7_init_9 : FFin mX7_init 9 7 0 (.array .int) := ⟨rfl, _, rfl, by decide, (lwg_of (List.mem_append_right _ (List.mem_of_getElem? (i := 29) rfl)) rfl), rfl, rfl, by decide +kernel⟩
set_option maxRecDepth 20000 in
theorem olX8_init : Jvm.Cond.methodLink (mrY mX8_init).cls 3 objectInit ∈ lwg := (lwg_of (List.mem_append_right _ (List.mem_of_getElem? (i := 130) rfl)) rfl)
set_option maxRecDepth 20000 in
theorem ffX8_init_9 : FFin mX8_init 9 8 0 (.array .int) := ⟨rfl, _, rfl, by decide, (lwg_of (List.mem_append_right _ (List.mem_of_getElem? (i := 131) rfl)) rfl), rfl, rfl, by decide +kernel⟩
set_option maxRecDepth 20000 in
theorem olX9_init : Jvm.Cond.methodLink (mrY mX9_init).cls 1 objectInit ∈ lwg := (lwg_of (List.mem_append_right _ (List.mem_of_getElem? (i := 20) rfl)) rfl)
set_option maxRecDepth 20000 in
theorem nkX9_init_7 : NOk mX9_init 7 7 5 [.null, zI 0, zI 0, zI 0, zI 0] := ⟨RX7, TX7, tyX7, ⟨(lwg_of (List.mem_append_right _ (List.mem_of_getElem? (i := 23) rfl)) rfl), (lwg_of (List.mem_append_right _ (List.mem_of_getElem? (i := 24) rfl)) rfl), (lwg_of (List.mem_append_right _ (List.mem_of_getElem? (i := 2) rfl)) rfl)⟩, rfl, tyX7_ok, by decide +kernel, rfl⟩
set_option maxRecDepth 20000 in
theorem ioX9_init_9 : IOk mX9_init 9 mX7_init := ⟨Or.inr ⟨RX9, by decide +kernel⟩, ⟨rfl, rfl, (lwg_of (List.mem_append_right _ (List.mem_of_getElem? (i := 26) rfl)) rfl), (lwg_of (List.mem_append_right _ (List.mem_of_getElem? (i := 2) rfl)) rfl), (lwg_of (List.mem_append_right _ (List.mem_of_getElem? (i := 27) rfl)) rfl), ⟨by decide, by decide, by decide⟩⟩, rfl, rfl⟩
set_option maxRecDepth 20000 in
theorem ffX9_init_10 : FFin mX9_init 10 9 0 (.object "HandedLens$Reader") := ⟨rfl, _, rfl, by decide, (lwg_of (List.mem_append_right _ (List.mem_of_getElem? (i := 233) rfl)) rfl), rfl, rfl, by decide +kernel⟩
set_option maxRecDepth 20000 in
theorem nkX9_init_16 : NOk mX9_init 16 1 3 [.null, zI 0, zI 0] := ⟨RX1, TX1, tyX1, ⟨(lwg_of (List.mem_append_right _ (List.mem_of_getElem? (i := 48) rfl)) rfl), (lwg_of (List.mem_append_right _ (List.mem_of_getElem? (i := 49) rfl)) rfl), (lwg_of (List.mem_append_right _ (List.mem_of_getElem? (i := 3) rfl)) rfl)⟩, rfl, tyX1_ok, by decide +kernel, rfl⟩
set_option maxRecDepth 20000 in
theorem ioX9_init_18 : IOk mX9_init 18 mX1_init := ⟨Or.inl (lwg_of (List.mem_append_right _ (List.mem_of_getElem? (i := 50) rfl)) rfl), ⟨rfl, rfl, (lwg_of (List.mem_append_right _ (List.mem_of_getElem? (i := 51) rfl)) rfl), (lwg_of (List.mem_append_right _ (List.mem_of_getElem? (i := 3) rfl)) rfl), (lwg_of (List.mem_append_right _ (List.mem_of_getElem? (i := 52) rfl)) rfl), ⟨by decide, by decide, by decide⟩⟩, rfl, rfl⟩
set_option maxRecDepth 20000 in
theorem ffX9_init_19 : FFin mX9_init 19 9 1 (.object "HandedLens$History") := ⟨rfl, _, rfl, by decide, (lwg_of (List.mem_append_right _ (List.mem_of_getElem? (i := 234) rfl)) rfl), rfl, rfl, by decide +kernel⟩
set_option maxRecDepth 20000 in
theorem nqX9_init_23 : Jvm.Cond.classLink (mrY mX9_init).cls 23 RX2 ∈ lwg := (lwg_of (List.mem_append_right _ (List.mem_of_getElem? (i := 121) rfl)) rfl)
set_option maxRecDepth 20000 in
theorem ffX9_init_25 : FFin mX9_init 25 9 2 (.array (.object "HandedLens$Image")) := ⟨rfl, _, rfl, by decide, (lwg_of (List.mem_append_right _ (List.mem_of_getElem? (i := 235) rfl)) rfl), rfl, rfl, by decide +kernel⟩
set_option maxRecDepth 20000 in
theorem nkX9_init_29 : NOk mX9_init 29 6 8 [.null, .null, .null, .null, .null, zI 0, zI 0, zI 0] := ⟨RX6, TX6, tyX6, ⟨(lwg_of (List.mem_append_right _ (List.mem_of_getElem? (i := 123) rfl)) rfl), (lwg_of (List.mem_append_right _ (List.mem_of_getElem? (i := 56) rfl)) rfl), (lwg_of (List.mem_append_right _ (List.mem_of_getElem? (i := 4) rfl)) rfl)⟩, rfl, tyX6_ok, by decide +kernel, rfl⟩
set_option maxRecDepth 20000 in
theorem ioX9_init_31 : IOk mX9_init 31 mX6_init := ⟨Or.inr ⟨RX9, by decide +kernel⟩, ⟨rfl, rfl, (lwg_of (List.mem_append_right _ (List.mem_of_getElem? (i := 58) rfl)) rfl), (lwg_of (List.mem_append_right _ (List.mem_of_getElem? (i := 4) rfl)) rfl), (lwg_of (List.mem_append_right _ (List.mem_of_getElem? (i := 59) rfl)) rfl), ⟨by decide, by decide, by decide⟩⟩, rfl, rfl⟩
set_option maxRecDepth 20000 in
theorem ffX9_init_32 : FFin mX9_init 32 9 3 (.object "HandedLens$Pair") := ⟨rfl, _, rfl, by decide, (lwg_of (List.mem_append_right _ (List.mem_of_getElem? (i := 236) rfl)) rfl), rfl, rfl, by decide +kernel⟩
set_option maxRecDepth 20000 in
theorem ffX9_init_36 : FFin mX9_init 36 9 4 (.object "HandedLens$Pair") := ⟨rfl, _, rfl, by decide, (lwg_of (List.mem_append_right _ (List.mem_of_getElem? (i := 237) rfl)) rfl), rfl, rfl, by decide +kernel⟩
set_option maxRecDepth 20000 in
theorem nkX9_init_39 : NOk mX9_init 39 8 2 [.null, zI 0] := ⟨RX8, TX8, tyX8, ⟨(lwg_of (List.mem_append_right _ (List.mem_of_getElem? (i := 125) rfl)) rfl), (lwg_of (List.mem_append_right _ (List.mem_of_getElem? (i := 126) rfl)) rfl), (lwg_of (List.mem_append_right _ (List.mem_of_getElem? (i := 6) rfl)) rfl)⟩, rfl, tyX8_ok, by decide +kernel, rfl⟩
set_option maxRecDepth 20000 in
theorem ioX9_init_41 : IOk mX9_init 41 mX8_init := ⟨Or.inr ⟨RX9, by decide +kernel⟩, ⟨rfl, rfl, (lwg_of (List.mem_append_right _ (List.mem_of_getElem? (i := 128) rfl)) rfl), (lwg_of (List.mem_append_right _ (List.mem_of_getElem? (i := 6) rfl)) rfl), (lwg_of (List.mem_append_right _ (List.mem_of_getElem? (i := 129) rfl)) rfl), ⟨by decide, by decide, by decide⟩⟩, rfl, rfl⟩
set_option maxRecDepth 20000 in
theorem ffX9_init_42 : FFin mX9_init 42 9 5 (.object "HandedLens$Turns") := ⟨rfl, _, rfl, by decide, (lwg_of (List.mem_append_right _ (List.mem_of_getElem? (i := 238) rfl)) rfl), rfl, rfl, by decide +kernel⟩
set_option maxRecDepth 20000 in
theorem nkX9_init_46 : NOk mX9_init 46 5 3 [.null, .null, zI 0] := ⟨RX5, TX5, tyX5, ⟨(lwg_of (List.mem_append_right _ (List.mem_of_getElem? (i := 140) rfl)) rfl), (lwg_of (List.mem_append_right _ (List.mem_of_getElem? (i := 141) rfl)) rfl), (lwg_of (List.mem_append_right _ (List.mem_of_getElem? (i := 7) rfl)) rfl)⟩, rfl, tyX5_ok, by decide +kernel, rfl⟩
set_option maxRecDepth 20000 in
theorem ioX9_init_48 : IOk mX9_init 48 mX5_init := ⟨Or.inr ⟨RX9, by decide +kernel⟩, ⟨rfl, rfl, (lwg_of (List.mem_append_right _ (List.mem_of_getElem? (i := 143) rfl)) rfl), (lwg_of (List.mem_append_right _ (List.mem_of_getElem? (i := 7) rfl)) rfl), (lwg_of (List.mem_append_right _ (List.mem_of_getElem? (i := 144) rfl)) rfl), ⟨by decide, by decide, by decide⟩⟩, rfl, rfl⟩
set_option maxRecDepth 20000 in
theorem ffX9_init_49 : FFin mX9_init 49 9 6 (.object "HandedLens$Met") := ⟨rfl, _, rfl, by decide, (lwg_of (List.mem_append_right _ (List.mem_of_getElem? (i := 239) rfl)) rfl), rfl, rfl, by decide +kernel⟩
set_option maxRecDepth 20000 in
theorem nkX9_init_53 : NOk mX9_init 53 0 3 [.null, .null, zI 0] := ⟨RX0, TX0, tyX0, ⟨(lwg_of (List.mem_append_right _ (List.mem_of_getElem? (i := 158) rfl)) rfl), (lwg_of (List.mem_append_right _ (List.mem_of_getElem? (i := 159) rfl)) rfl), (lwg_of (List.mem_append_right _ (List.mem_of_getElem? (i := 8) rfl)) rfl)⟩, rfl, tyX0_ok, by decide +kernel, rfl⟩
set_option maxRecDepth 20000 in
theorem ioX9_init_55 : IOk mX9_init 55 mX0_init := ⟨Or.inr ⟨RX9, by decide +kernel⟩, ⟨rfl, rfl, (lwg_of (List.mem_append_right _ (List.mem_of_getElem? (i := 161) rfl)) rfl), (lwg_of (List.mem_append_right _ (List.mem_of_getElem? (i := 8) rfl)) rfl), (lwg_of (List.mem_append_right _ (List.mem_of_getElem? (i := 162) rfl)) rfl), ⟨by decide, by decide, by decide⟩⟩, rfl, rfl⟩
set_option maxRecDepth 20000 in
theorem ffX9_init_56 : FFin mX9_init 56 9 7 (.object "HandedLens$Book") := ⟨rfl, _, rfl, by decide, (lwg_of (List.mem_append_right _ (List.mem_of_getElem? (i := 240) rfl)) rfl), rfl, rfl, by decide +kernel⟩
set_option maxRecDepth 20000 in
theorem nkX9_init_60 : NOk mX9_init 60 3 7 [.null, .null, .null, .null, zI 0, zI 0, zI 0] := ⟨RX3, TX3, tyX3, ⟨(lwg_of (List.mem_append_right _ (List.mem_of_getElem? (i := 177) rfl)) rfl), (lwg_of (List.mem_append_right _ (List.mem_of_getElem? (i := 178) rfl)) rfl), (lwg_of (List.mem_append_right _ (List.mem_of_getElem? (i := 9) rfl)) rfl)⟩, rfl, tyX3_ok, by decide +kernel, rfl⟩
set_option maxRecDepth 20000 in
theorem ioX9_init_62 : IOk mX9_init 62 mX3_init := ⟨Or.inr ⟨RX9, by decide +kernel⟩, ⟨rfl, rfl, (lwg_of (List.mem_append_right _ (List.mem_of_getElem? (i := 180) rfl)) rfl), (lwg_of (List.mem_append_right _ (List.mem_of_getElem? (i := 9) rfl)) rfl), (lwg_of (List.mem_append_right _ (List.mem_of_getElem? (i := 181) rfl)) rfl), ⟨by decide, by decide, by decide⟩⟩, rfl, rfl⟩
set_option maxRecDepth 20000 in
theorem nkX9_init_23 : NOk mX9_init 23 2 3 [.null, zI 0, zI 0] := ⟨RX2, TX2, tyX2, ⟨(lwg_of (List.mem_append_right _ (List.mem_of_getElem? (i := 121) rfl)) rfl), (lwg_of (List.mem_append_right _ (List.mem_of_getElem? (i := 213) rfl)) rfl), (lwg_of (List.mem_append_right _ (List.mem_of_getElem? (i := 10) rfl)) rfl)⟩, rfl, tyX2_ok, by decide +kernel, rfl⟩
set_option maxRecDepth 20000 in
theorem ioX9_init_77 : IOk mX9_init 77 mX2_init := ⟨Or.inr ⟨RX9, by decide +kernel⟩, ⟨rfl, rfl, (lwg_of (List.mem_append_right _ (List.mem_of_getElem? (i := 215) rfl)) rfl), (lwg_of (List.mem_append_right _ (List.mem_of_getElem? (i := 10) rfl)) rfl), (lwg_of (List.mem_append_right _ (List.mem_of_getElem? (i := 216) rfl)) rfl), ⟨by decide, by decide, by decide⟩⟩, rfl, rfl⟩
set_option maxRecDepth 20000 in
theorem olX10_init : Jvm.Cond.methodLink (mrY mX10_init).cls 1 objectInit ∈ lwg := (lwg_of (List.mem_append_right _ (List.mem_of_getElem? (i := 746) rfl)) rfl)
set_option maxRecDepth 20000 in
theorem ffX10_init_7 : FFin mX10_init 7 10 0 (.array .int) := ⟨rfl, _, rfl, by decide, (lwg_of (List.mem_append_right _ (List.mem_of_getElem? (i := 747) rfl)) rfl), rfl, rfl, by decide +kernel⟩
set_option maxRecDepth 20000 in
theorem ffX10_init_13 : FFin mX10_init 13 10 1 (.array .int) := ⟨rfl, _, rfl, by decide, (lwg_of (List.mem_append_right _ (List.mem_of_getElem? (i := 748) rfl)) rfl), rfl, rfl, by decide +kernel⟩
set_option maxRecDepth 20000 in
theorem ffX10_init_16 : FFin mX10_init 16 10 2 (.array .int) := ⟨rfl, _, rfl, by decide, (lwg_of (List.mem_append_right _ (List.mem_of_getElem? (i := 749) rfl)) rfl), rfl, rfl, by decide +kernel⟩
set_option maxRecDepth 20000 in
theorem ffX10_init_19 : FFin mX10_init 19 10 3 (.array .int) := ⟨rfl, _, rfl, by decide, (lwg_of (List.mem_append_right _ (List.mem_of_getElem? (i := 750) rfl)) rfl), rfl, rfl, by decide +kernel⟩
set_option maxRecDepth 20000 in
theorem ffX10_init_22 : FFin mX10_init 22 10 4 (.array .int) := ⟨rfl, _, rfl, by decide, (lwg_of (List.mem_append_right _ (List.mem_of_getElem? (i := 751) rfl)) rfl), rfl, rfl, by decide +kernel⟩
set_option maxRecDepth 20000 in
theorem ffX10_init_25 : FFin mX10_init 25 10 6 (.array .int) := ⟨rfl, _, rfl, by decide, (lwg_of (List.mem_append_right _ (List.mem_of_getElem? (i := 753) rfl)) rfl), rfl, rfl, by decide +kernel⟩
set_option maxRecDepth 20000 in
theorem ffX10_init_28 : FFin mX10_init 28 10 7 (.array .boolean) := ⟨rfl, _, rfl, by decide, (lwg_of (List.mem_append_right _ (List.mem_of_getElem? (i := 754) rfl)) rfl), rfl, rfl, by decide +kernel⟩
set_option maxRecDepth 20000 in
theorem ffX10_init_32 : FFin mX10_init 32 10 9 (.array .int) := ⟨rfl, _, rfl, by decide, (lwg_of (List.mem_append_right _ (List.mem_of_getElem? (i := 756) rfl)) rfl), rfl, rfl, by decide +kernel⟩
set_option maxRecDepth 20000 in
theorem ffX10_init_39 : FFin mX10_init 39 10 12 (.array .int) := ⟨rfl, _, rfl, by decide, (lwg_of (List.mem_append_right _ (List.mem_of_getElem? (i := 759) rfl)) rfl), rfl, rfl, by decide +kernel⟩
set_option maxRecDepth 20000 in
theorem ffX10_init_42 : FFin mX10_init 42 10 14 (.array .int) := ⟨rfl, _, rfl, by decide, (lwg_of (List.mem_append_right _ (List.mem_of_getElem? (i := 761) rfl)) rfl), rfl, rfl, by decide +kernel⟩
set_option maxRecDepth 20000 in
theorem ffX10_init_45 : FFin mX10_init 45 10 22 (.array .int) := ⟨rfl, _, rfl, by decide, (lwg_of (List.mem_append_right _ (List.mem_of_getElem? (i := 769) rfl)) rfl), rfl, rfl, by decide +kernel⟩
set_option maxRecDepth 20000 in
theorem nkL_law_7 : NOk mL_law 7 9 12 [.null, .null, .null, .null, .null, .null, .null, .null, .null, .null, zI 0, zI 0] := ⟨RX9, TX9, tyX9, ⟨(lwg_of (List.mem_append_right _ (List.mem_of_getElem? (i := 15) rfl)) rfl), (lwg_of (List.mem_append_right _ (List.mem_of_getElem? (i := 16) rfl)) rfl), (lwg_of (List.mem_append_right _ (List.mem_of_getElem? (i := 1) rfl)) rfl)⟩, rfl, tyX9_ok, by decide +kernel, rfl⟩
set_option maxRecDepth 20000 in
theorem ioL_law_9 : IOk mL_law 9 mX9_init := ⟨Or.inl (lwg_of (List.mem_append_right _ (List.mem_of_getElem? (i := 17) rfl)) rfl), ⟨rfl, rfl, (lwg_of (List.mem_append_right _ (List.mem_of_getElem? (i := 18) rfl)) rfl), (lwg_of (List.mem_append_right _ (List.mem_of_getElem? (i := 1) rfl)) rfl), (lwg_of (List.mem_append_right _ (List.mem_of_getElem? (i := 19) rfl)) rfl), ⟨by decide, by decide, by decide⟩⟩, rfl, rfl⟩
set_option maxRecDepth 20000 in
theorem nkL_law_10 : NOk mL_law 10 10 23 [.null, .null, .null, .null, .null, zI 0, .null, .null, zJ 0, .null, zI 0, zI 0, .null, zI 0, .null, zI 0, zI 0, zI 0, zI 0, zI 0, zI 0, zI 0, .null] := ⟨RX10, TX10, tyX10, ⟨(lwg_of (List.mem_append_right _ (List.mem_of_getElem? (i := 741) rfl)) rfl), (lwg_of (List.mem_append_right _ (List.mem_of_getElem? (i := 742) rfl)) rfl), (lwg_of (List.mem_append_right _ (List.mem_of_getElem? (i := 11) rfl)) rfl)⟩, rfl, tyX10_ok, by decide +kernel, rfl⟩
set_option maxRecDepth 20000 in
theorem ioL_law_12 : IOk mL_law 12 mX10_init := ⟨Or.inl (lwg_of (List.mem_append_right _ (List.mem_of_getElem? (i := 743) rfl)) rfl), ⟨rfl, rfl, (lwg_of (List.mem_append_right _ (List.mem_of_getElem? (i := 744) rfl)) rfl), (lwg_of (List.mem_append_right _ (List.mem_of_getElem? (i := 11) rfl)) rfl), (lwg_of (List.mem_append_right _ (List.mem_of_getElem? (i := 745) rfl)) rfl), ⟨by decide, by decide, by decide⟩⟩, rfl, rfl⟩
