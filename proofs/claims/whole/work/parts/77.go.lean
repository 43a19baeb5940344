/-! THE CLAIM OUT OF ONE WALK OF THE LAW'S BODY. Your part is whole_start (and what it stands on); all else here is the same for every law, but numbers. -/
def R_law : String := "HandedLensLaw"
def lw_P (b : Addr) (xs : List Int32) (args : Array Value) (s : State) : Prop := args = #[.ref b] ∧ s.IntsAt b xs ∧ xs.length ≤ 192 ∧ (Jvm.Cond.and given_1 narrow_1).before args s = true
def lw_Q (_ : Array Value) (s : State) (o : Outcome) (t : State) : Prop := o = .returned (some (.int 1)) ∧ Framed s o t [] 600000 7302250
def lw_Z (below : List Frame) (a : Array Value) (s : State) : State → Prop := fun t => ∃ o, t.status = .running ∧ Ended t below o ∧ lw_Q a s o t
/-- the law's own end, with 1 on the stack, nothing written that was there before, its room as the claim has it -/
theorem lw_ret {p : Program} {l : Launch} {e : Env} {s : State} {m : MethodId} {below : List Frame} {meth : Method} {c : Code} {b : Nat} (hx : p.tables.exec = Jvm.exec) (hb : c.code = code) (hr : meth.sig.returnType = ret) (hlocks : meth.locks = false) {pc : Nat} {H : Heap} {ls : Array Slot} (hdg : decode code pc = .ok (.ireturn, 1)) : W p l e room_1 s m #[Value.ref b] below meth c H [] 600000 7302250 (lw_Z below #[Value.ref b] s) (F0 m pc ls [.int 1]) := by
  intro T hT X
  obtain ⟨fs, hret, hrun, hended, hW, hframe⟩ := X.leave (v := some (.int 1)) (hlocks := hlocks) (fun h => by rw [hr] at h; cases h)
  have hmeth' : T.vm.method? m = some meth := X.method'
  refine ⟨T.setFrames fs, ?_, .returned (some (.int 1)), hrun, hended, rfl, ⟨_, rfl⟩, hW, hframe⟩
  jvm_step X.here [X.here.top, hx, hb, hdg, hmeth', hr, ret, narrow_b1]
  (try refine ⟨rfl, ?_⟩); (try refine ⟨rfl, ?_⟩)
  first | (intro acts; rw [hret _ acts rfl rfl rfl]) | rw [hret _ _ rfl rfl rfl]
  exact Steps.refl _
/-- what holds at the law's entry: the machine, the code, the tables' words (any of lw_tbl by 'hts w (by decide +kernel)'), the script of L ints xs at the cell b, what the Statement gives of the start (any of its parts by flat_of_before) -/
def lw_At (p : Program) (s : State) (m : MethodId) (meth : Method) (c : Code) (b L : Nat) (xs : Nat → Int32) : Prop :=
  p.tables.exec = Jvm.exec ∧ c.code = code ∧ meth.sig.returnType = ret ∧ c.maxLocals = 4 ∧ s.vm.findClass R_law = some m.cls ∧ (∀ w ∈ lw_tbl, w.before #[Value.ref b] s = true) ∧ va_X b L xs s s.heap ∧ b < s.heap.size ∧ meth.locks = false ∧ (Jvm.Cond.and given_1 narrow_1).before #[Value.ref b] s = true
theorem law_go {Ln : Nat} {xs : Nat → Int32} (hL : Ln ≤ 192) {M : AM} (hX : XW M σ0) (hY : YW M σ0) : P (some (Ln, xs)) mL_law 16 [.ref 1000000, .ref 0, .ref 276, .retAddr 0] []  M LawQ := by
  refine p_iconst (i := 8) rfl ?_
  refine p_istore_n (i := 9) rfl rfl ?_
  exact law_loop hL 64 0 M σ0 (by omega) (by omega) hX hY
theorem whole_of (hm : MnaRow) {p : Program} {e : Env} {s : State} {m : MethodId} {below : List Frame} {meth : Method} {c : Code} (l : Launch) {b L : Nat} {xs : Nat → Int32} (hL : L ≤ 192) (C0 : lw_At p s m meth c b L xs) : W p l e room_1 s m #[Value.ref b] below meth c s.heap [] 0 0 (lw_Z below #[Value.ref b] s) (entryFrame m ([Value.ref b] : List Value).toArray 4) := by
  obtain ⟨hx, hb, hr, hml, hown, hts, hX, hbl, hlocks, hgv⟩ := C0
  obtain ⟨D, cA, hK⟩ := know hts
  have hZ := zw_of hts
  have htg : ∀ w ∈ lwg, w.before #[Value.ref b] s = true := fun w hw => hts w (List.mem_filter.mp hw).1
  have hl := lv_entry [Value.ref b] (n := 4) (Nat.le_of_ble_eq_true rfl)
  have hCx : Ctx p room_1 s m #[Value.ref b] c D cA 400 10000 mL_law := ⟨hx, hb, hml, hown, htg, hK, Nat.le_of_ble_eq_true rfl, Nat.le_of_ble_eq_true rfl, okL_law, Nat.le_of_ble_eq_true rfl, Nat.le_of_ble_eq_true rfl⟩
  rw [lg_entry_eq]
  refine c_law hm p l e room_1 s m _ below meth c D cA (fun _ => b) (fun q => s.heap.size ≤ q) s.heap s.heap [] 0 0 _ b _ ⟨hCx.wk (Nat.le_of_ble_eq_true rfl) (Nat.le_of_ble_eq_true rfl), hZ, fun h => absurd h (by decide), fun q hq => hq, fun j hj => absurd hj (Nat.not_lt_zero j), ⟨⟨fun k q hk => ?_, fun i j hi => absurd hi (Nat.not_lt_zero i), fun k x hk => ?_⟩, fun k x hk => ?_⟩, va_S.rf, ⟨⟨hl.1, hl.2.1, rfl, fun i v hi hv => ?_⟩, hl.2.2 (0, .ref b) List.mem_cons_self⟩, fun a ha => ?_, rk_nil⟩ ?_
  · have hk : ([] : va_W)[k]? = some q := hk
    cases hk
  · cases hk
  · cases hk
  · match i, hi with
    | 0, hi => cases hi; exact absurd rfl hv
    | 1, hi => cases hi; exact absurd rfl hv
    | 2, hi => cases hi; exact absurd rfl hv
    | 3, hi => cases hi; exact absurd rfl hv
    | i + 4, hi => cases hi
  · simp at ha
  · intro ad' n' M' pc' L' H' locs' ls' hq a2 a3 a4 a5 a6 a7
    obtain ⟨rfl, rfl, rfl, hXw, hYw⟩ := hq
    have eb : ad' 1000000 = b := a2 1000000 (Or.inr (by decide))
    refine va_forget (fun q hq => a6.2.2 q hq) ?_
    have hnf : ¬ FA ad' 288 (ad' 1000000) := fun z => by
      obtain ⟨j, hj, ej⟩ := z
      have := a4 j hj
      rw [ej, eb] at this
      omega
    refine law_go (xs := xs) hL hXw hYw p l e room_1 s m _ below meth c D cA ad' 288 s.heap H' [] _ _ ls' _ (hCx.wk (Nat.le_of_ble_eq_true rfl) (Nat.le_of_ble_eq_true rfl)) (fun q hq => ?_) a5.1 ⟨a6.1, fun q h1 h2 => a6.2.1 q h1 (fun z => by omega), fun q hq => absurd hq List.not_mem_nil⟩ ⟨a7.1.1, a7.1.2.1, rfl, fun i v hi hv => ?_⟩ ?_
    · cases hq
      rw [eb]
      rw [eb] at hnf
      exact ⟨hX, hbl, hnf⟩
    · match i, hi with
      | 0, hi =>
        cases hi
        show ls'[0]? = some (Slot.val (.ref (ad' 1000000)))
        rw [eb]
        exact a7.2
      | 1, hi => cases hi; exact a7.1.2.2.2 1 (.ref 0) rfl (fun z => by cases z)
      | 2, hi => cases hi; exact a7.1.2.2.2 2 (.ref 276) rfl (fun z => by cases z)
      | 3, hi => cases hi; exact absurd rfl hv
      | i + 4, hi => cases hi
    · intro r M'' pcr H'' locs'' ls'' hret hq hW' hS'
      have hq : r = some (zI 1) := hq
      subst hq
      rcases hret with ⟨hr0, -⟩ | ⟨v, ty, er, -, -, hd⟩
      · cases hr0
      · refine va_forget (fun q hq => ?_) ?_
        · obtain ⟨j, hj, ej⟩ := hS'.2.2 q hq
          have := a4 j hj
          rw [ej] at this
          exact this
        · exact W.widen (Nat.le_of_ble_eq_true rfl) (Nat.le_of_ble_eq_true rfl) (lw_ret hx hb hr hlocks hd)
