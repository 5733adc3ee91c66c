/-! THE CLAIM OUT OF ONE WALK OF THE LAW'S BODY. Your part is whole_start (and what it stands on); all else here is the same for every law, but numbers. -/
def R_law : String := "InkHoursLaw"
def lw_P (b : Addr) (xs : List Int32) (args : Array Value) (s : State) : Prop := args = #[.ref b] ∧ s.IntsAt b xs ∧ xs.length ≤ 3072 ∧ (Jvm.Cond.and given_1 narrow_1).before args s = true
def lw_Q (_ : Array Value) (s : State) (o : Outcome) (t : State) : Prop := o = .returned (some (.int 1)) ∧ Framed s o t [] 600000 7302249
def lw_Z (below : List Frame) (a : Array Value) (s : State) : State → Prop := fun t => ∃ o, t.status = .running ∧ Ended t below o ∧ lw_Q a s o t
/-- the law's own end, with 1 on the stack, nothing written that was there before, its room as the claim has it -/
theorem lw_ret {p : Program} {l : Launch} {e : Env} {s : State} {m : MethodId} {below : List Frame} {meth : Method} {c : Code} {b : Nat} (hx : p.tables.exec = Jvm.exec) (hb : c.code = code) (hr : meth.sig.returnType = ret) (hlocks : meth.locks = false) {pc : Nat} {H : Heap} {ls : Array Slot} (hdg : decode code pc = .ok (.ireturn, 1)) : W p l e room_1 s m #[Value.ref b] below meth c H [] 600000 7302249 (lw_Z below #[Value.ref b] s) (F0 m pc ls [.int 1]) := by
  intro T hT X
  obtain ⟨fs, hret, hrun, hended, hW, hframe⟩ := X.leave (v := some (.int 1)) (hlocks := hlocks) (fun h => by rw [hr] at h; cases h)
  have hmeth' : T.vm.method? m = some meth := X.method'
  refine ⟨T.setFrames fs, ?_, .returned (some (.int 1)), hrun, hended, rfl, ⟨_, rfl⟩, hW, hframe⟩
  jvm_step X.here [X.here.top, hx, hb, hdg, hmeth', hr, ret, narrow_b1]
  (try refine ⟨rfl, ?_⟩); (try refine ⟨rfl, ?_⟩)
  first | (intro acts; rw [hret _ acts rfl rfl rfl]) | rw [hret _ _ rfl rfl rfl]
  exact Steps.refl _
/-- what holds at the law's entry: the machine, the code, the tables' words (any of lw_tbl by 'hts w (by decide +kernel)'), the script of L ints xs at the cell b, what the Statement gives of the start (any of its parts by flat_of_before) -/
def lw_At (p : Program) (s : State) (m : MethodId) (meth : Method) (c : Code) (b L : Nat) (xs : Nat → Int32) : Prop :=
  p.tables.exec = Jvm.exec ∧ c.code = code ∧ meth.sig.returnType = ret ∧ c.maxLocals = 4 ∧ s.vm.findClass R_law = some m.cls ∧ (∀ w ∈ lw_tbl, w.before #[Value.ref b] s = true) ∧ va_X b L xs s s.heap ∧ b < s.heap.size ∧ meth.locks = false ∧ (Jvm.Cond.and given_1 narrow_1).before #[Value.ref b] s = true ∧ meth.name = "law"
/-! THE LAW'S ENTRY: what the Statement gives of the start, as the methods need it -/
def xs_fl : List Jvm.Cond := flatC (Jvm.Cond.and given_1 narrow_1)
/-- a text: its object, its bytes -/
theorem xs_str {b0 : Nat} {args : Array Value} {s : State} {tm : Term} (bs : List Int) (hb0 : b0 = s.heap.size) (hn : bs.length < 2 ^ 31) (hex : (Cond.exactly tm "java/lang/String").before args s = true) (hco : (Cond.eq (.field tm "java/lang/String" "coder" "B") (.int 0)).before args s = true) (har : (Cond.arrayOf (.field tm "java/lang/String" "value" "[B") .byte).before args s = true)
    (hle : (Cond.eq (.length (.field tm "java/lang/String" "value" "[B")) (.int (Int32.ofNat bs.length))).before args s = true) (hel : ∀ j : Nat, j < bs.length → (Cond.eq (.elem (.field tm "java/lang/String" "value" "[B") (.int (Int32.ofNat j))) (.int (Int32.ofInt (bs.getD j 0)))).before args s = true) :
    ∃ a t : Nat, tm.eval args s none [] s = some (.ref a) ∧ va_O "java/lang/String" a (fun q : Nat => b0 ≤ q) s s.heap ∧ va_OF "java/lang/String" "coder" "B" (.int 0) a (fun q : Nat => b0 ≤ q) s s.heap ∧ va_OF "java/lang/String" "value" "[B" (.ref t) a (fun q : Nat => b0 ≤ q) s s.heap ∧ va_T .byte t bs.length (fun j => .int (Int32.ofInt (bs.getD j 0))) (fun q : Nat => b0 ≤ q) s s.heap := by
  have hA : ∀ a : Nat, a < s.heap.size → ¬ b0 ≤ a := fun a h => by omega
  obtain ⟨a, c, cA, kA, q1, q2, q3, q4, q5, q6, -⟩ := Cond.exactly_spec (args := args) (first := s) (o := none) (s := s) (idx := []) (t := tm) (cls := "java/lang/String") hex
  obtain ⟨t, ht, hT⟩ := va_Tof (f := fun j => .int (Int32.ofInt (bs.getD j 0))) (A := fun q : Nat => b0 ≤ q) hn har (va_eqt hle) (fun j hj => va_eqt (hel j hj)) hA
  exact ⟨a, t, q1, ⟨cA, q3, q5, by rw [q6]; exact q2, hA a (Array.getElem?_eq_some_iff.mp q3).1⟩, vk_OFof q1 (va_eqt hco) hA, vk_OFof q1 ht hA, hT⟩
/-- a static row of numbers -/
theorem xs_row {b0 : Nat} {args : Array Value} {s : State} {C n : String} (bs : List Int) (hb0 : b0 = s.heap.size) (hn : bs.length < 2 ^ 31) (hl : (Cond.laysStatic C n "[I").before args s = true) (hini : (Cond.initialized C).before args s = true) (har : (Cond.arrayOf (.static C n "[I") .int).before args s = true)
    (hle : (Cond.eq (.length (.static C n "[I")) (.int (Int32.ofNat bs.length))).before args s = true) (hel : ∀ j : Nat, j < bs.length → (Cond.eq (.elem (.static C n "[I") (.int (Int32.ofNat j))) (.int (Int32.ofInt (bs.getD j 0)))).before args s = true) :
    ∃ t : Nat, va_Z C n "[I" (.ref t) (fun q : Nat => b0 ≤ q) s s.heap ∧ va_T .int t bs.length (fun j => .int (Int32.ofInt (bs.getD j 0))) (fun q : Nat => b0 ≤ q) s s.heap := by
  have hA : ∀ a : Nat, a < s.heap.size → ¬ b0 ≤ a := fun a h => by omega
  obtain ⟨t, ht, hT⟩ := va_Tof (f := fun j => .int (Int32.ofInt (bs.getD j 0))) (A := fun q : Nat => b0 ≤ q) hn har (va_eqt hle) (fun j hj => va_eqt (hel j hj)) hA
  exact ⟨t, va_Zof hl hini ht hA, hT⟩
theorem xs_in0 : Cond.exactly (Term.string "InkHours$Text" 41) "java/lang/String" ∈ xs_fl ∧ Cond.eq (.field (Term.string "InkHours$Text" 41) "java/lang/String" "coder" "B") (.int 0) ∈ xs_fl ∧ Cond.arrayOf (.field (Term.string "InkHours$Text" 41) "java/lang/String" "value" "[B") .byte ∈ xs_fl ∧ Cond.eq (.length (.field (Term.string "InkHours$Text" 41) "java/lang/String" "value" "[B")) (.int (Int32.ofNat 3)) ∈ xs_fl ∧ ∀ j : Nat, j < 3 → Cond.eq (.elem (.field (Term.string "InkHours$Text" 41) "java/lang/String" "value" "[B") (.int (Int32.ofNat j))) (.int (Int32.ofInt ((xa_tx.getD 0 []).getD j 0))) ∈ xs_fl := by decide +kernel
theorem xs_in1 : Cond.exactly (Term.string "InkHours$Text" 50) "java/lang/String" ∈ xs_fl ∧ Cond.eq (.field (Term.string "InkHours$Text" 50) "java/lang/String" "coder" "B") (.int 0) ∈ xs_fl ∧ Cond.arrayOf (.field (Term.string "InkHours$Text" 50) "java/lang/String" "value" "[B") .byte ∈ xs_fl ∧ Cond.eq (.length (.field (Term.string "InkHours$Text" 50) "java/lang/String" "value" "[B")) (.int (Int32.ofNat 5)) ∈ xs_fl ∧ ∀ j : Nat, j < 5 → Cond.eq (.elem (.field (Term.string "InkHours$Text" 50) "java/lang/String" "value" "[B") (.int (Int32.ofNat j))) (.int (Int32.ofInt ((xa_tx.getD 1 []).getD j 0))) ∈ xs_fl := by decide +kernel
theorem xs_in2 : Cond.exactly (Term.string "InkHours$Text" 55) "java/lang/String" ∈ xs_fl ∧ Cond.eq (.field (Term.string "InkHours$Text" 55) "java/lang/String" "coder" "B") (.int 0) ∈ xs_fl ∧ Cond.arrayOf (.field (Term.string "InkHours$Text" 55) "java/lang/String" "value" "[B") .byte ∈ xs_fl ∧ Cond.eq (.length (.field (Term.string "InkHours$Text" 55) "java/lang/String" "value" "[B")) (.int (Int32.ofNat 2)) ∈ xs_fl ∧ ∀ j : Nat, j < 2 → Cond.eq (.elem (.field (Term.string "InkHours$Text" 55) "java/lang/String" "value" "[B") (.int (Int32.ofNat j))) (.int (Int32.ofInt ((xa_tx.getD 2 []).getD j 0))) ∈ xs_fl := by decide +kernel
theorem xs_in3 : Cond.exactly (Term.string "InkHours$Text" 64) "java/lang/String" ∈ xs_fl ∧ Cond.eq (.field (Term.string "InkHours$Text" 64) "java/lang/String" "coder" "B") (.int 0) ∈ xs_fl ∧ Cond.arrayOf (.field (Term.string "InkHours$Text" 64) "java/lang/String" "value" "[B") .byte ∈ xs_fl ∧ Cond.eq (.length (.field (Term.string "InkHours$Text" 64) "java/lang/String" "value" "[B")) (.int (Int32.ofNat 5)) ∈ xs_fl ∧ ∀ j : Nat, j < 5 → Cond.eq (.elem (.field (Term.string "InkHours$Text" 64) "java/lang/String" "value" "[B") (.int (Int32.ofNat j))) (.int (Int32.ofInt ((xa_tx.getD 3 []).getD j 0))) ∈ xs_fl := by decide +kernel
theorem xs_in4 : Cond.exactly (Term.string "InkHours$Text" 71) "java/lang/String" ∈ xs_fl ∧ Cond.eq (.field (Term.string "InkHours$Text" 71) "java/lang/String" "coder" "B") (.int 0) ∈ xs_fl ∧ Cond.arrayOf (.field (Term.string "InkHours$Text" 71) "java/lang/String" "value" "[B") .byte ∈ xs_fl ∧ Cond.eq (.length (.field (Term.string "InkHours$Text" 71) "java/lang/String" "value" "[B")) (.int (Int32.ofNat 5)) ∈ xs_fl ∧ ∀ j : Nat, j < 5 → Cond.eq (.elem (.field (Term.string "InkHours$Text" 71) "java/lang/String" "value" "[B") (.int (Int32.ofNat j))) (.int (Int32.ofInt ((xa_tx.getD 4 []).getD j 0))) ∈ xs_fl := by decide +kernel
theorem xs_in5 : Cond.exactly (Term.string "InkHours$Text" 80) "java/lang/String" ∈ xs_fl ∧ Cond.eq (.field (Term.string "InkHours$Text" 80) "java/lang/String" "coder" "B") (.int 0) ∈ xs_fl ∧ Cond.arrayOf (.field (Term.string "InkHours$Text" 80) "java/lang/String" "value" "[B") .byte ∈ xs_fl ∧ Cond.eq (.length (.field (Term.string "InkHours$Text" 80) "java/lang/String" "value" "[B")) (.int (Int32.ofNat 5)) ∈ xs_fl ∧ ∀ j : Nat, j < 5 → Cond.eq (.elem (.field (Term.string "InkHours$Text" 80) "java/lang/String" "value" "[B") (.int (Int32.ofNat j))) (.int (Int32.ofInt ((xa_tx.getD 5 []).getD j 0))) ∈ xs_fl := by decide +kernel
theorem xs_in6 : Cond.exactly (Term.string "InkHours$Text" 88) "java/lang/String" ∈ xs_fl ∧ Cond.eq (.field (Term.string "InkHours$Text" 88) "java/lang/String" "coder" "B") (.int 0) ∈ xs_fl ∧ Cond.arrayOf (.field (Term.string "InkHours$Text" 88) "java/lang/String" "value" "[B") .byte ∈ xs_fl ∧ Cond.eq (.length (.field (Term.string "InkHours$Text" 88) "java/lang/String" "value" "[B")) (.int (Int32.ofNat 4)) ∈ xs_fl ∧ ∀ j : Nat, j < 4 → Cond.eq (.elem (.field (Term.string "InkHours$Text" 88) "java/lang/String" "value" "[B") (.int (Int32.ofNat j))) (.int (Int32.ofInt ((xa_tx.getD 6 []).getD j 0))) ∈ xs_fl := by decide +kernel
theorem xs_in7 : Cond.exactly (Term.string "InkHours$Text" 104) "java/lang/String" ∈ xs_fl ∧ Cond.eq (.field (Term.string "InkHours$Text" 104) "java/lang/String" "coder" "B") (.int 0) ∈ xs_fl ∧ Cond.arrayOf (.field (Term.string "InkHours$Text" 104) "java/lang/String" "value" "[B") .byte ∈ xs_fl ∧ Cond.eq (.length (.field (Term.string "InkHours$Text" 104) "java/lang/String" "value" "[B")) (.int (Int32.ofNat 3)) ∈ xs_fl ∧ ∀ j : Nat, j < 3 → Cond.eq (.elem (.field (Term.string "InkHours$Text" 104) "java/lang/String" "value" "[B") (.int (Int32.ofNat j))) (.int (Int32.ofInt ((xa_tx.getD 7 []).getD j 0))) ∈ xs_fl := by decide +kernel
theorem xs_in8 : Cond.exactly (Term.string "InkHours$Text" 109) "java/lang/String" ∈ xs_fl ∧ Cond.eq (.field (Term.string "InkHours$Text" 109) "java/lang/String" "coder" "B") (.int 0) ∈ xs_fl ∧ Cond.arrayOf (.field (Term.string "InkHours$Text" 109) "java/lang/String" "value" "[B") .byte ∈ xs_fl ∧ Cond.eq (.length (.field (Term.string "InkHours$Text" 109) "java/lang/String" "value" "[B")) (.int (Int32.ofNat 3)) ∈ xs_fl ∧ ∀ j : Nat, j < 3 → Cond.eq (.elem (.field (Term.string "InkHours$Text" 109) "java/lang/String" "value" "[B") (.int (Int32.ofNat j))) (.int (Int32.ofInt ((xa_tx.getD 8 []).getD j 0))) ∈ xs_fl := by decide +kernel
theorem xs_in9 : Cond.exactly (Term.string "InkHours$Text" 111) "java/lang/String" ∈ xs_fl ∧ Cond.eq (.field (Term.string "InkHours$Text" 111) "java/lang/String" "coder" "B") (.int 0) ∈ xs_fl ∧ Cond.arrayOf (.field (Term.string "InkHours$Text" 111) "java/lang/String" "value" "[B") .byte ∈ xs_fl ∧ Cond.eq (.length (.field (Term.string "InkHours$Text" 111) "java/lang/String" "value" "[B")) (.int (Int32.ofNat 2)) ∈ xs_fl ∧ ∀ j : Nat, j < 2 → Cond.eq (.elem (.field (Term.string "InkHours$Text" 111) "java/lang/String" "value" "[B") (.int (Int32.ofNat j))) (.int (Int32.ofInt ((xa_tx.getD 9 []).getD j 0))) ∈ xs_fl := by decide +kernel
theorem xs_in10 : Cond.exactly (Term.string "InkHours$Text" 113) "java/lang/String" ∈ xs_fl ∧ Cond.eq (.field (Term.string "InkHours$Text" 113) "java/lang/String" "coder" "B") (.int 0) ∈ xs_fl ∧ Cond.arrayOf (.field (Term.string "InkHours$Text" 113) "java/lang/String" "value" "[B") .byte ∈ xs_fl ∧ Cond.eq (.length (.field (Term.string "InkHours$Text" 113) "java/lang/String" "value" "[B")) (.int (Int32.ofNat 4)) ∈ xs_fl ∧ ∀ j : Nat, j < 4 → Cond.eq (.elem (.field (Term.string "InkHours$Text" 113) "java/lang/String" "value" "[B") (.int (Int32.ofNat j))) (.int (Int32.ofInt ((xa_tx.getD 10 []).getD j 0))) ∈ xs_fl := by decide +kernel
theorem xs_in11 : Cond.exactly (Term.string "InkHours$Text" 115) "java/lang/String" ∈ xs_fl ∧ Cond.eq (.field (Term.string "InkHours$Text" 115) "java/lang/String" "coder" "B") (.int 0) ∈ xs_fl ∧ Cond.arrayOf (.field (Term.string "InkHours$Text" 115) "java/lang/String" "value" "[B") .byte ∈ xs_fl ∧ Cond.eq (.length (.field (Term.string "InkHours$Text" 115) "java/lang/String" "value" "[B")) (.int (Int32.ofNat 5)) ∈ xs_fl ∧ ∀ j : Nat, j < 5 → Cond.eq (.elem (.field (Term.string "InkHours$Text" 115) "java/lang/String" "value" "[B") (.int (Int32.ofNat j))) (.int (Int32.ofInt ((xa_tx.getD 11 []).getD j 0))) ∈ xs_fl := by decide +kernel
theorem xs_in12 : Cond.exactly (Term.string "InkHours$Text" 117) "java/lang/String" ∈ xs_fl ∧ Cond.eq (.field (Term.string "InkHours$Text" 117) "java/lang/String" "coder" "B") (.int 0) ∈ xs_fl ∧ Cond.arrayOf (.field (Term.string "InkHours$Text" 117) "java/lang/String" "value" "[B") .byte ∈ xs_fl ∧ Cond.eq (.length (.field (Term.string "InkHours$Text" 117) "java/lang/String" "value" "[B")) (.int (Int32.ofNat 4)) ∈ xs_fl ∧ ∀ j : Nat, j < 4 → Cond.eq (.elem (.field (Term.string "InkHours$Text" 117) "java/lang/String" "value" "[B") (.int (Int32.ofNat j))) (.int (Int32.ofInt ((xa_tx.getD 12 []).getD j 0))) ∈ xs_fl := by decide +kernel
theorem xs_row0 : Cond.arrayOf (.static "InkHours" "KIND_ABOVE" "[I") .int ∈ xs_fl ∧ Cond.eq (.length (.static "InkHours" "KIND_ABOVE" "[I")) (.int (Int32.ofNat 7)) ∈ xs_fl ∧ (∀ j : Nat, j < 7 → Cond.eq (.elem (.static "InkHours" "KIND_ABOVE" "[I") (.int (Int32.ofNat j))) (.int (Int32.ofInt (([-1, 0, 0, 0, 1, 3, 1] : List Int).getD j 0))) ∈ xs_fl) ∧ Cond.laysStatic "InkHours" "KIND_ABOVE" "[I" ∈ lw_tbl := by decide +kernel
theorem xs_row1 : Cond.arrayOf (.static "InkHours" "TRUTHS_OF_LETTER" "[I") .int ∈ xs_fl ∧ Cond.eq (.length (.static "InkHours" "TRUTHS_OF_LETTER" "[I")) (.int (Int32.ofNat 4)) ∈ xs_fl ∧ (∀ j : Nat, j < 4 → Cond.eq (.elem (.static "InkHours" "TRUTHS_OF_LETTER" "[I") (.int (Int32.ofNat j))) (.int (Int32.ofInt (([43690, 52428, 61680, 65280] : List Int).getD j 0))) ∈ xs_fl) ∧ Cond.laysStatic "InkHours" "TRUTHS_OF_LETTER" "[I" ∈ lw_tbl := by decide +kernel
theorem xs_row2 : Cond.arrayOf (.static "InkHours" "MORE_KINDS" "[I") .int ∈ xs_fl ∧ Cond.eq (.length (.static "InkHours" "MORE_KINDS" "[I")) (.int (Int32.ofNat 7)) ∈ xs_fl ∧ (∀ j : Nat, j < 7 → Cond.eq (.elem (.static "InkHours" "MORE_KINDS" "[I") (.int (Int32.ofNat j))) (.int (Int32.ofInt (([1, 1, 1, 1, 2, 3, 5] : List Int).getD j 0))) ∈ xs_fl) ∧ Cond.laysStatic "InkHours" "MORE_KINDS" "[I" ∈ lw_tbl := by decide +kernel
theorem xs_row3 : Cond.arrayOf (.static "InkHours" "MORE_LETTERS" "[I") .int ∈ xs_fl ∧ Cond.eq (.length (.static "InkHours" "MORE_LETTERS" "[I")) (.int (Int32.ofNat 7)) ∈ xs_fl ∧ (∀ j : Nat, j < 7 → Cond.eq (.elem (.static "InkHours" "MORE_LETTERS" "[I") (.int (Int32.ofNat j))) (.int (Int32.ofInt (([0, 1, 2, 3, 0, 0, 0] : List Int).getD j 0))) ∈ xs_fl) ∧ Cond.laysStatic "InkHours" "MORE_LETTERS" "[I" ∈ lw_tbl := by decide +kernel
theorem xs_more : Cond.eq (.static "java/lang/String" "COMPACT_STRINGS" "Z") (.int 1) ∈ xs_fl ∧ Cond.isRef (.static "jdk/internal/util/Preconditions" "SIOOBE_FORMATTER" "Ljava/util/function/BiFunction;") ∈ xs_fl ∧ Cond.laysStatic "java/lang/String" "COMPACT_STRINGS" "Z" ∈ lw_tbl ∧ Cond.laysStatic "jdk/internal/util/Preconditions" "SIOOBE_FORMATTER" "Ljava/util/function/BiFunction;" ∈ lw_tbl ∧ Cond.initialized "InkHours" ∈ lw_tbl ∧ Cond.initialized "java/lang/String" ∈ lw_tbl ∧ Cond.initialized "jdk/internal/util/Preconditions" ∈ lw_tbl ∧ Cond.arrayClass .int ∈ lw_tbl := by decide +kernel
theorem xs_ao : ∀ C ∈ xa_ao, Cond.arrayOver (.object C) ∈ lw_tbl := by decide +kernel
theorem xs_inst : ∀ q ∈ xb_cl, Cond.instantiable q.1 q.2.2 ∈ lw_tbl := by
  intro q hq
  simp only [xb_cl, List.mem_cons, List.not_mem_nil, or_false] at hq
  rcases hq with rfl | rfl | rfl | rfl | rfl | rfl | rfl | rfl | rfl | rfl
  all_goals decide +kernel
theorem xs_sr : ∀ q ∈ xa_sr, Cond.stringRef q.1 q.2.1 q.2.2.1 ∈ lw_tbl := by decide +kernel
/-- where the constants stand -/
def xs_ca (b t4 t5 t6 t7 : Nat) (aK aV : Nat → Nat) (c : Nat) : Nat := if c = 2 then b else if c = 4 then t4 else if c = 5 then t5 else if c = 6 then t6 else if c = 7 then t7 else if c < 40 then aK (c - 20) else aV (c - 40)
theorem xs_arrOf {s : State} {C : String} (h : (Cond.arrayOver (.object C)).before #[] s = true) : ∃ cA : ClassId, ArrOfT s cA (.object C) ∧ va_RA s cA (.object C) := by
  obtain ⟨comp, c, k, h1, h2, h3, h4, h5⟩ := Cond.arrayOver_spec h
  exact ⟨c, fun N z => ⟨fun k h => (by cases h), k, h3, comp, h4⟩, k, comp, h3, h4, h1, h5⟩
/-- all that stays, at the law's start -/
theorem xs_F {p : Program} {s : State} {m : MethodId} {meth : Method} {c : Code} {b L : Nat} {xs : Nat → Int32} (hL : L ≤ 3072) (C0 : lw_At p s m meth c b L xs) : ∃ (ca : Nat → Nat) (v3 : Value) (D : va_G) (cI : ClassId) (cQ : Nat → ClassId), v3.category = 1 ∧ ca 2 = b ∧ xa_F s.heap.size ca v3 ((List.range L).map (fun j => (xs j).toInt)) D cI cQ s s.heap := by
  obtain ⟨hx, hb, hr, hml, hown, hts, hX, hbl, hlocks, hgv, hnm⟩ := id C0
  have hfl : ∀ w ∈ xs_fl, w.before #[Value.ref b] s = true := flat_of_before _ hgv
  have hA : ∀ a : Nat, a < s.heap.size → ¬ s.heap.size ≤ a := fun a h => by omega
  obtain ⟨m1, m2, m3, m4, m5, m6, m7, m8⟩ := xs_more
  -- classes
  have hcls : ∀ k : Nat, ∃ q : ClassId × (Nat → Nat), ∀ r : vw_C, xb_cl[k]? = some r → u_Kn s r.1 r.2.1 r.2.2 q.1 q.2 := by
    intro k
    cases hk : xb_cl[k]? with
    | none => exact ⟨(0, fun _ => 0), fun r h => by cases h⟩
    | some r =>
      have hm := List.mem_of_getElem? hk
      obtain ⟨cC, iS, h⟩ := u_known (C := r.1) (T := r.2.1) (N := r.2.2) (n := r.2.2) hts (fun w hw => (List.mem_filter.mp (xb_cl_in r hm w hw)).1) (hts _ (xs_inst r hm))
      exact ⟨(cC, iS), fun r' h' => by cases h'; exact h⟩
  obtain ⟨f, hf⟩ := Classical.axiomOfChoice hcls
  -- arrays
  obtain ⟨cI, kA, comp, i1, i2, i3⟩ := Cond.arrayClass_spec (hts _ m8)
  have hI : ArrOfT s cI .int ∧ va_RA s cI .int := ⟨fun N z => ⟨fun k h => (by cases h), kA, i2, comp, i3⟩, i1⟩
  have hao : ∀ C ∈ xa_ao, va_AO C s := fun C hC => va_AO.of (hts _ (xs_ao C hC))
  obtain ⟨c1, hc1⟩ := xs_arrOf (va_AO.use (A := #[]) (hao "InkHours$Course" (by decide)))
  obtain ⟨c2, hc2⟩ := xs_arrOf (va_AO.use (A := #[]) (hao "InkHours$Paper" (by decide)))
  obtain ⟨c4, hc4⟩ := xs_arrOf (va_AO.use (A := #[]) (hao "InkHours$Sheet" (by decide)))
  -- static rows
  obtain ⟨t4, z4, y4⟩ := xs_row (b0 := s.heap.size) (C := "InkHours") (n := "KIND_ABOVE") [-1, 0, 0, 0, 1, 3, 1] rfl (by decide) (hts _ xs_row0.2.2.2) (hts _ m5) (hfl _ xs_row0.1) (hfl _ xs_row0.2.1) (fun j hj => hfl _ (xs_row0.2.2.1 j hj))
  obtain ⟨t5, z5, y5⟩ := xs_row (b0 := s.heap.size) (C := "InkHours") (n := "TRUTHS_OF_LETTER") [43690, 52428, 61680, 65280] rfl (by decide) (hts _ xs_row1.2.2.2) (hts _ m5) (hfl _ xs_row1.1) (hfl _ xs_row1.2.1) (fun j hj => hfl _ (xs_row1.2.2.1 j hj))
  obtain ⟨t6, z6, y6⟩ := xs_row (b0 := s.heap.size) (C := "InkHours") (n := "MORE_KINDS") [1, 1, 1, 1, 2, 3, 5] rfl (by decide) (hts _ xs_row2.2.2.2) (hts _ m5) (hfl _ xs_row2.1) (hfl _ xs_row2.2.1) (fun j hj => hfl _ (xs_row2.2.2.1 j hj))
  obtain ⟨t7, z7, y7⟩ := xs_row (b0 := s.heap.size) (C := "InkHours") (n := "MORE_LETTERS") [0, 1, 2, 3, 0, 0, 0] rfl (by decide) (hts _ xs_row3.2.2.2) (hts _ m5) (hfl _ xs_row3.1) (hfl _ xs_row3.2.1) (fun j hj => hfl _ (xs_row3.2.2.1 j hj))
  -- texts
  have htx : ∀ i : Nat, ∃ q : Nat × Nat, i < 13 → (Term.string "InkHours$Text" ((xa_sr.getD i ("", 0, "", 0)).2.1)).eval #[Value.ref b] s none [] s = some (.ref q.1) ∧ va_O "java/lang/String" q.1 (fun q : Nat => s.heap.size ≤ q) s s.heap ∧ va_OF "java/lang/String" "coder" "B" (.int 0) q.1 (fun q : Nat => s.heap.size ≤ q) s s.heap ∧ va_OF "java/lang/String" "value" "[B" (.ref q.2) q.1 (fun q : Nat => s.heap.size ≤ q) s s.heap ∧ va_T .byte q.2 (xa_tx.getD i []).length (fun j => .int (Int32.ofInt ((xa_tx.getD i []).getD j 0))) (fun q : Nat => s.heap.size ≤ q) s s.heap := by
    intro i
    by_cases hi : i < 13
    · rcases (by omega : i = 0 ∨ i = 1 ∨ i = 2 ∨ i = 3 ∨ i = 4 ∨ i = 5 ∨ i = 6 ∨ i = 7 ∨ i = 8 ∨ i = 9 ∨ i = 10 ∨ i = 11 ∨ i = 12) with rfl | rfl | rfl | rfl | rfl | rfl | rfl | rfl | rfl | rfl | rfl | rfl | rfl
      · obtain ⟨a, t, h⟩ := xs_str (b0 := s.heap.size) (tm := Term.string "InkHours$Text" 41) (xa_tx.getD 0 []) rfl (by decide) (hfl _ xs_in0.1) (hfl _ xs_in0.2.1) (hfl _ xs_in0.2.2.1) (hfl _ xs_in0.2.2.2.1) (fun j hj => hfl _ (xs_in0.2.2.2.2 j hj))
        exact ⟨(a, t), fun _ => h⟩
      · obtain ⟨a, t, h⟩ := xs_str (b0 := s.heap.size) (tm := Term.string "InkHours$Text" 50) (xa_tx.getD 1 []) rfl (by decide) (hfl _ xs_in1.1) (hfl _ xs_in1.2.1) (hfl _ xs_in1.2.2.1) (hfl _ xs_in1.2.2.2.1) (fun j hj => hfl _ (xs_in1.2.2.2.2 j hj))
        exact ⟨(a, t), fun _ => h⟩
      · obtain ⟨a, t, h⟩ := xs_str (b0 := s.heap.size) (tm := Term.string "InkHours$Text" 55) (xa_tx.getD 2 []) rfl (by decide) (hfl _ xs_in2.1) (hfl _ xs_in2.2.1) (hfl _ xs_in2.2.2.1) (hfl _ xs_in2.2.2.2.1) (fun j hj => hfl _ (xs_in2.2.2.2.2 j hj))
        exact ⟨(a, t), fun _ => h⟩
      · obtain ⟨a, t, h⟩ := xs_str (b0 := s.heap.size) (tm := Term.string "InkHours$Text" 64) (xa_tx.getD 3 []) rfl (by decide) (hfl _ xs_in3.1) (hfl _ xs_in3.2.1) (hfl _ xs_in3.2.2.1) (hfl _ xs_in3.2.2.2.1) (fun j hj => hfl _ (xs_in3.2.2.2.2 j hj))
        exact ⟨(a, t), fun _ => h⟩
      · obtain ⟨a, t, h⟩ := xs_str (b0 := s.heap.size) (tm := Term.string "InkHours$Text" 71) (xa_tx.getD 4 []) rfl (by decide) (hfl _ xs_in4.1) (hfl _ xs_in4.2.1) (hfl _ xs_in4.2.2.1) (hfl _ xs_in4.2.2.2.1) (fun j hj => hfl _ (xs_in4.2.2.2.2 j hj))
        exact ⟨(a, t), fun _ => h⟩
      · obtain ⟨a, t, h⟩ := xs_str (b0 := s.heap.size) (tm := Term.string "InkHours$Text" 80) (xa_tx.getD 5 []) rfl (by decide) (hfl _ xs_in5.1) (hfl _ xs_in5.2.1) (hfl _ xs_in5.2.2.1) (hfl _ xs_in5.2.2.2.1) (fun j hj => hfl _ (xs_in5.2.2.2.2 j hj))
        exact ⟨(a, t), fun _ => h⟩
      · obtain ⟨a, t, h⟩ := xs_str (b0 := s.heap.size) (tm := Term.string "InkHours$Text" 88) (xa_tx.getD 6 []) rfl (by decide) (hfl _ xs_in6.1) (hfl _ xs_in6.2.1) (hfl _ xs_in6.2.2.1) (hfl _ xs_in6.2.2.2.1) (fun j hj => hfl _ (xs_in6.2.2.2.2 j hj))
        exact ⟨(a, t), fun _ => h⟩
      · obtain ⟨a, t, h⟩ := xs_str (b0 := s.heap.size) (tm := Term.string "InkHours$Text" 104) (xa_tx.getD 7 []) rfl (by decide) (hfl _ xs_in7.1) (hfl _ xs_in7.2.1) (hfl _ xs_in7.2.2.1) (hfl _ xs_in7.2.2.2.1) (fun j hj => hfl _ (xs_in7.2.2.2.2 j hj))
        exact ⟨(a, t), fun _ => h⟩
      · obtain ⟨a, t, h⟩ := xs_str (b0 := s.heap.size) (tm := Term.string "InkHours$Text" 109) (xa_tx.getD 8 []) rfl (by decide) (hfl _ xs_in8.1) (hfl _ xs_in8.2.1) (hfl _ xs_in8.2.2.1) (hfl _ xs_in8.2.2.2.1) (fun j hj => hfl _ (xs_in8.2.2.2.2 j hj))
        exact ⟨(a, t), fun _ => h⟩
      · obtain ⟨a, t, h⟩ := xs_str (b0 := s.heap.size) (tm := Term.string "InkHours$Text" 111) (xa_tx.getD 9 []) rfl (by decide) (hfl _ xs_in9.1) (hfl _ xs_in9.2.1) (hfl _ xs_in9.2.2.1) (hfl _ xs_in9.2.2.2.1) (fun j hj => hfl _ (xs_in9.2.2.2.2 j hj))
        exact ⟨(a, t), fun _ => h⟩
      · obtain ⟨a, t, h⟩ := xs_str (b0 := s.heap.size) (tm := Term.string "InkHours$Text" 113) (xa_tx.getD 10 []) rfl (by decide) (hfl _ xs_in10.1) (hfl _ xs_in10.2.1) (hfl _ xs_in10.2.2.1) (hfl _ xs_in10.2.2.2.1) (fun j hj => hfl _ (xs_in10.2.2.2.2 j hj))
        exact ⟨(a, t), fun _ => h⟩
      · obtain ⟨a, t, h⟩ := xs_str (b0 := s.heap.size) (tm := Term.string "InkHours$Text" 115) (xa_tx.getD 11 []) rfl (by decide) (hfl _ xs_in11.1) (hfl _ xs_in11.2.1) (hfl _ xs_in11.2.2.1) (hfl _ xs_in11.2.2.2.1) (fun j hj => hfl _ (xs_in11.2.2.2.2 j hj))
        exact ⟨(a, t), fun _ => h⟩
      · obtain ⟨a, t, h⟩ := xs_str (b0 := s.heap.size) (tm := Term.string "InkHours$Text" 117) (xa_tx.getD 12 []) rfl (by decide) (hfl _ xs_in12.1) (hfl _ xs_in12.2.1) (hfl _ xs_in12.2.2.1) (hfl _ xs_in12.2.2.2.1) (fun j hj => hfl _ (xs_in12.2.2.2.2 j hj))
        exact ⟨(a, t), fun _ => h⟩
    · exact ⟨(0, 0), fun h => absurd h hi⟩
  obtain ⟨g, hg⟩ := Classical.axiomOfChoice htx
  -- what nobody asks
  have hv3 : ∃ v3 : Value, v3.category = 1 ∧ va_Z "jdk/internal/util/Preconditions" "SIOOBE_FORMATTER" "Ljava/util/function/BiFunction;" v3 (fun q : Nat => s.heap.size ≤ q) s s.heap := by
    rcases va_Zqof (A := fun q : Nat => s.heap.size ≤ q) (hts _ m4) (hts _ m7) (hfl _ m2) hA with h | ⟨t, h⟩
    · exact ⟨.null, rfl, h⟩
    · exact ⟨.ref t, rfl, h⟩
  obtain ⟨v3, h3, hz3⟩ := hv3
  have hzc : va_Z "java/lang/String" "COMPACT_STRINGS" "Z" (.int 1) (fun q : Nat => s.heap.size ≤ q) s s.heap := va_Zof (hts _ m3) (hts _ m6) (va_eqi (hfl _ m1)) hA
  refine ⟨xs_ca b t4 t5 t6 t7 (fun i => (g i).1) (fun i => (g i).2), v3, (fun k => (f k).1, fun k => (f k).2), cI, (fun k => if k = 1 then c1 else if k = 2 then c2 else c4), h3, rfl, ⟨fun k q hq => hf k q hq, ?_⟩, fun w hw => ?_, hao, fun q hq => ?_, fun q hq => ?_, fun k xs' e => ?_, fun k xs' e => ?_, fun k k1 k2 => ?_⟩
  · intro k q hq
    have hlt : k < 4 := (List.getElem?_eq_some_iff.mp hq).1
    rcases (by omega : k = 0 ∨ k = 1 ∨ k = 2 ∨ k = 3) with rfl | rfl | rfl | rfl
    · cases hq; exact hI
    · cases hq; exact hc1
    · cases hq; exact hc2
    · cases hq; exact hc4
  · obtain ⟨w1, w2⟩ := List.mem_filter.mp hw
    have h := hts w w1
    cases w <;> first | exact va_Nw.of rfl h | (simp [xa_isN] at w2)
  · have hw := hts _ (xs_sr q hq)
    obtain ⟨i, hi⟩ := List.getElem?_of_mem hq
    have hlt : i < 13 := (List.getElem?_eq_some_iff.mp hi).1
    have h := (hg i hlt).1
    rw [List.getD_eq_getElem?_getD, hi] at h
    have hq1 : ∀ q ∈ xa_sr, q.1 = "InkHours$Text" := by decide
    have hq2 : ∀ j : Nat, j < 13 → (xa_sr.getD j ("", 0, "", 0)).2.2.2 = 20 + j := by decide
    have h2 := hq2 i hlt
    rw [List.getD_eq_getElem?_getD, hi] at h2
    have h2 : q.2.2.2 = 20 + i := h2
    refine vk_R.of (A := #[Value.ref b]) hw ?_
    rw [hq1 q hq, h2]
    have e : xs_ca b t4 t5 t6 t7 (fun i => (g i).1) (fun i => (g i).2) (20 + i) = (g i).1 := by
      unfold xs_ca
      rw [if_neg (by omega), if_neg (by omega), if_neg (by omega), if_neg (by omega), if_neg (by omega), if_pos (by omega), show 20 + i - 20 = i by omega]
    rw [e]
    exact h
  · simp only [xa_st, List.mem_cons, List.not_mem_nil, or_false] at hq
    rcases hq with rfl | rfl | rfl | rfl | rfl | rfl
    · exact z4
    · exact z5
    · exact z6
    · exact z7
    · exact hzc
    · exact hz3
  · unfold xa_ca at e
    split at e
    · cases e
      obtain ⟨scr, x1, x2, x3, x4, x5⟩ := hX
      refine ⟨scr, x1, x2, x3, ?_, ?_, fun j hj => ?_, hA b hbl⟩
      · rw [x4, List.length_map, List.length_range]
        exact Nat.le_refl _
      · rw [x4, List.length_map, List.length_range] <;> rfl
      · rw [List.length_map, List.length_range] at hj
        rw [x5 j hj]
        dsimp only
        rw [List.getD_eq_getElem?_getD, List.getElem?_map, List.getElem?_range hj]
        show some (Value.int (xs j)) = some (Value.int (Int32.ofInt (xs j).toInt))
        rw [xa_asI]
    · cases e; exact y4
    · cases e; exact y5
    · cases e; exact y6
    · cases e; exact y7
    · cases e
  · unfold xa_cb at e
    split at e
    · cases e
    · next hk =>
      have hlt : k - 40 < 13 := (List.getElem?_eq_some_iff.mp e).1
      have h := (hg (k - 40) hlt).2.2.2.2
      have e1 : xa_tx.getD (k - 40) [] = xs' := by rw [List.getD_eq_getElem?_getD, e]; rfl
      rw [e1] at h
      have e2 : xs_ca b t4 t5 t6 t7 (fun i => (g i).1) (fun i => (g i).2) k = (g (k - 40)).2 := by
        unfold xs_ca
        rw [if_neg (by omega), if_neg (by omega), if_neg (by omega), if_neg (by omega), if_neg (by omega), if_neg (by omega)]
      rw [e2]
      exact h
  · have hlt : k - 20 < 13 := by omega
    have h := (hg (k - 20) hlt).2
    have e2 : xs_ca b t4 t5 t6 t7 (fun i => (g i).1) (fun i => (g i).2) k = (g (k - 20)).1 := by
      unfold xs_ca
      rw [if_neg (by omega), if_neg (by omega), if_neg (by omega), if_neg (by omega), if_neg (by omega), if_pos (by omega)]
    have e3 : xs_ca b t4 t5 t6 t7 (fun i => (g i).1) (fun i => (g i).2) (k + 20) = (g (k - 20)).2 := by
      unfold xs_ca
      rw [if_neg (by omega), if_neg (by omega), if_neg (by omega), if_neg (by omega), if_neg (by omega), if_neg (by omega), show k + 20 - 40 = k - 20 by omega]
    rw [e2, e3]
    exact ⟨h.1, h.2.1, h.2.2.1⟩
/-- what is left: the small machine's run of the law, on every script -/
def xs_Pure : Prop := ∀ X : List Int, X.length ≤ 3072 → (∀ x ∈ X, xa_rI x) → ∃ (n : Nat) (h' : xa_H), xa_ex xb_G X n 219 0 (xa_loc 4 [xC 2]) [] [] = some (some (xI 1), h') ∧ h'.length ≤ 600000 ∧ xa_sl h' ≤ 7302249
set_option maxHeartbeats 4000000 in
theorem xs_start (hpure : xs_Pure) {p : Program} {e : Env} {s : State} {m : MethodId} {below : List Frame} {meth : Method} {c : Code} (l : Launch) {b L : Nat} {xs : Nat → Int32} (hL : L ≤ 3072) (C0 : lw_At p s m meth c b L xs) : W p l e room_1 s m #[Value.ref b] below meth c s.heap [] 0 0 (lw_Z below #[Value.ref b] s) (entryFrame m ([Value.ref b] : List Value).toArray 4) := by
  obtain ⟨ca, v3, D, cI, cQ, h3, hca, hF⟩ := xs_F hL C0
  obtain ⟨hx, hb, hr, hml, hown, hts, hX, hbl, hlocks, hgv, hnm⟩ := id C0
  obtain ⟨n, h', ex, hl1, hl2⟩ := hpure ((List.range L).map (fun j => (xs j).toInt)) (by rw [List.length_map, List.length_range]; exact hL) (fun x hx => by
    obtain ⟨j, -, rfl⟩ := List.mem_map.mp hx
    exact xa_rng _)
  have C : xa_Cx xb_G xb_S 219 ((List.range L).map (fun j => (xs j).toInt)) s.heap.size ca v3 D cI cQ p room_1 s m #[Value.ref b] meth c := by
    refine ⟨hx, hb, hml, hown, fun w hw => hts w (List.mem_filter.mp hw).1, hF, h3, Nat.le_refl _, ?_, by show 10 ≤ 13; omega, by show 215 ≤ 474; omega⟩
    exact hnm
  have hRT : xa_RT xb_S 219 s.heap.size ca v3 D cI cQ p l e room_1 s m #[Value.ref b] below meth c (lw_Z below #[Value.ref b] s) h' (some (xI 1)) := by
    intro pc H locs cells slots lr ins st hdg hend hR1 hS hc hs
    refine W.widen (k := 600000) (n := 7302249) hc hs ?_
    refine va_forget hS.2.2 ?_
    rcases hend with ⟨rfl, rfl, q, hret⟩ | ⟨z, ty, rfl, rfl, q, hret, hn⟩ | ⟨z, rfl, rfl, q, hret⟩ | ⟨a, C, rfl, rfl, q, hret⟩
    · cases q
    · cases q
      exact lw_ret hx hb hr hlocks hdg
    · cases q
    · cases q
  have key := xa_sim C xb_ClOK (xb_all 219) hRT n (fun k _ y => xa_met xb_ClOK xb_all xb_pl xb_at0 h3 k y) 0 _ [] [] ex
  rw [lg_entry_eq]
  have h2 := key 0 s.heap [] 0 0 _ (xb_at0 219) (xa_lr_entry (av := [xC 2]) (nL := 4) h3 (by decide)) ⟨rfl, fun k q h => by simp [xa_W] at h⟩ va_S.rf (by show 0 + _ ≤ 600000; omega) (by show 0 + _ ≤ 7302249; omega)
  have e : xa_cv s.heap.size ca v3 (xC 2) = .ref b := by rw [xa_cv_C (by decide) (by decide), hca]
  rw [show [xC 2].map (xa_cv s.heap.size ca v3) = [Value.ref b] by rw [List.map_cons, e]; rfl] at h2
  exact h2
