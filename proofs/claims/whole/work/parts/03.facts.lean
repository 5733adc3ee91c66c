/-! WHAT A METHOD MAY ASK OF THE LAUNCH: the classes and their fields, the tables' words, the constants -/
def xb_F0 : u_T := fun k => match k with
  | 0 => ("InkHours$Copies", "copyEnds", "[I", true)
  | 1 => ("InkHours$Copies", "steps", "[I", true)
  | 2 => ("InkHours$Copies", "leftAsWritten", "[I", true)
  | 3 => ("InkHours$Copies", "leftIfCopied", "[I", true)
  | _ => ("InkHours$Copies", "size", "I", false)
def xb_t0 : Nat → FieldType := fun k => match k with
  | 0 => .array .int
  | 1 => .array .int
  | 2 => .array .int
  | 3 => .array .int
  | _ => .int
def xb_F1 : u_T := fun k => match k with
  | 0 => ("InkHours$Course", "paper", "LInkHours$Paper;", true)
  | 1 => ("InkHours$Course", "lasts", "[I", true)
  | 2 => ("InkHours$Course", "ends", "[I", true)
  | _ => ("InkHours$Course", "sentence", "LInkHours$Sentence;", true)
def xb_t1 : Nat → FieldType := fun k => match k with
  | 0 => .object "InkHours$Paper"
  | 1 => .array .int
  | 2 => .array .int
  | _ => .object "InkHours$Sentence"
def xb_F2 : u_T := fun k => match k with
  | 0 => ("InkHours$Paper", "kinds", "[I", true)
  | 1 => ("InkHours$Paper", "letters", "[I", true)
  | 2 => ("InkHours$Paper", "inks", "[I", true)
  | 3 => ("InkHours$Paper", "ats", "[I", true)
  | 4 => ("InkHours$Paper", "size", "I", false)
  | _ => ("InkHours$Paper", "lit", "Z", false)
def xb_t2 : Nat → FieldType := fun k => match k with
  | 0 => .array .int
  | 1 => .array .int
  | 2 => .array .int
  | 3 => .array .int
  | 4 => .int
  | _ => .boolean
def xb_F3 : u_T := fun k => match k with
  | 0 => ("InkHours$Sentence", "ored", "I", false)
  | 1 => ("InkHours$Sentence", "anded", "I", false)
  | 2 => ("InkHours$Sentence", "turned", "Z", false)
  | 3 => ("InkHours$Sentence", "wantsLetter", "Z", false)
  | _ => ("InkHours$Sentence", "broken", "Z", false)
def xb_t3 : Nat → FieldType := fun k => match k with
  | 0 => .int
  | 1 => .int
  | 2 => .boolean
  | 3 => .boolean
  | _ => .boolean
def xb_F4 : u_T := fun k => match k with
  | 0 => ("InkHours$Sheet", "numbers", "[I", true)
  | 1 => ("InkHours$Sheet", "bits", "I", false)
  | _ => ("InkHours$Sheet", "size", "I", false)
def xb_t4 : Nat → FieldType := fun k => match k with
  | 0 => .array .int
  | 1 => .int
  | _ => .int
def xb_F5 : u_T := fun k => match k with
  | 0 => ("InkHours$Tape", "bytes", "[I", true)
  | 1 => ("InkHours$Tape", "end", "I", false)
  | 2 => ("InkHours$Tape", "size", "I", false)
  | 3 => ("InkHours$Tape", "start", "I", false)
  | 4 => ("InkHours$Tape", "token", "I", false)
  | _ => ("InkHours$Tape", "number", "I", false)
def xb_t5 : Nat → FieldType := fun k => match k with
  | 0 => .array .int
  | 1 => .int
  | 2 => .int
  | 3 => .int
  | 4 => .int
  | _ => .int
def xb_F6 : u_T := fun k => match k with
  | 0 => ("InkHours$Text", "tape", "LInkHours$Tape;", true)
  | 1 => ("InkHours$Text", "world", "LInkHours$World;", true)
  | _ => ("InkHours$Text", "number", "I", false)
def xb_t6 : Nat → FieldType := fun k => match k with
  | 0 => .object "InkHours$Tape"
  | 1 => .object "InkHours$World"
  | _ => .int
def xb_F7 : u_T := fun k => match k with
  | 0 => ("InkHours$World", "lasts", "[I", true)
  | 1 => ("InkHours$World", "prices", "[I", true)
  | 2 => ("InkHours$World", "papers", "[LInkHours$Paper;", true)
  | 3 => ("InkHours$World", "spotPapers", "[I", true)
  | 4 => ("InkHours$World", "spotMarks", "[I", true)
  | 5 => ("InkHours$World", "now", "I", false)
  | _ => ("InkHours$World", "z", "I", false)
def xb_t7 : Nat → FieldType := fun k => match k with
  | 0 => .array .int
  | 1 => .array .int
  | 2 => .array (.object "InkHours$Paper")
  | 3 => .array .int
  | 4 => .array .int
  | 5 => .int
  | _ => .int
def xb_F8 : u_T := fun k => match k with
  | 0 => ("InkHours", "world", "LInkHours$World;", true)
  | 1 => ("InkHours", "kept", "LInkHours$World;", true)
  | 2 => ("InkHours", "before", "LInkHours$World;", true)
  | 3 => ("InkHours", "courses", "[LInkHours$Course;", true)
  | 4 => ("InkHours", "tape", "LInkHours$Tape;", true)
  | 5 => ("InkHours", "reader", "LInkHours$Text;", true)
  | 6 => ("InkHours", "sheets", "[LInkHours$Sheet;", true)
  | 7 => ("InkHours", "findings", "[I", true)
  | 8 => ("InkHours", "forgeries", "[I", true)
  | 9 => ("InkHours", "copies", "LInkHours$Copies;", true)
  | _ => ("InkHours", "isKept", "Z", false)
def xb_t8 : Nat → FieldType := fun k => match k with
  | 0 => .object "InkHours$World"
  | 1 => .object "InkHours$World"
  | 2 => .object "InkHours$World"
  | 3 => .array (.object "InkHours$Course")
  | 4 => .object "InkHours$Tape"
  | 5 => .object "InkHours$Text"
  | 6 => .array (.object "InkHours$Sheet")
  | 7 => .array .int
  | 8 => .array .int
  | 9 => .object "InkHours$Copies"
  | _ => .boolean
def xb_F9 : u_T := fun k => match k with
  | 0 => ("InkHoursModel", "s", "[I", true)
  | 1 => ("InkHoursModel", "keptS", "[I", true)
  | 2 => ("InkHoursModel", "other", "[I", true)
  | 3 => ("InkHoursModel", "statuses", "[I", true)
  | 4 => ("InkHoursModel", "isKept", "Z", false)
  | 5 => ("InkHoursModel", "isWanted", "Z", false)
  | 6 => ("InkHoursModel", "isTurned", "Z", false)
  | 7 => ("InkHoursModel", "isSense", "Z", false)
  | 8 => ("InkHoursModel", "joinedUp", "I", false)
  | 9 => ("InkHoursModel", "ored", "I", false)
  | 10 => ("InkHoursModel", "meanings", "[I", true)
  | 11 => ("InkHoursModel", "tape", "[I", true)
  | 12 => ("InkHoursModel", "taped", "I", false)
  | 13 => ("InkHoursModel", "from", "I", false)
  | 14 => ("InkHoursModel", "to", "I", false)
  | 15 => ("InkHoursModel", "value", "I", false)
  | 16 => ("InkHoursModel", "isWrong", "Z", false)
  | 17 => ("InkHoursModel", "bitsOf", "[I", true)
  | 18 => ("InkHoursModel", "sizeOf", "[I", true)
  | 19 => ("InkHoursModel", "number", "[I", true)
  | _ => ("InkHoursModel", "moved", "[I", true)
def xb_t9 : Nat → FieldType := fun k => match k with
  | 0 => .array .int
  | 1 => .array .int
  | 2 => .array .int
  | 3 => .array .int
  | 4 => .boolean
  | 5 => .boolean
  | 6 => .boolean
  | 7 => .boolean
  | 8 => .int
  | 9 => .int
  | 10 => .array .int
  | 11 => .array .int
  | 12 => .int
  | 13 => .int
  | 14 => .int
  | 15 => .int
  | 16 => .boolean
  | 17 => .array .int
  | 18 => .array .int
  | 19 => .array .int
  | _ => .array .int
def xb_cl : List vw_C := [("InkHours$Copies", xb_F0, 5), ("InkHours$Course", xb_F1, 4), ("InkHours$Paper", xb_F2, 6), ("InkHours$Sentence", xb_F3, 5), ("InkHours$Sheet", xb_F4, 3), ("InkHours$Tape", xb_F5, 6), ("InkHours$Text", xb_F6, 3), ("InkHours$World", xb_F7, 7), ("InkHours", xb_F8, 11), ("InkHoursModel", xb_F9, 21)]
def xa_tb : List Jvm.Cond := lw_tbl.filter goodWord
def xa_isN (w : Jvm.Cond) : Bool := match w with
  | .fieldLinkNest .. => true
  | .methodLinkNest .. => true
  | _ => false
def xa_nw : List Jvm.Cond := lw_tbl.filter xa_isN
def xa_ao : List String := ["InkHours$Course", "InkHours$Paper", "InkHours$Sheet"]
/-- the texts: in which class, where, which one, its number -/
def xa_sr : List (String × (Nat × (String × Nat))) := [("InkHours$Text", 41, "ink", 20), ("InkHours$Text", 50, "paper", 21), ("InkHours$Text", 55, "on", 22), ("InkHours$Text", 64, "lasts", 23), ("InkHours$Text", 71, "price", 24), ("InkHours$Text", 80, "light", 25), ("InkHours$Text", 88, "dark", 26), ("InkHours$Text", 104, "not", 27), ("InkHours$Text", 109, "and", 28), ("InkHours$Text", 111, "or", 29), ("InkHours$Text", 113, "bold", 30), ("InkHours$Text", 115, "faint", 31), ("InkHours$Text", 117, "blot", 32)]
/-- static fields and what they hold -/
def xa_st : List (String × (String × (String × xa_V))) := [("InkHours", "KIND_ABOVE", "[I", xC 4), ("InkHours", "TRUTHS_OF_LETTER", "[I", xC 5), ("InkHours", "MORE_KINDS", "[I", xC 6), ("InkHours", "MORE_LETTERS", "[I", xC 7), ("java/lang/String", "COMPACT_STRINGS", "Z", xI 1), ("jdk/internal/util/Preconditions", "SIOOBE_FORMATTER", "Ljava/util/function/BiFunction;", xC 3)]
/-- what stays as it was, for all methods -/
def xa_F (b0 : Nat) (ca : Nat → Nat) (v3 : Value) (X : List Int) (D : va_G) (cI : ClassId) (cQ : Nat → ClassId) (U : State) (H : Heap) : Prop :=
  va_K D xb_cl [(cI, .int), (cQ 1, .object "InkHours$Course"), (cQ 2, .object "InkHours$Paper"), (cQ 4, .object "InkHours$Sheet")] U ∧
  (∀ w ∈ xa_nw, va_Nw w U) ∧ (∀ C ∈ xa_ao, va_AO C U) ∧ (∀ q ∈ xa_sr, vk_R q.1 q.2.1 q.2.2.1 (ca q.2.2.2) U) ∧
  (∀ q ∈ xa_st, va_Z q.1 q.2.1 q.2.2.1 (xa_cv b0 ca v3 q.2.2.2) (fun a : Nat => b0 ≤ a) U H) ∧
  (∀ (c : Nat) (xs : List Int), xa_ca X c = some xs → va_T .int (ca c) xs.length (fun j => .int (Int32.ofInt (xs.getD j 0))) (fun a : Nat => b0 ≤ a) U H) ∧
  (∀ (c : Nat) (xs : List Int), xa_cb c = some xs → va_T .byte (ca c) xs.length (fun j => .int (Int32.ofInt (xs.getD j 0))) (fun a : Nat => b0 ≤ a) U H) ∧
  (∀ c : Nat, 20 ≤ c → c < 33 → va_O "java/lang/String" (ca c) (fun a : Nat => b0 ≤ a) U H ∧ va_OF "java/lang/String" "coder" "B" (.int 0) (ca c) (fun a : Nat => b0 ≤ a) U H ∧ va_OF "java/lang/String" "value" "[B" (.ref (ca (c + 20))) (ca c) (fun a : Nat => b0 ≤ a) U H)
theorem xa_Nw_warm {w : Jvm.Cond} (hw : xa_isN w = true) {s U : State} (hW : s.WarmedH U.vm) (h : va_Nw w s) : va_Nw w U := by
  cases w <;> first | exact va_Nw.warmF hW h | exact va_Nw.warmM hW h | (simp [xa_isN] at hw)
theorem xa_Nw_same {w : Jvm.Cond} (hw : xa_isN w = true) {s U : State} (hW : s.vm = U.vm) (h : va_Nw w s) : va_Nw w U := by
  cases w <;> first | exact va_Nw.same rfl hW h | (simp [xa_isN] at hw)
section XF
variable {b0 : Nat} {ca : Nat → Nat} {v3 : Value} {X : List Int} {D : va_G} {cI : ClassId} {cQ : Nat → ClassId}
theorem xa_F_warm {s U : State} {H H1 : Heap} (hW : s.WarmedH U.vm) (hq : ∀ a : Nat, a < H.size → ¬ b0 ≤ a → H1[a]? = H[a]?) (h : xa_F b0 ca v3 X D cI cQ s H) : xa_F b0 ca v3 X D cI cQ U H1 := by
  obtain ⟨h1, h2, h3, h4, h5, h6, h7, h8⟩ := h
  have hvm := hW.alike
  refine ⟨va_K.moved hvm h1, fun w hw => xa_Nw_warm (List.mem_filter.mp hw).2 hW (h2 w hw), fun C hC => va_AO.moved hvm (h3 C hC), fun q hq => vk_R.warm hW (h4 q hq), fun q hz => (va_Z.moved hvm (h5 q hz)).kept hq, fun c xs e => (va_T.moved hvm (h6 c xs e)).kept hq, fun c xs e => (va_T.moved hvm (h7 c xs e)).kept hq, fun c a b => ?_⟩
  obtain ⟨g1, g2, g3⟩ := h8 c a b
  exact ⟨(va_O.moved hvm g1).kept hq, (va_OF.moved hvm g2).kept hq, (va_OF.moved hvm g3).kept hq⟩
theorem xa_F_same {s U : State} {H : Heap} (hW : s.vm = U.vm) (h : xa_F b0 ca v3 X D cI cQ s H) : xa_F b0 ca v3 X D cI cQ U H := by
  obtain ⟨h1, h2, h3, h4, h5, h6, h7, h8⟩ := h
  have hvm : s.vm.Alike U.vm := by rw [hW]; exact Vm.Alike.refl _
  refine ⟨va_K.moved hvm h1, fun w hw => xa_Nw_same (List.mem_filter.mp hw).2 hW (h2 w hw), fun C hC => va_AO.moved hvm (h3 C hC), fun q hq => vk_R.same hW.symm (h4 q hq), fun q hz => va_Z.moved hvm (h5 q hz), fun c xs e => va_T.moved hvm (h6 c xs e), fun c xs e => va_T.moved hvm (h7 c xs e), fun c a b => ?_⟩
  obtain ⟨g1, g2, g3⟩ := h8 c a b
  exact ⟨va_O.moved hvm g1, va_OF.moved hvm g2, va_OF.moved hvm g3⟩
end XF
/-- of a method: its class, name, code, answer, and the frames and words below it -/
abbrev xa_M : Type := Nat → String × (MethodName × (ByteArray × (Option FieldType × (Nat × Nat))))
def xa_rm (G : xa_G) (S : xa_M) (mi : Nat) : Jvm.Room := { frames := (S mi).2.2.2.2.1, cells := (G.2 mi).2.1, slots := (G.2 mi).2.2, locals := (S mi).2.2.2.2.2 }
def xa_code (G : xa_G) (S : xa_M) (mi : Nat) : Jvm.Cond := .code (S mi).2.1 (S mi).2.2.1 (G.2 mi).1 (S mi).2.2.2.1
def xa_ws (G : xa_G) (S : xa_M) (mi : Nat) : List Jvm.Cond := xa_code G S mi :: xa_tb
def xa_in (p : Nat) (w : Jvm.Cond) : Bool := (match lw_tbl[p]? with
  | some w' => decide (w' = w)
  | none => false) && goodWord w
def xa_inN (p : Nat) (w : Jvm.Cond) : Bool := (match lw_tbl[p]? with
  | some w' => decide (w' = w)
  | none => false) && xa_isN w
theorem xa_in_tb {p : Nat} {w : Jvm.Cond} (h : xa_in p w = true) : w ∈ xa_tb := by
  unfold xa_in at h
  rw [Bool.and_eq_true] at h
  obtain ⟨h1, h2⟩ := h
  refine List.mem_filter.mpr ⟨?_, h2⟩
  cases e : lw_tbl[p]? with
  | none => rw [e] at h1; simp at h1
  | some w' =>
    rw [e] at h1
    simp at h1
    rw [← h1]
    exact List.mem_of_getElem? e
theorem xa_in_nw {p : Nat} {w : Jvm.Cond} (h : xa_inN p w = true) : w ∈ xa_nw := by
  unfold xa_inN at h
  rw [Bool.and_eq_true] at h
  obtain ⟨h1, h2⟩ := h
  refine List.mem_filter.mpr ⟨?_, h2⟩
  cases e : lw_tbl[p]? with
  | none => rw [e] at h1; simp at h1
  | some w' =>
    rw [e] at h1
    simp at h1
    rw [← h1]
    exact List.mem_of_getElem? e
/-- place i of a method stands at the byte b -/
def xa_at (G : xa_G) (mi i b : Nat) : Bool := match (G.1 mi)[i]? with
  | none => true
  | some e => e.1 == b
def xa_jmp (G : xa_G) (mi : Nat) (pc : Nat) (t off : Int) : Bool := match (G.1 mi)[t.toNat]? with
  | none => false
  | some e => decide ((pc : Int) + off = (e.1 : Int))
def xa_len (i : Jvm.ClassFile.Instr) : Nat := match i with
  | .aload_n _ | .iload_n _ | .lload_n _ | .astore_n _ | .istore_n _ | .lstore_n _ | .iconst _ | .lconst _ | .iadd | .isub | .imul | .iand | .ior | .ixor | .ishl | .ishr | .iushr | .idiv | .irem | .ladd | .lmul | .i2b | .i2s | .i2c | .i2l | .l2i | .lcmp | .dup | .dup2 | .pop | .iaload | .baload | .iastore | .aaload | .aastore | .arraylength | .ireturn | .lreturn | .areturn | .return_ | .athrow => 1
  | .aload _ | .iload _ | .lload _ | .astore _ | .istore _ | .lstore _ | .bipush _ | .ldc _ | .newarray _ => 2
  | .sipush _ | .ldc_w _ | .ldc2_w _ | .iinc _ _ | .getfield _ | .putfield _ | .getstatic _ | .new _ | .anewarray _ | .invokestatic _ | .invokevirtual _ | .invokespecial _ | .if_icmp _ _ | .ifCond _ _ | .goto _ => 3
  | _ => 0
def xa_through (i : Jvm.ClassFile.Instr) : Bool := match i with
  | .goto _ | .tableswitch .. | .ireturn | .lreturn | .areturn | .return_ | .athrow => false
  | _ => true
def xa_refD (d : String) : Bool := match parseFieldDescriptor d with
  | some (.object _) => true
  | some (.array _) => true
  | _ => false
/-- a call of method y of n arguments, out of method mi: room, code, number of arguments -/
def xa_callOK (G : xa_G) (S : xa_M) (mi y n q t : Nat) : Bool :=
  xa_in q (.initialized (S y).2.1.cls) && (xa_in t (xa_code G S y) && (decide ((S y).2.1.cls ≠ "java/lang/invoke/MethodHandle" ∧ (S y).2.1.cls ≠ "java/lang/invoke/VarHandle") && (decide ((parseMethodDescriptor (S y).2.1.desc).map (fun d => d.parameters.length) = some n) && (decide ((S y).2.2.2.2.1 + 1 ≤ (S mi).2.2.2.2.1) && decide (8 + ((G.2 y).1 + 11) + (S y).2.2.2.2.2 ≤ (S mi).2.2.2.2.2)))))
def xa_stx (v : xa_V) : List Int := match v with
  | .inl z => [1, z]
  | .inr (.inr (.inr c)) => [0, (c : Int)]
  | _ => []
def xa_extra (G : xa_G) (S : xa_M) (mi : Nat) (en : xa_E) (pl : List Nat) : Bool := match en.2.1, en.2.2.2, pl with
  | .ldc k, [0, z], [p] => xa_in p (.constant (S mi).1 k (Int32.ofInt z))
  | .ldc k, [1, c], [j] => (match xa_sr[j]? with
    | some q => decide (q.1 = (S mi).1 ∧ q.2.1 = k ∧ (q.2.2.2 : Int) = c)
    | none => false)
  | .ldc_w k, [0, z], [p] => xa_in p (.constant (S mi).1 k (Int32.ofInt z))
  | .ldc2_w k, [z], [p] => xa_in p (.constantLong (S mi).1 k (Int64.ofInt z))
  | .goto off, [t], [] => xa_jmp G mi en.1 t off
  | .if_icmp _ off, [t], [] => xa_jmp G mi en.1 t off
  | .ifCond _ off, [t], [] => xa_jmp G mi en.1 t off
  | .tableswitch d _ _ offs, dt :: ts, [] => xa_jmp G mi en.1 dt d && (List.range ts.length).all (fun j => match ts[j]?, offs[j]? with
    | some t, some o => xa_jmp G mi en.1 t o
    | _, _ => false)
  | .getfield k, [0, ci, f], [p] => (match xb_cl[ci.toNat]? with
    | some q => decide (f.toNat < q.2.2) && (decide ((q.2.1 f.toNat).1 = q.1) && xa_in p (.fieldLink (S mi).1 k q.1 (q.2.1 f.toNat).2.1 (q.2.1 f.toNat).2.2.1))
    | none => false)
  | .getfield k, [1, f], [p] => (decide (f = 0) && xa_in p (.fieldLink (S mi).1 k "java/lang/String" "coder" "B")) || (decide (f = 1) && xa_in p (.fieldLink (S mi).1 k "java/lang/String" "value" "[B"))
  | .putfield k, [k0, ci, f, t], [p] => (match xb_cl[ci.toNat]? with
    | some q => decide (f.toNat < q.2.2) && (decide ((q.2.1 f.toNat).1 = q.1) && (xa_in p (.fieldLink (S mi).1 k q.1 (q.2.1 f.toNat).2.1 (q.2.1 f.toNat).2.2.1) && (((decide (k0 = 0) && !(q.2.1 f.toNat).2.2.2) || (decide (k0 = 1) && ((q.2.1 f.toNat).2.2.2 && decide ((S mi).2.1.name = "<init>" ∧ q.1 = (S mi).1)))) && ((decide (t = 0) && decide ((q.2.1 f.toNat).2.2.1 = "I")) || ((decide (t = 1) && decide ((q.2.1 f.toNat).2.2.1 = "Z")) || (decide (t = 2) && xa_refD (q.2.1 f.toNat).2.2.1))))))
    | none => false)
  | .getstatic k, x, [p, j] => (match xa_st[j]? with
    | some q => decide (x = xa_stx q.2.2.2) && xa_in p (.fieldLink (S mi).1 k q.1 q.2.1 q.2.2.1)
    | none => false)
  | .getstatic k, x, [p, j, _] => (match xa_st[j]? with
    | some q => decide (x = xa_stx q.2.2.2) && xa_inN p (.fieldLinkNest (S mi).1 k q.1 q.2.1 q.2.2.1 "InkHours")
    | none => false)
  | .new k, [ci], [p, q, r] => (match xb_cl[ci.toNat]? with
    | some c => xa_in p (.classLink (S mi).1 k c.1) && (xa_in q (.instantiable c.1 c.2.2) && xa_in r (.initialized c.1))
    | none => false)
  | .newarray ty, _, [p] => decide (ty = .int) && xa_in p (.arrayClass .int)
  | .anewarray k, [ci], [p] => (match xb_cl[ci.toNat]? with
    | some c => decide (ci = 1 ∨ ci = 2 ∨ ci = 4) && (decide (c.1 ∈ xa_ao) && xa_in p (.classLink (S mi).1 k c.1))
    | none => false)
  | .invokespecial k, [6], [p, q, r] => xa_in p (.methodLink (S mi).1 k Lib.objectInit) && (xa_in q (.instanceMethod Lib.objectInit) && (xa_in r (.code Lib.objectInit ⟨#[0xb1]⟩ 1 none) && (decide (1 ≤ (S mi).2.2.2.2.1) && decide (20 ≤ (S mi).2.2.2.2.2))))
  | .invokestatic k, [7], [p, q, r, t] => xa_in p (.methodLink (S mi).1 k Lib.Math.max.name) && (xa_in q (.static Lib.Math.max.name) && (xa_in r (.initialized "java/lang/Math") && (xa_in t (.code Lib.Math.max.name Lib.Math.max.code 2 (some .int)) && (decide (1 ≤ (S mi).2.2.2.2.1) && decide (21 ≤ (S mi).2.2.2.2.2)))))
  | .invokestatic k, [8], [p, q, r, t] => xa_in p (.methodLink (S mi).1 k Lib.Math.min.name) && (xa_in q (.static Lib.Math.min.name) && (xa_in r (.initialized "java/lang/Math") && (xa_in t (.code Lib.Math.min.name Lib.Math.min.code 2 (some .int)) && (decide (1 ≤ (S mi).2.2.2.2.1) && decide (21 ≤ (S mi).2.2.2.2.2)))))
  | .invokestatic k, [9], [p, q, r, t] => xa_in p (.methodLink (S mi).1 k arraycopyName) && (xa_in q (.native arraycopyName) && (xa_in r (.static arraycopyName) && (xa_in t (.initialized "java/lang/System") && (decide (1 ≤ (S mi).2.2.2.2.1) && decide (8 + (nativeFrameWords "java/lang/System" "arraycopy" 5 + 11) ≤ (S mi).2.2.2.2.2)))))
  | .invokestatic k, [0, y, n], [p, r, q, t] => xa_in p (.methodLink (S mi).1 k (S y.toNat).2.1) && (xa_in r (.static (S y.toNat).2.1) && xa_callOK G S mi y.toNat n.toNat q t)
  | .invokestatic k, [3, y, n], [p, r, q, t] => xa_inN p (.methodLinkNest (S mi).1 k (S y.toNat).2.1 "InkHours") && (xa_in r (.static (S y.toNat).2.1) && xa_callOK G S mi y.toNat n.toNat q t)
  | .invokevirtual k, [1, y, n, ci], [p, r, u, q, t] => (match xb_cl[ci.toNat]? with
    | some c => decide ((S y.toNat).2.1.cls = c.1) && (xa_in p (.methodLink (S mi).1 k (S y.toNat).2.1) && (xa_in r (.instanceMethod (S y.toNat).2.1) && (xa_in u (.selects c.1 (S y.toNat).2.1 (S y.toNat).2.1) && xa_callOK G S mi y.toNat n.toNat q t)))
    | none => false)
  | .invokevirtual k, [10, y, n, _], [p, r, u, q, t] => decide ((S y.toNat).2.1.cls = "java/lang/String") && (xa_in p (.methodLink (S mi).1 k (S y.toNat).2.1) && (xa_in r (.instanceMethod (S y.toNat).2.1) && (xa_in u (.selects "java/lang/String" (S y.toNat).2.1 (S y.toNat).2.1) && xa_callOK G S mi y.toNat n.toNat q t)))
  | .invokespecial k, [2, y, n, _], [p, r, q, t] => decide ((S y.toNat).2.1.name = "<init>" ∧ (S y.toNat).2.2.2.1 = none) && (xa_in p (.methodLink (S mi).1 k (S y.toNat).2.1) && (xa_in r (.instanceMethod (S y.toNat).2.1) && xa_callOK G S mi y.toNat n.toNat q t))
  | .invokespecial k, [5, y, n, _], [p, r, q, t] => decide ((S y.toNat).2.1.name = "<init>" ∧ (S y.toNat).2.2.2.1 = none) && (xa_inN p (.methodLinkNest (S mi).1 k (S y.toNat).2.1 "InkHours") && (xa_in r (.instanceMethod (S y.toNat).2.1) && xa_callOK G S mi y.toNat n.toNat q t))
  | .ireturn, [t], [] => (decide (t = 0) && decide ((S mi).2.2.2.1 = some .int)) || ((decide (t = 1) && decide ((S mi).2.2.2.1 = some .boolean)) || ((decide (t = 3) && decide ((S mi).2.2.2.1 = some .byte)) || (decide (t = 4) && decide ((S mi).2.2.2.1 = some .char))))
  | .lreturn, [], [] => decide ((S mi).2.2.2.1 = some .long)
  | .areturn, [], [] => (match (S mi).2.2.2.1 with
    | some (.object _) => true
    | _ => false)
  | .return_, [], [] => decide ((S mi).2.2.2.1 = none)
  | .invokespecial _, [], _ => true
  | .invokestatic _, [], _ => true
  | .invokevirtual _, [], _ => true
  | .ldc _, _, _ => false
  | .ldc_w _, _, _ => false
  | .ldc2_w _, _, _ => false
  | .goto _, _, _ => false
  | .if_icmp _ _, _, _ => false
  | .ifCond _ _, _, _ => false
  | .tableswitch _ _ _ _, _, _ => false
  | .getfield _, _, _ => false
  | .putfield _, _, _ => false
  | .getstatic _, _, _ => false
  | .new _, _, _ => false
  | .newarray _, _, _ => false
  | .anewarray _, _, _ => false
  | .invokespecial _, _, _ => false
  | .invokestatic _, _, _ => false
  | .invokevirtual _, _, _ => false
  | .ireturn, _, _ => false
  | .lreturn, _, _ => false
  | .areturn, _, _ => false
  | .return_, _, _ => false
  | _, _, _ => true
def xa_dec (b : ByteArray) (en : xa_E) : Bool := match decode b en.1 with
  | .ok q => decide (q = (en.2.1, en.2.2.1))
  | .error _ => false
def xa_lenOK (en : xa_E) : Bool := match en.2.1 with
  | .tableswitch .. => true
  | i => en.2.2.1 == xa_len i
def xa_ok (G : xa_G) (S : xa_M) (mi i : Nat) (en : xa_E) (pl : List Nat) : Bool :=
  xa_dec (S mi).2.2.1 en && (xa_lenOK en && ((!xa_through en.2.1 || xa_at G mi (i + 1) (en.1 + en.2.2.1)) && xa_extra G S mi en pl))
/-- all of a method's instructions -/
def xa_allOK (G : xa_G) (S : xa_M) (mi : Nat) : Prop := ∀ (i : Nat) (en : xa_E), (G.1 mi)[i]? = some en → ∃ pl, xa_ok G S mi i en pl = true
theorem xa_dec_of {b : ByteArray} {en : xa_E} (h : xa_dec b en = true) : decode b en.1 = .ok (en.2.1, en.2.2.1) := by
  unfold xa_dec at h
  split at h
  · next q e => rw [e, of_decide_eq_true h]
  · simp at h
/-- the classes, as methods need them -/
def xa_ClOK : Prop := ∀ (ci : Nat) (q : vw_C), xb_cl[ci]? = some q → (∀ w ∈ u_ws q.1 q.2.1 q.2.2, w ∈ xa_tb) ∧ (∀ a, a < q.2.2 → ∀ b, b < q.2.2 → a ≠ b → (q.2.1 a).2.1 ≠ (q.2.1 b).2.1) ∧ (xa_nf ci).length = q.2.2 ∧
  ∃ ty : Nat → FieldType, (∀ k, k < q.2.2 → parseFieldDescriptor (q.2.1 k).2.2.1 = some (ty k)) ∧ ∀ (b0 : Nat) (ca : Nat → Nat) (v3 : Value) (j : Nat), j < q.2.2 → defaultValue (ty j) = vp_V ((xa_nf ci).map (xa_cv b0 ca v3)) j
