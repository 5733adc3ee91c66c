/-! THE MACHINE IN SMALL: the bytecode of the claim's methods, run over whole numbers and numbered cells.
A value: an int (as a whole number, meant modulo 2^32), a long, a cell of ours by its number, a constant by its number (0 null, 1 nothing). -/
abbrev xa_V : Type := Int ⊕ (Int ⊕ (Nat ⊕ Nat))
abbrev xI (z : Int) : xa_V := Sum.inl z
abbrev xL (z : Int) : xa_V := Sum.inr (Sum.inl z)
abbrev xR (k : Nat) : xa_V := Sum.inr (Sum.inr (Sum.inl k))
abbrev xC (c : Nat) : xa_V := Sum.inr (Sum.inr (Sum.inr c))
/-- a cell: 0 an object of class c, 1 an array of ints, 2 an array of references to class c; what it holds -/
abbrev xa_K : Type := Nat × (Nat × List xa_V)
abbrev xa_H : Type := List xa_K
/-- an instruction: its byte, itself, its length, what its numbers mean -/
abbrev xa_E : Type := Nat × (Jvm.ClassFile.Instr × (Nat × List Int))
/-- the methods' code, and of each: places of locals, cells and slots that it makes -/
abbrev xa_G : Type := (Nat → List xa_E) × (Nat → Nat × (Nat × Nat))
def xa_cat (v : xa_V) : Nat := match v with
  | .inr (.inl _) => 2
  | _ => 1
def xa_cats (st : List xa_V) : Nat := (st.map xa_cat).sum
def xa_sl (h : xa_H) : Nat := (h.map (fun c => c.2.2.length)).sum
abbrev xa_rI (z : Int) : Prop := -2147483648 ≤ z ∧ z < 2147483648
abbrev xa_rL (z : Int) : Prop := -9223372036854775808 ≤ z ∧ z < 9223372036854775808
def xa_and (a b : Int) : Int := (Int32.ofInt a &&& Int32.ofInt b).toInt
def xa_or (a b : Int) : Int := (Int32.ofInt a ||| Int32.ofInt b).toInt
def xa_xor (a b : Int) : Int := (Int32.ofInt a ^^^ Int32.ofInt b).toInt
def xa_shl (a b : Int) : Int := (Int32.ofInt a <<< (Int32.ofInt b &&& 31)).toInt
def xa_shr (a b : Int) : Int := (Int32.ofInt a >>> (Int32.ofInt b &&& 31)).toInt
def xa_ushr (a b : Int) : Int := ((Int32.ofInt a).toUInt32 >>> ((Int32.ofInt b).toUInt32 &&& Int32.toUInt32 31)).toInt32.toInt
def xa_i2b (a : Int) : Int := (Int32.ofInt a).toInt8.toInt32.toInt
def xa_i2s (a : Int) : Int := (Int32.ofInt a).toInt16.toInt32.toInt
/-- constants that are rows of numbers: 2 the script, others by their list -/
def xa_ca (X : List Int) (c : Nat) : Option (List Int) := match c with
  | 2 => some X
  | 4 => some [-1, 0, 0, 0, 1, 3, 1]
  | 5 => some [43690, 52428, 61680, 65280]
  | 6 => some [1, 1, 1, 1, 2, 3, 5]
  | 7 => some [0, 1, 2, 3, 0, 0, 0]
  | _ => none
/-- the bytes of the texts, by their numbers (a text 20 + i, its row of bytes 40 + i) -/
def xa_tx : List (List Int) := [[105, 110, 107], [112, 97, 112, 101, 114], [111, 110], [108, 97, 115, 116, 115], [112, 114, 105, 99, 101], [108, 105, 103, 104, 116], [100, 97, 114, 107], [110, 111, 116], [97, 110, 100], [111, 114], [98, 111, 108, 100], [102, 97, 105, 110, 116], [98, 108, 111, 116]]
def xa_cb (c : Nat) : Option (List Int) := if c < 40 then none else xa_tx[c - 40]?
/-- a store of one slot: a long that reaches into it is gone -/
def xa_set (ls : List xa_V) (i : Nat) (v : xa_V) : List xa_V := match i with
  | 0 => ls.set 0 v
  | j + 1 => match ls[j]? with
    | some (.inr (.inl _)) => (ls.set j (xC 1)).set (j + 1) v
    | _ => ls.set (j + 1) v
/-- what comes of one instruction: the next place, an end, or a call -/
abbrev xa_O : Type := (Nat × (List xa_V × (List xa_V × xa_H))) ⊕ ((Option xa_V × xa_H) ⊕ (Nat × (List xa_V × (Nat × (List xa_V × List xa_V)))))
abbrev xa_nx (i : Nat) (ls st : List xa_V) (h : xa_H) : Option xa_O := some (.inl (i, ls, st, h))
def xa_aload (i : Nat) (ls st : List xa_V) (h : xa_H) (k : Nat) : Option xa_O := match ls[k]? with
  | some (.inr (.inr (.inl a))) => xa_nx (i + 1) ls (xR a :: st) h
  | some (.inr (.inr (.inr c))) => if c = 2 ∨ 4 ≤ c then xa_nx (i + 1) ls (xC c :: st) h else none
  | _ => none
def xa_iload (i : Nat) (ls st : List xa_V) (h : xa_H) (k : Nat) : Option xa_O := match ls[k]? with
  | some (.inl z) => xa_nx (i + 1) ls (xI z :: st) h
  | _ => none
def xa_lload (i : Nat) (ls st : List xa_V) (h : xa_H) (k : Nat) : Option xa_O := match ls[k]? with
  | some (.inr (.inl z)) => xa_nx (i + 1) ls (xL z :: st) h
  | _ => none
def xa_astore (i : Nat) (ls st : List xa_V) (h : xa_H) (k : Nat) : Option xa_O := match st with
  | .inr (.inr (.inl a)) :: st => if k < ls.length then xa_nx (i + 1) (xa_set ls k (xR a)) st h else none
  | _ => none
def xa_istore (i : Nat) (ls st : List xa_V) (h : xa_H) (k : Nat) : Option xa_O := match st with
  | .inl z :: st => if k < ls.length then xa_nx (i + 1) (xa_set ls k (xI z)) st h else none
  | _ => none
def xa_lstore (i : Nat) (ls st : List xa_V) (h : xa_H) (k : Nat) : Option xa_O := match st with
  | .inr (.inl z) :: st => if k + 1 < ls.length then xa_nx (i + 1) ((xa_set ls k (xL z)).set (k + 1) (xC 1)) st h else none
  | _ => none
def xa_two (f : Int → Int → Int) (i : Nat) (ls st : List xa_V) (h : xa_H) : Option xa_O := match st with
  | .inl b :: .inl a :: st => xa_nx (i + 1) ls (xI (f a b) :: st) h
  | _ => none
def xa_div (f : Int → Int → Int) (i : Nat) (ls st : List xa_V) (h : xa_H) : Option xa_O := match st with
  | .inl b :: .inl a :: st => if xa_rI a ∧ xa_rI b ∧ b ≠ 0 then xa_nx (i + 1) ls (xI (f a b) :: st) h else none
  | _ => none
def xa_two64 (f : Int → Int → Int) (i : Nat) (ls st : List xa_V) (h : xa_H) : Option xa_O := match st with
  | .inr (.inl b) :: .inr (.inl a) :: st => xa_nx (i + 1) ls (xL (f a b) :: st) h
  | _ => none
def xa_one (f : Int → Int) (i : Nat) (ls st : List xa_V) (h : xa_H) : Option xa_O := match st with
  | .inl a :: st => xa_nx (i + 1) ls (xI (f a) :: st) h
  | _ => none
def xa_cmp (c : Jvm.ClassFile.Cond) (a b : Int) : Bool := match c with
  | .eq => decide (a = b)
  | .ne => decide (a ≠ b)
  | .lt => decide (a < b)
  | .ge => decide (b ≤ a)
  | .gt => decide (b < a)
  | .le => decide (a ≤ b)
/-- what an int is, of the whole numbers that mean it -/
def xa_w (z : Int) : Int := (Int32.ofInt z).toInt
def xa_wl (z : Int) : Int := (Int64.ofInt z).toInt
def xa_cmpw (c : Jvm.ClassFile.Cond) (a b : Int) : Bool := if xa_rI a ∧ xa_rI b then xa_cmp c a b else xa_cmp c (xa_w a) (xa_w b)
def xa_if2 (c : Jvm.ClassFile.Cond) (x : List Int) (i : Nat) (ls st : List xa_V) (h : xa_H) : Option xa_O := match st, x with
  | .inl b :: .inl a :: st, [t] => if xa_cmpw c a b = true then xa_nx t.toNat ls st h else xa_nx (i + 1) ls st h
  | _, _ => none
def xa_if1 (c : Jvm.ClassFile.Cond) (x : List Int) (i : Nat) (ls st : List xa_V) (h : xa_H) : Option xa_O := match st, x with
  | .inl a :: st, [t] => if xa_cmpw c a 0 = true then xa_nx t.toNat ls st h else xa_nx (i + 1) ls st h
  | _, _ => none
/-- a value fits a field or an answer: 0 an int, 1 a truth value, 2 a reference, 3 a byte, 4 a char, 5 a long -/
def xa_fit (t : Int) (v : xa_V) : Bool := match v with
  | .inl z => t == 0 || (t == 1 && (z == 0 || z == 1)) || (t == 3 && decide (-128 ≤ z ∧ z ≤ 127)) || (t == 4 && decide (0 ≤ z ∧ z ≤ 65535))
  | .inr (.inl _) => t == 5
  | .inr (.inr (.inl _)) => t == 2
  | _ => false
def xa_getf (x : List Int) (i : Nat) (ls st : List xa_V) (h : xa_H) : Option xa_O := match x, st with
  | [0, ci, k], .inr (.inr (.inl a)) :: st => match h[a]? with
    | some (0, c, fs) => if c = ci.toNat then (match fs[k.toNat]? with
      | some v => xa_nx (i + 1) ls (v :: st) h
      | none => none) else none
    | _ => none
  | [1, f], .inr (.inr (.inr c)) :: st => if 20 ≤ c ∧ c < 33 then (if f = 0 then xa_nx (i + 1) ls (xI 0 :: st) h else if f = 1 then xa_nx (i + 1) ls (xC (c + 20) :: st) h else none) else none
  | _, _ => none
def xa_putf (x : List Int) (i : Nat) (ls st : List xa_V) (h : xa_H) : Option xa_O := match x, st with
  | [_, ci, k, t], v :: .inr (.inr (.inl a)) :: st => match h[a]? with
    | some (0, c, fs) => if c = ci.toNat ∧ k.toNat < fs.length ∧ xa_fit t v = true then xa_nx (i + 1) ls st (h.set a (0, c, fs.set k.toNat v)) else none
    | _ => none
  | _, _ => none
def xa_gets (x : List Int) (i : Nat) (ls st : List xa_V) (h : xa_H) : Option xa_O := match x with
  | [0, c] => xa_nx (i + 1) ls (xC c.toNat :: st) h
  | [1, z] => xa_nx (i + 1) ls (xI z :: st) h
  | _ => none
def xa_iald (X : List Int) (i : Nat) (ls st : List xa_V) (h : xa_H) : Option xa_O := match st with
  | .inl j :: .inr (.inr (.inl a)) :: st => match h[a]? with
    | some (1, _, xs) => if 0 ≤ j ∧ j < (xs.length : Int) ∧ j < 2147483648 then (match xs[j.toNat]? with
      | some (.inl z) => xa_nx (i + 1) ls (xI z :: st) h
      | _ => none) else none
    | _ => none
  | .inl j :: .inr (.inr (.inr c)) :: st => match xa_ca X c with
    | some xs => if 0 ≤ j ∧ j < (xs.length : Int) ∧ j < 2147483648 then (match xs[j.toNat]? with
      | some z => xa_nx (i + 1) ls (xI z :: st) h
      | none => none) else none
    | none => none
  | _ => none
def xa_bald (i : Nat) (ls st : List xa_V) (h : xa_H) : Option xa_O := match st with
  | .inl j :: .inr (.inr (.inr c)) :: st => match xa_cb c with
    | some xs => if 0 ≤ j ∧ j < (xs.length : Int) ∧ j < 2147483648 then (match xs[j.toNat]? with
      | some z => xa_nx (i + 1) ls (xI z :: st) h
      | none => none) else none
    | none => none
  | _ => none
def xa_iast (i : Nat) (ls st : List xa_V) (h : xa_H) : Option xa_O := match st with
  | .inl z :: .inl j :: .inr (.inr (.inl a)) :: st => match h[a]? with
    | some (1, c, xs) => if 0 ≤ j ∧ j < (xs.length : Int) ∧ j < 2147483648 then xa_nx (i + 1) ls st (h.set a (1, c, xs.set j.toNat (xI z))) else none
    | _ => none
  | _ => none
def xa_aald (i : Nat) (ls st : List xa_V) (h : xa_H) : Option xa_O := match st with
  | .inl j :: .inr (.inr (.inl a)) :: st => match h[a]? with
    | some (2, ci, xs) => if (ci = 1 ∨ ci = 2 ∨ ci = 4) ∧ 0 ≤ j ∧ j < (xs.length : Int) ∧ j < 2147483648 then (match xs[j.toNat]? with
      | some (.inr (.inr (.inl b))) => xa_nx (i + 1) ls (xR b :: st) h
      | _ => none) else none
    | _ => none
  | _ => none
def xa_aast (i : Nat) (ls st : List xa_V) (h : xa_H) : Option xa_O := match st with
  | .inr (.inr (.inl b)) :: .inl j :: .inr (.inr (.inl a)) :: st => match h[a]?, h[b]? with
    | some (2, c, xs), some (0, c', _) => if c' = c ∧ (c = 1 ∨ c = 2 ∨ c = 4) ∧ a ≠ b ∧ 0 ≤ j ∧ j < (xs.length : Int) ∧ j < 2147483648 then xa_nx (i + 1) ls st (h.set a (2, c, xs.set j.toNat (xR b))) else none
    | _, _ => none
  | _ => none
def xa_alen (X : List Int) (i : Nat) (ls st : List xa_V) (h : xa_H) : Option xa_O := match st with
  | .inr (.inr (.inl a)) :: st => match h[a]? with
    | some (1, _, xs) => if xs.length < 2147483648 then xa_nx (i + 1) ls (xI xs.length :: st) h else none
    | _ => none
  | .inr (.inr (.inr c)) :: st => match xa_ca X c with
    | some xs => xa_nx (i + 1) ls (xI xs.length :: st) h
    | none => match xa_cb c with
      | some xs => xa_nx (i + 1) ls (xI xs.length :: st) h
      | none => none
  | _ => none
/-- the fields of a new object, by its class -/
def xa_new (f : Nat → List xa_V) (x : List Int) (i : Nat) (ls st : List xa_V) (h : xa_H) : Option xa_O := match x with
  | [ci] => xa_nx (i + 1) ls (xR h.length :: st) (h ++ [(0, ci.toNat, f ci.toNat)])
  | _ => none
def xa_newi (i : Nat) (ls st : List xa_V) (h : xa_H) : Option xa_O := match st with
  | .inl n :: st => if 0 ≤ n ∧ n < 100000 then xa_nx (i + 1) ls (xR h.length :: st) (h ++ [(1, 0, List.replicate n.toNat (xI 0))]) else none
  | _ => none
def xa_newq (x : List Int) (i : Nat) (ls st : List xa_V) (h : xa_H) : Option xa_O := match x, st with
  | [ci], .inl n :: st => if 0 ≤ n ∧ n < 100000 then xa_nx (i + 1) ls (xR h.length :: st) (h ++ [(2, ci.toNat, List.replicate n.toNat (xC 0))]) else none
  | _, _ => none
def xa_ldc (x : List Int) (i : Nat) (ls st : List xa_V) (h : xa_H) : Option xa_O := match x with
  | [0, z] => xa_nx (i + 1) ls (xI z :: st) h
  | [1, c] => xa_nx (i + 1) ls (xC c.toNat :: st) h
  | _ => none
def xa_sw (lo hi : Int) (x : List Int) (ls st : List xa_V) (h : xa_H) : Option xa_O := match x, st with
  | d :: ts, .inl z :: st => if xa_rI z then (if z < lo ∨ hi < z then xa_nx d.toNat ls st h else (match ts[(z - lo).toNat]? with
    | some t => xa_nx t.toNat ls st h
    | none => none)) else none
  | _, _ => none
def xa_lcmp (i : Nat) (ls st : List xa_V) (h : xa_H) : Option xa_O := match st with
  | .inr (.inl b) :: .inr (.inl a) :: st => xa_nx (i + 1) ls (xI (if xa_wl a < xa_wl b then -1 else if xa_wl a = xa_wl b then 0 else 1) :: st) h
  | _ => none
def xa_cpy (xs ys : List xa_V) (s d n : Nat) : List xa_V := ys.take d ++ ((xs.drop s).take n ++ ys.drop (d + n))
/-- calls: 0 static, 1 of an object of ours, 2 a constructor, 3 4 5 the same of nest mates, 6 Object's constructor, 7 max, 8 min, 9 arraycopy, 10 of a text -/
def xa_inv (x : List Int) (i : Nat) (ls st : List xa_V) (h : xa_H) : Option xa_O := match x with
  | [6] => match st with
    | .inr (.inr (.inl _)) :: rest => if xa_cats rest ≤ 8 then xa_nx (i + 1) ls rest h else none
    | _ => none
  | [7] => match st with
    | .inl b :: .inl a :: rest => if xa_rI a ∧ xa_rI b ∧ xa_cats rest ≤ 8 then xa_nx (i + 1) ls (xI (if a < b then b else a) :: rest) h else none
    | _ => none
  | [8] => match st with
    | .inl b :: .inl a :: rest => if xa_rI a ∧ xa_rI b ∧ xa_cats rest ≤ 8 then xa_nx (i + 1) ls (xI (if b < a then b else a) :: rest) h else none
    | _ => none
  | [9] => match st with
    | .inl n :: .inl d :: .inr (.inr (.inl b)) :: .inl s :: .inr (.inr (.inl a)) :: rest => match h[a]?, h[b]? with
      | some (1, _, xs), some (1, c, ys) => if 0 ≤ n ∧ 0 ≤ d ∧ 0 ≤ s ∧ s + n ≤ (xs.length : Int) ∧ d + n ≤ (ys.length : Int) ∧ xs.length < 100000 ∧ ys.length < 100000 ∧ xa_cats rest ≤ 8 then xa_nx (i + 1) ls rest (h.set b (1, c, xa_cpy xs ys s.toNat d.toNat n.toNat)) else none
      | _, _ => none
    | _ => none
  | [0, y, n] => if n.toNat ≤ st.length ∧ xa_cats (st.drop n.toNat) ≤ 8 then some (.inr (.inr (y.toNat, (st.take n.toNat).reverse, i + 1, ls, st.drop n.toNat))) else none
  | [3, y, n] => if n.toNat ≤ st.length ∧ xa_cats (st.drop n.toNat) ≤ 8 then some (.inr (.inr (y.toNat, (st.take n.toNat).reverse, i + 1, ls, st.drop n.toNat))) else none
  | [k, y, n, ci] => match st.drop n.toNat with
    | .inr (.inr (.inl a)) :: rest => match h[a]? with
      | some (0, c, _) => if (k = 1 ∨ k = 2 ∨ k = 4 ∨ k = 5) ∧ c = ci.toNat ∧ n.toNat ≤ st.length ∧ xa_cats rest ≤ 8 then some (.inr (.inr (y.toNat, xR a :: (st.take n.toNat).reverse, i + 1, ls, rest))) else none
      | _ => none
    | .inr (.inr (.inr c)) :: rest => if k = 10 ∧ 20 ≤ c ∧ c < 33 ∧ n.toNat ≤ st.length ∧ xa_cats rest ≤ 8 then some (.inr (.inr (y.toNat, xC c :: (st.take n.toNat).reverse, i + 1, ls, rest))) else none
    | _ => none
  | _ => none
/-- the fields of new objects: of the class of that number, null, 0 or false -/
def xa_nf (ci : Nat) : List xa_V := match ci with
  | 0 => [xC 0, xC 0, xC 0, xC 0, xI 0]
  | 1 => [xC 0, xC 0, xC 0, xC 0]
  | 2 => [xC 0, xC 0, xC 0, xC 0, xI 0, xI 0]
  | 3 => [xI 0, xI 0, xI 0, xI 0, xI 0]
  | 4 => [xC 0, xI 0, xI 0]
  | 5 => [xC 0, xI 0, xI 0, xI 0, xI 0, xI 0]
  | 6 => [xC 0, xC 0, xI 0]
  | 7 => [xC 0, xC 0, xC 0, xC 0, xC 0, xI 0, xI 0]
  | 8 => [xC 0, xC 0, xC 0, xC 0, xC 0, xC 0, xC 0, xC 0, xC 0, xC 0, xI 0]
  | 9 => [xC 0, xC 0, xC 0, xC 0, xI 0, xI 0, xI 0, xI 0, xI 0, xI 0, xC 0, xC 0, xI 0, xI 0, xI 0, xI 0, xI 0, xC 0, xC 0, xC 0, xC 0]
  | _ => []
def xa_one1 (X : List Int) (e : xa_E) (i : Nat) (ls st : List xa_V) (h : xa_H) : Option xa_O := match e.2.1 with
  | .aload k => xa_aload i ls st h k
  | .aload_n k => xa_aload i ls st h k
  | .iload k => xa_iload i ls st h k
  | .iload_n k => xa_iload i ls st h k
  | .lload k => xa_lload i ls st h k
  | .lload_n k => xa_lload i ls st h k
  | .astore k => xa_astore i ls st h k
  | .astore_n k => xa_astore i ls st h k
  | .istore k => xa_istore i ls st h k
  | .istore_n k => xa_istore i ls st h k
  | .lstore k => xa_lstore i ls st h k
  | .lstore_n k => xa_lstore i ls st h k
  | .iconst n => xa_nx (i + 1) ls (xI n :: st) h
  | .bipush n => if -128 ≤ n ∧ n < 128 then xa_nx (i + 1) ls (xI n :: st) h else none
  | .sipush n => if -32768 ≤ n ∧ n < 32768 then xa_nx (i + 1) ls (xI n :: st) h else none
  | .lconst n => xa_nx (i + 1) ls (xL ((n : Nat) : Int) :: st) h
  | .ldc _ => xa_ldc e.2.2.2 i ls st h
  | .ldc_w _ => xa_ldc e.2.2.2 i ls st h
  | .ldc2_w _ => (match e.2.2.2 with
    | [z] => xa_nx (i + 1) ls (xL z :: st) h
    | _ => none)
  | .iadd => xa_two (fun a b => a + b) i ls st h
  | .isub => xa_two (fun a b => a - b) i ls st h
  | .imul => xa_two (fun a b => a * b) i ls st h
  | .iand => xa_two xa_and i ls st h
  | .ior => xa_two xa_or i ls st h
  | .ixor => xa_two xa_xor i ls st h
  | .ishl => xa_two xa_shl i ls st h
  | .ishr => xa_two xa_shr i ls st h
  | .iushr => xa_two xa_ushr i ls st h
  | .idiv => xa_div Int.tdiv i ls st h
  | .irem => xa_div Int.tmod i ls st h
  | .ladd => xa_two64 (fun a b => a + b) i ls st h
  | .lmul => xa_two64 (fun a b => a * b) i ls st h
  | .i2b => xa_one xa_i2b i ls st h
  | .i2s => xa_one xa_i2s i ls st h
  | .i2c => (match st with
    | .inl a :: st => if 0 ≤ a ∧ a < 65536 then xa_nx (i + 1) ls (xI a :: st) h else none
    | _ => none)
  | .i2l => (match st with
    | .inl a :: st => if xa_rI a then xa_nx (i + 1) ls (xL a :: st) h else none
    | _ => none)
  | .l2i => (match st with
    | .inr (.inl a) :: st => xa_nx (i + 1) ls (xI a :: st) h
    | _ => none)
  | .lcmp => xa_lcmp i ls st h
  | .iinc k n => (match ls[k]? with
    | some (.inl z) => xa_nx (i + 1) (xa_set ls k (xI (z + n))) st h
    | _ => none)
  | .dup => (match st with
    | v :: st => if xa_cat v = 1 then xa_nx (i + 1) ls (v :: v :: st) h else none
    | _ => none)
  | .dup2 => (match st with
    | v :: w :: st => if xa_cat v = 1 ∧ xa_cat w = 1 then xa_nx (i + 1) ls (v :: w :: v :: w :: st) h else none
    | _ => none)
  | .pop => (match st with
    | v :: st => if xa_cat v = 1 then xa_nx (i + 1) ls st h else none
    | _ => none)
  | .goto _ => (match e.2.2.2 with
    | [t] => xa_nx t.toNat ls st h
    | _ => none)
  | .if_icmp c _ => xa_if2 c e.2.2.2 i ls st h
  | .ifCond c _ => xa_if1 c e.2.2.2 i ls st h
  | .tableswitch _ lo hi _ => xa_sw lo hi e.2.2.2 ls st h
  | .getfield _ => xa_getf e.2.2.2 i ls st h
  | .putfield _ => xa_putf e.2.2.2 i ls st h
  | .getstatic _ => xa_gets e.2.2.2 i ls st h
  | .iaload => xa_iald X i ls st h
  | .baload => xa_bald i ls st h
  | .iastore => xa_iast i ls st h
  | .aaload => xa_aald i ls st h
  | .aastore => xa_aast i ls st h
  | .arraylength => xa_alen X i ls st h
  | .new _ => xa_new xa_nf e.2.2.2 i ls st h
  | .newarray _ => xa_newi i ls st h
  | .anewarray _ => xa_newq e.2.2.2 i ls st h
  | .invokestatic _ => xa_inv e.2.2.2 i ls st h
  | .invokevirtual _ => xa_inv e.2.2.2 i ls st h
  | .invokespecial _ => xa_inv e.2.2.2 i ls st h
  | .return_ => (match st with
    | [] => some (.inr (.inl (none, h)))
    | _ => none)
  | .ireturn => (match st, e.2.2.2 with
    | [.inl z], [t] => if xa_fit t (xI z) = true then some (.inr (.inl (some (xI z), h))) else none
    | _, _ => none)
  | .lreturn => (match st with
    | [.inr (.inl z)] => some (.inr (.inl (some (xL z), h)))
    | _ => none)
  | .areturn => (match st with
    | [.inr (.inr (.inl a))] => some (.inr (.inl (some (xR a), h)))
    | _ => none)
  | _ => none
/-- a method's arguments in its places -/
def xa_args (args : List xa_V) : List xa_V := args.flatMap (fun v => if xa_cat v = 2 then [v, xC 1] else [v])
def xa_loc (nL : Nat) (args : List xa_V) : List xa_V := xa_args args ++ List.replicate (nL - (xa_args args).length) (xC 1)
/-- n steps and calls at most -/
def xa_ex (G : xa_G) (X : List Int) : Nat → Nat → Nat → List xa_V → List xa_V → xa_H → Option (Option xa_V × xa_H)
  | 0, _, _, _, _, _ => none
  | n + 1, mi, i, ls, st, h => match (G.1 mi)[i]? with
    | none => none
    | some e => match xa_one1 X e i ls st h with
      | none => none
      | some (.inl (i', ls', st', h')) => xa_ex G X n mi i' ls' st' h'
      | some (.inr (.inl r)) => some r
      | some (.inr (.inr (y, args, i', ls', rest))) => if (xa_args args).length ≤ (G.2 y).1 then (match xa_ex G X n y 0 (xa_loc (G.2 y).1 args) [] h with
        | none => none
        | some (rv, h1) => if h1.length = h.length + (G.2 y).2.1 ∧ xa_sl h1 = xa_sl h + (G.2 y).2.2 then xa_ex G X n mi i' ls' (rv.toList ++ rest) h1 else none) else none
theorem xa_ex_more (G : xa_G) (X : List Int) : ∀ (n mi i : Nat) (ls st : List xa_V) (h : xa_H) (r : Option xa_V × xa_H), xa_ex G X n mi i ls st h = some r → ∀ k, n ≤ k → xa_ex G X k mi i ls st h = some r
  | 0, mi, i, ls, st, h, r, e, k, hk => by simp [xa_ex] at e
  | n + 1, mi, i, ls, st, h, r, e, k, hk => by
    obtain ⟨k, rfl⟩ : ∃ k', k = k' + 1 := ⟨k - 1, by omega⟩
    have hk : n ≤ k := by omega
    rw [xa_ex] at e ⊢
    cases hf : (G.1 mi)[i]? with
    | none => rw [hf] at e; simp at e
    | some en =>
      rw [hf] at e
      simp only at e ⊢
      cases ho : xa_one1 X en i ls st h with
      | none => rw [ho] at e; simp at e
      | some o =>
        rw [ho] at e
        match o, e with
        | .inl (i', ls', st', h'), e => exact xa_ex_more G X n _ _ _ _ _ _ e k hk
        | .inr (.inl r'), e => exact e
        | .inr (.inr (y, args, i', ls', rest)), e =>
          simp only at e ⊢
          by_cases hl : (xa_args args).length ≤ (G.2 y).1
          · rw [if_pos hl] at e ⊢
            cases hc : xa_ex G X n y 0 (xa_loc (G.2 y).1 args) [] h with
            | none => rw [hc] at e; simp at e
            | some q =>
              rw [hc] at e
              rw [xa_ex_more G X n _ _ _ _ _ _ hc k hk]
              obtain ⟨rv, h1⟩ := q
              simp only at e ⊢
              split at e
              · next hq =>
                rw [if_pos hq]
                exact xa_ex_more G X n _ _ _ _ _ _ e k hk
              · simp at e
          · rw [if_neg hl] at e
            simp at e
