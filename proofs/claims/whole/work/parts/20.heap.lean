/-! THE PURE SIDE: the heap behind the constructors, by what its cells hold; rules of a run over it -/
abbrev ih_S : Type := Nat → Int → Int
def ih_u1 (f : Int → Int) (j z : Int) : Int → Int := fun x => if x = j then z else f x
def ih_up (t : ih_S) (a : Nat) (j z : Int) : ih_S := fun k => if k = a then ih_u1 (t a) j z else t k
def ih_uf (t : ih_S) (a : Nat) (f : Int → Int) : ih_S := fun k => if k = a then f else t k
theorem ih_up_eq {t : ih_S} {a : Nat} {j z : Int} : ih_up t a j z a = ih_u1 (t a) j z := if_pos rfl
theorem ih_up_ne {t : ih_S} {a b : Nat} {j z : Int} (h : b ≠ a) : ih_up t a j z b = t b := if_neg h
theorem ih_u1_eq {f : Int → Int} {j z : Int} : ih_u1 f j z j = z := if_pos rfl
theorem ih_u1_ne {f : Int → Int} {i j z : Int} (h : i ≠ j) : ih_u1 f j z i = f i := if_neg h
theorem ih_uf_eq {t : ih_S} {a : Nat} {f : Int → Int} : ih_uf t a f a = f := if_pos rfl
theorem ih_uf_ne {t : ih_S} {a b : Nat} {f : Int → Int} (h : b ≠ a) : ih_uf t a f b = t b := if_neg h
/-- a cell's shape: an object or row of its class, each place a reference to a cell, or a number -/
abbrev ih_C : Type := Nat × (Nat × List (Option Nat))
def ih_ia (n : Nat) : ih_C := (1, 0, List.replicate n none)
def ih_sh : List ih_C := [(0, 8, [some 1, some 27, some 53, some 79, some 80, some 82, some 83, some 84, some 85, some 86, none]), (0, 7, [some 2, some 3, some 4, some 5, some 6, none, none]), ih_ia 8, ih_ia 8, (2, 2, [some 7, some 12, some 17, some 22]), ih_ia 10, ih_ia 10, (0, 2, [some 8, some 9, some 10, some 11, none, none]), ih_ia 12, ih_ia 12, ih_ia 12, ih_ia 12, (0, 2, [some 13, some 14, some 15, some 16, none, none]), ih_ia 12, ih_ia 12, ih_ia 12, ih_ia 12, (0, 2, [some 18, some 19, some 20, some 21, none, none]), ih_ia 12, ih_ia 12, ih_ia 12, ih_ia 12, (0, 2, [some 23, some 24, some 25, some 26, none, none]), ih_ia 12, ih_ia 12, ih_ia 12, ih_ia 12, (0, 7, [some 28, some 29, some 30, some 31, some 32, none, none]), ih_ia 8, ih_ia 8, (2, 2, [some 33, some 38, some 43, some 48]), ih_ia 10, ih_ia 10, (0, 2, [some 34, some 35, some 36, some 37, none, none]), ih_ia 12, ih_ia 12, ih_ia 12, ih_ia 12, (0, 2, [some 39, some 40, some 41, some 42, none, none]), ih_ia 12, ih_ia 12, ih_ia 12, ih_ia 12, (0, 2, [some 44, some 45, some 46, some 47, none, none]), ih_ia 12, ih_ia 12, ih_ia 12, ih_ia 12, (0, 2, [some 49, some 50, some 51, some 52, none, none]), ih_ia 12, ih_ia 12, ih_ia 12, ih_ia 12, (0, 7, [some 54, some 55, some 56, some 57, some 58, none, none]), ih_ia 8, ih_ia 8, (2, 2, [some 59, some 64, some 69, some 74]), ih_ia 10, ih_ia 10, (0, 2, [some 60, some 61, some 62, some 63, none, none]), ih_ia 12, ih_ia 12, ih_ia 12, ih_ia 12, (0, 2, [some 65, some 66, some 67, some 68, none, none]), ih_ia 12, ih_ia 12, ih_ia 12, ih_ia 12, (0, 2, [some 70, some 71, some 72, some 73, none, none]), ih_ia 12, ih_ia 12, ih_ia 12, ih_ia 12, (0, 2, [some 75, some 76, some 77, some 78, none, none]), ih_ia 12, ih_ia 12, ih_ia 12, ih_ia 12, (2, 1, [some 91, some 94, some 97, some 100]), (0, 5, [some 81, none, none, none, none, none]), ih_ia 120, (0, 6, [some 80, some 1, none]), (2, 4, [some 103, some 105, some 107, some 109]), ih_ia 7, ih_ia 91, (0, 0, [some 87, some 88, some 89, some 90, none]), ih_ia 12, ih_ia 24, ih_ia 24, ih_ia 24, (0, 1, [some 7, some 2, some 92, some 93]), ih_ia 12, (0, 3, [none, none, none, none, none]), (0, 1, [some 12, some 2, some 95, some 96]), ih_ia 12, (0, 3, [none, none, none, none, none]), (0, 1, [some 17, some 2, some 98, some 99]), ih_ia 12, (0, 3, [none, none, none, none, none]), (0, 1, [some 22, some 2, some 101, some 102]), ih_ia 12, (0, 3, [none, none, none, none, none]), (0, 4, [some 104, none, none]), ih_ia 40, (0, 4, [some 106, none, none]), ih_ia 40, (0, 4, [some 108, none, none]), ih_ia 40, (0, 4, [some 110, none, none]), ih_ia 40, (0, 9, [some 112, some 113, some 114, some 115, none, none, none, none, none, none, some 116, some 117, none, none, none, none, none, some 118, some 119, some 120, some 121]), ih_ia 228, ih_ia 228, ih_ia 228, ih_ia 7, ih_ia 100, ih_ia 120, ih_ia 4, ih_ia 4, ih_ia 160, ih_ia 40]
def ih_ct (f : Int → Int) (os : List (Option Nat)) : List xa_V := os.mapIdx (fun j o => match o with
  | some r => xR r
  | none => xI (f (j : Int)))
def ih_mk (t : ih_S) : xa_H := ih_sh.mapIdx (fun k c => (c.1, c.2.1, ih_ct (t k) c.2.2))
theorem ih_mk_get {t : ih_S} {k : Nat} {c : ih_C} (e : ih_sh[k]? = some c) : (ih_mk t)[k]? = some (c.1, c.2.1, ih_ct (t k) c.2.2) := by
  unfold ih_mk
  rw [List.getElem?_mapIdx, e]
  rfl
theorem ih_ct_I {f : Int → Int} {os : List (Option Nat)} {j : Nat} (e : os[j]? = some none) : (ih_ct f os)[j]? = some (xI (f (j : Int))) := by
  unfold ih_ct
  rw [List.getElem?_mapIdx, e]
  rfl
theorem ih_ct_R {f : Int → Int} {os : List (Option Nat)} {j r : Nat} (e : os[j]? = some (some r)) : (ih_ct f os)[j]? = some (xR r) := by
  unfold ih_ct
  rw [List.getElem?_mapIdx, e]
  rfl
theorem ih_ct_len {f : Int → Int} {os : List (Option Nat)} : (ih_ct f os).length = os.length := by
  unfold ih_ct
  rw [List.length_mapIdx]
theorem ih_ct_set {f : Int → Int} {os : List (Option Nat)} {j : Nat} {z : Int} (e : os[j]? = some none) : (ih_ct f os).set j (xI z) = ih_ct (ih_u1 f (j : Int) z) os := by
  apply List.ext_getElem?
  intro k
  rw [List.getElem?_set]
  by_cases hk : j = k
  · subst hk
    rw [if_pos rfl, ih_ct_len, if_pos (List.getElem?_eq_some_iff.mp e).1, ih_ct_I e, ih_u1_eq]
  · rw [if_neg hk]
    unfold ih_ct
    rw [List.getElem?_mapIdx, List.getElem?_mapIdx]
    cases os[k]? with
    | none => rfl
    | some o =>
      cases o with
      | none => show some (xI (f k)) = some (xI (ih_u1 f j z k)); rw [ih_u1_ne (by omega)]
      | some r => rfl
theorem ih_mk_setf {t : ih_S} {k : Nat} {c : ih_C} {f : Int → Int} (e : ih_sh[k]? = some c) : (ih_mk t).set k (c.1, c.2.1, ih_ct f c.2.2) = ih_mk (ih_uf t k f) := by
  apply List.ext_getElem?
  intro j
  have hk := (List.getElem?_eq_some_iff.mp e).1
  rw [List.getElem?_set]
  by_cases hj : k = j
  · subst hj
    rw [if_pos rfl, if_pos (by unfold ih_mk; rw [List.length_mapIdx]; exact hk), ih_mk_get e, ih_uf_eq]
  · rw [if_neg hj]
    unfold ih_mk
    rw [List.getElem?_mapIdx, List.getElem?_mapIdx, ih_uf_ne (Ne.symm hj)]
theorem ih_up_uf {t : ih_S} {a : Nat} {j z : Int} : ih_uf t a (ih_u1 (t a) j z) = ih_up t a j z := rfl
theorem ih_sh_len : ih_sh.length = 122 := rfl
theorem ih_mk_len (t : ih_S) : (ih_mk t).length = 122 := by
  unfold ih_mk
  rw [List.length_mapIdx]
  rfl
theorem ih_mk_sl (t : ih_S) : xa_sl (ih_mk t) = 2520 := by
  unfold xa_sl
  have e : (ih_mk t).map (fun c => c.2.2.length) = ih_sh.map (fun c => c.2.2.length) := by
    apply List.ext_getElem?
    intro j
    unfold ih_mk
    rw [List.getElem?_map, List.getElem?_mapIdx, List.getElem?_map]
    cases ih_sh[j]? with
    | none => rfl
    | some c => show some (ih_ct _ _).length = _; rw [ih_ct_len]; rfl
  rw [e]
  decide +kernel
theorem ih_sh_ia : ∀ c ∈ ih_sh, c.1 = 1 → ∀ o ∈ c.2.2, o = none := by decide +kernel
def ih_fld (a : Nat) (ci f : Int) : Option (Option Nat) := match ih_sh[a]? with
  | some (0, c, os) => if 0 ≤ f ∧ c = ci.toNat then os[f.toNat]? else none
  | _ => none
def ih_len0 (a : Nat) : Option Nat := match ih_sh[a]? with
  | some (1, _, os) => some os.length
  | _ => none
def ih_lt : List (Option Nat) := [none, none, some 8, some 8, none, some 10, some 10, none, some 12, some 12, some 12, some 12, none, some 12, some 12, some 12, some 12, none, some 12, some 12, some 12, some 12, none, some 12, some 12, some 12, some 12, none, some 8, some 8, none, some 10, some 10, none, some 12, some 12, some 12, some 12, none, some 12, some 12, some 12, some 12, none, some 12, some 12, some 12, some 12, none, some 12, some 12, some 12, some 12, none, some 8, some 8, none, some 10, some 10, none, some 12, some 12, some 12, some 12, none, some 12, some 12, some 12, some 12, none, some 12, some 12, some 12, some 12, none, some 12, some 12, some 12, some 12, none, none, some 120, none, none, some 7, some 91, none, some 12, some 24, some 24, some 24, none, some 12, none, none, some 12, none, none, some 12, none, none, some 12, none, none, some 40, none, some 40, none, some 40, none, some 40, none, some 228, some 228, some 228, some 7, some 100, some 120, some 4, some 4, some 160, some 40]
def ih_len (a : Nat) : Option Nat := ih_lt.getD a none
theorem ih_len_0 (a : Nat) : ih_len a = ih_len0 a := by
  by_cases h : a < 122
  · exact (by decide +kernel : ∀ a : Nat, a < 122 → ih_len a = ih_len0 a) a h
  · unfold ih_len ih_len0
    rw [List.getD_eq_getElem?_getD, List.getElem?_eq_none (by show 122 ≤ a; omega), List.getElem?_eq_none (by show 122 ≤ a; omega)]
    rfl
def ih_el (a : Nat) (j : Int) : Option Nat := match ih_sh[a]? with
  | some (2, c, os) => if (c = 1 ∨ c = 2 ∨ c = 4) ∧ 0 ≤ j ∧ j < 100 then (match os[j.toNat]? with
    | some (some r) => some r
    | _ => none) else none
  | _ => none
def ih_cls (a : Nat) : Option Nat := match ih_sh[a]? with
  | some (0, c, _) => some c
  | _ => none
theorem ih_fld_of {a : Nat} {ci f : Int} {o : Option Nat} (h : ih_fld a ci f = some o) : ∃ os, ih_sh[a]? = some (0, ci.toNat, os) ∧ 0 ≤ f ∧ os[f.toNat]? = some o := by
  unfold ih_fld at h
  split at h
  · next c os e =>
    split at h
    · next q => exact ⟨os, by rw [e, q.2], q.1, h⟩
    · cases h
  · cases h
theorem ih_len_of {a n : Nat} (h : ih_len a = some n) : ∃ c os, ih_sh[a]? = some (1, c, os) ∧ os.length = n ∧ ∀ j, j < n → os[j]? = some none := by
  rw [ih_len_0] at h
  unfold ih_len0 at h
  split at h
  · next c os e =>
    cases h
    refine ⟨c, os, e, rfl, fun j hj => ?_⟩
    rw [List.getElem?_eq_getElem hj]
    congr 1
    exact ih_sh_ia _ (List.mem_of_getElem? e) rfl _ (List.getElem_mem hj)
  · cases h
theorem ih_el_of {a r : Nat} {j : Int} (h : ih_el a j = some r) : ∃ c os, ih_sh[a]? = some (2, c, os) ∧ (c = 1 ∨ c = 2 ∨ c = 4) ∧ 0 ≤ j ∧ j < 100 ∧ os[j.toNat]? = some (some r) := by
  unfold ih_el at h
  split at h
  · next c os e =>
    split at h
    · next q =>
      split at h
      · next r' e2 => cases h; exact ⟨c, os, e, q.1, q.2.1, q.2.2, e2⟩
      · cases h
    · cases h
  · cases h
theorem ih_cls_of {a c : Nat} (h : ih_cls a = some c) : ∃ os, ih_sh[a]? = some (0, c, os) := by
  unfold ih_cls at h
  split at h
  · next c' os e => cases h; exact ⟨os, e⟩
  · cases h
/-- a run of method mi from place i comes to an answer and a heap of which Q holds -/
def ih_Wp (X : List Int) (mi i : Nat) (ls st : List xa_V) (t : ih_S) (Q : Option xa_V → ih_S → Prop) : Prop :=
  ∃ (n : Nat) (rv : Option xa_V) (t' : ih_S), xa_ex xb_G X n mi i ls st (ih_mk t) = some (rv, ih_mk t') ∧ Q rv t'
def ih_pu (ins : Jvm.ClassFile.Instr) : Bool := match ins with
  | .aload _ | .aload_n _ | .iload _ | .iload_n _ | .lload _ | .lload_n _ | .astore _ | .astore_n _ | .istore _ | .istore_n _ | .lstore _ | .lstore_n _ | .iconst _ | .bipush _ | .sipush _ | .lconst _ | .ldc _ | .ldc_w _ | .ldc2_w _ | .iadd | .isub | .imul | .iand | .ior | .ixor | .ishl | .ishr | .iushr | .ladd | .lmul | .i2b | .i2s | .i2l | .l2i | .iinc _ _ | .dup | .dup2 | .pop | .goto _ | .if_icmp _ _ | .ifCond _ _ | .getstatic _ => true
  | _ => false
def ih_run : Nat → Nat → Nat → List xa_V → List xa_V → Option (Nat × (List xa_V × List xa_V))
  | 0, _, i, ls, st => some (i, ls, st)
  | n + 1, mi, i, ls, st => match (xb_G.1 mi)[i]? with
    | none => none
    | some en => if ih_pu en.2.1 = true then (match xa_one1 [] en i ls st [] with
      | some (.inl (i1, ls1, st1, _)) => ih_run n mi i1 ls1 st1
      | _ => none) else none
theorem ih_inv7 {i : Nat} {ls st : List xa_V} {h : xa_H} {a b : Int} (ha : xa_rI a) (hb : xa_rI b) (hr : xa_cats st ≤ 8) : xa_inv [7] i ls (xI b :: xI a :: st) h = xa_nx (i + 1) ls (xI (if a < b then b else a) :: st) h := by
  show (if xa_rI a ∧ xa_rI b ∧ xa_cats st ≤ 8 then xa_nx (i + 1) ls (xI (if a < b then b else a) :: st) h else none) = _
  rw [if_pos ⟨ha, hb, hr⟩]
theorem ih_inv8 {i : Nat} {ls st : List xa_V} {h : xa_H} {a b : Int} (ha : xa_rI a) (hb : xa_rI b) (hr : xa_cats st ≤ 8) : xa_inv [8] i ls (xI b :: xI a :: st) h = xa_nx (i + 1) ls (xI (if b < a then b else a) :: st) h := by
  show (if xa_rI a ∧ xa_rI b ∧ xa_cats st ≤ 8 then xa_nx (i + 1) ls (xI (if b < a then b else a) :: st) h else none) = _
  rw [if_pos ⟨ha, hb, hr⟩]
theorem ih_inv0 {i : Nat} {ls st : List xa_V} {h : xa_H} {y n : Int} (hn : n.toNat ≤ st.length) (hr : xa_cats (st.drop n.toNat) ≤ 8) : xa_inv [0, y, n] i ls st h = some (.inr (.inr (y.toNat, (st.take n.toNat).reverse, i + 1, ls, st.drop n.toNat))) := by
  show (if n.toNat ≤ st.length ∧ xa_cats (st.drop n.toNat) ≤ 8 then some (.inr (.inr (y.toNat, (st.take n.toNat).reverse, i + 1, ls, st.drop n.toNat))) else none : Option xa_O) = _
  rw [if_pos ⟨hn, hr⟩]
theorem ih_inv3 {i : Nat} {ls st : List xa_V} {h : xa_H} {y n : Int} (hn : n.toNat ≤ st.length) (hr : xa_cats (st.drop n.toNat) ≤ 8) : xa_inv [3, y, n] i ls st h = some (.inr (.inr (y.toNat, (st.take n.toNat).reverse, i + 1, ls, st.drop n.toNat))) := by
  show (if n.toNat ≤ st.length ∧ xa_cats (st.drop n.toNat) ≤ 8 then some (.inr (.inr (y.toNat, (st.take n.toNat).reverse, i + 1, ls, st.drop n.toNat))) else none : Option xa_O) = _
  rw [if_pos ⟨hn, hr⟩]
theorem ih_inv1 {i : Nat} {ls st rest : List xa_V} {h : xa_H} {y n ci : Int} {a c : Nat} {fs : List xa_V} (hd : st.drop n.toNat = xR a :: rest) (hh : h[a]? = some (0, c, fs)) (hc : c = ci.toNat) (hn : n.toNat ≤ st.length) (hr : xa_cats rest ≤ 8) : xa_inv [1, y, n, ci] i ls st h = some (.inr (.inr (y.toNat, xR a :: (st.take n.toNat).reverse, i + 1, ls, rest))) := by
  unfold xa_inv
  simp only [hd, hh, hc, hn, hr, and_self, if_true, true_or]
theorem ih_inv10 {i : Nat} {ls st rest : List xa_V} {h : xa_H} {y n ci : Int} {c : Nat} (hd : st.drop n.toNat = xC c :: rest) (hc : 20 ≤ c ∧ c < 33) (hn : n.toNat ≤ st.length) (hr : xa_cats rest ≤ 8) : xa_inv [10, y, n, ci] i ls st h = some (.inr (.inr (y.toNat, xC c :: (st.take n.toNat).reverse, i + 1, ls, rest))) := by
  unfold xa_inv
  simp only [hd, hc, hn, hr, and_self, if_true]
theorem ih_inv9 {i : Nat} {ls st : List xa_V} {h : xa_H} {a b c0 c : Nat} {xs ys : List xa_V} {s d n : Int} (ea : h[a]? = some (1, c0, xs)) (eb : h[b]? = some (1, c, ys)) (h0 : 0 ≤ n) (h1 : 0 ≤ d) (h2 : 0 ≤ s) (h3 : s + n ≤ (xs.length : Int)) (h4 : d + n ≤ (ys.length : Int)) (h5 : xs.length < 100000) (h6 : ys.length < 100000) (hr : xa_cats st ≤ 8) : xa_inv [9] i ls (xI n :: xI d :: xR b :: xI s :: xR a :: st) h = xa_nx (i + 1) ls st (h.set b (1, c, xa_cpy xs ys s.toNat d.toNat n.toNat)) := by
  show (match h[a]?, h[b]? with
      | some (1, _, xs), some (1, c, ys) => if 0 ≤ n ∧ 0 ≤ d ∧ 0 ≤ s ∧ s + n ≤ (xs.length : Int) ∧ d + n ≤ (ys.length : Int) ∧ xs.length < 100000 ∧ ys.length < 100000 ∧ xa_cats st ≤ 8 then xa_nx (i + 1) ls st (h.set b (1, c, xa_cpy xs ys s.toNat d.toNat n.toNat)) else none
      | _, _ => none) = _
  rw [ea, eb]
  show (if 0 ≤ n ∧ 0 ≤ d ∧ 0 ≤ s ∧ s + n ≤ (xs.length : Int) ∧ d + n ≤ (ys.length : Int) ∧ xs.length < 100000 ∧ ys.length < 100000 ∧ xa_cats st ≤ 8 then xa_nx (i + 1) ls st (h.set b (1, c, xa_cpy xs ys s.toNat d.toNat n.toNat)) else none) = _
  rw [if_pos ⟨h0, h1, h2, h3, h4, h5, h6, hr⟩]
