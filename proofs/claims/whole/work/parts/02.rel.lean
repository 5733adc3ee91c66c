/-! NUMBERS AND WORLDS: how the small machine's values and cells stand in the real one -/
theorem xa_add (a b : Int) : Int32.ofInt a + Int32.ofInt b = Int32.ofInt (a + b) := (Int32.ofInt_add a b).symm
theorem xa_sub (a b : Int) : Int32.ofInt a - Int32.ofInt b = Int32.ofInt (a - b) := (Int32.ofInt_sub a b).symm
theorem xa_mul (a b : Int) : Int32.ofInt a * Int32.ofInt b = Int32.ofInt (a * b) := (Int32.ofInt_mul a b).symm
theorem xa_addL (a b : Int) : Int64.ofInt a + Int64.ofInt b = Int64.ofInt (a + b) := (Int64.ofInt_add a b).symm
theorem xa_mulL (a b : Int) : Int64.ofInt a * Int64.ofInt b = Int64.ofInt (a * b) := (Int64.ofInt_mul a b).symm
theorem xa_asI (x : Int32) : Int32.ofInt x.toInt = x := Int32.ofInt_toInt x
theorem xa_bmod {z : Int} (h : xa_rI z) : z.bmod (2 ^ 32) = z := by
  obtain ⟨h1, h2⟩ := h
  rw [Int.bmod_def]
  have e : z % ((2 ^ 32 : Nat) : Int) = if 0 ≤ z then z else z + 4294967296 := by
    split <;> omega
  rw [e]
  split <;> split <;> omega
theorem xa_bmodL {z : Int} (h : xa_rL z) : z.bmod (2 ^ 64) = z := by
  obtain ⟨h1, h2⟩ := h
  rw [Int.bmod_def]
  have e : z % ((2 ^ 64 : Nat) : Int) = if 0 ≤ z then z else z + 18446744073709551616 := by
    split <;> omega
  rw [e]
  split <;> split <;> omega
theorem xa_toI {z : Int} (h : xa_rI z) : (Int32.ofInt z).toInt = z := by
  rw [Int32.toInt_ofInt]
  exact xa_bmod h
theorem xa_toL {z : Int} (h : xa_rL z) : (Int64.ofInt z).toInt = z := by
  rw [Int64.toInt_ofInt]
  exact xa_bmodL h
theorem xa_rng (x : Int32) : xa_rI x.toInt := by
  have h1 := Int32.le_toInt x
  have h2 := Int32.toInt_lt x
  exact ⟨by simpa using h1, by simpa using h2⟩
theorem xa_ieq {a b : Int} (ha : xa_rI a) (hb : xa_rI b) : Int32.ofInt a = Int32.ofInt b ↔ a = b := by
  constructor
  · intro h
    rw [← xa_toI ha, ← xa_toI hb, h]
  · intro h; rw [h]
theorem xa_ilt {a b : Int} (ha : xa_rI a) (hb : xa_rI b) : Int32.ofInt a < Int32.ofInt b ↔ a < b := by
  rw [Int32.lt_iff_toInt_lt, xa_toI ha, xa_toI hb]
theorem xa_ile {a b : Int} (ha : xa_rI a) (hb : xa_rI b) : Int32.ofInt a ≤ Int32.ofInt b ↔ a ≤ b := by
  rw [Int32.le_iff_toInt_le, xa_toI ha, xa_toI hb]
theorem xa_cmpw_eq (c : Jvm.ClassFile.Cond) (a b : Int) : xa_cmpw c a b = xa_cmp c (xa_w a) (xa_w b) := by
  unfold xa_cmpw
  split
  · next h => rw [show xa_w a = a from xa_toI h.1, show xa_w b = b from xa_toI h.2]
  · rfl
theorem xa_weq (a b : Int) : Int32.ofInt a = Int32.ofInt b ↔ xa_w a = xa_w b := Int32.toInt_inj.symm
theorem xa_wlt (a b : Int) : Int32.ofInt a < Int32.ofInt b ↔ xa_w a < xa_w b := Int32.lt_iff_toInt_lt
theorem xa_wle (a b : Int) : Int32.ofInt a ≤ Int32.ofInt b ↔ xa_w a ≤ xa_w b := Int32.le_iff_toInt_le
theorem xa_leq {a b : Int} (ha : xa_rL a) (hb : xa_rL b) : Int64.ofInt a = Int64.ofInt b ↔ a = b := by
  constructor
  · intro h
    rw [← xa_toL ha, ← xa_toL hb, h]
  · intro h; rw [h]
theorem xa_llt {a b : Int} (ha : xa_rL a) (hb : xa_rL b) : Int64.ofInt a < Int64.ofInt b ↔ a < b := by
  rw [Int64.lt_iff_toInt_lt, xa_toL ha, xa_toL hb]
theorem xa_z0 : Int32.ofInt 0 = 0 := rfl
theorem xa_r0 : xa_rI 0 := by decide
theorem xa_idiv {a b : Int} (ha : xa_rI a) (hb : xa_rI b) : Int32.ofInt a / Int32.ofInt b = Int32.ofInt (a.tdiv b) := by
  rw [← Int32.toInt_inj, Int32.toInt_div, xa_toI ha, xa_toI hb, Int32.toInt_ofInt]
theorem xa_irem {a b : Int} (ha : xa_rI a) (hb : xa_rI b) : Int32.ofInt a - Int32.ofInt a / Int32.ofInt b * Int32.ofInt b = Int32.ofInt (a.tmod b) := by
  rw [xa_idiv ha hb, xa_mul, xa_sub]
  congr 1
  have := Int.tmod_add_mul_tdiv a b
  rw [Int.mul_comm] at this
  omega
theorem xa_nat {j : Int} (h0 : 0 ≤ j) (h : j < 2147483648) : (Int32.ofInt j).toNatClampNeg = j.toNat := by
  show (Int32.ofInt j).toInt.toNat = j.toNat
  rw [xa_toI ⟨by omega, h⟩]
theorem xa_vin {j : Int} {n : Nat} (h0 : 0 ≤ j) (h1 : j < (n : Int)) (h : j < 2147483648) : vp_in (Int32.ofInt j) n := by
  intro q
  rcases q with q | q
  · have := (xa_ilt (b := 0) ⟨by omega, h⟩ xa_r0).mp q
    omega
  · rw [xa_nat h0 h] at q
    omega
/-- a value, with the first address of ours, the constants' addresses, and what stands in the third -/
def xa_cv (b0 : Nat) (ca : Nat → Nat) (v3 : Value) (v : xa_V) : Value := match v with
  | .inl z => .int (Int32.ofInt z)
  | .inr (.inl z) => .long (Int64.ofInt z)
  | .inr (.inr (.inl k)) => .ref (b0 + k)
  | .inr (.inr (.inr c)) => if c = 0 then .null else if c = 3 then v3 else .ref (ca c)
def xa_iv (v : xa_V) : Int32 := match v with
  | .inl z => Int32.ofInt z
  | _ => 0
def xa_ri (b0 : Nat) (v : xa_V) : Option Nat := match v with
  | .inr (.inr (.inl k)) => some (b0 + k)
  | _ => none
theorem xa_cv_cat {b0 : Nat} {ca : Nat → Nat} {v3 : Value} (h3 : v3.category = 1) (v : xa_V) : (xa_cv b0 ca v3 v).category = xa_cat v := by
  match v with
  | .inl z => rfl
  | .inr (.inl z) => rfl
  | .inr (.inr (.inl k)) => rfl
  | .inr (.inr (.inr c)) =>
    unfold xa_cv
    dsimp only
    split
    · rfl
    · split
      · exact h3
      · rfl
theorem xa_cv_cats {b0 : Nat} {ca : Nat → Nat} {v3 : Value} (h3 : v3.category = 1) (st : List xa_V) : ((st.map (xa_cv b0 ca v3)).map fun v => v.category).sum = xa_cats st := by
  unfold xa_cats
  rw [List.map_map]
  congr 1
  exact List.map_congr_left (fun v _ => xa_cv_cat h3 v)
def xa_ce (b0 : Nat) (ca : Nat → Nat) (v3 : Value) (cI : ClassId) (cQ : Nat → ClassId) (c : xa_K) : va_E := match c with
  | (0, ci, fs) => .inr (ci, fs.map (xa_cv b0 ca v3))
  | (1, _, xs) => .inl (cI, xs.length, .inl (fun j => xa_iv (xs.getD j (xC 0))))
  | (_ + 2, ci, xs) => .inl (cQ ci, xs.length, .inr (.inr (.inr (.inr (fun j => xa_ri b0 (xs.getD j (xC 0)))))))
def xa_W (b0 : Nat) (ca : Nat → Nat) (v3 : Value) (cI : ClassId) (cQ : Nat → ClassId) (h : xa_H) : va_W := h.mapIdx (fun k c => (b0 + k, xa_ce b0 ca v3 cI cQ c))
section XW
variable {b0 : Nat} {ca : Nat → Nat} {v3 : Value} {cI : ClassId} {cQ : Nat → ClassId} {h : xa_H}
theorem xa_W_get {k : Nat} {c : xa_K} (e : h[k]? = some c) : (xa_W b0 ca v3 cI cQ h)[k]? = some (b0 + k, xa_ce b0 ca v3 cI cQ c) := by
  unfold xa_W
  rw [List.getElem?_mapIdx, e]
  rfl
theorem xa_W_inv {k : Nat} {q : Nat × va_E} (e : (xa_W b0 ca v3 cI cQ h)[k]? = some q) : q.1 = b0 + k ∧ k < h.length := by
  unfold xa_W at e
  rw [List.getElem?_mapIdx] at e
  cases hc : h[k]? with
  | none => rw [hc] at e; simp at e
  | some c =>
    rw [hc] at e
    simp only [Option.map_some, Option.some.injEq] at e
    exact ⟨by rw [← e], (List.getElem?_eq_some_iff.mp hc).1⟩
theorem xa_W_set {k : Nat} {c : xa_K} : xa_W b0 ca v3 cI cQ (h.set k c) = (xa_W b0 ca v3 cI cQ h).set k (b0 + k, xa_ce b0 ca v3 cI cQ c) := by
  unfold xa_W
  apply List.ext_getElem?
  intro j
  rw [List.getElem?_mapIdx, List.getElem?_set, List.getElem?_set, List.length_mapIdx, List.getElem?_mapIdx]
  by_cases hj : k = j
  · subst hj
    rw [if_pos rfl, if_pos rfl]
    split <;> rfl
  · rw [if_neg hj, if_neg hj]
theorem xa_W_push {c : xa_K} : xa_W b0 ca v3 cI cQ (h ++ [c]) = xa_W b0 ca v3 cI cQ h ++ [(b0 + h.length, xa_ce b0 ca v3 cI cQ c)] := by
  unfold xa_W
  apply List.ext_getElem?
  intro j
  rw [List.getElem?_mapIdx]
  by_cases hj : j < h.length
  · rw [List.getElem?_append_left hj, List.getElem?_append_left (by rw [List.length_mapIdx]; exact hj), List.getElem?_mapIdx]
  · rw [List.getElem?_append_right (by omega), List.getElem?_append_right (by rw [List.length_mapIdx]; omega), List.length_mapIdx]
    by_cases hj2 : j = h.length
    · subst hj2
      simp
    · rw [List.getElem?_eq_none (by simp; omega), List.getElem?_eq_none (by simp; omega)]
      rfl
theorem xa_W_D : va_D (fun q : Nat => b0 ≤ q) (xa_W b0 ca v3 cI cQ h) := by
  refine ⟨fun i j p q hi hj e => ?_, fun k q hk => ?_⟩
  · have h1 := (xa_W_inv hi).1
    have h2 := (xa_W_inv hj).1
    omega
  · have h1 := (xa_W_inv hk).1
    show b0 ≤ q.1
    omega
end XW
/-- the cells of ours stand from b0 on, and nothing behind them -/
def xa_Rel (b0 : Nat) (ca : Nat → Nat) (v3 : Value) (cI : ClassId) (cQ : Nat → ClassId) (D : va_G) (cl : List vw_C) (h : xa_H) (H : Heap) : Prop := H.size = b0 + h.length ∧ va_P D cl (xa_W b0 ca v3 cI cQ h) H
/-- the places of a method -/
def xa_lr (b0 : Nat) (ca : Nat → Nat) (v3 : Value) (nL : Nat) (ls : List xa_V) (lr : Array Slot) : Prop := lr.size = nL ∧ lv_wf lr ∧ ls.length = nL ∧ ∀ (j : Nat) (v : xa_V), ls[j]? = some v → v ≠ xC 1 → lr[j]? = some (.val (xa_cv b0 ca v3 v))
def xa_pairs (b0 : Nat) (ca : Nat → Nat) (v3 : Value) (ls : List xa_V) : List (Nat × Value) := (List.range ls.length).filterMap (fun j => match ls[j]? with
  | some v => if v = xC 1 then none else some (j, xa_cv b0 ca v3 v)
  | none => none)
section XL
variable {b0 : Nat} {ca : Nat → Nat} {v3 : Value} {nL : Nat} {ls : List xa_V} {lr : Array Slot}
theorem xa_pairs_in {j : Nat} {v : xa_V} (e : ls[j]? = some v) (hv : v ≠ xC 1) : (j, xa_cv b0 ca v3 v) ∈ xa_pairs b0 ca v3 ls := by
  refine List.mem_filterMap.mpr ⟨j, List.mem_range.mpr (List.getElem?_eq_some_iff.mp e).1, ?_⟩
  rw [e]
  dsimp only
  rw [if_neg hv]
theorem xa_pairs_inv {q : Nat × Value} (hq : q ∈ xa_pairs b0 ca v3 ls) : ∃ v, ls[q.1]? = some v ∧ v ≠ xC 1 ∧ q.2 = xa_cv b0 ca v3 v := by
  obtain ⟨j, -, hj⟩ := List.mem_filterMap.mp hq
  cases e : ls[j]? with
  | none => rw [e] at hj; simp at hj
  | some v =>
    rw [e] at hj
    dsimp only at hj
    split at hj
    · simp at hj
    · next hv =>
      cases hj
      exact ⟨v, e, hv, rfl⟩
theorem xa_lr_has (h : xa_lr b0 ca v3 nL ls lr) : lv_has lr nL (xa_pairs b0 ca v3 ls) := by
  refine ⟨h.1, h.2.1, fun q hq => ?_⟩
  obtain ⟨v, h1, h2, h3⟩ := xa_pairs_inv hq
  rw [h3]
  exact h.2.2.2 _ _ h1 h2
theorem xa_set_len (i : Nat) (v : xa_V) : (xa_set ls i v).length = ls.length := by
  unfold xa_set
  split
  · simp
  · split <;> simp
/-- what a store leaves in another place -/
theorem xa_set_ne {i j : Nat} {v w : xa_V} (hj : j ≠ i) (e : (xa_set ls i v)[j]? = some w) (hw : w ≠ xC 1) : ls[j]? = some w ∧ ¬ (j + 1 = i ∧ xa_cat w = 2) := by
  unfold xa_set at e
  split at e
  · rw [List.getElem?_set_ne (by omega)] at e
    exact ⟨e, by omega⟩
  · next k =>
    split at e
    · next z hz =>
      rw [List.getElem?_set_ne (by omega)] at e
      by_cases hk : j = k
      · subst hk
        rw [List.getElem?_set_self' ] at e
        rw [hz] at e
        simp at e
        exact absurd e.symm hw
      · rw [List.getElem?_set_ne (by omega)] at e
        exact ⟨e, by omega⟩
    · next hz =>
      rw [List.getElem?_set_ne (by omega)] at e
      refine ⟨e, fun q => ?_⟩
      obtain ⟨q1, q2⟩ := q
      have : j = k := by omega
      subst this
      match w, q2 with
      | .inr (.inl z), _ => exact hz z e
theorem xa_set_eq {i : Nat} {v : xa_V} (hi : i < ls.length) : (xa_set ls i v)[i]? = some v := by
  unfold xa_set
  split
  · simp [hi]
  · split <;> simp [hi]
theorem xa_lr_set1 {ls' : Array Slot} {i : Nat} {v : xa_V} (h3 : v3.category = 1) (hn : ls.length = nL) (hi : i < nL)
    (h : lv_has ls' nL ((i, xa_cv b0 ca v3 v) :: (xa_pairs b0 ca v3 ls).filter (fun q => !(q.1 == i) && !(q.1 + 1 == i && q.2.category == 2)))) : xa_lr b0 ca v3 nL (xa_set ls i v) ls' := by
  refine ⟨h.1, h.2.1, by rw [xa_set_len]; exact hn, fun j w e hw => ?_⟩
  by_cases hj : j = i
  · subst hj
    rw [xa_set_eq (by omega)] at e
    cases e
    exact h.2.2 _ List.mem_cons_self
  · obtain ⟨e1, e2⟩ := xa_set_ne hj e hw
    refine h.2.2 (j, xa_cv b0 ca v3 w) (List.mem_cons_of_mem _ (List.mem_filter.mpr ⟨xa_pairs_in e1 hw, ?_⟩))
    simp only [Bool.and_eq_true, Bool.not_eq_true', beq_eq_false_iff_ne, ne_eq, Bool.and_eq_false_iff]
    refine ⟨hj, ?_⟩
    by_cases hq : j + 1 = i
    · right
      intro hc
      rw [xa_cv_cat h3] at hc
      exact e2 ⟨hq, hc⟩
    · left; exact hq
theorem xa_lr_set2 {ls' : Array Slot} {i : Nat} {v : xa_V} (h3 : v3.category = 1) (hn : ls.length = nL) (hi : i + 1 < nL) (hv : xa_cat v = 2)
    (h : lv_has ls' nL ((i, xa_cv b0 ca v3 v) :: (xa_pairs b0 ca v3 ls).filter (fun q => !(q.1 == i) && (!(q.1 == i + 1) && !(q.1 + 1 == i && q.2.category == 2))))) : xa_lr b0 ca v3 nL ((xa_set ls i v).set (i + 1) (xC 1)) ls' := by
  refine ⟨h.1, h.2.1, by rw [List.length_set, xa_set_len]; exact hn, fun j w e hw => ?_⟩
  by_cases hj1 : j = i + 1
  · subst hj1
    rw [List.getElem?_set_self (by rw [xa_set_len]; omega)] at e
    cases e
    exact absurd rfl hw
  · rw [List.getElem?_set_ne (by omega)] at e
    by_cases hj : j = i
    · subst hj
      rw [xa_set_eq (by omega)] at e
      cases e
      exact h.2.2 _ List.mem_cons_self
    · obtain ⟨e1, e2⟩ := xa_set_ne hj e hw
      refine h.2.2 (j, xa_cv b0 ca v3 w) (List.mem_cons_of_mem _ (List.mem_filter.mpr ⟨xa_pairs_in e1 hw, ?_⟩))
      simp only [Bool.and_eq_true, Bool.not_eq_true', beq_eq_false_iff_ne, ne_eq, Bool.and_eq_false_iff]
      refine ⟨hj, hj1, ?_⟩
      by_cases hq : j + 1 = i
      · right
        intro hc
        rw [xa_cv_cat h3] at hc
        exact e2 ⟨hq, hc⟩
      · left; exact hq
/-- a method's places at its start -/
theorem xa_sl_len (h3 : v3.category = 1) (av : List xa_V) : (lg_sl (av.map (xa_cv b0 ca v3))).length = (xa_args av).length := by
  induction av with
  | nil => rfl
  | cons v vs ih =>
    have e1 : lg_sl ((v :: vs).map (xa_cv b0 ca v3)) = (if (xa_cv b0 ca v3 v).category = 2 then [.val (xa_cv b0 ca v3 v), .second] else [.val (xa_cv b0 ca v3 v)]) ++ lg_sl (vs.map (xa_cv b0 ca v3)) := by simp [lg_sl]
    have e2 : xa_args (v :: vs) = (if xa_cat v = 2 then [v, xC 1] else [v]) ++ xa_args vs := by simp [xa_args]
    rw [e1, e2, List.length_append, List.length_append, ih, xa_cv_cat h3]
    split <;> rfl
theorem xa_args_in (h3 : v3.category = 1) : ∀ (av : List xa_V) (i j : Nat) (v : xa_V), (xa_args av)[j]? = some v → v ≠ xC 1 → (i + j, xa_cv b0 ca v3 v) ∈ lv_args i (av.map (xa_cv b0 ca v3))
  | [], i, j, v, e, hv => by simp [xa_args] at e
  | a :: av, i, j, v, e, hv => by
    have e2 : xa_args (a :: av) = (if xa_cat a = 2 then [a, xC 1] else [a]) ++ xa_args av := by simp [xa_args]
    rw [e2] at e
    rw [List.map_cons, lv_args]
    by_cases ha : xa_cat a = 2
    · rw [if_pos ha] at e
      rw [if_pos (by rw [xa_cv_cat h3]; exact ha)]
      match j, e with
      | 0, e => simp at e; subst e; exact List.mem_cons_self
      | 1, e => simp at e; exact absurd e.symm hv
      | j + 2, e =>
        have e3 : (xa_args av)[j]? = some v := by simpa using e
        have := xa_args_in h3 av (i + 2) j v e3 hv
        rw [show i + (j + 2) = i + 2 + j by omega]
        exact List.mem_cons_of_mem _ this
    · rw [if_neg ha] at e
      rw [if_neg (by rw [xa_cv_cat h3]; exact ha)]
      match j, e with
      | 0, e => simp at e; subst e; exact List.mem_cons_self
      | j + 1, e =>
        have e3 : (xa_args av)[j]? = some v := by simpa using e
        have := xa_args_in h3 av (i + 1) j v e3 hv
        rw [show i + (j + 1) = i + 1 + j by omega]
        exact List.mem_cons_of_mem _ this
theorem xa_lr_entry {av : List xa_V} (h3 : v3.category = 1) (hl : (xa_args av).length ≤ nL) :
    xa_lr b0 ca v3 nL (xa_loc nL av) ((lg_sl (av.map (xa_cv b0 ca v3)) ++ List.replicate (nL - (lg_sl (av.map (xa_cv b0 ca v3))).length) Slot.unset).toArray) := by
  have h := lv_entry (av.map (xa_cv b0 ca v3)) (n := nL) (by rw [xa_sl_len h3]; exact hl)
  refine ⟨h.1, h.2.1, ?_, fun j v e hv => ?_⟩
  · unfold xa_loc
    rw [List.length_append, List.length_replicate]
    omega
  · unfold xa_loc at e
    by_cases hj : j < (xa_args av).length
    · rw [List.getElem?_append_left hj] at e
      have := xa_args_in (b0 := b0) (ca := ca) (v3 := v3) h3 av 0 j v e hv
      rw [Nat.zero_add] at this
      exact h.2.2 _ this
    · rw [List.getElem?_append_right (by omega)] at e
      have := List.eq_of_mem_replicate (List.mem_of_getElem? e)
      exact absurd this hv
end XL
