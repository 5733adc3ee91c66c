/-! Sets of marks, sentences, a paper's course: what the class's helpers do -/
theorem ih_ls {X : List Int} {mi i : Nat} {ls ls' st : List xa_V} {t : ih_S} {Q : Option xa_V → ih_S → Prop} (e : ls = ls') (k : ih_Wp X mi i ls' st t Q) : ih_Wp X mi i ls st t Q := e ▸ k
theorem ih_ts {X : List Int} {mi i : Nat} {ls st : List xa_V} {t t' : ih_S} {Q : Option xa_V → ih_S → Prop} (e : t = t') (k : ih_Wp X mi i ls st t' Q) : ih_Wp X mi i ls st t Q := e ▸ k
theorem ih_ss {X : List Int} {mi i : Nat} {ls st st' : List xa_V} {t : ih_S} {Q : Option xa_V → ih_S → Prop} (e : st = st') (k : ih_Wp X mi i ls st' t Q) : ih_Wp X mi i ls st t Q := e ▸ k
def ih_set (f : Nat → Bool) : Nat → Nat
  | 0 => 0
  | n + 1 => ih_set f n ||| (if f n then 2 ^ n else 0)
theorem ih_set_lt (f : Nat → Bool) : ∀ n, ih_set f n < 2 ^ n
  | 0 => Nat.one_pos
  | n + 1 => by
    refine Nat.or_lt_two_pow (Nat.lt_of_lt_of_le (ih_set_lt f n) (Nat.pow_le_pow_right (by decide) (by omega))) ?_
    split
    · exact Nat.pow_lt_pow_right (by decide) (by omega)
    · exact Nat.two_pow_pos _
theorem ih_set_bit (f : Nat → Bool) (k : Nat) : ∀ n, (ih_set f n).testBit k = (decide (k < n) && f k)
  | 0 => by simp [ih_set]
  | n + 1 => by
    rw [ih_set, Nat.testBit_or, ih_set_bit f k n]
    by_cases h : f n
    · rw [if_pos h, Nat.testBit_two_pow]
      by_cases e : n = k
      · subst e; simp [h]
      · have : (k < n + 1) ↔ k < n := by omega
        simp [e, this]
    · rw [if_neg h]
      by_cases e : n = k
      · subst e; simp [h]
      · have : (k < n + 1) ↔ k < n := by omega
        simp [this]
theorem ih_set_congr {f g : Nat → Bool} : ∀ {n}, (∀ k, k < n → f k = g k) → ih_set f n = ih_set g n
  | 0, _ => rfl
  | n + 1, h => by rw [ih_set, ih_set, ih_set_congr (fun k hk => h k (by omega)), h n (by omega)]
theorem ih_set_lt12 (f : Nat → Bool) {n : Nat} (h : n ≤ 12) : ih_set f n < 65536 := Nat.lt_of_lt_of_le (ih_set_lt f n) (Nat.le_trans (Nat.pow_le_pow_right (by decide) h) (by decide))
theorem ih_set_step (f : Nat → Bool) {n : Nat} (h : n ≤ 12) (hf : f n = true) : xa_or ((ih_set f n : Nat) : Int) (xa_shl 1 (n : Int)) = ((ih_set f (n + 1) : Nat) : Int) := by
  have h1 := ih_set_lt12 f h
  have h2 : 2 ^ n ≤ 2 ^ 12 := Nat.pow_le_pow_right (by decide) h
  rw [ih_shl1 (by omega), ih_or_n (by omega) (by omega), ih_set, if_pos hf]
theorem ih_set_skip (f : Nat → Bool) {n : Nat} (hf : f n = false) : ih_set f n = ih_set f (n + 1) := by
  rw [ih_set, hf, if_neg (by decide), Nat.or_zero]
/-- a sentence taken in so far: none is broken; else what is ored, anded, turned, whether a letter is wanted -/
abbrev ih_Se : Type := Option (Nat × (Nat × (Bool × Bool)))
def ih_tr (l : Int) : Nat := if l = 0 then 43690 else if l = 1 then 52428 else if l = 2 then 61680 else 65280
theorem ih_tr_lt (l : Int) : ih_tr l < 65536 := by unfold ih_tr; repeat' split
                                                   all_goals decide
def ih_s0 : ih_Se := some (0, 65535, false, true)
def ih_tk (kd l : Int) (e : ih_Se) : ih_Se := match e with
  | none => none
  | some (o, a, tu, wa) => if kd = 0 then e else if decide (kd = 3 ∨ kd = 5) = wa then none else if kd = 2 then some (o, a, !tu, wa) else if kd = 5 then some (o ||| a, 65535, tu, true) else if kd = 3 then some (o, a, tu, true) else some (o, a &&& (if tu then 65535 ^^^ ih_tr l else ih_tr l), false, false)
def ih_val (e : ih_Se) : Int := match e with
  | some (o, a, _, false) => ((o ||| a : Nat) : Int)
  | _ => -1
def ih_ok (e : ih_Se) : Prop := match e with
  | some (o, a, _, _) => o < 65536 ∧ a < 65536
  | none => True
theorem ih_ok_s0 : ih_ok ih_s0 := by constructor <;> decide
theorem ih_ok_tk {kd l : Int} {e : ih_Se} (h : ih_ok e) : ih_ok (ih_tk kd l e) := by
  match e, h with
  | none, _ => trivial
  | some (o, a, tu, wa), h =>
    have h1 := h.1
    have h2 := h.2
    have h3 : o ||| a < 65536 := Nat.or_lt_two_pow (n := 16) h1 h2
    unfold ih_tk
    dsimp only
    repeat' split
    all_goals first | exact h | trivial | exact ⟨h1, h2⟩ | exact ⟨h3, by decide⟩ | exact ⟨h1, Nat.lt_of_le_of_lt Nat.and_le_left h2⟩
theorem ih_val_rg {e : ih_Se} (h : ih_ok e) : -1 ≤ ih_val e ∧ ih_val e < 65536 := by
  match e, h with
  | none, _ => exact ⟨by decide, by decide⟩
  | some (o, a, tu, true), h => exact ⟨by show (-1 : Int) ≤ -1; decide, by show (-1 : Int) < 65536; decide⟩
  | some (o, a, tu, false), h =>
    have h3 : o ||| a < 65536 := Nat.or_lt_two_pow (n := 16) h.1 h.2
    show -1 ≤ ((o ||| a : Nat) : Int) ∧ ((o ||| a : Nat) : Int) < 65536
    omega
def ih_fd (kd lt : Nat → Int) (f : Nat → Bool) : Nat → ih_Se
  | 0 => ih_s0
  | n + 1 => if f n then ih_tk (kd n) (lt n) (ih_fd kd lt f n) else ih_fd kd lt f n
theorem ih_ok_fd (kd lt : Nat → Int) (f : Nat → Bool) : ∀ n, ih_ok (ih_fd kd lt f n)
  | 0 => ih_ok_s0
  | n + 1 => by
    rw [ih_fd]
    split
    · exact ih_ok_tk (ih_ok_fd kd lt f n)
    · exact ih_ok_fd kd lt f n
theorem ih_fd_congr {kd lt kd' lt' : Nat → Int} {f f' : Nat → Bool} : ∀ {n}, (∀ k, k < n → kd k = kd' k ∧ lt k = lt' k ∧ f k = f' k) → ih_fd kd lt f n = ih_fd kd' lt' f' n
  | 0, _ => rfl
  | n + 1, h => by
    obtain ⟨h1, h2, h3⟩ := h n (by omega)
    rw [ih_fd, ih_fd, ih_fd_congr (fun k hk => h k (by omega)), h1, h2, h3]
def ih_b (b : Bool) : Int := if b then 1 else 0
/-- the class's sentence in the cell N -/
def ih_SR (t : ih_S) (N : Nat) (e : ih_Se) : Prop := (t N 2 = 0 ∨ t N 2 = 1) ∧ (t N 3 = 0 ∨ t N 3 = 1) ∧ match e with
  | none => t N 4 = 1
  | some (o, a, tu, wa) => t N 4 = 0 ∧ t N 0 = (o : Int) ∧ t N 1 = (a : Int) ∧ t N 2 = ih_b tu ∧ t N 3 = ih_b wa

theorem c_begin {X : List Int} {t : ih_S} {Q : Option xa_V → ih_S → Prop} {c : Nat} (hc : c < 4) (k : ∀ t1, (∀ j, j ≠ 93 + 3 * c → t1 j = t j) → ih_SR t1 (93 + 3 * c) ih_s0 → Q none t1) : ih_Wp X 27 0 [xR (93 + 3 * c)] [] t Q := by
  refine ih_seg (i1 := 2) 2 rfl ?_
  refine ih_putI rfl (by first | rfl | exact ih_fN0 (by assumption)) rfl ?_
  refine ih_seg (i1 := 5) 2 rfl ?_
  refine ih_putI rfl (by first | rfl | exact ih_fN1 (by assumption)) rfl ?_
  refine ih_seg (i1 := 8) 2 rfl ?_
  refine ih_putI rfl (by first | rfl | exact ih_fN2 (by assumption)) rfl ?_
  refine ih_seg (i1 := 11) 2 rfl ?_
  refine ih_putI rfl (by first | rfl | exact ih_fN3 (by assumption)) rfl ?_
  refine ih_seg (i1 := 14) 2 rfl ?_
  refine ih_putI rfl (by first | rfl | exact ih_fN4 (by assumption)) rfl ?_
  refine ih_retv rfl ?_
  refine k _ (fun j hj => ?_) ?_
  · repeat rw [ih_up_ne hj]
  · simp only [ih_SR, ih_s0, ih_up_eq, ih_u1, Int.reduceEq, if_true, if_false, ih_b]
    simp


theorem ih_tr_get {l : Int} (hl : 0 ≤ l ∧ l < 4) : [43690, 52428, 61680, 65280][l.toNat]? = some (ih_tr l : Int) := by
  have : l = 0 ∨ l = 1 ∨ l = 2 ∨ l = 3 := by omega
  rcases this with rfl | rfl | rfl | rfl <;> rfl
theorem ih_SR_up {t : ih_S} {N : Nat} {j z : Int} {e e' : ih_Se} (h : ih_SR t N e) : ih_SR t N e := h

theorem c_take_n {X : List Int} {t : ih_S} {Q : Option xa_V → ih_S → Prop} {c : Nat} {kd l : Int}  (hc : c < 4) (hk : 0 ≤ kd ∧ kd < 7) (hl : 0 ≤ l ∧ l < 4) (ho : ih_ok none) (hr : ih_SR t (93 + 3 * c) none) (k : ∀ t1, (∀ j, j ≠ 93 + 3 * c → t1 j = t j) → ih_SR t1 (93 + 3 * c) (ih_tk kd l none) → Q none t1) : ih_Wp X 28 0 [xR (93 + 3 * c), xI kd, xI l, xC 1, xC 1] [] t Q := by
  have h2 := hr.1
  have h3 := hr.2.1
  have h4 : t (93 + 3 * c) 4 = 1 := hr.2.2
  refine ih_seg (i1 := 1) 1 rfl ?_
  refine ih_ifc_ne rfl (by omega) (fun w1 => ?_) (fun w1 => ?_)
  · refine ih_seg (i1 := 5) 2 rfl ?_
    refine ih_icmp_eq rfl (by omega) (by omega) (fun w2 => ?_) (fun w2 => ?_)
    · refine ih_seg (i1 := 15) 5 rfl ?_
      try simp only [xa_set, List.set_cons_zero, List.set_cons_succ, List.getElem?_cons_zero, List.getElem?_cons_succ]
      refine ih_getI rfl (by first | rfl | exact ih_fN3 (by assumption)) ?_
      refine ih_icmp_ne rfl (by omega) (by omega) (fun w3 => ?_) (fun w3 => ?_)
      · refine ih_seg (i1 := 23) 2 rfl ?_
        refine ih_icmp_ne rfl (by omega) (by omega) (fun w4 => ?_) (fun w4 => ?_)
        · refine ih_seg (i1 := 34) 1 rfl ?_
          refine ih_ifc_eq rfl (by omega) (fun w5 => ?_) (fun w5 => ?_)
          · refine ih_seg (i1 := 54) 2 rfl ?_
            refine ih_cald rfl rfl (by omega) (by show l < 4; omega) (by omega) (z := (ih_tr l : Int)) (ih_tr_get hl) ?_
            refine ih_seg (i1 := 58) 3 rfl ?_
            try simp only [xa_set, List.set_cons_zero, List.set_cons_succ, List.getElem?_cons_zero, List.getElem?_cons_succ]
            refine ih_getI rfl (by first | rfl | exact ih_fN1 (by assumption)) ?_
            refine ih_seg (i1 := 60) 1 rfl ?_
            refine ih_getI rfl (by first | rfl | exact ih_fN2 (by assumption)) ?_
            refine ih_ifc_eq rfl (by omega) (fun w6 => ?_) (fun w6 => ?_)
            · refine ih_seg (i1 := 68) 2 rfl ?_
              try dsimp only
              refine ih_putI rfl (by first | rfl | exact ih_fN1 (by assumption)) rfl ?_
              refine ih_seg (i1 := 71) 2 rfl ?_
              refine ih_putI rfl (by first | rfl | exact ih_fN2 (by assumption)) rfl ?_
              refine ih_seg (i1 := 74) 2 rfl ?_
              refine ih_putI rfl (by first | rfl | exact ih_fN3 (by assumption)) rfl ?_
              refine ih_retv rfl ?_
              refine k _ (fun j hj => by simp only [ih_up_ne hj]) ?_
              simp only [ih_SR, ih_tk, ih_up_eq, ih_u1, Int.reduceEq, if_true, if_false]
              simp [h2, h3, h4]
            · refine ih_seg (i1 := 68) 5 rfl ?_
              try dsimp only
              refine ih_putI rfl (by first | rfl | exact ih_fN1 (by assumption)) rfl ?_
              refine ih_seg (i1 := 71) 2 rfl ?_
              refine ih_putI rfl (by first | rfl | exact ih_fN2 (by assumption)) rfl ?_
              refine ih_seg (i1 := 74) 2 rfl ?_
              refine ih_putI rfl (by first | rfl | exact ih_fN3 (by assumption)) rfl ?_
              refine ih_retv rfl ?_
              refine k _ (fun j hj => by simp only [ih_up_ne hj]) ?_
              simp only [ih_SR, ih_tk, ih_up_eq, ih_u1, Int.reduceEq, if_true, if_false]
              simp [h2, h3, h4]
          · refine ih_seg (i1 := 37) 2 rfl ?_
            refine ih_icmp_ne rfl (by omega) (by omega) (fun w7 => ?_) (fun w7 => ?_)
            · refine ih_seg (i1 := 50) 2 rfl ?_
              refine ih_putI rfl (by first | rfl | exact ih_fN3 (by assumption)) rfl ?_
              refine ih_seg (i1 := 75) 1 rfl ?_
              refine ih_retv rfl ?_
              refine k _ (fun j hj => by simp only [ih_up_ne hj]) ?_
              simp only [ih_SR, ih_tk, ih_up_eq, ih_u1, Int.reduceEq, if_true, if_false]
              simp [h2, h3, h4]
            · refine ih_seg (i1 := 40) 2 rfl ?_
              refine ih_getI rfl (by first | rfl | exact ih_fN0 (by assumption)) ?_
              refine ih_seg (i1 := 42) 1 rfl ?_
              refine ih_getI rfl (by first | rfl | exact ih_fN1 (by assumption)) ?_
              refine ih_seg (i1 := 44) 1 rfl ?_
              try dsimp only
              refine ih_putI rfl (by first | rfl | exact ih_fN0 (by assumption)) rfl ?_
              refine ih_seg (i1 := 47) 2 rfl ?_
              refine ih_putI rfl (by first | rfl | exact ih_fN1 (by assumption)) rfl ?_
              refine ih_seg (i1 := 50) 2 rfl ?_
              refine ih_putI rfl (by first | rfl | exact ih_fN3 (by assumption)) rfl ?_
              refine ih_seg (i1 := 75) 1 rfl ?_
              refine ih_retv rfl ?_
              refine k _ (fun j hj => by simp only [ih_up_ne hj]) ?_
              simp only [ih_SR, ih_tk, ih_up_eq, ih_u1, Int.reduceEq, if_true, if_false]
              simp [h2, h3, h4]
        · refine ih_seg (i1 := 26) 2 rfl ?_
          refine ih_getI rfl (by first | rfl | exact ih_fN2 (by assumption)) ?_
          refine ih_ifc_ne rfl (by omega) (fun w8 => ?_) (fun w8 => ?_)
          · refine ih_seg (i1 := 31) 1 rfl ?_
            refine ih_putI rfl (by first | rfl | exact ih_fN2 (by assumption)) rfl ?_
            refine ih_seg (i1 := 75) 1 rfl ?_
            refine ih_retv rfl ?_
            refine k _ (fun j hj => by simp only [ih_up_ne hj]) ?_
            simp only [ih_SR, ih_tk, ih_up_eq, ih_u1, Int.reduceEq, if_true, if_false]
            simp [h2, h3, h4]
          · refine ih_seg (i1 := 31) 2 rfl ?_
            refine ih_putI rfl (by first | rfl | exact ih_fN2 (by assumption)) rfl ?_
            refine ih_seg (i1 := 75) 1 rfl ?_
            refine ih_retv rfl ?_
            refine k _ (fun j hj => by simp only [ih_up_ne hj]) ?_
            simp only [ih_SR, ih_tk, ih_up_eq, ih_u1, Int.reduceEq, if_true, if_false]
            simp [h2, h3, h4]
      · refine ih_seg (i1 := 19) 2 rfl ?_
        refine ih_putI rfl (by first | rfl | exact ih_fN4 (by assumption)) rfl ?_
        refine ih_seg (i1 := 75) 1 rfl ?_
        refine ih_retv rfl ?_
        refine k _ (fun j hj => by simp only [ih_up_ne hj]) ?_
        simp only [ih_SR, ih_tk, ih_up_eq, ih_u1, Int.reduceEq, if_true, if_false]
        simp [h2, h3, h4]
    · refine ih_seg (i1 := 8) 2 rfl ?_
      refine ih_icmp_ne rfl (by omega) (by omega) (fun w9 => ?_) (fun w9 => ?_)
      · refine ih_seg (i1 := 15) 4 rfl ?_
        try simp only [xa_set, List.set_cons_zero, List.set_cons_succ, List.getElem?_cons_zero, List.getElem?_cons_succ]
        refine ih_getI rfl (by first | rfl | exact ih_fN3 (by assumption)) ?_
        refine ih_icmp_ne rfl (by omega) (by omega) (fun w10 => ?_) (fun w10 => ?_)
        · refine ih_seg (i1 := 23) 2 rfl ?_
          refine ih_icmp_ne rfl (by omega) (by omega) (fun w11 => ?_) (fun w11 => ?_)
          · refine ih_seg (i1 := 34) 1 rfl ?_
            refine ih_ifc_eq rfl (by omega) (fun w12 => ?_) (fun w12 => ?_)
            · refine ih_seg (i1 := 54) 2 rfl ?_
              refine ih_cald rfl rfl (by omega) (by show l < 4; omega) (by omega) (z := (ih_tr l : Int)) (ih_tr_get hl) ?_
              refine ih_seg (i1 := 58) 3 rfl ?_
              try simp only [xa_set, List.set_cons_zero, List.set_cons_succ, List.getElem?_cons_zero, List.getElem?_cons_succ]
              refine ih_getI rfl (by first | rfl | exact ih_fN1 (by assumption)) ?_
              refine ih_seg (i1 := 60) 1 rfl ?_
              refine ih_getI rfl (by first | rfl | exact ih_fN2 (by assumption)) ?_
              refine ih_ifc_eq rfl (by omega) (fun w13 => ?_) (fun w13 => ?_)
              · refine ih_seg (i1 := 68) 2 rfl ?_
                try dsimp only
                refine ih_putI rfl (by first | rfl | exact ih_fN1 (by assumption)) rfl ?_
                refine ih_seg (i1 := 71) 2 rfl ?_
                refine ih_putI rfl (by first | rfl | exact ih_fN2 (by assumption)) rfl ?_
                refine ih_seg (i1 := 74) 2 rfl ?_
                refine ih_putI rfl (by first | rfl | exact ih_fN3 (by assumption)) rfl ?_
                refine ih_retv rfl ?_
                refine k _ (fun j hj => by simp only [ih_up_ne hj]) ?_
                simp only [ih_SR, ih_tk, ih_up_eq, ih_u1, Int.reduceEq, if_true, if_false]
                simp [h2, h3, h4]
              · refine ih_seg (i1 := 68) 5 rfl ?_
                try dsimp only
                refine ih_putI rfl (by first | rfl | exact ih_fN1 (by assumption)) rfl ?_
                refine ih_seg (i1 := 71) 2 rfl ?_
                refine ih_putI rfl (by first | rfl | exact ih_fN2 (by assumption)) rfl ?_
                refine ih_seg (i1 := 74) 2 rfl ?_
                refine ih_putI rfl (by first | rfl | exact ih_fN3 (by assumption)) rfl ?_
                refine ih_retv rfl ?_
                refine k _ (fun j hj => by simp only [ih_up_ne hj]) ?_
                simp only [ih_SR, ih_tk, ih_up_eq, ih_u1, Int.reduceEq, if_true, if_false]
                simp [h2, h3, h4]
            · refine ih_seg (i1 := 37) 2 rfl ?_
              refine ih_icmp_ne rfl (by omega) (by omega) (fun w14 => ?_) (fun w14 => ?_)
              · refine ih_seg (i1 := 50) 2 rfl ?_
                refine ih_putI rfl (by first | rfl | exact ih_fN3 (by assumption)) rfl ?_
                refine ih_seg (i1 := 75) 1 rfl ?_
                refine ih_retv rfl ?_
                refine k _ (fun j hj => by simp only [ih_up_ne hj]) ?_
                simp only [ih_SR, ih_tk, ih_up_eq, ih_u1, Int.reduceEq, if_true, if_false]
                simp [h2, h3, h4]
              · refine ih_seg (i1 := 40) 2 rfl ?_
                refine ih_getI rfl (by first | rfl | exact ih_fN0 (by assumption)) ?_
                refine ih_seg (i1 := 42) 1 rfl ?_
                refine ih_getI rfl (by first | rfl | exact ih_fN1 (by assumption)) ?_
                refine ih_seg (i1 := 44) 1 rfl ?_
                try dsimp only
                refine ih_putI rfl (by first | rfl | exact ih_fN0 (by assumption)) rfl ?_
                refine ih_seg (i1 := 47) 2 rfl ?_
                refine ih_putI rfl (by first | rfl | exact ih_fN1 (by assumption)) rfl ?_
                refine ih_seg (i1 := 50) 2 rfl ?_
                refine ih_putI rfl (by first | rfl | exact ih_fN3 (by assumption)) rfl ?_
                refine ih_seg (i1 := 75) 1 rfl ?_
                refine ih_retv rfl ?_
                refine k _ (fun j hj => by simp only [ih_up_ne hj]) ?_
                simp only [ih_SR, ih_tk, ih_up_eq, ih_u1, Int.reduceEq, if_true, if_false]
                simp [h2, h3, h4]
          · refine ih_seg (i1 := 26) 2 rfl ?_
            refine ih_getI rfl (by first | rfl | exact ih_fN2 (by assumption)) ?_
            refine ih_ifc_ne rfl (by omega) (fun w15 => ?_) (fun w15 => ?_)
            · refine ih_seg (i1 := 31) 1 rfl ?_
              refine ih_putI rfl (by first | rfl | exact ih_fN2 (by assumption)) rfl ?_
              refine ih_seg (i1 := 75) 1 rfl ?_
              refine ih_retv rfl ?_
              refine k _ (fun j hj => by simp only [ih_up_ne hj]) ?_
              simp only [ih_SR, ih_tk, ih_up_eq, ih_u1, Int.reduceEq, if_true, if_false]
              simp [h2, h3, h4]
            · refine ih_seg (i1 := 31) 2 rfl ?_
              refine ih_putI rfl (by first | rfl | exact ih_fN2 (by assumption)) rfl ?_
              refine ih_seg (i1 := 75) 1 rfl ?_
              refine ih_retv rfl ?_
              refine k _ (fun j hj => by simp only [ih_up_ne hj]) ?_
              simp only [ih_SR, ih_tk, ih_up_eq, ih_u1, Int.reduceEq, if_true, if_false]
              simp [h2, h3, h4]
        · refine ih_seg (i1 := 19) 2 rfl ?_
          refine ih_putI rfl (by first | rfl | exact ih_fN4 (by assumption)) rfl ?_
          refine ih_seg (i1 := 75) 1 rfl ?_
          refine ih_retv rfl ?_
          refine k _ (fun j hj => by simp only [ih_up_ne hj]) ?_
          simp only [ih_SR, ih_tk, ih_up_eq, ih_u1, Int.reduceEq, if_true, if_false]
          simp [h2, h3, h4]
      · refine ih_seg (i1 := 15) 5 rfl ?_
        try simp only [xa_set, List.set_cons_zero, List.set_cons_succ, List.getElem?_cons_zero, List.getElem?_cons_succ]
        refine ih_getI rfl (by first | rfl | exact ih_fN3 (by assumption)) ?_
        refine ih_icmp_ne rfl (by omega) (by omega) (fun w16 => ?_) (fun w16 => ?_)
        · refine ih_seg (i1 := 23) 2 rfl ?_
          refine ih_icmp_ne rfl (by omega) (by omega) (fun w17 => ?_) (fun w17 => ?_)
          · refine ih_seg (i1 := 34) 1 rfl ?_
            refine ih_ifc_eq rfl (by omega) (fun w18 => ?_) (fun w18 => ?_)
            · refine ih_seg (i1 := 54) 2 rfl ?_
              refine ih_cald rfl rfl (by omega) (by show l < 4; omega) (by omega) (z := (ih_tr l : Int)) (ih_tr_get hl) ?_
              refine ih_seg (i1 := 58) 3 rfl ?_
              try simp only [xa_set, List.set_cons_zero, List.set_cons_succ, List.getElem?_cons_zero, List.getElem?_cons_succ]
              refine ih_getI rfl (by first | rfl | exact ih_fN1 (by assumption)) ?_
              refine ih_seg (i1 := 60) 1 rfl ?_
              refine ih_getI rfl (by first | rfl | exact ih_fN2 (by assumption)) ?_
              refine ih_ifc_eq rfl (by omega) (fun w19 => ?_) (fun w19 => ?_)
              · refine ih_seg (i1 := 68) 2 rfl ?_
                try dsimp only
                refine ih_putI rfl (by first | rfl | exact ih_fN1 (by assumption)) rfl ?_
                refine ih_seg (i1 := 71) 2 rfl ?_
                refine ih_putI rfl (by first | rfl | exact ih_fN2 (by assumption)) rfl ?_
                refine ih_seg (i1 := 74) 2 rfl ?_
                refine ih_putI rfl (by first | rfl | exact ih_fN3 (by assumption)) rfl ?_
                refine ih_retv rfl ?_
                refine k _ (fun j hj => by simp only [ih_up_ne hj]) ?_
                simp only [ih_SR, ih_tk, ih_up_eq, ih_u1, Int.reduceEq, if_true, if_false]
                simp [h2, h3, h4]
              · refine ih_seg (i1 := 68) 5 rfl ?_
                try dsimp only
                refine ih_putI rfl (by first | rfl | exact ih_fN1 (by assumption)) rfl ?_
                refine ih_seg (i1 := 71) 2 rfl ?_
                refine ih_putI rfl (by first | rfl | exact ih_fN2 (by assumption)) rfl ?_
                refine ih_seg (i1 := 74) 2 rfl ?_
                refine ih_putI rfl (by first | rfl | exact ih_fN3 (by assumption)) rfl ?_
                refine ih_retv rfl ?_
                refine k _ (fun j hj => by simp only [ih_up_ne hj]) ?_
                simp only [ih_SR, ih_tk, ih_up_eq, ih_u1, Int.reduceEq, if_true, if_false]
                simp [h2, h3, h4]
            · refine ih_seg (i1 := 37) 2 rfl ?_
              refine ih_icmp_ne rfl (by omega) (by omega) (fun w20 => ?_) (fun w20 => ?_)
              · refine ih_seg (i1 := 50) 2 rfl ?_
                refine ih_putI rfl (by first | rfl | exact ih_fN3 (by assumption)) rfl ?_
                refine ih_seg (i1 := 75) 1 rfl ?_
                refine ih_retv rfl ?_
                refine k _ (fun j hj => by simp only [ih_up_ne hj]) ?_
                simp only [ih_SR, ih_tk, ih_up_eq, ih_u1, Int.reduceEq, if_true, if_false]
                simp [h2, h3, h4]
              · refine ih_seg (i1 := 40) 2 rfl ?_
                refine ih_getI rfl (by first | rfl | exact ih_fN0 (by assumption)) ?_
                refine ih_seg (i1 := 42) 1 rfl ?_
                refine ih_getI rfl (by first | rfl | exact ih_fN1 (by assumption)) ?_
                refine ih_seg (i1 := 44) 1 rfl ?_
                try dsimp only
                refine ih_putI rfl (by first | rfl | exact ih_fN0 (by assumption)) rfl ?_
                refine ih_seg (i1 := 47) 2 rfl ?_
                refine ih_putI rfl (by first | rfl | exact ih_fN1 (by assumption)) rfl ?_
                refine ih_seg (i1 := 50) 2 rfl ?_
                refine ih_putI rfl (by first | rfl | exact ih_fN3 (by assumption)) rfl ?_
                refine ih_seg (i1 := 75) 1 rfl ?_
                refine ih_retv rfl ?_
                refine k _ (fun j hj => by simp only [ih_up_ne hj]) ?_
                simp only [ih_SR, ih_tk, ih_up_eq, ih_u1, Int.reduceEq, if_true, if_false]
                simp [h2, h3, h4]
          · refine ih_seg (i1 := 26) 2 rfl ?_
            refine ih_getI rfl (by first | rfl | exact ih_fN2 (by assumption)) ?_
            refine ih_ifc_ne rfl (by omega) (fun w21 => ?_) (fun w21 => ?_)
            · refine ih_seg (i1 := 31) 1 rfl ?_
              refine ih_putI rfl (by first | rfl | exact ih_fN2 (by assumption)) rfl ?_
              refine ih_seg (i1 := 75) 1 rfl ?_
              refine ih_retv rfl ?_
              refine k _ (fun j hj => by simp only [ih_up_ne hj]) ?_
              simp only [ih_SR, ih_tk, ih_up_eq, ih_u1, Int.reduceEq, if_true, if_false]
              simp [h2, h3, h4]
            · refine ih_seg (i1 := 31) 2 rfl ?_
              refine ih_putI rfl (by first | rfl | exact ih_fN2 (by assumption)) rfl ?_
              refine ih_seg (i1 := 75) 1 rfl ?_
              refine ih_retv rfl ?_
              refine k _ (fun j hj => by simp only [ih_up_ne hj]) ?_
              simp only [ih_SR, ih_tk, ih_up_eq, ih_u1, Int.reduceEq, if_true, if_false]
              simp [h2, h3, h4]
        · refine ih_seg (i1 := 19) 2 rfl ?_
          refine ih_putI rfl (by first | rfl | exact ih_fN4 (by assumption)) rfl ?_
          refine ih_seg (i1 := 75) 1 rfl ?_
          refine ih_retv rfl ?_
          refine k _ (fun j hj => by simp only [ih_up_ne hj]) ?_
          simp only [ih_SR, ih_tk, ih_up_eq, ih_u1, Int.reduceEq, if_true, if_false]
          simp [h2, h3, h4]
  · refine ih_retv rfl ?_
    refine k _ (fun j hj => by simp only [ih_up_ne hj]) ?_
    simp only [ih_SR, ih_tk, ih_up_eq, ih_u1, Int.reduceEq, if_true, if_false]
    simp [h2, h3, h4]


theorem c_take_s {X : List Int} {t : ih_S} {Q : Option xa_V → ih_S → Prop} {c : Nat} {kd l : Int} {o a : Nat} {tu wa : Bool} (hc : c < 4) (hk : 0 ≤ kd ∧ kd < 7) (hl : 0 ≤ l ∧ l < 4) (ho : ih_ok (some (o, a, tu, wa))) (hr : ih_SR t (93 + 3 * c) (some (o, a, tu, wa))) (k : ∀ t1, (∀ j, j ≠ 93 + 3 * c → t1 j = t j) → ih_SR t1 (93 + 3 * c) (ih_tk kd l (some (o, a, tu, wa))) → Q none t1) : ih_Wp X 28 0 [xR (93 + 3 * c), xI kd, xI l, xC 1, xC 1] [] t Q := by
  have h2 := hr.1
  have h3 := hr.2.1
  obtain ⟨h4, e0, e1, e2, e3⟩ : t (93 + 3 * c) 4 = 0 ∧ t (93 + 3 * c) 0 = (o : Int) ∧ t (93 + 3 * c) 1 = (a : Int) ∧ t (93 + 3 * c) 2 = ih_b tu ∧ t (93 + 3 * c) 3 = ih_b wa := hr.2.2
  obtain ⟨ho1, ho2⟩ : o < 65536 ∧ a < 65536 := ho
  have l1 := ih_tr_lt l
  have q1 : xa_or (o : Int) (a : Int) = ((o ||| a : Nat) : Int) := ih_or_n (by omega) (by omega)
  have q2 : xa_xor 65535 (ih_tr l : Int) = ((65535 ^^^ ih_tr l : Nat) : Int) := ih_xor_n (a := 65535) (by omega) (by omega)
  have l2 : 65535 ^^^ ih_tr l < 65536 := Nat.xor_lt_two_pow (n := 16) (by decide) l1
  have q3 : xa_and (a : Int) (ih_tr l : Int) = ((a &&& ih_tr l : Nat) : Int) := ih_and_n (by omega) (by omega)
  have q4 : xa_and (a : Int) ((65535 ^^^ ih_tr l : Nat) : Int) = ((a &&& (65535 ^^^ ih_tr l) : Nat) : Int) := ih_and_n (by omega) (by omega)
  refine ih_seg (i1 := 1) 1 rfl ?_
  refine ih_ifc_ne rfl (by omega) (fun w1 => ?_) (fun w1 => ?_)
  · refine ih_seg (i1 := 5) 2 rfl ?_
    refine ih_icmp_eq rfl (by omega) (by omega) (fun w2 => ?_) (fun w2 => ?_)
    · refine ih_seg (i1 := 15) 5 rfl ?_
      try simp only [xa_set, List.set_cons_zero, List.set_cons_succ, List.getElem?_cons_zero, List.getElem?_cons_succ]
      refine ih_getI rfl (by first | rfl | exact ih_fN3 (by assumption)) ?_
      refine ih_icmp_ne rfl (by omega) (by omega) (fun w3 => ?_) (fun w3 => ?_)
      · refine ih_seg (i1 := 23) 2 rfl ?_
        refine ih_icmp_ne rfl (by omega) (by omega) (fun w4 => ?_) (fun w4 => ?_)
        · refine ih_seg (i1 := 34) 1 rfl ?_
          refine ih_ifc_eq rfl (by omega) (fun w5 => ?_) (fun w5 => ?_)
          · refine ih_seg (i1 := 54) 2 rfl ?_
            refine ih_cald rfl rfl (by omega) (by show l < 4; omega) (by omega) (z := (ih_tr l : Int)) (ih_tr_get hl) ?_
            refine ih_seg (i1 := 58) 3 rfl ?_
            try simp only [xa_set, List.set_cons_zero, List.set_cons_succ, List.getElem?_cons_zero, List.getElem?_cons_succ]
            refine ih_getI rfl (by first | rfl | exact ih_fN1 (by assumption)) ?_
            refine ih_seg (i1 := 60) 1 rfl ?_
            refine ih_getI rfl (by first | rfl | exact ih_fN2 (by assumption)) ?_
            refine ih_ifc_eq rfl (by omega) (fun w6 => ?_) (fun w6 => ?_)
            · refine ih_seg (i1 := 68) 2 rfl ?_
              try dsimp only
              refine ih_putI rfl (by first | rfl | exact ih_fN1 (by assumption)) rfl ?_
              refine ih_seg (i1 := 71) 2 rfl ?_
              refine ih_putI rfl (by first | rfl | exact ih_fN2 (by assumption)) rfl ?_
              refine ih_seg (i1 := 74) 2 rfl ?_
              refine ih_putI rfl (by first | rfl | exact ih_fN3 (by assumption)) rfl ?_
              refine ih_retv rfl ?_
              refine k _ (fun j hj => by simp only [ih_up_ne hj]) ?_
              simp only [ih_SR, ih_tk, ih_up_eq, ih_u1, Int.reduceEq, if_true, if_false]
              cases tu <;> cases wa <;> simp_all [ih_b]
            · refine ih_seg (i1 := 68) 5 rfl ?_
              try dsimp only
              refine ih_putI rfl (by first | rfl | exact ih_fN1 (by assumption)) rfl ?_
              refine ih_seg (i1 := 71) 2 rfl ?_
              refine ih_putI rfl (by first | rfl | exact ih_fN2 (by assumption)) rfl ?_
              refine ih_seg (i1 := 74) 2 rfl ?_
              refine ih_putI rfl (by first | rfl | exact ih_fN3 (by assumption)) rfl ?_
              refine ih_retv rfl ?_
              refine k _ (fun j hj => by simp only [ih_up_ne hj]) ?_
              simp only [ih_SR, ih_tk, ih_up_eq, ih_u1, Int.reduceEq, if_true, if_false]
              cases tu <;> cases wa <;> simp_all [ih_b]
          · refine ih_seg (i1 := 37) 2 rfl ?_
            refine ih_icmp_ne rfl (by omega) (by omega) (fun w7 => ?_) (fun w7 => ?_)
            · refine ih_seg (i1 := 50) 2 rfl ?_
              refine ih_putI rfl (by first | rfl | exact ih_fN3 (by assumption)) rfl ?_
              refine ih_seg (i1 := 75) 1 rfl ?_
              refine ih_retv rfl ?_
              refine k _ (fun j hj => by simp only [ih_up_ne hj]) ?_
              simp only [ih_SR, ih_tk, ih_up_eq, ih_u1, Int.reduceEq, if_true, if_false]
              cases tu <;> cases wa <;> simp_all [ih_b]
            · refine ih_seg (i1 := 40) 2 rfl ?_
              refine ih_getI rfl (by first | rfl | exact ih_fN0 (by assumption)) ?_
              refine ih_seg (i1 := 42) 1 rfl ?_
              refine ih_getI rfl (by first | rfl | exact ih_fN1 (by assumption)) ?_
              refine ih_seg (i1 := 44) 1 rfl ?_
              try dsimp only
              refine ih_putI rfl (by first | rfl | exact ih_fN0 (by assumption)) rfl ?_
              refine ih_seg (i1 := 47) 2 rfl ?_
              refine ih_putI rfl (by first | rfl | exact ih_fN1 (by assumption)) rfl ?_
              refine ih_seg (i1 := 50) 2 rfl ?_
              refine ih_putI rfl (by first | rfl | exact ih_fN3 (by assumption)) rfl ?_
              refine ih_seg (i1 := 75) 1 rfl ?_
              refine ih_retv rfl ?_
              refine k _ (fun j hj => by simp only [ih_up_ne hj]) ?_
              simp only [ih_SR, ih_tk, ih_up_eq, ih_u1, Int.reduceEq, if_true, if_false]
              cases tu <;> cases wa <;> simp_all [ih_b]
        · refine ih_seg (i1 := 26) 2 rfl ?_
          refine ih_getI rfl (by first | rfl | exact ih_fN2 (by assumption)) ?_
          refine ih_ifc_ne rfl (by omega) (fun w8 => ?_) (fun w8 => ?_)
          · refine ih_seg (i1 := 31) 1 rfl ?_
            refine ih_putI rfl (by first | rfl | exact ih_fN2 (by assumption)) rfl ?_
            refine ih_seg (i1 := 75) 1 rfl ?_
            refine ih_retv rfl ?_
            refine k _ (fun j hj => by simp only [ih_up_ne hj]) ?_
            simp only [ih_SR, ih_tk, ih_up_eq, ih_u1, Int.reduceEq, if_true, if_false]
            cases tu <;> cases wa <;> simp_all [ih_b]
          · refine ih_seg (i1 := 31) 2 rfl ?_
            refine ih_putI rfl (by first | rfl | exact ih_fN2 (by assumption)) rfl ?_
            refine ih_seg (i1 := 75) 1 rfl ?_
            refine ih_retv rfl ?_
            refine k _ (fun j hj => by simp only [ih_up_ne hj]) ?_
            simp only [ih_SR, ih_tk, ih_up_eq, ih_u1, Int.reduceEq, if_true, if_false]
            cases tu <;> cases wa <;> simp_all [ih_b]
      · refine ih_seg (i1 := 19) 2 rfl ?_
        refine ih_putI rfl (by first | rfl | exact ih_fN4 (by assumption)) rfl ?_
        refine ih_seg (i1 := 75) 1 rfl ?_
        refine ih_retv rfl ?_
        refine k _ (fun j hj => by simp only [ih_up_ne hj]) ?_
        simp only [ih_SR, ih_tk, ih_up_eq, ih_u1, Int.reduceEq, if_true, if_false]
        cases tu <;> cases wa <;> simp_all [ih_b]
    · refine ih_seg (i1 := 8) 2 rfl ?_
      refine ih_icmp_ne rfl (by omega) (by omega) (fun w9 => ?_) (fun w9 => ?_)
      · refine ih_seg (i1 := 15) 4 rfl ?_
        try simp only [xa_set, List.set_cons_zero, List.set_cons_succ, List.getElem?_cons_zero, List.getElem?_cons_succ]
        refine ih_getI rfl (by first | rfl | exact ih_fN3 (by assumption)) ?_
        refine ih_icmp_ne rfl (by omega) (by omega) (fun w10 => ?_) (fun w10 => ?_)
        · refine ih_seg (i1 := 23) 2 rfl ?_
          refine ih_icmp_ne rfl (by omega) (by omega) (fun w11 => ?_) (fun w11 => ?_)
          · refine ih_seg (i1 := 34) 1 rfl ?_
            refine ih_ifc_eq rfl (by omega) (fun w12 => ?_) (fun w12 => ?_)
            · refine ih_seg (i1 := 54) 2 rfl ?_
              refine ih_cald rfl rfl (by omega) (by show l < 4; omega) (by omega) (z := (ih_tr l : Int)) (ih_tr_get hl) ?_
              refine ih_seg (i1 := 58) 3 rfl ?_
              try simp only [xa_set, List.set_cons_zero, List.set_cons_succ, List.getElem?_cons_zero, List.getElem?_cons_succ]
              refine ih_getI rfl (by first | rfl | exact ih_fN1 (by assumption)) ?_
              refine ih_seg (i1 := 60) 1 rfl ?_
              refine ih_getI rfl (by first | rfl | exact ih_fN2 (by assumption)) ?_
              refine ih_ifc_eq rfl (by omega) (fun w13 => ?_) (fun w13 => ?_)
              · refine ih_seg (i1 := 68) 2 rfl ?_
                try dsimp only
                refine ih_putI rfl (by first | rfl | exact ih_fN1 (by assumption)) rfl ?_
                refine ih_seg (i1 := 71) 2 rfl ?_
                refine ih_putI rfl (by first | rfl | exact ih_fN2 (by assumption)) rfl ?_
                refine ih_seg (i1 := 74) 2 rfl ?_
                refine ih_putI rfl (by first | rfl | exact ih_fN3 (by assumption)) rfl ?_
                refine ih_retv rfl ?_
                refine k _ (fun j hj => by simp only [ih_up_ne hj]) ?_
                simp only [ih_SR, ih_tk, ih_up_eq, ih_u1, Int.reduceEq, if_true, if_false]
                cases tu <;> cases wa <;> simp_all [ih_b]
              · refine ih_seg (i1 := 68) 5 rfl ?_
                try dsimp only
                refine ih_putI rfl (by first | rfl | exact ih_fN1 (by assumption)) rfl ?_
                refine ih_seg (i1 := 71) 2 rfl ?_
                refine ih_putI rfl (by first | rfl | exact ih_fN2 (by assumption)) rfl ?_
                refine ih_seg (i1 := 74) 2 rfl ?_
                refine ih_putI rfl (by first | rfl | exact ih_fN3 (by assumption)) rfl ?_
                refine ih_retv rfl ?_
                refine k _ (fun j hj => by simp only [ih_up_ne hj]) ?_
                simp only [ih_SR, ih_tk, ih_up_eq, ih_u1, Int.reduceEq, if_true, if_false]
                cases tu <;> cases wa <;> simp_all [ih_b]
            · refine ih_seg (i1 := 37) 2 rfl ?_
              refine ih_icmp_ne rfl (by omega) (by omega) (fun w14 => ?_) (fun w14 => ?_)
              · refine ih_seg (i1 := 50) 2 rfl ?_
                refine ih_putI rfl (by first | rfl | exact ih_fN3 (by assumption)) rfl ?_
                refine ih_seg (i1 := 75) 1 rfl ?_
                refine ih_retv rfl ?_
                refine k _ (fun j hj => by simp only [ih_up_ne hj]) ?_
                simp only [ih_SR, ih_tk, ih_up_eq, ih_u1, Int.reduceEq, if_true, if_false]
                cases tu <;> cases wa <;> simp_all [ih_b]
              · refine ih_seg (i1 := 40) 2 rfl ?_
                refine ih_getI rfl (by first | rfl | exact ih_fN0 (by assumption)) ?_
                refine ih_seg (i1 := 42) 1 rfl ?_
                refine ih_getI rfl (by first | rfl | exact ih_fN1 (by assumption)) ?_
                refine ih_seg (i1 := 44) 1 rfl ?_
                try dsimp only
                refine ih_putI rfl (by first | rfl | exact ih_fN0 (by assumption)) rfl ?_
                refine ih_seg (i1 := 47) 2 rfl ?_
                refine ih_putI rfl (by first | rfl | exact ih_fN1 (by assumption)) rfl ?_
                refine ih_seg (i1 := 50) 2 rfl ?_
                refine ih_putI rfl (by first | rfl | exact ih_fN3 (by assumption)) rfl ?_
                refine ih_seg (i1 := 75) 1 rfl ?_
                refine ih_retv rfl ?_
                refine k _ (fun j hj => by simp only [ih_up_ne hj]) ?_
                simp only [ih_SR, ih_tk, ih_up_eq, ih_u1, Int.reduceEq, if_true, if_false]
                cases tu <;> cases wa <;> simp_all [ih_b]
          · refine ih_seg (i1 := 26) 2 rfl ?_
            refine ih_getI rfl (by first | rfl | exact ih_fN2 (by assumption)) ?_
            refine ih_ifc_ne rfl (by omega) (fun w15 => ?_) (fun w15 => ?_)
            · refine ih_seg (i1 := 31) 1 rfl ?_
              refine ih_putI rfl (by first | rfl | exact ih_fN2 (by assumption)) rfl ?_
              refine ih_seg (i1 := 75) 1 rfl ?_
              refine ih_retv rfl ?_
              refine k _ (fun j hj => by simp only [ih_up_ne hj]) ?_
              simp only [ih_SR, ih_tk, ih_up_eq, ih_u1, Int.reduceEq, if_true, if_false]
              cases tu <;> cases wa <;> simp_all [ih_b]
            · refine ih_seg (i1 := 31) 2 rfl ?_
              refine ih_putI rfl (by first | rfl | exact ih_fN2 (by assumption)) rfl ?_
              refine ih_seg (i1 := 75) 1 rfl ?_
              refine ih_retv rfl ?_
              refine k _ (fun j hj => by simp only [ih_up_ne hj]) ?_
              simp only [ih_SR, ih_tk, ih_up_eq, ih_u1, Int.reduceEq, if_true, if_false]
              cases tu <;> cases wa <;> simp_all [ih_b]
        · refine ih_seg (i1 := 19) 2 rfl ?_
          refine ih_putI rfl (by first | rfl | exact ih_fN4 (by assumption)) rfl ?_
          refine ih_seg (i1 := 75) 1 rfl ?_
          refine ih_retv rfl ?_
          refine k _ (fun j hj => by simp only [ih_up_ne hj]) ?_
          simp only [ih_SR, ih_tk, ih_up_eq, ih_u1, Int.reduceEq, if_true, if_false]
          cases tu <;> cases wa <;> simp_all [ih_b]
      · refine ih_seg (i1 := 15) 5 rfl ?_
        try simp only [xa_set, List.set_cons_zero, List.set_cons_succ, List.getElem?_cons_zero, List.getElem?_cons_succ]
        refine ih_getI rfl (by first | rfl | exact ih_fN3 (by assumption)) ?_
        refine ih_icmp_ne rfl (by omega) (by omega) (fun w16 => ?_) (fun w16 => ?_)
        · refine ih_seg (i1 := 23) 2 rfl ?_
          refine ih_icmp_ne rfl (by omega) (by omega) (fun w17 => ?_) (fun w17 => ?_)
          · refine ih_seg (i1 := 34) 1 rfl ?_
            refine ih_ifc_eq rfl (by omega) (fun w18 => ?_) (fun w18 => ?_)
            · refine ih_seg (i1 := 54) 2 rfl ?_
              refine ih_cald rfl rfl (by omega) (by show l < 4; omega) (by omega) (z := (ih_tr l : Int)) (ih_tr_get hl) ?_
              refine ih_seg (i1 := 58) 3 rfl ?_
              try simp only [xa_set, List.set_cons_zero, List.set_cons_succ, List.getElem?_cons_zero, List.getElem?_cons_succ]
              refine ih_getI rfl (by first | rfl | exact ih_fN1 (by assumption)) ?_
              refine ih_seg (i1 := 60) 1 rfl ?_
              refine ih_getI rfl (by first | rfl | exact ih_fN2 (by assumption)) ?_
              refine ih_ifc_eq rfl (by omega) (fun w19 => ?_) (fun w19 => ?_)
              · refine ih_seg (i1 := 68) 2 rfl ?_
                try dsimp only
                refine ih_putI rfl (by first | rfl | exact ih_fN1 (by assumption)) rfl ?_
                refine ih_seg (i1 := 71) 2 rfl ?_
                refine ih_putI rfl (by first | rfl | exact ih_fN2 (by assumption)) rfl ?_
                refine ih_seg (i1 := 74) 2 rfl ?_
                refine ih_putI rfl (by first | rfl | exact ih_fN3 (by assumption)) rfl ?_
                refine ih_retv rfl ?_
                refine k _ (fun j hj => by simp only [ih_up_ne hj]) ?_
                simp only [ih_SR, ih_tk, ih_up_eq, ih_u1, Int.reduceEq, if_true, if_false]
                cases tu <;> cases wa <;> simp_all [ih_b]
              · refine ih_seg (i1 := 68) 5 rfl ?_
                try dsimp only
                refine ih_putI rfl (by first | rfl | exact ih_fN1 (by assumption)) rfl ?_
                refine ih_seg (i1 := 71) 2 rfl ?_
                refine ih_putI rfl (by first | rfl | exact ih_fN2 (by assumption)) rfl ?_
                refine ih_seg (i1 := 74) 2 rfl ?_
                refine ih_putI rfl (by first | rfl | exact ih_fN3 (by assumption)) rfl ?_
                refine ih_retv rfl ?_
                refine k _ (fun j hj => by simp only [ih_up_ne hj]) ?_
                simp only [ih_SR, ih_tk, ih_up_eq, ih_u1, Int.reduceEq, if_true, if_false]
                cases tu <;> cases wa <;> simp_all [ih_b]
            · refine ih_seg (i1 := 37) 2 rfl ?_
              refine ih_icmp_ne rfl (by omega) (by omega) (fun w20 => ?_) (fun w20 => ?_)
              · refine ih_seg (i1 := 50) 2 rfl ?_
                refine ih_putI rfl (by first | rfl | exact ih_fN3 (by assumption)) rfl ?_
                refine ih_seg (i1 := 75) 1 rfl ?_
                refine ih_retv rfl ?_
                refine k _ (fun j hj => by simp only [ih_up_ne hj]) ?_
                simp only [ih_SR, ih_tk, ih_up_eq, ih_u1, Int.reduceEq, if_true, if_false]
                cases tu <;> cases wa <;> simp_all [ih_b]
              · refine ih_seg (i1 := 40) 2 rfl ?_
                refine ih_getI rfl (by first | rfl | exact ih_fN0 (by assumption)) ?_
                refine ih_seg (i1 := 42) 1 rfl ?_
                refine ih_getI rfl (by first | rfl | exact ih_fN1 (by assumption)) ?_
                refine ih_seg (i1 := 44) 1 rfl ?_
                try dsimp only
                refine ih_putI rfl (by first | rfl | exact ih_fN0 (by assumption)) rfl ?_
                refine ih_seg (i1 := 47) 2 rfl ?_
                refine ih_putI rfl (by first | rfl | exact ih_fN1 (by assumption)) rfl ?_
                refine ih_seg (i1 := 50) 2 rfl ?_
                refine ih_putI rfl (by first | rfl | exact ih_fN3 (by assumption)) rfl ?_
                refine ih_seg (i1 := 75) 1 rfl ?_
                refine ih_retv rfl ?_
                refine k _ (fun j hj => by simp only [ih_up_ne hj]) ?_
                simp only [ih_SR, ih_tk, ih_up_eq, ih_u1, Int.reduceEq, if_true, if_false]
                cases tu <;> cases wa <;> simp_all [ih_b]
          · refine ih_seg (i1 := 26) 2 rfl ?_
            refine ih_getI rfl (by first | rfl | exact ih_fN2 (by assumption)) ?_
            refine ih_ifc_ne rfl (by omega) (fun w21 => ?_) (fun w21 => ?_)
            · refine ih_seg (i1 := 31) 1 rfl ?_
              refine ih_putI rfl (by first | rfl | exact ih_fN2 (by assumption)) rfl ?_
              refine ih_seg (i1 := 75) 1 rfl ?_
              refine ih_retv rfl ?_
              refine k _ (fun j hj => by simp only [ih_up_ne hj]) ?_
              simp only [ih_SR, ih_tk, ih_up_eq, ih_u1, Int.reduceEq, if_true, if_false]
              cases tu <;> cases wa <;> simp_all [ih_b]
            · refine ih_seg (i1 := 31) 2 rfl ?_
              refine ih_putI rfl (by first | rfl | exact ih_fN2 (by assumption)) rfl ?_
              refine ih_seg (i1 := 75) 1 rfl ?_
              refine ih_retv rfl ?_
              refine k _ (fun j hj => by simp only [ih_up_ne hj]) ?_
              simp only [ih_SR, ih_tk, ih_up_eq, ih_u1, Int.reduceEq, if_true, if_false]
              cases tu <;> cases wa <;> simp_all [ih_b]
        · refine ih_seg (i1 := 19) 2 rfl ?_
          refine ih_putI rfl (by first | rfl | exact ih_fN4 (by assumption)) rfl ?_
          refine ih_seg (i1 := 75) 1 rfl ?_
          refine ih_retv rfl ?_
          refine k _ (fun j hj => by simp only [ih_up_ne hj]) ?_
          simp only [ih_SR, ih_tk, ih_up_eq, ih_u1, Int.reduceEq, if_true, if_false]
          cases tu <;> cases wa <;> simp_all [ih_b]
  · refine ih_retv rfl ?_
    refine k _ (fun j hj => by simp only [ih_up_ne hj]) ?_
    simp only [ih_SR, ih_tk, ih_up_eq, ih_u1, Int.reduceEq, if_true, if_false]
    cases tu <;> cases wa <;> simp_all [ih_b]

