/-! scratch, hold -/
def ih_dr (f : Int → Int) (m n : Int) : Int → Int := fun x => if m ≤ x ∧ x < n then f (x + 1) else f x
def ih_fs (s5 s6 : Int → Int) (a b n : Int) : Int → Int := fun i => if 0 ≤ i ∧ i < n then (if s5 i = a then (if s6 i = b then -1 else if b < s6 i then s6 i - 1 else s6 i) else s6 i) else s6 i
def ih_scr (s : Int → Int) (p m : Nat) : Int → Int := fun x : Int => if x = 22 + p then s (22 + p) - 1 else if 26 + 48 * (p : Int) + 4 * m ≤ x ∧ x < 26 + 48 * p + 4 * (s (22 + p) - 1) then s (x + 4) else if 218 ≤ x ∧ x < 228 then (if 0 ≤ s x ∧ s x / 100 = p then (if s x % 100 = m then -1 else if (m : Int) < s x % 100 then s x - 1 else s x) else s x) else s x
def f_scratch (s : Int → Int) (a b : Int) : ih_An := if (0 ≤ a ∧ a < 4) ∧ 0 ≤ b ∧ b < s (22 + a) then ih_ok1 (s (22 + a) - 1) else ih_no 0

theorem c_drop_l {X : List Int} {t : ih_S} {Q : Option xa_V → ih_S → Prop} {B m : Nat} (hP : ih_isP B) (hm : (m : Int) < t B 4) (hz : t B 4 ≤ 12) (K : ∀ t1, (∀ j, ¬ (B ≤ j ∧ j ≤ B + 4) → t1 j = t j) → t1 B 4 = t B 4 - 1 → t1 B 5 = t B 5 → t1 (B + 1) = ih_dr (t (B + 1)) m (t B 4 - 1) → t1 (B + 2) = ih_dr (t (B + 2)) m (t B 4 - 1) → t1 (B + 3) = ih_dr (t (B + 3)) m (t B 4 - 1) → t1 (B + 4) = ih_dr (t (B + 4)) m (t B 4 - 1) → Q none t1)  : ∀ (d : Nat) (k : Nat) (t1 : ih_S) (hd : (k : Int) + d = t B 4 - 1) (hk : m ≤ k) (hf : ∀ j, ¬ (B + 1 ≤ j ∧ j ≤ B + 4) → t1 j = t j) (h1 : t1 (B + 1) = ih_dr (t (B + 1)) m k) (h2 : t1 (B + 2) = ih_dr (t (B + 2)) m k) (h3 : t1 (B + 3) = ih_dr (t (B + 3)) m k) (h4 : t1 (B + 4) = ih_dr (t (B + 4)) m k), ih_Wp X 24 2 [xR B, xI m, xI k] [] t1 Q := by
  intro d
  induction d with
  | zero =>
    intro k t1 hd hk hf h1 h2 h3 h4
    have es : t1 B = t B := hf _ (by omega)
    rw [← es] at hd hz
    refine ih_seg (i1 := 4) 2 rfl ?_
    refine ih_getI rfl (by first | rfl | exact ih_fP4 (ih_P_w0 hc) | exact ih_fP4 (by assumption)) ?_
    refine ih_seg (i1 := 7) 2 rfl ?_
    try dsimp only
    refine ih_icmp_ge rfl (by omega) (by omega) (fun w1 => ?_) (fun w1 => ?_)
    · refine ih_seg (i1 := 52) 2 rfl ?_
      refine ih_getI rfl (by first | rfl | exact ih_fP4 (ih_P_w0 hc) | exact ih_fP4 (by assumption)) ?_
      refine ih_seg (i1 := 55) 2 rfl ?_
      try dsimp only
      refine ih_putI rfl (by first | rfl | exact ih_fP4 (ih_P_w0 hc) | exact ih_fP4 (by assumption)) rfl ?_
      refine ih_retv rfl ?_
      have ek : t B 4 - 1 = (k : Int) := by rw [← es]; omega
      refine K _ (fun j hj => ?_) ?_ ?_ ?_ ?_ ?_ ?_
      · rw [ih_up_ne (by omega)]
        exact hf j (by omega)
      · rw [ih_up_eq, ih_u1_eq, es]
      · rw [ih_up_eq, ih_u1_ne (by decide), es]
      · rw [ih_up_ne (by omega), ek]
        exact h1
      · rw [ih_up_ne (by omega), ek]
        exact h2
      · rw [ih_up_ne (by omega), ek]
        exact h3
      · rw [ih_up_ne (by omega), ek]
        exact h4
    · exfalso
      omega

  | succ d ih =>
    intro k t1 hd hk hf h1 h2 h3 h4
    have es : t1 B = t B := hf _ (by omega)
    rw [← es] at hd hz
    refine ih_seg (i1 := 4) 2 rfl ?_
    refine ih_getI rfl (by first | rfl | exact ih_fP4 (ih_P_w0 hc) | exact ih_fP4 (by assumption)) ?_
    refine ih_seg (i1 := 7) 2 rfl ?_
    try dsimp only
    refine ih_icmp_ge rfl (by omega) (by omega) (fun w1 => ?_) (fun w1 => ?_)
    · refine ih_seg (i1 := 52) 2 rfl ?_
      refine ih_getI rfl (by first | rfl | exact ih_fP4 (ih_P_w0 hc) | exact ih_fP4 (by assumption)) ?_
      refine ih_seg (i1 := 55) 2 rfl ?_
      try dsimp only
      refine ih_putI rfl (by first | rfl | exact ih_fP4 (ih_P_w0 hc) | exact ih_fP4 (by assumption)) rfl ?_
      refine ih_retv rfl ?_
      exfalso
      omega
    · refine ih_seg (i1 := 9) 1 rfl ?_
      refine ih_getR rfl (by first | rfl | exact ih_fP0 (ih_P_w0 hc) | exact ih_fP0 (by assumption)) ?_
      refine ih_seg (i1 := 12) 2 rfl ?_
      refine ih_getR rfl (by first | rfl | exact ih_fP0 (ih_P_w0 hc) | exact ih_fP0 (by assumption)) ?_
      refine ih_seg (i1 := 16) 3 rfl ?_
      try dsimp only
      refine ih_iald rfl (by first | rfl | exact ih_lP1 (ih_P_w0 hc) | exact ih_lP2 (ih_P_w0 hc) | exact ih_lP3 (ih_P_w0 hc) | exact ih_lP4 (ih_P_w0 hc) |  exact ih_lP1 (by assumption) | exact ih_lP2 (by assumption) | exact ih_lP3 (by assumption) | exact ih_lP4 (by assumption) | exact ih_lC1 (by assumption) | exact ih_lS1 (by assumption) | exact ih_lW1 (by assumption) | exact ih_lW2 (by assumption) | exact ih_lW4 (by assumption) | exact ih_lW5 (by assumption)) (by omega) (by omega) (k := ?_)
      refine ih_iast rfl (by first | rfl | exact ih_lP1 (ih_P_w0 hc) | exact ih_lP2 (ih_P_w0 hc) | exact ih_lP3 (ih_P_w0 hc) | exact ih_lP4 (ih_P_w0 hc) |  exact ih_lP1 (by assumption) | exact ih_lP2 (by assumption) | exact ih_lP3 (by assumption) | exact ih_lP4 (by assumption) | exact ih_lC1 (by assumption) | exact ih_lS1 (by assumption) | exact ih_lW1 (by assumption) | exact ih_lW2 (by assumption) | exact ih_lW4 (by assumption) | exact ih_lW5 (by assumption)) (by omega) (by omega) (k := ?_)
      refine ih_seg (i1 := 19) 1 rfl ?_
      refine ih_getR rfl (by first | rfl | exact ih_fP1 (ih_P_w0 hc) | exact ih_fP1 (by assumption)) ?_
      refine ih_seg (i1 := 22) 2 rfl ?_
      refine ih_getR rfl (by first | rfl | exact ih_fP1 (ih_P_w0 hc) | exact ih_fP1 (by assumption)) ?_
      refine ih_seg (i1 := 26) 3 rfl ?_
      try dsimp only
      refine ih_iald rfl (by first | rfl | exact ih_lP1 (ih_P_w0 hc) | exact ih_lP2 (ih_P_w0 hc) | exact ih_lP3 (ih_P_w0 hc) | exact ih_lP4 (ih_P_w0 hc) |  exact ih_lP1 (by assumption) | exact ih_lP2 (by assumption) | exact ih_lP3 (by assumption) | exact ih_lP4 (by assumption) | exact ih_lC1 (by assumption) | exact ih_lS1 (by assumption) | exact ih_lW1 (by assumption) | exact ih_lW2 (by assumption) | exact ih_lW4 (by assumption) | exact ih_lW5 (by assumption)) (by omega) (by omega) (k := ?_)
      refine ih_iast rfl (by first | rfl | exact ih_lP1 (ih_P_w0 hc) | exact ih_lP2 (ih_P_w0 hc) | exact ih_lP3 (ih_P_w0 hc) | exact ih_lP4 (ih_P_w0 hc) |  exact ih_lP1 (by assumption) | exact ih_lP2 (by assumption) | exact ih_lP3 (by assumption) | exact ih_lP4 (by assumption) | exact ih_lC1 (by assumption) | exact ih_lS1 (by assumption) | exact ih_lW1 (by assumption) | exact ih_lW2 (by assumption) | exact ih_lW4 (by assumption) | exact ih_lW5 (by assumption)) (by omega) (by omega) (k := ?_)
      refine ih_seg (i1 := 29) 1 rfl ?_
      refine ih_getR rfl (by first | rfl | exact ih_fP2 (ih_P_w0 hc) | exact ih_fP2 (by assumption)) ?_
      refine ih_seg (i1 := 32) 2 rfl ?_
      refine ih_getR rfl (by first | rfl | exact ih_fP2 (ih_P_w0 hc) | exact ih_fP2 (by assumption)) ?_
      refine ih_seg (i1 := 36) 3 rfl ?_
      try dsimp only
      refine ih_iald rfl (by first | rfl | exact ih_lP1 (ih_P_w0 hc) | exact ih_lP2 (ih_P_w0 hc) | exact ih_lP3 (ih_P_w0 hc) | exact ih_lP4 (ih_P_w0 hc) |  exact ih_lP1 (by assumption) | exact ih_lP2 (by assumption) | exact ih_lP3 (by assumption) | exact ih_lP4 (by assumption) | exact ih_lC1 (by assumption) | exact ih_lS1 (by assumption) | exact ih_lW1 (by assumption) | exact ih_lW2 (by assumption) | exact ih_lW4 (by assumption) | exact ih_lW5 (by assumption)) (by omega) (by omega) (k := ?_)
      refine ih_iast rfl (by first | rfl | exact ih_lP1 (ih_P_w0 hc) | exact ih_lP2 (ih_P_w0 hc) | exact ih_lP3 (ih_P_w0 hc) | exact ih_lP4 (ih_P_w0 hc) |  exact ih_lP1 (by assumption) | exact ih_lP2 (by assumption) | exact ih_lP3 (by assumption) | exact ih_lP4 (by assumption) | exact ih_lC1 (by assumption) | exact ih_lS1 (by assumption) | exact ih_lW1 (by assumption) | exact ih_lW2 (by assumption) | exact ih_lW4 (by assumption) | exact ih_lW5 (by assumption)) (by omega) (by omega) (k := ?_)
      refine ih_seg (i1 := 39) 1 rfl ?_
      refine ih_getR rfl (by first | rfl | exact ih_fP3 (ih_P_w0 hc) | exact ih_fP3 (by assumption)) ?_
      refine ih_seg (i1 := 42) 2 rfl ?_
      refine ih_getR rfl (by first | rfl | exact ih_fP3 (ih_P_w0 hc) | exact ih_fP3 (by assumption)) ?_
      refine ih_seg (i1 := 46) 3 rfl ?_
      try dsimp only
      refine ih_iald rfl (by first | rfl | exact ih_lP1 (ih_P_w0 hc) | exact ih_lP2 (ih_P_w0 hc) | exact ih_lP3 (ih_P_w0 hc) | exact ih_lP4 (ih_P_w0 hc) |  exact ih_lP1 (by assumption) | exact ih_lP2 (by assumption) | exact ih_lP3 (by assumption) | exact ih_lP4 (by assumption) | exact ih_lC1 (by assumption) | exact ih_lS1 (by assumption) | exact ih_lW1 (by assumption) | exact ih_lW2 (by assumption) | exact ih_lW4 (by assumption) | exact ih_lW5 (by assumption)) (by omega) (by omega) (k := ?_)
      refine ih_iast rfl (by first | rfl | exact ih_lP1 (ih_P_w0 hc) | exact ih_lP2 (ih_P_w0 hc) | exact ih_lP3 (ih_P_w0 hc) | exact ih_lP4 (ih_P_w0 hc) |  exact ih_lP1 (by assumption) | exact ih_lP2 (by assumption) | exact ih_lP3 (by assumption) | exact ih_lP4 (by assumption) | exact ih_lC1 (by assumption) | exact ih_lS1 (by assumption) | exact ih_lW1 (by assumption) | exact ih_lW2 (by assumption) | exact ih_lW4 (by assumption) | exact ih_lW5 (by assumption)) (by omega) (by omega) (k := ?_)
      refine ih_seg (i1 := 2) 2 rfl ?_
      try simp only [xa_set, List.set_cons_zero, List.set_cons_succ, List.getElem?_cons_zero, List.getElem?_cons_succ]
      have dr : ∀ f : Int → Int, ih_u1 (ih_dr f m k) k (ih_dr f m k (k + 1)) = ih_dr f m ((k + 1 : Nat) : Int) := by
        intro f
        funext x
        simp only [ih_u1x, ih_dr]
        (repeat' split) <;> first | rfl | omega | exact congrArg f (by omega)
      refine ih (k + 1) _ (by rw [← es]; omega) (by omega) (fun j hj => ?_) ?_ ?_ ?_ ?_
      · rw [ih_up_ne (by omega), ih_up_ne (by omega), ih_up_ne (by omega), ih_up_ne (by omega)]
        exact hf j hj
      · simp only [ih_up_eq, ih_up_ne (show B + 1 ≠ B + 2 by omega), ih_up_ne (show B + 1 ≠ B + 3 by omega), ih_up_ne (show B + 1 ≠ B + 4 by omega), ih_up_ne (show B + 2 ≠ B + 1 by omega), ih_up_ne (show B + 2 ≠ B + 3 by omega), ih_up_ne (show B + 2 ≠ B + 4 by omega), ih_up_ne (show B + 3 ≠ B + 1 by omega), ih_up_ne (show B + 3 ≠ B + 2 by omega), ih_up_ne (show B + 3 ≠ B + 4 by omega), ih_up_ne (show B + 4 ≠ B + 1 by omega), ih_up_ne (show B + 4 ≠ B + 2 by omega), ih_up_ne (show B + 4 ≠ B + 3 by omega), h1]
        exact dr _
      · simp only [ih_up_eq, ih_up_ne (show B + 1 ≠ B + 2 by omega), ih_up_ne (show B + 1 ≠ B + 3 by omega), ih_up_ne (show B + 1 ≠ B + 4 by omega), ih_up_ne (show B + 2 ≠ B + 1 by omega), ih_up_ne (show B + 2 ≠ B + 3 by omega), ih_up_ne (show B + 2 ≠ B + 4 by omega), ih_up_ne (show B + 3 ≠ B + 1 by omega), ih_up_ne (show B + 3 ≠ B + 2 by omega), ih_up_ne (show B + 3 ≠ B + 4 by omega), ih_up_ne (show B + 4 ≠ B + 1 by omega), ih_up_ne (show B + 4 ≠ B + 2 by omega), ih_up_ne (show B + 4 ≠ B + 3 by omega), h2]
        exact dr _
      · simp only [ih_up_eq, ih_up_ne (show B + 1 ≠ B + 2 by omega), ih_up_ne (show B + 1 ≠ B + 3 by omega), ih_up_ne (show B + 1 ≠ B + 4 by omega), ih_up_ne (show B + 2 ≠ B + 1 by omega), ih_up_ne (show B + 2 ≠ B + 3 by omega), ih_up_ne (show B + 2 ≠ B + 4 by omega), ih_up_ne (show B + 3 ≠ B + 1 by omega), ih_up_ne (show B + 3 ≠ B + 2 by omega), ih_up_ne (show B + 3 ≠ B + 4 by omega), ih_up_ne (show B + 4 ≠ B + 1 by omega), ih_up_ne (show B + 4 ≠ B + 2 by omega), ih_up_ne (show B + 4 ≠ B + 3 by omega), h3]
        exact dr _
      · simp only [ih_up_eq, ih_up_ne (show B + 1 ≠ B + 2 by omega), ih_up_ne (show B + 1 ≠ B + 3 by omega), ih_up_ne (show B + 1 ≠ B + 4 by omega), ih_up_ne (show B + 2 ≠ B + 1 by omega), ih_up_ne (show B + 2 ≠ B + 3 by omega), ih_up_ne (show B + 2 ≠ B + 4 by omega), ih_up_ne (show B + 3 ≠ B + 1 by omega), ih_up_ne (show B + 3 ≠ B + 2 by omega), ih_up_ne (show B + 3 ≠ B + 4 by omega), ih_up_ne (show B + 4 ≠ B + 1 by omega), ih_up_ne (show B + 4 ≠ B + 2 by omega), ih_up_ne (show B + 4 ≠ B + 3 by omega), h4]
        exact dr _


theorem c_drop {X : List Int} {t : ih_S} {Q : Option xa_V → ih_S → Prop} {B m : Nat} (hP : ih_isP B) (hm : (m : Int) < t B 4) (hz : t B 4 ≤ 12) (K : ∀ t1, (∀ j, ¬ (B ≤ j ∧ j ≤ B + 4) → t1 j = t j) → t1 B 4 = t B 4 - 1 → t1 B 5 = t B 5 → t1 (B + 1) = ih_dr (t (B + 1)) m (t B 4 - 1) → t1 (B + 2) = ih_dr (t (B + 2)) m (t B 4 - 1) → t1 (B + 3) = ih_dr (t (B + 3)) m (t B 4 - 1) → t1 (B + 4) = ih_dr (t (B + 4)) m (t B 4 - 1) → Q none t1)  : ih_Wp X 24 0 [xR B, xI m, xC 1] [] t Q := by
  refine ih_seg (i1 := 2) 2 rfl ?_
  try simp only [xa_set, List.set_cons_zero, List.set_cons_succ, List.getElem?_cons_zero, List.getElem?_cons_succ]
  exact c_drop_l hP hm hz K (t B 4 - 1 - m).toNat m t (by omega) (Nat.le_refl _) (fun _ _ => rfl) (by funext x; rw [ih_dr, if_neg (by omega)]) (by funext x; rw [ih_dr, if_neg (by omega)]) (by funext x; rw [ih_dr, if_neg (by omega)]) (by funext x; rw [ih_dr, if_neg (by omega)])


theorem c_freeSpots_l {X : List Int} {t : ih_S} {Q : Option xa_V → ih_S → Prop} {a b : Int} (ha : 0 ≤ a ∧ a < 4) (hb : 0 ≤ b ∧ b < 12) (hs : ∀ i : Int, 0 ≤ i → i < 10 → (0 ≤ t 5 i ∧ t 5 i < 4) ∧ -1 ≤ t 6 i ∧ t 6 i < 100) (K : ∀ t1, (∀ j, j ≠ 6 → t1 j = t j) → t1 6 = ih_fs (t 5) (t 6) a b 10 → Q none t1)  : ∀ (d : Nat) (k : Nat) (t1 : ih_S) (hd : k + d = 10) (hf : ∀ j, j ≠ 6 → t1 j = t j) (h1 : t1 6 = ih_fs (t 5) (t 6) a b k), ih_Wp X 55 2 [xR 1, xI a, xI b, xI k] [] t1 Q := by
  intro d
  induction d with
  | zero =>
    intro k t1 hd hf h1
    obtain rfl : k = 10 := by omega
    refine ih_seg (i1 := 4) 2 rfl ?_
    refine ih_icmp_ge rfl (by omega) (by omega) (fun w1 => ?_) (fun w1 => ?_)
    · refine ih_retv rfl ?_
      exact K t1 hf h1
    · exfalso
      omega

  | succ d ih =>
    intro k t1 hd hf h1
    have hk := hs k (by omega) (by omega)
    have e5 : t1 5 = t 5 := hf 5 (by decide)
    have e6 : t1 6 k = t 6 k := by rw [h1, ih_fs, if_neg (by omega)]
    rw [← e5, ← e6] at hk
    refine ih_seg (i1 := 4) 2 rfl ?_
    refine ih_icmp_ge rfl (by omega) (by omega) (fun w1 => ?_) (fun w1 => ?_)
    · refine ih_retv rfl ?_
      exfalso
      omega
    · refine ih_seg (i1 := 6) 1 rfl ?_
      refine ih_getR rfl (by first | rfl | exact ih_fW3 (by assumption)) ?_
      refine ih_seg (i1 := 8) 1 rfl ?_
      refine ih_iald rfl (by first | rfl | exact ih_lP1 (ih_P_w0 hc) | exact ih_lP2 (ih_P_w0 hc) | exact ih_lP3 (ih_P_w0 hc) | exact ih_lP4 (ih_P_w0 hc) |  exact ih_lP1 (by assumption) | exact ih_lP2 (by assumption) | exact ih_lP3 (by assumption) | exact ih_lP4 (by assumption) | exact ih_lC1 (by assumption) | exact ih_lS1 (by assumption) | exact ih_lW1 (by assumption) | exact ih_lW2 (by assumption) | exact ih_lW4 (by assumption) | exact ih_lW5 (by assumption)) (by omega) (by omega) (k := ?_)
      refine ih_seg (i1 := 10) 1 rfl ?_
      refine ih_icmp_ne rfl (by omega) (by omega) (fun w2 => ?_) (fun w2 => ?_)
      · refine ih_seg (i1 := 24) 1 rfl ?_
        refine ih_getR rfl (by first | rfl | exact ih_fW3 (by assumption)) ?_
        refine ih_seg (i1 := 26) 1 rfl ?_
        refine ih_iald rfl (by first | rfl | exact ih_lP1 (ih_P_w0 hc) | exact ih_lP2 (ih_P_w0 hc) | exact ih_lP3 (ih_P_w0 hc) | exact ih_lP4 (ih_P_w0 hc) |  exact ih_lP1 (by assumption) | exact ih_lP2 (by assumption) | exact ih_lP3 (by assumption) | exact ih_lP4 (by assumption) | exact ih_lC1 (by assumption) | exact ih_lS1 (by assumption) | exact ih_lW1 (by assumption) | exact ih_lW2 (by assumption) | exact ih_lW4 (by assumption) | exact ih_lW5 (by assumption)) (by omega) (by omega) (k := ?_)
        refine ih_seg (i1 := 28) 1 rfl ?_
        refine ih_icmp_ne rfl (by omega) (by omega) (fun w3 => ?_) (fun w3 => ?_)
        · refine ih_seg (i1 := 2) 2 rfl ?_
          try simp only [xa_set, List.set_cons_zero, List.set_cons_succ, List.getElem?_cons_zero, List.getElem?_cons_succ]
          refine ih (k + 1) _ (by omega) (fun j hj => ?_) ?_
          · first
              | exact (ih_up_ne hj).trans (hf j hj)
              | exact hf j hj
          · first | rw [ih_up_eq] | skip
            funext x
            by_cases ex : x = k
            · subst ex
              rw [e5, e6] at *
              first | rw [ih_u1_eq] | rw [e6]
              rw [ih_fs, if_pos (by omega)]
              (repeat' split) <;> omega
            · first | rw [ih_u1_ne ex] | skip
              rw [h1]
              unfold ih_fs
              by_cases e7 : 0 ≤ x ∧ x < k
              · rw [if_pos e7, if_pos (show 0 ≤ x ∧ x < ((k + 1 : Nat) : Int) by omega)]
              · rw [if_neg e7, if_neg (show ¬ (0 ≤ x ∧ x < ((k + 1 : Nat) : Int)) by omega)]
        · refine ih_seg (i1 := 30) 1 rfl ?_
          refine ih_getR rfl (by first | rfl | exact ih_fW4 (by assumption)) ?_
          refine ih_seg (i1 := 32) 1 rfl ?_
          refine ih_iald rfl (by first | rfl | exact ih_lP1 (ih_P_w0 hc) | exact ih_lP2 (ih_P_w0 hc) | exact ih_lP3 (ih_P_w0 hc) | exact ih_lP4 (ih_P_w0 hc) |  exact ih_lP1 (by assumption) | exact ih_lP2 (by assumption) | exact ih_lP3 (by assumption) | exact ih_lP4 (by assumption) | exact ih_lC1 (by assumption) | exact ih_lS1 (by assumption) | exact ih_lW1 (by assumption) | exact ih_lW2 (by assumption) | exact ih_lW4 (by assumption) | exact ih_lW5 (by assumption)) (by omega) (by omega) (k := ?_)
          refine ih_seg (i1 := 34) 1 rfl ?_
          refine ih_icmp_le rfl (by omega) (by omega) (fun w4 => ?_) (fun w4 => ?_)
          · refine ih_seg (i1 := 2) 2 rfl ?_
            try simp only [xa_set, List.set_cons_zero, List.set_cons_succ, List.getElem?_cons_zero, List.getElem?_cons_succ]
            refine ih (k + 1) _ (by omega) (fun j hj => ?_) ?_
            · first
                | exact (ih_up_ne hj).trans (hf j hj)
                | exact hf j hj
            · first | rw [ih_up_eq] | skip
              funext x
              by_cases ex : x = k
              · subst ex
                rw [e5, e6] at *
                first | rw [ih_u1_eq] | rw [e6]
                rw [ih_fs, if_pos (by omega)]
                (repeat' split) <;> omega
              · first | rw [ih_u1_ne ex] | skip
                rw [h1]
                unfold ih_fs
                by_cases e7 : 0 ≤ x ∧ x < k
                · rw [if_pos e7, if_pos (show 0 ≤ x ∧ x < ((k + 1 : Nat) : Int) by omega)]
                · rw [if_neg e7, if_neg (show ¬ (0 ≤ x ∧ x < ((k + 1 : Nat) : Int)) by omega)]
          · refine ih_seg (i1 := 36) 1 rfl ?_
            refine ih_getR rfl (by first | rfl | exact ih_fW4 (by assumption)) ?_
            refine ih_seg (i1 := 39) 2 rfl ?_
            refine ih_iald rfl (by first | rfl | exact ih_lP1 (ih_P_w0 hc) | exact ih_lP2 (ih_P_w0 hc) | exact ih_lP3 (ih_P_w0 hc) | exact ih_lP4 (ih_P_w0 hc) |  exact ih_lP1 (by assumption) | exact ih_lP2 (by assumption) | exact ih_lP3 (by assumption) | exact ih_lP4 (by assumption) | exact ih_lC1 (by assumption) | exact ih_lS1 (by assumption) | exact ih_lW1 (by assumption) | exact ih_lW2 (by assumption) | exact ih_lW4 (by assumption) | exact ih_lW5 (by assumption)) (by omega) (by omega) (k := ?_)
            refine ih_seg (i1 := 42) 2 rfl ?_
            try dsimp only
            refine ih_iast rfl (by first | rfl | exact ih_lP1 (ih_P_w0 hc) | exact ih_lP2 (ih_P_w0 hc) | exact ih_lP3 (ih_P_w0 hc) | exact ih_lP4 (ih_P_w0 hc) |  exact ih_lP1 (by assumption) | exact ih_lP2 (by assumption) | exact ih_lP3 (by assumption) | exact ih_lP4 (by assumption) | exact ih_lC1 (by assumption) | exact ih_lS1 (by assumption) | exact ih_lW1 (by assumption) | exact ih_lW2 (by assumption) | exact ih_lW4 (by assumption) | exact ih_lW5 (by assumption)) (by omega) (by omega) (k := ?_)
            refine ih_seg (i1 := 2) 2 rfl ?_
            try simp only [xa_set, List.set_cons_zero, List.set_cons_succ, List.getElem?_cons_zero, List.getElem?_cons_succ]
            refine ih (k + 1) _ (by omega) (fun j hj => ?_) ?_
            · first
                | exact (ih_up_ne hj).trans (hf j hj)
                | exact hf j hj
            · first | rw [ih_up_eq] | skip
              funext x
              by_cases ex : x = k
              · subst ex
                rw [e5, e6] at *
                first | rw [ih_u1_eq] | rw [e6]
                rw [ih_fs, if_pos (by omega)]
                (repeat' split) <;> omega
              · first | rw [ih_u1_ne ex] | skip
                rw [h1]
                unfold ih_fs
                by_cases e7 : 0 ≤ x ∧ x < k
                · rw [if_pos e7, if_pos (show 0 ≤ x ∧ x < ((k + 1 : Nat) : Int) by omega)]
                · rw [if_neg e7, if_neg (show ¬ (0 ≤ x ∧ x < ((k + 1 : Nat) : Int)) by omega)]
      · refine ih_seg (i1 := 12) 1 rfl ?_
        refine ih_getR rfl (by first | rfl | exact ih_fW4 (by assumption)) ?_
        refine ih_seg (i1 := 14) 1 rfl ?_
        refine ih_iald rfl (by first | rfl | exact ih_lP1 (ih_P_w0 hc) | exact ih_lP2 (ih_P_w0 hc) | exact ih_lP3 (ih_P_w0 hc) | exact ih_lP4 (ih_P_w0 hc) |  exact ih_lP1 (by assumption) | exact ih_lP2 (by assumption) | exact ih_lP3 (by assumption) | exact ih_lP4 (by assumption) | exact ih_lC1 (by assumption) | exact ih_lS1 (by assumption) | exact ih_lW1 (by assumption) | exact ih_lW2 (by assumption) | exact ih_lW4 (by assumption) | exact ih_lW5 (by assumption)) (by omega) (by omega) (k := ?_)
        refine ih_seg (i1 := 16) 1 rfl ?_
        refine ih_icmp_ne rfl (by omega) (by omega) (fun w5 => ?_) (fun w5 => ?_)
        · refine ih_seg (i1 := 24) 1 rfl ?_
          refine ih_getR rfl (by first | rfl | exact ih_fW3 (by assumption)) ?_
          refine ih_seg (i1 := 26) 1 rfl ?_
          refine ih_iald rfl (by first | rfl | exact ih_lP1 (ih_P_w0 hc) | exact ih_lP2 (ih_P_w0 hc) | exact ih_lP3 (ih_P_w0 hc) | exact ih_lP4 (ih_P_w0 hc) |  exact ih_lP1 (by assumption) | exact ih_lP2 (by assumption) | exact ih_lP3 (by assumption) | exact ih_lP4 (by assumption) | exact ih_lC1 (by assumption) | exact ih_lS1 (by assumption) | exact ih_lW1 (by assumption) | exact ih_lW2 (by assumption) | exact ih_lW4 (by assumption) | exact ih_lW5 (by assumption)) (by omega) (by omega) (k := ?_)
          refine ih_seg (i1 := 28) 1 rfl ?_
          refine ih_icmp_ne rfl (by omega) (by omega) (fun w6 => ?_) (fun w6 => ?_)
          · refine ih_seg (i1 := 2) 2 rfl ?_
            try simp only [xa_set, List.set_cons_zero, List.set_cons_succ, List.getElem?_cons_zero, List.getElem?_cons_succ]
            refine ih (k + 1) _ (by omega) (fun j hj => ?_) ?_
            · first
                | exact (ih_up_ne hj).trans (hf j hj)
                | exact hf j hj
            · first | rw [ih_up_eq] | skip
              funext x
              by_cases ex : x = k
              · subst ex
                rw [e5, e6] at *
                first | rw [ih_u1_eq] | rw [e6]
                rw [ih_fs, if_pos (by omega)]
                (repeat' split) <;> omega
              · first | rw [ih_u1_ne ex] | skip
                rw [h1]
                unfold ih_fs
                by_cases e7 : 0 ≤ x ∧ x < k
                · rw [if_pos e7, if_pos (show 0 ≤ x ∧ x < ((k + 1 : Nat) : Int) by omega)]
                · rw [if_neg e7, if_neg (show ¬ (0 ≤ x ∧ x < ((k + 1 : Nat) : Int)) by omega)]
          · refine ih_seg (i1 := 30) 1 rfl ?_
            refine ih_getR rfl (by first | rfl | exact ih_fW4 (by assumption)) ?_
            refine ih_seg (i1 := 32) 1 rfl ?_
            refine ih_iald rfl (by first | rfl | exact ih_lP1 (ih_P_w0 hc) | exact ih_lP2 (ih_P_w0 hc) | exact ih_lP3 (ih_P_w0 hc) | exact ih_lP4 (ih_P_w0 hc) |  exact ih_lP1 (by assumption) | exact ih_lP2 (by assumption) | exact ih_lP3 (by assumption) | exact ih_lP4 (by assumption) | exact ih_lC1 (by assumption) | exact ih_lS1 (by assumption) | exact ih_lW1 (by assumption) | exact ih_lW2 (by assumption) | exact ih_lW4 (by assumption) | exact ih_lW5 (by assumption)) (by omega) (by omega) (k := ?_)
            refine ih_seg (i1 := 34) 1 rfl ?_
            refine ih_icmp_le rfl (by omega) (by omega) (fun w7 => ?_) (fun w7 => ?_)
            · refine ih_seg (i1 := 2) 2 rfl ?_
              try simp only [xa_set, List.set_cons_zero, List.set_cons_succ, List.getElem?_cons_zero, List.getElem?_cons_succ]
              refine ih (k + 1) _ (by omega) (fun j hj => ?_) ?_
              · first
                  | exact (ih_up_ne hj).trans (hf j hj)
                  | exact hf j hj
              · first | rw [ih_up_eq] | skip
                funext x
                by_cases ex : x = k
                · subst ex
                  rw [e5, e6] at *
                  first | rw [ih_u1_eq] | rw [e6]
                  rw [ih_fs, if_pos (by omega)]
                  (repeat' split) <;> omega
                · first | rw [ih_u1_ne ex] | skip
                  rw [h1]
                  unfold ih_fs
                  by_cases e7 : 0 ≤ x ∧ x < k
                  · rw [if_pos e7, if_pos (show 0 ≤ x ∧ x < ((k + 1 : Nat) : Int) by omega)]
                  · rw [if_neg e7, if_neg (show ¬ (0 ≤ x ∧ x < ((k + 1 : Nat) : Int)) by omega)]
            · refine ih_seg (i1 := 36) 1 rfl ?_
              refine ih_getR rfl (by first | rfl | exact ih_fW4 (by assumption)) ?_
              refine ih_seg (i1 := 39) 2 rfl ?_
              refine ih_iald rfl (by first | rfl | exact ih_lP1 (ih_P_w0 hc) | exact ih_lP2 (ih_P_w0 hc) | exact ih_lP3 (ih_P_w0 hc) | exact ih_lP4 (ih_P_w0 hc) |  exact ih_lP1 (by assumption) | exact ih_lP2 (by assumption) | exact ih_lP3 (by assumption) | exact ih_lP4 (by assumption) | exact ih_lC1 (by assumption) | exact ih_lS1 (by assumption) | exact ih_lW1 (by assumption) | exact ih_lW2 (by assumption) | exact ih_lW4 (by assumption) | exact ih_lW5 (by assumption)) (by omega) (by omega) (k := ?_)
              refine ih_seg (i1 := 42) 2 rfl ?_
              try dsimp only
              refine ih_iast rfl (by first | rfl | exact ih_lP1 (ih_P_w0 hc) | exact ih_lP2 (ih_P_w0 hc) | exact ih_lP3 (ih_P_w0 hc) | exact ih_lP4 (ih_P_w0 hc) |  exact ih_lP1 (by assumption) | exact ih_lP2 (by assumption) | exact ih_lP3 (by assumption) | exact ih_lP4 (by assumption) | exact ih_lC1 (by assumption) | exact ih_lS1 (by assumption) | exact ih_lW1 (by assumption) | exact ih_lW2 (by assumption) | exact ih_lW4 (by assumption) | exact ih_lW5 (by assumption)) (by omega) (by omega) (k := ?_)
              refine ih_seg (i1 := 2) 2 rfl ?_
              try simp only [xa_set, List.set_cons_zero, List.set_cons_succ, List.getElem?_cons_zero, List.getElem?_cons_succ]
              refine ih (k + 1) _ (by omega) (fun j hj => ?_) ?_
              · first
                  | exact (ih_up_ne hj).trans (hf j hj)
                  | exact hf j hj
              · first | rw [ih_up_eq] | skip
                funext x
                by_cases ex : x = k
                · subst ex
                  rw [e5, e6] at *
                  first | rw [ih_u1_eq] | rw [e6]
                  rw [ih_fs, if_pos (by omega)]
                  (repeat' split) <;> omega
                · first | rw [ih_u1_ne ex] | skip
                  rw [h1]
                  unfold ih_fs
                  by_cases e7 : 0 ≤ x ∧ x < k
                  · rw [if_pos e7, if_pos (show 0 ≤ x ∧ x < ((k + 1 : Nat) : Int) by omega)]
                  · rw [if_neg e7, if_neg (show ¬ (0 ≤ x ∧ x < ((k + 1 : Nat) : Int)) by omega)]
        · refine ih_seg (i1 := 18) 1 rfl ?_
          refine ih_getR rfl (by first | rfl | exact ih_fW4 (by assumption)) ?_
          refine ih_seg (i1 := 21) 2 rfl ?_
          refine ih_iast rfl (by first | rfl | exact ih_lP1 (ih_P_w0 hc) | exact ih_lP2 (ih_P_w0 hc) | exact ih_lP3 (ih_P_w0 hc) | exact ih_lP4 (ih_P_w0 hc) |  exact ih_lP1 (by assumption) | exact ih_lP2 (by assumption) | exact ih_lP3 (by assumption) | exact ih_lP4 (by assumption) | exact ih_lC1 (by assumption) | exact ih_lS1 (by assumption) | exact ih_lW1 (by assumption) | exact ih_lW2 (by assumption) | exact ih_lW4 (by assumption) | exact ih_lW5 (by assumption)) (by omega) (by omega) (k := ?_)
          refine ih_seg (i1 := 2) 3 rfl ?_
          try simp only [xa_set, List.set_cons_zero, List.set_cons_succ, List.getElem?_cons_zero, List.getElem?_cons_succ]
          refine ih (k + 1) _ (by omega) (fun j hj => ?_) ?_
          · first
              | exact (ih_up_ne hj).trans (hf j hj)
              | exact hf j hj
          · first | rw [ih_up_eq] | skip
            funext x
            by_cases ex : x = k
            · subst ex
              rw [e5, e6] at *
              first | rw [ih_u1_eq] | rw [e6]
              rw [ih_fs, if_pos (by omega)]
              (repeat' split) <;> omega
            · first | rw [ih_u1_ne ex] | skip
              rw [h1]
              unfold ih_fs
              by_cases e7 : 0 ≤ x ∧ x < k
              · rw [if_pos e7, if_pos (show 0 ≤ x ∧ x < ((k + 1 : Nat) : Int) by omega)]
              · rw [if_neg e7, if_neg (show ¬ (0 ≤ x ∧ x < ((k + 1 : Nat) : Int)) by omega)]


theorem c_freeSpots {X : List Int} {t : ih_S} {Q : Option xa_V → ih_S → Prop} {a b : Int} (ha : 0 ≤ a ∧ a < 4) (hb : 0 ≤ b ∧ b < 12) (hs : ∀ i : Int, 0 ≤ i → i < 10 → (0 ≤ t 5 i ∧ t 5 i < 4) ∧ -1 ≤ t 6 i ∧ t 6 i < 100) (K : ∀ t1, (∀ j, j ≠ 6 → t1 j = t j) → t1 6 = ih_fs (t 5) (t 6) a b 10 → Q none t1)  : ih_Wp X 55 0 [xR 1, xI a, xI b, xC 1] [] t Q := by
  refine ih_seg (i1 := 2) 2 rfl ?_
  try simp only [xa_set, List.set_cons_zero, List.set_cons_succ, List.getElem?_cons_zero, List.getElem?_cons_succ]
  exact c_freeSpots_l ha hb hs K 10 0 t (by omega) (fun _ _ => rfl) (by funext x; rw [ih_fs, if_neg (by omega)])


theorem ih_Wu_scr {t t1 : ih_S} {s : Int → Int} {c m : Nat} (G : ih_Gd s) (W : ih_Wr t 1 s) (hc : c < 4) (hm : (m : Int) < s (22 + c)) (hf : ∀ j, j ≠ 6 → ¬ (7 + 5 * c ≤ j ∧ j ≤ 11 + 5 * c) → t1 j = t j) (k4 : t1 (7 + 5 * c) 4 = s (22 + c) - 1) (k5 : t1 (7 + 5 * c) 5 = t (7 + 5 * c) 5) (h1 : t1 (8 + 5 * c) = ih_dr (t (8 + 5 * c)) m (s (22 + c) - 1)) (h2 : t1 (9 + 5 * c) = ih_dr (t (9 + 5 * c)) m (s (22 + c) - 1)) (h3 : t1 (10 + 5 * c) = ih_dr (t (10 + 5 * c)) m (s (22 + c) - 1)) (h4 : t1 (11 + 5 * c) = ih_dr (t (11 + 5 * c)) m (s (22 + c) - 1)) (h6 : t1 6 = ih_fs (t 5) (t 6) c m 10) : ih_Wr t1 1 (ih_scr s c m) := by
  have Z : ∀ p : Nat, p < 4 → 0 ≤ s (22 + p) ∧ s (22 + p) ≤ 12 := fun p hp => (G.pap p hp).sz
  have Zc := Z c hc
  have szp : ∀ p : Nat, p < 4 → ih_scr s c m (22 + p) = if p = c then s (22 + c) - 1 else s (22 + p) := by
    intro p hp
    unfold ih_scr
    by_cases e : p = c
    · subst e
      rw [if_pos rfl, if_pos rfl]
    · rw [if_neg (by omega), if_neg (by omega), if_neg (by omega), if_neg e]
  have hlo : ∀ x : Int, 0 ≤ x → x < 22 → ih_scr s c m x = s x := by
    intro x h0 h1
    unfold ih_scr
    rw [if_neg (by omega), if_neg (by omega), if_neg (by omega)]
  have hrow : ∀ (p k r : Nat), p < 4 → r < 4 → (k : Int) < ih_scr s c m (22 + p) → ih_scr s c m (26 + 48 * p + 4 * k + r) = if p = c ∧ m ≤ k then s (26 + 48 * p + 4 * (k + 1 : Nat) + r) else s (26 + 48 * p + 4 * k + r) := by
    intro p k r hp hr hk
    have Zp := Z p hp
    rw [szp p hp] at hk
    unfold ih_scr
    rw [if_neg (by omega)]
    by_cases e : p = c
    · subst e
      rw [if_pos rfl] at hk
      by_cases q : m ≤ k
      · rw [if_pos (by omega), if_pos ⟨rfl, q⟩]
        exact congrArg s (by omega)
      · rw [if_neg (by omega), if_neg (by omega), if_neg (fun h => q h.2)]
    · rw [if_neg e] at hk
      rw [if_neg (by omega), if_neg (by omega), if_neg (fun h => e h.1)]
  have hold : ∀ p k : Nat, p < 4 → (k : Int) < ih_scr s c m (22 + p) → (k : Int) < s (22 + p) ∧ (p = c → ((k + 1 : Nat) : Int) < s (22 + p)) := by
    intro p k hp hk
    rw [szp p hp] at hk
    split at hk
    · next e => subst e; exact ⟨by omega, fun _ => by omega⟩
    · exact ⟨hk, fun e => by omega⟩
  refine ⟨?_, ?_, fun j h0 h1 => ?_, fun j h0 h1 => ?_, fun p hp => ?_, fun p hp => ?_, fun p k hp hk => ?_, fun p k hp hk => ?_, fun p k hp hk => ?_, fun p k hp hk => ?_, fun i h0 h1 => ?_⟩
  · rw [hf 1 (by omega) (by omega), hlo 0 (by omega) (by omega)]
    exact W.now
  · rw [hf 1 (by omega) (by omega), hlo 1 (by omega) (by omega)]
    exact W.z
  · rw [hf (1 + 1) (by omega) (by omega), hlo (2 + j) (by omega) (by omega)]
    exact W.las j h0 h1
  · rw [hf (1 + 2) (by omega) (by omega), hlo (10 + j) (by omega) (by omega)]
    exact W.pri j h0 h1
  · rw [hlo (18 + p) (by omega) (by omega), ← W.lit p hp, ih_b1]
    by_cases e : p = c
    · subst e
      exact k5
    · rw [hf _ (by omega) (by omega)]
  · rw [szp p hp, ih_b1]
    by_cases e : p = c
    · subst e
      rw [if_pos rfl]
      exact k4
    · rw [if_neg e, hf _ (by omega) (by omega)]
      have := W.sz p hp
      rwa [ih_b1] at this
  · have ho := hold p k hp hk
    have hr := hrow p k 0 hp (by decide) hk
    have e0 : ih_scr s c m (26 + 48 * p + 4 * k) = ih_scr s c m (26 + 48 * p + 4 * k + ((0 : Nat) : Int)) := congrArg _ (by omega)
    rw [e0, hr, ih_b2]
    by_cases e : p = c
    · subst e
      rw [h1, ih_dr]
      by_cases q : m ≤ k
      · have hw := W.kd p (k + 1) hp (ho.2 rfl)
        rw [ih_b2] at hw
        rw [if_pos (by omega), if_pos ⟨rfl, q⟩, show (k : Int) + 1 = ((k + 1 : Nat) : Int) by omega, hw]
        exact congrArg s (by omega)
      · have hw := W.kd p k hp ho.1
        rw [ih_b2] at hw
        rw [if_neg (by omega), if_neg (fun h => q h.2), hw]
        exact congrArg s (by omega)
    · have hw := W.kd p k hp ho.1
      rw [ih_b2] at hw
      rw [if_neg (fun h => e h.1), hf _ (by omega) (by omega), hw]
      exact congrArg s (by omega)
  · have ho := hold p k hp hk
    have hr := hrow p k 1 hp (by decide) hk
    have e0 : ih_scr s c m (26 + 48 * p + 4 * k + 1) = ih_scr s c m (26 + 48 * p + 4 * k + ((1 : Nat) : Int)) := congrArg _ (by omega)
    rw [e0, hr, ih_b3]
    by_cases e : p = c
    · subst e
      rw [h2, ih_dr]
      by_cases q : m ≤ k
      · have hw := W.lt p (k + 1) hp (ho.2 rfl)
        rw [ih_b3] at hw
        rw [if_pos (by omega), if_pos ⟨rfl, q⟩, show (k : Int) + 1 = ((k + 1 : Nat) : Int) by omega, hw]
        exact congrArg s (by omega)
      · have hw := W.lt p k hp ho.1
        rw [ih_b3] at hw
        rw [if_neg (by omega), if_neg (fun h => q h.2), hw]
        exact congrArg s (by omega)
    · have hw := W.lt p k hp ho.1
      rw [ih_b3] at hw
      rw [if_neg (fun h => e h.1), hf _ (by omega) (by omega), hw]
      exact congrArg s (by omega)
  · have ho := hold p k hp hk
    have hr := hrow p k 2 hp (by decide) hk
    have e0 : ih_scr s c m (26 + 48 * p + 4 * k + 2) = ih_scr s c m (26 + 48 * p + 4 * k + ((2 : Nat) : Int)) := congrArg _ (by omega)
    rw [e0, hr, ih_b4]
    by_cases e : p = c
    · subst e
      rw [h3, ih_dr]
      by_cases q : m ≤ k
      · have hw := W.ink p (k + 1) hp (ho.2 rfl)
        rw [ih_b4] at hw
        rw [if_pos (by omega), if_pos ⟨rfl, q⟩, show (k : Int) + 1 = ((k + 1 : Nat) : Int) by omega, hw]
        exact congrArg s (by omega)
      · have hw := W.ink p k hp ho.1
        rw [ih_b4] at hw
        rw [if_neg (by omega), if_neg (fun h => q h.2), hw]
        exact congrArg s (by omega)
    · have hw := W.ink p k hp ho.1
      rw [ih_b4] at hw
      rw [if_neg (fun h => e h.1), hf _ (by omega) (by omega), hw]
      exact congrArg s (by omega)
  · have ho := hold p k hp hk
    have hr := hrow p k 3 hp (by decide) hk
    have e0 : ih_scr s c m (26 + 48 * p + 4 * k + 3) = ih_scr s c m (26 + 48 * p + 4 * k + ((3 : Nat) : Int)) := congrArg _ (by omega)
    rw [e0, hr, ih_b5]
    by_cases e : p = c
    · subst e
      rw [h4, ih_dr]
      by_cases q : m ≤ k
      · have hw := W.at_ p (k + 1) hp (ho.2 rfl)
        rw [ih_b5] at hw
        rw [if_pos (by omega), if_pos ⟨rfl, q⟩, show (k : Int) + 1 = ((k + 1 : Nat) : Int) by omega, hw]
        exact congrArg s (by omega)
      · have hw := W.at_ p k hp ho.1
        rw [ih_b5] at hw
        rw [if_neg (by omega), if_neg (fun h => q h.2), hw]
        exact congrArg s (by omega)
    · have hw := W.at_ p k hp ho.1
      rw [ih_b5] at hw
      rw [if_neg (fun h => e h.1), hf _ (by omega) (by omega), hw]
      exact congrArg s (by omega)
  · have hw : (0 ≤ t 5 i ∧ t 5 i < 4) ∧ ((s (218 + i) = -1 ∧ t 6 i = -1) ∨ ((0 ≤ t 6 i ∧ t 6 i < 100) ∧ s (218 + i) = 100 * t 5 i + t 6 i)) := W.spot i h0 h1
    rw [show (1 + 4 : Nat) = 5 from rfl, show (1 + 5 : Nat) = 6 from rfl, hf 5 (by omega) (by omega), h6, ih_fs, if_pos (by omega)]
    unfold ih_scr
    rw [if_neg (by omega), if_neg (by omega), if_pos (by omega)]
    (repeat' split) <;> omega
theorem ih_Gu_scr {s : Int → Int} {c m : Nat} (hc : c < 4) (hm : (m : Int) < s (22 + c)) (G : ih_Gd s) : ih_Gd (ih_scr s c m) := by
  have Z : ∀ p : Nat, p < 4 → 0 ≤ s (22 + p) ∧ s (22 + p) ≤ 12 := fun p hp => (G.pap p hp).sz
  have Zc := Z c hc
  have szp : ∀ p : Nat, p < 4 → ih_scr s c m (22 + p) = if p = c then s (22 + c) - 1 else s (22 + p) := by
    intro p hp
    unfold ih_scr
    by_cases e : p = c
    · subst e
      rw [if_pos rfl, if_pos rfl]
    · rw [if_neg (by omega), if_neg (by omega), if_neg (by omega), if_neg e]
  have hlo : ∀ x : Int, 0 ≤ x → x < 22 → ih_scr s c m x = s x := by
    intro x h0 h1
    unfold ih_scr
    rw [if_neg (by omega), if_neg (by omega), if_neg (by omega)]
  have hrow : ∀ (p k r : Nat), p < 4 → r < 4 → (k : Int) < ih_scr s c m (22 + p) → ∃ k2 : Nat, (k2 : Int) < s (22 + p) ∧ ∀ r : Nat, r < 4 → ih_scr s c m (26 + 48 * p + 4 * k + r) = s (26 + 48 * p + 4 * k2 + r) := by
    intro p k r hp hr hk
    have Zp := Z p hp
    rw [szp p hp] at hk
    by_cases e : p = c
    · subst e
      rw [if_pos rfl] at hk
      by_cases q : m ≤ k
      · refine ⟨k + 1, by omega, fun r hr => ?_⟩
        unfold ih_scr
        rw [if_neg (by omega), if_pos (by omega)]
        exact congrArg s (by omega)
      · refine ⟨k, by omega, fun r hr => ?_⟩
        unfold ih_scr
        rw [if_neg (by omega), if_neg (by omega), if_neg (by omega)]
    · rw [if_neg e] at hk
      refine ⟨k, hk, fun r hr => ?_⟩
      unfold ih_scr
      rw [if_neg (by omega), if_neg (by omega), if_neg (by omega)]
  have n0 : ∀ x : Int, x + ((0 : Nat) : Int) = x := fun x => by omega
  refine ⟨by rw [hlo 0 (by omega) (by omega)]; exact G.now, fun j h0 h1 => by rw [hlo _ (by omega) (by omega)]; exact G.pri j h0 h1, fun p hp => ⟨?_, by rw [hlo _ (by omega) (by omega)]; exact (G.pap p hp).lit, fun k hk => ?_, fun k hk => ?_, fun k hk => ?_, fun k hk => ?_, fun j h0 h1 => by rw [hlo _ (by omega) (by omega)]; exact (G.pap p hp).las j h0 h1⟩, fun p k hp hk => ?_, fun i h0 h1 => ?_⟩
  · have := Z p hp
    rw [szp p hp]
    split <;> omega
  · obtain ⟨k2, q1, q2⟩ := hrow p k 0 hp (by decide) hk
    have q3 := q2 0 (by decide)
    rw [n0, n0] at q3
    have q4 : ih_scr s c m (26 + 48 * p + 4 * k) = s (26 + 48 * p + 4 * k2) := q3
    rw [q4]
    exact (G.pap p hp).kd k2 q1
  · obtain ⟨k2, q1, q2⟩ := hrow p k 0 hp (by decide) hk
    have q3 := q2 1 (by decide)
    skip
    have q4 : ih_scr s c m (26 + 48 * p + 4 * k + 1) = s (26 + 48 * p + 4 * k2 + 1) := q3
    rw [q4]
    exact (G.pap p hp).lt k2 q1
  · obtain ⟨k2, q1, q2⟩ := hrow p k 0 hp (by decide) hk
    have q3 := q2 2 (by decide)
    skip
    have q4 : ih_scr s c m (26 + 48 * p + 4 * k + 2) = s (26 + 48 * p + 4 * k2 + 2) := q3
    rw [q4]
    exact (G.pap p hp).ink k2 q1
  · obtain ⟨k2, q1, q2⟩ := hrow p k 0 hp (by decide) hk
    have q3 := q2 3 (by decide)
    skip
    have q4 : ih_scr s c m (26 + 48 * p + 4 * k + 3) = s (26 + 48 * p + 4 * k2 + 3) := q3
    rw [q4]
    exact (G.pap p hp).at_ k2 q1
  · obtain ⟨k2, q1, q2⟩ := hrow p k 0 hp (by decide) hk
    have q3 : ih_scr s c m (26 + 48 * p + 4 * k + 3) = s (26 + 48 * p + 4 * k2 + 3) := q2 3 (by decide)
    rw [q3, hlo 0 (by omega) (by omega)]
    exact G.ats p k2 hp q1
  · have hsp : ih_scr s c m (218 + i) = if 0 ≤ s (218 + i) ∧ s (218 + i) / 100 = c then (if s (218 + i) % 100 = m then -1 else if (m : Int) < s (218 + i) % 100 then s (218 + i) - 1 else s (218 + i)) else s (218 + i) := by
      unfold ih_scr
      rw [if_neg (by omega), if_neg (by omega), if_pos (by omega)]
    rw [hsp]
    rcases G.spot i h0 h1 with h | ⟨p, k, hp, hk, h⟩
    · left
      rw [if_neg (by omega)]
      exact h
    · have Zp := Z p hp
      by_cases e : p = c
      · subst e
        rw [if_pos (by omega)]
        by_cases q : k = m
        · left
          rw [if_pos (by omega)]
        · rw [if_neg (by omega)]
          by_cases q2 : m < k
          · right
            refine ⟨p, k - 1, hp, ?_, ?_⟩
            · rw [szp p hp, if_pos rfl]
              omega
            · rw [if_pos (by omega)]
              omega
          · right
            refine ⟨p, k, hp, ?_, ?_⟩
            · rw [szp p hp, if_pos rfl]
              omega
            · rw [if_neg (by omega)]
              exact h
      · right
        refine ⟨p, k, hp, ?_, ?_⟩
        · rw [szp p hp, if_neg e]
          exact hk
        · rw [if_neg (by omega)]
          exact h

theorem c_op_scratch {X : List Int} {t : ih_S} {Q : Option xa_V → ih_S → Prop} {s : Int → Int} {a b : Int} (ha : xa_rI a) (hb : xa_rI b) (W : ih_Wr t 1 s) (G : ih_Gd s) (K : ih_chC t (f_scratch s a b) (ih_scr s a.toNat b.toNat) Q) : ih_Wp X 65 0 [xR 0, xI a, xI b] [] t Q := by
  refine ih_seg (i1 := 3) 3 rfl ?_
  refine ih_iv2 111 rfl rfl (by first | rfl | exact ih_kP (ih_P_w0 hc) |  exact ih_kP (by assumption) | exact ih_kC (by assumption) | exact ih_kN (by assumption) | exact ih_kS (by assumption) | exact ih_kW (by assumption)) (Nat.le_of_ble_eq_true rfl) (Nat.le_of_ble_eq_true rfl) rfl ?_
  refine c_isMark (by omega) (by omega) (fun p hp => (ih_PG_W W G hp).sz) (fun c m ea eb hc hm => ?_) (fun hn => ?_)
  · refine ih_seg (i1 := 9) 1 rfl ?_
    subst ea eb
    have P := ih_PG_W W G hc
    have g0 := P.sz
    have hz := ih_W_sz W hc
    have hm2 : (m : Int) < s (22 + c) := by omega
    have hP := ih_P_w0 hc
    refine ih_seg (i1 := 10) 1 rfl ?_
    refine ih_getR rfl rfl ?_
    refine ih_getR rfl (by first | rfl | exact ih_fW2 (by assumption)) ?_
    refine ih_seg (i1 := 13) 1 rfl ?_
    refine ih_aald rfl (ih_eP hc) ?_
    refine ih_seg (i1 := 15) 1 rfl ?_
    refine ih_iv1 24 rfl rfl (by first | rfl | exact ih_kP (ih_P_w0 hc) |  exact ih_kP (by assumption) | exact ih_kC (by assumption) | exact ih_kN (by assumption) | exact ih_kS (by assumption) | exact ih_kW (by assumption)) (Nat.le_of_ble_eq_true rfl) (Nat.le_of_ble_eq_true rfl) rfl ?_
    refine c_drop hP hm (by omega) (fun t1 f1 k4 k5 r1 r2 r3 r4 => ?_)
    refine ih_seg (i1 := 17) 1 rfl ?_
    refine ih_getR rfl rfl ?_
    refine ih_seg (i1 := 20) 2 rfl ?_
    refine ih_iv2 55 rfl rfl (by first | rfl | exact ih_kP (ih_P_w0 hc) |  exact ih_kP (by assumption) | exact ih_kC (by assumption) | exact ih_kN (by assumption) | exact ih_kS (by assumption) | exact ih_kW (by assumption)) (Nat.le_of_ble_eq_true rfl) (Nat.le_of_ble_eq_true rfl) rfl ?_
    have nsp : ∀ i : Int, 0 ≤ i → i < 10 → (0 ≤ t1 5 i ∧ t1 5 i < 4) ∧ -1 ≤ t1 6 i ∧ t1 6 i < 100 := by
      intro i h0 h1
      have hw : (0 ≤ t 5 i ∧ t 5 i < 4) ∧ ((s (218 + i) = -1 ∧ t 6 i = -1) ∨ ((0 ≤ t 6 i ∧ t 6 i < 100) ∧ s (218 + i) = 100 * t 5 i + t 6 i)) := W.spot i h0 h1
      rw [f1 5 (by omega), f1 6 (by omega)]
      omega
    refine c_freeSpots (by omega) (by omega) nsp (fun t2 f2 r6 => ?_)
    rw [f1 5 (by omega), f1 6 (by omega)] at r6
    have k4' : t2 (7 + 5 * c) 4 = s (22 + c) - 1 := by rw [f2 _ (by omega), k4, hz]
    refine ih_seg (i1 := 22) 1 rfl ?_
    refine ih_getR rfl rfl ?_
    refine ih_getR rfl (by first | rfl | exact ih_fW2 (by assumption)) ?_
    refine ih_seg (i1 := 25) 1 rfl ?_
    refine ih_aald rfl (ih_eP hc) ?_
    refine ih_getI rfl (by first | rfl | exact ih_fP4 (ih_P_w0 hc) | exact ih_fP4 (by assumption)) ?_
    refine ih_ret rfl rfl ?_
    simp only [Int.toNat_natCast] at K
    rw [hz] at r1 r2 r3 r4
    refine ih_chC_ok K (by rw [f_scratch, if_pos (by omega), k4']) (ih_Wu_scr G W hc hm2 (fun j j1 j2 => (f2 j j1).trans (f1 j (by omega))) k4' (by rw [f2 _ (by omega), k5]) ?_ ?_ ?_ ?_ r6) (fun j hj => (f2 j (by omega)).trans (f1 j (by omega)))
    · rw [f2 _ (by omega), ← ih_a1]
      exact r1
    · rw [f2 _ (by omega), ← ih_a2]
      exact r2
    · rw [f2 _ (by omega), ← ih_a3]
      exact r3
    · rw [f2 _ (by omega), ← ih_a4]
      exact r4
  · refine ih_seg (i1 := 7) 3 rfl ?_
    refine ih_iv1 102 rfl rfl (by first | rfl | exact ih_kP (ih_P_w0 hc) |  exact ih_kP (by assumption) | exact ih_kC (by assumption) | exact ih_kN (by assumption) | exact ih_kS (by assumption) | exact ih_kW (by assumption)) (Nat.le_of_ble_eq_true rfl) (Nat.le_of_ble_eq_true rfl) rfl ?_
    refine c_finding (by omega) ?_
    refine ih_ret rfl rfl ?_
    have hn2 : ¬ ((0 ≤ a ∧ a < 4) ∧ 0 ≤ b ∧ b < s (22 + a)) := by
      rintro ⟨q1, q2, q3⟩
      refine hn a.toNat b.toNat (by omega) (by omega) (by omega) ?_
      rw [ih_W_sz W (by omega), show ((a.toNat : Nat) : Int) = a by omega]
      omega
    exact ih_chC_no K (by rw [f_scratch, if_neg hn2]) (ih_sc_r _)


theorem r_scratch_2 {X : List Int} {t : ih_S} {Q : Option xa_V → ih_S → Prop} {p m : Nat} (hp : p < 4) (hm : (m : Int) < t 112 (22 + p)) (G : ih_Gd (t 112)) (K : ∀ t1, t1 112 = ih_scr (t 112) p m → (∀ j, j ≠ 112 → t1 j = t j) → Q (some (xI (t 112 (22 + p) - 1))) t1)  : ∀ (d : Nat) (k : Nat) (y : xa_V) (t1 : ih_S) (hd : k + d = 10) (hf : ∀ j, j ≠ 112 → t1 j = t j) (h1 : t1 112 = fun x : Int => if x = 22 + p then t 112 (22 + p) - 1 else if 26 + 48 * (p : Int) + 4 * m ≤ x ∧ x < 26 + 48 * p + 4 * (t 112 (22 + p) - 1) then t 112 (x + 4) else if 218 ≤ x ∧ x < 218 + k then (if 0 ≤ t 112 x ∧ t 112 x / 100 = p then (if t 112 x % 100 = m then -1 else if (m : Int) < t 112 x % 100 then t 112 x - 1 else t 112 x) else t 112 x) else t 112 x), ih_Wp X 143 47 [xR 111, xI p, xI m, xI k, y] [] t1 Q := by
  intro d
  induction d with
  | zero =>
    intro k y t1 hd hf h1
    have z := (G.pap p hp).sz
    obtain rfl : k = 10 := by omega
    refine ih_seg (i1 := 49) 2 rfl ?_
    refine ih_icmp_ge rfl (by omega) (by omega) (fun w1 => ?_) (fun w1 => ?_)
    · refine ih_seg (i1 := 90) 1 rfl ?_
      refine ih_getR rfl rfl ?_
      refine ih_seg (i1 := 94) 3 rfl ?_
      try dsimp only
      refine ih_iald rfl (by first | rfl | exact ih_lP1 (ih_P_w0 hc) | exact ih_lP2 (ih_P_w0 hc) | exact ih_lP3 (ih_P_w0 hc) | exact ih_lP4 (ih_P_w0 hc) |  exact ih_lP1 (by assumption) | exact ih_lP2 (by assumption) | exact ih_lP3 (by assumption) | exact ih_lP4 (by assumption) | exact ih_lC1 (by assumption) | exact ih_lS1 (by assumption) | exact ih_lW1 (by assumption) | exact ih_lW2 (by assumption) | exact ih_lW4 (by assumption) | exact ih_lW5 (by assumption)) (by omega) (by omega) (k := ?_)
      refine ih_ret rfl rfl ?_
      refine ih_Qe ?_ (K t1 ?_ hf)
      · rw [h1]
        exact if_pos rfl
      · rw [h1]
        rfl
    · exfalso
      omega

  | succ d ih =>
    intro k y t1 hd hf h1
    have z := (G.pap p hp).sz
    have ev : t1 112 (218 + k) = t 112 (218 + k) := by rw [h1]; dsimp only; rw [if_neg (by omega), if_neg (by omega), if_neg (by omega)]
    have sr : -1 ≤ t 112 (218 + k) ∧ t 112 (218 + k) < 400 := by
      rcases G.spot k (by omega) (by omega) with sg | ⟨p1, m1, hp1, hm1, sg⟩
      · omega
      · have zz := (G.pap p1 hp1).sz
        omega
    refine ih_seg (i1 := 49) 2 rfl ?_
    refine ih_icmp_ge rfl (by omega) (by omega) (fun w1 => ?_) (fun w1 => ?_)
    · refine ih_seg (i1 := 90) 1 rfl ?_
      refine ih_getR rfl rfl ?_
      refine ih_seg (i1 := 94) 3 rfl ?_
      try dsimp only
      refine ih_iald rfl (by first | rfl | exact ih_lP1 (ih_P_w0 hc) | exact ih_lP2 (ih_P_w0 hc) | exact ih_lP3 (ih_P_w0 hc) | exact ih_lP4 (ih_P_w0 hc) |  exact ih_lP1 (by assumption) | exact ih_lP2 (by assumption) | exact ih_lP3 (by assumption) | exact ih_lP4 (by assumption) | exact ih_lC1 (by assumption) | exact ih_lS1 (by assumption) | exact ih_lW1 (by assumption) | exact ih_lW2 (by assumption) | exact ih_lW4 (by assumption) | exact ih_lW5 (by assumption)) (by omega) (by omega) (k := ?_)
      refine ih_ret rfl rfl ?_
      exfalso
      omega
    · refine ih_seg (i1 := 51) 1 rfl ?_
      refine ih_getR rfl rfl ?_
      refine ih_seg (i1 := 55) 3 rfl ?_
      try dsimp only
      refine ih_iald rfl (by first | rfl | exact ih_lP1 (ih_P_w0 hc) | exact ih_lP2 (ih_P_w0 hc) | exact ih_lP3 (ih_P_w0 hc) | exact ih_lP4 (ih_P_w0 hc) |  exact ih_lP1 (by assumption) | exact ih_lP2 (by assumption) | exact ih_lP3 (by assumption) | exact ih_lP4 (by assumption) | exact ih_lC1 (by assumption) | exact ih_lS1 (by assumption) | exact ih_lW1 (by assumption) | exact ih_lW2 (by assumption) | exact ih_lW4 (by assumption) | exact ih_lW5 (by assumption)) (by omega) (by omega) (k := ?_)
      rw [ev]
      refine ih_seg (i1 := 58) 2 rfl ?_
      try simp only [xa_set, List.set_cons_zero, List.set_cons_succ, List.getElem?_cons_zero, List.getElem?_cons_succ]
      refine ih_ifc_lt rfl (by omega) (fun w2 => ?_) (fun w2 => ?_)
      · refine ih_seg (i1 := 47) 2 rfl ?_
        try simp only [xa_set, List.set_cons_zero, List.set_cons_succ, List.getElem?_cons_zero, List.getElem?_cons_succ]
        refine ih (k + 1) _ _ (by omega) (fun j hj => ?_) ?_
        · first
            | exact (ih_up_ne hj).trans (hf j hj)
            | exact hf j hj
        · first | rw [ih_up_eq, h1] | rw [h1]
          funext x
          try dsimp only
          by_cases ex : x = 218 + k
          · subst ex
            first | rw [ih_u1_eq, if_neg (by omega), if_neg (by omega)] | rw [if_neg (by omega), if_neg (by omega), if_neg (by omega), if_neg (by omega), if_neg (by omega)]
            rw [if_pos (by omega)]
            (repeat' split) <;> omega
          · first | rw [ih_u1_ne ex] | skip
            by_cases e7 : 218 ≤ x ∧ x < 218 + (k : Int)
            · rw [if_pos e7, if_pos (show 218 ≤ x ∧ x < 218 + ((k + 1 : Nat) : Int) by omega)]
            · rw [if_neg e7, if_neg (show ¬ (218 ≤ x ∧ x < 218 + ((k + 1 : Nat) : Int)) by omega)]
      · refine ih_seg (i1 := 61) 2 rfl ?_
        refine ih_idiv0 rfl (by omega) (by omega) ?_
        refine ih_seg (i1 := 63) 1 rfl ?_
        refine ih_icmp_ne rfl (by omega) (by omega) (fun w3 => ?_) (fun w3 => ?_)
        · refine ih_seg (i1 := 47) 2 rfl ?_
          try simp only [xa_set, List.set_cons_zero, List.set_cons_succ, List.getElem?_cons_zero, List.getElem?_cons_succ]
          refine ih (k + 1) _ _ (by omega) (fun j hj => ?_) ?_
          · first
              | exact (ih_up_ne hj).trans (hf j hj)
              | exact hf j hj
          · first | rw [ih_up_eq, h1] | rw [h1]
            funext x
            try dsimp only
            by_cases ex : x = 218 + k
            · subst ex
              first | rw [ih_u1_eq, if_neg (by omega), if_neg (by omega)] | rw [if_neg (by omega), if_neg (by omega), if_neg (by omega), if_neg (by omega), if_neg (by omega)]
              rw [if_pos (by omega)]
              (repeat' split) <;> omega
            · first | rw [ih_u1_ne ex] | skip
              by_cases e7 : 218 ≤ x ∧ x < 218 + (k : Int)
              · rw [if_pos e7, if_pos (show 218 ≤ x ∧ x < 218 + ((k + 1 : Nat) : Int) by omega)]
              · rw [if_neg e7, if_neg (show ¬ (218 ≤ x ∧ x < 218 + ((k + 1 : Nat) : Int)) by omega)]
        · refine ih_seg (i1 := 65) 1 rfl ?_
          refine ih_getR rfl rfl ?_
          refine ih_seg (i1 := 71) 5 rfl ?_
          try dsimp only
          refine ih_irem0 rfl (by omega) (by omega) ?_
          refine ih_seg (i1 := 73) 1 rfl ?_
          refine ih_icmp_ne rfl (by omega) (by omega) (fun w4 => ?_) (fun w4 => ?_)
          · refine ih_seg (i1 := 78) 2 rfl ?_
            refine ih_irem0 rfl (by omega) (by omega) ?_
            refine ih_seg (i1 := 80) 1 rfl ?_
            refine ih_icmp_le rfl (by omega) (by omega) (fun w5 => ?_) (fun w5 => ?_)
            · refine ih_seg (i1 := 86) 1 rfl ?_
              refine ih_iast rfl (by first | rfl | exact ih_lP1 (ih_P_w0 hc) | exact ih_lP2 (ih_P_w0 hc) | exact ih_lP3 (ih_P_w0 hc) | exact ih_lP4 (ih_P_w0 hc) |  exact ih_lP1 (by assumption) | exact ih_lP2 (by assumption) | exact ih_lP3 (by assumption) | exact ih_lP4 (by assumption) | exact ih_lC1 (by assumption) | exact ih_lS1 (by assumption) | exact ih_lW1 (by assumption) | exact ih_lW2 (by assumption) | exact ih_lW4 (by assumption) | exact ih_lW5 (by assumption)) (by omega) (by omega) (k := ?_)
              refine ih_seg (i1 := 47) 2 rfl ?_
              try simp only [xa_set, List.set_cons_zero, List.set_cons_succ, List.getElem?_cons_zero, List.getElem?_cons_succ]
              refine ih (k + 1) _ _ (by omega) (fun j hj => ?_) ?_
              · first
                  | exact (ih_up_ne hj).trans (hf j hj)
                  | exact hf j hj
              · first | rw [ih_up_eq, h1] | rw [h1]
                funext x
                try dsimp only
                by_cases ex : x = 218 + k
                · subst ex
                  first | rw [ih_u1_eq, if_neg (by omega), if_neg (by omega)] | rw [if_neg (by omega), if_neg (by omega), if_neg (by omega), if_neg (by omega), if_neg (by omega)]
                  rw [if_pos (by omega)]
                  (repeat' split) <;> omega
                · first | rw [ih_u1_ne ex] | skip
                  by_cases e7 : 218 ≤ x ∧ x < 218 + (k : Int)
                  · rw [if_pos e7, if_pos (show 218 ≤ x ∧ x < 218 + ((k + 1 : Nat) : Int) by omega)]
                  · rw [if_neg e7, if_neg (show ¬ (218 ≤ x ∧ x < 218 + ((k + 1 : Nat) : Int)) by omega)]
            · refine ih_seg (i1 := 86) 4 rfl ?_
              try dsimp only
              refine ih_iast rfl (by first | rfl | exact ih_lP1 (ih_P_w0 hc) | exact ih_lP2 (ih_P_w0 hc) | exact ih_lP3 (ih_P_w0 hc) | exact ih_lP4 (ih_P_w0 hc) |  exact ih_lP1 (by assumption) | exact ih_lP2 (by assumption) | exact ih_lP3 (by assumption) | exact ih_lP4 (by assumption) | exact ih_lC1 (by assumption) | exact ih_lS1 (by assumption) | exact ih_lW1 (by assumption) | exact ih_lW2 (by assumption) | exact ih_lW4 (by assumption) | exact ih_lW5 (by assumption)) (by omega) (by omega) (k := ?_)
              refine ih_seg (i1 := 47) 2 rfl ?_
              try simp only [xa_set, List.set_cons_zero, List.set_cons_succ, List.getElem?_cons_zero, List.getElem?_cons_succ]
              refine ih (k + 1) _ _ (by omega) (fun j hj => ?_) ?_
              · first
                  | exact (ih_up_ne hj).trans (hf j hj)
                  | exact hf j hj
              · first | rw [ih_up_eq, h1] | rw [h1]
                funext x
                try dsimp only
                by_cases ex : x = 218 + k
                · subst ex
                  first | rw [ih_u1_eq, if_neg (by omega), if_neg (by omega)] | rw [if_neg (by omega), if_neg (by omega), if_neg (by omega), if_neg (by omega), if_neg (by omega)]
                  rw [if_pos (by omega)]
                  (repeat' split) <;> omega
                · first | rw [ih_u1_ne ex] | skip
                  by_cases e7 : 218 ≤ x ∧ x < 218 + (k : Int)
                  · rw [if_pos e7, if_pos (show 218 ≤ x ∧ x < 218 + ((k + 1 : Nat) : Int) by omega)]
                  · rw [if_neg e7, if_neg (show ¬ (218 ≤ x ∧ x < 218 + ((k + 1 : Nat) : Int)) by omega)]
          · refine ih_seg (i1 := 86) 2 rfl ?_
            refine ih_iast rfl (by first | rfl | exact ih_lP1 (ih_P_w0 hc) | exact ih_lP2 (ih_P_w0 hc) | exact ih_lP3 (ih_P_w0 hc) | exact ih_lP4 (ih_P_w0 hc) |  exact ih_lP1 (by assumption) | exact ih_lP2 (by assumption) | exact ih_lP3 (by assumption) | exact ih_lP4 (by assumption) | exact ih_lC1 (by assumption) | exact ih_lS1 (by assumption) | exact ih_lW1 (by assumption) | exact ih_lW2 (by assumption) | exact ih_lW4 (by assumption) | exact ih_lW5 (by assumption)) (by omega) (by omega) (k := ?_)
            refine ih_seg (i1 := 47) 2 rfl ?_
            try simp only [xa_set, List.set_cons_zero, List.set_cons_succ, List.getElem?_cons_zero, List.getElem?_cons_succ]
            refine ih (k + 1) _ _ (by omega) (fun j hj => ?_) ?_
            · first
                | exact (ih_up_ne hj).trans (hf j hj)
                | exact hf j hj
            · first | rw [ih_up_eq, h1] | rw [h1]
              funext x
              try dsimp only
              by_cases ex : x = 218 + k
              · subst ex
                first | rw [ih_u1_eq, if_neg (by omega), if_neg (by omega)] | rw [if_neg (by omega), if_neg (by omega), if_neg (by omega), if_neg (by omega), if_neg (by omega)]
                rw [if_pos (by omega)]
                (repeat' split) <;> omega
              · first | rw [ih_u1_ne ex] | skip
                by_cases e7 : 218 ≤ x ∧ x < 218 + (k : Int)
                · rw [if_pos e7, if_pos (show 218 ≤ x ∧ x < 218 + ((k + 1 : Nat) : Int) by omega)]
                · rw [if_neg e7, if_neg (show ¬ (218 ≤ x ∧ x < 218 + ((k + 1 : Nat) : Int)) by omega)]


theorem r_scratch_1 {X : List Int} {t : ih_S} {Q : Option xa_V → ih_S → Prop} {p m : Nat} (hp : p < 4) (hm : (m : Int) < t 112 (22 + p)) (G : ih_Gd (t 112)) (K : ∀ t1, t1 112 = ih_scr (t 112) p m → (∀ j, j ≠ 112 → t1 j = t j) → Q (some (xI (t 112 (22 + p) - 1))) t1)  : ∀ (d : Nat) (k : Int) (y : xa_V) (t1 : ih_S) (hd : k + d = 26 + 48 * p + 4 * (t 112 (22 + p) - 1)) (hk : 26 + 48 * (p : Int) + 4 * m ≤ k) (hf : ∀ j, j ≠ 112 → t1 j = t j) (h1 : t1 112 = fun x : Int => if x = 22 + p then t 112 (22 + p) - 1 else if 26 + 48 * (p : Int) + 4 * m ≤ x ∧ x < k then t 112 (x + 4) else t 112 x), ih_Wp X 143 23 [xR 111, xI p, xI m, xI k, y] [] t1 Q := by
  intro d
  induction d with
  | zero =>
    intro k y t1 hd hk hf h1
    have z := (G.pap p hp).sz
    have ev : t1 112 (22 + p) = t 112 (22 + p) - 1 := by rw [h1]; exact if_pos rfl
    refine ih_seg (i1 := 26) 3 rfl ?_
    refine ih_getR rfl rfl ?_
    refine ih_seg (i1 := 30) 3 rfl ?_
    try dsimp only
    refine ih_iald rfl (by first | rfl | exact ih_lP1 (ih_P_w0 hc) | exact ih_lP2 (ih_P_w0 hc) | exact ih_lP3 (ih_P_w0 hc) | exact ih_lP4 (ih_P_w0 hc) |  exact ih_lP1 (by assumption) | exact ih_lP2 (by assumption) | exact ih_lP3 (by assumption) | exact ih_lP4 (by assumption) | exact ih_lC1 (by assumption) | exact ih_lS1 (by assumption) | exact ih_lW1 (by assumption) | exact ih_lW2 (by assumption) | exact ih_lW4 (by assumption) | exact ih_lW5 (by assumption)) (by omega) (by omega) (k := ?_)
    rw [ev]
    refine ih_is2 132 rfl rfl (Nat.le_of_ble_eq_true rfl) (Nat.le_of_ble_eq_true rfl) rfl ?_
    refine r_at ?_
    refine ih_icmp_ge rfl (by omega) (by omega) (fun w1 => ?_) (fun w1 => ?_)
    · refine ih_seg (i1 := 47) 2 rfl ?_
      try simp only [xa_set, List.set_cons_zero, List.set_cons_succ, List.getElem?_cons_zero, List.getElem?_cons_succ]
      refine r_scratch_2 hp hm G K 10 0 _ t1 (by omega) hf ?_
      rw [h1]
      funext x
      try dsimp only
      have e : k = 26 + 48 * p + 4 * (t 112 (22 + p) - 1) := by omega
      rw [e, if_neg (show ¬ (218 ≤ x ∧ x < 218 + ((0 : Nat) : Int)) by omega)]
    · exfalso
      omega

  | succ d ih =>
    intro k y t1 hd hk hf h1
    have z := (G.pap p hp).sz
    have ev : t1 112 (22 + p) = t 112 (22 + p) - 1 := by rw [h1]; exact if_pos rfl
    refine ih_seg (i1 := 26) 3 rfl ?_
    refine ih_getR rfl rfl ?_
    refine ih_seg (i1 := 30) 3 rfl ?_
    try dsimp only
    refine ih_iald rfl (by first | rfl | exact ih_lP1 (ih_P_w0 hc) | exact ih_lP2 (ih_P_w0 hc) | exact ih_lP3 (ih_P_w0 hc) | exact ih_lP4 (ih_P_w0 hc) |  exact ih_lP1 (by assumption) | exact ih_lP2 (by assumption) | exact ih_lP3 (by assumption) | exact ih_lP4 (by assumption) | exact ih_lC1 (by assumption) | exact ih_lS1 (by assumption) | exact ih_lW1 (by assumption) | exact ih_lW2 (by assumption) | exact ih_lW4 (by assumption) | exact ih_lW5 (by assumption)) (by omega) (by omega) (k := ?_)
    rw [ev]
    refine ih_is2 132 rfl rfl (Nat.le_of_ble_eq_true rfl) (Nat.le_of_ble_eq_true rfl) rfl ?_
    refine r_at ?_
    refine ih_icmp_ge rfl (by omega) (by omega) (fun w1 => ?_) (fun w1 => ?_)
    · refine ih_seg (i1 := 47) 2 rfl ?_
      try simp only [xa_set, List.set_cons_zero, List.set_cons_succ, List.getElem?_cons_zero, List.getElem?_cons_succ]
      exfalso
      omega
    · refine ih_seg (i1 := 34) 1 rfl ?_
      refine ih_getR rfl rfl ?_
      refine ih_seg (i1 := 37) 2 rfl ?_
      refine ih_getR rfl rfl ?_
      refine ih_seg (i1 := 41) 3 rfl ?_
      try dsimp only
      refine ih_iald rfl (by first | rfl | exact ih_lP1 (ih_P_w0 hc) | exact ih_lP2 (ih_P_w0 hc) | exact ih_lP3 (ih_P_w0 hc) | exact ih_lP4 (ih_P_w0 hc) |  exact ih_lP1 (by assumption) | exact ih_lP2 (by assumption) | exact ih_lP3 (by assumption) | exact ih_lP4 (by assumption) | exact ih_lC1 (by assumption) | exact ih_lS1 (by assumption) | exact ih_lW1 (by assumption) | exact ih_lW2 (by assumption) | exact ih_lW4 (by assumption) | exact ih_lW5 (by assumption)) (by omega) (by omega) (k := ?_)
      refine ih_iast rfl (by first | rfl | exact ih_lP1 (ih_P_w0 hc) | exact ih_lP2 (ih_P_w0 hc) | exact ih_lP3 (ih_P_w0 hc) | exact ih_lP4 (ih_P_w0 hc) |  exact ih_lP1 (by assumption) | exact ih_lP2 (by assumption) | exact ih_lP3 (by assumption) | exact ih_lP4 (by assumption) | exact ih_lC1 (by assumption) | exact ih_lS1 (by assumption) | exact ih_lW1 (by assumption) | exact ih_lW2 (by assumption) | exact ih_lW4 (by assumption) | exact ih_lW5 (by assumption)) (by omega) (by omega) (k := ?_)
      refine ih_seg (i1 := 23) 2 rfl ?_
      try simp only [xa_set, List.set_cons_zero, List.set_cons_succ, List.getElem?_cons_zero, List.getElem?_cons_succ]
      refine ih (k + 1) _ _ (by omega) (by omega) (fun j hj => (ih_up_ne hj).trans (hf j hj)) ?_
      rw [ih_up_eq, h1]
      funext x
      simp only [ih_u1x]
      (repeat' split) <;> first | rfl | omega | exact congrArg (t 112) (by omega)


theorem r_op_scratch {X : List Int} {t : ih_S} {Q : Option xa_V → ih_S → Prop} {a b : Int} (ha : xa_rI a) (hb : xa_rI b) (G : ih_Gd (t 112)) (K : ih_chR t (f_scratch (t 112) a b) (ih_scr (t 112) a.toNat b.toNat) Q) : ih_Wp X 143 0 [xR 111, xI a, xI b, xC 1, xC 1] [] t Q := by
  refine ih_seg (i1 := 3) 3 rfl ?_
  refine ih_iv2 131 rfl rfl (by first | rfl | exact ih_kP (ih_P_w0 hc) |  exact ih_kP (by assumption) | exact ih_kC (by assumption) | exact ih_kN (by assumption) | exact ih_kS (by assumption) | exact ih_kW (by assumption)) (Nat.le_of_ble_eq_true rfl) (Nat.le_of_ble_eq_true rfl) rfl ?_
  refine r_isMark (by omega) (by omega) (fun p hp => (G.pap p hp).sz) (fun p m ea eb hp hm => ?_) (fun hn => ?_)
  · refine ih_seg (i1 := 9) 1 rfl ?_
    subst ea eb
    have P := G.pap p hp
    have g0 := P.sz
    refine ih_seg (i1 := 10) 1 rfl ?_
    refine ih_getR rfl rfl ?_
    refine ih_seg (i1 := 15) 4 rfl ?_
    try dsimp only
    refine ih_iald rfl (by first | rfl | exact ih_lP1 (ih_P_w0 hc) | exact ih_lP2 (ih_P_w0 hc) | exact ih_lP3 (ih_P_w0 hc) | exact ih_lP4 (ih_P_w0 hc) |  exact ih_lP1 (by assumption) | exact ih_lP2 (by assumption) | exact ih_lP3 (by assumption) | exact ih_lP4 (by assumption) | exact ih_lC1 (by assumption) | exact ih_lS1 (by assumption) | exact ih_lW1 (by assumption) | exact ih_lW2 (by assumption) | exact ih_lW4 (by assumption) | exact ih_lW5 (by assumption)) (by omega) (by omega) (k := ?_)
    refine ih_seg (i1 := 18) 2 rfl ?_
    try dsimp only
    refine ih_iast rfl (by first | rfl | exact ih_lP1 (ih_P_w0 hc) | exact ih_lP2 (ih_P_w0 hc) | exact ih_lP3 (ih_P_w0 hc) | exact ih_lP4 (ih_P_w0 hc) |  exact ih_lP1 (by assumption) | exact ih_lP2 (by assumption) | exact ih_lP3 (by assumption) | exact ih_lP4 (by assumption) | exact ih_lC1 (by assumption) | exact ih_lS1 (by assumption) | exact ih_lW1 (by assumption) | exact ih_lW2 (by assumption) | exact ih_lW4 (by assumption) | exact ih_lW5 (by assumption)) (by omega) (by omega) (k := ?_)
    refine ih_seg (i1 := 21) 2 rfl ?_
    refine ih_is2 132 rfl rfl (Nat.le_of_ble_eq_true rfl) (Nat.le_of_ble_eq_true rfl) rfl ?_
    refine r_at ?_
    refine ih_seg (i1 := 23) 1 rfl ?_
    try simp only [xa_set, List.set_cons_zero, List.set_cons_succ, List.getElem?_cons_zero, List.getElem?_cons_succ]
    simp only [Int.toNat_natCast] at K
    have z := (G.pap p hp).sz
    refine r_scratch_1 hp hm G (fun t1 e1 e2 => ?_) (4 * (t 112 (22 + p) - 1 - m)).toNat _ _ _ (by omega) (by omega) (fun j hj => ih_up_ne hj) ?_
    · exact ih_chR_ok K (by rw [f_scratch, if_pos (by omega)]) e1 (ih_rg_w e2)
    · rw [ih_up_eq]
      funext x
      try dsimp only
      rw [ih_u1x, if_neg (show ¬ (26 + 48 * (p : Int) + 4 * m ≤ x ∧ x < 26 + 48 * p + 4 * m) by omega)]
  · refine ih_seg (i1 := 7) 3 rfl ?_
    refine ih_iv1 127 rfl rfl (by first | rfl | exact ih_kP (ih_P_w0 hc) |  exact ih_kP (by assumption) | exact ih_kC (by assumption) | exact ih_kN (by assumption) | exact ih_kS (by assumption) | exact ih_kW (by assumption)) (Nat.le_of_ble_eq_true rfl) (Nat.le_of_ble_eq_true rfl) rfl ?_
    refine r_finds 0 rfl (by omega) ?_
    refine ih_ret rfl rfl ?_
    have hn2 : ¬ ((0 ≤ a ∧ a < 4) ∧ 0 ≤ b ∧ b < t 112 (22 + a)) := by
      rintro ⟨q1, q2, q3⟩
      refine hn a.toNat b.toNat (by omega) (by omega) (by omega) ?_
      rw [show ((a.toNat : Nat) : Int) = a by omega]
      omega
    exact ih_chR_no 0 K (by rw [f_scratch, if_neg hn2]) rfl (ih_rr_r _)


def f_hold (s : Int → Int) (a b d : Int) : ih_An := if (0 ≤ a ∧ a < 10) ∧ (0 ≤ b ∧ b < 4) ∧ (d = -1 ∨ (0 ≤ d ∧ d < s (22 + b))) then ih_ok1 1 else ih_no 0
def g_hold (s : Int → Int) (a b d : Int) : Int → Int := ih_u1 s (218 + a) (if d < 0 then -1 else 100 * b + d)

theorem ih_Wu_hold {t : ih_S} {s : Int → Int} {a b d : Int} (G : ih_Gd s) (ha : 0 ≤ a ∧ a < 10) (hb : 0 ≤ b ∧ b < 4) (hd : d = -1 ∨ (0 ≤ d ∧ d < 12)) (W : ih_Wr t 1 s) : ih_Wr (ih_up (ih_up t 5 a b) 6 a d) 1 (ih_u1 s (218 + a) (if d < 0 then -1 else 100 * b + d)) := by
  have hn := W.now
  have hzz := W.z
  have Z : ∀ p : Nat, p < 4 → 0 ≤ s (22 + p) ∧ s (22 + p) ≤ 12 := fun p hp => (G.pap p hp).sz
  refine ⟨?_, ?_, fun j h0 h1 => ?_, fun j h0 h1 => ?_, fun p hp => ?_, fun p hp => ?_, fun p k hp hk => ?_, fun p k hp hk => ?_, fun p k hp hk => ?_, fun p k hp hk => ?_, fun i h0 h1 => ?_⟩
  · (try simp only [ih_up2, ih_u1x, and_true, true_and, and_self, if_true, if_false, reduceIte] at ⊢) <;> (repeat' split) <;> first | rfl | omega | (exfalso; omega)
  · (try simp only [ih_up2, ih_u1x, and_true, true_and, and_self, if_true, if_false, reduceIte] at ⊢) <;> (repeat' split) <;> first | rfl | omega | (exfalso; omega)
  · have h := W.las j h0 h1
    (try simp only [ih_up2, ih_u1x, and_true, true_and, and_self, if_true, if_false, reduceIte] at h ⊢) <;> (repeat' split) <;> first | rfl | omega | (exfalso; omega)
  · have h := W.pri j h0 h1
    (try simp only [ih_up2, ih_u1x, and_true, true_and, and_self, if_true, if_false, reduceIte] at h ⊢) <;> (repeat' split) <;> first | rfl | omega | (exfalso; omega)
  · have h := W.lit p hp
    have hs := Z p hp
    (try simp only [ih_up2, ih_u1x, and_true, true_and, and_self, if_true, if_false, reduceIte] at h ⊢) <;> (repeat' split) <;> first | rfl | omega | (exfalso; omega)
  · have h := W.sz p hp
    have hs := Z p hp
    (try simp only [ih_up2, ih_u1x, and_true, true_and, and_self, if_true, if_false, reduceIte] at h ⊢) <;> (repeat' split) <;> first | rfl | omega | (exfalso; omega)
  · have hs := Z p hp
    by_cases q : (k : Int) < s (22 + p)
    · have h := W.kd p k hp q
      (try simp only [ih_up2, ih_u1x, and_true, true_and, and_self, if_true, if_false, reduceIte] at h ⊢) <;> (repeat' split) <;> first | rfl | omega | (exfalso; omega)
    · (try simp only [ih_up2, ih_u1x, and_true, true_and, and_self, if_true, if_false, reduceIte] at hk ⊢) <;> (repeat' (split at hk)) <;> first | omega | ((repeat' split) <;> first | rfl | omega | (exfalso; omega))
  · have hs := Z p hp
    by_cases q : (k : Int) < s (22 + p)
    · have h := W.lt p k hp q
      (try simp only [ih_up2, ih_u1x, and_true, true_and, and_self, if_true, if_false, reduceIte] at h ⊢) <;> (repeat' split) <;> first | rfl | omega | (exfalso; omega)
    · (try simp only [ih_up2, ih_u1x, and_true, true_and, and_self, if_true, if_false, reduceIte] at hk ⊢) <;> (repeat' (split at hk)) <;> first | omega | ((repeat' split) <;> first | rfl | omega | (exfalso; omega))
  · have hs := Z p hp
    by_cases q : (k : Int) < s (22 + p)
    · have h := W.ink p k hp q
      (try simp only [ih_up2, ih_u1x, and_true, true_and, and_self, if_true, if_false, reduceIte] at h ⊢) <;> (repeat' split) <;> first | rfl | omega | (exfalso; omega)
    · (try simp only [ih_up2, ih_u1x, and_true, true_and, and_self, if_true, if_false, reduceIte] at hk ⊢) <;> (repeat' (split at hk)) <;> first | omega | ((repeat' split) <;> first | rfl | omega | (exfalso; omega))
  · have hs := Z p hp
    by_cases q : (k : Int) < s (22 + p)
    · have h := W.at_ p k hp q
      (try simp only [ih_up2, ih_u1x, and_true, true_and, and_self, if_true, if_false, reduceIte] at h ⊢) <;> (repeat' split) <;> first | rfl | omega | (exfalso; omega)
    · (try simp only [ih_up2, ih_u1x, and_true, true_and, and_self, if_true, if_false, reduceIte] at hk ⊢) <;> (repeat' (split at hk)) <;> first | omega | ((repeat' split) <;> first | rfl | omega | (exfalso; omega))
  · have h := W.spot i h0 h1
    (try simp only [ih_up2, ih_u1x, and_true, true_and, and_self, if_true, if_false, reduceIte] at h ⊢) <;> (repeat' split) <;> first | rfl | omega | (exfalso; omega)

theorem ih_Gu_hold {s : Int → Int} {a d : Int} {c : Nat} (ha : 0 ≤ a ∧ a < 10) (hc : c < 4) (hd : d = -1 ∨ (0 ≤ d ∧ d < s (22 + c))) (G : ih_Gd s) : ih_Gd (ih_u1 s (218 + a) (if d < 0 then -1 else 100 * c + d)) := by
  have hn := G.now
  have Z : ∀ p : Nat, p < 4 → 0 ≤ s (22 + p) ∧ s (22 + p) ≤ 12 := fun p hp => (G.pap p hp).sz
  refine ⟨?_, fun j h0 h1 => ?_, fun p hp => ⟨?_, ?_, fun k hk => ?_, fun k hk => ?_, fun k hk => ?_, fun k hk => ?_, fun j h0 h1 => ?_⟩, fun p k hp hk => ?_, fun i h0 h1 => ?_⟩
  · (try simp only [ih_u1x, and_true, true_and, and_self, if_true, if_false, reduceIte] at ⊢) <;> (repeat' split) <;> first | rfl | omega | (exfalso; omega)
  · have h := G.pri j h0 h1
    (try simp only [ih_u1x, and_true, true_and, and_self, if_true, if_false, reduceIte] at h ⊢) <;> (repeat' split) <;> first | rfl | omega | (exfalso; omega)
  · have hs := Z p hp
    (by_cases e : p = c) <;> (first | subst e | skip) <;> (try simp only [ih_u1x, and_true, true_and, and_self, if_true, if_false, reduceIte] at ⊢) <;> (repeat' split) <;> first | rfl | omega | (exfalso; omega)
  · have h := (G.pap p hp).lit
    have hs := Z p hp
    (by_cases e : p = c) <;> (first | subst e | skip) <;> (try simp only [ih_u1x, and_true, true_and, and_self, if_true, if_false, reduceIte] at h ⊢) <;> (repeat' split) <;> first | rfl | omega | (exfalso; omega)
  · have hs := Z p hp
    by_cases q : (k : Int) < s (22 + p)
    · have h := (G.pap p hp).kd k q
      (by_cases e : p = c) <;> (first | subst e | skip) <;> (try simp only [ih_u1x, and_true, true_and, and_self, if_true, if_false, reduceIte] at h ⊢) <;> (repeat' split) <;> first | rfl | omega | (exfalso; omega)
    · (by_cases e : p = c) <;> (first | subst e | skip) <;> (try simp only [ih_u1x, and_true, true_and, and_self, if_true, if_false, reduceIte] at hk ⊢) <;> (repeat' (split at hk)) <;> first | omega | ((repeat' split) <;> first | rfl | omega | (exfalso; omega))
  · have hs := Z p hp
    by_cases q : (k : Int) < s (22 + p)
    · have h := (G.pap p hp).lt k q
      (by_cases e : p = c) <;> (first | subst e | skip) <;> (try simp only [ih_u1x, and_true, true_and, and_self, if_true, if_false, reduceIte] at h ⊢) <;> (repeat' split) <;> first | rfl | omega | (exfalso; omega)
    · (by_cases e : p = c) <;> (first | subst e | skip) <;> (try simp only [ih_u1x, and_true, true_and, and_self, if_true, if_false, reduceIte] at hk ⊢) <;> (repeat' (split at hk)) <;> first | omega | ((repeat' split) <;> first | rfl | omega | (exfalso; omega))
  · have hs := Z p hp
    by_cases q : (k : Int) < s (22 + p)
    · have h := (G.pap p hp).ink k q
      (by_cases e : p = c) <;> (first | subst e | skip) <;> (try simp only [ih_u1x, and_true, true_and, and_self, if_true, if_false, reduceIte] at h ⊢) <;> (repeat' split) <;> first | rfl | omega | (exfalso; omega)
    · (by_cases e : p = c) <;> (first | subst e | skip) <;> (try simp only [ih_u1x, and_true, true_and, and_self, if_true, if_false, reduceIte] at hk ⊢) <;> (repeat' (split at hk)) <;> first | omega | ((repeat' split) <;> first | rfl | omega | (exfalso; omega))
  · have hs := Z p hp
    by_cases q : (k : Int) < s (22 + p)
    · have h := (G.pap p hp).at_ k q
      (by_cases e : p = c) <;> (first | subst e | skip) <;> (try simp only [ih_u1x, and_true, true_and, and_self, if_true, if_false, reduceIte] at h ⊢) <;> (repeat' split) <;> first | rfl | omega | (exfalso; omega)
    · (by_cases e : p = c) <;> (first | subst e | skip) <;> (try simp only [ih_u1x, and_true, true_and, and_self, if_true, if_false, reduceIte] at hk ⊢) <;> (repeat' (split at hk)) <;> first | omega | ((repeat' split) <;> first | rfl | omega | (exfalso; omega))
  · have h := (G.pap p hp).las j h0 h1
    (try simp only [ih_u1x, and_true, true_and, and_self, if_true, if_false, reduceIte] at h ⊢) <;> (repeat' split) <;> first | rfl | omega | (exfalso; omega)
  · have hs := Z p hp
    by_cases q : (k : Int) < s (22 + p)
    · have h := G.ats p k hp q
      have h2 := (G.pap p hp).at_ k q
      (by_cases e : p = c) <;> (first | subst e | skip) <;> (try simp only [ih_u1x, and_true, true_and, and_self, if_true, if_false, reduceIte] at h ⊢) <;> (repeat' split) <;> first | rfl | omega | (exfalso; omega)
    · (by_cases e : p = c) <;> (first | subst e | skip) <;> (try simp only [ih_u1x, and_true, true_and, and_self, if_true, if_false, reduceIte] at hk ⊢) <;> (repeat' (split at hk)) <;> first | omega | ((repeat' split) <;> first | rfl | omega | (exfalso; omega))
  · by_cases e : i = a
    · subst e
      rw [ih_u1_eq]
      rcases hd with hd | hd
      · left
        rw [if_pos (by omega)]
      · right
        refine ⟨c, d.toNat, hc, ?_, ?_⟩
        · rw [ih_u1_ne (by omega)]
          omega
        · rw [if_neg (by omega)]
          omega
    · rw [ih_u1_ne (by omega)]
      rcases G.spot i h0 h1 with h | ⟨p, m, hp, hm, h⟩
      · exact Or.inl h
      · refine Or.inr ⟨p, m, hp, ?_, h⟩
        rw [ih_u1_ne (by omega)]
        exact hm

theorem c_op_hold {X : List Int} {t : ih_S} {Q : Option xa_V → ih_S → Prop} {s : Int → Int} {a b d : Int} (ha : xa_rI a) (hb : xa_rI b) (hd : xa_rI d) (W : ih_Wr t 1 s) (G : ih_Gd s) (K : ih_chC t (f_hold s a b d) (g_hold s a b d) Q) : ih_Wp X 90 0 [xR 0, xI a, xI b, xI d] [] t Q := by
  refine ih_seg (i1 := 1) 1 rfl ?_
  refine ih_is1 109 rfl rfl (Nat.le_of_ble_eq_true rfl) (Nat.le_of_ble_eq_true rfl) rfl ?_
  refine c_isSpot (by omega) (fun w1 => ?_) (fun w2 => ?_)
  · refine ih_seg (i1 := 4) 2 rfl ?_
    refine ih_is1 106 rfl rfl (Nat.le_of_ble_eq_true rfl) (Nat.le_of_ble_eq_true rfl) rfl ?_
    refine c_isPaper (by omega) (fun w3 => ?_) (fun w4 => ?_)
    · refine ih_seg (i1 := 8) 3 rfl ?_
      refine ih_icmp_eq rfl (by omega) (by omega) (fun w5 => ?_) (fun w5 => ?_)
      · refine ih_seg (i1 := 19) 1 rfl ?_
        refine ih_getR rfl rfl ?_
        refine ih_getR rfl (by first | rfl | exact ih_fW3 (by assumption)) ?_
        refine ih_seg (i1 := 23) 2 rfl ?_
        refine ih_iast rfl (by first | rfl | exact ih_lP1 (ih_P_w0 hc) | exact ih_lP2 (ih_P_w0 hc) | exact ih_lP3 (ih_P_w0 hc) | exact ih_lP4 (ih_P_w0 hc) |  exact ih_lP1 (by assumption) | exact ih_lP2 (by assumption) | exact ih_lP3 (by assumption) | exact ih_lP4 (by assumption) | exact ih_lC1 (by assumption) | exact ih_lS1 (by assumption) | exact ih_lW1 (by assumption) | exact ih_lW2 (by assumption) | exact ih_lW4 (by assumption) | exact ih_lW5 (by assumption)) (by omega) (by omega) (k := ?_)
        refine ih_seg (i1 := 25) 1 rfl ?_
        refine ih_getR rfl rfl ?_
        refine ih_getR rfl (by first | rfl | exact ih_fW4 (by assumption)) ?_
        refine ih_seg (i1 := 29) 2 rfl ?_
        refine ih_iast rfl (by first | rfl | exact ih_lP1 (ih_P_w0 hc) | exact ih_lP2 (ih_P_w0 hc) | exact ih_lP3 (ih_P_w0 hc) | exact ih_lP4 (ih_P_w0 hc) |  exact ih_lP1 (by assumption) | exact ih_lP2 (by assumption) | exact ih_lP3 (by assumption) | exact ih_lP4 (by assumption) | exact ih_lC1 (by assumption) | exact ih_lS1 (by assumption) | exact ih_lW1 (by assumption) | exact ih_lW2 (by assumption) | exact ih_lW4 (by assumption) | exact ih_lW5 (by assumption)) (by omega) (by omega) (k := ?_)
        refine ih_seg (i1 := 31) 1 rfl ?_
        refine ih_ret rfl rfl ?_
        first
          | (exfalso
             omega)
          | exact ih_chC_no K (by rw [f_hold, if_neg (by omega)]) (ih_sc_r _)
          | (have zz := (G.pap c hc).sz
             have hz := ih_W_sz W hc
             refine ih_chC_ok K (by rw [f_hold, ea, if_pos (by omega)]) (ih_Wu_hold G (by omega) (by omega) (by omega) W) (by repeat (first | exact ih_cf_r t | refine ih_cf_u ?_ (by omega))))
          | exact ih_chC_ok K (by rw [f_hold, if_pos (by omega)]) (ih_Wu_hold G (by omega) (by omega) (by omega) W) (by repeat (first | exact ih_cf_r t | refine ih_cf_u ?_ (by omega)))
          | (have hn2 : ¬ ((0 ≤ b ∧ b < 4) ∧ 0 ≤ d ∧ d < s (22 + b)) := by
               rintro ⟨q1, q2, q3⟩
               refine hn b.toNat d.toNat (by omega) (by omega) (by omega) ?_
               rw [ih_W_sz W (by omega), show ((b.toNat : Nat) : Int) = b by omega]
               omega
             exact ih_chC_no K (by rw [f_hold, if_neg (fun q => by omega)]) (ih_sc_r _))
      · refine ih_seg (i1 := 12) 3 rfl ?_
        refine ih_iv2 111 rfl rfl (by first | rfl | exact ih_kP (ih_P_w0 hc) |  exact ih_kP (by assumption) | exact ih_kC (by assumption) | exact ih_kN (by assumption) | exact ih_kS (by assumption) | exact ih_kW (by assumption)) (Nat.le_of_ble_eq_true rfl) (Nat.le_of_ble_eq_true rfl) rfl ?_
        refine c_isMark (by omega) (by omega) (fun p hp => (ih_PG_W W G hp).sz) (fun c m ea eb hc hm => ?_) (fun hn => ?_)
        · refine ih_seg (i1 := 19) 2 rfl ?_
          refine ih_getR rfl rfl ?_
          refine ih_getR rfl (by first | rfl | exact ih_fW3 (by assumption)) ?_
          refine ih_seg (i1 := 23) 2 rfl ?_
          refine ih_iast rfl (by first | rfl | exact ih_lP1 (ih_P_w0 hc) | exact ih_lP2 (ih_P_w0 hc) | exact ih_lP3 (ih_P_w0 hc) | exact ih_lP4 (ih_P_w0 hc) |  exact ih_lP1 (by assumption) | exact ih_lP2 (by assumption) | exact ih_lP3 (by assumption) | exact ih_lP4 (by assumption) | exact ih_lC1 (by assumption) | exact ih_lS1 (by assumption) | exact ih_lW1 (by assumption) | exact ih_lW2 (by assumption) | exact ih_lW4 (by assumption) | exact ih_lW5 (by assumption)) (by omega) (by omega) (k := ?_)
          refine ih_seg (i1 := 25) 1 rfl ?_
          refine ih_getR rfl rfl ?_
          refine ih_getR rfl (by first | rfl | exact ih_fW4 (by assumption)) ?_
          refine ih_seg (i1 := 29) 2 rfl ?_
          refine ih_iast rfl (by first | rfl | exact ih_lP1 (ih_P_w0 hc) | exact ih_lP2 (ih_P_w0 hc) | exact ih_lP3 (ih_P_w0 hc) | exact ih_lP4 (ih_P_w0 hc) |  exact ih_lP1 (by assumption) | exact ih_lP2 (by assumption) | exact ih_lP3 (by assumption) | exact ih_lP4 (by assumption) | exact ih_lC1 (by assumption) | exact ih_lS1 (by assumption) | exact ih_lW1 (by assumption) | exact ih_lW2 (by assumption) | exact ih_lW4 (by assumption) | exact ih_lW5 (by assumption)) (by omega) (by omega) (k := ?_)
          refine ih_seg (i1 := 31) 1 rfl ?_
          refine ih_ret rfl rfl ?_
          first
            | (exfalso
               omega)
            | exact ih_chC_no K (by rw [f_hold, if_neg (by omega)]) (ih_sc_r _)
            | (have zz := (G.pap c hc).sz
               have hz := ih_W_sz W hc
               refine ih_chC_ok K (by rw [f_hold, ea, if_pos (by omega)]) (ih_Wu_hold G (by omega) (by omega) (by omega) W) (by repeat (first | exact ih_cf_r t | refine ih_cf_u ?_ (by omega))))
            | exact ih_chC_ok K (by rw [f_hold, if_pos (by omega)]) (ih_Wu_hold G (by omega) (by omega) (by omega) W) (by repeat (first | exact ih_cf_r t | refine ih_cf_u ?_ (by omega)))
            | (have hn2 : ¬ ((0 ≤ b ∧ b < 4) ∧ 0 ≤ d ∧ d < s (22 + b)) := by
                 rintro ⟨q1, q2, q3⟩
                 refine hn b.toNat d.toNat (by omega) (by omega) (by omega) ?_
                 rw [ih_W_sz W (by omega), show ((b.toNat : Nat) : Int) = b by omega]
                 omega
               exact ih_chC_no K (by rw [f_hold, if_neg (fun q => by omega)]) (ih_sc_r _))
        · refine ih_seg (i1 := 16) 3 rfl ?_
          refine ih_iv1 102 rfl rfl (by first | rfl | exact ih_kP (ih_P_w0 hc) |  exact ih_kP (by assumption) | exact ih_kC (by assumption) | exact ih_kN (by assumption) | exact ih_kS (by assumption) | exact ih_kW (by assumption)) (Nat.le_of_ble_eq_true rfl) (Nat.le_of_ble_eq_true rfl) rfl ?_
          refine c_finding (by omega) ?_
          refine ih_ret rfl rfl ?_
          first
            | (exfalso
               omega)
            | exact ih_chC_no K (by rw [f_hold, if_neg (by omega)]) (ih_sc_r _)
            | (have zz := (G.pap c hc).sz
               have hz := ih_W_sz W hc
               refine ih_chC_ok K (by rw [f_hold, ea, if_pos (by omega)]) (ih_Wu_hold G (by omega) (by omega) (by omega) W) (by repeat (first | exact ih_cf_r t | refine ih_cf_u ?_ (by omega))))
            | exact ih_chC_ok K (by rw [f_hold, if_pos (by omega)]) (ih_Wu_hold G (by omega) (by omega) (by omega) W) (by repeat (first | exact ih_cf_r t | refine ih_cf_u ?_ (by omega)))
            | (have hn2 : ¬ ((0 ≤ b ∧ b < 4) ∧ 0 ≤ d ∧ d < s (22 + b)) := by
                 rintro ⟨q1, q2, q3⟩
                 refine hn b.toNat d.toNat (by omega) (by omega) (by omega) ?_
                 rw [ih_W_sz W (by omega), show ((b.toNat : Nat) : Int) = b by omega]
                 omega
               exact ih_chC_no K (by rw [f_hold, if_neg (fun q => by omega)]) (ih_sc_r _))
    · refine ih_seg (i1 := 16) 3 rfl ?_
      refine ih_iv1 102 rfl rfl (by first | rfl | exact ih_kP (ih_P_w0 hc) |  exact ih_kP (by assumption) | exact ih_kC (by assumption) | exact ih_kN (by assumption) | exact ih_kS (by assumption) | exact ih_kW (by assumption)) (Nat.le_of_ble_eq_true rfl) (Nat.le_of_ble_eq_true rfl) rfl ?_
      refine c_finding (by omega) ?_
      refine ih_ret rfl rfl ?_
      first
        | (exfalso
           omega)
        | exact ih_chC_no K (by rw [f_hold, if_neg (by omega)]) (ih_sc_r _)
        | (have zz := (G.pap c hc).sz
           have hz := ih_W_sz W hc
           refine ih_chC_ok K (by rw [f_hold, ea, if_pos (by omega)]) (ih_Wu_hold G (by omega) (by omega) (by omega) W) (by repeat (first | exact ih_cf_r t | refine ih_cf_u ?_ (by omega))))
        | exact ih_chC_ok K (by rw [f_hold, if_pos (by omega)]) (ih_Wu_hold G (by omega) (by omega) (by omega) W) (by repeat (first | exact ih_cf_r t | refine ih_cf_u ?_ (by omega)))
        | (have hn2 : ¬ ((0 ≤ b ∧ b < 4) ∧ 0 ≤ d ∧ d < s (22 + b)) := by
             rintro ⟨q1, q2, q3⟩
             refine hn b.toNat d.toNat (by omega) (by omega) (by omega) ?_
             rw [ih_W_sz W (by omega), show ((b.toNat : Nat) : Int) = b by omega]
             omega
           exact ih_chC_no K (by rw [f_hold, if_neg (fun q => by omega)]) (ih_sc_r _))
  · refine ih_seg (i1 := 16) 3 rfl ?_
    refine ih_iv1 102 rfl rfl (by first | rfl | exact ih_kP (ih_P_w0 hc) |  exact ih_kP (by assumption) | exact ih_kC (by assumption) | exact ih_kN (by assumption) | exact ih_kS (by assumption) | exact ih_kW (by assumption)) (Nat.le_of_ble_eq_true rfl) (Nat.le_of_ble_eq_true rfl) rfl ?_
    refine c_finding (by omega) ?_
    refine ih_ret rfl rfl ?_
    first
      | (exfalso
         omega)
      | exact ih_chC_no K (by rw [f_hold, if_neg (by omega)]) (ih_sc_r _)
      | (have zz := (G.pap c hc).sz
         have hz := ih_W_sz W hc
         refine ih_chC_ok K (by rw [f_hold, ea, if_pos (by omega)]) (ih_Wu_hold G (by omega) (by omega) (by omega) W) (by repeat (first | exact ih_cf_r t | refine ih_cf_u ?_ (by omega))))
      | exact ih_chC_ok K (by rw [f_hold, if_pos (by omega)]) (ih_Wu_hold G (by omega) (by omega) (by omega) W) (by repeat (first | exact ih_cf_r t | refine ih_cf_u ?_ (by omega)))
      | (have hn2 : ¬ ((0 ≤ b ∧ b < 4) ∧ 0 ≤ d ∧ d < s (22 + b)) := by
           rintro ⟨q1, q2, q3⟩
           refine hn b.toNat d.toNat (by omega) (by omega) (by omega) ?_
           rw [ih_W_sz W (by omega), show ((b.toNat : Nat) : Int) = b by omega]
           omega
         exact ih_chC_no K (by rw [f_hold, if_neg (fun q => by omega)]) (ih_sc_r _))


theorem r_op_hold {X : List Int} {t : ih_S} {Q : Option xa_V → ih_S → Prop} {a b d : Int} (ha : xa_rI a) (hb : xa_rI b) (hd : xa_rI d) (G : ih_Gd (t 112)) (K : ih_chR t (f_hold (t 112) a b d) (g_hold (t 112) a b d) Q) : ih_Wp X 196 0 [xR 111, xI a, xI b, xI d] [] t Q := by
  refine ih_seg (i1 := 1) 1 rfl ?_
  refine ih_i2l rfl (by omega) ?_
  refine ih_seg (i1 := 4) 2 rfl ?_
  refine ih_is3 126 rfl rfl (Nat.le_of_ble_eq_true rfl) (Nat.le_of_ble_eq_true rfl) rfl ?_
  refine r_in (by omega) (by omega) (by omega) (fun w1 => ?_) (fun w2 => ?_)
  · refine ih_seg (i1 := 7) 2 rfl ?_
    refine ih_is1 128 rfl rfl (Nat.le_of_ble_eq_true rfl) (Nat.le_of_ble_eq_true rfl) rfl ?_
    refine r_isPaper (by omega) (fun w3 => ?_) (fun w4 => ?_)
    · refine ih_seg (i1 := 11) 3 rfl ?_
      refine ih_icmp_eq rfl (by omega) (by omega) (fun w5 => ?_) (fun w5 => ?_)
      · refine ih_seg (i1 := 22) 1 rfl ?_
        refine ih_getR rfl rfl ?_
        refine ih_seg (i1 := 27) 4 rfl ?_
        try dsimp only
        refine ih_ifc_ge rfl (by omega) (fun w6 => ?_) (fun w6 => ?_)
        · refine ih_seg (i1 := 35) 5 rfl ?_
          try dsimp only
          refine ih_iast rfl (by first | rfl | exact ih_lP1 (ih_P_w0 hc) | exact ih_lP2 (ih_P_w0 hc) | exact ih_lP3 (ih_P_w0 hc) | exact ih_lP4 (ih_P_w0 hc) |  exact ih_lP1 (by assumption) | exact ih_lP2 (by assumption) | exact ih_lP3 (by assumption) | exact ih_lP4 (by assumption) | exact ih_lC1 (by assumption) | exact ih_lS1 (by assumption) | exact ih_lW1 (by assumption) | exact ih_lW2 (by assumption) | exact ih_lW4 (by assumption) | exact ih_lW5 (by assumption)) (by omega) (by omega) (k := ?_)
          refine ih_seg (i1 := 37) 1 rfl ?_
          refine ih_ret rfl rfl ?_
          first
            | (exfalso
               omega)
            | exact ih_chR_no 0 K (by rw [f_hold, if_neg (by omega)]) rfl (ih_rr_r _)
            | (have zz := (G.pap p hp).sz
               refine ih_chR_ok K (by rw [f_hold, ea, if_pos (by omega)]) ?_ (ih_rg_u (ih_rg_r t) (by omega))
               rw [ih_up_eq, g_hold]
               first | rw [if_pos (by omega)] | rw [if_neg (by omega)])
            | (refine ih_chR_ok K (by rw [f_hold, if_pos (by omega)]) ?_ (ih_rg_u (ih_rg_r t) (by omega))
               rw [ih_up_eq, g_hold]
               first | rw [if_pos (by omega)] | rw [if_neg (by omega)])
            | (exfalso
               omega)
            | (have hn2 : ¬ ((0 ≤ b ∧ b < 4) ∧ 0 ≤ d ∧ d < t 112 (22 + b)) := by
                 rintro ⟨q1, q2, q3⟩
                 refine hn b.toNat d.toNat (by omega) (by omega) (by omega) ?_
                 rw [show ((b.toNat : Nat) : Int) = b by omega]
                 omega
               exact ih_chR_no 0 K (by rw [f_hold, if_neg (fun q => by omega)]) rfl (ih_rr_r _))
        · refine ih_seg (i1 := 35) 2 rfl ?_
          refine ih_iast rfl (by first | rfl | exact ih_lP1 (ih_P_w0 hc) | exact ih_lP2 (ih_P_w0 hc) | exact ih_lP3 (ih_P_w0 hc) | exact ih_lP4 (ih_P_w0 hc) |  exact ih_lP1 (by assumption) | exact ih_lP2 (by assumption) | exact ih_lP3 (by assumption) | exact ih_lP4 (by assumption) | exact ih_lC1 (by assumption) | exact ih_lS1 (by assumption) | exact ih_lW1 (by assumption) | exact ih_lW2 (by assumption) | exact ih_lW4 (by assumption) | exact ih_lW5 (by assumption)) (by omega) (by omega) (k := ?_)
          refine ih_seg (i1 := 37) 1 rfl ?_
          refine ih_ret rfl rfl ?_
          first
            | (exfalso
               omega)
            | exact ih_chR_no 0 K (by rw [f_hold, if_neg (by omega)]) rfl (ih_rr_r _)
            | (have zz := (G.pap p hp).sz
               refine ih_chR_ok K (by rw [f_hold, ea, if_pos (by omega)]) ?_ (ih_rg_u (ih_rg_r t) (by omega))
               rw [ih_up_eq, g_hold]
               first | rw [if_pos (by omega)] | rw [if_neg (by omega)])
            | (refine ih_chR_ok K (by rw [f_hold, if_pos (by omega)]) ?_ (ih_rg_u (ih_rg_r t) (by omega))
               rw [ih_up_eq, g_hold]
               first | rw [if_pos (by omega)] | rw [if_neg (by omega)])
            | (exfalso
               omega)
            | (have hn2 : ¬ ((0 ≤ b ∧ b < 4) ∧ 0 ≤ d ∧ d < t 112 (22 + b)) := by
                 rintro ⟨q1, q2, q3⟩
                 refine hn b.toNat d.toNat (by omega) (by omega) (by omega) ?_
                 rw [show ((b.toNat : Nat) : Int) = b by omega]
                 omega
               exact ih_chR_no 0 K (by rw [f_hold, if_neg (fun q => by omega)]) rfl (ih_rr_r _))
      · refine ih_seg (i1 := 15) 3 rfl ?_
        refine ih_iv2 131 rfl rfl (by first | rfl | exact ih_kP (ih_P_w0 hc) |  exact ih_kP (by assumption) | exact ih_kC (by assumption) | exact ih_kN (by assumption) | exact ih_kS (by assumption) | exact ih_kW (by assumption)) (Nat.le_of_ble_eq_true rfl) (Nat.le_of_ble_eq_true rfl) rfl ?_
        refine r_isMark (by omega) (by omega) (fun p hp => (G.pap p hp).sz) (fun p m ea eb hp hm => ?_) (fun hn => ?_)
        · refine ih_seg (i1 := 22) 2 rfl ?_
          refine ih_getR rfl rfl ?_
          refine ih_seg (i1 := 27) 4 rfl ?_
          try dsimp only
          refine ih_ifc_ge rfl (by omega) (fun w7 => ?_) (fun w7 => ?_)
          · refine ih_seg (i1 := 35) 5 rfl ?_
            try dsimp only
            refine ih_iast rfl (by first | rfl | exact ih_lP1 (ih_P_w0 hc) | exact ih_lP2 (ih_P_w0 hc) | exact ih_lP3 (ih_P_w0 hc) | exact ih_lP4 (ih_P_w0 hc) |  exact ih_lP1 (by assumption) | exact ih_lP2 (by assumption) | exact ih_lP3 (by assumption) | exact ih_lP4 (by assumption) | exact ih_lC1 (by assumption) | exact ih_lS1 (by assumption) | exact ih_lW1 (by assumption) | exact ih_lW2 (by assumption) | exact ih_lW4 (by assumption) | exact ih_lW5 (by assumption)) (by omega) (by omega) (k := ?_)
            refine ih_seg (i1 := 37) 1 rfl ?_
            refine ih_ret rfl rfl ?_
            first
              | (exfalso
                 omega)
              | exact ih_chR_no 0 K (by rw [f_hold, if_neg (by omega)]) rfl (ih_rr_r _)
              | (have zz := (G.pap p hp).sz
                 refine ih_chR_ok K (by rw [f_hold, ea, if_pos (by omega)]) ?_ (ih_rg_u (ih_rg_r t) (by omega))
                 rw [ih_up_eq, g_hold]
                 first | rw [if_pos (by omega)] | rw [if_neg (by omega)])
              | (refine ih_chR_ok K (by rw [f_hold, if_pos (by omega)]) ?_ (ih_rg_u (ih_rg_r t) (by omega))
                 rw [ih_up_eq, g_hold]
                 first | rw [if_pos (by omega)] | rw [if_neg (by omega)])
              | (exfalso
                 omega)
              | (have hn2 : ¬ ((0 ≤ b ∧ b < 4) ∧ 0 ≤ d ∧ d < t 112 (22 + b)) := by
                   rintro ⟨q1, q2, q3⟩
                   refine hn b.toNat d.toNat (by omega) (by omega) (by omega) ?_
                   rw [show ((b.toNat : Nat) : Int) = b by omega]
                   omega
                 exact ih_chR_no 0 K (by rw [f_hold, if_neg (fun q => by omega)]) rfl (ih_rr_r _))
          · refine ih_seg (i1 := 35) 2 rfl ?_
            refine ih_iast rfl (by first | rfl | exact ih_lP1 (ih_P_w0 hc) | exact ih_lP2 (ih_P_w0 hc) | exact ih_lP3 (ih_P_w0 hc) | exact ih_lP4 (ih_P_w0 hc) |  exact ih_lP1 (by assumption) | exact ih_lP2 (by assumption) | exact ih_lP3 (by assumption) | exact ih_lP4 (by assumption) | exact ih_lC1 (by assumption) | exact ih_lS1 (by assumption) | exact ih_lW1 (by assumption) | exact ih_lW2 (by assumption) | exact ih_lW4 (by assumption) | exact ih_lW5 (by assumption)) (by omega) (by omega) (k := ?_)
            refine ih_seg (i1 := 37) 1 rfl ?_
            refine ih_ret rfl rfl ?_
            first
              | (exfalso
                 omega)
              | exact ih_chR_no 0 K (by rw [f_hold, if_neg (by omega)]) rfl (ih_rr_r _)
              | (have zz := (G.pap p hp).sz
                 refine ih_chR_ok K (by rw [f_hold, ea, if_pos (by omega)]) ?_ (ih_rg_u (ih_rg_r t) (by omega))
                 rw [ih_up_eq, g_hold]
                 first | rw [if_pos (by omega)] | rw [if_neg (by omega)])
              | (refine ih_chR_ok K (by rw [f_hold, if_pos (by omega)]) ?_ (ih_rg_u (ih_rg_r t) (by omega))
                 rw [ih_up_eq, g_hold]
                 first | rw [if_pos (by omega)] | rw [if_neg (by omega)])
              | (exfalso
                 omega)
              | (have hn2 : ¬ ((0 ≤ b ∧ b < 4) ∧ 0 ≤ d ∧ d < t 112 (22 + b)) := by
                   rintro ⟨q1, q2, q3⟩
                   refine hn b.toNat d.toNat (by omega) (by omega) (by omega) ?_
                   rw [show ((b.toNat : Nat) : Int) = b by omega]
                   omega
                 exact ih_chR_no 0 K (by rw [f_hold, if_neg (fun q => by omega)]) rfl (ih_rr_r _))
        · refine ih_seg (i1 := 19) 3 rfl ?_
          refine ih_iv1 127 rfl rfl (by first | rfl | exact ih_kP (ih_P_w0 hc) |  exact ih_kP (by assumption) | exact ih_kC (by assumption) | exact ih_kN (by assumption) | exact ih_kS (by assumption) | exact ih_kW (by assumption)) (Nat.le_of_ble_eq_true rfl) (Nat.le_of_ble_eq_true rfl) rfl ?_
          refine r_finds 0 rfl (by omega) ?_
          refine ih_ret rfl rfl ?_
          first
            | (exfalso
               omega)
            | exact ih_chR_no 0 K (by rw [f_hold, if_neg (by omega)]) rfl (ih_rr_r _)
            | (have zz := (G.pap p hp).sz
               refine ih_chR_ok K (by rw [f_hold, ea, if_pos (by omega)]) ?_ (ih_rg_u (ih_rg_r t) (by omega))
               rw [ih_up_eq, g_hold]
               first | rw [if_pos (by omega)] | rw [if_neg (by omega)])
            | (refine ih_chR_ok K (by rw [f_hold, if_pos (by omega)]) ?_ (ih_rg_u (ih_rg_r t) (by omega))
               rw [ih_up_eq, g_hold]
               first | rw [if_pos (by omega)] | rw [if_neg (by omega)])
            | (exfalso
               omega)
            | (have hn2 : ¬ ((0 ≤ b ∧ b < 4) ∧ 0 ≤ d ∧ d < t 112 (22 + b)) := by
                 rintro ⟨q1, q2, q3⟩
                 refine hn b.toNat d.toNat (by omega) (by omega) (by omega) ?_
                 rw [show ((b.toNat : Nat) : Int) = b by omega]
                 omega
               exact ih_chR_no 0 K (by rw [f_hold, if_neg (fun q => by omega)]) rfl (ih_rr_r _))
    · refine ih_seg (i1 := 19) 3 rfl ?_
      refine ih_iv1 127 rfl rfl (by first | rfl | exact ih_kP (ih_P_w0 hc) |  exact ih_kP (by assumption) | exact ih_kC (by assumption) | exact ih_kN (by assumption) | exact ih_kS (by assumption) | exact ih_kW (by assumption)) (Nat.le_of_ble_eq_true rfl) (Nat.le_of_ble_eq_true rfl) rfl ?_
      refine r_finds 0 rfl (by omega) ?_
      refine ih_ret rfl rfl ?_
      first
        | (exfalso
           omega)
        | exact ih_chR_no 0 K (by rw [f_hold, if_neg (by omega)]) rfl (ih_rr_r _)
        | (have zz := (G.pap p hp).sz
           refine ih_chR_ok K (by rw [f_hold, ea, if_pos (by omega)]) ?_ (ih_rg_u (ih_rg_r t) (by omega))
           rw [ih_up_eq, g_hold]
           first | rw [if_pos (by omega)] | rw [if_neg (by omega)])
        | (refine ih_chR_ok K (by rw [f_hold, if_pos (by omega)]) ?_ (ih_rg_u (ih_rg_r t) (by omega))
           rw [ih_up_eq, g_hold]
           first | rw [if_pos (by omega)] | rw [if_neg (by omega)])
        | (exfalso
           omega)
        | (have hn2 : ¬ ((0 ≤ b ∧ b < 4) ∧ 0 ≤ d ∧ d < t 112 (22 + b)) := by
             rintro ⟨q1, q2, q3⟩
             refine hn b.toNat d.toNat (by omega) (by omega) (by omega) ?_
             rw [show ((b.toNat : Nat) : Int) = b by omega]
             omega
           exact ih_chR_no 0 K (by rw [f_hold, if_neg (fun q => by omega)]) rfl (ih_rr_r _))
  · refine ih_seg (i1 := 19) 3 rfl ?_
    refine ih_iv1 127 rfl rfl (by first | rfl | exact ih_kP (ih_P_w0 hc) |  exact ih_kP (by assumption) | exact ih_kC (by assumption) | exact ih_kN (by assumption) | exact ih_kS (by assumption) | exact ih_kW (by assumption)) (Nat.le_of_ble_eq_true rfl) (Nat.le_of_ble_eq_true rfl) rfl ?_
    refine r_finds 0 rfl (by omega) ?_
    refine ih_ret rfl rfl ?_
    first
      | (exfalso
         omega)
      | exact ih_chR_no 0 K (by rw [f_hold, if_neg (by omega)]) rfl (ih_rr_r _)
      | (have zz := (G.pap p hp).sz
         refine ih_chR_ok K (by rw [f_hold, ea, if_pos (by omega)]) ?_ (ih_rg_u (ih_rg_r t) (by omega))
         rw [ih_up_eq, g_hold]
         first | rw [if_pos (by omega)] | rw [if_neg (by omega)])
      | (refine ih_chR_ok K (by rw [f_hold, if_pos (by omega)]) ?_ (ih_rg_u (ih_rg_r t) (by omega))
         rw [ih_up_eq, g_hold]
         first | rw [if_pos (by omega)] | rw [if_neg (by omega)])
      | (exfalso
         omega)
      | (have hn2 : ¬ ((0 ≤ b ∧ b < 4) ∧ 0 ≤ d ∧ d < t 112 (22 + b)) := by
           rintro ⟨q1, q2, q3⟩
           refine hn b.toNat d.toNat (by omega) (by omega) (by omega) ?_
           rw [show ((b.toNat : Nat) : Int) = b by omega]
           omega
         exact ih_chR_no 0 K (by rw [f_hold, if_neg (fun q => by omega)]) rfl (ih_rr_r _))

