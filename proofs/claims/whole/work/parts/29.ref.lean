/-! The reference: its helpers -/
theorem ih_cmp_lt {a b : Int} : (if a < b then (-1 : Int) else if a = b then 0 else 1) < 0 ↔ a < b := by (repeat' split) <;> omega
theorem ih_cmp_gt {a b : Int} : 0 < (if a < b then (-1 : Int) else if a = b then 0 else 1) ↔ b < a := by (repeat' split) <;> omega

theorem r_in {X : List Int} {t : ih_S} {Q : Option xa_V → ih_S → Prop} {a b c : Int} (ha : xa_rI a) (hb : xa_rI b) (hc : xa_rI c) (kt : b ≤ a ∧ a ≤ c → Q (some (xI 1)) t) (kf : ¬ (b ≤ a ∧ a ≤ c) → Q (some (xI 0)) t) : ih_Wp X 126 0 [xL a, xC 1, xL b, xC 1, xL c, xC 1] [] t Q := by
  refine ih_seg (i1 := 2) 2 rfl ?_
  refine ih_lcmp rfl (by (first | omega | (repeat' split) <;> omega)) (by (first | omega | (repeat' split) <;> omega)) ?_
  refine ih_ifc_lt rfl (by (first | omega | (repeat' split) <;> omega)) (fun w1 => ?_) (fun w1 => ?_)
  · refine ih_seg (i1 := 11) 1 rfl ?_
    refine ih_ret rfl rfl ?_
    simp only [ih_cmp_lt, ih_cmp_gt] at *
    first | exact kt (by omega) | exact kf (by omega)
  · refine ih_seg (i1 := 6) 2 rfl ?_
    refine ih_lcmp rfl (by (first | omega | (repeat' split) <;> omega)) (by (first | omega | (repeat' split) <;> omega)) ?_
    refine ih_ifc_gt rfl (by (first | omega | (repeat' split) <;> omega)) (fun w2 => ?_) (fun w2 => ?_)
    · refine ih_seg (i1 := 11) 1 rfl ?_
      refine ih_ret rfl rfl ?_
      simp only [ih_cmp_lt, ih_cmp_gt] at *
      first | exact kt (by omega) | exact kf (by omega)
    · refine ih_seg (i1 := 11) 2 rfl ?_
      refine ih_ret rfl rfl ?_
      simp only [ih_cmp_lt, ih_cmp_gt] at *
      first | exact kt (by omega) | exact kf (by omega)


theorem r_isPaper {X : List Int} {t : ih_S} {Q : Option xa_V → ih_S → Prop} {a : Int} (ha : xa_rI a) (kt : 0 ≤ a ∧ a < 4 → Q (some (xI 1)) t) (kf : ¬ (0 ≤ a ∧ a < 4) → Q (some (xI 0)) t) : ih_Wp X 128 0 [xI a] [] t Q := by
  refine ih_seg (i1 := 1) 1 rfl ?_
  refine ih_i2l rfl (by omega) ?_
  refine ih_seg (i1 := 4) 2 rfl ?_
  refine ih_is3 126 rfl rfl (Nat.le_of_ble_eq_true rfl) (Nat.le_of_ble_eq_true rfl) rfl ?_
  refine r_in (by omega) (by omega) (by omega) (fun w1 => ?_) (fun w2 => ?_)
  · refine ih_ret rfl rfl ?_
    first | exact kt (by omega) | exact kf (by omega)
  · refine ih_ret rfl rfl ?_
    first | exact kt (by omega) | exact kf (by omega)


theorem r_isInk {X : List Int} {t : ih_S} {Q : Option xa_V → ih_S → Prop} {a : Int} (ha : xa_rI a) (kt : 0 ≤ a ∧ a < 8 → Q (some (xI 1)) t) (kf : ¬ (0 ≤ a ∧ a < 8) → Q (some (xI 0)) t) : ih_Wp X 129 0 [xI a] [] t Q := by
  refine ih_seg (i1 := 1) 1 rfl ?_
  refine ih_i2l rfl (by omega) ?_
  refine ih_seg (i1 := 4) 2 rfl ?_
  refine ih_is3 126 rfl rfl (Nat.le_of_ble_eq_true rfl) (Nat.le_of_ble_eq_true rfl) rfl ?_
  refine r_in (by omega) (by omega) (by omega) (fun w1 => ?_) (fun w2 => ?_)
  · refine ih_ret rfl rfl ?_
    first | exact kt (by omega) | exact kf (by omega)
  · refine ih_ret rfl rfl ?_
    first | exact kt (by omega) | exact kf (by omega)


theorem r_isHour {X : List Int} {t : ih_S} {Q : Option xa_V → ih_S → Prop} {a : Int} (ha : xa_rI a) (kt : 0 ≤ a ∧ a < 10000 → Q (some (xI 1)) t) (kf : ¬ (0 ≤ a ∧ a < 10000) → Q (some (xI 0)) t) : ih_Wp X 130 0 [xI a] [] t Q := by
  refine ih_seg (i1 := 1) 1 rfl ?_
  refine ih_i2l rfl (by omega) ?_
  refine ih_seg (i1 := 4) 2 rfl ?_
  refine ih_is3 126 rfl rfl (Nat.le_of_ble_eq_true rfl) (Nat.le_of_ble_eq_true rfl) rfl ?_
  refine r_in (by omega) (by omega) (by omega) (fun w1 => ?_) (fun w2 => ?_)
  · refine ih_ret rfl rfl ?_
    first | exact kt (by omega) | exact kf (by omega)
  · refine ih_ret rfl rfl ?_
    first | exact kt (by omega) | exact kf (by omega)


theorem r_isOne {X : List Int} {t : ih_S} {Q : Option xa_V → ih_S → Prop} {a : Int} (ha : xa_rI a) (kt : 0 ≤ a ∧ a < 4 → Q (some (xI 1)) t) (kf : ¬ (0 ≤ a ∧ a < 4) → Q (some (xI 0)) t) : ih_Wp X 198 0 [xI a] [] t Q := by
  refine ih_seg (i1 := 1) 1 rfl ?_
  refine ih_i2l rfl (by omega) ?_
  refine ih_seg (i1 := 4) 2 rfl ?_
  refine ih_is3 126 rfl rfl (Nat.le_of_ble_eq_true rfl) (Nat.le_of_ble_eq_true rfl) rfl ?_
  refine r_in (by omega) (by omega) (by omega) (fun w1 => ?_) (fun w2 => ?_)
  · refine ih_ret rfl rfl ?_
    first | exact kt (by omega) | exact kf (by omega)
  · refine ih_ret rfl rfl ?_
    first | exact kt (by omega) | exact kf (by omega)


theorem r_finds {X : List Int} {t : ih_S} {Q : Option xa_V → ih_S → Prop} {a : Int} (j : Int) (e : -1000001 - a = j) (hj : 0 ≤ j ∧ j < 7) (k : Q (some (xI a)) (ih_up t 115 j (t 115 j + 1))) : ih_Wp X 127 0 [xR 111, xI a] [] t Q := by
  subst e
  refine ih_seg (i1 := 1) 1 rfl ?_
  refine ih_getR rfl rfl ?_
  refine ih_seg (i1 := 6) 4 rfl ?_
  try dsimp only
  refine ih_iald rfl (by first | rfl | exact ih_lP1 (by assumption) | exact ih_lP2 (by assumption) | exact ih_lP3 (by assumption) | exact ih_lP4 (by assumption) | exact ih_lC1 (by assumption) | exact ih_lS1 (by assumption) | exact ih_lW1 (by assumption) | exact ih_lW2 (by assumption) | exact ih_lW4 (by assumption) | exact ih_lW5 (by assumption)) (by omega) (by omega) (k := ?_)
  refine ih_seg (i1 := 9) 2 rfl ?_
  try dsimp only
  refine ih_iast rfl (by first | rfl | exact ih_lP1 (by assumption) | exact ih_lP2 (by assumption) | exact ih_lP3 (by assumption) | exact ih_lP4 (by assumption) | exact ih_lC1 (by assumption) | exact ih_lS1 (by assumption) | exact ih_lW1 (by assumption) | exact ih_lW2 (by assumption) | exact ih_lW4 (by assumption) | exact ih_lW5 (by assumption)) (by omega) (by omega) (k := ?_)
  refine ih_seg (i1 := 11) 1 rfl ?_
  refine ih_ret rfl rfl ?_
  exact k


theorem r_at {X : List Int} {t : ih_S} {Q : Option xa_V → ih_S → Prop} {p m : Int} (k : Q (some (xI (26 + 48 * p + 4 * m))) t) : ih_Wp X 132 0 [xI p, xI m] [] t Q := by
  refine ih_seg (i1 := 9) 9 rfl ?_
  try dsimp only
  refine ih_ret rfl rfl ?_
  exact k


/-- what the reference's row holds of a paper -/
def ih_RG (s : Int → Int) (p : Nat) : Prop := (0 ≤ s (22 + p) ∧ s (22 + p) ≤ 12) ∧ (s (18 + p) = 0 ∨ s (18 + p) = 1) ∧ (∀ k : Nat, (k : Int) < s (22 + p) → 0 ≤ s (26 + 48 * p + 4 * k) ∧ s (26 + 48 * p + 4 * k) < 7) ∧ (∀ k : Nat, (k : Int) < s (22 + p) → 0 ≤ s (26 + 48 * p + 4 * k + 1) ∧ s (26 + 48 * p + 4 * k + 1) < 4) ∧ (∀ k : Nat, (k : Int) < s (22 + p) → 0 ≤ s (26 + 48 * p + 4 * k + 2) ∧ s (26 + 48 * p + 4 * k + 2) < 8) ∧ (∀ k : Nat, (k : Int) < s (22 + p) → 0 ≤ s (26 + 48 * p + 4 * k + 3) ∧ s (26 + 48 * p + 4 * k + 3) < 10000) ∧ (∀ j : Int, 0 ≤ j → j < 8 → 1 ≤ s (2 + j) ∧ s (2 + j) ≤ 999)
theorem ih_RG.sz {s : Int → Int} {p : Nat} (h : ih_RG s p) : 0 ≤ s (22 + p) ∧ s (22 + p) ≤ 12 := h.1
theorem ih_RG.lit {s : Int → Int} {p : Nat} (h : ih_RG s p) : s (18 + p) = 0 ∨ s (18 + p) = 1 := h.2.1
theorem ih_RG.kd {s : Int → Int} {p : Nat} (h : ih_RG s p) : ∀ k : Nat, (k : Int) < s (22 + p) → 0 ≤ s (26 + 48 * p + 4 * k) ∧ s (26 + 48 * p + 4 * k) < 7 := h.2.2.1
theorem ih_RG.lt {s : Int → Int} {p : Nat} (h : ih_RG s p) : ∀ k : Nat, (k : Int) < s (22 + p) → 0 ≤ s (26 + 48 * p + 4 * k + 1) ∧ s (26 + 48 * p + 4 * k + 1) < 4 := h.2.2.2.1
theorem ih_RG.ink {s : Int → Int} {p : Nat} (h : ih_RG s p) : ∀ k : Nat, (k : Int) < s (22 + p) → 0 ≤ s (26 + 48 * p + 4 * k + 2) ∧ s (26 + 48 * p + 4 * k + 2) < 8 := h.2.2.2.2.1
theorem ih_RG.at_ {s : Int → Int} {p : Nat} (h : ih_RG s p) : ∀ k : Nat, (k : Int) < s (22 + p) → 0 ≤ s (26 + 48 * p + 4 * k + 3) ∧ s (26 + 48 * p + 4 * k + 3) < 10000 := h.2.2.2.2.2.1
theorem ih_RG.las {s : Int → Int} {p : Nat} (h : ih_RG s p) : ∀ j : Int, 0 ≤ j → j < 8 → 1 ≤ s (2 + j) ∧ s (2 + j) ≤ 999 := h.2.2.2.2.2.2
def ih_rsp (s : Int → Int) (p m : Nat) : Int := ih_span (s (26 + 48 * p + 4 * m)) (s (2 + s (26 + 48 * p + 4 * m + 2)))

theorem r_staysOf {X : List Int} {t : ih_S} {Q : Option xa_V → ih_S → Prop} {p m : Nat} (hp : p < 4) (G : ih_RG (t 112) p) (hm : (m : Int) < t 112 (22 + p)) (k : Q (some (xI (ih_rsp (t 112) p m))) t) : ih_Wp X 140 0 [xR 111, xI p, xI m, xC 1, xC 1] [] t Q := by
  have g0 := G.sz
  have g1 := G.ink m hm
  have g2 := G.kd m hm
  have g3 := G.las _ g1.1 g1.2
  refine ih_seg (i1 := 1) 1 rfl ?_
  refine ih_getR rfl rfl ?_
  refine ih_seg (i1 := 4) 2 rfl ?_
  refine ih_getR rfl rfl ?_
  refine ih_seg (i1 := 7) 2 rfl ?_
  refine ih_is2 132 rfl rfl (Nat.le_of_ble_eq_true rfl) (Nat.le_of_ble_eq_true rfl) rfl ?_
  refine r_at ?_
  refine ih_seg (i1 := 10) 2 rfl ?_
  try dsimp only
  refine ih_iald rfl (by first | rfl | exact ih_lP1 (by assumption) | exact ih_lP2 (by assumption) | exact ih_lP3 (by assumption) | exact ih_lP4 (by assumption) | exact ih_lC1 (by assumption) | exact ih_lS1 (by assumption) | exact ih_lW1 (by assumption) | exact ih_lW2 (by assumption) | exact ih_lW4 (by assumption) | exact ih_lW5 (by assumption)) (by omega) (by omega) (k := ?_)
  refine ih_seg (i1 := 12) 1 rfl ?_
  try dsimp only
  refine ih_iald rfl (by first | rfl | exact ih_lP1 (by assumption) | exact ih_lP2 (by assumption) | exact ih_lP3 (by assumption) | exact ih_lP4 (by assumption) | exact ih_lC1 (by assumption) | exact ih_lS1 (by assumption) | exact ih_lW1 (by assumption) | exact ih_lW2 (by assumption) | exact ih_lW4 (by assumption) | exact ih_lW5 (by assumption)) (by omega) (by omega) (k := ?_)
  refine ih_seg (i1 := 15) 2 rfl ?_
  try simp only [xa_set, List.set_cons_zero, List.set_cons_succ, List.getElem?_cons_zero, List.getElem?_cons_succ]
  refine ih_getR rfl rfl ?_
  refine ih_seg (i1 := 18) 2 rfl ?_
  refine ih_is2 132 rfl rfl (Nat.le_of_ble_eq_true rfl) (Nat.le_of_ble_eq_true rfl) rfl ?_
  refine r_at ?_
  refine ih_iald rfl (by first | rfl | exact ih_lP1 (by assumption) | exact ih_lP2 (by assumption) | exact ih_lP3 (by assumption) | exact ih_lP4 (by assumption) | exact ih_lC1 (by assumption) | exact ih_lS1 (by assumption) | exact ih_lW1 (by assumption) | exact ih_lW2 (by assumption) | exact ih_lW4 (by assumption) | exact ih_lW5 (by assumption)) (by omega) (by omega) (k := ?_)
  refine ih_seg (i1 := 23) 3 rfl ?_
  try simp only [xa_set, List.set_cons_zero, List.set_cons_succ, List.getElem?_cons_zero, List.getElem?_cons_succ]
  refine ih_icmp_ne rfl (by omega) (by omega) (fun w1 => ?_) (fun w1 => ?_)
  · refine ih_seg (i1 := 30) 2 rfl ?_
    refine ih_icmp_eq rfl (by omega) (by omega) (fun w2 => ?_) (fun w2 => ?_)
    · refine ih_seg (i1 := 35) 2 rfl ?_
      refine ih_icmp_ge rfl (by omega) (by omega) (fun w3 => ?_) (fun w3 => ?_)
      · refine ih_seg (i1 := 40) 2 rfl ?_
        refine ih_idiv0 rfl (by omega) (by omega) ?_
        refine ih_ret rfl rfl ?_
        refine ih_Qe ?_ k
        unfold ih_rsp ih_span
        repeat' split
        all_goals first | rfl | omega
      · refine ih_seg (i1 := 41) 2 rfl ?_
        refine ih_ret rfl rfl ?_
        refine ih_Qe ?_ k
        unfold ih_rsp ih_span
        repeat' split
        all_goals first | rfl | omega
    · refine ih_seg (i1 := 41) 2 rfl ?_
      refine ih_ret rfl rfl ?_
      refine ih_Qe ?_ k
      unfold ih_rsp ih_span
      repeat' split
      all_goals first | rfl | omega
  · refine ih_seg (i1 := 41) 4 rfl ?_
    try dsimp only
    refine ih_ret rfl rfl ?_
    refine ih_Qe ?_ k
    unfold ih_rsp ih_span
    repeat' split
    all_goals first | rfl | omega


theorem r_lights {X : List Int} {t : ih_S} {Q : Option xa_V → ih_S → Prop} {h : Int} (hh : 0 ≤ h ∧ h ≤ 20000) (k : Q (some (xI (ih_w 1 h - h))) t) : ih_Wp X 146 0 [xI h, xC 1] [] t Q := by
  refine ih_seg (i1 := 2) 2 rfl ?_
  refine ih_irem0 rfl (by omega) (by omega) ?_
  refine ih_seg (i1 := 8) 5 rfl ?_
  try simp only [xa_set, List.set_cons_zero, List.set_cons_succ, List.getElem?_cons_zero, List.getElem?_cons_succ]
  refine ih_idiv0 rfl (by omega) (by omega) ?_
  refine ih_seg (i1 := 12) 3 rfl ?_
  try dsimp only
  refine ih_ifc_ge rfl (by omega) (fun w1 => ?_) (fun w1 => ?_)
  · refine ih_seg (i1 := 17) 2 rfl ?_
    refine ih_icmp_le rfl (by omega) (by omega) (fun w2 => ?_) (fun w2 => ?_)
    · refine ih_seg (i1 := 22) 2 rfl ?_
      try dsimp only
      refine ih_ret rfl rfl ?_
      refine ih_Qe ?_ k
      unfold ih_w
      rw [if_neg (by decide)]
      repeat' split
      all_goals first | rfl | omega
    · refine ih_seg (i1 := 22) 3 rfl ?_
      try dsimp only
      refine ih_ret rfl rfl ?_
      refine ih_Qe ?_ k
      unfold ih_w
      rw [if_neg (by decide)]
      repeat' split
      all_goals first | rfl | omega
  · refine ih_seg (i1 := 22) 3 rfl ?_
    try dsimp only
    refine ih_ret rfl rfl ?_
    refine ih_Qe ?_ k
    unfold ih_w
    rw [if_neg (by decide)]
    repeat' split
    all_goals first | rfl | omega


theorem r_ageOf {X : List Int} {t : ih_S} {Q : Option xa_V → ih_S → Prop} {p : Nat} {f h : Int} (hp : p < 4) (hl : t 112 (18 + p) = 0 ∨ t 112 (18 + p) = 1) (hf : 0 ≤ f ∧ f ≤ 20000) (hh : 0 ≤ h ∧ h ≤ 20000) (k : Q (some (xI (ih_w (t 112 (18 + p)) h - ih_w (t 112 (18 + p)) f))) t) : ih_Wp X 147 0 [xR 111, xI p, xI f, xI h] [] t Q := by
  refine ih_seg (i1 := 4) 4 rfl ?_
  try dsimp only
  refine ih_getR rfl rfl ?_
  refine ih_seg (i1 := 8) 3 rfl ?_
  try dsimp only
  refine ih_iald rfl (by first | rfl | exact ih_lP1 (by assumption) | exact ih_lP2 (by assumption) | exact ih_lP3 (by assumption) | exact ih_lP4 (by assumption) | exact ih_lC1 (by assumption) | exact ih_lS1 (by assumption) | exact ih_lW1 (by assumption) | exact ih_lW2 (by assumption) | exact ih_lW4 (by assumption) | exact ih_lW5 (by assumption)) (by omega) (by omega) (k := ?_)
  refine ih_seg (i1 := 10) 1 rfl ?_
  refine ih_icmp_ne rfl (by omega) (by omega) (fun w1 => ?_) (fun w1 => ?_)
  · refine ih_seg (i1 := 19) 2 rfl ?_
    try dsimp only
    refine ih_ret rfl rfl ?_
    refine ih_Qe ?_ k
    rcases hl with hl | hl
    · simp only [hl, ih_w, if_true]
      omega
    · simp only [hl]
      omega
  · refine ih_seg (i1 := 12) 1 rfl ?_
    refine ih_is1 146 rfl rfl (Nat.le_of_ble_eq_true rfl) (Nat.le_of_ble_eq_true rfl) rfl ?_
    refine r_lights (by omega) ?_
    refine ih_seg (i1 := 14) 1 rfl ?_
    refine ih_is1 146 rfl rfl (Nat.le_of_ble_eq_true rfl) (Nat.le_of_ble_eq_true rfl) rfl ?_
    refine r_lights (by omega) ?_
    refine ih_seg (i1 := 19) 3 rfl ?_
    try dsimp only
    refine ih_ret rfl rfl ?_
    refine ih_Qe ?_ k
    rcases hl with hl | hl
    · simp only [hl, ih_w, if_true]
      omega
    · simp only [hl]
      omega


def ih_rs (s : Int → Int) (p : Nat) (h : Int) (m : Nat) : Bool := decide (s (26 + 48 * p + 4 * m + 3) ≤ h ∧ ih_w (s (18 + p)) h - ih_w (s (18 + p)) (s (26 + 48 * p + 4 * m + 3)) < ih_rsp s p m)

theorem r_isSeen {X : List Int} {t : ih_S} {Q : Option xa_V → ih_S → Prop} {p m : Nat} {h : Int} (hp : p < 4) (G : ih_RG (t 112) p) (hm : (m : Int) < t 112 (22 + p)) (hh : 0 ≤ h ∧ h ≤ 20000) (kt : ih_rs (t 112) p h m = true → Q (some (xI 1)) t) (kf : ih_rs (t 112) p h m = false → Q (some (xI 0)) t) : ih_Wp X 148 0 [xR 111, xI p, xI m, xI h, xC 1] [] t Q := by
  have g0 := G.sz
  have g1 := G.ink m hm
  have g2 := G.at_ m hm
  have g3 := G.las _ g1.1 g1.2
  have g4 := ih_span_rg (k := t 112 (26 + 48 * p + 4 * m)) g3.1 g3.2
  have g5 := ih_w_rg (lit := t 112 (18 + p)) hh.1 hh.2
  have g6 := ih_w_rg (lit := t 112 (18 + p)) g2.1 (by omega)
  have g7 : ih_span (t 112 (26 + 48 * p + 4 * m)) (t 112 (2 + t 112 (26 + 48 * p + 4 * m + 2))) = ih_rsp (t 112) p m := rfl
  rw [g7] at g4
  refine ih_seg (i1 := 1) 1 rfl ?_
  refine ih_getR rfl rfl ?_
  refine ih_seg (i1 := 4) 2 rfl ?_
  refine ih_is2 132 rfl rfl (Nat.le_of_ble_eq_true rfl) (Nat.le_of_ble_eq_true rfl) rfl ?_
  refine r_at ?_
  refine ih_seg (i1 := 7) 2 rfl ?_
  try dsimp only
  refine ih_iald rfl (by first | rfl | exact ih_lP1 (by assumption) | exact ih_lP2 (by assumption) | exact ih_lP3 (by assumption) | exact ih_lP4 (by assumption) | exact ih_lC1 (by assumption) | exact ih_lS1 (by assumption) | exact ih_lW1 (by assumption) | exact ih_lW2 (by assumption) | exact ih_lW4 (by assumption) | exact ih_lW5 (by assumption)) (by omega) (by omega) (k := ?_)
  refine ih_seg (i1 := 11) 3 rfl ?_
  try simp only [xa_set, List.set_cons_zero, List.set_cons_succ, List.getElem?_cons_zero, List.getElem?_cons_succ]
  refine ih_icmp_lt rfl (by omega) (by omega) (fun w1 => ?_) (fun w1 => ?_)
  · refine ih_seg (i1 := 25) 1 rfl ?_
    refine ih_ret rfl rfl ?_
    first
      | exact kt (by unfold ih_rs; simp only [decide_eq_true_eq]; omega)
      | exact kf (by unfold ih_rs; simp only [decide_eq_false_iff_not]; omega)
  · refine ih_seg (i1 := 16) 4 rfl ?_
    refine ih_iv3 147 rfl rfl (by first | rfl | exact ih_kP (by assumption) | exact ih_kC (by assumption) | exact ih_kN (by assumption) | exact ih_kS (by assumption) | exact ih_kW (by assumption)) (Nat.le_of_ble_eq_true rfl) (Nat.le_of_ble_eq_true rfl) rfl ?_
    refine r_ageOf hp G.lit (by omega) (by omega) ?_
    refine ih_seg (i1 := 20) 3 rfl ?_
    refine ih_iv2 140 rfl rfl (by first | rfl | exact ih_kP (by assumption) | exact ih_kC (by assumption) | exact ih_kN (by assumption) | exact ih_kS (by assumption) | exact ih_kW (by assumption)) (Nat.le_of_ble_eq_true rfl) (Nat.le_of_ble_eq_true rfl) rfl ?_
    refine r_staysOf hp G hm ?_
    refine ih_icmp_ge rfl (by omega) (by omega) (fun w2 => ?_) (fun w2 => ?_)
    · refine ih_seg (i1 := 25) 1 rfl ?_
      refine ih_ret rfl rfl ?_
      first
        | exact kt (by unfold ih_rs; simp only [decide_eq_true_eq]; omega)
        | exact kf (by unfold ih_rs; simp only [decide_eq_false_iff_not]; omega)
    · refine ih_seg (i1 := 25) 2 rfl ?_
      refine ih_ret rfl rfl ?_
      first
        | exact kt (by unfold ih_rs; simp only [decide_eq_true_eq]; omega)
        | exact kf (by unfold ih_rs; simp only [decide_eq_false_iff_not]; omega)


theorem r_seenOf_l {X : List Int} {t : ih_S} {Q : Option xa_V → ih_S → Prop} {p : Nat} {h : Int} (hp : p < 4) (G : ih_RG (t 112) p) (hh : 0 ≤ h ∧ h ≤ 20000) (K : Q (some (xI ((ih_set (ih_rs (t 112) p h) (t 112 (22 + p)).toNat : Nat) : Int))) t) : ∀ (d k : Nat) (hd : (k : Int) + d = t 112 (22 + p)), ih_Wp X 149 4 [xR 111, xI p, xI h, xI ((ih_set (ih_rs (t 112) p h) k : Nat) : Int), xI k] [] t Q := by
  intro d
  induction d with
  | zero =>
    intro k hd
    have g1 := G.sz
    refine ih_seg (i1 := 6) 2 rfl ?_
    refine ih_getR rfl rfl ?_
    refine ih_seg (i1 := 10) 3 rfl ?_
    try dsimp only
    refine ih_iald rfl (by first | rfl | exact ih_lP1 (by assumption) | exact ih_lP2 (by assumption) | exact ih_lP3 (by assumption) | exact ih_lP4 (by assumption) | exact ih_lC1 (by assumption) | exact ih_lS1 (by assumption) | exact ih_lW1 (by assumption) | exact ih_lW2 (by assumption) | exact ih_lW4 (by assumption) | exact ih_lW5 (by assumption)) (by omega) (by omega) (k := ?_)
    refine ih_icmp_ge rfl (by omega) (by omega) (fun w1 => ?_) (fun w1 => ?_)
    · refine ih_seg (i1 := 29) 1 rfl ?_
      refine ih_ret rfl rfl ?_
      rw [show (t 112 (22 + p)).toNat = k by omega] at K
      exact K
    · refine ih_seg (i1 := 17) 5 rfl ?_
      refine ih_iv3 148 rfl rfl (by first | rfl | exact ih_kP (by assumption) | exact ih_kC (by assumption) | exact ih_kN (by assumption) | exact ih_kS (by assumption) | exact ih_kW (by assumption)) (Nat.le_of_ble_eq_true rfl) (Nat.le_of_ble_eq_true rfl) rfl ?_
      exfalso
      omega
  | succ d ih =>
    intro k hd
    have g1 := G.sz
    refine ih_seg (i1 := 6) 2 rfl ?_
    refine ih_getR rfl rfl ?_
    refine ih_seg (i1 := 10) 3 rfl ?_
    try dsimp only
    refine ih_iald rfl (by first | rfl | exact ih_lP1 (by assumption) | exact ih_lP2 (by assumption) | exact ih_lP3 (by assumption) | exact ih_lP4 (by assumption) | exact ih_lC1 (by assumption) | exact ih_lS1 (by assumption) | exact ih_lW1 (by assumption) | exact ih_lW2 (by assumption) | exact ih_lW4 (by assumption) | exact ih_lW5 (by assumption)) (by omega) (by omega) (k := ?_)
    refine ih_icmp_ge rfl (by omega) (by omega) (fun w1 => ?_) (fun w1 => ?_)
    · refine ih_seg (i1 := 29) 1 rfl ?_
      refine ih_ret rfl rfl ?_
      exfalso
      omega
    · refine ih_seg (i1 := 17) 5 rfl ?_
      refine ih_iv3 148 rfl rfl (by first | rfl | exact ih_kP (by assumption) | exact ih_kC (by assumption) | exact ih_kN (by assumption) | exact ih_kS (by assumption) | exact ih_kW (by assumption)) (Nat.le_of_ble_eq_true rfl) (Nat.le_of_ble_eq_true rfl) rfl ?_
      refine r_isSeen hp G (by omega) hh (fun q => ?_) (fun q => ?_)
      · refine ih_seg (i1 := 4) 9 rfl ?_
        try simp only [xa_set, List.set_cons_zero, List.set_cons_succ, List.getElem?_cons_zero, List.getElem?_cons_succ]
        refine ih_ls ?_ (ih (k + 1) (by omega))
        first
          | rw [ih_set_step _ (by omega) q]; rfl
          | rw [← ih_set_skip _ q]
            have h1 := ih_set_lt12 (ih_rs (t 112) p h) (n := k) (by omega)
            have h2 := ih_or_n (a := ih_set (ih_rs (t 112) p h) k) (b := 0) (by omega) (by omega)
            rw [Nat.or_zero] at h2
            have h3 : xa_or ((ih_set (ih_rs (t 112) p h) k : Nat) : Int) 0 = ((ih_set (ih_rs (t 112) p h) k : Nat) : Int) := h2
            rw [h3]
            rfl
      · refine ih_seg (i1 := 4) 6 rfl ?_
        try simp only [xa_set, List.set_cons_zero, List.set_cons_succ, List.getElem?_cons_zero, List.getElem?_cons_succ]
        refine ih_ls ?_ (ih (k + 1) (by omega))
        first
          | rw [ih_set_step _ (by omega) q]; rfl
          | rw [← ih_set_skip _ q]
            have h1 := ih_set_lt12 (ih_rs (t 112) p h) (n := k) (by omega)
            have h2 := ih_or_n (a := ih_set (ih_rs (t 112) p h) k) (b := 0) (by omega) (by omega)
            rw [Nat.or_zero] at h2
            have h3 : xa_or ((ih_set (ih_rs (t 112) p h) k : Nat) : Int) 0 = ((ih_set (ih_rs (t 112) p h) k : Nat) : Int) := h2
            rw [h3]
            rfl

theorem r_seenOf {X : List Int} {t : ih_S} {Q : Option xa_V → ih_S → Prop} {p : Nat} {h : Int} (hp : p < 4) (G : ih_RG (t 112) p) (hh : 0 ≤ h ∧ h ≤ 20000) (K : Q (some (xI ((ih_set (ih_rs (t 112) p h) (t 112 (22 + p)).toNat : Nat) : Int))) t) : ih_Wp X 149 0 [xR 111, xI p, xI h, xC 1, xC 1] [] t Q := by
  have g1 := G.sz
  refine ih_seg (i1 := 4) 4 rfl ?_
  try simp only [xa_set, List.set_cons_zero, List.set_cons_succ, List.getElem?_cons_zero, List.getElem?_cons_succ]
  exact r_seenOf_l hp G hh K (t 112 (22 + p)).toNat 0 (by omega)


/-- the reference's sentence -/
def ih_RS (t : ih_S) (e : ih_Se) : Prop := (t 111 6 = 0 ∨ t 111 6 = 1) ∧ (t 111 5 = 0 ∨ t 111 5 = 1) ∧ match e with
  | none => t 111 7 = 0
  | some (o, a, tu, wa) => t 111 7 = 1 ∧ t 111 9 = (o : Int) ∧ t 111 8 = (a : Int) ∧ t 111 6 = ih_b tu ∧ t 111 5 = ih_b wa
/-- only the reference's sentence has changed -/
def ih_rf (t t1 : ih_S) : Prop := (∀ j, j ≠ 111 → t1 j = t j) ∧ ∀ f : Int, f < 5 ∨ 9 < f → t1 111 f = t 111 f
theorem ih_rf_r (t : ih_S) : ih_rf t t := ⟨fun _ _ => rfl, fun _ _ => rfl⟩
theorem ih_rf_t {t t1 t2 : ih_S} (a : ih_rf t t1) (b : ih_rf t1 t2) : ih_rf t t2 := ⟨fun j h => (b.1 j h).trans (a.1 j h), fun f h => (b.2 f h).trans (a.2 f h)⟩
theorem ih_rf_u {t t1 : ih_S} {f z : Int} (a : ih_rf t t1) (h0 : 5 ≤ f) (h1 : f ≤ 9) : ih_rf t (ih_up t1 111 f z) := by
  refine ⟨fun j h => ?_, fun g h => ?_⟩
  · rw [ih_up_ne h]
    exact a.1 j h
  · rw [ih_up_eq, ih_u1_ne (by omega)]
    exact a.2 g h

theorem r_begins {X : List Int} {t : ih_S} {Q : Option xa_V → ih_S → Prop} (k : ∀ t1, ih_rf t t1 → ih_RS t1 ih_s0 → Q none t1) : ih_Wp X 154 0 [xR 111] [] t Q := by
  refine ih_seg (i1 := 2) 2 rfl ?_
  refine ih_putI rfl rfl rfl ?_
  refine ih_seg (i1 := 5) 2 rfl ?_
  refine ih_putI rfl rfl rfl ?_
  refine ih_seg (i1 := 8) 2 rfl ?_
  refine ih_putI rfl rfl rfl ?_
  refine ih_seg (i1 := 11) 2 rfl ?_
  refine ih_putI rfl rfl rfl ?_
  refine ih_seg (i1 := 14) 2 rfl ?_
  refine ih_putI rfl rfl rfl ?_
  refine ih_retv rfl ?_
  refine k _ (by repeat (first | exact ih_rf_r _ | (refine ih_rf_u ?_ (by decide) (by decide)))) ?_
  simp only [ih_RS, ih_s0, ih_up_eq, ih_u1, Int.reduceEq, if_true, if_false, ih_b]
  simp


theorem r_truths {X : List Int} {t : ih_S} {Q : Option xa_V → ih_S → Prop} {l : Int} (hl : 0 ≤ l ∧ l < 4) (k : Q (some (xI (ih_tr l))) t) : ih_Wp X 153 0 [xI l] [] t Q := by
  refine ih_seg (i1 := 1) 1 rfl ?_
  refine ih_ifc_ne rfl (by omega) (fun w1 => ?_) (fun w1 => ?_)
  · refine ih_seg (i1 := 6) 2 rfl ?_
    refine ih_icmp_ne rfl (by omega) (by omega) (fun w2 => ?_) (fun w2 => ?_)
    · refine ih_seg (i1 := 11) 2 rfl ?_
      refine ih_icmp_ne rfl (by omega) (by omega) (fun w3 => ?_) (fun w3 => ?_)
      · refine ih_seg (i1 := 15) 1 rfl ?_
        refine ih_ret rfl rfl ?_
        refine ih_Qe ?_ k
        unfold ih_tr
        repeat' split
        all_goals first | rfl | omega
      · refine ih_seg (i1 := 15) 2 rfl ?_
        refine ih_ret rfl rfl ?_
        refine ih_Qe ?_ k
        unfold ih_tr
        repeat' split
        all_goals first | rfl | omega
    · refine ih_seg (i1 := 15) 2 rfl ?_
      refine ih_ret rfl rfl ?_
      refine ih_Qe ?_ k
      unfold ih_tr
      repeat' split
      all_goals first | rfl | omega
  · refine ih_seg (i1 := 15) 2 rfl ?_
    refine ih_ret rfl rfl ?_
    refine ih_Qe ?_ k
    unfold ih_tr
    repeat' split
    all_goals first | rfl | omega


theorem r_reads_t {X : List Int} {t : ih_S} {Q : Option xa_V → ih_S → Prop} {kd l w : Int} (hk : 0 < kd ∧ kd < 7) (hl : 0 ≤ l ∧ l < 4) (hw : (w = 1 ∧ (kd = 1 ∨ kd = 4 ∨ kd = 6)) ∨ (w = 0 ∧ ¬ (kd = 1 ∨ kd = 4 ∨ kd = 6))) (h2 : t 111 6 = 0 ∨ t 111 6 = 1) (K2 : kd = 2 → ∀ t1, ih_rf t t1 → t1 111 7 = t 111 7 → t1 111 6 = 1 - t 111 6 → t1 111 5 = t 111 5 → t1 111 8 = t 111 8 → t1 111 9 = t 111 9 → Q none t1) (Kw : w = 1 → ∀ t1, ih_rf t t1 → t1 111 7 = t 111 7 → t1 111 6 = 0 → t1 111 5 = 0 → t1 111 8 = xa_and (t 111 8) (if t 111 6 = 0 then (ih_tr l : Int) else xa_and 65535 (xa_xor (ih_tr l : Int) (-1))) → t1 111 9 = t 111 9 → Q none t1) (K3 : kd = 3 → ∀ t1, ih_rf t t1 → t1 111 7 = t 111 7 → t1 111 6 = t 111 6 → t1 111 5 = 1 → t1 111 8 = t 111 8 → t1 111 9 = t 111 9 → Q none t1) (K5 : kd = 5 → ∀ t1, ih_rf t t1 → t1 111 7 = t 111 7 → t1 111 6 = t 111 6 → t1 111 5 = 1 → t1 111 8 = 65535 → t1 111 9 = xa_or (t 111 9) (t 111 8) → Q none t1) : ih_Wp X 155 30 [xR 111, xI kd, xI l, xI w] [] t Q := by
  refine ih_seg (i1 := 32) 2 rfl ?_
  refine ih_icmp_ne rfl (by omega) (by omega) (fun w1 => ?_) (fun w1 => ?_)
  · refine ih_seg (i1 := 43) 1 rfl ?_
    refine ih_ifc_eq rfl (by omega) (fun w2 => ?_) (fun w2 => ?_)
    · refine ih_seg (i1 := 70) 2 rfl ?_
      refine ih_icmp_ne rfl (by omega) (by omega) (fun w3 => ?_) (fun w3 => ?_)
      · refine ih_seg (i1 := 83) 2 rfl ?_
        refine ih_putI rfl rfl rfl ?_
        refine ih_retv rfl ?_
        first
          | (have q : kd = 2 := by omega
             refine K2 q _ (by repeat (first | exact ih_rf_r _ | (refine ih_rf_u ?_ (by decide) (by decide)))) ?_ ?_ ?_ ?_ ?_ <;> simp only [ih_up_eq, ih_u1, Int.reduceEq, if_true, if_false] <;> omega)
          | (have q : kd = 5 := by omega
             refine K5 q _ (by repeat (first | exact ih_rf_r _ | (refine ih_rf_u ?_ (by decide) (by decide)))) ?_ ?_ ?_ ?_ ?_ <;> simp only [ih_up_eq, ih_u1, Int.reduceEq, if_true, if_false])
          | (have q : w = 1 := by omega
             refine Kw q _ (by repeat (first | exact ih_rf_r _ | (refine ih_rf_u ?_ (by decide) (by decide)))) ?_ ?_ ?_ ?_ ?_ <;> simp only [ih_up_eq, ih_u1, Int.reduceEq, if_true, if_false]
             first | rw [if_pos (by omega)] | rw [if_neg (by omega)])
          | (have q : kd = 3 := by omega
             refine K3 q _ (by repeat (first | exact ih_rf_r _ | (refine ih_rf_u ?_ (by decide) (by decide)))) ?_ ?_ ?_ ?_ ?_ <;> simp only [ih_up_eq, ih_u1, Int.reduceEq, if_true, if_false])
      · refine ih_seg (i1 := 73) 2 rfl ?_
        refine ih_getI rfl rfl ?_
        refine ih_seg (i1 := 75) 1 rfl ?_
        refine ih_getI rfl rfl ?_
        refine ih_seg (i1 := 77) 1 rfl ?_
        try dsimp only
        refine ih_putI rfl rfl rfl ?_
        refine ih_seg (i1 := 80) 2 rfl ?_
        refine ih_putI rfl rfl rfl ?_
        refine ih_seg (i1 := 83) 2 rfl ?_
        refine ih_putI rfl rfl rfl ?_
        refine ih_retv rfl ?_
        first
          | (have q : kd = 2 := by omega
             refine K2 q _ (by repeat (first | exact ih_rf_r _ | (refine ih_rf_u ?_ (by decide) (by decide)))) ?_ ?_ ?_ ?_ ?_ <;> simp only [ih_up_eq, ih_u1, Int.reduceEq, if_true, if_false] <;> omega)
          | (have q : kd = 5 := by omega
             refine K5 q _ (by repeat (first | exact ih_rf_r _ | (refine ih_rf_u ?_ (by decide) (by decide)))) ?_ ?_ ?_ ?_ ?_ <;> simp only [ih_up_eq, ih_u1, Int.reduceEq, if_true, if_false])
          | (have q : w = 1 := by omega
             refine Kw q _ (by repeat (first | exact ih_rf_r _ | (refine ih_rf_u ?_ (by decide) (by decide)))) ?_ ?_ ?_ ?_ ?_ <;> simp only [ih_up_eq, ih_u1, Int.reduceEq, if_true, if_false]
             first | rw [if_pos (by omega)] | rw [if_neg (by omega)])
          | (have q : kd = 3 := by omega
             refine K3 q _ (by repeat (first | exact ih_rf_r _ | (refine ih_rf_u ?_ (by decide) (by decide)))) ?_ ?_ ?_ ?_ ?_ <;> simp only [ih_up_eq, ih_u1, Int.reduceEq, if_true, if_false])
    · refine ih_seg (i1 := 46) 2 rfl ?_
      refine ih_getI rfl rfl ?_
      refine ih_seg (i1 := 48) 1 rfl ?_
      refine ih_getI rfl rfl ?_
      refine ih_ifc_eq rfl (by omega) (fun w4 => ?_) (fun w4 => ?_)
      · refine ih_seg (i1 := 58) 1 rfl ?_
        refine ih_is1 153 rfl rfl (Nat.le_of_ble_eq_true rfl) (Nat.le_of_ble_eq_true rfl) rfl ?_
        refine r_truths hl ?_
        refine ih_seg (i1 := 60) 1 rfl ?_
        try dsimp only
        refine ih_putI rfl rfl rfl ?_
        refine ih_seg (i1 := 63) 2 rfl ?_
        refine ih_putI rfl rfl rfl ?_
        refine ih_seg (i1 := 66) 2 rfl ?_
        refine ih_putI rfl rfl rfl ?_
        refine ih_seg (i1 := 84) 1 rfl ?_
        refine ih_retv rfl ?_
        first
          | (have q : kd = 2 := by omega
             refine K2 q _ (by repeat (first | exact ih_rf_r _ | (refine ih_rf_u ?_ (by decide) (by decide)))) ?_ ?_ ?_ ?_ ?_ <;> simp only [ih_up_eq, ih_u1, Int.reduceEq, if_true, if_false] <;> omega)
          | (have q : kd = 5 := by omega
             refine K5 q _ (by repeat (first | exact ih_rf_r _ | (refine ih_rf_u ?_ (by decide) (by decide)))) ?_ ?_ ?_ ?_ ?_ <;> simp only [ih_up_eq, ih_u1, Int.reduceEq, if_true, if_false])
          | (have q : w = 1 := by omega
             refine Kw q _ (by repeat (first | exact ih_rf_r _ | (refine ih_rf_u ?_ (by decide) (by decide)))) ?_ ?_ ?_ ?_ ?_ <;> simp only [ih_up_eq, ih_u1, Int.reduceEq, if_true, if_false]
             first | rw [if_pos (by omega)] | rw [if_neg (by omega)])
          | (have q : kd = 3 := by omega
             refine K3 q _ (by repeat (first | exact ih_rf_r _ | (refine ih_rf_u ?_ (by decide) (by decide)))) ?_ ?_ ?_ ?_ ?_ <;> simp only [ih_up_eq, ih_u1, Int.reduceEq, if_true, if_false])
      · refine ih_seg (i1 := 52) 2 rfl ?_
        refine ih_is1 153 rfl rfl (Nat.le_of_ble_eq_true rfl) (Nat.le_of_ble_eq_true rfl) rfl ?_
        refine r_truths hl ?_
        refine ih_seg (i1 := 60) 5 rfl ?_
        try dsimp only
        refine ih_putI rfl rfl rfl ?_
        refine ih_seg (i1 := 63) 2 rfl ?_
        refine ih_putI rfl rfl rfl ?_
        refine ih_seg (i1 := 66) 2 rfl ?_
        refine ih_putI rfl rfl rfl ?_
        refine ih_seg (i1 := 84) 1 rfl ?_
        refine ih_retv rfl ?_
        first
          | (have q : kd = 2 := by omega
             refine K2 q _ (by repeat (first | exact ih_rf_r _ | (refine ih_rf_u ?_ (by decide) (by decide)))) ?_ ?_ ?_ ?_ ?_ <;> simp only [ih_up_eq, ih_u1, Int.reduceEq, if_true, if_false] <;> omega)
          | (have q : kd = 5 := by omega
             refine K5 q _ (by repeat (first | exact ih_rf_r _ | (refine ih_rf_u ?_ (by decide) (by decide)))) ?_ ?_ ?_ ?_ ?_ <;> simp only [ih_up_eq, ih_u1, Int.reduceEq, if_true, if_false])
          | (have q : w = 1 := by omega
             refine Kw q _ (by repeat (first | exact ih_rf_r _ | (refine ih_rf_u ?_ (by decide) (by decide)))) ?_ ?_ ?_ ?_ ?_ <;> simp only [ih_up_eq, ih_u1, Int.reduceEq, if_true, if_false]
             first | rw [if_pos (by omega)] | rw [if_neg (by omega)])
          | (have q : kd = 3 := by omega
             refine K3 q _ (by repeat (first | exact ih_rf_r _ | (refine ih_rf_u ?_ (by decide) (by decide)))) ?_ ?_ ?_ ?_ ?_ <;> simp only [ih_up_eq, ih_u1, Int.reduceEq, if_true, if_false])
  · refine ih_seg (i1 := 35) 2 rfl ?_
    refine ih_getI rfl rfl ?_
    refine ih_ifc_ne rfl (by omega) (fun w5 => ?_) (fun w5 => ?_)
    · refine ih_seg (i1 := 40) 1 rfl ?_
      refine ih_putI rfl rfl rfl ?_
      refine ih_seg (i1 := 84) 1 rfl ?_
      refine ih_retv rfl ?_
      first
        | (have q : kd = 2 := by omega
           refine K2 q _ (by repeat (first | exact ih_rf_r _ | (refine ih_rf_u ?_ (by decide) (by decide)))) ?_ ?_ ?_ ?_ ?_ <;> simp only [ih_up_eq, ih_u1, Int.reduceEq, if_true, if_false] <;> omega)
        | (have q : kd = 5 := by omega
           refine K5 q _ (by repeat (first | exact ih_rf_r _ | (refine ih_rf_u ?_ (by decide) (by decide)))) ?_ ?_ ?_ ?_ ?_ <;> simp only [ih_up_eq, ih_u1, Int.reduceEq, if_true, if_false])
        | (have q : w = 1 := by omega
           refine Kw q _ (by repeat (first | exact ih_rf_r _ | (refine ih_rf_u ?_ (by decide) (by decide)))) ?_ ?_ ?_ ?_ ?_ <;> simp only [ih_up_eq, ih_u1, Int.reduceEq, if_true, if_false]
           first | rw [if_pos (by omega)] | rw [if_neg (by omega)])
        | (have q : kd = 3 := by omega
           refine K3 q _ (by repeat (first | exact ih_rf_r _ | (refine ih_rf_u ?_ (by decide) (by decide)))) ?_ ?_ ?_ ?_ ?_ <;> simp only [ih_up_eq, ih_u1, Int.reduceEq, if_true, if_false])
    · refine ih_seg (i1 := 40) 2 rfl ?_
      refine ih_putI rfl rfl rfl ?_
      refine ih_seg (i1 := 84) 1 rfl ?_
      refine ih_retv rfl ?_
      first
        | (have q : kd = 2 := by omega
           refine K2 q _ (by repeat (first | exact ih_rf_r _ | (refine ih_rf_u ?_ (by decide) (by decide)))) ?_ ?_ ?_ ?_ ?_ <;> simp only [ih_up_eq, ih_u1, Int.reduceEq, if_true, if_false] <;> omega)
        | (have q : kd = 5 := by omega
           refine K5 q _ (by repeat (first | exact ih_rf_r _ | (refine ih_rf_u ?_ (by decide) (by decide)))) ?_ ?_ ?_ ?_ ?_ <;> simp only [ih_up_eq, ih_u1, Int.reduceEq, if_true, if_false])
        | (have q : w = 1 := by omega
           refine Kw q _ (by repeat (first | exact ih_rf_r _ | (refine ih_rf_u ?_ (by decide) (by decide)))) ?_ ?_ ?_ ?_ ?_ <;> simp only [ih_up_eq, ih_u1, Int.reduceEq, if_true, if_false]
           first | rw [if_pos (by omega)] | rw [if_neg (by omega)])
        | (have q : kd = 3 := by omega
           refine K3 q _ (by repeat (first | exact ih_rf_r _ | (refine ih_rf_u ?_ (by decide) (by decide)))) ?_ ?_ ?_ ?_ ?_ <;> simp only [ih_up_eq, ih_u1, Int.reduceEq, if_true, if_false])


theorem ih_rf_7 (t : ih_S) : ih_rf t (ih_up t 111 7 0) := ih_rf_u (ih_rf_r t) (by decide) (by decide)
theorem ih_up7 (t : ih_S) (f : Int) (h : f ≠ 7) : ih_up t 111 7 0 111 f = t 111 f := by rw [ih_up_eq, ih_u1_ne h]
theorem ih_up77 (t : ih_S) : ih_up t 111 7 0 111 7 = 0 := by rw [ih_up_eq, ih_u1_eq]

theorem r_reads_n {X : List Int} {t : ih_S} {Q : Option xa_V → ih_S → Prop} {kd l w : Int}  (hk : 0 ≤ kd ∧ kd < 7) (hl : 0 ≤ l ∧ l < 4) (hw : (w = 1 ∧ (kd = 1 ∨ kd = 4 ∨ kd = 6)) ∨ (w = 0 ∧ ¬ (kd = 1 ∨ kd = 4 ∨ kd = 6))) (ho : ih_ok none) (hr : ih_RS t none) (k : ∀ t1, ih_rf t t1 → ih_RS t1 (ih_tk kd l none) → Q none t1) : ih_Wp X 155 13 [xR 111, xI kd, xI l, xI w] [] t Q := by
  have h2 := hr.1
  have h3 := hr.2.1
  have h4 : t 111 7 = 0 := hr.2.2
  refine ih_seg (i1 := 14) 1 rfl ?_
  refine ih_ifc_ne rfl (by omega) (fun w1 => ?_) (fun w1 => ?_)
  · refine ih_seg (i1 := 17) 1 rfl ?_
    refine ih_getI rfl rfl ?_
    refine ih_seg (i1 := 19) 1 rfl ?_
    refine ih_ifc_ne rfl (by omega) (fun w2 => ?_) (fun w2 => ?_)
    · refine ih_seg (i1 := 26) 2 rfl ?_
      refine ih_icmp_eq rfl (by omega) (by omega) (fun w3 => ?_) (fun w3 => ?_)
      · refine r_reads_t (by omega) hl hw h2 (fun q t1 f a7 a6 a5 a8 a9 => ?_) (fun q t1 f a7 a6 a5 a8 a9 => ?_) (fun q t1 f a7 a6 a5 a8 a9 => ?_) (fun q t1 f a7 a6 a5 a8 a9 => ?_)
        all_goals exact k t1 f ⟨by omega, by omega, by show t1 111 7 = 0; omega⟩
      · refine ih_seg (i1 := 29) 2 rfl ?_
        refine ih_putI rfl rfl rfl ?_
        refine r_reads_t (by omega) hl hw (by rw [ih_up7 _ _ (by decide)]; exact h2) (fun q t1 f a7 a6 a5 a8 a9 => ?_) (fun q t1 f a7 a6 a5 a8 a9 => ?_) (fun q t1 f a7 a6 a5 a8 a9 => ?_) (fun q t1 f a7 a6 a5 a8 a9 => ?_)
        all_goals
          rw [ih_up77] at a7
          first | rw [ih_up7 _ _ (by decide)] at a6 | skip
          first | rw [ih_up7 _ _ (by decide)] at a5 | skip
          exact k t1 (ih_rf_t (ih_rf_7 t) f) ⟨by omega, by omega, by show t1 111 7 = 0; omega⟩
    · refine ih_seg (i1 := 22) 2 rfl ?_
      refine ih_icmp_ne rfl (by omega) (by omega) (fun w4 => ?_) (fun w4 => ?_)
      · refine ih_seg (i1 := 26) 1 rfl ?_
        refine ih_icmp_eq rfl (by omega) (by omega) (fun w5 => ?_) (fun w5 => ?_)
        · refine r_reads_t (by omega) hl hw h2 (fun q t1 f a7 a6 a5 a8 a9 => ?_) (fun q t1 f a7 a6 a5 a8 a9 => ?_) (fun q t1 f a7 a6 a5 a8 a9 => ?_) (fun q t1 f a7 a6 a5 a8 a9 => ?_)
          all_goals exact k t1 f ⟨by omega, by omega, by show t1 111 7 = 0; omega⟩
        · refine ih_seg (i1 := 29) 2 rfl ?_
          refine ih_putI rfl rfl rfl ?_
          refine r_reads_t (by omega) hl hw (by rw [ih_up7 _ _ (by decide)]; exact h2) (fun q t1 f a7 a6 a5 a8 a9 => ?_) (fun q t1 f a7 a6 a5 a8 a9 => ?_) (fun q t1 f a7 a6 a5 a8 a9 => ?_) (fun q t1 f a7 a6 a5 a8 a9 => ?_)
          all_goals
            rw [ih_up77] at a7
            first | rw [ih_up7 _ _ (by decide)] at a6 | skip
            first | rw [ih_up7 _ _ (by decide)] at a5 | skip
            exact k t1 (ih_rf_t (ih_rf_7 t) f) ⟨by omega, by omega, by show t1 111 7 = 0; omega⟩
      · refine ih_seg (i1 := 26) 2 rfl ?_
        refine ih_icmp_eq rfl (by omega) (by omega) (fun w6 => ?_) (fun w6 => ?_)
        · refine r_reads_t (by omega) hl hw h2 (fun q t1 f a7 a6 a5 a8 a9 => ?_) (fun q t1 f a7 a6 a5 a8 a9 => ?_) (fun q t1 f a7 a6 a5 a8 a9 => ?_) (fun q t1 f a7 a6 a5 a8 a9 => ?_)
          all_goals exact k t1 f ⟨by omega, by omega, by show t1 111 7 = 0; omega⟩
        · refine ih_seg (i1 := 29) 2 rfl ?_
          refine ih_putI rfl rfl rfl ?_
          refine r_reads_t (by omega) hl hw (by rw [ih_up7 _ _ (by decide)]; exact h2) (fun q t1 f a7 a6 a5 a8 a9 => ?_) (fun q t1 f a7 a6 a5 a8 a9 => ?_) (fun q t1 f a7 a6 a5 a8 a9 => ?_) (fun q t1 f a7 a6 a5 a8 a9 => ?_)
          all_goals
            rw [ih_up77] at a7
            first | rw [ih_up7 _ _ (by decide)] at a6 | skip
            first | rw [ih_up7 _ _ (by decide)] at a5 | skip
            exact k t1 (ih_rf_t (ih_rf_7 t) f) ⟨by omega, by omega, by show t1 111 7 = 0; omega⟩
  · refine ih_retv rfl ?_
    have q : kd = 0 := by omega
    exact k t (ih_rf_r t) hr


theorem r_reads_s {X : List Int} {t : ih_S} {Q : Option xa_V → ih_S → Prop} {kd l w : Int} {o a : Nat} {tu wa : Bool} (hk : 0 ≤ kd ∧ kd < 7) (hl : 0 ≤ l ∧ l < 4) (hw : (w = 1 ∧ (kd = 1 ∨ kd = 4 ∨ kd = 6)) ∨ (w = 0 ∧ ¬ (kd = 1 ∨ kd = 4 ∨ kd = 6))) (ho : ih_ok (some (o, a, tu, wa))) (hr : ih_RS t (some (o, a, tu, wa))) (k : ∀ t1, ih_rf t t1 → ih_RS t1 (ih_tk kd l (some (o, a, tu, wa))) → Q none t1) : ih_Wp X 155 13 [xR 111, xI kd, xI l, xI w] [] t Q := by
  have h2 := hr.1
  have h3 := hr.2.1
  obtain ⟨h4, e0, e1, e2, e3⟩ : t 111 7 = 1 ∧ t 111 9 = (o : Int) ∧ t 111 8 = (a : Int) ∧ t 111 6 = ih_b tu ∧ t 111 5 = ih_b wa := hr.2.2
  obtain ⟨ho1, ho2⟩ : o < 65536 ∧ a < 65536 := ho
  have l1 := ih_tr_lt l
  have q1 : xa_or (o : Int) (a : Int) = ((o ||| a : Nat) : Int) := ih_or_n (by omega) (by omega)
  have q2 : xa_and 65535 (xa_xor (ih_tr l : Int) (-1)) = ((65535 ^^^ ih_tr l : Nat) : Int) := by
    unfold ih_tr
    repeat' split
    all_goals rfl
  have l2 : 65535 ^^^ ih_tr l < 65536 := Nat.xor_lt_two_pow (n := 16) (by decide) l1
  have q3 : xa_and (a : Int) (ih_tr l : Int) = ((a &&& ih_tr l : Nat) : Int) := ih_and_n (by omega) (by omega)
  have q4 : xa_and (a : Int) ((65535 ^^^ ih_tr l : Nat) : Int) = ((a &&& (65535 ^^^ ih_tr l) : Nat) : Int) := ih_and_n (by omega) (by omega)
  have e3' : (wa = true ∧ t 111 5 = 1) ∨ (wa = false ∧ t 111 5 = 0) := by
    cases wa
    · exact Or.inr ⟨rfl, e3⟩
    · exact Or.inl ⟨rfl, e3⟩
  refine ih_seg (i1 := 14) 1 rfl ?_
  refine ih_ifc_ne rfl (by omega) (fun w1 => ?_) (fun w1 => ?_)
  · refine ih_seg (i1 := 17) 1 rfl ?_
    refine ih_getI rfl rfl ?_
    refine ih_seg (i1 := 19) 1 rfl ?_
    refine ih_ifc_ne rfl (by omega) (fun w2 => ?_) (fun w2 => ?_)
    · refine ih_seg (i1 := 26) 2 rfl ?_
      refine ih_icmp_eq rfl (by omega) (by omega) (fun w3 => ?_) (fun w3 => ?_)
      · have hj : decide (kd = 3 ∨ kd = 5) ≠ wa := by
          rcases e3' with ⟨ew, e⟩ | ⟨ew, e⟩ <;> rw [ew] <;> simp only [ne_eq, decide_eq_true_eq, decide_eq_false_iff_not] <;> omega
        refine r_reads_t (by omega) hl hw h2 (fun q t1 f a7 a6 a5 a8 a9 => ?_) (fun q t1 f a7 a6 a5 a8 a9 => ?_) (fun q t1 f a7 a6 a5 a8 a9 => ?_) (fun q t1 f a7 a6 a5 a8 a9 => ?_)
        all_goals
          refine k t1 f ⟨by omega, by omega, ?_⟩
          unfold ih_tk
          dsimp only
          rw [if_neg (by omega), if_neg hj]
        · rw [if_pos q]
          exact ⟨by omega, by omega, by omega, by rw [a6, e2]; cases tu <;> rfl, by omega⟩
        · rw [if_neg (by omega), if_neg (by omega), if_neg (by omega)]
          refine ⟨by omega, by omega, ?_, a6, a5⟩
          rw [a8, e1, e2]
          cases tu
          · exact q3
          · show xa_and (a : Int) (xa_and 65535 (xa_xor (ih_tr l : Int) (-1))) = ((a &&& (65535 ^^^ ih_tr l) : Nat) : Int)
            rw [q2, q4]
        · rw [if_neg (by omega), if_neg (by omega), if_pos q]
          exact ⟨by omega, by omega, by omega, by omega, a5⟩
        · rw [if_neg (by omega), if_pos q]
          exact ⟨by omega, by rw [a9, e0, e1]; exact q1, a8, by omega, a5⟩
      · refine ih_seg (i1 := 29) 2 rfl ?_
        refine ih_putI rfl rfl rfl ?_
        have hj : decide (kd = 3 ∨ kd = 5) = wa := by
          rcases e3' with ⟨ew, e⟩ | ⟨ew, e⟩ <;> rw [ew] <;> simp only [decide_eq_true_eq, decide_eq_false_iff_not] <;> omega
        have ek : ih_tk kd l (some (o, a, tu, wa)) = none := by
          unfold ih_tk
          dsimp only
          rw [if_neg (by omega), if_pos hj]
        rw [ek] at k
        refine r_reads_t (by omega) hl hw (by rw [ih_up7 _ _ (by decide)]; exact h2) (fun q t1 f a7 a6 a5 a8 a9 => ?_) (fun q t1 f a7 a6 a5 a8 a9 => ?_) (fun q t1 f a7 a6 a5 a8 a9 => ?_) (fun q t1 f a7 a6 a5 a8 a9 => ?_)
        all_goals
          rw [ih_up77] at a7
          first | rw [ih_up7 _ _ (by decide)] at a6 | skip
          first | rw [ih_up7 _ _ (by decide)] at a5 | skip
          exact k t1 (ih_rf_t (ih_rf_7 t) f) ⟨by omega, by omega, by show t1 111 7 = 0; omega⟩
    · refine ih_seg (i1 := 22) 2 rfl ?_
      refine ih_icmp_ne rfl (by omega) (by omega) (fun w4 => ?_) (fun w4 => ?_)
      · refine ih_seg (i1 := 26) 1 rfl ?_
        refine ih_icmp_eq rfl (by omega) (by omega) (fun w5 => ?_) (fun w5 => ?_)
        · have hj : decide (kd = 3 ∨ kd = 5) ≠ wa := by
            rcases e3' with ⟨ew, e⟩ | ⟨ew, e⟩ <;> rw [ew] <;> simp only [ne_eq, decide_eq_true_eq, decide_eq_false_iff_not] <;> omega
          refine r_reads_t (by omega) hl hw h2 (fun q t1 f a7 a6 a5 a8 a9 => ?_) (fun q t1 f a7 a6 a5 a8 a9 => ?_) (fun q t1 f a7 a6 a5 a8 a9 => ?_) (fun q t1 f a7 a6 a5 a8 a9 => ?_)
          all_goals
            refine k t1 f ⟨by omega, by omega, ?_⟩
            unfold ih_tk
            dsimp only
            rw [if_neg (by omega), if_neg hj]
          · rw [if_pos q]
            exact ⟨by omega, by omega, by omega, by rw [a6, e2]; cases tu <;> rfl, by omega⟩
          · rw [if_neg (by omega), if_neg (by omega), if_neg (by omega)]
            refine ⟨by omega, by omega, ?_, a6, a5⟩
            rw [a8, e1, e2]
            cases tu
            · exact q3
            · show xa_and (a : Int) (xa_and 65535 (xa_xor (ih_tr l : Int) (-1))) = ((a &&& (65535 ^^^ ih_tr l) : Nat) : Int)
              rw [q2, q4]
          · rw [if_neg (by omega), if_neg (by omega), if_pos q]
            exact ⟨by omega, by omega, by omega, by omega, a5⟩
          · rw [if_neg (by omega), if_pos q]
            exact ⟨by omega, by rw [a9, e0, e1]; exact q1, a8, by omega, a5⟩
        · refine ih_seg (i1 := 29) 2 rfl ?_
          refine ih_putI rfl rfl rfl ?_
          have hj : decide (kd = 3 ∨ kd = 5) = wa := by
            rcases e3' with ⟨ew, e⟩ | ⟨ew, e⟩ <;> rw [ew] <;> simp only [decide_eq_true_eq, decide_eq_false_iff_not] <;> omega
          have ek : ih_tk kd l (some (o, a, tu, wa)) = none := by
            unfold ih_tk
            dsimp only
            rw [if_neg (by omega), if_pos hj]
          rw [ek] at k
          refine r_reads_t (by omega) hl hw (by rw [ih_up7 _ _ (by decide)]; exact h2) (fun q t1 f a7 a6 a5 a8 a9 => ?_) (fun q t1 f a7 a6 a5 a8 a9 => ?_) (fun q t1 f a7 a6 a5 a8 a9 => ?_) (fun q t1 f a7 a6 a5 a8 a9 => ?_)
          all_goals
            rw [ih_up77] at a7
            first | rw [ih_up7 _ _ (by decide)] at a6 | skip
            first | rw [ih_up7 _ _ (by decide)] at a5 | skip
            exact k t1 (ih_rf_t (ih_rf_7 t) f) ⟨by omega, by omega, by show t1 111 7 = 0; omega⟩
      · refine ih_seg (i1 := 26) 2 rfl ?_
        refine ih_icmp_eq rfl (by omega) (by omega) (fun w6 => ?_) (fun w6 => ?_)
        · have hj : decide (kd = 3 ∨ kd = 5) ≠ wa := by
            rcases e3' with ⟨ew, e⟩ | ⟨ew, e⟩ <;> rw [ew] <;> simp only [ne_eq, decide_eq_true_eq, decide_eq_false_iff_not] <;> omega
          refine r_reads_t (by omega) hl hw h2 (fun q t1 f a7 a6 a5 a8 a9 => ?_) (fun q t1 f a7 a6 a5 a8 a9 => ?_) (fun q t1 f a7 a6 a5 a8 a9 => ?_) (fun q t1 f a7 a6 a5 a8 a9 => ?_)
          all_goals
            refine k t1 f ⟨by omega, by omega, ?_⟩
            unfold ih_tk
            dsimp only
            rw [if_neg (by omega), if_neg hj]
          · rw [if_pos q]
            exact ⟨by omega, by omega, by omega, by rw [a6, e2]; cases tu <;> rfl, by omega⟩
          · rw [if_neg (by omega), if_neg (by omega), if_neg (by omega)]
            refine ⟨by omega, by omega, ?_, a6, a5⟩
            rw [a8, e1, e2]
            cases tu
            · exact q3
            · show xa_and (a : Int) (xa_and 65535 (xa_xor (ih_tr l : Int) (-1))) = ((a &&& (65535 ^^^ ih_tr l) : Nat) : Int)
              rw [q2, q4]
          · rw [if_neg (by omega), if_neg (by omega), if_pos q]
            exact ⟨by omega, by omega, by omega, by omega, a5⟩
          · rw [if_neg (by omega), if_pos q]
            exact ⟨by omega, by rw [a9, e0, e1]; exact q1, a8, by omega, a5⟩
        · refine ih_seg (i1 := 29) 2 rfl ?_
          refine ih_putI rfl rfl rfl ?_
          have hj : decide (kd = 3 ∨ kd = 5) = wa := by
            rcases e3' with ⟨ew, e⟩ | ⟨ew, e⟩ <;> rw [ew] <;> simp only [decide_eq_true_eq, decide_eq_false_iff_not] <;> omega
          have ek : ih_tk kd l (some (o, a, tu, wa)) = none := by
            unfold ih_tk
            dsimp only
            rw [if_neg (by omega), if_pos hj]
          rw [ek] at k
          refine r_reads_t (by omega) hl hw (by rw [ih_up7 _ _ (by decide)]; exact h2) (fun q t1 f a7 a6 a5 a8 a9 => ?_) (fun q t1 f a7 a6 a5 a8 a9 => ?_) (fun q t1 f a7 a6 a5 a8 a9 => ?_) (fun q t1 f a7 a6 a5 a8 a9 => ?_)
          all_goals
            rw [ih_up77] at a7
            first | rw [ih_up7 _ _ (by decide)] at a6 | skip
            first | rw [ih_up7 _ _ (by decide)] at a5 | skip
            exact k t1 (ih_rf_t (ih_rf_7 t) f) ⟨by omega, by omega, by show t1 111 7 = 0; omega⟩
  · refine ih_retv rfl ?_
    have q : kd = 0 := by omega
    subst q
    exact k t (ih_rf_r t) hr


theorem r_reads {X : List Int} {t : ih_S} {Q : Option xa_V → ih_S → Prop} {kd l : Int} {e : ih_Se} (hk : 0 ≤ kd ∧ kd < 7) (hl : 0 ≤ l ∧ l < 4) (ho : ih_ok e) (hr : ih_RS t e) (k : ∀ t1, ih_rf t t1 → ih_RS t1 (ih_tk kd l e) → Q none t1) : ih_Wp X 155 0 [xR 111, xI kd, xI l, xC 1] [] t Q := by
  refine ih_seg (i1 := 2) 2 rfl ?_
  refine ih_icmp_eq rfl (by omega) (by omega) (fun w1 => ?_) (fun w1 => ?_)
  · refine ih_seg (i1 := 13) 3 rfl ?_
    try simp only [xa_set, List.set_cons_zero, List.set_cons_succ, List.getElem?_cons_zero, List.getElem?_cons_succ]
    match e, ho, hr, k with
    | none, ho, hr, k => exact r_reads_n hk hl (by omega) ho hr k
    | some (o, a, tu, wa), ho, hr, k => exact r_reads_s hk hl (by omega) ho hr k
  · refine ih_seg (i1 := 5) 2 rfl ?_
    refine ih_icmp_eq rfl (by omega) (by omega) (fun w2 => ?_) (fun w2 => ?_)
    · refine ih_seg (i1 := 13) 3 rfl ?_
      try simp only [xa_set, List.set_cons_zero, List.set_cons_succ, List.getElem?_cons_zero, List.getElem?_cons_succ]
      match e, ho, hr, k with
      | none, ho, hr, k => exact r_reads_n hk hl (by omega) ho hr k
      | some (o, a, tu, wa), ho, hr, k => exact r_reads_s hk hl (by omega) ho hr k
    · refine ih_seg (i1 := 8) 2 rfl ?_
      refine ih_icmp_ne rfl (by omega) (by omega) (fun w3 => ?_) (fun w3 => ?_)
      · refine ih_seg (i1 := 13) 2 rfl ?_
        try simp only [xa_set, List.set_cons_zero, List.set_cons_succ, List.getElem?_cons_zero, List.getElem?_cons_succ]
        match e, ho, hr, k with
        | none, ho, hr, k => exact r_reads_n hk hl (by omega) ho hr k
        | some (o, a, tu, wa), ho, hr, k => exact r_reads_s hk hl (by omega) ho hr k
      · refine ih_seg (i1 := 13) 3 rfl ?_
        try simp only [xa_set, List.set_cons_zero, List.set_cons_succ, List.getElem?_cons_zero, List.getElem?_cons_succ]
        match e, ho, hr, k with
        | none, ho, hr, k => exact r_reads_n hk hl (by omega) ho hr k
        | some (o, a, tu, wa), ho, hr, k => exact r_reads_s hk hl (by omega) ho hr k


theorem r_meaning {X : List Int} {t : ih_S} {Q : Option xa_V → ih_S → Prop} {e : ih_Se} (ho : ih_ok e) (hr : ih_RS t e) (k : Q (some (xI (ih_val e))) t) : ih_Wp X 156 0 [xR 111] [] t Q := by
  have g2 := hr.1
  have g3 := hr.2.1
  have g4 : t 111 7 = 0 ∨ t 111 7 = 1 := by
    match e, hr with
    | none, hr => exact Or.inl hr.2.2
    | some (o, a, tu, wa), hr => exact Or.inr hr.2.2.1
  refine ih_seg (i1 := 1) 1 rfl ?_
  refine ih_getI rfl rfl ?_
  refine ih_ifc_eq rfl (by omega) (fun w1 => ?_) (fun w1 => ?_)
  · refine ih_seg (i1 := 13) 1 rfl ?_
    refine ih_ret rfl rfl ?_
    refine ih_Qe ?_ k
    match e, ho, hr with
    | none, ho, hr =>
      have g5 : t 111 7 = 0 := hr.2.2
      first | rfl | omega
    | some (o, a, tu, wa), ho, hr =>
      obtain ⟨h4, e0, e1, e2, e3⟩ : t 111 7 = 1 ∧ t 111 9 = (o : Int) ∧ t 111 8 = (a : Int) ∧ t 111 6 = ih_b tu ∧ t 111 5 = ih_b wa := hr.2.2
      obtain ⟨ho1, ho2⟩ : o < 65536 ∧ a < 65536 := ho
      cases wa <;> simp only [ih_b, if_true, if_false, Bool.false_eq_true] at e3 <;> first | omega | rfl | (rw [e0, e1]; exact ih_or_n (by omega) (by omega))
  · refine ih_seg (i1 := 4) 1 rfl ?_
    refine ih_getI rfl rfl ?_
    refine ih_ifc_ne rfl (by omega) (fun w2 => ?_) (fun w2 => ?_)
    · refine ih_seg (i1 := 13) 1 rfl ?_
      refine ih_ret rfl rfl ?_
      refine ih_Qe ?_ k
      match e, ho, hr with
      | none, ho, hr =>
        have g5 : t 111 7 = 0 := hr.2.2
        first | rfl | omega
      | some (o, a, tu, wa), ho, hr =>
        obtain ⟨h4, e0, e1, e2, e3⟩ : t 111 7 = 1 ∧ t 111 9 = (o : Int) ∧ t 111 8 = (a : Int) ∧ t 111 6 = ih_b tu ∧ t 111 5 = ih_b wa := hr.2.2
        obtain ⟨ho1, ho2⟩ : o < 65536 ∧ a < 65536 := ho
        cases wa <;> simp only [ih_b, if_true, if_false, Bool.false_eq_true] at e3 <;> first | omega | rfl | (rw [e0, e1]; exact ih_or_n (by omega) (by omega))
    · refine ih_seg (i1 := 7) 1 rfl ?_
      refine ih_getI rfl rfl ?_
      refine ih_seg (i1 := 9) 1 rfl ?_
      refine ih_getI rfl rfl ?_
      refine ih_seg (i1 := 13) 2 rfl ?_
      try dsimp only
      refine ih_ret rfl rfl ?_
      refine ih_Qe ?_ k
      match e, ho, hr with
      | none, ho, hr =>
        have g5 : t 111 7 = 0 := hr.2.2
        first | rfl | omega
      | some (o, a, tu, wa), ho, hr =>
        obtain ⟨h4, e0, e1, e2, e3⟩ : t 111 7 = 1 ∧ t 111 9 = (o : Int) ∧ t 111 8 = (a : Int) ∧ t 111 6 = ih_b tu ∧ t 111 5 = ih_b wa := hr.2.2
        obtain ⟨ho1, ho2⟩ : o < 65536 ∧ a < 65536 := ho
        cases wa <;> simp only [ih_b, if_true, if_false, Bool.false_eq_true] at e3 <;> first | omega | rfl | (rw [e0, e1]; exact ih_or_n (by omega) (by omega))

