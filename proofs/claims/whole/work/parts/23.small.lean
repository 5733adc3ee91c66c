/-! Contracts of the small methods -/
def ih_w (lit h : Int) : Int := if lit = 0 then h else h + 12 * (h / 24) + (if h % 24 < 6 then 0 else if 18 < h % 24 then 12 else h % 24 - 6)
def ih_how (lit w : Int) : Int := if lit = 0 then w else if w % 36 ≤ 6 then 24 * (w / 36) + w % 36 else if w % 36 ≤ 30 then 24 * (w / 36) + 6 + (w % 36 - 5) / 2 else 24 * (w / 36) + w % 36 - 12
def ih_span (kind lasts : Int) : Int := if kind = 4 then 2 * lasts else if kind = 6 then (if lasts < 2 then 1 else lasts / 2) else lasts
theorem ih_gal {lit h w : Int} (hh : 0 ≤ h) (hw : 0 ≤ w) : h < ih_how lit w ↔ ih_w lit h < w := by
  unfold ih_how ih_w
  repeat' split
  all_goals omega
theorem ih_w_rg {lit h : Int} (h0 : 0 ≤ h) (h1 : h ≤ 20000) : 0 ≤ ih_w lit h ∧ ih_w lit h ≤ 40000 := by
  unfold ih_w
  repeat' split
  all_goals omega
theorem ih_how_rg {lit w : Int} (h0 : 0 ≤ w) (h1 : w ≤ 50000) : 0 ≤ ih_how lit w ∧ ih_how lit w ≤ 50000 := by
  unfold ih_how
  repeat' split
  all_goals omega
theorem ih_span_rg {k l : Int} (h0 : 1 ≤ l) (h1 : l ≤ 999) : 1 ≤ ih_span k l ∧ ih_span k l ≤ 1998 := by
  unfold ih_span
  repeat' split
  all_goals omega
theorem ih_w_mono {lit a b : Int} (h0 : 0 ≤ a) (h : a ≤ b) : ih_w lit a ≤ ih_w lit b := by
  unfold ih_w
  repeat' split
  all_goals omega
theorem ih_w_grow {lit a b : Int} (h0 : 0 ≤ a) (h : a ≤ b) : b - a ≤ ih_w lit b - ih_w lit a := by
  unfold ih_w
  repeat' split
  all_goals omega
theorem ih_td {a b : Int} (ha : 0 ≤ a) : a.tdiv b = a / b := Int.tdiv_eq_ediv_of_nonneg ha
theorem ih_tm {a b : Int} (ha : 0 ≤ a) : a.tmod b = a % b := Int.tmod_eq_emod_of_nonneg ha

theorem ih_Qe {Q : Option xa_V → ih_S → Prop} {t : ih_S} {a b : Int} (e : b = a) (k : Q (some (xI a)) t) : Q (some (xI b)) t := e ▸ k

theorem c_isFull {X : List Int} {t : ih_S} {Q : Option xa_V → ih_S → Prop} {P : Nat} (hP : ih_isP P) (hs : 0 ≤ t P 4 ∧ t P 4 ≤ 12) (kt : t P 4 = 12 → Q (some (xI 1)) t) (kf : t P 4 < 12 → Q (some (xI 0)) t) : ih_Wp X 22 0 [xR P] [] t Q := by
  refine ih_seg (i1 := 1) 1 rfl ?_
  refine ih_getI rfl (by first | rfl | exact ih_fP4 (by assumption)) ?_
  refine ih_seg (i1 := 3) 1 rfl ?_
  refine ih_icmp_lt rfl (by omega) (by omega) (fun w1 => ?_) (fun w1 => ?_)
  · refine ih_seg (i1 := 7) 1 rfl ?_
    refine ih_ret rfl rfl ?_
    first | exact kt (by omega) | exact kf (by omega)
  · refine ih_seg (i1 := 7) 2 rfl ?_
    refine ih_ret rfl rfl ?_
    first | exact kt (by omega) | exact kf (by omega)


theorem c_within {X : List Int} {t : ih_S} {Q : Option xa_V → ih_S → Prop} {a b c : Int} (ha : xa_rI a) (hb : xa_rI b) (hc : xa_rI c) (kt : b ≤ a ∧ a ≤ c → Q (some (xI 1)) t) (kf : ¬ (b ≤ a ∧ a ≤ c) → Q (some (xI 0)) t) : ih_Wp X 103 0 [xI a, xI b, xI c] [] t Q := by
  refine ih_seg (i1 := 2) 2 rfl ?_
  refine ih_icmp_lt rfl (by omega) (by omega) (fun w1 => ?_) (fun w1 => ?_)
  · refine ih_seg (i1 := 9) 1 rfl ?_
    refine ih_ret rfl rfl ?_
    first | exact kt (by omega) | exact kf (by omega)
  · refine ih_seg (i1 := 5) 2 rfl ?_
    refine ih_icmp_gt rfl (by omega) (by omega) (fun w2 => ?_) (fun w2 => ?_)
    · refine ih_seg (i1 := 9) 1 rfl ?_
      refine ih_ret rfl rfl ?_
      first | exact kt (by omega) | exact kf (by omega)
    · refine ih_seg (i1 := 9) 2 rfl ?_
      refine ih_ret rfl rfl ?_
      first | exact kt (by omega) | exact kf (by omega)


theorem c_isHour {X : List Int} {t : ih_S} {Q : Option xa_V → ih_S → Prop} {a : Int} (ha : xa_rI a) (kt : 0 ≤ a ∧ a < 10000 → Q (some (xI 1)) t) (kf : ¬ (0 ≤ a ∧ a < 10000) → Q (some (xI 0)) t) : ih_Wp X 104 0 [xI a] [] t Q := by
  refine ih_seg (i1 := 3) 3 rfl ?_
  refine ih_is3 103 rfl rfl (Nat.le_of_ble_eq_true rfl) (Nat.le_of_ble_eq_true rfl) rfl ?_
  refine c_within (by omega) (by omega) (by omega) (fun w1 => ?_) (fun w2 => ?_)
  · refine ih_ret rfl rfl ?_
    first | exact kt (by omega) | exact kf (by omega)
  · refine ih_ret rfl rfl ?_
    first | exact kt (by omega) | exact kf (by omega)


theorem c_isInk {X : List Int} {t : ih_S} {Q : Option xa_V → ih_S → Prop} {a : Int} (ha : xa_rI a) (kt : 0 ≤ a ∧ a < 8 → Q (some (xI 1)) t) (kf : ¬ (0 ≤ a ∧ a < 8) → Q (some (xI 0)) t) : ih_Wp X 105 0 [xI a] [] t Q := by
  refine ih_seg (i1 := 3) 3 rfl ?_
  refine ih_is3 103 rfl rfl (Nat.le_of_ble_eq_true rfl) (Nat.le_of_ble_eq_true rfl) rfl ?_
  refine c_within (by omega) (by omega) (by omega) (fun w1 => ?_) (fun w2 => ?_)
  · refine ih_ret rfl rfl ?_
    first | exact kt (by omega) | exact kf (by omega)
  · refine ih_ret rfl rfl ?_
    first | exact kt (by omega) | exact kf (by omega)


theorem c_isPaper {X : List Int} {t : ih_S} {Q : Option xa_V → ih_S → Prop} {a : Int} (ha : xa_rI a) (kt : 0 ≤ a ∧ a < 4 → Q (some (xI 1)) t) (kf : ¬ (0 ≤ a ∧ a < 4) → Q (some (xI 0)) t) : ih_Wp X 106 0 [xI a] [] t Q := by
  refine ih_seg (i1 := 3) 3 rfl ?_
  refine ih_is3 103 rfl rfl (Nat.le_of_ble_eq_true rfl) (Nat.le_of_ble_eq_true rfl) rfl ?_
  refine c_within (by omega) (by omega) (by omega) (fun w1 => ?_) (fun w2 => ?_)
  · refine ih_ret rfl rfl ?_
    first | exact kt (by omega) | exact kf (by omega)
  · refine ih_ret rfl rfl ?_
    first | exact kt (by omega) | exact kf (by omega)


theorem c_isKind {X : List Int} {t : ih_S} {Q : Option xa_V → ih_S → Prop} {a : Int} (ha : xa_rI a) (kt : 0 ≤ a ∧ a < 7 → Q (some (xI 1)) t) (kf : ¬ (0 ≤ a ∧ a < 7) → Q (some (xI 0)) t) : ih_Wp X 107 0 [xI a] [] t Q := by
  refine ih_seg (i1 := 3) 3 rfl ?_
  refine ih_is3 103 rfl rfl (Nat.le_of_ble_eq_true rfl) (Nat.le_of_ble_eq_true rfl) rfl ?_
  refine c_within (by omega) (by omega) (by omega) (fun w1 => ?_) (fun w2 => ?_)
  · refine ih_ret rfl rfl ?_
    first | exact kt (by omega) | exact kf (by omega)
  · refine ih_ret rfl rfl ?_
    first | exact kt (by omega) | exact kf (by omega)


theorem c_isLetter {X : List Int} {t : ih_S} {Q : Option xa_V → ih_S → Prop} {a : Int} (ha : xa_rI a) (kt : 0 ≤ a ∧ a < 4 → Q (some (xI 1)) t) (kf : ¬ (0 ≤ a ∧ a < 4) → Q (some (xI 0)) t) : ih_Wp X 108 0 [xI a] [] t Q := by
  refine ih_seg (i1 := 3) 3 rfl ?_
  refine ih_is3 103 rfl rfl (Nat.le_of_ble_eq_true rfl) (Nat.le_of_ble_eq_true rfl) rfl ?_
  refine c_within (by omega) (by omega) (by omega) (fun w1 => ?_) (fun w2 => ?_)
  · refine ih_ret rfl rfl ?_
    first | exact kt (by omega) | exact kf (by omega)
  · refine ih_ret rfl rfl ?_
    first | exact kt (by omega) | exact kf (by omega)


theorem c_isSpot {X : List Int} {t : ih_S} {Q : Option xa_V → ih_S → Prop} {a : Int} (ha : xa_rI a) (kt : 0 ≤ a ∧ a < 10 → Q (some (xI 1)) t) (kf : ¬ (0 ≤ a ∧ a < 10) → Q (some (xI 0)) t) : ih_Wp X 109 0 [xI a] [] t Q := by
  refine ih_seg (i1 := 3) 3 rfl ?_
  refine ih_is3 103 rfl rfl (Nat.le_of_ble_eq_true rfl) (Nat.le_of_ble_eq_true rfl) rfl ?_
  refine c_within (by omega) (by omega) (by omega) (fun w1 => ?_) (fun w2 => ?_)
  · refine ih_ret rfl rfl ?_
    first | exact kt (by omega) | exact kf (by omega)
  · refine ih_ret rfl rfl ?_
    first | exact kt (by omega) | exact kf (by omega)


theorem c_isSheet {X : List Int} {t : ih_S} {Q : Option xa_V → ih_S → Prop} {a : Int} (ha : xa_rI a) (kt : 0 ≤ a ∧ a < 4 → Q (some (xI 1)) t) (kf : ¬ (0 ≤ a ∧ a < 4) → Q (some (xI 0)) t) : ih_Wp X 110 0 [xI a] [] t Q := by
  refine ih_seg (i1 := 3) 3 rfl ?_
  refine ih_is3 103 rfl rfl (Nat.le_of_ble_eq_true rfl) (Nat.le_of_ble_eq_true rfl) rfl ?_
  refine c_within (by omega) (by omega) (by omega) (fun w1 => ?_) (fun w2 => ?_)
  · refine ih_ret rfl rfl ?_
    first | exact kt (by omega) | exact kf (by omega)
  · refine ih_ret rfl rfl ?_
    first | exact kt (by omega) | exact kf (by omega)


theorem c_span {X : List Int} {t : ih_S} {Q : Option xa_V → ih_S → Prop} {kd l : Int} (hk : 0 ≤ kd ∧ kd ≤ 6) (hl : 1 ≤ l ∧ l ≤ 999) (k : Q (some (xI (ih_span kd l))) t) : ih_Wp X 122 0 [xI kd, xI l] [] t Q := by
  refine ih_seg (i1 := 2) 2 rfl ?_
  refine ih_icmp_ne rfl (by omega) (by omega) (fun w1 => ?_) (fun w1 => ?_)
  · refine ih_seg (i1 := 9) 2 rfl ?_
    refine ih_icmp_ne rfl (by omega) (by omega) (fun w2 => ?_) (fun w2 => ?_)
    · refine ih_seg (i1 := 17) 1 rfl ?_
      refine ih_ret rfl rfl ?_
      refine ih_Qe ?_ k
      unfold ih_span
      repeat' split
      all_goals first | rfl | omega
    · refine ih_seg (i1 := 13) 3 rfl ?_
      refine ih_idiv0 rfl (by omega) (by omega) ?_
      refine ih_max rfl (by omega) (by omega) (Nat.le_of_ble_eq_true rfl) ?_
      refine ih_seg (i1 := 17) 1 rfl ?_
      refine ih_ret rfl rfl ?_
      refine ih_Qe ?_ k
      unfold ih_span
      repeat' split
      all_goals first | rfl | omega
  · refine ih_seg (i1 := 6) 3 rfl ?_
    try dsimp only
    refine ih_ret rfl rfl ?_
    refine ih_Qe ?_ k
    unfold ih_span
    repeat' split
    all_goals first | rfl | omega


theorem c_wear {X : List Int} {t : ih_S} {Q : Option xa_V → ih_S → Prop} {l h : Int} (hl : l = 0 ∨ l = 1) (hh : 0 ≤ h ∧ h ≤ 20000) (k : Q (some (xI (ih_w l h))) t) : ih_Wp X 123 0 [xI l, xI h, xC 1] [] t Q := by
  refine ih_seg (i1 := 1) 1 rfl ?_
  refine ih_ifc_ne rfl (by (repeat' split) <;> omega) (fun w1 => ?_) (fun w1 => ?_)
  · refine ih_seg (i1 := 8) 4 rfl ?_
    refine ih_irem0 rfl (by (repeat' split) <;> omega) (by (repeat' split) <;> omega) ?_
    refine ih_seg (i1 := 11) 2 rfl ?_
    try dsimp only
    refine ih_max rfl (by (repeat' split) <;> omega) (by (repeat' split) <;> omega) (Nat.le_of_ble_eq_true rfl) ?_
    refine ih_min rfl (by (repeat' split) <;> omega) (by (repeat' split) <;> omega) (Nat.le_of_ble_eq_true rfl) ?_
    refine ih_seg (i1 := 18) 5 rfl ?_
    try simp only [xa_set, List.set_cons_zero, List.set_cons_succ, List.getElem?_cons_zero, List.getElem?_cons_succ]
    refine ih_idiv0 rfl (by (repeat' split) <;> omega) (by (repeat' split) <;> omega) ?_
    refine ih_seg (i1 := 23) 4 rfl ?_
    try dsimp only
    refine ih_ret rfl rfl ?_
    refine ih_Qe ?_ k
    unfold ih_w
    repeat' split
    all_goals first | rfl | omega
  · refine ih_seg (i1 := 3) 1 rfl ?_
    refine ih_ret rfl rfl ?_
    refine ih_Qe ?_ k
    unfold ih_w
    repeat' split
    all_goals first | rfl | omega


theorem c_how {X : List Int} {t : ih_S} {Q : Option xa_V → ih_S → Prop} {l w : Int} (hl : l = 0 ∨ l = 1) (hw : 0 ≤ w ∧ w ≤ 50000) (k : Q (some (xI (ih_how l w))) t) : ih_Wp X 124 0 [xI l, xI w, xC 1, xC 1] [] t Q := by
  refine ih_seg (i1 := 1) 1 rfl ?_
  refine ih_ifc_ne rfl (by omega) (fun w1 => ?_) (fun w1 => ?_)
  · refine ih_seg (i1 := 7) 3 rfl ?_
    refine ih_idiv0 rfl (by omega) (by omega) ?_
    refine ih_seg (i1 := 12) 4 rfl ?_
    try simp only [xa_set, List.set_cons_zero, List.set_cons_succ, List.getElem?_cons_zero, List.getElem?_cons_succ]
    refine ih_irem0 rfl (by omega) (by omega) ?_
    refine ih_seg (i1 := 16) 3 rfl ?_
    try simp only [xa_set, List.set_cons_zero, List.set_cons_succ, List.getElem?_cons_zero, List.getElem?_cons_succ]
    refine ih_icmp_gt rfl (by omega) (by omega) (fun w2 => ?_) (fun w2 => ?_)
    · refine ih_seg (i1 := 23) 2 rfl ?_
      refine ih_icmp_gt rfl (by omega) (by omega) (fun w3 => ?_) (fun w3 => ?_)
      · refine ih_seg (i1 := 39) 5 rfl ?_
        try dsimp only
        refine ih_ret rfl rfl ?_
        refine ih_Qe ?_ k
        unfold ih_how
        repeat' split
        all_goals first | rfl | omega
      · refine ih_seg (i1 := 31) 7 rfl ?_
        try dsimp only
        refine ih_idiv0 rfl (by omega) (by omega) ?_
        refine ih_seg (i1 := 39) 2 rfl ?_
        try dsimp only
        refine ih_ret rfl rfl ?_
        refine ih_Qe ?_ k
        unfold ih_how
        repeat' split
        all_goals first | rfl | omega
    · refine ih_seg (i1 := 20) 3 rfl ?_
      try dsimp only
      refine ih_ret rfl rfl ?_
      refine ih_Qe ?_ k
      unfold ih_how
      repeat' split
      all_goals first | rfl | omega
  · refine ih_seg (i1 := 3) 1 rfl ?_
    refine ih_ret rfl rfl ?_
    refine ih_Qe ?_ k
    unfold ih_how
    repeat' split
    all_goals first | rfl | omega


theorem c_finding {X : List Int} {t : ih_S} {Q : Option xa_V → ih_S → Prop} {a : Int} (ha : 0 ≤ a ∧ a < 7) (k : Q (some (xI (-1000001 - a))) (ih_up t 84 a (t 84 a + 1))) : ih_Wp X 102 0 [xR 0, xI a] [] t Q := by
  refine ih_seg (i1 := 1) 1 rfl ?_
  refine ih_getR rfl rfl ?_
  refine ih_seg (i1 := 4) 2 rfl ?_
  refine ih_iald rfl (by first | rfl | exact ih_lP1 (by assumption) | exact ih_lP2 (by assumption) | exact ih_lP3 (by assumption) | exact ih_lP4 (by assumption) | exact ih_lC1 (by assumption) | exact ih_lS1 (by assumption) | exact ih_lW1 (by assumption) | exact ih_lW2 (by assumption) | exact ih_lW4 (by assumption) | exact ih_lW5 (by assumption)) (by omega) (by omega) (k := ?_)
  refine ih_seg (i1 := 7) 2 rfl ?_
  try dsimp only
  refine ih_iast rfl (by first | rfl | exact ih_lP1 (by assumption) | exact ih_lP2 (by assumption) | exact ih_lP3 (by assumption) | exact ih_lP4 (by assumption) | exact ih_lC1 (by assumption) | exact ih_lS1 (by assumption) | exact ih_lW1 (by assumption) | exact ih_lW2 (by assumption) | exact ih_lW4 (by assumption) | exact ih_lW5 (by assumption)) (by omega) (by omega) (k := ?_)
  refine ih_seg (i1 := 11) 3 rfl ?_
  try dsimp only
  refine ih_ret rfl rfl ?_
  exact k


theorem c_exchange {X : List Int} {t : ih_S} {Q : Option xa_V → ih_S → Prop} {a n : Nat} {j z : Int} (ha : ih_len a = some n) (hn : n < 1000) (hj : 0 ≤ j ∧ j < n) (k : Q (some (xI (t a j))) (ih_up t a j z)) : ih_Wp X 115 0 [xR a, xI j, xI z, xC 1] [] t Q := by
  refine ih_seg (i1 := 2) 2 rfl ?_
  refine ih_iald rfl ha hj.1 hj.2 hn ?_
  refine ih_seg (i1 := 7) 4 rfl ?_
  try simp only [xa_set, List.set_cons_zero, List.set_cons_succ, List.getElem?_cons_zero, List.getElem?_cons_succ]
  refine ih_iast rfl ha hj.1 hj.2 hn ?_
  refine ih_seg (i1 := 9) 1 rfl ?_
  refine ih_ret rfl rfl ?_
  exact k

