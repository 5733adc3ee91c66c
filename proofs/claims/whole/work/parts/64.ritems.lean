/-! texts: the reference's items of inks and papers -/
theorem ih_lc0 {a b z : Int} (h : z = if a < b then -1 else if a = b then 0 else 1) : (z = 0 ↔ a = b) ∧ (z ≤ 0 ↔ a ≤ b) ∧ (0 ≤ z ↔ b ≤ a) := by
  rw [h]
  split
  · omega
  · split <;> omega
/-- the reference, while it reads a text: only its row, token, value and fault change -/
def ih_fR (t t1 : ih_S) : Prop := (∀ j, j ≠ 111 → j ≠ 112 → t1 j = t j) ∧ ∀ g : Int, g < 13 ∨ 16 < g → t1 111 g = t 111 g
theorem ih_fR_r (t : ih_S) : ih_fR t t := ⟨fun _ _ _ => rfl, fun _ _ => rfl⟩
theorem ih_fR_t {t t1 t2 : ih_S} (a : ih_fR t t1) (b : ih_fR t1 t2) : ih_fR t t2 := ⟨fun j h h2 => (b.1 j h h2).trans (a.1 j h h2), fun g h => (b.2 g h).trans (a.2 g h)⟩
theorem ih_fR_n {t t1 : ih_S} (f1 : ∀ j, j ≠ 111 → t1 j = t j) (g1 : ∀ g : Int, g ≠ 13 → g ≠ 14 → t1 111 g = t 111 g) : ih_fR t t1 := ⟨fun j h _ => f1 j h, fun g h => g1 g (by omega) (by omega)⟩
theorem ih_fR_m {t t1 : ih_S} (f1 : ∀ j, j ≠ 111 → t1 j = t j) (g1 : ∀ g : Int, g ≠ 13 → g ≠ 14 → g ≠ 15 → t1 111 g = t 111 g) : ih_fR t t1 := ⟨fun j h _ => f1 j h, fun g h => g1 g (by omega) (by omega) (by omega)⟩
theorem ih_fR_w {t t1 : ih_S} (f1 : ∀ j, j ≠ 111 → t1 j = t j) (g1 : ∀ g : Int, g ≠ 15 → g ≠ 16 → t1 111 g = t 111 g) : ih_fR t t1 := ⟨fun j h _ => f1 j h, fun g h => g1 g (by omega) (by omega)⟩
theorem ih_fR_x {t t1 : ih_S} (a : ih_fR t t1) : ih_fR t (ih_up t1 111 16 1) := ⟨fun j h h2 => by rw [ih_up_ne h]; exact a.1 j h h2, fun g h => by rw [ih_up_eq, ih_u1_ne (by omega)]; exact a.2 g h⟩
theorem ih_fR_u {t t1 : ih_S} {i v : Int} (a : ih_fR t t1) : ih_fR t (ih_up t1 112 i v) := ⟨fun j h h2 => by rw [ih_up_ne h2]; exact a.1 j h h2, fun g h => by rw [ih_up_ne (by decide)]; exact a.2 g h⟩
theorem ih_TR_w {t t1 : ih_S} {f : Int → Int} {n st : Int} (C : ih_TR t f n st) (f1 : ∀ j, j ≠ 111 → t1 j = t j) (g1 : ∀ g : Int, g ≠ 15 → g ≠ 16 → t1 111 g = t 111 g) : ih_TR t1 f n st := ih_TR_of C (g1 12 (by decide) (by decide)) (g1 13 (by decide) (by decide)) (g1 14 (by decide) (by decide)) (f1 117 (by decide))
theorem ih_TR_x {t : ih_S} {f : Int → Int} {n st : Int} (C : ih_TR t f n st) : ih_TR (ih_up t 111 16 1) f n st := ih_TR_of C (by rw [ih_up_eq, ih_u1_ne (by decide)]) (by rw [ih_up_eq, ih_u1_ne (by decide)]) (by rw [ih_up_eq, ih_u1_ne (by decide)]) (ih_up_ne (by decide))
theorem ih_TR_u {t : ih_S} {f : Int → Int} {n st : Int} {i v : Int} (C : ih_TR t f n st) : ih_TR (ih_up t 112 i v) f n st := ih_TR_of C (by rw [ih_up_ne (by decide)]) (by rw [ih_up_ne (by decide)]) (by rw [ih_up_ne (by decide)]) (ih_up_ne (by decide))
theorem ih_n01 : ¬ ((0 : Int) = 1) := by decide
theorem ih_n10 : ¬ ((1 : Int) = 0) := by decide
theorem ih_x16 {t : ih_S} : ih_up t 111 16 1 111 16 = 1 := by rw [ih_up_eq, ih_u1_eq]
/-- what the reference's reading of r leads to -/
def ih_rR (t : ih_S) (f : Int → Int) (n : Int) (r : Int × Int × (Int → Int)) (Q : Option xa_V → ih_S → Prop) : Prop := ∀ t1, ih_fR t t1 → ih_TR t1 f n r.2.1 → (r.1 = 1 → t1 111 16 = 0 ∧ t1 112 = r.2.2) → (r.1 = 0 → t1 111 16 = 1) → Q none t1
theorem r_needs1 {X : List Int} {t : ih_S} {Q : Option xa_V → ih_S → Prop} {f : Int → Int} {n st : Int} (C : ih_TR t f n st) (hw : t 111 16 = 0) (K : ∀ t1, (∀ j, j ≠ 111 → t1 j = t j) → (∀ g : Int, g ≠ 13 → g ≠ 14 → t1 111 g = t 111 g) → t1 111 16 = 0 → ih_TR t1 f n (ih_adv f n st) → Q none t1) : ih_Wp X 186 0 [xR 111, xI 1] [] t Q := r_needs C (Or.inr rfl) hw (fun _ t1 f1 g1 C1 => K t1 f1 g1 ((g1 16 (by decide) (by decide)).trans hw) C1) (fun h => absurd h (by decide))
theorem r_needs0 {X : List Int} {t : ih_S} {Q : Option xa_V → ih_S → Prop} {f : Int → Int} {n st : Int} (C : ih_TR t f n st) (hw : t 111 16 = 0) (K : Q none (ih_up t 111 16 1)) : ih_Wp X 186 0 [xR 111, xI 0] [] t Q := r_needs C (Or.inl rfl) hw (fun h => absurd h ih_n01) (fun _ => K)
theorem r_numberO {X : List Int} {t : ih_S} {Q : Option xa_V → ih_S → Prop} {f : Int → Int} {n st : Int} (C : ih_TR t f n st) {lo hi : Int} (hlo : xa_rI lo) (hhi : xa_rI hi) (hw : t 111 16 = 0) (kt : ih_kk f n st = 2 ∧ lo ≤ ih_num f n st ∧ ih_num f n st ≤ hi → ∀ t1, (∀ j, j ≠ 111 → t1 j = t j) → ih_fR t t1 → t1 111 16 = 0 → t1 111 15 = ih_num f n st → ih_TR t1 f n (ih_adv f n st) → Q none t1) (kf : ¬ (ih_kk f n st = 2 ∧ lo ≤ ih_num f n st ∧ ih_num f n st ≤ hi) → ∀ t1, (∀ j, j ≠ 111 → t1 j = t j) → ih_fR t t1 → t1 111 16 = 1 → ih_TR t1 f n st → Q none t1) : ih_Wp X 188 0 [xR 111, xI lo, xI hi, xC 1, xC 1, xC 1] [] t Q := r_number C hlo hhi hw (fun q t1 f1 g1 v1 C1 => kt q t1 f1 (ih_fR_m f1 g1) ((g1 16 (by decide) (by decide) (by decide)).trans hw) v1 C1) (fun q t1 f1 g1 w1 => kf q t1 f1 (ih_fR_w f1 g1) w1 (ih_TR_w C f1 g1))
theorem r_wordO {X : List Int} {t : ih_S} {Q : Option xa_V → ih_S → Prop} {f : Int → Int} {n st : Int} (C : ih_TR t f n st) (hw : t 111 16 = 0) (K : Q (some (xL (ih_word f n st))) t) : ih_Wp X 187 0 [xR 111, xC 1, xC 1, xC 1] [] t Q := r_word C (Or.inl hw) (by rw [if_pos hw]; exact K)
theorem r_wordW {X : List Int} {t : ih_S} {Q : Option xa_V → ih_S → Prop} {f : Int → Int} {n st : Int} (C : ih_TR t f n st) (hw : t 111 16 = 1) (K : Q (some (xL 0)) t) : ih_Wp X 187 0 [xR 111, xC 1, xC 1, xC 1] [] t Q := r_word C (Or.inr hw) (by rw [if_neg (by omega)]; exact K)

theorem r_ink_w7 {X : List Int} {t : ih_S} {Q : Option xa_V → ih_S → Prop} {f : Int → Int} {n st : Int} (C : ih_TR t f n st) (hw : t 111 16 = 1) (K : Q none t)  : ih_Wp X 189 7 [xR 111, xC 1, xC 1, xC 1] [] t Q := by
  refine ih_seg (i1 := 8) 1 rfl ?_
  refine ih_getI rfl rfl ?_
  refine ih_seg (i1 := 12) 3 rfl ?_
  try simp only [xa_set, List.set_cons_zero, List.set_cons_succ, List.getElem?_cons_zero, List.getElem?_cons_succ]
  refine ih_iv0 187 rfl rfl (by first | rfl | exact ih_kP (ih_P_w0 hc) |  exact ih_kP (by assumption) | exact ih_kC (by assumption) | exact ih_kN (by assumption) | exact ih_kS (by assumption) | exact ih_kW (by assumption)) (Nat.le_of_ble_eq_true rfl) (Nat.le_of_ble_eq_true rfl) rfl ?_
  refine r_wordW C hw ?_
  refine ih_seg (i1 := 14) 1 rfl ?_
  refine ih_lcmp_any rfl (fun z hz hv => ?_)
  have hz2 := ih_lc0 (hv (by omega) (by omega))
  refine ih_ifc_ne rfl (by omega) (fun w1 => ?_) (fun w1 => ?_)
  · refine ih_seg (i1 := 19) 1 rfl ?_
    refine ih_iv1 186 rfl rfl (by first | rfl | exact ih_kP (ih_P_w0 hc) |  exact ih_kP (by assumption) | exact ih_kC (by assumption) | exact ih_kN (by assumption) | exact ih_kS (by assumption) | exact ih_kW (by assumption)) (Nat.le_of_ble_eq_true rfl) (Nat.le_of_ble_eq_true rfl) rfl ?_
    refine r_needs_w (by omega) hw ?_
    refine ih_seg (i1 := 23) 3 rfl ?_
    refine ih_iv2 188 rfl rfl (by first | rfl | exact ih_kP (ih_P_w0 hc) |  exact ih_kP (by assumption) | exact ih_kC (by assumption) | exact ih_kN (by assumption) | exact ih_kS (by assumption) | exact ih_kW (by assumption)) (Nat.le_of_ble_eq_true rfl) (Nat.le_of_ble_eq_true rfl) rfl ?_
    refine r_number_w hw ?_
    refine ih_seg (i1 := 25) 1 rfl ?_
    refine ih_getI rfl rfl ?_
    refine ih_seg (i1 := 30) 4 rfl ?_
    try simp only [xa_set, List.set_cons_zero, List.set_cons_succ, List.getElem?_cons_zero, List.getElem?_cons_succ]
    refine ih_iv0 187 rfl rfl (by first | rfl | exact ih_kP (ih_P_w0 hc) |  exact ih_kP (by assumption) | exact ih_kC (by assumption) | exact ih_kN (by assumption) | exact ih_kS (by assumption) | exact ih_kW (by assumption)) (Nat.le_of_ble_eq_true rfl) (Nat.le_of_ble_eq_true rfl) rfl ?_
    refine r_wordW C hw ?_
    refine ih_seg (i1 := 32) 1 rfl ?_
    refine ih_lcmp_any rfl (fun z hz hv => ?_)
    have hz2 := ih_lc0 (hv (by omega) (by omega))
    refine ih_ifc_ne rfl (by omega) (fun w2 => ?_) (fun w2 => ?_)
    · refine ih_seg (i1 := 45) 1 rfl ?_
      refine ih_getI rfl rfl ?_
      refine ih_ifc_ne rfl (by omega) (fun w3 => ?_) (fun w3 => ?_)
      · refine ih_retv rfl ?_
        exact K
      · exfalso
        omega
    · exfalso
      omega
  · exfalso
    omega


theorem r_ink_w20 {X : List Int} {t : ih_S} {Q : Option xa_V → ih_S → Prop} {f : Int → Int} {n st : Int} (C : ih_TR t f n st) {a : Int} (hw : t 111 16 = 1) (K : Q none t)  : ih_Wp X 189 20 [xR 111, xI a, xC 1, xC 1] [] t Q := by
  refine ih_seg (i1 := 23) 3 rfl ?_
  refine ih_iv2 188 rfl rfl (by first | rfl | exact ih_kP (ih_P_w0 hc) |  exact ih_kP (by assumption) | exact ih_kC (by assumption) | exact ih_kN (by assumption) | exact ih_kS (by assumption) | exact ih_kW (by assumption)) (Nat.le_of_ble_eq_true rfl) (Nat.le_of_ble_eq_true rfl) rfl ?_
  refine r_number_w hw ?_
  refine ih_seg (i1 := 25) 1 rfl ?_
  refine ih_getI rfl rfl ?_
  refine ih_seg (i1 := 30) 4 rfl ?_
  try simp only [xa_set, List.set_cons_zero, List.set_cons_succ, List.getElem?_cons_zero, List.getElem?_cons_succ]
  refine ih_iv0 187 rfl rfl (by first | rfl | exact ih_kP (ih_P_w0 hc) |  exact ih_kP (by assumption) | exact ih_kC (by assumption) | exact ih_kN (by assumption) | exact ih_kS (by assumption) | exact ih_kW (by assumption)) (Nat.le_of_ble_eq_true rfl) (Nat.le_of_ble_eq_true rfl) rfl ?_
  refine r_wordW C hw ?_
  refine ih_seg (i1 := 32) 1 rfl ?_
  refine ih_lcmp_any rfl (fun z hz hv => ?_)
  have hz2 := ih_lc0 (hv (by omega) (by omega))
  refine ih_ifc_ne rfl (by omega) (fun w1 => ?_) (fun w1 => ?_)
  · refine ih_seg (i1 := 45) 1 rfl ?_
    refine ih_getI rfl rfl ?_
    refine ih_ifc_ne rfl (by omega) (fun w2 => ?_) (fun w2 => ?_)
    · refine ih_retv rfl ?_
      exact K
    · exfalso
      omega
  · exfalso
    omega


theorem r_ink_w24 {X : List Int} {t : ih_S} {Q : Option xa_V → ih_S → Prop} {f : Int → Int} {n st : Int} (C : ih_TR t f n st) {a : Int} (hw : t 111 16 = 1) (K : Q none t)  : ih_Wp X 189 24 [xR 111, xI a, xC 1, xC 1] [] t Q := by
  refine ih_seg (i1 := 25) 1 rfl ?_
  refine ih_getI rfl rfl ?_
  refine ih_seg (i1 := 30) 4 rfl ?_
  try simp only [xa_set, List.set_cons_zero, List.set_cons_succ, List.getElem?_cons_zero, List.getElem?_cons_succ]
  refine ih_iv0 187 rfl rfl (by first | rfl | exact ih_kP (ih_P_w0 hc) |  exact ih_kP (by assumption) | exact ih_kC (by assumption) | exact ih_kN (by assumption) | exact ih_kS (by assumption) | exact ih_kW (by assumption)) (Nat.le_of_ble_eq_true rfl) (Nat.le_of_ble_eq_true rfl) rfl ?_
  refine r_wordW C hw ?_
  refine ih_seg (i1 := 32) 1 rfl ?_
  refine ih_lcmp_any rfl (fun z hz hv => ?_)
  have hz2 := ih_lc0 (hv (by omega) (by omega))
  refine ih_ifc_ne rfl (by omega) (fun w1 => ?_) (fun w1 => ?_)
  · refine ih_seg (i1 := 45) 1 rfl ?_
    refine ih_getI rfl rfl ?_
    refine ih_ifc_ne rfl (by omega) (fun w2 => ?_) (fun w2 => ?_)
    · refine ih_retv rfl ?_
      exact K
    · exfalso
      omega
  · exfalso
    omega


theorem r_ink_w41 {X : List Int} {t : ih_S} {Q : Option xa_V → ih_S → Prop} {f : Int → Int} {n st : Int} (C : ih_TR t f n st) {a b c : Int} (hw : t 111 16 = 1) (K : Q none t)  : ih_Wp X 189 41 [xR 111, xI a, xI b, xI c] [] t Q := by
  refine ih_seg (i1 := 42) 1 rfl ?_
  refine ih_getI rfl rfl ?_
  refine ih_seg (i1 := 45) 2 rfl ?_
  try simp only [xa_set, List.set_cons_zero, List.set_cons_succ, List.getElem?_cons_zero, List.getElem?_cons_succ]
  refine ih_getI rfl rfl ?_
  refine ih_ifc_ne rfl (by omega) (fun w1 => ?_) (fun w1 => ?_)
  · refine ih_retv rfl ?_
    exact K
  · exfalso
    omega


theorem r_inkItem {X : List Int} {t : ih_S} {Q : Option xa_V → ih_S → Prop} {f : Int → Int} {n st : Int} (C : ih_TR t f n st) (hw : t 111 16 = 0) (K : ih_rR t f n (ih_pI f n (ih_adv f n st) (t 112)) Q)  : ih_Wp X 189 0 [xR 111, xC 1, xC 1, xC 1] [] t Q := by
  have hm := ih_num_rg (f := f) (n := n) (st := (ih_adv f n st))
  have hm2 := ih_num_rg (f := f) (n := n) (st := (ih_adv f n (ih_adv f n (ih_adv f n st))))
  have hm4 := ih_num_rg (f := f) (n := n) (st := (ih_adv f n (ih_adv f n (ih_adv f n (ih_adv f n (ih_adv f n st))))))
  refine ih_seg (i1 := 2) 2 rfl ?_
  refine ih_iv1 186 rfl rfl (by first | rfl | exact ih_kP (ih_P_w0 hc) |  exact ih_kP (by assumption) | exact ih_kC (by assumption) | exact ih_kN (by assumption) | exact ih_kS (by assumption) | exact ih_kW (by assumption)) (Nat.le_of_ble_eq_true rfl) (Nat.le_of_ble_eq_true rfl) rfl ?_
  refine r_needs1 C hw (fun t1 f1 g1 z1 C1 => ?_)
  refine ih_seg (i1 := 6) 3 rfl ?_
  refine ih_iv2 188 rfl rfl (by first | rfl | exact ih_kP (ih_P_w0 hc) |  exact ih_kP (by assumption) | exact ih_kC (by assumption) | exact ih_kN (by assumption) | exact ih_kS (by assumption) | exact ih_kW (by assumption)) (Nat.le_of_ble_eq_true rfl) (Nat.le_of_ble_eq_true rfl) rfl ?_
  refine r_numberO C1 (by omega) (by omega) z1 (fun q2 t2 f2 r2 z2 v2 C2 => ?_) (fun q2 t2 f2 r2 z2 C2 => r_ink_w7 C2 z2 (by
    rw [ih_pI, if_neg q2] at K
    exact K t2 (ih_fR_t (ih_fR_n f1 g1) r2) C2 (fun h => absurd h ih_n01) (fun _ => z2)))
  refine ih_seg (i1 := 8) 1 rfl ?_
  refine ih_getI rfl rfl ?_
  rw [v2]
  refine ih_seg (i1 := 12) 3 rfl ?_
  try simp only [xa_set, List.set_cons_zero, List.set_cons_succ, List.getElem?_cons_zero, List.getElem?_cons_succ]
  refine ih_iv0 187 rfl rfl (by first | rfl | exact ih_kP (ih_P_w0 hc) |  exact ih_kP (by assumption) | exact ih_kC (by assumption) | exact ih_kN (by assumption) | exact ih_kS (by assumption) | exact ih_kW (by assumption)) (Nat.le_of_ble_eq_true rfl) (Nat.le_of_ble_eq_true rfl) rfl ?_
  have hwr := ih_word_rg (f := f) (n := n) (st := (ih_adv f n (ih_adv f n st)))
  refine r_wordO C2 z2 ?_
  refine ih_seg (i1 := 14) 1 rfl ?_
  refine ih_lcmp_any rfl (fun z hz hv => ?_)
  have hz2 := ih_lc0 (hv (by omega) (by omega))
  refine ih_ifc_ne rfl (by omega) (fun w1 => ?_) (fun w1 => ?_)
  · refine ih_seg (i1 := 19) 1 rfl ?_
    refine ih_iv1 186 rfl rfl (by first | rfl | exact ih_kP (ih_P_w0 hc) |  exact ih_kP (by assumption) | exact ih_kC (by assumption) | exact ih_kN (by assumption) | exact ih_kS (by assumption) | exact ih_kW (by assumption)) (Nat.le_of_ble_eq_true rfl) (Nat.le_of_ble_eq_true rfl) rfl ?_
    refine r_needs0 C2 z2 ?_
    have hl : ¬ ih_is f n (ih_adv f n (ih_adv f n st)) ih_x_lasts := fun q => by
      have := (ih_word_lasts (f := f) (n := n) (st := (ih_adv f n (ih_adv f n st)))).2 q
      omega
    refine r_ink_w20 (ih_TR_x C2) ih_x16 ?_
    rw [ih_pI, if_pos q2, if_neg hl] at K
    exact K _ (ih_fR_x (ih_fR_t (ih_fR_n f1 g1) r2)) (ih_TR_x C2) (fun h => absurd h ih_n01) (fun _ => ih_x16)
  · refine ih_seg (i1 := 19) 2 rfl ?_
    refine ih_iv1 186 rfl rfl (by first | rfl | exact ih_kP (ih_P_w0 hc) |  exact ih_kP (by assumption) | exact ih_kC (by assumption) | exact ih_kN (by assumption) | exact ih_kS (by assumption) | exact ih_kW (by assumption)) (Nat.le_of_ble_eq_true rfl) (Nat.le_of_ble_eq_true rfl) rfl ?_
    have hl := (ih_word_lasts (f := f) (n := n) (st := (ih_adv f n (ih_adv f n st)))).1 (by omega)
    refine r_needs1 C2 z2 (fun t3 f3 g3 z3 C3 => ?_)
    refine ih_seg (i1 := 23) 3 rfl ?_
    refine ih_iv2 188 rfl rfl (by first | rfl | exact ih_kP (ih_P_w0 hc) |  exact ih_kP (by assumption) | exact ih_kC (by assumption) | exact ih_kN (by assumption) | exact ih_kS (by assumption) | exact ih_kW (by assumption)) (Nat.le_of_ble_eq_true rfl) (Nat.le_of_ble_eq_true rfl) rfl ?_
    refine r_numberO C3 (by omega) (by omega) z3 (fun q4 t4 f4 r4 z4 v4 C4 => ?_) (fun q4 t4 f4 r4 z4 C4 => r_ink_w24 C4 z4 (by
      rw [ih_pI, if_pos q2, if_pos hl, if_neg q4] at K
      exact K t4 (ih_fR_t (ih_fR_t (ih_fR_t (ih_fR_n f1 g1) r2) (ih_fR_n f3 g3)) r4) C4 (fun h => absurd h ih_n01) (fun _ => z4)))
    refine ih_seg (i1 := 25) 1 rfl ?_
    refine ih_getI rfl rfl ?_
    rw [v4]
    refine ih_seg (i1 := 30) 4 rfl ?_
    try simp only [xa_set, List.set_cons_zero, List.set_cons_succ, List.getElem?_cons_zero, List.getElem?_cons_succ]
    refine ih_iv0 187 rfl rfl (by first | rfl | exact ih_kP (ih_P_w0 hc) |  exact ih_kP (by assumption) | exact ih_kC (by assumption) | exact ih_kN (by assumption) | exact ih_kS (by assumption) | exact ih_kW (by assumption)) (Nat.le_of_ble_eq_true rfl) (Nat.le_of_ble_eq_true rfl) rfl ?_
    have hwr := ih_word_rg (f := f) (n := n) (st := (ih_adv f n (ih_adv f n (ih_adv f n (ih_adv f n st)))))
    refine r_wordO C4 z4 ?_
    refine ih_seg (i1 := 32) 1 rfl ?_
    refine ih_lcmp_any rfl (fun z hz hv => ?_)
    have hz2 := ih_lc0 (hv (by omega) (by omega))
    refine ih_ifc_ne rfl (by omega) (fun w2 => ?_) (fun w2 => ?_)
    · refine ih_seg (i1 := 45) 1 rfl ?_
      refine ih_getI rfl rfl ?_
      refine ih_ifc_ne rfl (by omega) (fun w3 => ?_) (fun w3 => ?_)
      · refine ih_retv rfl ?_
        exfalso
        omega
      · refine ih_seg (i1 := 48) 1 rfl ?_
        refine ih_getR rfl rfl ?_
        refine ih_seg (i1 := 53) 4 rfl ?_
        try dsimp only
        refine ih_iast rfl (by first | rfl | exact ih_lP1 (ih_P_w0 hc) | exact ih_lP2 (ih_P_w0 hc) | exact ih_lP3 (ih_P_w0 hc) | exact ih_lP4 (ih_P_w0 hc) |  exact ih_lP1 (by assumption) | exact ih_lP2 (by assumption) | exact ih_lP3 (by assumption) | exact ih_lP4 (by assumption) | exact ih_lC1 (by assumption) | exact ih_lS1 (by assumption) | exact ih_lW1 (by assumption) | exact ih_lW2 (by assumption) | exact ih_lW4 (by assumption) | exact ih_lW5 (by assumption)) (by omega) (by omega) (k := ?_)
        refine ih_seg (i1 := 55) 1 rfl ?_
        refine ih_getR rfl rfl ?_
        refine ih_seg (i1 := 60) 4 rfl ?_
        try dsimp only
        refine ih_ifc_ge rfl (by omega) (fun w4 => ?_) (fun w4 => ?_)
        · refine ih_seg (i1 := 69) 1 rfl ?_
          refine ih_iast rfl (by first | rfl | exact ih_lP1 (ih_P_w0 hc) | exact ih_lP2 (ih_P_w0 hc) | exact ih_lP3 (ih_P_w0 hc) | exact ih_lP4 (ih_P_w0 hc) |  exact ih_lP1 (by assumption) | exact ih_lP2 (by assumption) | exact ih_lP3 (by assumption) | exact ih_lP4 (by assumption) | exact ih_lC1 (by assumption) | exact ih_lS1 (by assumption) | exact ih_lW1 (by assumption) | exact ih_lW2 (by assumption) | exact ih_lW4 (by assumption) | exact ih_lW5 (by assumption)) (by omega) (by omega) (k := ?_)
          refine ih_retv rfl ?_
          exfalso
          omega
        · refine ih_seg (i1 := 62) 1 rfl ?_
          refine ih_getR rfl rfl ?_
          refine ih_seg (i1 := 66) 3 rfl ?_
          try dsimp only
          refine ih_iald rfl (by first | rfl | exact ih_lP1 (ih_P_w0 hc) | exact ih_lP2 (ih_P_w0 hc) | exact ih_lP3 (ih_P_w0 hc) | exact ih_lP4 (ih_P_w0 hc) |  exact ih_lP1 (by assumption) | exact ih_lP2 (by assumption) | exact ih_lP3 (by assumption) | exact ih_lP4 (by assumption) | exact ih_lC1 (by assumption) | exact ih_lS1 (by assumption) | exact ih_lW1 (by assumption) | exact ih_lW2 (by assumption) | exact ih_lW4 (by assumption) | exact ih_lW5 (by assumption)) (by omega) (by omega) (k := ?_)
          refine ih_seg (i1 := 69) 1 rfl ?_
          refine ih_iast rfl (by first | rfl | exact ih_lP1 (ih_P_w0 hc) | exact ih_lP2 (ih_P_w0 hc) | exact ih_lP3 (ih_P_w0 hc) | exact ih_lP4 (ih_P_w0 hc) |  exact ih_lP1 (by assumption) | exact ih_lP2 (by assumption) | exact ih_lP3 (by assumption) | exact ih_lP4 (by assumption) | exact ih_lC1 (by assumption) | exact ih_lS1 (by assumption) | exact ih_lW1 (by assumption) | exact ih_lW2 (by assumption) | exact ih_lW4 (by assumption) | exact ih_lW5 (by assumption)) (by omega) (by omega) (k := ?_)
          refine ih_retv rfl ?_
          have hp : ¬ ih_is f n (ih_adv f n (ih_adv f n (ih_adv f n (ih_adv f n st)))) ih_x_price := fun q => by
            have := (ih_word_price (f := f) (n := n) (st := (ih_adv f n (ih_adv f n (ih_adv f n (ih_adv f n st)))))).2 q
            omega
          rw [ih_up_id rfl]
          rw [ih_pI, if_pos q2, if_pos hl, if_pos q4, if_neg hp] at K
          refine K _ (ih_fR_u (ih_fR_t (ih_fR_t (ih_fR_t (ih_fR_n f1 g1) r2) (ih_fR_n f3 g3)) r4)) (ih_TR_u C4) (fun _ => ⟨by rw [ih_up_ne (by decide)]; exact z4, ?_⟩) (fun h => absurd h ih_n10)
          rw [ih_up_eq, f4 112 (by decide), f3 112 (by decide), f2 112 (by decide), f1 112 (by decide)]
    · refine ih_seg (i1 := 36) 2 rfl ?_
      refine ih_iv1 186 rfl rfl (by first | rfl | exact ih_kP (ih_P_w0 hc) |  exact ih_kP (by assumption) | exact ih_kC (by assumption) | exact ih_kN (by assumption) | exact ih_kS (by assumption) | exact ih_kW (by assumption)) (Nat.le_of_ble_eq_true rfl) (Nat.le_of_ble_eq_true rfl) rfl ?_
      have hp := (ih_word_price (f := f) (n := n) (st := (ih_adv f n (ih_adv f n (ih_adv f n (ih_adv f n st)))))).1 (by omega)
      refine r_needs1 C4 z4 (fun t5 f5 g5 z5 C5 => ?_)
      refine ih_seg (i1 := 40) 3 rfl ?_
      refine ih_iv2 188 rfl rfl (by first | rfl | exact ih_kP (ih_P_w0 hc) |  exact ih_kP (by assumption) | exact ih_kC (by assumption) | exact ih_kN (by assumption) | exact ih_kS (by assumption) | exact ih_kW (by assumption)) (Nat.le_of_ble_eq_true rfl) (Nat.le_of_ble_eq_true rfl) rfl ?_
      refine r_numberO C5 (by omega) (by omega) z5 (fun q6 t6 f6 r6 z6 v6 C6 => ?_) (fun q6 t6 f6 r6 z6 C6 => r_ink_w41 C6 z6 (by
        rw [ih_pI, if_pos q2, if_pos hl, if_pos q4, if_pos hp, if_neg q6] at K
        exact K t6 (ih_fR_t (ih_fR_t (ih_fR_t (ih_fR_t (ih_fR_t (ih_fR_n f1 g1) r2) (ih_fR_n f3 g3)) r4) (ih_fR_n f5 g5)) r6) C6 (fun h => absurd h ih_n01) (fun _ => z6)))
      refine ih_seg (i1 := 42) 1 rfl ?_
      refine ih_getI rfl rfl ?_
      rw [v6]
      refine ih_seg (i1 := 45) 2 rfl ?_
      try simp only [xa_set, List.set_cons_zero, List.set_cons_succ, List.getElem?_cons_zero, List.getElem?_cons_succ]
      refine ih_getI rfl rfl ?_
      refine ih_ifc_ne rfl (by omega) (fun w5 => ?_) (fun w5 => ?_)
      · refine ih_retv rfl ?_
        exfalso
        omega
      · refine ih_seg (i1 := 48) 1 rfl ?_
        refine ih_getR rfl rfl ?_
        refine ih_seg (i1 := 53) 4 rfl ?_
        try dsimp only
        refine ih_iast rfl (by first | rfl | exact ih_lP1 (ih_P_w0 hc) | exact ih_lP2 (ih_P_w0 hc) | exact ih_lP3 (ih_P_w0 hc) | exact ih_lP4 (ih_P_w0 hc) |  exact ih_lP1 (by assumption) | exact ih_lP2 (by assumption) | exact ih_lP3 (by assumption) | exact ih_lP4 (by assumption) | exact ih_lC1 (by assumption) | exact ih_lS1 (by assumption) | exact ih_lW1 (by assumption) | exact ih_lW2 (by assumption) | exact ih_lW4 (by assumption) | exact ih_lW5 (by assumption)) (by omega) (by omega) (k := ?_)
        refine ih_seg (i1 := 55) 1 rfl ?_
        refine ih_getR rfl rfl ?_
        refine ih_seg (i1 := 60) 4 rfl ?_
        try dsimp only
        refine ih_ifc_ge rfl (by omega) (fun w6 => ?_) (fun w6 => ?_)
        · refine ih_seg (i1 := 69) 1 rfl ?_
          refine ih_iast rfl (by first | rfl | exact ih_lP1 (ih_P_w0 hc) | exact ih_lP2 (ih_P_w0 hc) | exact ih_lP3 (ih_P_w0 hc) | exact ih_lP4 (ih_P_w0 hc) |  exact ih_lP1 (by assumption) | exact ih_lP2 (by assumption) | exact ih_lP3 (by assumption) | exact ih_lP4 (by assumption) | exact ih_lC1 (by assumption) | exact ih_lS1 (by assumption) | exact ih_lW1 (by assumption) | exact ih_lW2 (by assumption) | exact ih_lW4 (by assumption) | exact ih_lW5 (by assumption)) (by omega) (by omega) (k := ?_)
          refine ih_retv rfl ?_
          rw [ih_pI, if_pos q2, if_pos hl, if_pos q4, if_pos hp, if_pos q6] at K
          refine K _ (ih_fR_u (ih_fR_u (ih_fR_t (ih_fR_t (ih_fR_t (ih_fR_t (ih_fR_t (ih_fR_n f1 g1) r2) (ih_fR_n f3 g3)) r4) (ih_fR_n f5 g5)) r6))) (ih_TR_u (ih_TR_u C6)) (fun _ => ⟨by rw [ih_up_ne (by decide), ih_up_ne (by decide)]; exact z6, ?_⟩) (fun h => absurd h ih_n10)
          rw [ih_up_eq, ih_up_eq, f6 112 (by decide), f5 112 (by decide), f4 112 (by decide), f3 112 (by decide), f2 112 (by decide), f1 112 (by decide)]
        · refine ih_seg (i1 := 62) 1 rfl ?_
          refine ih_getR rfl rfl ?_
          refine ih_seg (i1 := 66) 3 rfl ?_
          try dsimp only
          refine ih_iald rfl (by first | rfl | exact ih_lP1 (ih_P_w0 hc) | exact ih_lP2 (ih_P_w0 hc) | exact ih_lP3 (ih_P_w0 hc) | exact ih_lP4 (ih_P_w0 hc) |  exact ih_lP1 (by assumption) | exact ih_lP2 (by assumption) | exact ih_lP3 (by assumption) | exact ih_lP4 (by assumption) | exact ih_lC1 (by assumption) | exact ih_lS1 (by assumption) | exact ih_lW1 (by assumption) | exact ih_lW2 (by assumption) | exact ih_lW4 (by assumption) | exact ih_lW5 (by assumption)) (by omega) (by omega) (k := ?_)
          refine ih_seg (i1 := 69) 1 rfl ?_
          refine ih_iast rfl (by first | rfl | exact ih_lP1 (ih_P_w0 hc) | exact ih_lP2 (ih_P_w0 hc) | exact ih_lP3 (ih_P_w0 hc) | exact ih_lP4 (ih_P_w0 hc) |  exact ih_lP1 (by assumption) | exact ih_lP2 (by assumption) | exact ih_lP3 (by assumption) | exact ih_lP4 (by assumption) | exact ih_lC1 (by assumption) | exact ih_lS1 (by assumption) | exact ih_lW1 (by assumption) | exact ih_lW2 (by assumption) | exact ih_lW4 (by assumption) | exact ih_lW5 (by assumption)) (by omega) (by omega) (k := ?_)
          refine ih_retv rfl ?_
          exfalso
          omega

