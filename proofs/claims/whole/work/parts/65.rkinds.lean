/-! texts: the reference's items of papers, kinds, marks -/
theorem r_pap_w7 {X : List Int} {t : ih_S} {Q : Option xa_V → ih_S → Prop} {f : Int → Int} {n st : Int} (C : ih_TR t f n st) (hw : t 111 16 = 1) (K : Q none t)  : ih_Wp X 190 7 [xR 111, xC 1, xC 1] [] t Q := by
  refine ih_seg (i1 := 8) 1 rfl ?_
  refine ih_getI rfl rfl ?_
  refine ih_seg (i1 := 11) 2 rfl ?_
  try simp only [xa_set, List.set_cons_zero, List.set_cons_succ, List.getElem?_cons_zero, List.getElem?_cons_succ]
  refine ih_iv0 187 rfl rfl (by first | rfl | exact ih_kP (ih_P_w0 hc) |  exact ih_kP (by assumption) | exact ih_kC (by assumption) | exact ih_kN (by assumption) | exact ih_kS (by assumption) | exact ih_kW (by assumption)) (Nat.le_of_ble_eq_true rfl) (Nat.le_of_ble_eq_true rfl) rfl ?_
  refine r_wordW C hw ?_
  refine ih_seg (i1 := 13) 1 rfl ?_
  refine ih_lcmp_any rfl (fun z hz hv => ?_)
  have hz2 := ih_lc0 (hv (by omega) (by omega))
  refine ih_ifc_ne rfl (by omega) (fun w1 => ?_) (fun w1 => ?_)
  · refine ih_seg (i1 := 21) 4 rfl ?_
    try simp only [xa_set, List.set_cons_zero, List.set_cons_succ, List.getElem?_cons_zero, List.getElem?_cons_succ]
    refine ih_ifc_ne rfl (by omega) (fun w2 => ?_) (fun w2 => ?_)
    · exfalso
      omega
    · refine ih_seg (i1 := 23) 1 rfl ?_
      refine ih_iv0 187 rfl rfl (by first | rfl | exact ih_kP (ih_P_w0 hc) |  exact ih_kP (by assumption) | exact ih_kC (by assumption) | exact ih_kN (by assumption) | exact ih_kS (by assumption) | exact ih_kW (by assumption)) (Nat.le_of_ble_eq_true rfl) (Nat.le_of_ble_eq_true rfl) rfl ?_
      refine r_wordW C hw ?_
      refine ih_seg (i1 := 25) 1 rfl ?_
      refine ih_lcmp_any rfl (fun z hz hv => ?_)
      have hz2 := ih_lc0 (hv (by omega) (by omega))
      refine ih_ifc_ne rfl (by omega) (fun w3 => ?_) (fun w3 => ?_)
      · refine ih_seg (i1 := 30) 1 rfl ?_
        refine ih_iv1 186 rfl rfl (by first | rfl | exact ih_kP (ih_P_w0 hc) |  exact ih_kP (by assumption) | exact ih_kC (by assumption) | exact ih_kN (by assumption) | exact ih_kS (by assumption) | exact ih_kW (by assumption)) (Nat.le_of_ble_eq_true rfl) (Nat.le_of_ble_eq_true rfl) rfl ?_
        refine r_needs_w (by omega) hw ?_
        refine ih_seg (i1 := 32) 1 rfl ?_
        refine ih_getI rfl rfl ?_
        refine ih_ifc_ne rfl (by omega) (fun w4 => ?_) (fun w4 => ?_)
        · refine ih_retv rfl ?_
          exact K
        · exfalso
          omega
      · exfalso
        omega
  · refine ih_seg (i1 := 16) 1 rfl ?_
    exfalso
    omega


theorem r_pap_w31 {X : List Int} {t : ih_S} {Q : Option xa_V → ih_S → Prop} {f : Int → Int} {n st : Int} (C : ih_TR t f n st) {a b : Int} (hw : t 111 16 = 1) (K : Q none t)  : ih_Wp X 190 31 [xR 111, xI a, xI b] [] t Q := by
  refine ih_seg (i1 := 32) 1 rfl ?_
  refine ih_getI rfl rfl ?_
  refine ih_ifc_ne rfl (by omega) (fun w1 => ?_) (fun w1 => ?_)
  · refine ih_retv rfl ?_
    exact K
  · exfalso
    omega


theorem r_paperItem {X : List Int} {t : ih_S} {Q : Option xa_V → ih_S → Prop} {f : Int → Int} {n st : Int} (C : ih_TR t f n st) (hw : t 111 16 = 0) (K : ih_rR t f n (ih_pP f n (ih_adv f n st) (t 112)) Q)  : ih_Wp X 190 0 [xR 111, xC 1, xC 1] [] t Q := by
  have hwr := ih_word_rg (f := f) (n := n) (st := (ih_adv f n (ih_adv f n st)))
  refine ih_seg (i1 := 2) 2 rfl ?_
  refine ih_iv1 186 rfl rfl (by first | rfl | exact ih_kP (ih_P_w0 hc) |  exact ih_kP (by assumption) | exact ih_kC (by assumption) | exact ih_kN (by assumption) | exact ih_kS (by assumption) | exact ih_kW (by assumption)) (Nat.le_of_ble_eq_true rfl) (Nat.le_of_ble_eq_true rfl) rfl ?_
  refine r_needs1 C hw (fun t1 f1 g1 z1 C1 => ?_)
  refine ih_seg (i1 := 6) 3 rfl ?_
  refine ih_iv2 188 rfl rfl (by first | rfl | exact ih_kP (ih_P_w0 hc) |  exact ih_kP (by assumption) | exact ih_kC (by assumption) | exact ih_kN (by assumption) | exact ih_kS (by assumption) | exact ih_kW (by assumption)) (Nat.le_of_ble_eq_true rfl) (Nat.le_of_ble_eq_true rfl) rfl ?_
  refine r_numberO C1 (by omega) (by omega) z1 (fun q2 t2 f2 r2 z2 v2 C2 => ?_) (fun q2 t2 f2 r2 z2 C2 => r_pap_w7 C2 z2 (by
    rw [ih_pP, if_neg q2] at K
    exact K t2 (ih_fR_t (ih_fR_n f1 g1) r2) C2 (fun h => absurd h ih_n01) (fun _ => z2)))
  refine ih_seg (i1 := 8) 1 rfl ?_
  refine ih_getI rfl rfl ?_
  rw [v2]
  refine ih_seg (i1 := 11) 2 rfl ?_
  try simp only [xa_set, List.set_cons_zero, List.set_cons_succ, List.getElem?_cons_zero, List.getElem?_cons_succ]
  refine ih_iv0 187 rfl rfl (by first | rfl | exact ih_kP (ih_P_w0 hc) |  exact ih_kP (by assumption) | exact ih_kC (by assumption) | exact ih_kN (by assumption) | exact ih_kS (by assumption) | exact ih_kW (by assumption)) (Nat.le_of_ble_eq_true rfl) (Nat.le_of_ble_eq_true rfl) rfl ?_
  refine r_wordO C2 z2 ?_
  refine ih_seg (i1 := 13) 1 rfl ?_
  refine ih_lcmp_any rfl (fun z hz hv => ?_)
  have hz2 := ih_lc0 (hv (by omega) (by omega))
  refine ih_ifc_ne rfl (by omega) (fun w1 => ?_) (fun w1 => ?_)
  · refine ih_seg (i1 := 19) 2 rfl ?_
    try simp only [xa_set, List.set_cons_zero, List.set_cons_succ, List.getElem?_cons_zero, List.getElem?_cons_succ]
    have e_light : ¬ ih_is f n (ih_adv f n (ih_adv f n st)) ih_x_light := fun q => by
      have := (ih_word_light (f := f) (n := n) (st := (ih_adv f n (ih_adv f n st)))).2 q
      omega
    refine ih_seg (i1 := 21) 2 rfl ?_
    refine ih_ifc_ne rfl (by omega) (fun w1 => ?_) (fun w1 => ?_)
    · exfalso
      omega
    · refine ih_seg (i1 := 23) 1 rfl ?_
      refine ih_iv0 187 rfl rfl (by first | rfl | exact ih_kP (ih_P_w0 hc) |  exact ih_kP (by assumption) | exact ih_kC (by assumption) | exact ih_kN (by assumption) | exact ih_kS (by assumption) | exact ih_kW (by assumption)) (Nat.le_of_ble_eq_true rfl) (Nat.le_of_ble_eq_true rfl) rfl ?_
      refine r_wordO C2 z2 ?_
      refine ih_seg (i1 := 25) 1 rfl ?_
      refine ih_lcmp_any rfl (fun z hz hv => ?_)
      have hz2 := ih_lc0 (hv (by omega) (by omega))
      refine ih_ifc_ne rfl (by omega) (fun w2 => ?_) (fun w2 => ?_)
      · have e_dark : ¬ ih_is f n (ih_adv f n (ih_adv f n st)) ih_x_dark := fun q => by
          have := (ih_word_dark (f := f) (n := n) (st := (ih_adv f n (ih_adv f n st)))).2 q
          omega
        refine ih_seg (i1 := 30) 1 rfl ?_
        refine ih_iv1 186 rfl rfl (by first | rfl | exact ih_kP (ih_P_w0 hc) |  exact ih_kP (by assumption) | exact ih_kC (by assumption) | exact ih_kN (by assumption) | exact ih_kS (by assumption) | exact ih_kW (by assumption)) (Nat.le_of_ble_eq_true rfl) (Nat.le_of_ble_eq_true rfl) rfl ?_
        refine r_needs0 C2 z2 ?_
        refine r_pap_w31 (ih_TR_x C2) ih_x16 ?_
        rw [ih_pP, if_pos q2, if_neg e_light, if_neg e_dark] at K
        exact K _ (ih_fR_x (ih_fR_t (ih_fR_n f1 g1) r2)) (ih_TR_x C2) (fun h => absurd h ih_n01) (fun _ => ih_x16)
      · have p_dark := (ih_word_dark (f := f) (n := n) (st := (ih_adv f n (ih_adv f n st)))).1 (by omega)
        refine ih_seg (i1 := 30) 2 rfl ?_
        refine ih_iv1 186 rfl rfl (by first | rfl | exact ih_kP (ih_P_w0 hc) |  exact ih_kP (by assumption) | exact ih_kC (by assumption) | exact ih_kN (by assumption) | exact ih_kS (by assumption) | exact ih_kW (by assumption)) (Nat.le_of_ble_eq_true rfl) (Nat.le_of_ble_eq_true rfl) rfl ?_
        refine r_needs1 C2 z2 (fun t3 f3 g3 z3 C3 => ?_)
        refine ih_seg (i1 := 32) 1 rfl ?_
        refine ih_getI rfl rfl ?_
        refine ih_ifc_ne rfl (by omega) (fun w1 => ?_) (fun w1 => ?_)
        · refine ih_retv rfl ?_
          exfalso
          omega
        · refine ih_seg (i1 := 35) 1 rfl ?_
          refine ih_getR rfl rfl ?_
          refine ih_seg (i1 := 40) 4 rfl ?_
          try dsimp only
          refine ih_ifc_eq rfl (by omega) (fun w2 => ?_) (fun w2 => ?_)
          · refine ih_seg (i1 := 44) 1 rfl ?_
            refine ih_iast rfl (by first | rfl | exact ih_lP1 (ih_P_w0 hc) | exact ih_lP2 (ih_P_w0 hc) | exact ih_lP3 (ih_P_w0 hc) | exact ih_lP4 (ih_P_w0 hc) |  exact ih_lP1 (by assumption) | exact ih_lP2 (by assumption) | exact ih_lP3 (by assumption) | exact ih_lP4 (by assumption) | exact ih_lC1 (by assumption) | exact ih_lS1 (by assumption) | exact ih_lW1 (by assumption) | exact ih_lW2 (by assumption) | exact ih_lW4 (by assumption) | exact ih_lW5 (by assumption)) (by omega) (by omega) (k := ?_)
            refine ih_retv rfl ?_
            rw [ih_pP, if_pos q2, if_neg e_light, if_pos p_dark] at K
            refine K _ (ih_fR_u (ih_fR_t (ih_fR_t (ih_fR_n f1 g1) r2) (ih_fR_n f3 g3))) (ih_TR_u C3) (fun _ => ⟨by rw [ih_up_ne (by decide)]; exact z3, ?_⟩) (fun h => absurd h ih_n10)
            rw [ih_up_eq, f3 112 (by decide), f2 112 (by decide), f1 112 (by decide)]
          · refine ih_seg (i1 := 44) 2 rfl ?_
            refine ih_iast rfl (by first | rfl | exact ih_lP1 (ih_P_w0 hc) | exact ih_lP2 (ih_P_w0 hc) | exact ih_lP3 (ih_P_w0 hc) | exact ih_lP4 (ih_P_w0 hc) |  exact ih_lP1 (by assumption) | exact ih_lP2 (by assumption) | exact ih_lP3 (by assumption) | exact ih_lP4 (by assumption) | exact ih_lC1 (by assumption) | exact ih_lS1 (by assumption) | exact ih_lW1 (by assumption) | exact ih_lW2 (by assumption) | exact ih_lW4 (by assumption) | exact ih_lW5 (by assumption)) (by omega) (by omega) (k := ?_)
            refine ih_retv rfl ?_
            exfalso
            omega
  · refine ih_seg (i1 := 19) 3 rfl ?_
    try simp only [xa_set, List.set_cons_zero, List.set_cons_succ, List.getElem?_cons_zero, List.getElem?_cons_succ]
    have p_light := (ih_word_light (f := f) (n := n) (st := (ih_adv f n (ih_adv f n st)))).1 (by omega)
    refine ih_seg (i1 := 21) 2 rfl ?_
    refine ih_ifc_ne rfl (by omega) (fun w1 => ?_) (fun w1 => ?_)
    · refine ih_seg (i1 := 30) 2 rfl ?_
      refine ih_iv1 186 rfl rfl (by first | rfl | exact ih_kP (ih_P_w0 hc) |  exact ih_kP (by assumption) | exact ih_kC (by assumption) | exact ih_kN (by assumption) | exact ih_kS (by assumption) | exact ih_kW (by assumption)) (Nat.le_of_ble_eq_true rfl) (Nat.le_of_ble_eq_true rfl) rfl ?_
      refine r_needs1 C2 z2 (fun t3 f3 g3 z3 C3 => ?_)
      refine ih_seg (i1 := 32) 1 rfl ?_
      refine ih_getI rfl rfl ?_
      refine ih_ifc_ne rfl (by omega) (fun w2 => ?_) (fun w2 => ?_)
      · refine ih_retv rfl ?_
        exfalso
        omega
      · refine ih_seg (i1 := 35) 1 rfl ?_
        refine ih_getR rfl rfl ?_
        refine ih_seg (i1 := 40) 4 rfl ?_
        try dsimp only
        refine ih_ifc_eq rfl (by omega) (fun w3 => ?_) (fun w3 => ?_)
        · refine ih_seg (i1 := 44) 1 rfl ?_
          refine ih_iast rfl (by first | rfl | exact ih_lP1 (ih_P_w0 hc) | exact ih_lP2 (ih_P_w0 hc) | exact ih_lP3 (ih_P_w0 hc) | exact ih_lP4 (ih_P_w0 hc) |  exact ih_lP1 (by assumption) | exact ih_lP2 (by assumption) | exact ih_lP3 (by assumption) | exact ih_lP4 (by assumption) | exact ih_lC1 (by assumption) | exact ih_lS1 (by assumption) | exact ih_lW1 (by assumption) | exact ih_lW2 (by assumption) | exact ih_lW4 (by assumption) | exact ih_lW5 (by assumption)) (by omega) (by omega) (k := ?_)
          refine ih_retv rfl ?_
          exfalso
          omega
        · refine ih_seg (i1 := 44) 2 rfl ?_
          refine ih_iast rfl (by first | rfl | exact ih_lP1 (ih_P_w0 hc) | exact ih_lP2 (ih_P_w0 hc) | exact ih_lP3 (ih_P_w0 hc) | exact ih_lP4 (ih_P_w0 hc) |  exact ih_lP1 (by assumption) | exact ih_lP2 (by assumption) | exact ih_lP3 (by assumption) | exact ih_lP4 (by assumption) | exact ih_lC1 (by assumption) | exact ih_lS1 (by assumption) | exact ih_lW1 (by assumption) | exact ih_lW2 (by assumption) | exact ih_lW4 (by assumption) | exact ih_lW5 (by assumption)) (by omega) (by omega) (k := ?_)
          refine ih_retv rfl ?_
          rw [ih_pP, if_pos q2, if_pos p_light] at K
          refine K _ (ih_fR_u (ih_fR_t (ih_fR_t (ih_fR_n f1 g1) r2) (ih_fR_n f3 g3))) (ih_TR_u C3) (fun _ => ⟨by rw [ih_up_ne (by decide)]; exact z3, ?_⟩) (fun h => absurd h ih_n10)
          rw [ih_up_eq, f3 112 (by decide), f2 112 (by decide), f1 112 (by decide)]
    · exfalso
      omega


theorem r_kindW {X : List Int} {t : ih_S} {Q : Option xa_V → ih_S → Prop} {f : Int → Int} {n st : Int} (C : ih_TR t f n st) (hw : t 111 16 = 1) (K : Q (some (xI (-1))) t)  : ih_Wp X 191 0 [xR 111, xC 1, xC 1] [] t Q := by
  refine ih_seg (i1 := 1) 1 rfl ?_
  refine ih_iv0 187 rfl rfl (by first | rfl | exact ih_kP (ih_P_w0 hc) |  exact ih_kP (by assumption) | exact ih_kC (by assumption) | exact ih_kN (by assumption) | exact ih_kS (by assumption) | exact ih_kW (by assumption)) (Nat.le_of_ble_eq_true rfl) (Nat.le_of_ble_eq_true rfl) rfl ?_
  refine r_wordW C hw ?_
  refine ih_seg (i1 := 5) 3 rfl ?_
  try simp only [xa_set, List.set_cons_zero, List.set_cons_succ, List.getElem?_cons_zero, List.getElem?_cons_succ]
  refine ih_lcmp_any rfl (fun z hz hv => ?_)
  have hz2 := ih_lc0 (hv (by omega) (by omega))
  refine ih_ifc_le rfl (by omega) (fun w1 => ?_) (fun w1 => ?_)
  · refine ih_seg (i1 := 15) 2 rfl ?_
    refine ih_lcmp_any rfl (fun z hz hv => ?_)
    have hz2 := ih_lc0 (hv (by omega) (by omega))
    refine ih_ifc_ne rfl (by omega) (fun w2 => ?_) (fun w2 => ?_)
    · refine ih_seg (i1 := 21) 2 rfl ?_
      refine ih_lcmp_any rfl (fun z hz hv => ?_)
      have hz2 := ih_lc0 (hv (by omega) (by omega))
      refine ih_ifc_ne rfl (by omega) (fun w3 => ?_) (fun w3 => ?_)
      · refine ih_seg (i1 := 27) 2 rfl ?_
        refine ih_lcmp_any rfl (fun z hz hv => ?_)
        have hz2 := ih_lc0 (hv (by omega) (by omega))
        refine ih_ifc_ne rfl (by omega) (fun w4 => ?_) (fun w4 => ?_)
        · refine ih_seg (i1 := 33) 2 rfl ?_
          refine ih_lcmp_any rfl (fun z hz hv => ?_)
          have hz2 := ih_lc0 (hv (by omega) (by omega))
          refine ih_ifc_ne rfl (by omega) (fun w5 => ?_) (fun w5 => ?_)
          · refine ih_seg (i1 := 39) 2 rfl ?_
            refine ih_lcmp_any rfl (fun z hz hv => ?_)
            have hz2 := ih_lc0 (hv (by omega) (by omega))
            refine ih_ifc_ne rfl (by omega) (fun w6 => ?_) (fun w6 => ?_)
            · refine ih_seg (i1 := 45) 2 rfl ?_
              refine ih_lcmp_any rfl (fun z hz hv => ?_)
              have hz2 := ih_lc0 (hv (by omega) (by omega))
              refine ih_ifc_ne rfl (by omega) (fun w7 => ?_) (fun w7 => ?_)
              · refine ih_seg (i1 := 50) 1 rfl ?_
                refine ih_ret rfl rfl ?_
                exact K
              · exfalso
                omega
            · exfalso
              omega
          · exfalso
            omega
        · exfalso
          omega
      · exfalso
        omega
    · exfalso
      omega
  · exfalso
    omega


theorem r_kind13 {X : List Int} {t : ih_S} {Q : Option xa_V → ih_S → Prop} {f : Int → Int} {n st : Int} (C : ih_TR t f n st) (hw5 : ¬ (0 < ih_word f n st ∧ ih_word f n st < 5)) (K : Q (some (xI (ih_knd f n st))) t)  : ih_Wp X 191 13 [xR 111, xL (ih_word f n st), xC 1] [] t Q := by
  have hwr := ih_word_rg (f := f) (n := n) (st := st)
  refine ih_seg (i1 := 15) 2 rfl ?_
  refine ih_lcmp_any rfl (fun z hz hv => ?_)
  have hz2 := ih_lc0 (hv (by omega) (by omega))
  refine ih_ifc_ne rfl (by omega) (fun w1 => ?_) (fun w1 => ?_)
  · refine ih_seg (i1 := 21) 2 rfl ?_
    refine ih_lcmp_any rfl (fun z hz hv => ?_)
    have hz2 := ih_lc0 (hv (by omega) (by omega))
    refine ih_ifc_ne rfl (by omega) (fun w2 => ?_) (fun w2 => ?_)
    · refine ih_seg (i1 := 27) 2 rfl ?_
      refine ih_lcmp_any rfl (fun z hz hv => ?_)
      have hz2 := ih_lc0 (hv (by omega) (by omega))
      refine ih_ifc_ne rfl (by omega) (fun w3 => ?_) (fun w3 => ?_)
      · refine ih_seg (i1 := 33) 2 rfl ?_
        refine ih_lcmp_any rfl (fun z hz hv => ?_)
        have hz2 := ih_lc0 (hv (by omega) (by omega))
        refine ih_ifc_ne rfl (by omega) (fun w4 => ?_) (fun w4 => ?_)
        · refine ih_seg (i1 := 39) 2 rfl ?_
          refine ih_lcmp_any rfl (fun z hz hv => ?_)
          have hz2 := ih_lc0 (hv (by omega) (by omega))
          refine ih_ifc_ne rfl (by omega) (fun w5 => ?_) (fun w5 => ?_)
          · refine ih_seg (i1 := 45) 2 rfl ?_
            refine ih_lcmp_any rfl (fun z hz hv => ?_)
            have hz2 := ih_lc0 (hv (by omega) (by omega))
            refine ih_ifc_ne rfl (by omega) (fun w6 => ?_) (fun w6 => ?_)
            · refine ih_seg (i1 := 50) 1 rfl ?_
              refine ih_ret rfl rfl ?_
              have hl : ¬ 0 ≤ ih_ltr f n st := by
                have := ih_word_l (f := f) (n := n) (st := st)
                omega
              have e_not : ¬ ih_is f n st ih_x_not := fun q => by
                have := (ih_word_not (f := f) (n := n) (st := st)).2 q
                omega
              have e_and : ¬ ih_is f n st ih_x_and := fun q => by
                have := (ih_word_and (f := f) (n := n) (st := st)).2 q
                omega
              have e_or : ¬ ih_is f n st ih_x_or := fun q => by
                have := (ih_word_or (f := f) (n := n) (st := st)).2 q
                omega
              have e_bold : ¬ ih_is f n st ih_x_bold := fun q => by
                have := (ih_word_bold (f := f) (n := n) (st := st)).2 q
                omega
              have e_faint : ¬ ih_is f n st ih_x_faint := fun q => by
                have := (ih_word_faint (f := f) (n := n) (st := st)).2 q
                omega
              have e_blot : ¬ ih_is f n st ih_x_blot := fun q => by
                have := (ih_word_blot (f := f) (n := n) (st := st)).2 q
                omega
              rw [ih_knd, if_neg hl, if_neg e_not, if_neg e_and, if_neg e_or, if_neg e_bold, if_neg e_faint, if_neg e_blot] at K
              exact K
            · refine ih_seg (i1 := 50) 2 rfl ?_
              refine ih_ret rfl rfl ?_
              have hl : ¬ 0 ≤ ih_ltr f n st := by
                have := ih_word_l (f := f) (n := n) (st := st)
                omega
              have e_not : ¬ ih_is f n st ih_x_not := fun q => by
                have := (ih_word_not (f := f) (n := n) (st := st)).2 q
                omega
              have e_and : ¬ ih_is f n st ih_x_and := fun q => by
                have := (ih_word_and (f := f) (n := n) (st := st)).2 q
                omega
              have e_or : ¬ ih_is f n st ih_x_or := fun q => by
                have := (ih_word_or (f := f) (n := n) (st := st)).2 q
                omega
              have e_bold : ¬ ih_is f n st ih_x_bold := fun q => by
                have := (ih_word_bold (f := f) (n := n) (st := st)).2 q
                omega
              have e_faint : ¬ ih_is f n st ih_x_faint := fun q => by
                have := (ih_word_faint (f := f) (n := n) (st := st)).2 q
                omega
              have p_blot := (ih_word_blot (f := f) (n := n) (st := st)).1 (by omega)
              rw [ih_knd, if_neg hl, if_neg e_not, if_neg e_and, if_neg e_or, if_neg e_bold, if_neg e_faint, if_pos p_blot] at K
              exact K
          · refine ih_seg (i1 := 50) 2 rfl ?_
            refine ih_ret rfl rfl ?_
            have hl : ¬ 0 ≤ ih_ltr f n st := by
              have := ih_word_l (f := f) (n := n) (st := st)
              omega
            have e_not : ¬ ih_is f n st ih_x_not := fun q => by
              have := (ih_word_not (f := f) (n := n) (st := st)).2 q
              omega
            have e_and : ¬ ih_is f n st ih_x_and := fun q => by
              have := (ih_word_and (f := f) (n := n) (st := st)).2 q
              omega
            have e_or : ¬ ih_is f n st ih_x_or := fun q => by
              have := (ih_word_or (f := f) (n := n) (st := st)).2 q
              omega
            have e_bold : ¬ ih_is f n st ih_x_bold := fun q => by
              have := (ih_word_bold (f := f) (n := n) (st := st)).2 q
              omega
            have p_faint := (ih_word_faint (f := f) (n := n) (st := st)).1 (by omega)
            rw [ih_knd, if_neg hl, if_neg e_not, if_neg e_and, if_neg e_or, if_neg e_bold, if_pos p_faint] at K
            exact K
        · refine ih_seg (i1 := 50) 2 rfl ?_
          refine ih_ret rfl rfl ?_
          have hl : ¬ 0 ≤ ih_ltr f n st := by
            have := ih_word_l (f := f) (n := n) (st := st)
            omega
          have e_not : ¬ ih_is f n st ih_x_not := fun q => by
            have := (ih_word_not (f := f) (n := n) (st := st)).2 q
            omega
          have e_and : ¬ ih_is f n st ih_x_and := fun q => by
            have := (ih_word_and (f := f) (n := n) (st := st)).2 q
            omega
          have e_or : ¬ ih_is f n st ih_x_or := fun q => by
            have := (ih_word_or (f := f) (n := n) (st := st)).2 q
            omega
          have p_bold := (ih_word_bold (f := f) (n := n) (st := st)).1 (by omega)
          rw [ih_knd, if_neg hl, if_neg e_not, if_neg e_and, if_neg e_or, if_pos p_bold] at K
          exact K
      · refine ih_seg (i1 := 50) 2 rfl ?_
        refine ih_ret rfl rfl ?_
        have hl : ¬ 0 ≤ ih_ltr f n st := by
          have := ih_word_l (f := f) (n := n) (st := st)
          omega
        have e_not : ¬ ih_is f n st ih_x_not := fun q => by
          have := (ih_word_not (f := f) (n := n) (st := st)).2 q
          omega
        have e_and : ¬ ih_is f n st ih_x_and := fun q => by
          have := (ih_word_and (f := f) (n := n) (st := st)).2 q
          omega
        have p_or := (ih_word_or (f := f) (n := n) (st := st)).1 (by omega)
        rw [ih_knd, if_neg hl, if_neg e_not, if_neg e_and, if_pos p_or] at K
        exact K
    · refine ih_seg (i1 := 50) 2 rfl ?_
      refine ih_ret rfl rfl ?_
      have hl : ¬ 0 ≤ ih_ltr f n st := by
        have := ih_word_l (f := f) (n := n) (st := st)
        omega
      have e_not : ¬ ih_is f n st ih_x_not := fun q => by
        have := (ih_word_not (f := f) (n := n) (st := st)).2 q
        omega
      have p_and := (ih_word_and (f := f) (n := n) (st := st)).1 (by omega)
      rw [ih_knd, if_neg hl, if_neg e_not, if_pos p_and] at K
      exact K
  · refine ih_seg (i1 := 50) 2 rfl ?_
    refine ih_ret rfl rfl ?_
    have hl : ¬ 0 ≤ ih_ltr f n st := by
      have := ih_word_l (f := f) (n := n) (st := st)
      omega
    have p_not := (ih_word_not (f := f) (n := n) (st := st)).1 (by omega)
    rw [ih_knd, if_neg hl, if_pos p_not] at K
    exact K


theorem r_kindO {X : List Int} {t : ih_S} {Q : Option xa_V → ih_S → Prop} {f : Int → Int} {n st : Int} (C : ih_TR t f n st) (hw : t 111 16 = 0) (K : Q (some (xI (ih_knd f n st))) t)  : ih_Wp X 191 0 [xR 111, xC 1, xC 1] [] t Q := by
  have hwr := ih_word_rg (f := f) (n := n) (st := st)
  refine ih_seg (i1 := 1) 1 rfl ?_
  refine ih_iv0 187 rfl rfl (by first | rfl | exact ih_kP (ih_P_w0 hc) |  exact ih_kP (by assumption) | exact ih_kC (by assumption) | exact ih_kN (by assumption) | exact ih_kS (by assumption) | exact ih_kW (by assumption)) (Nat.le_of_ble_eq_true rfl) (Nat.le_of_ble_eq_true rfl) rfl ?_
  refine r_wordO C hw ?_
  refine ih_seg (i1 := 5) 3 rfl ?_
  try simp only [xa_set, List.set_cons_zero, List.set_cons_succ, List.getElem?_cons_zero, List.getElem?_cons_succ]
  refine ih_lcmp_any rfl (fun z hz hv => ?_)
  have hz2 := ih_lc0 (hv (by omega) (by omega))
  refine ih_ifc_le rfl (by omega) (fun w1 => ?_) (fun w1 => ?_)
  · exact r_kind13 C (by omega) K
  · refine ih_seg (i1 := 9) 2 rfl ?_
    refine ih_lcmp_any rfl (fun z hz hv => ?_)
    have hz2 := ih_lc0 (hv (by omega) (by omega))
    refine ih_ifc_ge rfl (by omega) (fun w2 => ?_) (fun w2 => ?_)
    · exact r_kind13 C (by omega) K
    · refine ih_seg (i1 := 12) 1 rfl ?_
      refine ih_ret rfl rfl ?_
      rw [ih_knd, if_pos (ih_word_l.1 (by omega))] at K
      exact K

