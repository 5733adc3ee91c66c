/-! texts: the reference's marks -/
theorem r_mark_w43 {X : List Int} {t : ih_S} {Q : Option xa_V → ih_S → Prop} {f : Int → Int} {n st : Int} (C : ih_TR t f n st) {p ink kd w : Int} (hw : t 111 16 = 1) (K : Q none t)  : ih_Wp X 192 43 [xR 111, xI p, xI ink, xI kd, xL w, xC 1, xC 1] [] t Q := by
  refine ih_seg (i1 := 44) 1 rfl ?_
  refine ih_getI rfl rfl ?_
  refine ih_ifc_ne rfl (by omega) (fun w1 => ?_) (fun w1 => ?_)
  · refine ih_retv rfl ?_
    exact K
  · exfalso
    omega


theorem r_mark_w21 {X : List Int} {t : ih_S} {Q : Option xa_V → ih_S → Prop} {f : Int → Int} {n st : Int} (C : ih_TR t f n st) {p ink kd w : Int} (hkd : xa_rI kd) (hw : t 111 16 = 1) (K : Q none t)  : ih_Wp X 192 21 [xR 111, xI p, xI ink, xI kd, xL w, xC 1, xC 1] [] t Q := by
  refine ih_seg (i1 := 23) 2 rfl ?_
  refine ih_icmp_eq rfl (by omega) (by omega) (fun w1 => ?_) (fun w1 => ?_)
  · refine ih_seg (i1 := 28) 1 rfl ?_
    refine ih_iv0 187 rfl rfl (by first | rfl | exact ih_kP (ih_P_w0 hc) |  exact ih_kP (by assumption) | exact ih_kC (by assumption) | exact ih_kN (by assumption) | exact ih_kS (by assumption) | exact ih_kW (by assumption)) (Nat.le_of_ble_eq_true rfl) (Nat.le_of_ble_eq_true rfl) rfl ?_
    refine r_wordW C hw ?_
    refine ih_seg (i1 := 33) 4 rfl ?_
    try simp only [xa_set, List.set_cons_zero, List.set_cons_succ, List.getElem?_cons_zero, List.getElem?_cons_succ]
    refine ih_lcmp_any rfl (fun z hz hv => ?_)
    have hz2 := ih_lc0 (hv (by omega) (by omega))
    refine ih_ifc_le rfl (by omega) (fun w2 => ?_) (fun w2 => ?_)
    · refine ih_seg (i1 := 42) 1 rfl ?_
      refine ih_iv1 186 rfl rfl (by first | rfl | exact ih_kP (ih_P_w0 hc) |  exact ih_kP (by assumption) | exact ih_kC (by assumption) | exact ih_kN (by assumption) | exact ih_kS (by assumption) | exact ih_kW (by assumption)) (Nat.le_of_ble_eq_true rfl) (Nat.le_of_ble_eq_true rfl) rfl ?_
      refine r_needs_w (by omega) hw ?_
      exact r_mark_w43 C hw K
    · exfalso
      omega
  · refine ih_seg (i1 := 26) 2 rfl ?_
    refine ih_icmp_ne rfl (by omega) (by omega) (fun w3 => ?_) (fun w3 => ?_)
    · exact r_mark_w43 C hw K
    · refine ih_seg (i1 := 28) 1 rfl ?_
      refine ih_iv0 187 rfl rfl (by first | rfl | exact ih_kP (ih_P_w0 hc) |  exact ih_kP (by assumption) | exact ih_kC (by assumption) | exact ih_kN (by assumption) | exact ih_kS (by assumption) | exact ih_kW (by assumption)) (Nat.le_of_ble_eq_true rfl) (Nat.le_of_ble_eq_true rfl) rfl ?_
      refine r_wordW C hw ?_
      refine ih_seg (i1 := 33) 4 rfl ?_
      try simp only [xa_set, List.set_cons_zero, List.set_cons_succ, List.getElem?_cons_zero, List.getElem?_cons_succ]
      refine ih_lcmp_any rfl (fun z hz hv => ?_)
      have hz2 := ih_lc0 (hv (by omega) (by omega))
      refine ih_ifc_le rfl (by omega) (fun w4 => ?_) (fun w4 => ?_)
      · refine ih_seg (i1 := 42) 1 rfl ?_
        refine ih_iv1 186 rfl rfl (by first | rfl | exact ih_kP (ih_P_w0 hc) |  exact ih_kP (by assumption) | exact ih_kC (by assumption) | exact ih_kN (by assumption) | exact ih_kS (by assumption) | exact ih_kW (by assumption)) (Nat.le_of_ble_eq_true rfl) (Nat.le_of_ble_eq_true rfl) rfl ?_
        refine r_needs_w (by omega) hw ?_
        exact r_mark_w43 C hw K
      · exfalso
        omega


theorem r_mark_43 {X : List Int} {t : ih_S} {Q : Option xa_V → ih_S → Prop} {p : Nat} {ink kd w : Int} (hc : p < 4) (hs : 0 ≤ t 112 (22 + p) ∧ t 112 (22 + p) < 12) (hwr : 0 ≤ w ∧ w ≤ 1152921504606847000) (hw : t 111 16 = 0) (K : ∀ (lt : Int) t1, (0 < w ∧ w < 5 → lt = w - 1) → (¬ (0 < w ∧ w < 5) → lt = 0) → t1 112 = ih_nm (t 112) p kd lt ink → (∀ j, j ≠ 112 → t1 j = t j) → Q none t1)  : ih_Wp X 192 43 [xR 111, xI p, xI ink, xI kd, xL w, xC 1, xC 1] [] t Q := by
  refine ih_seg (i1 := 44) 1 rfl ?_
  refine ih_getI rfl rfl ?_
  refine ih_ifc_ne rfl (by omega) (fun w1 => ?_) (fun w1 => ?_)
  · refine ih_retv rfl ?_
    first
      | (exfalso
         omega)
      | exact K _ t1 (fun _ => by omega) (fun _ => by omega) e1 e2
  · refine ih_seg (i1 := 51) 5 rfl ?_
    refine ih_lcmp_any rfl (fun z hz hv => ?_)
    have hz2 := ih_lc0 (hv (by omega) (by omega))
    refine ih_ifc_le rfl (by omega) (fun w2 => ?_) (fun w2 => ?_)
    · refine ih_seg (i1 := 64) 2 rfl ?_
      refine ih_iv4 138 rfl rfl (by first | rfl | exact ih_kP (ih_P_w0 hc) |  exact ih_kP (by assumption) | exact ih_kC (by assumption) | exact ih_kN (by assumption) | exact ih_kS (by assumption) | exact ih_kW (by assumption)) (Nat.le_of_ble_eq_true rfl) (Nat.le_of_ble_eq_true rfl) rfl ?_
      refine r_newMark hc hs (fun t1 e1 e2 => ?_)
      refine ih_seg (i1 := 66) 1 rfl ?_
      try simp only [xa_set, List.set_cons_zero, List.set_cons_succ, List.getElem?_cons_zero, List.getElem?_cons_succ]
      refine ih_retv rfl ?_
      first
        | (exfalso
           omega)
        | exact K _ t1 (fun _ => by omega) (fun _ => by omega) e1 e2
    · refine ih_seg (i1 := 55) 2 rfl ?_
      refine ih_lcmp_any rfl (fun z hz hv => ?_)
      have hz2 := ih_lc0 (hv (by omega) (by omega))
      refine ih_ifc_ge rfl (by omega) (fun w3 => ?_) (fun w3 => ?_)
      · refine ih_seg (i1 := 64) 2 rfl ?_
        refine ih_iv4 138 rfl rfl (by first | rfl | exact ih_kP (ih_P_w0 hc) |  exact ih_kP (by assumption) | exact ih_kC (by assumption) | exact ih_kN (by assumption) | exact ih_kS (by assumption) | exact ih_kW (by assumption)) (Nat.le_of_ble_eq_true rfl) (Nat.le_of_ble_eq_true rfl) rfl ?_
        refine r_newMark hc hs (fun t1 e1 e2 => ?_)
        refine ih_seg (i1 := 66) 1 rfl ?_
        try simp only [xa_set, List.set_cons_zero, List.set_cons_succ, List.getElem?_cons_zero, List.getElem?_cons_succ]
        refine ih_retv rfl ?_
        first
          | (exfalso
             omega)
          | exact K _ t1 (fun _ => by omega) (fun _ => by omega) e1 e2
      · refine ih_seg (i1 := 64) 6 rfl ?_
        try dsimp only
        refine ih_iv4 138 rfl rfl (by first | rfl | exact ih_kP (ih_P_w0 hc) |  exact ih_kP (by assumption) | exact ih_kC (by assumption) | exact ih_kN (by assumption) | exact ih_kS (by assumption) | exact ih_kW (by assumption)) (Nat.le_of_ble_eq_true rfl) (Nat.le_of_ble_eq_true rfl) rfl ?_
        refine r_newMark hc hs (fun t1 e1 e2 => ?_)
        refine ih_seg (i1 := 66) 1 rfl ?_
        try simp only [xa_set, List.set_cons_zero, List.set_cons_succ, List.getElem?_cons_zero, List.getElem?_cons_succ]
        refine ih_retv rfl ?_
        first
          | (exfalso
             omega)
          | exact K _ t1 (fun _ => by omega) (fun _ => by omega) e1 e2


theorem r_markItem {X : List Int} {t : ih_S} {Q : Option xa_V → ih_S → Prop} {f : Int → Int} {n st : Int} (C : ih_TR t f n st) {p : Nat} {ink : Int} (hw : t 111 16 = 0) (hc : p < 4) (hs : 0 ≤ t 112 (22 + p) ∧ t 112 (22 + p) ≤ 12) (kA : ih_knd f n st < 0 ∨ t 112 (22 + p) = 12 → ∀ t1, ih_fR t t1 → ih_TR t1 f n st → t1 111 16 = 1 → Q none t1) (kB : 0 ≤ ih_knd f n st → t 112 (22 + p) < 12 → ih_knd f n st = 4 ∨ ih_knd f n st = 6 → ih_ltr f n (ih_adv f n st) < 0 → ∀ t1, ih_fR t t1 → ih_TR t1 f n (ih_adv f n st) → t1 111 16 = 1 → Q none t1) (kC : 0 ≤ ih_knd f n st → t 112 (22 + p) < 12 → ih_knd f n st = 4 ∨ ih_knd f n st = 6 → 0 ≤ ih_ltr f n (ih_adv f n st) → ∀ t1, ih_fR t t1 → ih_TR t1 f n (ih_adv f n (ih_adv f n st)) → t1 111 16 = 0 → t1 112 = ih_nm (t 112) p (ih_knd f n st) (ih_ltr f n (ih_adv f n st)) ink → Q none t1) (kD : 0 ≤ ih_knd f n st → t 112 (22 + p) < 12 → ¬ (ih_knd f n st = 4 ∨ ih_knd f n st = 6) → ∀ t1, ih_fR t t1 → ih_TR t1 f n (ih_adv f n st) → t1 111 16 = 0 → t1 112 = ih_nm (t 112) p (ih_knd f n st) (if ih_knd f n st = 1 then ih_ltr f n st else 0) ink → Q none t1)  : ih_Wp X 192 0 [xR 111, xI p, xI ink, xC 1, xC 1, xC 1, xC 1] [] t Q := by
  have hkr := ih_knd_rg (f := f) (n := n) (st := st)
  have hwr := ih_word_rg (f := f) (n := n) (st := st)
  refine ih_seg (i1 := 1) 1 rfl ?_
  refine ih_iv0 191 rfl rfl (by first | rfl | exact ih_kP (ih_P_w0 hc) |  exact ih_kP (by assumption) | exact ih_kC (by assumption) | exact ih_kN (by assumption) | exact ih_kS (by assumption) | exact ih_kW (by assumption)) (Nat.le_of_ble_eq_true rfl) (Nat.le_of_ble_eq_true rfl) rfl ?_
  refine r_kindO C hw ?_
  refine ih_seg (i1 := 4) 2 rfl ?_
  try simp only [xa_set, List.set_cons_zero, List.set_cons_succ, List.getElem?_cons_zero, List.getElem?_cons_succ]
  refine ih_iv0 187 rfl rfl (by first | rfl | exact ih_kP (ih_P_w0 hc) |  exact ih_kP (by assumption) | exact ih_kC (by assumption) | exact ih_kN (by assumption) | exact ih_kS (by assumption) | exact ih_kW (by assumption)) (Nat.le_of_ble_eq_true rfl) (Nat.le_of_ble_eq_true rfl) rfl ?_
  refine r_wordO C hw ?_
  refine ih_seg (i1 := 8) 3 rfl ?_
  try simp only [xa_set, List.set_cons_zero, List.set_cons_succ, List.getElem?_cons_zero, List.getElem?_cons_succ]
  refine ih_ifc_lt rfl (by omega) (fun w1 => ?_) (fun w1 => ?_)
  · refine ih_seg (i1 := 20) 1 rfl ?_
    refine ih_iv1 186 rfl rfl (by first | rfl | exact ih_kP (ih_P_w0 hc) |  exact ih_kP (by assumption) | exact ih_kC (by assumption) | exact ih_kN (by assumption) | exact ih_kS (by assumption) | exact ih_kW (by assumption)) (Nat.le_of_ble_eq_true rfl) (Nat.le_of_ble_eq_true rfl) rfl ?_
    refine r_needs0 C hw ?_
    exact r_mark_w21 (ih_TR_x C) (by omega) ih_x16 (kA (by omega) _ (ih_fR_x (ih_fR_r t)) (ih_TR_x C) ih_x16)
  · refine ih_seg (i1 := 10) 1 rfl ?_
    refine ih_getR rfl rfl ?_
    refine ih_seg (i1 := 14) 3 rfl ?_
    try dsimp only
    refine ih_iald rfl (by first | rfl | exact ih_lP1 (ih_P_w0 hc) | exact ih_lP2 (ih_P_w0 hc) | exact ih_lP3 (ih_P_w0 hc) | exact ih_lP4 (ih_P_w0 hc) |  exact ih_lP1 (by assumption) | exact ih_lP2 (by assumption) | exact ih_lP3 (by assumption) | exact ih_lP4 (by assumption) | exact ih_lC1 (by assumption) | exact ih_lS1 (by assumption) | exact ih_lW1 (by assumption) | exact ih_lW2 (by assumption) | exact ih_lW4 (by assumption) | exact ih_lW5 (by assumption)) (by omega) (by omega) (k := ?_)
    refine ih_seg (i1 := 16) 1 rfl ?_
    refine ih_icmp_ge rfl (by omega) (by omega) (fun w2 => ?_) (fun w2 => ?_)
    · refine ih_seg (i1 := 20) 1 rfl ?_
      refine ih_iv1 186 rfl rfl (by first | rfl | exact ih_kP (ih_P_w0 hc) |  exact ih_kP (by assumption) | exact ih_kC (by assumption) | exact ih_kN (by assumption) | exact ih_kS (by assumption) | exact ih_kW (by assumption)) (Nat.le_of_ble_eq_true rfl) (Nat.le_of_ble_eq_true rfl) rfl ?_
      refine r_needs0 C hw ?_
      exact r_mark_w21 (ih_TR_x C) (by omega) ih_x16 (kA (by omega) _ (ih_fR_x (ih_fR_r t)) (ih_TR_x C) ih_x16)
    · refine ih_seg (i1 := 20) 2 rfl ?_
      refine ih_iv1 186 rfl rfl (by first | rfl | exact ih_kP (ih_P_w0 hc) |  exact ih_kP (by assumption) | exact ih_kC (by assumption) | exact ih_kN (by assumption) | exact ih_kS (by assumption) | exact ih_kW (by assumption)) (Nat.le_of_ble_eq_true rfl) (Nat.le_of_ble_eq_true rfl) rfl ?_
      refine r_needs1 C hw (fun t1 f1 g1 z1 C1 => ?_)
      have hk : 0 ≤ ih_knd f n st := by omega
      have hsz : t 112 (22 + p) < 12 := by omega
      refine ih_seg (i1 := 23) 2 rfl ?_
      refine ih_icmp_eq rfl (by omega) (by omega) (fun w1 => ?_) (fun w1 => ?_)
      · have h46 : ih_knd f n st = 4 ∨ ih_knd f n st = 6 := by omega
        have hwr1 := ih_word_rg (f := f) (n := n) (st := ih_adv f n st)
        have q := ih_word_l (f := f) (n := n) (st := ih_adv f n st)
        refine ih_seg (i1 := 28) 1 rfl ?_
        refine ih_iv0 187 rfl rfl (by first | rfl | exact ih_kP (ih_P_w0 hc) |  exact ih_kP (by assumption) | exact ih_kC (by assumption) | exact ih_kN (by assumption) | exact ih_kS (by assumption) | exact ih_kW (by assumption)) (Nat.le_of_ble_eq_true rfl) (Nat.le_of_ble_eq_true rfl) rfl ?_
        refine r_wordO C1 z1 ?_
        refine ih_seg (i1 := 33) 4 rfl ?_
        try simp only [xa_set, List.set_cons_zero, List.set_cons_succ, List.getElem?_cons_zero, List.getElem?_cons_succ]
        refine ih_lcmp_any rfl (fun z hz hv => ?_)
        have hz2 := ih_lc0 (hv (by omega) (by omega))
        refine ih_ifc_le rfl (by omega) (fun w1 => ?_) (fun w1 => ?_)
        · refine ih_seg (i1 := 42) 1 rfl ?_
          refine ih_iv1 186 rfl rfl (by first | rfl | exact ih_kP (ih_P_w0 hc) |  exact ih_kP (by assumption) | exact ih_kC (by assumption) | exact ih_kN (by assumption) | exact ih_kS (by assumption) | exact ih_kW (by assumption)) (Nat.le_of_ble_eq_true rfl) (Nat.le_of_ble_eq_true rfl) rfl ?_
          refine r_needs0 C1 z1 ?_
          exact r_mark_w43 (ih_TR_x C1) ih_x16 (kB hk hsz h46 (by omega) _ (ih_fR_x (ih_fR_n f1 g1)) (ih_TR_x C1) ih_x16)
        · refine ih_seg (i1 := 37) 2 rfl ?_
          refine ih_lcmp_any rfl (fun z hz hv => ?_)
          have hz2 := ih_lc0 (hv (by omega) (by omega))
          refine ih_ifc_ge rfl (by omega) (fun w2 => ?_) (fun w2 => ?_)
          · refine ih_seg (i1 := 42) 1 rfl ?_
            refine ih_iv1 186 rfl rfl (by first | rfl | exact ih_kP (ih_P_w0 hc) |  exact ih_kP (by assumption) | exact ih_kC (by assumption) | exact ih_kN (by assumption) | exact ih_kS (by assumption) | exact ih_kW (by assumption)) (Nat.le_of_ble_eq_true rfl) (Nat.le_of_ble_eq_true rfl) rfl ?_
            refine r_needs0 C1 z1 ?_
            exact r_mark_w43 (ih_TR_x C1) ih_x16 (kB hk hsz h46 (by omega) _ (ih_fR_x (ih_fR_n f1 g1)) (ih_TR_x C1) ih_x16)
          · refine ih_seg (i1 := 42) 2 rfl ?_
            refine ih_iv1 186 rfl rfl (by first | rfl | exact ih_kP (ih_P_w0 hc) |  exact ih_kP (by assumption) | exact ih_kC (by assumption) | exact ih_kN (by assumption) | exact ih_kS (by assumption) | exact ih_kW (by assumption)) (Nat.le_of_ble_eq_true rfl) (Nat.le_of_ble_eq_true rfl) rfl ?_
            refine r_needs1 C1 z1 (fun t2 f2 g2 z2 C2 => ?_)
            have h : 0 ≤ ih_ltr f n (ih_adv f n st) := by omega
            have er : t2 112 = t 112 := (f2 112 (by decide)).trans (f1 112 (by decide))
            refine r_mark_43 hc (by rw [er]; omega) ih_word_rg z2 (fun lt t9 l1 l0 e1 e2 => ?_)
            rw [er] at e1
            have el : lt = ih_ltr f n (ih_adv f n st) := by
              rw [l1 (q.2 h)]
              exact ih_word_l2 h
            rw [el] at e1
            exact kC hk hsz h46 h t9 (ih_fR_t (ih_fR_t (ih_fR_n f1 g1) (ih_fR_n f2 g2)) ⟨fun j _ h2 => e2 j h2, fun g _ => by rw [e2 111 (by decide)]⟩) (ih_TR_of C2 (by rw [e2 111 (by decide)]) (by rw [e2 111 (by decide)]) (by rw [e2 111 (by decide)]) (e2 117 (by decide))) (by rw [e2 111 (by decide)]; exact z2) e1
      · refine ih_seg (i1 := 26) 2 rfl ?_
        refine ih_icmp_ne rfl (by omega) (by omega) (fun w2 => ?_) (fun w2 => ?_)
        · have er : t1 112 = t 112 := f1 112 (by decide)
          refine r_mark_43 hc (by rw [er]; omega) ih_word_rg z1 (fun lt t9 l1 l0 e1 e2 => ?_)
          rw [er] at e1
          have el : lt = if ih_knd f n st = 1 then ih_ltr f n st else 0 := by
            have q := ih_word_l (f := f) (n := n) (st := st)
            have q1 := ih_knd_1 (f := f) (n := n) (st := st)
            by_cases h : 0 ≤ ih_ltr f n st
            · rw [if_pos (q1.2 h), l1 (q.2 h)]
              exact ih_word_l2 h
            · rw [if_neg (fun k => h (q1.1 k)), l0 (fun k => h (q.1 k))]
          rw [el] at e1
          exact kD hk hsz (by omega) t9 (ih_fR_t (ih_fR_n f1 g1) ⟨fun j _ h2 => e2 j h2, fun g _ => by rw [e2 111 (by decide)]⟩) (ih_TR_of C1 (by rw [e2 111 (by decide)]) (by rw [e2 111 (by decide)]) (by rw [e2 111 (by decide)]) (e2 117 (by decide))) (by rw [e2 111 (by decide)]; exact z1) e1
        · have h46 : ih_knd f n st = 4 ∨ ih_knd f n st = 6 := by omega
          have hwr1 := ih_word_rg (f := f) (n := n) (st := ih_adv f n st)
          have q := ih_word_l (f := f) (n := n) (st := ih_adv f n st)
          refine ih_seg (i1 := 28) 1 rfl ?_
          refine ih_iv0 187 rfl rfl (by first | rfl | exact ih_kP (ih_P_w0 hc) |  exact ih_kP (by assumption) | exact ih_kC (by assumption) | exact ih_kN (by assumption) | exact ih_kS (by assumption) | exact ih_kW (by assumption)) (Nat.le_of_ble_eq_true rfl) (Nat.le_of_ble_eq_true rfl) rfl ?_
          refine r_wordO C1 z1 ?_
          refine ih_seg (i1 := 33) 4 rfl ?_
          try simp only [xa_set, List.set_cons_zero, List.set_cons_succ, List.getElem?_cons_zero, List.getElem?_cons_succ]
          refine ih_lcmp_any rfl (fun z hz hv => ?_)
          have hz2 := ih_lc0 (hv (by omega) (by omega))
          refine ih_ifc_le rfl (by omega) (fun w1 => ?_) (fun w1 => ?_)
          · refine ih_seg (i1 := 42) 1 rfl ?_
            refine ih_iv1 186 rfl rfl (by first | rfl | exact ih_kP (ih_P_w0 hc) |  exact ih_kP (by assumption) | exact ih_kC (by assumption) | exact ih_kN (by assumption) | exact ih_kS (by assumption) | exact ih_kW (by assumption)) (Nat.le_of_ble_eq_true rfl) (Nat.le_of_ble_eq_true rfl) rfl ?_
            refine r_needs0 C1 z1 ?_
            exact r_mark_w43 (ih_TR_x C1) ih_x16 (kB hk hsz h46 (by omega) _ (ih_fR_x (ih_fR_n f1 g1)) (ih_TR_x C1) ih_x16)
          · refine ih_seg (i1 := 37) 2 rfl ?_
            refine ih_lcmp_any rfl (fun z hz hv => ?_)
            have hz2 := ih_lc0 (hv (by omega) (by omega))
            refine ih_ifc_ge rfl (by omega) (fun w2 => ?_) (fun w2 => ?_)
            · refine ih_seg (i1 := 42) 1 rfl ?_
              refine ih_iv1 186 rfl rfl (by first | rfl | exact ih_kP (ih_P_w0 hc) |  exact ih_kP (by assumption) | exact ih_kC (by assumption) | exact ih_kN (by assumption) | exact ih_kS (by assumption) | exact ih_kW (by assumption)) (Nat.le_of_ble_eq_true rfl) (Nat.le_of_ble_eq_true rfl) rfl ?_
              refine r_needs0 C1 z1 ?_
              exact r_mark_w43 (ih_TR_x C1) ih_x16 (kB hk hsz h46 (by omega) _ (ih_fR_x (ih_fR_n f1 g1)) (ih_TR_x C1) ih_x16)
            · refine ih_seg (i1 := 42) 2 rfl ?_
              refine ih_iv1 186 rfl rfl (by first | rfl | exact ih_kP (ih_P_w0 hc) |  exact ih_kP (by assumption) | exact ih_kC (by assumption) | exact ih_kN (by assumption) | exact ih_kS (by assumption) | exact ih_kW (by assumption)) (Nat.le_of_ble_eq_true rfl) (Nat.le_of_ble_eq_true rfl) rfl ?_
              refine r_needs1 C1 z1 (fun t2 f2 g2 z2 C2 => ?_)
              have h : 0 ≤ ih_ltr f n (ih_adv f n st) := by omega
              have er : t2 112 = t 112 := (f2 112 (by decide)).trans (f1 112 (by decide))
              refine r_mark_43 hc (by rw [er]; omega) ih_word_rg z2 (fun lt t9 l1 l0 e1 e2 => ?_)
              rw [er] at e1
              have el : lt = ih_ltr f n (ih_adv f n st) := by
                rw [l1 (q.2 h)]
                exact ih_word_l2 h
              rw [el] at e1
              exact kC hk hsz h46 h t9 (ih_fR_t (ih_fR_t (ih_fR_n f1 g1) (ih_fR_n f2 g2)) ⟨fun j _ h2 => e2 j h2, fun g _ => by rw [e2 111 (by decide)]⟩) (ih_TR_of C2 (by rw [e2 111 (by decide)]) (by rw [e2 111 (by decide)]) (by rw [e2 111 (by decide)]) (e2 117 (by decide))) (by rw [e2 111 (by decide)]; exact z2) e1

