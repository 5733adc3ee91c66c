/-! texts: the reference's items -/
theorem r_on_w45 {X : List Int} {t : ih_S} {Q : Option xa_V → ih_S → Prop} {f : Int → Int} {n st : Int} (C : ih_TR t f n st) {p ink l : Int} (hw : t 111 16 = 1) (K : Q none t)  : ih_Wp X 193 45 [xR 111, xI p, xI ink, xI l] [] t Q := by
  refine ih_seg (i1 := 46) 1 rfl ?_
  refine ih_iv0 191 rfl rfl (by first | rfl | exact ih_kP (ih_P_w0 hc) |  exact ih_kP (by assumption) | exact ih_kC (by assumption) | exact ih_kN (by assumption) | exact ih_kS (by assumption) | exact ih_kW (by assumption)) (Nat.le_of_ble_eq_true rfl) (Nat.le_of_ble_eq_true rfl) rfl ?_
  refine r_kindW C hw ?_
  refine ih_seg (i1 := 37) 5 rfl ?_
  try simp only [xa_set, List.set_cons_zero, List.set_cons_succ, List.getElem?_cons_zero, List.getElem?_cons_succ]
  refine ih_ifc_eq rfl (by omega) (fun w1 => ?_) (fun w1 => ?_)
  · refine ih_retv rfl ?_
    exact K
  · exfalso
    omega


theorem r_on_w10 {X : List Int} {t : ih_S} {Q : Option xa_V → ih_S → Prop} {f : Int → Int} {n st : Int} (C : ih_TR t f n st) (hw : t 111 16 = 1) (K : Q none t)  : ih_Wp X 193 10 [xR 111, xC 1, xC 1, xC 1] [] t Q := by
  refine ih_seg (i1 := 13) 3 rfl ?_
  refine ih_iv2 188 rfl rfl (by first | rfl | exact ih_kP (ih_P_w0 hc) |  exact ih_kP (by assumption) | exact ih_kC (by assumption) | exact ih_kN (by assumption) | exact ih_kS (by assumption) | exact ih_kW (by assumption)) (Nat.le_of_ble_eq_true rfl) (Nat.le_of_ble_eq_true rfl) rfl ?_
  refine r_number_w hw ?_
  refine ih_seg (i1 := 15) 1 rfl ?_
  refine ih_getI rfl rfl ?_
  refine ih_seg (i1 := 20) 4 rfl ?_
  try simp only [xa_set, List.set_cons_zero, List.set_cons_succ, List.getElem?_cons_zero, List.getElem?_cons_succ]
  refine ih_iv0 187 rfl rfl (by first | rfl | exact ih_kP (ih_P_w0 hc) |  exact ih_kP (by assumption) | exact ih_kC (by assumption) | exact ih_kN (by assumption) | exact ih_kS (by assumption) | exact ih_kW (by assumption)) (Nat.le_of_ble_eq_true rfl) (Nat.le_of_ble_eq_true rfl) rfl ?_
  refine r_wordW C hw ?_
  refine ih_seg (i1 := 22) 1 rfl ?_
  refine ih_lcmp_any rfl (fun z hz hv => ?_)
  have hz2 := ih_lc0 (hv (by omega) (by omega))
  refine ih_ifc_ne rfl (by omega) (fun w1 => ?_) (fun w1 => ?_)
  · refine ih_seg (i1 := 37) 3 rfl ?_
    try simp only [xa_set, List.set_cons_zero, List.set_cons_succ, List.getElem?_cons_zero, List.getElem?_cons_succ]
    refine ih_ifc_eq rfl (by omega) (fun w2 => ?_) (fun w2 => ?_)
    · refine ih_retv rfl ?_
      exact K
    · refine ih_seg (i1 := 39) 1 rfl ?_
      refine ih_getI rfl rfl ?_
      refine ih_ifc_ne rfl (by omega) (fun w3 => ?_) (fun w3 => ?_)
      · refine ih_retv rfl ?_
        exact K
      · exfalso
        omega
  · exfalso
    omega


theorem r_on_w14 {X : List Int} {t : ih_S} {Q : Option xa_V → ih_S → Prop} {f : Int → Int} {n st : Int} (C : ih_TR t f n st) (hw : t 111 16 = 1) (K : Q none t)  : ih_Wp X 193 14 [xR 111, xC 1, xC 1, xC 1] [] t Q := by
  refine ih_seg (i1 := 15) 1 rfl ?_
  refine ih_getI rfl rfl ?_
  refine ih_seg (i1 := 20) 4 rfl ?_
  try simp only [xa_set, List.set_cons_zero, List.set_cons_succ, List.getElem?_cons_zero, List.getElem?_cons_succ]
  refine ih_iv0 187 rfl rfl (by first | rfl | exact ih_kP (ih_P_w0 hc) |  exact ih_kP (by assumption) | exact ih_kC (by assumption) | exact ih_kN (by assumption) | exact ih_kS (by assumption) | exact ih_kW (by assumption)) (Nat.le_of_ble_eq_true rfl) (Nat.le_of_ble_eq_true rfl) rfl ?_
  refine r_wordW C hw ?_
  refine ih_seg (i1 := 22) 1 rfl ?_
  refine ih_lcmp_any rfl (fun z hz hv => ?_)
  have hz2 := ih_lc0 (hv (by omega) (by omega))
  refine ih_ifc_ne rfl (by omega) (fun w1 => ?_) (fun w1 => ?_)
  · refine ih_seg (i1 := 37) 3 rfl ?_
    try simp only [xa_set, List.set_cons_zero, List.set_cons_succ, List.getElem?_cons_zero, List.getElem?_cons_succ]
    refine ih_ifc_eq rfl (by omega) (fun w2 => ?_) (fun w2 => ?_)
    · refine ih_retv rfl ?_
      exact K
    · refine ih_seg (i1 := 39) 1 rfl ?_
      refine ih_getI rfl rfl ?_
      refine ih_ifc_ne rfl (by omega) (fun w3 => ?_) (fun w3 => ?_)
      · refine ih_retv rfl ?_
        exact K
      · exfalso
        omega
  · exfalso
    omega


theorem r_on_w31 {X : List Int} {t : ih_S} {Q : Option xa_V → ih_S → Prop} {f : Int → Int} {n st : Int} (C : ih_TR t f n st) {p ink : Int} (hw : t 111 16 = 1) (K : Q none t)  : ih_Wp X 193 31 [xR 111, xI p, xI ink, xC 1] [] t Q := by
  refine ih_seg (i1 := 32) 1 rfl ?_
  refine ih_getI rfl rfl ?_
  refine ih_seg (i1 := 37) 4 rfl ?_
  try simp only [xa_set, List.set_cons_zero, List.set_cons_succ, List.getElem?_cons_zero, List.getElem?_cons_succ]
  refine ih_ifc_eq rfl (by omega) (fun w1 => ?_) (fun w1 => ?_)
  · refine ih_retv rfl ?_
    exact K
  · refine ih_seg (i1 := 39) 1 rfl ?_
    refine ih_getI rfl rfl ?_
    refine ih_ifc_ne rfl (by omega) (fun w2 => ?_) (fun w2 => ?_)
    · refine ih_retv rfl ?_
      exact K
    · exfalso
      omega


theorem r_on_l {X : List Int} {Q : Option xa_V → ih_S → Prop} {f : Int → Int} {n : Int} {p : Nat} {ink z : Int} (hc : p < 4)  : ∀ (d : Nat) (st : Int) (s : Int → Int) (t1 : ih_S) (hd : s (22 + p) + d = 13) (hs : t1 112 = s) (hw : t1 111 16 = 0) (C : ih_TR t1 f n st) (g0 : 0 ≤ s (22 + p) ∧ s (22 + p) ≤ 12) (hz : z < s (22 + p) → 0 ≤ ih_knd f n st) (hz1 : z ≤ s (22 + p)) (K : ih_rR t1 f n (ih_pM f n p ink z d st s) Q), ih_Wp X 193 36 [xR 111, xI p, xI ink, xI 1] [] t1 Q := by
  intro d
  induction d with
  | zero =>
    intro st s t1 hd hs hw C g0 hz hz1 K
    exfalso
    omega
  | succ d ih =>
    intro st s t1 hd hs hw C g0 hz hz1 K
    have hkr := ih_knd_rg (f := f) (n := n) (st := st)
    refine ih_seg (i1 := 37) 1 rfl ?_
    refine ih_ifc_eq rfl (by omega) (fun w1 => ?_) (fun w1 => ?_)
    · refine ih_retv rfl ?_
      exfalso
      omega
    · refine ih_seg (i1 := 39) 1 rfl ?_
      refine ih_getI rfl rfl ?_
      refine ih_ifc_ne rfl (by omega) (fun w2 => ?_) (fun w2 => ?_)
      · refine ih_retv rfl ?_
        exfalso
        omega
      · refine ih_seg (i1 := 44) 3 rfl ?_
        refine ih_iv2 192 rfl rfl (by first | rfl | exact ih_kP (ih_P_w0 hc) |  exact ih_kP (by assumption) | exact ih_kC (by assumption) | exact ih_kN (by assumption) | exact ih_kS (by assumption) | exact ih_kW (by assumption)) (Nat.le_of_ble_eq_true rfl) (Nat.le_of_ble_eq_true rfl) rfl ?_
        refine r_markItem C hw hc (by rw [hs]; exact g0) (fun q t2 r2 C2 z2 => r_on_w45 C2 z2 ?_) (fun q1 q2 q3 q4 t2 r2 C2 z2 => r_on_w45 C2 z2 ?_) (fun q1 q2 q3 q4 t2 r2 C2 z2 e2 => ?_) (fun q1 q2 q3 t2 r2 C2 z2 e2 => ?_)
        · rw [hs] at q
          by_cases h : ih_knd f n st < 0
          · rw [ih_pM, if_pos h, if_neg (by omega)] at K
            exact K t2 r2 C2 (fun h => absurd h ih_n01) (fun _ => z2)
          · rw [ih_pM, if_neg h, if_pos (by omega)] at K
            exact K t2 r2 C2 (fun h => absurd h ih_n01) (fun _ => z2)
        · rw [hs] at q2
          rw [ih_pM, if_neg (by omega), if_neg (by omega), if_pos q3, if_pos q4] at K
          exact K t2 r2 C2 (fun h => absurd h ih_n01) (fun _ => z2)
        · rw [hs] at q2 e2
          rw [ih_pM, if_neg (by omega), if_neg (by omega), if_pos q3, if_neg (by omega)] at K
          have hk2 := ih_knd_rg (f := f) (n := n) (st := (ih_adv f n (ih_adv f n st)))
          have sz1 := ih_nm_sz (s := s) (p := p) (a := ih_knd f n st) (b := ih_ltr f n (ih_adv f n st)) (c := ink)
          refine ih_seg (i1 := 46) 1 rfl ?_
          refine ih_iv0 191 rfl rfl (by first | rfl | exact ih_kP (ih_P_w0 hc) |  exact ih_kP (by assumption) | exact ih_kC (by assumption) | exact ih_kN (by assumption) | exact ih_kS (by assumption) | exact ih_kW (by assumption)) (Nat.le_of_ble_eq_true rfl) (Nat.le_of_ble_eq_true rfl) rfl ?_
          refine r_kindO C2 z2 ?_
          refine ih_ifc_lt rfl (by omega) (fun w1 => ?_) (fun w1 => ?_)
          · refine ih_seg (i1 := 36) 3 rfl ?_
            try simp only [xa_set, List.set_cons_zero, List.set_cons_succ, List.getElem?_cons_zero, List.getElem?_cons_succ]
            refine ih_seg (i1 := 37) 1 rfl ?_
            refine ih_ifc_eq rfl (by omega) (fun w1 => ?_) (fun w1 => ?_)
            · refine ih_retv rfl ?_
              obtain ⟨d, rfl⟩ : ∃ e, d = e + 1 := ⟨d - 1, by omega⟩
              rw [ih_pM, if_pos (by omega), if_pos (by omega)] at K
              exact K t2 r2 C2 (fun _ => ⟨z2, e2⟩) (fun h => absurd h ih_n10)
            · exfalso
              omega
          · refine ih_seg (i1 := 36) 4 rfl ?_
            try simp only [xa_set, List.set_cons_zero, List.set_cons_succ, List.getElem?_cons_zero, List.getElem?_cons_succ]
            exact ih (ih_adv f n (ih_adv f n st)) _ t2 (by omega) e2 z2 C2 (by omega) (fun _ => by omega) (by omega) (fun t3 r3 => K t3 (ih_fR_t r2 r3))
        · rw [hs] at q2 e2
          rw [ih_pM, if_neg (by omega), if_neg (by omega), if_neg q3] at K
          have hk2 := ih_knd_rg (f := f) (n := n) (st := (ih_adv f n st))
          have sz1 := ih_nm_sz (s := s) (p := p) (a := ih_knd f n st) (b := if ih_knd f n st = 1 then ih_ltr f n st else 0) (c := ink)
          refine ih_seg (i1 := 46) 1 rfl ?_
          refine ih_iv0 191 rfl rfl (by first | rfl | exact ih_kP (ih_P_w0 hc) |  exact ih_kP (by assumption) | exact ih_kC (by assumption) | exact ih_kN (by assumption) | exact ih_kS (by assumption) | exact ih_kW (by assumption)) (Nat.le_of_ble_eq_true rfl) (Nat.le_of_ble_eq_true rfl) rfl ?_
          refine r_kindO C2 z2 ?_
          refine ih_ifc_lt rfl (by omega) (fun w1 => ?_) (fun w1 => ?_)
          · refine ih_seg (i1 := 36) 3 rfl ?_
            try simp only [xa_set, List.set_cons_zero, List.set_cons_succ, List.getElem?_cons_zero, List.getElem?_cons_succ]
            refine ih_seg (i1 := 37) 1 rfl ?_
            refine ih_ifc_eq rfl (by omega) (fun w1 => ?_) (fun w1 => ?_)
            · refine ih_retv rfl ?_
              obtain ⟨d, rfl⟩ : ∃ e, d = e + 1 := ⟨d - 1, by omega⟩
              rw [ih_pM, if_pos (by omega), if_pos (by omega)] at K
              exact K t2 r2 C2 (fun _ => ⟨z2, e2⟩) (fun h => absurd h ih_n10)
            · exfalso
              omega
          · refine ih_seg (i1 := 36) 4 rfl ?_
            try simp only [xa_set, List.set_cons_zero, List.set_cons_succ, List.getElem?_cons_zero, List.getElem?_cons_succ]
            exact ih (ih_adv f n st) _ t2 (by omega) e2 z2 C2 (by omega) (fun _ => by omega) (by omega) (fun t3 r3 => K t3 (ih_fR_t r2 r3))


theorem r_onItem {X : List Int} {t : ih_S} {Q : Option xa_V → ih_S → Prop} {f : Int → Int} {n st : Int} (C : ih_TR t f n st) (G : ih_Gd (t 112)) (hw : t 111 16 = 0) (K : ih_rR t f n (if ih_is f n st ih_x_on then ih_pO f n (ih_adv f n st) (t 112) else (0, st, t 112)) Q)  : ih_Wp X 193 0 [xR 111, xC 1, xC 1, xC 1] [] t Q := by
  have hwr := ih_word_rg (f := f) (n := n) (st := st)
  have hwr2 := ih_word_rg (f := f) (n := n) (st := (ih_adv f n (ih_adv f n st)))
  have hm := ih_num_rg (f := f) (n := n) (st := (ih_adv f n st))
  refine ih_seg (i1 := 2) 2 rfl ?_
  refine ih_iv0 187 rfl rfl (by first | rfl | exact ih_kP (ih_P_w0 hc) |  exact ih_kP (by assumption) | exact ih_kC (by assumption) | exact ih_kN (by assumption) | exact ih_kS (by assumption) | exact ih_kW (by assumption)) (Nat.le_of_ble_eq_true rfl) (Nat.le_of_ble_eq_true rfl) rfl ?_
  refine r_wordO C hw ?_
  refine ih_seg (i1 := 4) 1 rfl ?_
  refine ih_lcmp_any rfl (fun z hz hv => ?_)
  have hz2 := ih_lc0 (hv (by omega) (by omega))
  refine ih_ifc_ne rfl (by omega) (fun w1 => ?_) (fun w1 => ?_)
  · have e_on : ¬ ih_is f n st ih_x_on := fun q => by
      have := (ih_word_on (f := f) (n := n) (st := st)).2 q
      omega
    refine ih_seg (i1 := 9) 1 rfl ?_
    refine ih_iv1 186 rfl rfl (by first | rfl | exact ih_kP (ih_P_w0 hc) |  exact ih_kP (by assumption) | exact ih_kC (by assumption) | exact ih_kN (by assumption) | exact ih_kS (by assumption) | exact ih_kW (by assumption)) (Nat.le_of_ble_eq_true rfl) (Nat.le_of_ble_eq_true rfl) rfl ?_
    refine r_needs0 C hw ?_
    rw [if_neg e_on] at K
    exact r_on_w10 (ih_TR_x C) ih_x16 (K _ (ih_fR_x (ih_fR_r t)) (ih_TR_x C) (fun h => absurd h ih_n01) (fun _ => ih_x16))
  · refine ih_seg (i1 := 9) 2 rfl ?_
    refine ih_iv1 186 rfl rfl (by first | rfl | exact ih_kP (ih_P_w0 hc) |  exact ih_kP (by assumption) | exact ih_kC (by assumption) | exact ih_kN (by assumption) | exact ih_kS (by assumption) | exact ih_kW (by assumption)) (Nat.le_of_ble_eq_true rfl) (Nat.le_of_ble_eq_true rfl) rfl ?_
    have p_on := (ih_word_on (f := f) (n := n) (st := st)).1 (by omega)
    refine r_needs1 C hw (fun t1 f1 g1 z1 C1 => ?_)
    refine ih_seg (i1 := 13) 3 rfl ?_
    refine ih_iv2 188 rfl rfl (by first | rfl | exact ih_kP (ih_P_w0 hc) |  exact ih_kP (by assumption) | exact ih_kC (by assumption) | exact ih_kN (by assumption) | exact ih_kS (by assumption) | exact ih_kW (by assumption)) (Nat.le_of_ble_eq_true rfl) (Nat.le_of_ble_eq_true rfl) rfl ?_
    refine r_numberO C1 (by omega) (by omega) z1 (fun q2 t2 f2 r2 z2 v2 C2 => ?_) (fun q2 t2 f2 r2 z2 C2 => r_on_w14 C2 z2 (by
      rw [if_pos p_on, ih_pO, if_neg q2] at K
      exact K t2 (ih_fR_t (ih_fR_n f1 g1) r2) C2 (fun h => absurd h ih_n01) (fun _ => z2)))
    refine ih_seg (i1 := 15) 1 rfl ?_
    refine ih_getI rfl rfl ?_
    obtain ⟨p, hp⟩ := Int.eq_ofNat_of_zero_le (show 0 ≤ ih_num f n (ih_adv f n st) by omega)
    have hc : p < 4 := by omega
    have hpn : (ih_num f n (ih_adv f n st)).toNat = p := by omega
    have g0 := (G.pap p hc).sz
    rw [v2, hp]
    refine ih_seg (i1 := 20) 4 rfl ?_
    try simp only [xa_set, List.set_cons_zero, List.set_cons_succ, List.getElem?_cons_zero, List.getElem?_cons_succ]
    refine ih_iv0 187 rfl rfl (by first | rfl | exact ih_kP (ih_P_w0 hc) |  exact ih_kP (by assumption) | exact ih_kC (by assumption) | exact ih_kN (by assumption) | exact ih_kS (by assumption) | exact ih_kW (by assumption)) (Nat.le_of_ble_eq_true rfl) (Nat.le_of_ble_eq_true rfl) rfl ?_
    refine r_wordO C2 z2 ?_
    refine ih_seg (i1 := 22) 1 rfl ?_
    refine ih_lcmp_any rfl (fun z hz hv => ?_)
    have hz2 := ih_lc0 (hv (by omega) (by omega))
    refine ih_ifc_ne rfl (by omega) (fun w2 => ?_) (fun w2 => ?_)
    · refine ih_seg (i1 := 36) 2 rfl ?_
      try simp only [xa_set, List.set_cons_zero, List.set_cons_succ, List.getElem?_cons_zero, List.getElem?_cons_succ]
      have e_ink : ¬ ih_is f n (ih_adv f n (ih_adv f n st)) ih_x_ink := fun q => by
        have := (ih_word_ink (f := f) (n := n) (st := (ih_adv f n (ih_adv f n st)))).2 q
        omega
      rw [if_pos p_on, ih_pO, if_pos q2, if_neg e_ink, hpn, ih_pMs] at K
      exact r_on_l hc (13 - t 112 (22 + p)).toNat _ (t 112) _ (by omega) (by rw [f2 112 (by decide), f1 112 (by decide)]) z2 C2 g0 (fun h => by omega) (by omega) (fun t9 r9 => K t9 (ih_fR_t (ih_fR_t (ih_fR_n f1 g1) r2) r9))
    · refine ih_seg (i1 := 26) 2 rfl ?_
      refine ih_iv1 186 rfl rfl (by first | rfl | exact ih_kP (ih_P_w0 hc) |  exact ih_kP (by assumption) | exact ih_kC (by assumption) | exact ih_kN (by assumption) | exact ih_kS (by assumption) | exact ih_kW (by assumption)) (Nat.le_of_ble_eq_true rfl) (Nat.le_of_ble_eq_true rfl) rfl ?_
      have p_ink := (ih_word_ink (f := f) (n := n) (st := (ih_adv f n (ih_adv f n st)))).1 (by omega)
      refine r_needs1 C2 z2 (fun t3 f3 g3 z3 C3 => ?_)
      refine ih_seg (i1 := 30) 3 rfl ?_
      refine ih_iv2 188 rfl rfl (by first | rfl | exact ih_kP (ih_P_w0 hc) |  exact ih_kP (by assumption) | exact ih_kC (by assumption) | exact ih_kN (by assumption) | exact ih_kS (by assumption) | exact ih_kW (by assumption)) (Nat.le_of_ble_eq_true rfl) (Nat.le_of_ble_eq_true rfl) rfl ?_
      refine r_numberO C3 (by omega) (by omega) z3 (fun q4 t4 f4 r4 z4 v4 C4 => ?_) (fun q4 t4 f4 r4 z4 C4 => r_on_w31 C4 z4 (by
        rw [if_pos p_on, ih_pO, if_pos q2, if_pos p_ink, if_neg q4] at K
        exact K t4 (ih_fR_t (ih_fR_t (ih_fR_t (ih_fR_n f1 g1) r2) (ih_fR_n f3 g3)) r4) C4 (fun h => absurd h ih_n01) (fun _ => z4)))
      refine ih_seg (i1 := 32) 1 rfl ?_
      refine ih_getI rfl rfl ?_
      rw [v4]
      refine ih_seg (i1 := 36) 3 rfl ?_
      try simp only [xa_set, List.set_cons_zero, List.set_cons_succ, List.getElem?_cons_zero, List.getElem?_cons_succ]
      rw [if_pos p_on, ih_pO, if_pos q2, if_pos p_ink, if_pos q4, hpn, ih_pMs] at K
      exact r_on_l hc (13 - t 112 (22 + p)).toNat _ (t 112) _ (by omega) (by rw [f4 112 (by decide), f3 112 (by decide), f2 112 (by decide), f1 112 (by decide)]) z4 C4 g0 (fun h => by omega) (by omega) (fun t9 r9 => K t9 (ih_fR_t (ih_fR_t (ih_fR_t (ih_fR_t (ih_fR_n f1 g1) r2) (ih_fR_n f3 g3)) r4) r9))


theorem r_item {X : List Int} {t : ih_S} {Q : Option xa_V → ih_S → Prop} {f : Int → Int} {n st : Int} (C : ih_TR t f n st) (G : ih_Gd (t 112)) (hw : t 111 16 = 0) (K : ih_rR t f n (ih_pT f n st (t 112)) Q)  : ih_Wp X 195 0 [xR 111] [] t Q := by
  have hwr := ih_word_rg (f := f) (n := n) (st := st)
  refine ih_seg (i1 := 1) 1 rfl ?_
  refine ih_iv0 187 rfl rfl (by first | rfl | exact ih_kP (ih_P_w0 hc) |  exact ih_kP (by assumption) | exact ih_kC (by assumption) | exact ih_kN (by assumption) | exact ih_kS (by assumption) | exact ih_kW (by assumption)) (Nat.le_of_ble_eq_true rfl) (Nat.le_of_ble_eq_true rfl) rfl ?_
  refine r_wordO C hw ?_
  refine ih_seg (i1 := 3) 1 rfl ?_
  refine ih_lcmp_any rfl (fun z hz hv => ?_)
  have hz2 := ih_lc0 (hv (by omega) (by omega))
  refine ih_ifc_ne rfl (by omega) (fun w1 => ?_) (fun w1 => ?_)
  · refine ih_seg (i1 := 9) 1 rfl ?_
    refine ih_iv0 187 rfl rfl (by first | rfl | exact ih_kP (ih_P_w0 hc) |  exact ih_kP (by assumption) | exact ih_kC (by assumption) | exact ih_kN (by assumption) | exact ih_kS (by assumption) | exact ih_kW (by assumption)) (Nat.le_of_ble_eq_true rfl) (Nat.le_of_ble_eq_true rfl) rfl ?_
    refine r_wordO C hw ?_
    refine ih_seg (i1 := 11) 1 rfl ?_
    refine ih_lcmp_any rfl (fun z hz hv => ?_)
    have hz2 := ih_lc0 (hv (by omega) (by omega))
    refine ih_ifc_ne rfl (by omega) (fun w2 => ?_) (fun w2 => ?_)
    · refine ih_seg (i1 := 17) 1 rfl ?_
      refine ih_iv0 193 rfl rfl (by first | rfl | exact ih_kP (ih_P_w0 hc) |  exact ih_kP (by assumption) | exact ih_kC (by assumption) | exact ih_kN (by assumption) | exact ih_kS (by assumption) | exact ih_kW (by assumption)) (Nat.le_of_ble_eq_true rfl) (Nat.le_of_ble_eq_true rfl) rfl ?_
      have e_ink : ¬ ih_is f n st ih_x_ink := fun q => by
        have := (ih_word_ink (f := f) (n := n) (st := st)).2 q
        omega
      have e_paper : ¬ ih_is f n st ih_x_paper := fun q => by
        have := (ih_word_paper (f := f) (n := n) (st := st)).2 q
        omega
      rw [ih_pT, if_neg e_ink, if_neg e_paper] at K
      refine r_onItem C G hw (fun t1 r1 C1 h1 h0 => ?_)
      refine ih_retv rfl ?_
      exact K t1 r1 C1 h1 h0
    · refine ih_seg (i1 := 14) 1 rfl ?_
      refine ih_iv0 190 rfl rfl (by first | rfl | exact ih_kP (ih_P_w0 hc) |  exact ih_kP (by assumption) | exact ih_kC (by assumption) | exact ih_kN (by assumption) | exact ih_kS (by assumption) | exact ih_kW (by assumption)) (Nat.le_of_ble_eq_true rfl) (Nat.le_of_ble_eq_true rfl) rfl ?_
      have e_ink : ¬ ih_is f n st ih_x_ink := fun q => by
        have := (ih_word_ink (f := f) (n := n) (st := st)).2 q
        omega
      have p_paper := (ih_word_paper (f := f) (n := n) (st := st)).1 (by omega)
      rw [ih_pT, if_neg e_ink, if_pos p_paper] at K
      refine r_paperItem C hw (fun t1 r1 C1 h1 h0 => ?_)
      refine ih_seg (i1 := 18) 1 rfl ?_
      refine ih_retv rfl ?_
      exact K t1 r1 C1 h1 h0
  · refine ih_seg (i1 := 6) 1 rfl ?_
    refine ih_iv0 189 rfl rfl (by first | rfl | exact ih_kP (ih_P_w0 hc) |  exact ih_kP (by assumption) | exact ih_kC (by assumption) | exact ih_kN (by assumption) | exact ih_kS (by assumption) | exact ih_kW (by assumption)) (Nat.le_of_ble_eq_true rfl) (Nat.le_of_ble_eq_true rfl) rfl ?_
    have p_ink := (ih_word_ink (f := f) (n := n) (st := st)).1 (by omega)
    rw [ih_pT, if_pos p_ink] at K
    refine r_inkItem C hw (fun t1 r1 C1 h1 h0 => ?_)
    refine ih_seg (i1 := 18) 1 rfl ?_
    refine ih_retv rfl ?_
    exact K t1 r1 C1 h1 h0

