/-! texts: the reference's half -/
def ih_vT (f : Int → Int) (n : Int) (d : Nat) (i st : Int) (s : Int → Int) : Int × (Int → Int) := if ih_kk f n st = 0 then (i, s) else if ih_kk f n st = 3 then ih_pL f n d (i + 1) (ih_adv f n st) s else (-1 - st, s)
theorem ih_pL_s {f : Int → Int} {n : Int} {d : Nat} {i st : Int} {s : Int → Int} : ih_pL f n (d + 1) i st s = if (ih_pT f n st s).1 = 0 then (-1 - (ih_pT f n st s).2.1, (ih_pT f n st s).2.2) else ih_vT f n d i (ih_pT f n st s).2.1 (ih_pT f n st s).2.2 := rfl

theorem r_on_w0 {X : List Int} {t : ih_S} {Q : Option xa_V → ih_S → Prop} {f : Int → Int} {n st : Int} (C : ih_TR t f n st) (hw : t 111 16 = 1) (K : Q none t)  : ih_Wp X 193 0 [xR 111, xC 1, xC 1, xC 1] [] t Q := by
  refine ih_seg (i1 := 2) 2 rfl ?_
  refine ih_iv0 187 rfl rfl (by first | rfl | exact ih_kP (ih_P_w0 hc) |  exact ih_kP (by assumption) | exact ih_kC (by assumption) | exact ih_kN (by assumption) | exact ih_kS (by assumption) | exact ih_kW (by assumption)) (Nat.le_of_ble_eq_true rfl) (Nat.le_of_ble_eq_true rfl) rfl ?_
  refine r_wordW C hw ?_
  refine ih_seg (i1 := 4) 1 rfl ?_
  refine ih_lcmp_any rfl (fun z hz hv => ?_)
  have hz2 := ih_lc0 (hv (by omega) (by omega))
  refine ih_ifc_ne rfl (by omega) (fun w1 => ?_) (fun w1 => ?_)
  · refine ih_seg (i1 := 9) 1 rfl ?_
    refine ih_iv1 186 rfl rfl (by first | rfl | exact ih_kP (ih_P_w0 hc) |  exact ih_kP (by assumption) | exact ih_kC (by assumption) | exact ih_kN (by assumption) | exact ih_kS (by assumption) | exact ih_kW (by assumption)) (Nat.le_of_ble_eq_true rfl) (Nat.le_of_ble_eq_true rfl) rfl ?_
    refine r_needs_w (by omega) hw ?_
    refine ih_seg (i1 := 13) 3 rfl ?_
    refine ih_iv2 188 rfl rfl (by first | rfl | exact ih_kP (ih_P_w0 hc) |  exact ih_kP (by assumption) | exact ih_kC (by assumption) | exact ih_kN (by assumption) | exact ih_kS (by assumption) | exact ih_kW (by assumption)) (Nat.le_of_ble_eq_true rfl) (Nat.le_of_ble_eq_true rfl) rfl ?_
    refine r_number_w hw ?_
    refine ih_seg (i1 := 15) 1 rfl ?_
    refine ih_getI rfl rfl ?_
    refine ih_seg (i1 := 20) 4 rfl ?_
    try simp only [xa_set, List.set_cons_zero, List.set_cons_succ, List.getElem?_cons_zero, List.getElem?_cons_succ]
    refine ih_iv0 187 rfl rfl (by first | rfl | exact ih_kP (ih_P_w0 hc) |  exact ih_kP (by assumption) | exact ih_kC (by assumption) | exact ih_kN (by assumption) | exact ih_kS (by assumption) | exact ih_kW (by assumption)) (Nat.le_of_ble_eq_true rfl) (Nat.le_of_ble_eq_true rfl) rfl ?_
    refine r_wordW C hw ?_
    refine ih_seg (i1 := 22) 1 rfl ?_
    refine ih_lcmp_any rfl (fun z hz hv => ?_)
    have hz2 := ih_lc0 (hv (by omega) (by omega))
    refine ih_ifc_ne rfl (by omega) (fun w2 => ?_) (fun w2 => ?_)
    · refine ih_seg (i1 := 37) 3 rfl ?_
      try simp only [xa_set, List.set_cons_zero, List.set_cons_succ, List.getElem?_cons_zero, List.getElem?_cons_succ]
      refine ih_ifc_eq rfl (by omega) (fun w3 => ?_) (fun w3 => ?_)
      · refine ih_retv rfl ?_
        exact K
      · refine ih_seg (i1 := 39) 1 rfl ?_
        refine ih_getI rfl rfl ?_
        refine ih_ifc_ne rfl (by omega) (fun w4 => ?_) (fun w4 => ?_)
        · refine ih_retv rfl ?_
          exact K
        · exfalso
          omega
    · exfalso
      omega
  · exfalso
    omega


theorem r_item_w {X : List Int} {t : ih_S} {Q : Option xa_V → ih_S → Prop} {f : Int → Int} {n st : Int} (C : ih_TR t f n st) (hw : t 111 16 = 1) (K : Q none t)  : ih_Wp X 195 0 [xR 111] [] t Q := by
  refine ih_seg (i1 := 1) 1 rfl ?_
  refine ih_iv0 187 rfl rfl (by first | rfl | exact ih_kP (ih_P_w0 hc) |  exact ih_kP (by assumption) | exact ih_kC (by assumption) | exact ih_kN (by assumption) | exact ih_kS (by assumption) | exact ih_kW (by assumption)) (Nat.le_of_ble_eq_true rfl) (Nat.le_of_ble_eq_true rfl) rfl ?_
  refine r_wordW C hw ?_
  refine ih_seg (i1 := 3) 1 rfl ?_
  refine ih_lcmp_any rfl (fun z hz hv => ?_)
  have hz2 := ih_lc0 (hv (by omega) (by omega))
  refine ih_ifc_ne rfl (by omega) (fun w1 => ?_) (fun w1 => ?_)
  · refine ih_seg (i1 := 9) 1 rfl ?_
    refine ih_iv0 187 rfl rfl (by first | rfl | exact ih_kP (ih_P_w0 hc) |  exact ih_kP (by assumption) | exact ih_kC (by assumption) | exact ih_kN (by assumption) | exact ih_kS (by assumption) | exact ih_kW (by assumption)) (Nat.le_of_ble_eq_true rfl) (Nat.le_of_ble_eq_true rfl) rfl ?_
    refine r_wordW C hw ?_
    refine ih_seg (i1 := 11) 1 rfl ?_
    refine ih_lcmp_any rfl (fun z hz hv => ?_)
    have hz2 := ih_lc0 (hv (by omega) (by omega))
    refine ih_ifc_ne rfl (by omega) (fun w2 => ?_) (fun w2 => ?_)
    · refine ih_seg (i1 := 17) 1 rfl ?_
      refine ih_iv0 193 rfl rfl (by first | rfl | exact ih_kP (ih_P_w0 hc) |  exact ih_kP (by assumption) | exact ih_kC (by assumption) | exact ih_kN (by assumption) | exact ih_kS (by assumption) | exact ih_kW (by assumption)) (Nat.le_of_ble_eq_true rfl) (Nat.le_of_ble_eq_true rfl) rfl ?_
      refine r_on_w0 C hw ?_
      refine ih_retv rfl ?_
      exact K
    · exfalso
      omega
  · exfalso
    omega


theorem r_text_w14 {X : List Int} {t : ih_S} {Q : Option xa_V → ih_S → Prop} {i : Int} (hw : t 111 16 = 1) (K : ih_Wp X 194 37 [xR 111, xI i] [] t Q)  : ih_Wp X 194 14 [xR 111, xI i] [] t Q := by
  refine ih_seg (i1 := 15) 1 rfl ?_
  refine ih_getI rfl rfl ?_
  refine ih_ifc_ne rfl (by omega) (fun w1 => ?_) (fun w1 => ?_)
  · exact K
  · exfalso
    omega


theorem r_text_l {X : List Int} {Q : Option xa_V → ih_S → Prop} {f : Int → Int} {n : Int}  : ∀ (d : Nat) (i st : Int) (s : Int → Int) (t1 : ih_S) (hd : i + d = 120) (hi : 1 ≤ i) (hp : i - 1 ≤ st) (C : ih_TR t1 f n st) (hw : t1 111 16 = 0) (hs : t1 112 = s) (G : ih_Gd s) (K : ∀ (i2 : Int) t2, ih_fR t1 t2 → ((t2 111 16 = 0 ∧ 1 ≤ i2 ∧ (ih_vT f n d i st s).1 = i2 ∧ t2 112 = (ih_vT f n d i st s).2) ∨ (t2 111 16 = 1 ∧ (ih_vT f n d i st s).1 = -1 - t2 111 13 ∧ 0 ≤ t2 111 13)) → ih_Wp X 194 37 [xR 111, xI i2] [] t2 Q), ih_Wp X 194 14 [xR 111, xI i] [] t1 Q := by
  intro d
  induction d with
  | zero =>
    intro i st s t1 hd hi hp C hw hs G K
    have hst := C.1.2.2
    have hn := C.2.2.1
    have e13 := C.1.1
    have e12 := C.2.1
    have k3 := ih_kk3 (f := f) (n := n) (st := st)
    have k0 := ih_kk0 (f := f) (n := n) (st := st)
    have hba := ih_ba_rg C.2 hst.1
    have hbv := ih_ba_v (f := f) (n := n) (i := st) (v := 59) (by decide)
    have had := ih_adv_b (f := f) (n := n) (st := st) (by omega)
    refine ih_seg (i1 := 15) 1 rfl ?_
    refine ih_getI rfl rfl ?_
    refine ih_ifc_ne rfl (by omega) (fun w1 => ?_) (fun w1 => ?_)
    · exfalso
      omega
    · refine ih_seg (i1 := 18) 1 rfl ?_
      refine ih_getI rfl rfl ?_
      refine ih_seg (i1 := 20) 1 rfl ?_
      refine ih_getI rfl rfl ?_
      refine ih_icmp_ge rfl (by omega) (by omega) (fun w2 => ?_) (fun w2 => ?_)
      · rw [ih_vT, if_pos (k0.2 (by omega))] at K
        exact K i t1 (ih_fR_r t1) (Or.inl ⟨hw, hi, rfl, hs⟩)
      · refine ih_seg (i1 := 25) 3 rfl ?_
        refine ih_getI rfl rfl ?_
        refine ih_iv1 182 rfl rfl (by first | rfl | exact ih_kP (ih_P_w0 hc) |  exact ih_kP (by assumption) | exact ih_kC (by assumption) | exact ih_kN (by assumption) | exact ih_kS (by assumption) | exact ih_kW (by assumption)) (Nat.le_of_ble_eq_true rfl) (Nat.le_of_ble_eq_true rfl) rfl ?_
        rw [e13]
        refine r_byteAt C.2 (by omega) ?_
        refine ih_seg (i1 := 28) 1 rfl ?_
        refine ih_icmp_ne rfl (by omega) (by omega) (fun w3 => ?_) (fun w3 => ?_)
        · refine ih_seg (i1 := 32) 1 rfl ?_
          refine ih_iv1 186 rfl rfl (by first | rfl | exact ih_kP (ih_P_w0 hc) |  exact ih_kP (by assumption) | exact ih_kC (by assumption) | exact ih_kN (by assumption) | exact ih_kS (by assumption) | exact ih_kW (by assumption)) (Nat.le_of_ble_eq_true rfl) (Nat.le_of_ble_eq_true rfl) rfl ?_
          refine r_needs0 C hw ?_
          refine ih_seg (i1 := 34) 1 rfl ?_
          refine ih_iv0 195 rfl rfl (by first | rfl | exact ih_kP (ih_P_w0 hc) |  exact ih_kP (by assumption) | exact ih_kC (by assumption) | exact ih_kN (by assumption) | exact ih_kS (by assumption) | exact ih_kW (by assumption)) (Nat.le_of_ble_eq_true rfl) (Nat.le_of_ble_eq_true rfl) rfl ?_
          refine r_item_w (ih_TR_x C) ih_x16 ?_
          refine ih_seg (i1 := 14) 2 rfl ?_
          try simp only [xa_set, List.set_cons_zero, List.set_cons_succ, List.getElem?_cons_zero, List.getElem?_cons_succ]
          rw [ih_vT, if_neg (by omega), if_neg (by omega)] at K
          refine r_text_w14 ih_x16 (K (i + 1) _ (ih_fR_x (ih_fR_r t1)) (Or.inr ⟨ih_x16, ?_, ?_⟩))
          · dsimp only
            rw [ih_up_eq, ih_u1_ne (by decide), e13]
          · rw [ih_up_eq, ih_u1_ne (by decide), e13]
            exact hst.1
        · refine ih_seg (i1 := 32) 2 rfl ?_
          refine ih_iv1 186 rfl rfl (by first | rfl | exact ih_kP (ih_P_w0 hc) |  exact ih_kP (by assumption) | exact ih_kC (by assumption) | exact ih_kN (by assumption) | exact ih_kS (by assumption) | exact ih_kW (by assumption)) (Nat.le_of_ble_eq_true rfl) (Nat.le_of_ble_eq_true rfl) rfl ?_
          refine r_needs1 C hw (fun t2 f2 g2 z2 C2 => ?_)
          have e2 : t2 112 = s := (f2 112 (by decide)).trans hs
          refine ih_seg (i1 := 34) 1 rfl ?_
          refine ih_iv0 195 rfl rfl (by first | rfl | exact ih_kP (ih_P_w0 hc) |  exact ih_kP (by assumption) | exact ih_kC (by assumption) | exact ih_kN (by assumption) | exact ih_kS (by assumption) | exact ih_kW (by assumption)) (Nat.le_of_ble_eq_true rfl) (Nat.le_of_ble_eq_true rfl) rfl ?_
          refine r_item C2 (by rw [e2]; exact G) z2 (fun t3 r3 C3 h1 h0 => ?_)
          rw [e2] at C3 h1 h0
          refine ih_seg (i1 := 14) 2 rfl ?_
          try simp only [xa_set, List.set_cons_zero, List.set_cons_succ, List.getElem?_cons_zero, List.getElem?_cons_succ]
          rw [ih_vT, if_neg (by omega), if_pos (by omega)] at K
          have fr := ih_fR_t (ih_fR_n f2 g2) r3
          have ee := ih_pT_e (f := f) (n := n) (st := ih_adv f n st) (s := s) (by omega)
          rw [ee] at C3 h0
          refine r_text_w14 (h0 rfl) (K (i + 1) t3 fr (Or.inr ⟨h0 rfl, ?_, ?_⟩))
          · rw [C3.1.1, ih_pL]
          · rw [C3.1.1]
            dsimp only
            omega

  | succ d ih =>
    intro i st s t1 hd hi hp C hw hs G K
    have hst := C.1.2.2
    have hn := C.2.2.1
    have e13 := C.1.1
    have e12 := C.2.1
    have k3 := ih_kk3 (f := f) (n := n) (st := st)
    have k0 := ih_kk0 (f := f) (n := n) (st := st)
    have hba := ih_ba_rg C.2 hst.1
    have hbv := ih_ba_v (f := f) (n := n) (i := st) (v := 59) (by decide)
    have had := ih_adv_b (f := f) (n := n) (st := st) (by omega)
    refine ih_seg (i1 := 15) 1 rfl ?_
    refine ih_getI rfl rfl ?_
    refine ih_ifc_ne rfl (by omega) (fun w1 => ?_) (fun w1 => ?_)
    · exfalso
      omega
    · refine ih_seg (i1 := 18) 1 rfl ?_
      refine ih_getI rfl rfl ?_
      refine ih_seg (i1 := 20) 1 rfl ?_
      refine ih_getI rfl rfl ?_
      refine ih_icmp_ge rfl (by omega) (by omega) (fun w2 => ?_) (fun w2 => ?_)
      · rw [ih_vT, if_pos (k0.2 (by omega))] at K
        exact K i t1 (ih_fR_r t1) (Or.inl ⟨hw, hi, rfl, hs⟩)
      · refine ih_seg (i1 := 25) 3 rfl ?_
        refine ih_getI rfl rfl ?_
        refine ih_iv1 182 rfl rfl (by first | rfl | exact ih_kP (ih_P_w0 hc) |  exact ih_kP (by assumption) | exact ih_kC (by assumption) | exact ih_kN (by assumption) | exact ih_kS (by assumption) | exact ih_kW (by assumption)) (Nat.le_of_ble_eq_true rfl) (Nat.le_of_ble_eq_true rfl) rfl ?_
        rw [e13]
        refine r_byteAt C.2 (by omega) ?_
        refine ih_seg (i1 := 28) 1 rfl ?_
        refine ih_icmp_ne rfl (by omega) (by omega) (fun w3 => ?_) (fun w3 => ?_)
        · refine ih_seg (i1 := 32) 1 rfl ?_
          refine ih_iv1 186 rfl rfl (by first | rfl | exact ih_kP (ih_P_w0 hc) |  exact ih_kP (by assumption) | exact ih_kC (by assumption) | exact ih_kN (by assumption) | exact ih_kS (by assumption) | exact ih_kW (by assumption)) (Nat.le_of_ble_eq_true rfl) (Nat.le_of_ble_eq_true rfl) rfl ?_
          refine r_needs0 C hw ?_
          refine ih_seg (i1 := 34) 1 rfl ?_
          refine ih_iv0 195 rfl rfl (by first | rfl | exact ih_kP (ih_P_w0 hc) |  exact ih_kP (by assumption) | exact ih_kC (by assumption) | exact ih_kN (by assumption) | exact ih_kS (by assumption) | exact ih_kW (by assumption)) (Nat.le_of_ble_eq_true rfl) (Nat.le_of_ble_eq_true rfl) rfl ?_
          refine r_item_w (ih_TR_x C) ih_x16 ?_
          refine ih_seg (i1 := 14) 2 rfl ?_
          try simp only [xa_set, List.set_cons_zero, List.set_cons_succ, List.getElem?_cons_zero, List.getElem?_cons_succ]
          rw [ih_vT, if_neg (by omega), if_neg (by omega)] at K
          refine r_text_w14 ih_x16 (K (i + 1) _ (ih_fR_x (ih_fR_r t1)) (Or.inr ⟨ih_x16, ?_, ?_⟩))
          · dsimp only
            rw [ih_up_eq, ih_u1_ne (by decide), e13]
          · rw [ih_up_eq, ih_u1_ne (by decide), e13]
            exact hst.1
        · refine ih_seg (i1 := 32) 2 rfl ?_
          refine ih_iv1 186 rfl rfl (by first | rfl | exact ih_kP (ih_P_w0 hc) |  exact ih_kP (by assumption) | exact ih_kC (by assumption) | exact ih_kN (by assumption) | exact ih_kS (by assumption) | exact ih_kW (by assumption)) (Nat.le_of_ble_eq_true rfl) (Nat.le_of_ble_eq_true rfl) rfl ?_
          refine r_needs1 C hw (fun t2 f2 g2 z2 C2 => ?_)
          have e2 : t2 112 = s := (f2 112 (by decide)).trans hs
          refine ih_seg (i1 := 34) 1 rfl ?_
          refine ih_iv0 195 rfl rfl (by first | rfl | exact ih_kP (ih_P_w0 hc) |  exact ih_kP (by assumption) | exact ih_kC (by assumption) | exact ih_kN (by assumption) | exact ih_kS (by assumption) | exact ih_kW (by assumption)) (Nat.le_of_ble_eq_true rfl) (Nat.le_of_ble_eq_true rfl) rfl ?_
          refine r_item C2 (by rw [e2]; exact G) z2 (fun t3 r3 C3 h1 h0 => ?_)
          rw [e2] at C3 h1 h0
          refine ih_seg (i1 := 14) 2 rfl ?_
          try simp only [xa_set, List.set_cons_zero, List.set_cons_succ, List.getElem?_cons_zero, List.getElem?_cons_succ]
          rw [ih_vT, if_neg (by omega), if_pos (by omega)] at K
          have fr := ih_fR_t (ih_fR_n f2 g2) r3
          have hb := ih_pT_b (f := f) (n := n) (st := ih_adv f n st) (s := s) (by omega)
          rw [ih_pL_s] at K
          rcases ih_pT_01 (f := f) (n := n) (st := ih_adv f n st) (s := s) with e | e
          · rw [if_pos e] at K
            refine r_text_w14 (h0 e) (K (i + 1) t3 fr (Or.inr ⟨h0 e, ?_, ?_⟩))
            · rw [C3.1.1]
            · rw [C3.1.1]
              omega
          · rw [if_neg (by omega)] at K
            exact ih (i + 1) _ _ t3 (by omega) (by omega) (by omega) C3 (h1 e).1 (h1 e).2 (ih_pT_G G) (fun i2 t4 r4 => K i2 t4 (ih_fR_t fr r4))


theorem r_text_37 {X : List Int} {t : ih_S} {Q : Option xa_V → ih_S → Prop} {i : Int} (hw : t 111 16 = 0 ∨ t 111 16 = 1) (K : ∀ t1, (∀ j, j ≠ 111 → j ≠ 112 → t1 j = t j) → (∀ g : Int, g ≠ 12 → t1 111 g = t 111 g) → t1 111 12 = 0 → (t 111 16 = 0 → t1 112 = t 112) → (t 111 16 = 1 → ∀ x : Int, 0 ≤ x → x < 228 → t1 112 x = t 114 x) → Q (some (xI (if t 111 16 = 0 then i else -1 - t 111 13))) t1)  : ih_Wp X 194 37 [xR 111, xI i] [] t Q := by
  refine ih_seg (i1 := 39) 2 rfl ?_
  refine ih_putI rfl rfl rfl ?_
  refine ih_seg (i1 := 41) 1 rfl ?_
  refine ih_getI rfl rfl ?_
  rw [ih_up_eq, ih_u1_ne (by decide)]
  refine ih_ifc_eq rfl (by omega) (fun w1 => ?_) (fun w1 => ?_)
  · refine ih_seg (i1 := 51) 1 rfl ?_
    refine ih_ret rfl rfl ?_
    have h0 : t 111 16 = 0 := by omega
    rw [if_pos h0] at K
    refine K _ (fun j h _ => ih_up_ne h) (fun g h => by rw [ih_up_eq, ih_u1_ne h]) (by rw [ih_up_eq, ih_u1_eq]) (fun _ => ih_up_ne (by decide)) (fun h => ?_)
    omega
  · refine ih_seg (i1 := 44) 1 rfl ?_
    refine ih_iv0 168 rfl rfl (by first | rfl | exact ih_kP (ih_P_w0 hc) |  exact ih_kP (by assumption) | exact ih_kC (by assumption) | exact ih_kN (by assumption) | exact ih_kS (by assumption) | exact ih_kW (by assumption)) (Nat.le_of_ble_eq_true rfl) (Nat.le_of_ble_eq_true rfl) rfl ?_
    refine r_putsBack (fun t1 f1 e1 => ?_)
    refine ih_seg (i1 := 47) 2 rfl ?_
    refine ih_getI rfl rfl ?_
    refine ih_seg (i1 := 49) 1 rfl ?_
    try dsimp only
    refine ih_ret rfl rfl ?_
    have h0 : ¬ t 111 16 = 0 := by omega
    rw [if_neg h0] at K
    refine ih_Qe ?_ (K t1 (fun j h h2 => by rw [f1 j h2, ih_up_ne h]) (fun g h => by rw [f1 111 (by decide), ih_up_eq, ih_u1_ne h]) (by rw [f1 111 (by decide), ih_up_eq, ih_u1_eq]) (fun h => absurd h h0) (fun _ x a b => ?_))
    · rw [f1 111 (by decide), ih_up_eq, ih_u1_ne (by decide)]
    · rw [e1]
      dsimp only
      rw [if_pos ⟨a, b⟩, ih_up_ne (by decide)]


theorem r_op_text {X : List Int} {t : ih_S} {Q : Option xa_V → ih_S → Prop} {f : Int → Int} {n : Int} (T : ih_BR t f n) (G : ih_Gd (t 112)) (K : ∀ t1, (∀ j, j ≠ 111 → j ≠ 112 → j ≠ 114 → t1 j = t j) → (∀ g : Int, g < 12 ∨ 16 < g → t1 111 g = t 111 g) → t1 111 12 = 0 → (∀ x : Int, 0 ≤ x → x < 228 → t1 112 x = g_text f n (t 112) x) → Q (some (xI (v_text f n (t 112)))) t1)  : ih_Wp X 194 0 [xR 111, xC 1] [] t Q := by
  have hT := T.2.1
  have hsb := ih_sp_b (f := f) (n := n) (e := 0) hT.1
  refine ih_seg (i1 := 1) 1 rfl ?_
  refine ih_iv0 167 rfl rfl (by first | rfl | exact ih_kP (ih_P_w0 hc) |  exact ih_kP (by assumption) | exact ih_kC (by assumption) | exact ih_kN (by assumption) | exact ih_kS (by assumption) | exact ih_kW (by assumption)) (Nat.le_of_ble_eq_true rfl) (Nat.le_of_ble_eq_true rfl) rfl ?_
  refine r_puts (fun t1 f1 e1 => ?_)
  have e12 : t1 112 = t 112 := f1 112 (by decide)
  have e11 : t1 111 = t 111 := f1 111 (by decide)
  refine ih_seg (i1 := 4) 2 rfl ?_
  refine ih_putI rfl rfl rfl ?_
  refine ih_seg (i1 := 7) 2 rfl ?_
  refine ih_putI rfl rfl rfl ?_
  refine ih_seg (i1 := 9) 1 rfl ?_
  refine ih_iv0 185 rfl rfl (by first | rfl | exact ih_kP (ih_P_w0 hc) |  exact ih_kP (by assumption) | exact ih_kC (by assumption) | exact ih_kN (by assumption) | exact ih_kS (by assumption) | exact ih_kW (by assumption)) (Nat.le_of_ble_eq_true rfl) (Nat.le_of_ble_eq_true rfl) rfl ?_
  refine r_token (f := f) (n := n) (ih_BR_of T (by simp only [ih_up_eq, ih_u1x, reduceIte, Int.reduceEq, if_false, if_true]; rw [e11]) (by rw [ih_up_ne (by decide), ih_up_ne (by decide), f1 117 (by decide)])) (by simp only [ih_up_eq, ih_u1x, reduceIte, Int.reduceEq, if_false, if_true]; omega) (fun t2 f2 g2 C2 => ?_)
  simp only [ih_up_eq, ih_u1x, reduceIte, Int.reduceEq, if_false, if_true] at C2
  have z2 : t2 111 16 = 0 := by
    rw [g2 16 (by decide) (by decide)]
    simp only [ih_up_eq, ih_u1x, reduceIte, Int.reduceEq, if_false, if_true]
  have e2 : t2 112 = t 112 := by rw [f2 112 (by decide), ih_up_ne (by decide), ih_up_ne (by decide), e12]
  have e4 : t2 114 = t1 114 := by rw [f2 114 (by decide), ih_up_ne (by decide), ih_up_ne (by decide)]
  have fr2 : ∀ j, j ≠ 111 → j ≠ 112 → j ≠ 114 → t2 j = t j := fun j h h2 h3 => by rw [f2 j h, ih_up_ne h, ih_up_ne h, f1 j h3]
  have gr2 : ∀ g : Int, g < 13 ∨ 16 < g → t2 111 g = t 111 g := fun g h => by rw [g2 g (by omega) (by omega), ih_up_eq, ih_u1_ne (by omega), ih_up_eq, ih_u1_ne (by omega), e11]
  refine ih_seg (i1 := 13) 3 rfl ?_
  try simp only [xa_set, List.set_cons_zero, List.set_cons_succ, List.getElem?_cons_zero, List.getElem?_cons_succ]
  refine ih_iv0 195 rfl rfl (by first | rfl | exact ih_kP (ih_P_w0 hc) |  exact ih_kP (by assumption) | exact ih_kC (by assumption) | exact ih_kN (by assumption) | exact ih_kS (by assumption) | exact ih_kW (by assumption)) (Nat.le_of_ble_eq_true rfl) (Nat.le_of_ble_eq_true rfl) rfl ?_
  refine r_item C2 (by rw [e2]; exact G) z2 (fun t3 r3 C3 h1 h0 => ?_)
  rw [e2] at C3 h1 h0
  have hb := ih_pT_b (f := f) (n := n) (st := ih_sp f n 0) (s := t 112) (by omega)
  have KE : ∀ (i2 : Int) t9, ih_fR t3 t9 → ((t9 111 16 = 0 ∧ 1 ≤ i2 ∧ v_text f n (t 112) = i2 ∧ t9 112 = (ih_pL f n 120 1 (ih_sp f n 0) (t 112)).2) ∨ (t9 111 16 = 1 ∧ v_text f n (t 112) = -1 - t9 111 13 ∧ 0 ≤ t9 111 13)) → ih_Wp X 194 37 [xR 111, xI i2] [] t9 Q := by
    intro i2 t9 r9 h9
    have fr9 := ih_fR_t r3 r9
    refine r_text_37 (by omega) (fun t10 f10 g10 z10 hok hno => ?_)
    have fa : ∀ j, j ≠ 111 → j ≠ 112 → j ≠ 114 → t10 j = t j := fun j h h2 h3 => by rw [f10 j h h2, fr9.1 j h h2, fr2 j h h2 h3]
    have ga : ∀ g : Int, g < 12 ∨ 16 < g → t10 111 g = t 111 g := fun g h => by rw [g10 g (by omega), fr9.2 g (by omega), gr2 g (by omega)]
    rcases h9 with ⟨a1, a2, a3, a4⟩ | ⟨a1, a2, a3⟩
    · rw [if_pos a1, ← a3]
      refine K t10 fa ga z10 (fun x b0 b1 => ?_)
      rw [hok a1, a4, g_text, if_pos (by omega)]
    · rw [if_neg (by omega), ← a2]
      refine K t10 fa ga z10 (fun x b0 b1 => ?_)
      rw [hno a1 x b0 b1, g_text, if_neg (by omega), fr9.1 114 (by decide) (by decide), e4, e1]
      exact if_pos ⟨b0, b1⟩
  have ev : v_text f n (t 112) = (ih_pL f n 120 1 (ih_sp f n 0) (t 112)).1 := rfl
  rw [ev, ih_pL_s] at KE
  rcases ih_pT_01 (f := f) (n := n) (st := ih_sp f n 0) (s := t 112) with e | e
  · rw [if_pos e] at KE
    refine r_text_w14 (h0 e) (KE 1 t3 (ih_fR_r t3) (Or.inr ⟨h0 e, ?_, ?_⟩))
    · rw [C3.1.1]
    · rw [C3.1.1]
      omega
  · rw [if_neg (by omega)] at KE
    exact r_text_l 119 1 _ _ t3 (by omega) (by omega) (by omega) C3 (h1 e).1 (h1 e).2 (ih_pT_G G) KE

