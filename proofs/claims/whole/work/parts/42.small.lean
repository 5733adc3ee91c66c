/-! hours, ink, light, write, turn, copied, seed -/
def f_hours (s : Int → Int) (a : Int) : ih_An := if 1 ≤ a ∧ a ≤ 1000 then (if 9999 < s 0 + a then ih_no 4 else ih_ok1 (s 0 + a)) else ih_no 0
def f_ink (s : Int → Int) (a b d : Int) : ih_An := if (0 ≤ a ∧ a < 8) ∧ ((b = 0 ∧ 1 ≤ d ∧ d ≤ 999) ∨ (b = 1 ∧ 0 ≤ d ∧ d ≤ 99)) then ih_ok1 (if b = 0 then s (2 + a) else s (10 + a)) else ih_no 0
def g_ink (s : Int → Int) (a b d : Int) : Int → Int := if b = 0 then ih_u1 s (2 + a) d else ih_u1 s (10 + a) d
def f_light (s : Int → Int) (a : Int) : ih_An := if 0 ≤ a ∧ a < 4 then ih_ok1 (s (18 + a)) else ih_no 0
def f_write (s : Int → Int) (a b d e : Int) : ih_An := if (0 ≤ a ∧ a < 4) ∧ (0 ≤ b ∧ b < 7) ∧ (0 ≤ d ∧ d < 4) ∧ 0 ≤ e ∧ e < 8 then (if s (22 + a) = 12 then ih_no 1 else ih_ok1 (s (22 + a))) else ih_no 0
def f_turn (s : Int → Int) (a b d : Int) : ih_An := if ((0 ≤ a ∧ a < 4) ∧ 0 ≤ b ∧ b < s (22 + a)) ∧ 0 ≤ d ∧ d < 7 then ih_ok1 (s (26 + 48 * a + 4 * b)) else ih_no 0
def f_copied (s : Int → Int) (a b d : Int) : ih_An := if ((0 ≤ a ∧ a < 4) ∧ 0 ≤ b ∧ b < s (22 + a)) ∧ 0 ≤ d ∧ d < 8 then ih_ok1 (s (26 + 48 * a + 4 * b + 2)) else ih_no 0
def g_cop (s : Int → Int) (a b d : Int) : Int → Int := ih_u1 (ih_u1 s (26 + 48 * a + 4 * b + 2) d) (26 + 48 * a + 4 * b + 3) (s 0)

theorem c_op_hours {X : List Int} {t : ih_S} {Q : Option xa_V → ih_S → Prop} {s : Int → Int} {a : Int} (ha : xa_rI a) (W : ih_Wr t 1 s) (G : ih_Gd s) (K : ih_chC t (f_hours s a) (ih_u1 s 0 (s 0 + a)) Q) : ih_Wp X 59 0 [xR 0, xI a] [] t Q := by
  have nw : t 1 5 = s 0 := W.now
  have gn := G.now
  refine ih_seg (i1 := 3) 3 rfl ?_
  refine ih_is3 103 rfl rfl (Nat.le_of_ble_eq_true rfl) (Nat.le_of_ble_eq_true rfl) rfl ?_
  refine c_within (by omega) (by omega) (by omega) (fun w1 => ?_) (fun w2 => ?_)
  · refine ih_seg (i1 := 10) 2 rfl ?_
    refine ih_getR rfl rfl ?_
    refine ih_getI rfl (by first | rfl | exact ih_fW5 (by assumption)) ?_
    refine ih_seg (i1 := 15) 3 rfl ?_
    try dsimp only
    refine ih_icmp_le rfl (by omega) (by omega) (fun w3 => ?_) (fun w3 => ?_)
    · refine ih_seg (i1 := 21) 1 rfl ?_
      refine ih_getR rfl rfl ?_
      refine ih_seg (i1 := 23) 1 rfl ?_
      refine ih_getI rfl (by first | rfl | exact ih_fW5 (by assumption)) ?_
      refine ih_seg (i1 := 26) 2 rfl ?_
      try dsimp only
      refine ih_putI rfl (by first | rfl | exact ih_fW5 (by assumption)) rfl ?_
      refine ih_seg (i1 := 28) 1 rfl ?_
      refine ih_getR rfl rfl ?_
      refine ih_getI rfl (by first | rfl | exact ih_fW5 (by assumption)) ?_
      refine ih_ret rfl rfl ?_
      first
        | exact ih_chC_no K (by rw [f_hours, if_pos (by omega), if_pos (by omega)]) (ih_sc_r _)
        | exact ih_chC_no K (by rw [f_hours, if_neg (by omega)]) (ih_sc_r _)
        | (refine ih_chC_ok K ?_ ?_ ?_
           · rw [f_hours, if_pos (by omega), if_neg (by omega), ih_up_eq, ih_u1_eq, nw]
           · rw [nw]
             exact ih_Wu_now G W
           · exact ih_cf_u (ih_cf_r t) (by omega))
    · refine ih_seg (i1 := 18) 2 rfl ?_
      refine ih_iv1 102 rfl rfl (by first | rfl | exact ih_kP (ih_P_w0 hc) |  exact ih_kP (by assumption) | exact ih_kC (by assumption) | exact ih_kN (by assumption) | exact ih_kS (by assumption) | exact ih_kW (by assumption)) (Nat.le_of_ble_eq_true rfl) (Nat.le_of_ble_eq_true rfl) rfl ?_
      refine c_finding (by omega) ?_
      refine ih_ret rfl rfl ?_
      first
        | exact ih_chC_no K (by rw [f_hours, if_pos (by omega), if_pos (by omega)]) (ih_sc_r _)
        | exact ih_chC_no K (by rw [f_hours, if_neg (by omega)]) (ih_sc_r _)
        | (refine ih_chC_ok K ?_ ?_ ?_
           · rw [f_hours, if_pos (by omega), if_neg (by omega), ih_up_eq, ih_u1_eq, nw]
           · rw [nw]
             exact ih_Wu_now G W
           · exact ih_cf_u (ih_cf_r t) (by omega))
  · refine ih_seg (i1 := 7) 3 rfl ?_
    refine ih_iv1 102 rfl rfl (by first | rfl | exact ih_kP (ih_P_w0 hc) |  exact ih_kP (by assumption) | exact ih_kC (by assumption) | exact ih_kN (by assumption) | exact ih_kS (by assumption) | exact ih_kW (by assumption)) (Nat.le_of_ble_eq_true rfl) (Nat.le_of_ble_eq_true rfl) rfl ?_
    refine c_finding (by omega) ?_
    refine ih_ret rfl rfl ?_
    first
      | exact ih_chC_no K (by rw [f_hours, if_pos (by omega), if_pos (by omega)]) (ih_sc_r _)
      | exact ih_chC_no K (by rw [f_hours, if_neg (by omega)]) (ih_sc_r _)
      | (refine ih_chC_ok K ?_ ?_ ?_
         · rw [f_hours, if_pos (by omega), if_neg (by omega), ih_up_eq, ih_u1_eq, nw]
         · rw [nw]
           exact ih_Wu_now G W
         · exact ih_cf_u (ih_cf_r t) (by omega))


theorem r_op_hours {X : List Int} {t : ih_S} {Q : Option xa_V → ih_S → Prop} {a : Int} (ha : xa_rI a) (G : ih_Gd (t 112)) (K : ih_chR t (f_hours (t 112) a) (ih_u1 (t 112) 0 (t 112 0 + a)) Q) : ih_Wp X 135 0 [xR 111, xI a] [] t Q := by
  have gn := G.now
  refine ih_seg (i1 := 1) 1 rfl ?_
  refine ih_i2l rfl (by omega) ?_
  refine ih_seg (i1 := 4) 2 rfl ?_
  refine ih_is3 126 rfl rfl (Nat.le_of_ble_eq_true rfl) (Nat.le_of_ble_eq_true rfl) rfl ?_
  refine r_in (by omega) (by omega) (by omega) (fun w1 => ?_) (fun w2 => ?_)
  · refine ih_seg (i1 := 11) 2 rfl ?_
    refine ih_getR rfl rfl ?_
    refine ih_seg (i1 := 13) 1 rfl ?_
    refine ih_iald rfl (by first | rfl | exact ih_lP1 (ih_P_w0 hc) | exact ih_lP2 (ih_P_w0 hc) | exact ih_lP3 (ih_P_w0 hc) | exact ih_lP4 (ih_P_w0 hc) |  exact ih_lP1 (by assumption) | exact ih_lP2 (by assumption) | exact ih_lP3 (by assumption) | exact ih_lP4 (by assumption) | exact ih_lC1 (by assumption) | exact ih_lS1 (by assumption) | exact ih_lW1 (by assumption) | exact ih_lW2 (by assumption) | exact ih_lW4 (by assumption) | exact ih_lW5 (by assumption)) (by omega) (by omega) (k := ?_)
    refine ih_seg (i1 := 17) 3 rfl ?_
    try dsimp only
    refine ih_icmp_le rfl (by omega) (by omega) (fun w3 => ?_) (fun w3 => ?_)
    · refine ih_seg (i1 := 23) 1 rfl ?_
      refine ih_getR rfl rfl ?_
      refine ih_seg (i1 := 26) 2 rfl ?_
      refine ih_iald rfl (by first | rfl | exact ih_lP1 (ih_P_w0 hc) | exact ih_lP2 (ih_P_w0 hc) | exact ih_lP3 (ih_P_w0 hc) | exact ih_lP4 (ih_P_w0 hc) |  exact ih_lP1 (by assumption) | exact ih_lP2 (by assumption) | exact ih_lP3 (by assumption) | exact ih_lP4 (by assumption) | exact ih_lC1 (by assumption) | exact ih_lS1 (by assumption) | exact ih_lW1 (by assumption) | exact ih_lW2 (by assumption) | exact ih_lW4 (by assumption) | exact ih_lW5 (by assumption)) (by omega) (by omega) (k := ?_)
      refine ih_seg (i1 := 29) 2 rfl ?_
      try dsimp only
      refine ih_iast rfl (by first | rfl | exact ih_lP1 (ih_P_w0 hc) | exact ih_lP2 (ih_P_w0 hc) | exact ih_lP3 (ih_P_w0 hc) | exact ih_lP4 (ih_P_w0 hc) |  exact ih_lP1 (by assumption) | exact ih_lP2 (by assumption) | exact ih_lP3 (by assumption) | exact ih_lP4 (by assumption) | exact ih_lC1 (by assumption) | exact ih_lS1 (by assumption) | exact ih_lW1 (by assumption) | exact ih_lW2 (by assumption) | exact ih_lW4 (by assumption) | exact ih_lW5 (by assumption)) (by omega) (by omega) (k := ?_)
      refine ih_seg (i1 := 31) 1 rfl ?_
      refine ih_getR rfl rfl ?_
      refine ih_seg (i1 := 33) 1 rfl ?_
      refine ih_iald rfl (by first | rfl | exact ih_lP1 (ih_P_w0 hc) | exact ih_lP2 (ih_P_w0 hc) | exact ih_lP3 (ih_P_w0 hc) | exact ih_lP4 (ih_P_w0 hc) |  exact ih_lP1 (by assumption) | exact ih_lP2 (by assumption) | exact ih_lP3 (by assumption) | exact ih_lP4 (by assumption) | exact ih_lC1 (by assumption) | exact ih_lS1 (by assumption) | exact ih_lW1 (by assumption) | exact ih_lW2 (by assumption) | exact ih_lW4 (by assumption) | exact ih_lW5 (by assumption)) (by omega) (by omega) (k := ?_)
      refine ih_ret rfl rfl ?_
      first
        | exact ih_chR_no 4 K (by rw [f_hours, if_pos (by omega), if_pos (by omega)]) rfl (ih_rr_r _)
        | exact ih_chR_no 0 K (by rw [f_hours, if_neg (by omega)]) rfl (ih_rr_r _)
        | (refine ih_chR_ok K ?_ ?_ ?_
           · rw [f_hours, if_pos (by omega), if_neg (by omega), ih_up_eq, ih_u1_eq]
           · rw [ih_up_eq]
           · exact ih_rg_u (ih_rg_r t) (by omega))
    · refine ih_seg (i1 := 20) 2 rfl ?_
      refine ih_iv1 127 rfl rfl (by first | rfl | exact ih_kP (ih_P_w0 hc) |  exact ih_kP (by assumption) | exact ih_kC (by assumption) | exact ih_kN (by assumption) | exact ih_kS (by assumption) | exact ih_kW (by assumption)) (Nat.le_of_ble_eq_true rfl) (Nat.le_of_ble_eq_true rfl) rfl ?_
      refine r_finds 4 rfl (by omega) ?_
      refine ih_ret rfl rfl ?_
      first
        | exact ih_chR_no 4 K (by rw [f_hours, if_pos (by omega), if_pos (by omega)]) rfl (ih_rr_r _)
        | exact ih_chR_no 0 K (by rw [f_hours, if_neg (by omega)]) rfl (ih_rr_r _)
        | (refine ih_chR_ok K ?_ ?_ ?_
           · rw [f_hours, if_pos (by omega), if_neg (by omega), ih_up_eq, ih_u1_eq]
           · rw [ih_up_eq]
           · exact ih_rg_u (ih_rg_r t) (by omega))
  · refine ih_seg (i1 := 8) 3 rfl ?_
    refine ih_iv1 127 rfl rfl (by first | rfl | exact ih_kP (ih_P_w0 hc) |  exact ih_kP (by assumption) | exact ih_kC (by assumption) | exact ih_kN (by assumption) | exact ih_kS (by assumption) | exact ih_kW (by assumption)) (Nat.le_of_ble_eq_true rfl) (Nat.le_of_ble_eq_true rfl) rfl ?_
    refine r_finds 0 rfl (by omega) ?_
    refine ih_ret rfl rfl ?_
    first
      | exact ih_chR_no 4 K (by rw [f_hours, if_pos (by omega), if_pos (by omega)]) rfl (ih_rr_r _)
      | exact ih_chR_no 0 K (by rw [f_hours, if_neg (by omega)]) rfl (ih_rr_r _)
      | (refine ih_chR_ok K ?_ ?_ ?_
         · rw [f_hours, if_pos (by omega), if_neg (by omega), ih_up_eq, ih_u1_eq]
         · rw [ih_up_eq]
         · exact ih_rg_u (ih_rg_r t) (by omega))


theorem c_op_ink {X : List Int} {t : ih_S} {Q : Option xa_V → ih_S → Prop} {s : Int → Int} {a b d : Int} (ha : xa_rI a) (hb : xa_rI b) (hd : xa_rI d) (W : ih_Wr t 1 s) (G : ih_Gd s) (K : ih_chC t (f_ink s a b d) (g_ink s a b d) Q) : ih_Wp X 60 0 [xR 0, xI a, xI b, xI d] [] t Q := by
  refine ih_seg (i1 := 1) 1 rfl ?_
  refine ih_is1 105 rfl rfl (Nat.le_of_ble_eq_true rfl) (Nat.le_of_ble_eq_true rfl) rfl ?_
  refine c_isInk (by omega) (fun w1 => ?_) (fun w2 => ?_)
  · refine ih_seg (i1 := 8) 2 rfl ?_
    refine ih_ifc_ne rfl (by omega) (fun w3 => ?_) (fun w3 => ?_)
    · refine ih_seg (i1 := 23) 2 rfl ?_
      refine ih_icmp_ne rfl (by omega) (by omega) (fun w4 => ?_) (fun w4 => ?_)
      · refine ih_seg (i1 := 38) 2 rfl ?_
        refine ih_iv1 102 rfl rfl (by first | rfl | exact ih_kP (ih_P_w0 hc) |  exact ih_kP (by assumption) | exact ih_kC (by assumption) | exact ih_kN (by assumption) | exact ih_kS (by assumption) | exact ih_kW (by assumption)) (Nat.le_of_ble_eq_true rfl) (Nat.le_of_ble_eq_true rfl) rfl ?_
        refine c_finding (by omega) ?_
        refine ih_ret rfl rfl ?_
        first
          | exact ih_chC_no K (by rw [f_ink, if_neg (by omega)]) (ih_sc_r _)
          | (obtain rfl : b = 0 := by omega
             have l1 : t 2 a = s (2 + a) := W.las a (by omega) (by omega)
             rw [show g_ink s a 0 d = ih_u1 s (2 + a) d from if_pos rfl] at K
             refine ih_chC_ok K ?_ (ih_Wu_las G (by omega) W) (ih_cf_u (ih_cf_r t) (by omega))
             rw [f_ink, if_pos (by omega), if_pos rfl, l1])
          | (obtain rfl : b = 1 := by omega
             have l1 : t 3 a = s (10 + a) := W.pri a (by omega) (by omega)
             rw [show g_ink s a 1 d = ih_u1 s (10 + a) d from if_neg (by decide)] at K
             refine ih_chC_ok K ?_ (ih_Wu_pri G (by omega) W) (ih_cf_u (ih_cf_r t) (by omega))
             rw [f_ink, if_pos (by omega), if_neg (by decide), l1])
      · refine ih_seg (i1 := 27) 3 rfl ?_
        refine ih_is3 103 rfl rfl (Nat.le_of_ble_eq_true rfl) (Nat.le_of_ble_eq_true rfl) rfl ?_
        refine c_within (by omega) (by omega) (by omega) (fun w5 => ?_) (fun w6 => ?_)
        · refine ih_seg (i1 := 30) 2 rfl ?_
          refine ih_getR rfl rfl ?_
          refine ih_getR rfl (by first | rfl | exact ih_fW1 (by assumption)) ?_
          refine ih_seg (i1 := 34) 2 rfl ?_
          refine ih_is3 115 rfl rfl (Nat.le_of_ble_eq_true rfl) (Nat.le_of_ble_eq_true rfl) rfl ?_
          refine c_exchange (n := 8) rfl (by decide) (by omega) ?_
          refine ih_ret rfl rfl ?_
          first
            | exact ih_chC_no K (by rw [f_ink, if_neg (by omega)]) (ih_sc_r _)
            | (obtain rfl : b = 0 := by omega
               have l1 : t 2 a = s (2 + a) := W.las a (by omega) (by omega)
               rw [show g_ink s a 0 d = ih_u1 s (2 + a) d from if_pos rfl] at K
               refine ih_chC_ok K ?_ (ih_Wu_las G (by omega) W) (ih_cf_u (ih_cf_r t) (by omega))
               rw [f_ink, if_pos (by omega), if_pos rfl, l1])
            | (obtain rfl : b = 1 := by omega
               have l1 : t 3 a = s (10 + a) := W.pri a (by omega) (by omega)
               rw [show g_ink s a 1 d = ih_u1 s (10 + a) d from if_neg (by decide)] at K
               refine ih_chC_ok K ?_ (ih_Wu_pri G (by omega) W) (ih_cf_u (ih_cf_r t) (by omega))
               rw [f_ink, if_pos (by omega), if_neg (by decide), l1])
        · refine ih_seg (i1 := 38) 3 rfl ?_
          refine ih_iv1 102 rfl rfl (by first | rfl | exact ih_kP (ih_P_w0 hc) |  exact ih_kP (by assumption) | exact ih_kC (by assumption) | exact ih_kN (by assumption) | exact ih_kS (by assumption) | exact ih_kW (by assumption)) (Nat.le_of_ble_eq_true rfl) (Nat.le_of_ble_eq_true rfl) rfl ?_
          refine c_finding (by omega) ?_
          refine ih_ret rfl rfl ?_
          first
            | exact ih_chC_no K (by rw [f_ink, if_neg (by omega)]) (ih_sc_r _)
            | (obtain rfl : b = 0 := by omega
               have l1 : t 2 a = s (2 + a) := W.las a (by omega) (by omega)
               rw [show g_ink s a 0 d = ih_u1 s (2 + a) d from if_pos rfl] at K
               refine ih_chC_ok K ?_ (ih_Wu_las G (by omega) W) (ih_cf_u (ih_cf_r t) (by omega))
               rw [f_ink, if_pos (by omega), if_pos rfl, l1])
            | (obtain rfl : b = 1 := by omega
               have l1 : t 3 a = s (10 + a) := W.pri a (by omega) (by omega)
               rw [show g_ink s a 1 d = ih_u1 s (10 + a) d from if_neg (by decide)] at K
               refine ih_chC_ok K ?_ (ih_Wu_pri G (by omega) W) (ih_cf_u (ih_cf_r t) (by omega))
               rw [f_ink, if_pos (by omega), if_neg (by decide), l1])
    · refine ih_seg (i1 := 12) 3 rfl ?_
      refine ih_is3 103 rfl rfl (Nat.le_of_ble_eq_true rfl) (Nat.le_of_ble_eq_true rfl) rfl ?_
      refine c_within (by omega) (by omega) (by omega) (fun w7 => ?_) (fun w8 => ?_)
      · refine ih_seg (i1 := 15) 2 rfl ?_
        refine ih_getR rfl rfl ?_
        refine ih_getR rfl (by first | rfl | exact ih_fW0 (by assumption)) ?_
        refine ih_seg (i1 := 19) 2 rfl ?_
        refine ih_is3 115 rfl rfl (Nat.le_of_ble_eq_true rfl) (Nat.le_of_ble_eq_true rfl) rfl ?_
        refine c_exchange (n := 8) rfl (by decide) (by omega) ?_
        refine ih_ret rfl rfl ?_
        first
          | exact ih_chC_no K (by rw [f_ink, if_neg (by omega)]) (ih_sc_r _)
          | (obtain rfl : b = 0 := by omega
             have l1 : t 2 a = s (2 + a) := W.las a (by omega) (by omega)
             rw [show g_ink s a 0 d = ih_u1 s (2 + a) d from if_pos rfl] at K
             refine ih_chC_ok K ?_ (ih_Wu_las G (by omega) W) (ih_cf_u (ih_cf_r t) (by omega))
             rw [f_ink, if_pos (by omega), if_pos rfl, l1])
          | (obtain rfl : b = 1 := by omega
             have l1 : t 3 a = s (10 + a) := W.pri a (by omega) (by omega)
             rw [show g_ink s a 1 d = ih_u1 s (10 + a) d from if_neg (by decide)] at K
             refine ih_chC_ok K ?_ (ih_Wu_pri G (by omega) W) (ih_cf_u (ih_cf_r t) (by omega))
             rw [f_ink, if_pos (by omega), if_neg (by decide), l1])
      · refine ih_seg (i1 := 23) 3 rfl ?_
        refine ih_icmp_ne rfl (by omega) (by omega) (fun w9 => ?_) (fun w9 => ?_)
        · refine ih_seg (i1 := 38) 2 rfl ?_
          refine ih_iv1 102 rfl rfl (by first | rfl | exact ih_kP (ih_P_w0 hc) |  exact ih_kP (by assumption) | exact ih_kC (by assumption) | exact ih_kN (by assumption) | exact ih_kS (by assumption) | exact ih_kW (by assumption)) (Nat.le_of_ble_eq_true rfl) (Nat.le_of_ble_eq_true rfl) rfl ?_
          refine c_finding (by omega) ?_
          refine ih_ret rfl rfl ?_
          first
            | exact ih_chC_no K (by rw [f_ink, if_neg (by omega)]) (ih_sc_r _)
            | (obtain rfl : b = 0 := by omega
               have l1 : t 2 a = s (2 + a) := W.las a (by omega) (by omega)
               rw [show g_ink s a 0 d = ih_u1 s (2 + a) d from if_pos rfl] at K
               refine ih_chC_ok K ?_ (ih_Wu_las G (by omega) W) (ih_cf_u (ih_cf_r t) (by omega))
               rw [f_ink, if_pos (by omega), if_pos rfl, l1])
            | (obtain rfl : b = 1 := by omega
               have l1 : t 3 a = s (10 + a) := W.pri a (by omega) (by omega)
               rw [show g_ink s a 1 d = ih_u1 s (10 + a) d from if_neg (by decide)] at K
               refine ih_chC_ok K ?_ (ih_Wu_pri G (by omega) W) (ih_cf_u (ih_cf_r t) (by omega))
               rw [f_ink, if_pos (by omega), if_neg (by decide), l1])
        · refine ih_seg (i1 := 27) 3 rfl ?_
          refine ih_is3 103 rfl rfl (Nat.le_of_ble_eq_true rfl) (Nat.le_of_ble_eq_true rfl) rfl ?_
          refine c_within (by omega) (by omega) (by omega) (fun w10 => ?_) (fun w11 => ?_)
          · refine ih_seg (i1 := 30) 2 rfl ?_
            refine ih_getR rfl rfl ?_
            refine ih_getR rfl (by first | rfl | exact ih_fW1 (by assumption)) ?_
            refine ih_seg (i1 := 34) 2 rfl ?_
            refine ih_is3 115 rfl rfl (Nat.le_of_ble_eq_true rfl) (Nat.le_of_ble_eq_true rfl) rfl ?_
            refine c_exchange (n := 8) rfl (by decide) (by omega) ?_
            refine ih_ret rfl rfl ?_
            first
              | exact ih_chC_no K (by rw [f_ink, if_neg (by omega)]) (ih_sc_r _)
              | (obtain rfl : b = 0 := by omega
                 have l1 : t 2 a = s (2 + a) := W.las a (by omega) (by omega)
                 rw [show g_ink s a 0 d = ih_u1 s (2 + a) d from if_pos rfl] at K
                 refine ih_chC_ok K ?_ (ih_Wu_las G (by omega) W) (ih_cf_u (ih_cf_r t) (by omega))
                 rw [f_ink, if_pos (by omega), if_pos rfl, l1])
              | (obtain rfl : b = 1 := by omega
                 have l1 : t 3 a = s (10 + a) := W.pri a (by omega) (by omega)
                 rw [show g_ink s a 1 d = ih_u1 s (10 + a) d from if_neg (by decide)] at K
                 refine ih_chC_ok K ?_ (ih_Wu_pri G (by omega) W) (ih_cf_u (ih_cf_r t) (by omega))
                 rw [f_ink, if_pos (by omega), if_neg (by decide), l1])
          · refine ih_seg (i1 := 38) 3 rfl ?_
            refine ih_iv1 102 rfl rfl (by first | rfl | exact ih_kP (ih_P_w0 hc) |  exact ih_kP (by assumption) | exact ih_kC (by assumption) | exact ih_kN (by assumption) | exact ih_kS (by assumption) | exact ih_kW (by assumption)) (Nat.le_of_ble_eq_true rfl) (Nat.le_of_ble_eq_true rfl) rfl ?_
            refine c_finding (by omega) ?_
            refine ih_ret rfl rfl ?_
            first
              | exact ih_chC_no K (by rw [f_ink, if_neg (by omega)]) (ih_sc_r _)
              | (obtain rfl : b = 0 := by omega
                 have l1 : t 2 a = s (2 + a) := W.las a (by omega) (by omega)
                 rw [show g_ink s a 0 d = ih_u1 s (2 + a) d from if_pos rfl] at K
                 refine ih_chC_ok K ?_ (ih_Wu_las G (by omega) W) (ih_cf_u (ih_cf_r t) (by omega))
                 rw [f_ink, if_pos (by omega), if_pos rfl, l1])
              | (obtain rfl : b = 1 := by omega
                 have l1 : t 3 a = s (10 + a) := W.pri a (by omega) (by omega)
                 rw [show g_ink s a 1 d = ih_u1 s (10 + a) d from if_neg (by decide)] at K
                 refine ih_chC_ok K ?_ (ih_Wu_pri G (by omega) W) (ih_cf_u (ih_cf_r t) (by omega))
                 rw [f_ink, if_pos (by omega), if_neg (by decide), l1])
  · refine ih_seg (i1 := 5) 3 rfl ?_
    refine ih_iv1 102 rfl rfl (by first | rfl | exact ih_kP (ih_P_w0 hc) |  exact ih_kP (by assumption) | exact ih_kC (by assumption) | exact ih_kN (by assumption) | exact ih_kS (by assumption) | exact ih_kW (by assumption)) (Nat.le_of_ble_eq_true rfl) (Nat.le_of_ble_eq_true rfl) rfl ?_
    refine c_finding (by omega) ?_
    refine ih_ret rfl rfl ?_
    first
      | exact ih_chC_no K (by rw [f_ink, if_neg (by omega)]) (ih_sc_r _)
      | (obtain rfl : b = 0 := by omega
         have l1 : t 2 a = s (2 + a) := W.las a (by omega) (by omega)
         rw [show g_ink s a 0 d = ih_u1 s (2 + a) d from if_pos rfl] at K
         refine ih_chC_ok K ?_ (ih_Wu_las G (by omega) W) (ih_cf_u (ih_cf_r t) (by omega))
         rw [f_ink, if_pos (by omega), if_pos rfl, l1])
      | (obtain rfl : b = 1 := by omega
         have l1 : t 3 a = s (10 + a) := W.pri a (by omega) (by omega)
         rw [show g_ink s a 1 d = ih_u1 s (10 + a) d from if_neg (by decide)] at K
         refine ih_chC_ok K ?_ (ih_Wu_pri G (by omega) W) (ih_cf_u (ih_cf_r t) (by omega))
         rw [f_ink, if_pos (by omega), if_neg (by decide), l1])


theorem r_op_ink {X : List Int} {t : ih_S} {Q : Option xa_V → ih_S → Prop} {a b d : Int} (ha : xa_rI a) (hb : xa_rI b) (hd : xa_rI d) (G : ih_Gd (t 112)) (K : ih_chR t (f_ink (t 112) a b d) (g_ink (t 112) a b d) Q) : ih_Wp X 136 0 [xR 111, xI a, xI b, xI d, xC 1, xC 1] [] t Q := by
  refine ih_seg (i1 := 1) 1 rfl ?_
  refine ih_is1 129 rfl rfl (Nat.le_of_ble_eq_true rfl) (Nat.le_of_ble_eq_true rfl) rfl ?_
  refine r_isInk (by omega) (fun w1 => ?_) (fun w2 => ?_)
  · refine ih_seg (i1 := 4) 2 rfl ?_
    refine ih_i2l rfl (by omega) ?_
    refine ih_seg (i1 := 7) 2 rfl ?_
    refine ih_is3 126 rfl rfl (Nat.le_of_ble_eq_true rfl) (Nat.le_of_ble_eq_true rfl) rfl ?_
    refine r_in (by omega) (by omega) (by omega) (fun w3 => ?_) (fun w4 => ?_)
    · refine ih_seg (i1 := 10) 2 rfl ?_
      refine ih_i2l rfl (by omega) ?_
      refine ih_seg (i1 := 14) 3 rfl ?_
      try dsimp only
      refine ih_i2l rfl (by omega) ?_
      refine ih_seg (i1 := 16) 1 rfl ?_
      refine ih_ifc_ne rfl (by omega) (fun w5 => ?_) (fun w5 => ?_)
      · refine ih_seg (i1 := 20) 1 rfl ?_
        refine ih_is3 126 rfl rfl (Nat.le_of_ble_eq_true rfl) (Nat.le_of_ble_eq_true rfl) rfl ?_
        refine r_in (by omega) (by omega) (by omega) (fun w6 => ?_) (fun w7 => ?_)
        · refine ih_seg (i1 := 27) 2 rfl ?_
          refine ih_ifc_ne rfl (by omega) (fun w8 => ?_) (fun w8 => ?_)
          · refine ih_seg (i1 := 37) 5 rfl ?_
            try simp only [xa_set, List.set_cons_zero, List.set_cons_succ, List.getElem?_cons_zero, List.getElem?_cons_succ]
            refine ih_getR rfl rfl ?_
            refine ih_seg (i1 := 39) 1 rfl ?_
            refine ih_iald rfl (by first | rfl | exact ih_lP1 (ih_P_w0 hc) | exact ih_lP2 (ih_P_w0 hc) | exact ih_lP3 (ih_P_w0 hc) | exact ih_lP4 (ih_P_w0 hc) |  exact ih_lP1 (by assumption) | exact ih_lP2 (by assumption) | exact ih_lP3 (by assumption) | exact ih_lP4 (by assumption) | exact ih_lC1 (by assumption) | exact ih_lS1 (by assumption) | exact ih_lW1 (by assumption) | exact ih_lW2 (by assumption) | exact ih_lW4 (by assumption) | exact ih_lW5 (by assumption)) (by omega) (by omega) (k := ?_)
            refine ih_seg (i1 := 42) 2 rfl ?_
            try simp only [xa_set, List.set_cons_zero, List.set_cons_succ, List.getElem?_cons_zero, List.getElem?_cons_succ]
            refine ih_getR rfl rfl ?_
            refine ih_seg (i1 := 45) 2 rfl ?_
            refine ih_iast rfl (by first | rfl | exact ih_lP1 (ih_P_w0 hc) | exact ih_lP2 (ih_P_w0 hc) | exact ih_lP3 (ih_P_w0 hc) | exact ih_lP4 (ih_P_w0 hc) |  exact ih_lP1 (by assumption) | exact ih_lP2 (by assumption) | exact ih_lP3 (by assumption) | exact ih_lP4 (by assumption) | exact ih_lC1 (by assumption) | exact ih_lS1 (by assumption) | exact ih_lW1 (by assumption) | exact ih_lW2 (by assumption) | exact ih_lW4 (by assumption) | exact ih_lW5 (by assumption)) (by omega) (by omega) (k := ?_)
            refine ih_seg (i1 := 47) 1 rfl ?_
            refine ih_ret rfl rfl ?_
            first
              | exact ih_chR_no 0 K (by rw [f_ink, if_neg (by omega)]) rfl (ih_rr_r _)
              | (obtain rfl : b = 0 := by omega
                 rw [show g_ink (t 112) a 0 d = ih_u1 (t 112) (2 + a) d from if_pos rfl] at K
                 refine ih_chR_ok K ?_ ih_up_eq (ih_rg_u (ih_rg_r t) (by omega))
                 rw [f_ink, if_pos (by omega), if_pos rfl])
              | (obtain rfl : b = 1 := by omega
                 rw [show g_ink (t 112) a 1 d = ih_u1 (t 112) (10 + a) d from if_neg (by decide)] at K
                 refine ih_chR_ok K ?_ ih_up_eq (ih_rg_u (ih_rg_r t) (by omega))
                 rw [f_ink, if_pos (by omega), if_neg (by decide)])
          · refine ih_seg (i1 := 37) 6 rfl ?_
            try simp only [xa_set, List.set_cons_zero, List.set_cons_succ, List.getElem?_cons_zero, List.getElem?_cons_succ]
            refine ih_getR rfl rfl ?_
            refine ih_seg (i1 := 39) 1 rfl ?_
            refine ih_iald rfl (by first | rfl | exact ih_lP1 (ih_P_w0 hc) | exact ih_lP2 (ih_P_w0 hc) | exact ih_lP3 (ih_P_w0 hc) | exact ih_lP4 (ih_P_w0 hc) |  exact ih_lP1 (by assumption) | exact ih_lP2 (by assumption) | exact ih_lP3 (by assumption) | exact ih_lP4 (by assumption) | exact ih_lC1 (by assumption) | exact ih_lS1 (by assumption) | exact ih_lW1 (by assumption) | exact ih_lW2 (by assumption) | exact ih_lW4 (by assumption) | exact ih_lW5 (by assumption)) (by omega) (by omega) (k := ?_)
            refine ih_seg (i1 := 42) 2 rfl ?_
            try simp only [xa_set, List.set_cons_zero, List.set_cons_succ, List.getElem?_cons_zero, List.getElem?_cons_succ]
            refine ih_getR rfl rfl ?_
            refine ih_seg (i1 := 45) 2 rfl ?_
            refine ih_iast rfl (by first | rfl | exact ih_lP1 (ih_P_w0 hc) | exact ih_lP2 (ih_P_w0 hc) | exact ih_lP3 (ih_P_w0 hc) | exact ih_lP4 (ih_P_w0 hc) |  exact ih_lP1 (by assumption) | exact ih_lP2 (by assumption) | exact ih_lP3 (by assumption) | exact ih_lP4 (by assumption) | exact ih_lC1 (by assumption) | exact ih_lS1 (by assumption) | exact ih_lW1 (by assumption) | exact ih_lW2 (by assumption) | exact ih_lW4 (by assumption) | exact ih_lW5 (by assumption)) (by omega) (by omega) (k := ?_)
            refine ih_seg (i1 := 47) 1 rfl ?_
            refine ih_ret rfl rfl ?_
            first
              | exact ih_chR_no 0 K (by rw [f_ink, if_neg (by omega)]) rfl (ih_rr_r _)
              | (obtain rfl : b = 0 := by omega
                 rw [show g_ink (t 112) a 0 d = ih_u1 (t 112) (2 + a) d from if_pos rfl] at K
                 refine ih_chR_ok K ?_ ih_up_eq (ih_rg_u (ih_rg_r t) (by omega))
                 rw [f_ink, if_pos (by omega), if_pos rfl])
              | (obtain rfl : b = 1 := by omega
                 rw [show g_ink (t 112) a 1 d = ih_u1 (t 112) (10 + a) d from if_neg (by decide)] at K
                 refine ih_chR_ok K ?_ ih_up_eq (ih_rg_u (ih_rg_r t) (by omega))
                 rw [f_ink, if_pos (by omega), if_neg (by decide)])
        · refine ih_seg (i1 := 24) 3 rfl ?_
          refine ih_iv1 127 rfl rfl (by first | rfl | exact ih_kP (ih_P_w0 hc) |  exact ih_kP (by assumption) | exact ih_kC (by assumption) | exact ih_kN (by assumption) | exact ih_kS (by assumption) | exact ih_kW (by assumption)) (Nat.le_of_ble_eq_true rfl) (Nat.le_of_ble_eq_true rfl) rfl ?_
          refine r_finds 0 rfl (by omega) ?_
          refine ih_ret rfl rfl ?_
          first
            | exact ih_chR_no 0 K (by rw [f_ink, if_neg (by omega)]) rfl (ih_rr_r _)
            | (obtain rfl : b = 0 := by omega
               rw [show g_ink (t 112) a 0 d = ih_u1 (t 112) (2 + a) d from if_pos rfl] at K
               refine ih_chR_ok K ?_ ih_up_eq (ih_rg_u (ih_rg_r t) (by omega))
               rw [f_ink, if_pos (by omega), if_pos rfl])
            | (obtain rfl : b = 1 := by omega
               rw [show g_ink (t 112) a 1 d = ih_u1 (t 112) (10 + a) d from if_neg (by decide)] at K
               refine ih_chR_ok K ?_ ih_up_eq (ih_rg_u (ih_rg_r t) (by omega))
               rw [f_ink, if_pos (by omega), if_neg (by decide)])
      · refine ih_seg (i1 := 20) 2 rfl ?_
        refine ih_is3 126 rfl rfl (Nat.le_of_ble_eq_true rfl) (Nat.le_of_ble_eq_true rfl) rfl ?_
        refine r_in (by omega) (by omega) (by omega) (fun w9 => ?_) (fun w10 => ?_)
        · refine ih_seg (i1 := 27) 2 rfl ?_
          refine ih_ifc_ne rfl (by omega) (fun w11 => ?_) (fun w11 => ?_)
          · refine ih_seg (i1 := 37) 5 rfl ?_
            try simp only [xa_set, List.set_cons_zero, List.set_cons_succ, List.getElem?_cons_zero, List.getElem?_cons_succ]
            refine ih_getR rfl rfl ?_
            refine ih_seg (i1 := 39) 1 rfl ?_
            refine ih_iald rfl (by first | rfl | exact ih_lP1 (ih_P_w0 hc) | exact ih_lP2 (ih_P_w0 hc) | exact ih_lP3 (ih_P_w0 hc) | exact ih_lP4 (ih_P_w0 hc) |  exact ih_lP1 (by assumption) | exact ih_lP2 (by assumption) | exact ih_lP3 (by assumption) | exact ih_lP4 (by assumption) | exact ih_lC1 (by assumption) | exact ih_lS1 (by assumption) | exact ih_lW1 (by assumption) | exact ih_lW2 (by assumption) | exact ih_lW4 (by assumption) | exact ih_lW5 (by assumption)) (by omega) (by omega) (k := ?_)
            refine ih_seg (i1 := 42) 2 rfl ?_
            try simp only [xa_set, List.set_cons_zero, List.set_cons_succ, List.getElem?_cons_zero, List.getElem?_cons_succ]
            refine ih_getR rfl rfl ?_
            refine ih_seg (i1 := 45) 2 rfl ?_
            refine ih_iast rfl (by first | rfl | exact ih_lP1 (ih_P_w0 hc) | exact ih_lP2 (ih_P_w0 hc) | exact ih_lP3 (ih_P_w0 hc) | exact ih_lP4 (ih_P_w0 hc) |  exact ih_lP1 (by assumption) | exact ih_lP2 (by assumption) | exact ih_lP3 (by assumption) | exact ih_lP4 (by assumption) | exact ih_lC1 (by assumption) | exact ih_lS1 (by assumption) | exact ih_lW1 (by assumption) | exact ih_lW2 (by assumption) | exact ih_lW4 (by assumption) | exact ih_lW5 (by assumption)) (by omega) (by omega) (k := ?_)
            refine ih_seg (i1 := 47) 1 rfl ?_
            refine ih_ret rfl rfl ?_
            first
              | exact ih_chR_no 0 K (by rw [f_ink, if_neg (by omega)]) rfl (ih_rr_r _)
              | (obtain rfl : b = 0 := by omega
                 rw [show g_ink (t 112) a 0 d = ih_u1 (t 112) (2 + a) d from if_pos rfl] at K
                 refine ih_chR_ok K ?_ ih_up_eq (ih_rg_u (ih_rg_r t) (by omega))
                 rw [f_ink, if_pos (by omega), if_pos rfl])
              | (obtain rfl : b = 1 := by omega
                 rw [show g_ink (t 112) a 1 d = ih_u1 (t 112) (10 + a) d from if_neg (by decide)] at K
                 refine ih_chR_ok K ?_ ih_up_eq (ih_rg_u (ih_rg_r t) (by omega))
                 rw [f_ink, if_pos (by omega), if_neg (by decide)])
          · refine ih_seg (i1 := 37) 6 rfl ?_
            try simp only [xa_set, List.set_cons_zero, List.set_cons_succ, List.getElem?_cons_zero, List.getElem?_cons_succ]
            refine ih_getR rfl rfl ?_
            refine ih_seg (i1 := 39) 1 rfl ?_
            refine ih_iald rfl (by first | rfl | exact ih_lP1 (ih_P_w0 hc) | exact ih_lP2 (ih_P_w0 hc) | exact ih_lP3 (ih_P_w0 hc) | exact ih_lP4 (ih_P_w0 hc) |  exact ih_lP1 (by assumption) | exact ih_lP2 (by assumption) | exact ih_lP3 (by assumption) | exact ih_lP4 (by assumption) | exact ih_lC1 (by assumption) | exact ih_lS1 (by assumption) | exact ih_lW1 (by assumption) | exact ih_lW2 (by assumption) | exact ih_lW4 (by assumption) | exact ih_lW5 (by assumption)) (by omega) (by omega) (k := ?_)
            refine ih_seg (i1 := 42) 2 rfl ?_
            try simp only [xa_set, List.set_cons_zero, List.set_cons_succ, List.getElem?_cons_zero, List.getElem?_cons_succ]
            refine ih_getR rfl rfl ?_
            refine ih_seg (i1 := 45) 2 rfl ?_
            refine ih_iast rfl (by first | rfl | exact ih_lP1 (ih_P_w0 hc) | exact ih_lP2 (ih_P_w0 hc) | exact ih_lP3 (ih_P_w0 hc) | exact ih_lP4 (ih_P_w0 hc) |  exact ih_lP1 (by assumption) | exact ih_lP2 (by assumption) | exact ih_lP3 (by assumption) | exact ih_lP4 (by assumption) | exact ih_lC1 (by assumption) | exact ih_lS1 (by assumption) | exact ih_lW1 (by assumption) | exact ih_lW2 (by assumption) | exact ih_lW4 (by assumption) | exact ih_lW5 (by assumption)) (by omega) (by omega) (k := ?_)
            refine ih_seg (i1 := 47) 1 rfl ?_
            refine ih_ret rfl rfl ?_
            first
              | exact ih_chR_no 0 K (by rw [f_ink, if_neg (by omega)]) rfl (ih_rr_r _)
              | (obtain rfl : b = 0 := by omega
                 rw [show g_ink (t 112) a 0 d = ih_u1 (t 112) (2 + a) d from if_pos rfl] at K
                 refine ih_chR_ok K ?_ ih_up_eq (ih_rg_u (ih_rg_r t) (by omega))
                 rw [f_ink, if_pos (by omega), if_pos rfl])
              | (obtain rfl : b = 1 := by omega
                 rw [show g_ink (t 112) a 1 d = ih_u1 (t 112) (10 + a) d from if_neg (by decide)] at K
                 refine ih_chR_ok K ?_ ih_up_eq (ih_rg_u (ih_rg_r t) (by omega))
                 rw [f_ink, if_pos (by omega), if_neg (by decide)])
        · refine ih_seg (i1 := 24) 3 rfl ?_
          refine ih_iv1 127 rfl rfl (by first | rfl | exact ih_kP (ih_P_w0 hc) |  exact ih_kP (by assumption) | exact ih_kC (by assumption) | exact ih_kN (by assumption) | exact ih_kS (by assumption) | exact ih_kW (by assumption)) (Nat.le_of_ble_eq_true rfl) (Nat.le_of_ble_eq_true rfl) rfl ?_
          refine r_finds 0 rfl (by omega) ?_
          refine ih_ret rfl rfl ?_
          first
            | exact ih_chR_no 0 K (by rw [f_ink, if_neg (by omega)]) rfl (ih_rr_r _)
            | (obtain rfl : b = 0 := by omega
               rw [show g_ink (t 112) a 0 d = ih_u1 (t 112) (2 + a) d from if_pos rfl] at K
               refine ih_chR_ok K ?_ ih_up_eq (ih_rg_u (ih_rg_r t) (by omega))
               rw [f_ink, if_pos (by omega), if_pos rfl])
            | (obtain rfl : b = 1 := by omega
               rw [show g_ink (t 112) a 1 d = ih_u1 (t 112) (10 + a) d from if_neg (by decide)] at K
               refine ih_chR_ok K ?_ ih_up_eq (ih_rg_u (ih_rg_r t) (by omega))
               rw [f_ink, if_pos (by omega), if_neg (by decide)])
    · refine ih_seg (i1 := 24) 3 rfl ?_
      refine ih_iv1 127 rfl rfl (by first | rfl | exact ih_kP (ih_P_w0 hc) |  exact ih_kP (by assumption) | exact ih_kC (by assumption) | exact ih_kN (by assumption) | exact ih_kS (by assumption) | exact ih_kW (by assumption)) (Nat.le_of_ble_eq_true rfl) (Nat.le_of_ble_eq_true rfl) rfl ?_
      refine r_finds 0 rfl (by omega) ?_
      refine ih_ret rfl rfl ?_
      first
        | exact ih_chR_no 0 K (by rw [f_ink, if_neg (by omega)]) rfl (ih_rr_r _)
        | (obtain rfl : b = 0 := by omega
           rw [show g_ink (t 112) a 0 d = ih_u1 (t 112) (2 + a) d from if_pos rfl] at K
           refine ih_chR_ok K ?_ ih_up_eq (ih_rg_u (ih_rg_r t) (by omega))
           rw [f_ink, if_pos (by omega), if_pos rfl])
        | (obtain rfl : b = 1 := by omega
           rw [show g_ink (t 112) a 1 d = ih_u1 (t 112) (10 + a) d from if_neg (by decide)] at K
           refine ih_chR_ok K ?_ ih_up_eq (ih_rg_u (ih_rg_r t) (by omega))
           rw [f_ink, if_pos (by omega), if_neg (by decide)])
  · refine ih_seg (i1 := 24) 3 rfl ?_
    refine ih_iv1 127 rfl rfl (by first | rfl | exact ih_kP (ih_P_w0 hc) |  exact ih_kP (by assumption) | exact ih_kC (by assumption) | exact ih_kN (by assumption) | exact ih_kS (by assumption) | exact ih_kW (by assumption)) (Nat.le_of_ble_eq_true rfl) (Nat.le_of_ble_eq_true rfl) rfl ?_
    refine r_finds 0 rfl (by omega) ?_
    refine ih_ret rfl rfl ?_
    first
      | exact ih_chR_no 0 K (by rw [f_ink, if_neg (by omega)]) rfl (ih_rr_r _)
      | (obtain rfl : b = 0 := by omega
         rw [show g_ink (t 112) a 0 d = ih_u1 (t 112) (2 + a) d from if_pos rfl] at K
         refine ih_chR_ok K ?_ ih_up_eq (ih_rg_u (ih_rg_r t) (by omega))
         rw [f_ink, if_pos (by omega), if_pos rfl])
      | (obtain rfl : b = 1 := by omega
         rw [show g_ink (t 112) a 1 d = ih_u1 (t 112) (10 + a) d from if_neg (by decide)] at K
         refine ih_chR_ok K ?_ ih_up_eq (ih_rg_u (ih_rg_r t) (by omega))
         rw [f_ink, if_pos (by omega), if_neg (by decide)])


theorem c_op_light {X : List Int} {t : ih_S} {Q : Option xa_V → ih_S → Prop} {s : Int → Int} {a v : Int} (ha : xa_rI a) (hv : v = 0 ∨ v = 1) (W : ih_Wr t 1 s) (G : ih_Gd s) (K : ih_chC t (f_light s a) (ih_u1 s (18 + a) v) Q) : ih_Wp X 61 0 [xR 0, xI a, xI v, xC 1] [] t Q := by
  have hfit : xa_fit 1 (xI v) = true := by rcases hv with rfl | rfl <;> rfl
  refine ih_seg (i1 := 1) 1 rfl ?_
  refine ih_is1 106 rfl rfl (Nat.le_of_ble_eq_true rfl) (Nat.le_of_ble_eq_true rfl) rfl ?_
  refine c_isPaper (by omega) (fun w1 => ?_) (fun w2 => ?_)
  · refine ih_seg (i1 := 7) 1 rfl ?_
    obtain ⟨c, rfl⟩ := Int.eq_ofNat_of_zero_le (show 0 ≤ a by omega)
    have hc : c < 4 := by omega
    have P := ih_PG_W W G hc
    have gl := P.lit
    have el := ih_W_lit W hc
    refine ih_seg (i1 := 8) 1 rfl ?_
    refine ih_getR rfl rfl ?_
    refine ih_getR rfl (by first | rfl | exact ih_fW2 (by assumption)) ?_
    refine ih_seg (i1 := 11) 1 rfl ?_
    refine ih_aald rfl (ih_eP hc) ?_
    refine ih_getI rfl (by first | rfl | exact ih_fP5 (ih_P_w0 hc) | exact ih_fP5 (by assumption)) ?_
    refine ih_seg (i1 := 15) 2 rfl ?_
    try simp only [xa_set, List.set_cons_zero, List.set_cons_succ, List.getElem?_cons_zero, List.getElem?_cons_succ]
    refine ih_getR rfl rfl ?_
    refine ih_getR rfl (by first | rfl | exact ih_fW2 (by assumption)) ?_
    refine ih_seg (i1 := 18) 1 rfl ?_
    refine ih_aald rfl (ih_eP hc) ?_
    refine ih_seg (i1 := 20) 1 rfl ?_
    refine ih_putI rfl (by first | rfl | exact ih_fP5 (ih_P_w0 hc) | exact ih_fP5 (by assumption)) hfit ?_
    refine ih_seg (i1 := 22) 1 rfl ?_
    refine ih_ifc_eq rfl (by omega) (fun w3 => ?_) (fun w3 => ?_)
    · refine ih_seg (i1 := 26) 1 rfl ?_
      refine ih_ret rfl rfl ?_
      first
        | exact ih_chC_no K (by rw [f_light, if_neg (by omega)]) (ih_sc_r _)
        | (refine ih_chC_ok K ?_ (ih_Wu_lit G hc W) (ih_cf_u (ih_cf_r t) (by omega))
           rw [f_light, if_pos (by omega)]
           exact congrArg Sum.inl (by omega))
    · refine ih_seg (i1 := 26) 2 rfl ?_
      refine ih_ret rfl rfl ?_
      first
        | exact ih_chC_no K (by rw [f_light, if_neg (by omega)]) (ih_sc_r _)
        | (refine ih_chC_ok K ?_ (ih_Wu_lit G hc W) (ih_cf_u (ih_cf_r t) (by omega))
           rw [f_light, if_pos (by omega)]
           exact congrArg Sum.inl (by omega))
  · refine ih_seg (i1 := 5) 3 rfl ?_
    refine ih_iv1 102 rfl rfl (by first | rfl | exact ih_kP (ih_P_w0 hc) |  exact ih_kP (by assumption) | exact ih_kC (by assumption) | exact ih_kN (by assumption) | exact ih_kS (by assumption) | exact ih_kW (by assumption)) (Nat.le_of_ble_eq_true rfl) (Nat.le_of_ble_eq_true rfl) rfl ?_
    refine c_finding (by omega) ?_
    refine ih_ret rfl rfl ?_
    first
      | exact ih_chC_no K (by rw [f_light, if_neg (by omega)]) (ih_sc_r _)
      | (refine ih_chC_ok K ?_ (ih_Wu_lit G hc W) (ih_cf_u (ih_cf_r t) (by omega))
         rw [f_light, if_pos (by omega)]
         exact congrArg Sum.inl (by omega))


theorem r_op_light {X : List Int} {t : ih_S} {Q : Option xa_V → ih_S → Prop} {a v : Int} (ha : xa_rI a) (hv : v = 0 ∨ v = 1) (G : ih_Gd (t 112)) (K : ih_chR t (f_light (t 112) a) (ih_u1 (t 112) (18 + a) v) Q) : ih_Wp X 137 0 [xR 111, xI a, xI v, xC 1] [] t Q := by
  refine ih_seg (i1 := 1) 1 rfl ?_
  refine ih_is1 128 rfl rfl (Nat.le_of_ble_eq_true rfl) (Nat.le_of_ble_eq_true rfl) rfl ?_
  refine r_isPaper (by omega) (fun w1 => ?_) (fun w2 => ?_)
  · refine ih_seg (i1 := 7) 1 rfl ?_
    obtain ⟨p, rfl⟩ := Int.eq_ofNat_of_zero_le (show 0 ≤ a by omega)
    have hp : p < 4 := by omega
    refine ih_seg (i1 := 8) 1 rfl ?_
    refine ih_getR rfl rfl ?_
    refine ih_seg (i1 := 12) 3 rfl ?_
    try dsimp only
    refine ih_iald rfl (by first | rfl | exact ih_lP1 (ih_P_w0 hc) | exact ih_lP2 (ih_P_w0 hc) | exact ih_lP3 (ih_P_w0 hc) | exact ih_lP4 (ih_P_w0 hc) |  exact ih_lP1 (by assumption) | exact ih_lP2 (by assumption) | exact ih_lP3 (by assumption) | exact ih_lP4 (by assumption) | exact ih_lC1 (by assumption) | exact ih_lS1 (by assumption) | exact ih_lW1 (by assumption) | exact ih_lW2 (by assumption) | exact ih_lW4 (by assumption) | exact ih_lW5 (by assumption)) (by omega) (by omega) (k := ?_)
    refine ih_seg (i1 := 15) 2 rfl ?_
    try simp only [xa_set, List.set_cons_zero, List.set_cons_succ, List.getElem?_cons_zero, List.getElem?_cons_succ]
    refine ih_getR rfl rfl ?_
    refine ih_seg (i1 := 20) 4 rfl ?_
    try dsimp only
    refine ih_ifc_eq rfl (by omega) (fun w3 => ?_) (fun w3 => ?_)
    · refine ih_seg (i1 := 24) 1 rfl ?_
      refine ih_iast rfl (by first | rfl | exact ih_lP1 (ih_P_w0 hc) | exact ih_lP2 (ih_P_w0 hc) | exact ih_lP3 (ih_P_w0 hc) | exact ih_lP4 (ih_P_w0 hc) |  exact ih_lP1 (by assumption) | exact ih_lP2 (by assumption) | exact ih_lP3 (by assumption) | exact ih_lP4 (by assumption) | exact ih_lC1 (by assumption) | exact ih_lS1 (by assumption) | exact ih_lW1 (by assumption) | exact ih_lW2 (by assumption) | exact ih_lW4 (by assumption) | exact ih_lW5 (by assumption)) (by omega) (by omega) (k := ?_)
      refine ih_seg (i1 := 26) 1 rfl ?_
      refine ih_ret rfl rfl ?_
      first
        | exact ih_chR_no 0 K (by rw [f_light, if_neg (by omega)]) rfl (ih_rr_r _)
        | (obtain rfl : v = 0 := by omega
           exact ih_chR_ok K (by rw [f_light, if_pos (by omega)]) ih_up_eq (ih_rg_u (ih_rg_r t) (by omega)))
        | (obtain rfl : v = 1 := by omega
           exact ih_chR_ok K (by rw [f_light, if_pos (by omega)]) ih_up_eq (ih_rg_u (ih_rg_r t) (by omega)))
    · refine ih_seg (i1 := 24) 2 rfl ?_
      refine ih_iast rfl (by first | rfl | exact ih_lP1 (ih_P_w0 hc) | exact ih_lP2 (ih_P_w0 hc) | exact ih_lP3 (ih_P_w0 hc) | exact ih_lP4 (ih_P_w0 hc) |  exact ih_lP1 (by assumption) | exact ih_lP2 (by assumption) | exact ih_lP3 (by assumption) | exact ih_lP4 (by assumption) | exact ih_lC1 (by assumption) | exact ih_lS1 (by assumption) | exact ih_lW1 (by assumption) | exact ih_lW2 (by assumption) | exact ih_lW4 (by assumption) | exact ih_lW5 (by assumption)) (by omega) (by omega) (k := ?_)
      refine ih_seg (i1 := 26) 1 rfl ?_
      refine ih_ret rfl rfl ?_
      first
        | exact ih_chR_no 0 K (by rw [f_light, if_neg (by omega)]) rfl (ih_rr_r _)
        | (obtain rfl : v = 0 := by omega
           exact ih_chR_ok K (by rw [f_light, if_pos (by omega)]) ih_up_eq (ih_rg_u (ih_rg_r t) (by omega)))
        | (obtain rfl : v = 1 := by omega
           exact ih_chR_ok K (by rw [f_light, if_pos (by omega)]) ih_up_eq (ih_rg_u (ih_rg_r t) (by omega)))
  · refine ih_seg (i1 := 5) 3 rfl ?_
    refine ih_iv1 127 rfl rfl (by first | rfl | exact ih_kP (ih_P_w0 hc) |  exact ih_kP (by assumption) | exact ih_kC (by assumption) | exact ih_kN (by assumption) | exact ih_kS (by assumption) | exact ih_kW (by assumption)) (Nat.le_of_ble_eq_true rfl) (Nat.le_of_ble_eq_true rfl) rfl ?_
    refine r_finds 0 rfl (by omega) ?_
    refine ih_ret rfl rfl ?_
    first
      | exact ih_chR_no 0 K (by rw [f_light, if_neg (by omega)]) rfl (ih_rr_r _)
      | (obtain rfl : v = 0 := by omega
         exact ih_chR_ok K (by rw [f_light, if_pos (by omega)]) ih_up_eq (ih_rg_u (ih_rg_r t) (by omega)))
      | (obtain rfl : v = 1 := by omega
         exact ih_chR_ok K (by rw [f_light, if_pos (by omega)]) ih_up_eq (ih_rg_u (ih_rg_r t) (by omega)))


theorem c_add {X : List Int} {t : ih_S} {Q : Option xa_V → ih_S → Prop} {B : Nat} {kd lt ink h : Int} (hP : ih_isP B) (hs : 0 ≤ t B 4 ∧ t B 4 < 12) (k : Q none (ih_up (ih_up (ih_up (ih_up (ih_up t (B + 1) (t B 4) kd) (B + 2) (t B 4) lt) (B + 3) (t B 4) ink) (B + 4) (t B 4) h) B 4 (t B 4 + 1))) : ih_Wp X 23 0 [xR B, xI kd, xI lt, xI ink, xI h] [] t Q := by
  refine ih_seg (i1 := 1) 1 rfl ?_
  refine ih_iv0 22 rfl rfl (by first | rfl | exact ih_kP (ih_P_w0 hc) |  exact ih_kP (by assumption) | exact ih_kC (by assumption) | exact ih_kN (by assumption) | exact ih_kS (by assumption) | exact ih_kW (by assumption)) (Nat.le_of_ble_eq_true rfl) (Nat.le_of_ble_eq_true rfl) rfl ?_
  refine c_isFull hP (by omega) (fun w1 => ?_) (fun w2 => ?_)
  · refine ih_seg (i1 := 3) 1 rfl ?_
    refine ih_retv rfl ?_
    first
      | exact k
      | (exfalso
         omega)
  · refine ih_seg (i1 := 5) 2 rfl ?_
    refine ih_getR rfl (by first | rfl | exact ih_fP0 (ih_P_w0 hc) | exact ih_fP0 (by assumption)) ?_
    refine ih_seg (i1 := 7) 1 rfl ?_
    refine ih_getI rfl (by first | rfl | exact ih_fP4 (ih_P_w0 hc) | exact ih_fP4 (by assumption)) ?_
    refine ih_seg (i1 := 9) 1 rfl ?_
    refine ih_iast rfl (by first | rfl | exact ih_lP1 (ih_P_w0 hc) | exact ih_lP2 (ih_P_w0 hc) | exact ih_lP3 (ih_P_w0 hc) | exact ih_lP4 (ih_P_w0 hc) |  exact ih_lP1 (by assumption) | exact ih_lP2 (by assumption) | exact ih_lP3 (by assumption) | exact ih_lP4 (by assumption) | exact ih_lC1 (by assumption) | exact ih_lS1 (by assumption) | exact ih_lW1 (by assumption) | exact ih_lW2 (by assumption) | exact ih_lW4 (by assumption) | exact ih_lW5 (by assumption)) (by omega) (by omega) (k := ?_)
    refine ih_seg (i1 := 11) 1 rfl ?_
    refine ih_getR rfl (by first | rfl | exact ih_fP1 (ih_P_w0 hc) | exact ih_fP1 (by assumption)) ?_
    refine ih_seg (i1 := 13) 1 rfl ?_
    refine ih_getI rfl (by first | rfl | exact ih_fP4 (ih_P_w0 hc) | exact ih_fP4 (by assumption)) ?_
    first | simp only [ih_up_ne (show B ≠ B + 1 by omega), ih_up_ne (show B ≠ B + 2 by omega), ih_up_ne (show B ≠ B + 3 by omega), ih_up_ne (show B ≠ B + 4 by omega)] | skip
    refine ih_seg (i1 := 15) 1 rfl ?_
    refine ih_iast rfl (by first | rfl | exact ih_lP1 (ih_P_w0 hc) | exact ih_lP2 (ih_P_w0 hc) | exact ih_lP3 (ih_P_w0 hc) | exact ih_lP4 (ih_P_w0 hc) |  exact ih_lP1 (by assumption) | exact ih_lP2 (by assumption) | exact ih_lP3 (by assumption) | exact ih_lP4 (by assumption) | exact ih_lC1 (by assumption) | exact ih_lS1 (by assumption) | exact ih_lW1 (by assumption) | exact ih_lW2 (by assumption) | exact ih_lW4 (by assumption) | exact ih_lW5 (by assumption)) (by omega) (by omega) (k := ?_)
    refine ih_seg (i1 := 17) 1 rfl ?_
    refine ih_getR rfl (by first | rfl | exact ih_fP2 (ih_P_w0 hc) | exact ih_fP2 (by assumption)) ?_
    refine ih_seg (i1 := 19) 1 rfl ?_
    refine ih_getI rfl (by first | rfl | exact ih_fP4 (ih_P_w0 hc) | exact ih_fP4 (by assumption)) ?_
    first | simp only [ih_up_ne (show B ≠ B + 1 by omega), ih_up_ne (show B ≠ B + 2 by omega), ih_up_ne (show B ≠ B + 3 by omega), ih_up_ne (show B ≠ B + 4 by omega)] | skip
    refine ih_seg (i1 := 21) 1 rfl ?_
    refine ih_iast rfl (by first | rfl | exact ih_lP1 (ih_P_w0 hc) | exact ih_lP2 (ih_P_w0 hc) | exact ih_lP3 (ih_P_w0 hc) | exact ih_lP4 (ih_P_w0 hc) |  exact ih_lP1 (by assumption) | exact ih_lP2 (by assumption) | exact ih_lP3 (by assumption) | exact ih_lP4 (by assumption) | exact ih_lC1 (by assumption) | exact ih_lS1 (by assumption) | exact ih_lW1 (by assumption) | exact ih_lW2 (by assumption) | exact ih_lW4 (by assumption) | exact ih_lW5 (by assumption)) (by omega) (by omega) (k := ?_)
    refine ih_seg (i1 := 23) 1 rfl ?_
    refine ih_getR rfl (by first | rfl | exact ih_fP3 (ih_P_w0 hc) | exact ih_fP3 (by assumption)) ?_
    refine ih_seg (i1 := 25) 1 rfl ?_
    refine ih_getI rfl (by first | rfl | exact ih_fP4 (ih_P_w0 hc) | exact ih_fP4 (by assumption)) ?_
    first | simp only [ih_up_ne (show B ≠ B + 1 by omega), ih_up_ne (show B ≠ B + 2 by omega), ih_up_ne (show B ≠ B + 3 by omega), ih_up_ne (show B ≠ B + 4 by omega)] | skip
    refine ih_seg (i1 := 27) 1 rfl ?_
    refine ih_iast rfl (by first | rfl | exact ih_lP1 (ih_P_w0 hc) | exact ih_lP2 (ih_P_w0 hc) | exact ih_lP3 (ih_P_w0 hc) | exact ih_lP4 (ih_P_w0 hc) |  exact ih_lP1 (by assumption) | exact ih_lP2 (by assumption) | exact ih_lP3 (by assumption) | exact ih_lP4 (by assumption) | exact ih_lC1 (by assumption) | exact ih_lS1 (by assumption) | exact ih_lW1 (by assumption) | exact ih_lW2 (by assumption) | exact ih_lW4 (by assumption) | exact ih_lW5 (by assumption)) (by omega) (by omega) (k := ?_)
    refine ih_seg (i1 := 30) 2 rfl ?_
    refine ih_getI rfl (by first | rfl | exact ih_fP4 (ih_P_w0 hc) | exact ih_fP4 (by assumption)) ?_
    refine ih_seg (i1 := 33) 2 rfl ?_
    try dsimp only
    first | simp only [ih_up_ne (show B ≠ B + 1 by omega), ih_up_ne (show B ≠ B + 2 by omega), ih_up_ne (show B ≠ B + 3 by omega), ih_up_ne (show B ≠ B + 4 by omega)] | skip
    refine ih_putI rfl (by first | rfl | exact ih_fP4 (ih_P_w0 hc) | exact ih_fP4 (by assumption)) rfl ?_
    refine ih_retv rfl ?_
    first
      | exact k
      | (exfalso
         omega)


theorem r_newMark {X : List Int} {t : ih_S} {Q : Option xa_V → ih_S → Prop} {p : Nat} {kd lt ink : Int} (hp : p < 4) (hs : 0 ≤ t 112 (22 + p) ∧ t 112 (22 + p) < 12) (k : ∀ t1, t1 112 = ih_nm (t 112) p kd lt ink → (∀ j, j ≠ 112 → t1 j = t j) → Q (some (xI (t 112 (22 + p)))) t1) : ih_Wp X 138 0 [xR 111, xI p, xI kd, xI lt, xI ink, xC 1] [] t Q := by
  refine ih_seg (i1 := 2) 2 rfl ?_
  refine ih_getR rfl rfl ?_
  refine ih_seg (i1 := 6) 3 rfl ?_
  try dsimp only
  refine ih_iald rfl (by first | rfl | exact ih_lP1 (ih_P_w0 hc) | exact ih_lP2 (ih_P_w0 hc) | exact ih_lP3 (ih_P_w0 hc) | exact ih_lP4 (ih_P_w0 hc) |  exact ih_lP1 (by assumption) | exact ih_lP2 (by assumption) | exact ih_lP3 (by assumption) | exact ih_lP4 (by assumption) | exact ih_lC1 (by assumption) | exact ih_lS1 (by assumption) | exact ih_lW1 (by assumption) | exact ih_lW2 (by assumption) | exact ih_lW4 (by assumption) | exact ih_lW5 (by assumption)) (by omega) (by omega) (k := ?_)
  refine ih_is2 132 rfl rfl (Nat.le_of_ble_eq_true rfl) (Nat.le_of_ble_eq_true rfl) rfl ?_
  refine r_at ?_
  refine ih_seg (i1 := 10) 2 rfl ?_
  try simp only [xa_set, List.set_cons_zero, List.set_cons_succ, List.getElem?_cons_zero, List.getElem?_cons_succ]
  refine ih_getR rfl rfl ?_
  refine ih_seg (i1 := 13) 2 rfl ?_
  refine ih_iast rfl (by first | rfl | exact ih_lP1 (ih_P_w0 hc) | exact ih_lP2 (ih_P_w0 hc) | exact ih_lP3 (ih_P_w0 hc) | exact ih_lP4 (ih_P_w0 hc) |  exact ih_lP1 (by assumption) | exact ih_lP2 (by assumption) | exact ih_lP3 (by assumption) | exact ih_lP4 (by assumption) | exact ih_lC1 (by assumption) | exact ih_lS1 (by assumption) | exact ih_lW1 (by assumption) | exact ih_lW2 (by assumption) | exact ih_lW4 (by assumption) | exact ih_lW5 (by assumption)) (by omega) (by omega) (k := ?_)
  refine ih_seg (i1 := 15) 1 rfl ?_
  refine ih_getR rfl rfl ?_
  refine ih_seg (i1 := 20) 4 rfl ?_
  try dsimp only
  refine ih_iast rfl (by first | rfl | exact ih_lP1 (ih_P_w0 hc) | exact ih_lP2 (ih_P_w0 hc) | exact ih_lP3 (ih_P_w0 hc) | exact ih_lP4 (ih_P_w0 hc) |  exact ih_lP1 (by assumption) | exact ih_lP2 (by assumption) | exact ih_lP3 (by assumption) | exact ih_lP4 (by assumption) | exact ih_lC1 (by assumption) | exact ih_lS1 (by assumption) | exact ih_lW1 (by assumption) | exact ih_lW2 (by assumption) | exact ih_lW4 (by assumption) | exact ih_lW5 (by assumption)) (by omega) (by omega) (k := ?_)
  refine ih_seg (i1 := 22) 1 rfl ?_
  refine ih_getR rfl rfl ?_
  refine ih_seg (i1 := 27) 4 rfl ?_
  try dsimp only
  refine ih_iast rfl (by first | rfl | exact ih_lP1 (ih_P_w0 hc) | exact ih_lP2 (ih_P_w0 hc) | exact ih_lP3 (ih_P_w0 hc) | exact ih_lP4 (ih_P_w0 hc) |  exact ih_lP1 (by assumption) | exact ih_lP2 (by assumption) | exact ih_lP3 (by assumption) | exact ih_lP4 (by assumption) | exact ih_lC1 (by assumption) | exact ih_lS1 (by assumption) | exact ih_lW1 (by assumption) | exact ih_lW2 (by assumption) | exact ih_lW4 (by assumption) | exact ih_lW5 (by assumption)) (by omega) (by omega) (k := ?_)
  refine ih_seg (i1 := 29) 1 rfl ?_
  refine ih_getR rfl rfl ?_
  refine ih_seg (i1 := 34) 4 rfl ?_
  try dsimp only
  refine ih_getR rfl rfl ?_
  refine ih_seg (i1 := 36) 1 rfl ?_
  refine ih_iald rfl (by first | rfl | exact ih_lP1 (ih_P_w0 hc) | exact ih_lP2 (ih_P_w0 hc) | exact ih_lP3 (ih_P_w0 hc) | exact ih_lP4 (ih_P_w0 hc) |  exact ih_lP1 (by assumption) | exact ih_lP2 (by assumption) | exact ih_lP3 (by assumption) | exact ih_lP4 (by assumption) | exact ih_lC1 (by assumption) | exact ih_lS1 (by assumption) | exact ih_lW1 (by assumption) | exact ih_lW2 (by assumption) | exact ih_lW4 (by assumption) | exact ih_lW5 (by assumption)) (by omega) (by omega) (k := ?_)
  refine ih_iast rfl (by first | rfl | exact ih_lP1 (ih_P_w0 hc) | exact ih_lP2 (ih_P_w0 hc) | exact ih_lP3 (ih_P_w0 hc) | exact ih_lP4 (ih_P_w0 hc) |  exact ih_lP1 (by assumption) | exact ih_lP2 (by assumption) | exact ih_lP3 (by assumption) | exact ih_lP4 (by assumption) | exact ih_lC1 (by assumption) | exact ih_lS1 (by assumption) | exact ih_lW1 (by assumption) | exact ih_lW2 (by assumption) | exact ih_lW4 (by assumption) | exact ih_lW5 (by assumption)) (by omega) (by omega) (k := ?_)
  refine ih_seg (i1 := 39) 1 rfl ?_
  refine ih_getR rfl rfl ?_
  refine ih_seg (i1 := 44) 4 rfl ?_
  try dsimp only
  refine ih_iald rfl (by first | rfl | exact ih_lP1 (ih_P_w0 hc) | exact ih_lP2 (ih_P_w0 hc) | exact ih_lP3 (ih_P_w0 hc) | exact ih_lP4 (ih_P_w0 hc) |  exact ih_lP1 (by assumption) | exact ih_lP2 (by assumption) | exact ih_lP3 (by assumption) | exact ih_lP4 (by assumption) | exact ih_lC1 (by assumption) | exact ih_lS1 (by assumption) | exact ih_lW1 (by assumption) | exact ih_lW2 (by assumption) | exact ih_lW4 (by assumption) | exact ih_lW5 (by assumption)) (by omega) (by omega) (k := ?_)
  refine ih_seg (i1 := 47) 2 rfl ?_
  try dsimp only
  refine ih_iast rfl (by first | rfl | exact ih_lP1 (ih_P_w0 hc) | exact ih_lP2 (ih_P_w0 hc) | exact ih_lP3 (ih_P_w0 hc) | exact ih_lP4 (ih_P_w0 hc) |  exact ih_lP1 (by assumption) | exact ih_lP2 (by assumption) | exact ih_lP3 (by assumption) | exact ih_lP4 (by assumption) | exact ih_lC1 (by assumption) | exact ih_lS1 (by assumption) | exact ih_lW1 (by assumption) | exact ih_lW2 (by assumption) | exact ih_lW4 (by assumption) | exact ih_lW5 (by assumption)) (by omega) (by omega) (k := ?_)
  refine ih_seg (i1 := 49) 1 rfl ?_
  refine ih_getR rfl rfl ?_
  refine ih_seg (i1 := 53) 3 rfl ?_
  try dsimp only
  refine ih_iald rfl (by first | rfl | exact ih_lP1 (ih_P_w0 hc) | exact ih_lP2 (ih_P_w0 hc) | exact ih_lP3 (ih_P_w0 hc) | exact ih_lP4 (ih_P_w0 hc) |  exact ih_lP1 (by assumption) | exact ih_lP2 (by assumption) | exact ih_lP3 (by assumption) | exact ih_lP4 (by assumption) | exact ih_lC1 (by assumption) | exact ih_lS1 (by assumption) | exact ih_lW1 (by assumption) | exact ih_lW2 (by assumption) | exact ih_lW4 (by assumption) | exact ih_lW5 (by assumption)) (by omega) (by omega) (k := ?_)
  refine ih_seg (i1 := 56) 2 rfl ?_
  try dsimp only
  refine ih_ret rfl rfl ?_
  refine ih_Qe ?_ (k _ ?_ (fun j h => by simp only [ih_up_ne h]))
  · simp only [ih_up2, and_true, true_and, and_self, if_true, if_false, reduceIte]
    repeat' split
    all_goals first | rfl | omega
  · funext x
    simp only [ih_up2, ih_nm, and_true, true_and, and_self, if_true, if_false, reduceIte]
    repeat' split
    all_goals first | rfl | omega | (next e => exact congrArg (t 112) (by omega))


theorem c_op_write {X : List Int} {t : ih_S} {Q : Option xa_V → ih_S → Prop} {s : Int → Int} {a b d e : Int} (ha : xa_rI a) (hb : xa_rI b) (hd : xa_rI d) (he : xa_rI e) (W : ih_Wr t 1 s) (G : ih_Gd s) (K : ih_chC t (f_write s a b d e) (ih_nm s a.toNat b d e) Q) : ih_Wp X 62 0 [xR 0, xI a, xI b, xI d, xI e, xC 1] [] t Q := by
  refine ih_seg (i1 := 1) 1 rfl ?_
  refine ih_is1 106 rfl rfl (Nat.le_of_ble_eq_true rfl) (Nat.le_of_ble_eq_true rfl) rfl ?_
  refine c_isPaper (by omega) (fun w1 => ?_) (fun w2 => ?_)
  · refine ih_seg (i1 := 4) 2 rfl ?_
    refine ih_is1 107 rfl rfl (Nat.le_of_ble_eq_true rfl) (Nat.le_of_ble_eq_true rfl) rfl ?_
    refine c_isKind (by omega) (fun w3 => ?_) (fun w4 => ?_)
    · refine ih_seg (i1 := 7) 2 rfl ?_
      refine ih_is1 108 rfl rfl (Nat.le_of_ble_eq_true rfl) (Nat.le_of_ble_eq_true rfl) rfl ?_
      refine c_isLetter (by omega) (fun w5 => ?_) (fun w6 => ?_)
      · refine ih_seg (i1 := 10) 2 rfl ?_
        refine ih_is1 105 rfl rfl (Nat.le_of_ble_eq_true rfl) (Nat.le_of_ble_eq_true rfl) rfl ?_
        refine c_isInk (by omega) (fun w7 => ?_) (fun w8 => ?_)
        · refine ih_seg (i1 := 16) 1 rfl ?_
          obtain ⟨c, rfl⟩ := Int.eq_ofNat_of_zero_le (show 0 ≤ a by omega)
          have hc : c < 4 := by omega
          have P := ih_PG_W W G hc
          have g0 := P.sz
          have hz := ih_W_sz W hc
          have hP := ih_P_w0 hc
          have nw : t 1 5 = s 0 := W.now
          refine ih_seg (i1 := 17) 1 rfl ?_
          refine ih_getR rfl rfl ?_
          refine ih_getR rfl (by first | rfl | exact ih_fW2 (by assumption)) ?_
          refine ih_seg (i1 := 20) 1 rfl ?_
          refine ih_aald rfl (ih_eP hc) ?_
          refine ih_seg (i1 := 23) 2 rfl ?_
          try simp only [xa_set, List.set_cons_zero, List.set_cons_succ, List.getElem?_cons_zero, List.getElem?_cons_succ]
          refine ih_iv0 22 rfl rfl (by first | rfl | exact ih_kP (ih_P_w0 hc) |  exact ih_kP (by assumption) | exact ih_kC (by assumption) | exact ih_kN (by assumption) | exact ih_kS (by assumption) | exact ih_kW (by assumption)) (Nat.le_of_ble_eq_true rfl) (Nat.le_of_ble_eq_true rfl) rfl ?_
          refine c_isFull hP (by omega) (fun w9 => ?_) (fun w10 => ?_)
          · refine ih_seg (i1 := 27) 3 rfl ?_
            refine ih_iv1 102 rfl rfl (by first | rfl | exact ih_kP (ih_P_w0 hc) |  exact ih_kP (by assumption) | exact ih_kC (by assumption) | exact ih_kN (by assumption) | exact ih_kS (by assumption) | exact ih_kW (by assumption)) (Nat.le_of_ble_eq_true rfl) (Nat.le_of_ble_eq_true rfl) rfl ?_
            refine c_finding (by omega) ?_
            refine ih_ret rfl rfl ?_
            first
              | exact ih_chC_no K (by rw [f_write, if_neg (by omega)]) (ih_sc_r _)
              | exact ih_chC_no K (by rw [f_write, if_pos (by omega), if_pos (by omega)]) (ih_sc_r _)
              | (simp only [Int.toNat_natCast] at K
                 simp only [ih_a1, ih_a2, ih_a3, ih_a4, nw, hz]
                 refine ih_chC_ok K ?_ (ih_Wu_nm G hc (by omega) W) (by repeat (first | exact ih_cf_r t | refine ih_cf_u ?_ (by omega)))
                 rw [f_write, if_pos (by omega), if_neg (by omega), ih_up_eq, ih_u1_eq]
                 exact congrArg Sum.inl (by omega))
          · refine ih_seg (i1 := 34) 6 rfl ?_
            refine ih_getR rfl rfl ?_
            refine ih_getI rfl (by first | rfl | exact ih_fW5 (by assumption)) ?_
            refine ih_iv4 23 rfl rfl (by first | rfl | exact ih_kP (ih_P_w0 hc) |  exact ih_kP (by assumption) | exact ih_kC (by assumption) | exact ih_kN (by assumption) | exact ih_kS (by assumption) | exact ih_kW (by assumption)) (Nat.le_of_ble_eq_true rfl) (Nat.le_of_ble_eq_true rfl) rfl ?_
            refine c_add hP (by omega) ?_
            refine ih_seg (i1 := 38) 1 rfl ?_
            refine ih_getI rfl (by first | rfl | exact ih_fP4 (ih_P_w0 hc) | exact ih_fP4 (by assumption)) ?_
            refine ih_seg (i1 := 41) 2 rfl ?_
            try dsimp only
            refine ih_ret rfl rfl ?_
            first
              | exact ih_chC_no K (by rw [f_write, if_neg (by omega)]) (ih_sc_r _)
              | exact ih_chC_no K (by rw [f_write, if_pos (by omega), if_pos (by omega)]) (ih_sc_r _)
              | (simp only [Int.toNat_natCast] at K
                 simp only [ih_a1, ih_a2, ih_a3, ih_a4, nw, hz]
                 refine ih_chC_ok K ?_ (ih_Wu_nm G hc (by omega) W) (by repeat (first | exact ih_cf_r t | refine ih_cf_u ?_ (by omega)))
                 rw [f_write, if_pos (by omega), if_neg (by omega), ih_up_eq, ih_u1_eq]
                 exact congrArg Sum.inl (by omega))
        · refine ih_seg (i1 := 14) 3 rfl ?_
          refine ih_iv1 102 rfl rfl (by first | rfl | exact ih_kP (ih_P_w0 hc) |  exact ih_kP (by assumption) | exact ih_kC (by assumption) | exact ih_kN (by assumption) | exact ih_kS (by assumption) | exact ih_kW (by assumption)) (Nat.le_of_ble_eq_true rfl) (Nat.le_of_ble_eq_true rfl) rfl ?_
          refine c_finding (by omega) ?_
          refine ih_ret rfl rfl ?_
          first
            | exact ih_chC_no K (by rw [f_write, if_neg (by omega)]) (ih_sc_r _)
            | exact ih_chC_no K (by rw [f_write, if_pos (by omega), if_pos (by omega)]) (ih_sc_r _)
            | (simp only [Int.toNat_natCast] at K
               simp only [ih_a1, ih_a2, ih_a3, ih_a4, nw, hz]
               refine ih_chC_ok K ?_ (ih_Wu_nm G hc (by omega) W) (by repeat (first | exact ih_cf_r t | refine ih_cf_u ?_ (by omega)))
               rw [f_write, if_pos (by omega), if_neg (by omega), ih_up_eq, ih_u1_eq]
               exact congrArg Sum.inl (by omega))
      · refine ih_seg (i1 := 14) 3 rfl ?_
        refine ih_iv1 102 rfl rfl (by first | rfl | exact ih_kP (ih_P_w0 hc) |  exact ih_kP (by assumption) | exact ih_kC (by assumption) | exact ih_kN (by assumption) | exact ih_kS (by assumption) | exact ih_kW (by assumption)) (Nat.le_of_ble_eq_true rfl) (Nat.le_of_ble_eq_true rfl) rfl ?_
        refine c_finding (by omega) ?_
        refine ih_ret rfl rfl ?_
        first
          | exact ih_chC_no K (by rw [f_write, if_neg (by omega)]) (ih_sc_r _)
          | exact ih_chC_no K (by rw [f_write, if_pos (by omega), if_pos (by omega)]) (ih_sc_r _)
          | (simp only [Int.toNat_natCast] at K
             simp only [ih_a1, ih_a2, ih_a3, ih_a4, nw, hz]
             refine ih_chC_ok K ?_ (ih_Wu_nm G hc (by omega) W) (by repeat (first | exact ih_cf_r t | refine ih_cf_u ?_ (by omega)))
             rw [f_write, if_pos (by omega), if_neg (by omega), ih_up_eq, ih_u1_eq]
             exact congrArg Sum.inl (by omega))
    · refine ih_seg (i1 := 14) 3 rfl ?_
      refine ih_iv1 102 rfl rfl (by first | rfl | exact ih_kP (ih_P_w0 hc) |  exact ih_kP (by assumption) | exact ih_kC (by assumption) | exact ih_kN (by assumption) | exact ih_kS (by assumption) | exact ih_kW (by assumption)) (Nat.le_of_ble_eq_true rfl) (Nat.le_of_ble_eq_true rfl) rfl ?_
      refine c_finding (by omega) ?_
      refine ih_ret rfl rfl ?_
      first
        | exact ih_chC_no K (by rw [f_write, if_neg (by omega)]) (ih_sc_r _)
        | exact ih_chC_no K (by rw [f_write, if_pos (by omega), if_pos (by omega)]) (ih_sc_r _)
        | (simp only [Int.toNat_natCast] at K
           simp only [ih_a1, ih_a2, ih_a3, ih_a4, nw, hz]
           refine ih_chC_ok K ?_ (ih_Wu_nm G hc (by omega) W) (by repeat (first | exact ih_cf_r t | refine ih_cf_u ?_ (by omega)))
           rw [f_write, if_pos (by omega), if_neg (by omega), ih_up_eq, ih_u1_eq]
           exact congrArg Sum.inl (by omega))
  · refine ih_seg (i1 := 14) 3 rfl ?_
    refine ih_iv1 102 rfl rfl (by first | rfl | exact ih_kP (ih_P_w0 hc) |  exact ih_kP (by assumption) | exact ih_kC (by assumption) | exact ih_kN (by assumption) | exact ih_kS (by assumption) | exact ih_kW (by assumption)) (Nat.le_of_ble_eq_true rfl) (Nat.le_of_ble_eq_true rfl) rfl ?_
    refine c_finding (by omega) ?_
    refine ih_ret rfl rfl ?_
    first
      | exact ih_chC_no K (by rw [f_write, if_neg (by omega)]) (ih_sc_r _)
      | exact ih_chC_no K (by rw [f_write, if_pos (by omega), if_pos (by omega)]) (ih_sc_r _)
      | (simp only [Int.toNat_natCast] at K
         simp only [ih_a1, ih_a2, ih_a3, ih_a4, nw, hz]
         refine ih_chC_ok K ?_ (ih_Wu_nm G hc (by omega) W) (by repeat (first | exact ih_cf_r t | refine ih_cf_u ?_ (by omega)))
         rw [f_write, if_pos (by omega), if_neg (by omega), ih_up_eq, ih_u1_eq]
         exact congrArg Sum.inl (by omega))


theorem r_op_write {X : List Int} {t : ih_S} {Q : Option xa_V → ih_S → Prop} {a b d e : Int} (ha : xa_rI a) (hb : xa_rI b) (hd : xa_rI d) (he : xa_rI e) (G : ih_Gd (t 112)) (K : ih_chR t (f_write (t 112) a b d e) (ih_nm (t 112) a.toNat b d e) Q) : ih_Wp X 139 0 [xR 111, xI a, xI b, xI d, xI e] [] t Q := by
  refine ih_seg (i1 := 1) 1 rfl ?_
  refine ih_is1 128 rfl rfl (Nat.le_of_ble_eq_true rfl) (Nat.le_of_ble_eq_true rfl) rfl ?_
  refine r_isPaper (by omega) (fun w1 => ?_) (fun w2 => ?_)
  · refine ih_seg (i1 := 4) 2 rfl ?_
    refine ih_i2l rfl (by omega) ?_
    refine ih_seg (i1 := 7) 2 rfl ?_
    refine ih_is3 126 rfl rfl (Nat.le_of_ble_eq_true rfl) (Nat.le_of_ble_eq_true rfl) rfl ?_
    refine r_in (by omega) (by omega) (by omega) (fun w3 => ?_) (fun w4 => ?_)
    · refine ih_seg (i1 := 10) 2 rfl ?_
      refine ih_i2l rfl (by omega) ?_
      refine ih_seg (i1 := 13) 2 rfl ?_
      refine ih_is3 126 rfl rfl (Nat.le_of_ble_eq_true rfl) (Nat.le_of_ble_eq_true rfl) rfl ?_
      refine r_in (by omega) (by omega) (by omega) (fun w5 => ?_) (fun w6 => ?_)
      · refine ih_seg (i1 := 16) 2 rfl ?_
        refine ih_is1 129 rfl rfl (Nat.le_of_ble_eq_true rfl) (Nat.le_of_ble_eq_true rfl) rfl ?_
        refine r_isInk (by omega) (fun w7 => ?_) (fun w8 => ?_)
        · refine ih_seg (i1 := 22) 1 rfl ?_
          obtain ⟨p, rfl⟩ := Int.eq_ofNat_of_zero_le (show 0 ≤ a by omega)
          have hp : p < 4 := by omega
          have g0 := (G.pap p hp).sz
          refine ih_seg (i1 := 23) 1 rfl ?_
          refine ih_getR rfl rfl ?_
          refine ih_seg (i1 := 27) 3 rfl ?_
          try dsimp only
          refine ih_iald rfl (by first | rfl | exact ih_lP1 (ih_P_w0 hc) | exact ih_lP2 (ih_P_w0 hc) | exact ih_lP3 (ih_P_w0 hc) | exact ih_lP4 (ih_P_w0 hc) |  exact ih_lP1 (by assumption) | exact ih_lP2 (by assumption) | exact ih_lP3 (by assumption) | exact ih_lP4 (by assumption) | exact ih_lC1 (by assumption) | exact ih_lS1 (by assumption) | exact ih_lW1 (by assumption) | exact ih_lW2 (by assumption) | exact ih_lW4 (by assumption) | exact ih_lW5 (by assumption)) (by omega) (by omega) (k := ?_)
          refine ih_seg (i1 := 29) 1 rfl ?_
          refine ih_icmp_ne rfl (by omega) (by omega) (fun w9 => ?_) (fun w9 => ?_)
          · refine ih_seg (i1 := 39) 5 rfl ?_
            refine ih_iv4 138 rfl rfl (by first | rfl | exact ih_kP (ih_P_w0 hc) |  exact ih_kP (by assumption) | exact ih_kC (by assumption) | exact ih_kN (by assumption) | exact ih_kS (by assumption) | exact ih_kW (by assumption)) (Nat.le_of_ble_eq_true rfl) (Nat.le_of_ble_eq_true rfl) rfl ?_
            refine r_newMark hp (by omega) (fun t1 e1 e2 => ?_)
            refine ih_ret rfl rfl ?_
            first
              | exact ih_chR_no 0 K (by rw [f_write, if_neg (by omega)]) rfl (ih_rr_r _)
              | exact ih_chR_no 1 K (by rw [f_write, if_pos (by omega), if_pos (by omega)]) rfl (ih_rr_r _)
              | exact ih_chR_ok K (by rw [f_write, if_pos (by omega), if_neg (by omega)]) e1 (ih_rg_w e2)
          · refine ih_seg (i1 := 32) 2 rfl ?_
            refine ih_iv1 127 rfl rfl (by first | rfl | exact ih_kP (ih_P_w0 hc) |  exact ih_kP (by assumption) | exact ih_kC (by assumption) | exact ih_kN (by assumption) | exact ih_kS (by assumption) | exact ih_kW (by assumption)) (Nat.le_of_ble_eq_true rfl) (Nat.le_of_ble_eq_true rfl) rfl ?_
            refine r_finds 1 rfl (by omega) ?_
            refine ih_seg (i1 := 40) 1 rfl ?_
            refine ih_ret rfl rfl ?_
            first
              | exact ih_chR_no 0 K (by rw [f_write, if_neg (by omega)]) rfl (ih_rr_r _)
              | exact ih_chR_no 1 K (by rw [f_write, if_pos (by omega), if_pos (by omega)]) rfl (ih_rr_r _)
              | exact ih_chR_ok K (by rw [f_write, if_pos (by omega), if_neg (by omega)]) e1 (ih_rg_w e2)
        · refine ih_seg (i1 := 20) 3 rfl ?_
          refine ih_iv1 127 rfl rfl (by first | rfl | exact ih_kP (ih_P_w0 hc) |  exact ih_kP (by assumption) | exact ih_kC (by assumption) | exact ih_kN (by assumption) | exact ih_kS (by assumption) | exact ih_kW (by assumption)) (Nat.le_of_ble_eq_true rfl) (Nat.le_of_ble_eq_true rfl) rfl ?_
          refine r_finds 0 rfl (by omega) ?_
          refine ih_ret rfl rfl ?_
          first
            | exact ih_chR_no 0 K (by rw [f_write, if_neg (by omega)]) rfl (ih_rr_r _)
            | exact ih_chR_no 1 K (by rw [f_write, if_pos (by omega), if_pos (by omega)]) rfl (ih_rr_r _)
            | exact ih_chR_ok K (by rw [f_write, if_pos (by omega), if_neg (by omega)]) e1 (ih_rg_w e2)
      · refine ih_seg (i1 := 20) 3 rfl ?_
        refine ih_iv1 127 rfl rfl (by first | rfl | exact ih_kP (ih_P_w0 hc) |  exact ih_kP (by assumption) | exact ih_kC (by assumption) | exact ih_kN (by assumption) | exact ih_kS (by assumption) | exact ih_kW (by assumption)) (Nat.le_of_ble_eq_true rfl) (Nat.le_of_ble_eq_true rfl) rfl ?_
        refine r_finds 0 rfl (by omega) ?_
        refine ih_ret rfl rfl ?_
        first
          | exact ih_chR_no 0 K (by rw [f_write, if_neg (by omega)]) rfl (ih_rr_r _)
          | exact ih_chR_no 1 K (by rw [f_write, if_pos (by omega), if_pos (by omega)]) rfl (ih_rr_r _)
          | exact ih_chR_ok K (by rw [f_write, if_pos (by omega), if_neg (by omega)]) e1 (ih_rg_w e2)
    · refine ih_seg (i1 := 20) 3 rfl ?_
      refine ih_iv1 127 rfl rfl (by first | rfl | exact ih_kP (ih_P_w0 hc) |  exact ih_kP (by assumption) | exact ih_kC (by assumption) | exact ih_kN (by assumption) | exact ih_kS (by assumption) | exact ih_kW (by assumption)) (Nat.le_of_ble_eq_true rfl) (Nat.le_of_ble_eq_true rfl) rfl ?_
      refine r_finds 0 rfl (by omega) ?_
      refine ih_ret rfl rfl ?_
      first
        | exact ih_chR_no 0 K (by rw [f_write, if_neg (by omega)]) rfl (ih_rr_r _)
        | exact ih_chR_no 1 K (by rw [f_write, if_pos (by omega), if_pos (by omega)]) rfl (ih_rr_r _)
        | exact ih_chR_ok K (by rw [f_write, if_pos (by omega), if_neg (by omega)]) e1 (ih_rg_w e2)
  · refine ih_seg (i1 := 20) 3 rfl ?_
    refine ih_iv1 127 rfl rfl (by first | rfl | exact ih_kP (ih_P_w0 hc) |  exact ih_kP (by assumption) | exact ih_kC (by assumption) | exact ih_kN (by assumption) | exact ih_kS (by assumption) | exact ih_kW (by assumption)) (Nat.le_of_ble_eq_true rfl) (Nat.le_of_ble_eq_true rfl) rfl ?_
    refine r_finds 0 rfl (by omega) ?_
    refine ih_ret rfl rfl ?_
    first
      | exact ih_chR_no 0 K (by rw [f_write, if_neg (by omega)]) rfl (ih_rr_r _)
      | exact ih_chR_no 1 K (by rw [f_write, if_pos (by omega), if_pos (by omega)]) rfl (ih_rr_r _)
      | exact ih_chR_ok K (by rw [f_write, if_pos (by omega), if_neg (by omega)]) e1 (ih_rg_w e2)


theorem c_op_turn {X : List Int} {t : ih_S} {Q : Option xa_V → ih_S → Prop} {s : Int → Int} {a b d : Int} (ha : xa_rI a) (hb : xa_rI b) (hd : xa_rI d) (W : ih_Wr t 1 s) (G : ih_Gd s) (K : ih_chC t (f_turn s a b d) (ih_u1 s (26 + 48 * a + 4 * b) d) Q) : ih_Wp X 64 0 [xR 0, xI a, xI b, xI d] [] t Q := by
  refine ih_seg (i1 := 3) 3 rfl ?_
  refine ih_iv2 111 rfl rfl (by first | rfl | exact ih_kP (ih_P_w0 hc) |  exact ih_kP (by assumption) | exact ih_kC (by assumption) | exact ih_kN (by assumption) | exact ih_kS (by assumption) | exact ih_kW (by assumption)) (Nat.le_of_ble_eq_true rfl) (Nat.le_of_ble_eq_true rfl) rfl ?_
  refine c_isMark (by omega) (by omega) (fun p hp => (ih_PG_W W G hp).sz) (fun c m ea eb hc hm => ?_) (fun hn => ?_)
  · refine ih_seg (i1 := 5) 1 rfl ?_
    subst ea eb
    have P := ih_PG_W W G hc
    have g0 := P.sz
    have hz := ih_W_sz W hc
    have hm2 : (m : Int) < s (22 + c) := by omega
    have ek := ih_W_kd W hc hm2
    refine ih_seg (i1 := 6) 1 rfl ?_
    refine ih_is1 107 rfl rfl (Nat.le_of_ble_eq_true rfl) (Nat.le_of_ble_eq_true rfl) rfl ?_
    refine c_isKind (by omega) (fun w1 => ?_) (fun w2 => ?_)
    · refine ih_seg (i1 := 13) 2 rfl ?_
      refine ih_getR rfl rfl ?_
      refine ih_getR rfl (by first | rfl | exact ih_fW2 (by assumption)) ?_
      refine ih_seg (i1 := 16) 1 rfl ?_
      refine ih_aald rfl (ih_eP hc) ?_
      refine ih_getR rfl (by first | rfl | exact ih_fP0 (ih_P_w0 hc) | exact ih_fP0 (by assumption)) ?_
      refine ih_seg (i1 := 20) 2 rfl ?_
      refine ih_is3 115 rfl rfl (Nat.le_of_ble_eq_true rfl) (Nat.le_of_ble_eq_true rfl) rfl ?_
      refine c_exchange (n := 12) (ih_lP1 (ih_P_w0 hc)) (by decide) (by omega) ?_
      refine ih_ret rfl rfl ?_
      first
        | (simp only [ih_a1]
           refine ih_chC_ok K ?_ (ih_Wu_kd G hc hm2 W) (ih_cf_u (ih_cf_r t) (by omega))
           rw [f_turn, if_pos (by omega), ek])
        | exact ih_chC_no K (by rw [f_turn, if_neg (by omega)]) (ih_sc_r _)
        | (have hn2 : ¬ ((0 ≤ a ∧ a < 4) ∧ 0 ≤ b ∧ b < s (22 + a)) := by
             rintro ⟨q1, q2, q3⟩
             refine hn a.toNat b.toNat (by omega) (by omega) (by omega) ?_
             rw [ih_W_sz W (by omega), show ((a.toNat : Nat) : Int) = a by omega]
             omega
           exact ih_chC_no K (by rw [f_turn, if_neg (fun q => hn2 q.1)]) (ih_sc_r _))
    · refine ih_seg (i1 := 10) 3 rfl ?_
      refine ih_iv1 102 rfl rfl (by first | rfl | exact ih_kP (ih_P_w0 hc) |  exact ih_kP (by assumption) | exact ih_kC (by assumption) | exact ih_kN (by assumption) | exact ih_kS (by assumption) | exact ih_kW (by assumption)) (Nat.le_of_ble_eq_true rfl) (Nat.le_of_ble_eq_true rfl) rfl ?_
      refine c_finding (by omega) ?_
      refine ih_ret rfl rfl ?_
      first
        | (simp only [ih_a1]
           refine ih_chC_ok K ?_ (ih_Wu_kd G hc hm2 W) (ih_cf_u (ih_cf_r t) (by omega))
           rw [f_turn, if_pos (by omega), ek])
        | exact ih_chC_no K (by rw [f_turn, if_neg (by omega)]) (ih_sc_r _)
        | (have hn2 : ¬ ((0 ≤ a ∧ a < 4) ∧ 0 ≤ b ∧ b < s (22 + a)) := by
             rintro ⟨q1, q2, q3⟩
             refine hn a.toNat b.toNat (by omega) (by omega) (by omega) ?_
             rw [ih_W_sz W (by omega), show ((a.toNat : Nat) : Int) = a by omega]
             omega
           exact ih_chC_no K (by rw [f_turn, if_neg (fun q => hn2 q.1)]) (ih_sc_r _))
  · refine ih_seg (i1 := 10) 3 rfl ?_
    refine ih_iv1 102 rfl rfl (by first | rfl | exact ih_kP (ih_P_w0 hc) |  exact ih_kP (by assumption) | exact ih_kC (by assumption) | exact ih_kN (by assumption) | exact ih_kS (by assumption) | exact ih_kW (by assumption)) (Nat.le_of_ble_eq_true rfl) (Nat.le_of_ble_eq_true rfl) rfl ?_
    refine c_finding (by omega) ?_
    refine ih_ret rfl rfl ?_
    first
      | (simp only [ih_a1]
         refine ih_chC_ok K ?_ (ih_Wu_kd G hc hm2 W) (ih_cf_u (ih_cf_r t) (by omega))
         rw [f_turn, if_pos (by omega), ek])
      | exact ih_chC_no K (by rw [f_turn, if_neg (by omega)]) (ih_sc_r _)
      | (have hn2 : ¬ ((0 ≤ a ∧ a < 4) ∧ 0 ≤ b ∧ b < s (22 + a)) := by
           rintro ⟨q1, q2, q3⟩
           refine hn a.toNat b.toNat (by omega) (by omega) (by omega) ?_
           rw [ih_W_sz W (by omega), show ((a.toNat : Nat) : Int) = a by omega]
           omega
         exact ih_chC_no K (by rw [f_turn, if_neg (fun q => hn2 q.1)]) (ih_sc_r _))


theorem r_op_turn {X : List Int} {t : ih_S} {Q : Option xa_V → ih_S → Prop} {a b d : Int} (ha : xa_rI a) (hb : xa_rI b) (hd : xa_rI d) (G : ih_Gd (t 112)) (K : ih_chR t (f_turn (t 112) a b d) (ih_u1 (t 112) (26 + 48 * a + 4 * b) d) Q) : ih_Wp X 142 0 [xR 111, xI a, xI b, xI d, xC 1] [] t Q := by
  refine ih_seg (i1 := 3) 3 rfl ?_
  refine ih_iv2 131 rfl rfl (by first | rfl | exact ih_kP (ih_P_w0 hc) |  exact ih_kP (by assumption) | exact ih_kC (by assumption) | exact ih_kN (by assumption) | exact ih_kS (by assumption) | exact ih_kW (by assumption)) (Nat.le_of_ble_eq_true rfl) (Nat.le_of_ble_eq_true rfl) rfl ?_
  refine r_isMark (by omega) (by omega) (fun p hp => (G.pap p hp).sz) (fun p m ea eb hp hm => ?_) (fun hn => ?_)
  · refine ih_seg (i1 := 5) 1 rfl ?_
    subst ea eb
    have P := G.pap p hp
    have g0 := P.sz
    refine ih_seg (i1 := 6) 1 rfl ?_
    refine ih_i2l rfl (by omega) ?_
    refine ih_seg (i1 := 9) 2 rfl ?_
    refine ih_is3 126 rfl rfl (Nat.le_of_ble_eq_true rfl) (Nat.le_of_ble_eq_true rfl) rfl ?_
    refine r_in (by omega) (by omega) (by omega) (fun w1 => ?_) (fun w2 => ?_)
    · refine ih_seg (i1 := 16) 2 rfl ?_
      refine ih_getR rfl rfl ?_
      refine ih_seg (i1 := 19) 2 rfl ?_
      refine ih_is2 132 rfl rfl (Nat.le_of_ble_eq_true rfl) (Nat.le_of_ble_eq_true rfl) rfl ?_
      refine r_at ?_
      refine ih_iald rfl (by first | rfl | exact ih_lP1 (ih_P_w0 hc) | exact ih_lP2 (ih_P_w0 hc) | exact ih_lP3 (ih_P_w0 hc) | exact ih_lP4 (ih_P_w0 hc) |  exact ih_lP1 (by assumption) | exact ih_lP2 (by assumption) | exact ih_lP3 (by assumption) | exact ih_lP4 (by assumption) | exact ih_lC1 (by assumption) | exact ih_lS1 (by assumption) | exact ih_lW1 (by assumption) | exact ih_lW2 (by assumption) | exact ih_lW4 (by assumption) | exact ih_lW5 (by assumption)) (by omega) (by omega) (k := ?_)
      refine ih_seg (i1 := 23) 2 rfl ?_
      try simp only [xa_set, List.set_cons_zero, List.set_cons_succ, List.getElem?_cons_zero, List.getElem?_cons_succ]
      refine ih_getR rfl rfl ?_
      refine ih_seg (i1 := 26) 2 rfl ?_
      refine ih_is2 132 rfl rfl (Nat.le_of_ble_eq_true rfl) (Nat.le_of_ble_eq_true rfl) rfl ?_
      refine r_at ?_
      refine ih_seg (i1 := 28) 1 rfl ?_
      refine ih_iast rfl (by first | rfl | exact ih_lP1 (ih_P_w0 hc) | exact ih_lP2 (ih_P_w0 hc) | exact ih_lP3 (ih_P_w0 hc) | exact ih_lP4 (ih_P_w0 hc) |  exact ih_lP1 (by assumption) | exact ih_lP2 (by assumption) | exact ih_lP3 (by assumption) | exact ih_lP4 (by assumption) | exact ih_lC1 (by assumption) | exact ih_lS1 (by assumption) | exact ih_lW1 (by assumption) | exact ih_lW2 (by assumption) | exact ih_lW4 (by assumption) | exact ih_lW5 (by assumption)) (by omega) (by omega) (k := ?_)
      refine ih_seg (i1 := 30) 1 rfl ?_
      refine ih_ret rfl rfl ?_
      first
        | (refine ih_chR_ok K ?_ ih_up_eq (ih_rg_u (ih_rg_r t) (by omega))
           rw [f_turn, if_pos (by omega)])
        | exact ih_chR_no 0 K (by rw [f_turn, if_neg (by omega)]) rfl (ih_rr_r _)
        | (have hn2 : ¬ ((0 ≤ a ∧ a < 4) ∧ 0 ≤ b ∧ b < t 112 (22 + a)) := by
             rintro ⟨q1, q2, q3⟩
             refine hn a.toNat b.toNat (by omega) (by omega) (by omega) ?_
             rw [show ((a.toNat : Nat) : Int) = a by omega]
             omega
           exact ih_chR_no 0 K (by rw [f_turn, if_neg (fun q => hn2 q.1)]) rfl (ih_rr_r _))
    · refine ih_seg (i1 := 13) 3 rfl ?_
      refine ih_iv1 127 rfl rfl (by first | rfl | exact ih_kP (ih_P_w0 hc) |  exact ih_kP (by assumption) | exact ih_kC (by assumption) | exact ih_kN (by assumption) | exact ih_kS (by assumption) | exact ih_kW (by assumption)) (Nat.le_of_ble_eq_true rfl) (Nat.le_of_ble_eq_true rfl) rfl ?_
      refine r_finds 0 rfl (by omega) ?_
      refine ih_ret rfl rfl ?_
      first
        | (refine ih_chR_ok K ?_ ih_up_eq (ih_rg_u (ih_rg_r t) (by omega))
           rw [f_turn, if_pos (by omega)])
        | exact ih_chR_no 0 K (by rw [f_turn, if_neg (by omega)]) rfl (ih_rr_r _)
        | (have hn2 : ¬ ((0 ≤ a ∧ a < 4) ∧ 0 ≤ b ∧ b < t 112 (22 + a)) := by
             rintro ⟨q1, q2, q3⟩
             refine hn a.toNat b.toNat (by omega) (by omega) (by omega) ?_
             rw [show ((a.toNat : Nat) : Int) = a by omega]
             omega
           exact ih_chR_no 0 K (by rw [f_turn, if_neg (fun q => hn2 q.1)]) rfl (ih_rr_r _))
  · refine ih_seg (i1 := 13) 3 rfl ?_
    refine ih_iv1 127 rfl rfl (by first | rfl | exact ih_kP (ih_P_w0 hc) |  exact ih_kP (by assumption) | exact ih_kC (by assumption) | exact ih_kN (by assumption) | exact ih_kS (by assumption) | exact ih_kW (by assumption)) (Nat.le_of_ble_eq_true rfl) (Nat.le_of_ble_eq_true rfl) rfl ?_
    refine r_finds 0 rfl (by omega) ?_
    refine ih_ret rfl rfl ?_
    first
      | (refine ih_chR_ok K ?_ ih_up_eq (ih_rg_u (ih_rg_r t) (by omega))
         rw [f_turn, if_pos (by omega)])
      | exact ih_chR_no 0 K (by rw [f_turn, if_neg (by omega)]) rfl (ih_rr_r _)
      | (have hn2 : ¬ ((0 ≤ a ∧ a < 4) ∧ 0 ≤ b ∧ b < t 112 (22 + a)) := by
           rintro ⟨q1, q2, q3⟩
           refine hn a.toNat b.toNat (by omega) (by omega) (by omega) ?_
           rw [show ((a.toNat : Nat) : Int) = a by omega]
           omega
         exact ih_chR_no 0 K (by rw [f_turn, if_neg (fun q => hn2 q.1)]) rfl (ih_rr_r _))


theorem c_op_copied {X : List Int} {t : ih_S} {Q : Option xa_V → ih_S → Prop} {s : Int → Int} {a b d : Int} (ha : xa_rI a) (hb : xa_rI b) (hd : xa_rI d) (W : ih_Wr t 1 s) (G : ih_Gd s) (K : ih_chC t (f_copied s a b d) (g_cop s a b d) Q) : ih_Wp X 66 0 [xR 0, xI a, xI b, xI d] [] t Q := by
  refine ih_seg (i1 := 3) 3 rfl ?_
  refine ih_iv2 111 rfl rfl (by first | rfl | exact ih_kP (ih_P_w0 hc) |  exact ih_kP (by assumption) | exact ih_kC (by assumption) | exact ih_kN (by assumption) | exact ih_kS (by assumption) | exact ih_kW (by assumption)) (Nat.le_of_ble_eq_true rfl) (Nat.le_of_ble_eq_true rfl) rfl ?_
  refine c_isMark (by omega) (by omega) (fun p hp => (ih_PG_W W G hp).sz) (fun c m ea eb hc hm => ?_) (fun hn => ?_)
  · refine ih_seg (i1 := 5) 1 rfl ?_
    subst ea eb
    have P := ih_PG_W W G hc
    have g0 := P.sz
    have hz := ih_W_sz W hc
    have hm2 : (m : Int) < s (22 + c) := by omega
    have ek := ih_W_ink W hc hm2
    have nw : t 1 5 = s 0 := W.now
    refine ih_seg (i1 := 6) 1 rfl ?_
    refine ih_is1 105 rfl rfl (Nat.le_of_ble_eq_true rfl) (Nat.le_of_ble_eq_true rfl) rfl ?_
    refine c_isInk (by omega) (fun w1 => ?_) (fun w2 => ?_)
    · refine ih_seg (i1 := 13) 2 rfl ?_
      refine ih_getR rfl rfl ?_
      refine ih_getR rfl (by first | rfl | exact ih_fW2 (by assumption)) ?_
      refine ih_seg (i1 := 16) 1 rfl ?_
      refine ih_aald rfl (ih_eP hc) ?_
      refine ih_getR rfl (by first | rfl | exact ih_fP3 (ih_P_w0 hc) | exact ih_fP3 (by assumption)) ?_
      refine ih_seg (i1 := 20) 2 rfl ?_
      refine ih_getR rfl rfl ?_
      refine ih_getI rfl (by first | rfl | exact ih_fW5 (by assumption)) ?_
      refine ih_iast rfl (by first | rfl | exact ih_lP1 (ih_P_w0 hc) | exact ih_lP2 (ih_P_w0 hc) | exact ih_lP3 (ih_P_w0 hc) | exact ih_lP4 (ih_P_w0 hc) |  exact ih_lP1 (by assumption) | exact ih_lP2 (by assumption) | exact ih_lP3 (by assumption) | exact ih_lP4 (by assumption) | exact ih_lC1 (by assumption) | exact ih_lS1 (by assumption) | exact ih_lW1 (by assumption) | exact ih_lW2 (by assumption) | exact ih_lW4 (by assumption) | exact ih_lW5 (by assumption)) (by omega) (by omega) (k := ?_)
      refine ih_seg (i1 := 24) 1 rfl ?_
      refine ih_getR rfl rfl ?_
      refine ih_getR rfl (by first | rfl | exact ih_fW2 (by assumption)) ?_
      refine ih_seg (i1 := 27) 1 rfl ?_
      refine ih_aald rfl (ih_eP hc) ?_
      refine ih_getR rfl (by first | rfl | exact ih_fP2 (ih_P_w0 hc) | exact ih_fP2 (by assumption)) ?_
      refine ih_seg (i1 := 31) 2 rfl ?_
      refine ih_is3 115 rfl rfl (Nat.le_of_ble_eq_true rfl) (Nat.le_of_ble_eq_true rfl) rfl ?_
      refine c_exchange (n := 12) (ih_lP3 (ih_P_w0 hc)) (by decide) (by omega) ?_
      refine ih_ret rfl rfl ?_
      first
        | (simp only [ih_a3, ih_a4, nw]
           refine ih_chC_ok K ?_ (ih_Wu_cop G hc hm2 W) (by repeat (first | exact ih_cf_r t | refine ih_cf_u ?_ (by omega)))
           rw [f_copied, if_pos (by omega), ih_up_ne (by omega), ek])
        | exact ih_chC_no K (by rw [f_copied, if_neg (by omega)]) (ih_sc_r _)
        | (have hn2 : ¬ ((0 ≤ a ∧ a < 4) ∧ 0 ≤ b ∧ b < s (22 + a)) := by
             rintro ⟨q1, q2, q3⟩
             refine hn a.toNat b.toNat (by omega) (by omega) (by omega) ?_
             rw [ih_W_sz W (by omega), show ((a.toNat : Nat) : Int) = a by omega]
             omega
           exact ih_chC_no K (by rw [f_copied, if_neg (fun q => hn2 q.1)]) (ih_sc_r _))
    · refine ih_seg (i1 := 10) 3 rfl ?_
      refine ih_iv1 102 rfl rfl (by first | rfl | exact ih_kP (ih_P_w0 hc) |  exact ih_kP (by assumption) | exact ih_kC (by assumption) | exact ih_kN (by assumption) | exact ih_kS (by assumption) | exact ih_kW (by assumption)) (Nat.le_of_ble_eq_true rfl) (Nat.le_of_ble_eq_true rfl) rfl ?_
      refine c_finding (by omega) ?_
      refine ih_ret rfl rfl ?_
      first
        | (simp only [ih_a3, ih_a4, nw]
           refine ih_chC_ok K ?_ (ih_Wu_cop G hc hm2 W) (by repeat (first | exact ih_cf_r t | refine ih_cf_u ?_ (by omega)))
           rw [f_copied, if_pos (by omega), ih_up_ne (by omega), ek])
        | exact ih_chC_no K (by rw [f_copied, if_neg (by omega)]) (ih_sc_r _)
        | (have hn2 : ¬ ((0 ≤ a ∧ a < 4) ∧ 0 ≤ b ∧ b < s (22 + a)) := by
             rintro ⟨q1, q2, q3⟩
             refine hn a.toNat b.toNat (by omega) (by omega) (by omega) ?_
             rw [ih_W_sz W (by omega), show ((a.toNat : Nat) : Int) = a by omega]
             omega
           exact ih_chC_no K (by rw [f_copied, if_neg (fun q => hn2 q.1)]) (ih_sc_r _))
  · refine ih_seg (i1 := 10) 3 rfl ?_
    refine ih_iv1 102 rfl rfl (by first | rfl | exact ih_kP (ih_P_w0 hc) |  exact ih_kP (by assumption) | exact ih_kC (by assumption) | exact ih_kN (by assumption) | exact ih_kS (by assumption) | exact ih_kW (by assumption)) (Nat.le_of_ble_eq_true rfl) (Nat.le_of_ble_eq_true rfl) rfl ?_
    refine c_finding (by omega) ?_
    refine ih_ret rfl rfl ?_
    first
      | (simp only [ih_a3, ih_a4, nw]
         refine ih_chC_ok K ?_ (ih_Wu_cop G hc hm2 W) (by repeat (first | exact ih_cf_r t | refine ih_cf_u ?_ (by omega)))
         rw [f_copied, if_pos (by omega), ih_up_ne (by omega), ek])
      | exact ih_chC_no K (by rw [f_copied, if_neg (by omega)]) (ih_sc_r _)
      | (have hn2 : ¬ ((0 ≤ a ∧ a < 4) ∧ 0 ≤ b ∧ b < s (22 + a)) := by
           rintro ⟨q1, q2, q3⟩
           refine hn a.toNat b.toNat (by omega) (by omega) (by omega) ?_
           rw [ih_W_sz W (by omega), show ((a.toNat : Nat) : Int) = a by omega]
           omega
         exact ih_chC_no K (by rw [f_copied, if_neg (fun q => hn2 q.1)]) (ih_sc_r _))


theorem r_copies {X : List Int} {t : ih_S} {Q : Option xa_V → ih_S → Prop} {p m : Nat} {d : Int} (hp : p < 4) (hm : m < 12) (k : ∀ t1, t1 112 = g_cop (t 112) p m d → (∀ j, j ≠ 112 → t1 j = t j) → Q none t1) : ih_Wp X 144 0 [xR 111, xI p, xI m, xI d] [] t Q := by
  refine ih_seg (i1 := 1) 1 rfl ?_
  refine ih_getR rfl rfl ?_
  refine ih_seg (i1 := 4) 2 rfl ?_
  refine ih_is2 132 rfl rfl (Nat.le_of_ble_eq_true rfl) (Nat.le_of_ble_eq_true rfl) rfl ?_
  refine r_at ?_
  refine ih_seg (i1 := 8) 3 rfl ?_
  try dsimp only
  refine ih_iast rfl (by first | rfl | exact ih_lP1 (ih_P_w0 hc) | exact ih_lP2 (ih_P_w0 hc) | exact ih_lP3 (ih_P_w0 hc) | exact ih_lP4 (ih_P_w0 hc) |  exact ih_lP1 (by assumption) | exact ih_lP2 (by assumption) | exact ih_lP3 (by assumption) | exact ih_lP4 (by assumption) | exact ih_lC1 (by assumption) | exact ih_lS1 (by assumption) | exact ih_lW1 (by assumption) | exact ih_lW2 (by assumption) | exact ih_lW4 (by assumption) | exact ih_lW5 (by assumption)) (by omega) (by omega) (k := ?_)
  refine ih_seg (i1 := 10) 1 rfl ?_
  refine ih_getR rfl rfl ?_
  refine ih_seg (i1 := 13) 2 rfl ?_
  refine ih_is2 132 rfl rfl (Nat.le_of_ble_eq_true rfl) (Nat.le_of_ble_eq_true rfl) rfl ?_
  refine r_at ?_
  refine ih_seg (i1 := 17) 3 rfl ?_
  try dsimp only
  refine ih_getR rfl rfl ?_
  refine ih_seg (i1 := 19) 1 rfl ?_
  refine ih_iald rfl (by first | rfl | exact ih_lP1 (ih_P_w0 hc) | exact ih_lP2 (ih_P_w0 hc) | exact ih_lP3 (ih_P_w0 hc) | exact ih_lP4 (ih_P_w0 hc) |  exact ih_lP1 (by assumption) | exact ih_lP2 (by assumption) | exact ih_lP3 (by assumption) | exact ih_lP4 (by assumption) | exact ih_lC1 (by assumption) | exact ih_lS1 (by assumption) | exact ih_lW1 (by assumption) | exact ih_lW2 (by assumption) | exact ih_lW4 (by assumption) | exact ih_lW5 (by assumption)) (by omega) (by omega) (k := ?_)
  refine ih_iast rfl (by first | rfl | exact ih_lP1 (ih_P_w0 hc) | exact ih_lP2 (ih_P_w0 hc) | exact ih_lP3 (ih_P_w0 hc) | exact ih_lP4 (ih_P_w0 hc) |  exact ih_lP1 (by assumption) | exact ih_lP2 (by assumption) | exact ih_lP3 (by assumption) | exact ih_lP4 (by assumption) | exact ih_lC1 (by assumption) | exact ih_lS1 (by assumption) | exact ih_lW1 (by assumption) | exact ih_lW2 (by assumption) | exact ih_lW4 (by assumption) | exact ih_lW5 (by assumption)) (by omega) (by omega) (k := ?_)
  refine ih_retv rfl ?_
  refine k _ ?_ (fun j h => by simp only [ih_up_ne h])
  simp only [ih_up_eq, g_cop]
  rw [ih_u1_ne (i := 0) (by omega)]


theorem r_op_copied {X : List Int} {t : ih_S} {Q : Option xa_V → ih_S → Prop} {a b d : Int} (ha : xa_rI a) (hb : xa_rI b) (hd : xa_rI d) (G : ih_Gd (t 112)) (K : ih_chR t (f_copied (t 112) a b d) (g_cop (t 112) a b d) Q) : ih_Wp X 145 0 [xR 111, xI a, xI b, xI d, xC 1] [] t Q := by
  refine ih_seg (i1 := 3) 3 rfl ?_
  refine ih_iv2 131 rfl rfl (by first | rfl | exact ih_kP (ih_P_w0 hc) |  exact ih_kP (by assumption) | exact ih_kC (by assumption) | exact ih_kN (by assumption) | exact ih_kS (by assumption) | exact ih_kW (by assumption)) (Nat.le_of_ble_eq_true rfl) (Nat.le_of_ble_eq_true rfl) rfl ?_
  refine r_isMark (by omega) (by omega) (fun p hp => (G.pap p hp).sz) (fun p m ea eb hp hm => ?_) (fun hn => ?_)
  · refine ih_seg (i1 := 5) 1 rfl ?_
    subst ea eb
    have P := G.pap p hp
    have g0 := P.sz
    refine ih_seg (i1 := 6) 1 rfl ?_
    refine ih_is1 129 rfl rfl (Nat.le_of_ble_eq_true rfl) (Nat.le_of_ble_eq_true rfl) rfl ?_
    refine r_isInk (by omega) (fun w1 => ?_) (fun w2 => ?_)
    · refine ih_seg (i1 := 13) 2 rfl ?_
      refine ih_getR rfl rfl ?_
      refine ih_seg (i1 := 16) 2 rfl ?_
      refine ih_is2 132 rfl rfl (Nat.le_of_ble_eq_true rfl) (Nat.le_of_ble_eq_true rfl) rfl ?_
      refine r_at ?_
      refine ih_seg (i1 := 19) 2 rfl ?_
      try dsimp only
      refine ih_iald rfl (by first | rfl | exact ih_lP1 (ih_P_w0 hc) | exact ih_lP2 (ih_P_w0 hc) | exact ih_lP3 (ih_P_w0 hc) | exact ih_lP4 (ih_P_w0 hc) |  exact ih_lP1 (by assumption) | exact ih_lP2 (by assumption) | exact ih_lP3 (by assumption) | exact ih_lP4 (by assumption) | exact ih_lC1 (by assumption) | exact ih_lS1 (by assumption) | exact ih_lW1 (by assumption) | exact ih_lW2 (by assumption) | exact ih_lW4 (by assumption) | exact ih_lW5 (by assumption)) (by omega) (by omega) (k := ?_)
      refine ih_seg (i1 := 25) 5 rfl ?_
      try simp only [xa_set, List.set_cons_zero, List.set_cons_succ, List.getElem?_cons_zero, List.getElem?_cons_succ]
      refine ih_iv3 144 rfl rfl (by first | rfl | exact ih_kP (ih_P_w0 hc) |  exact ih_kP (by assumption) | exact ih_kC (by assumption) | exact ih_kN (by assumption) | exact ih_kS (by assumption) | exact ih_kW (by assumption)) (Nat.le_of_ble_eq_true rfl) (Nat.le_of_ble_eq_true rfl) rfl ?_
      refine r_copies hp (by omega) (fun t1 e1 e2 => ?_)
      refine ih_seg (i1 := 27) 1 rfl ?_
      refine ih_ret rfl rfl ?_
      first
        | (refine ih_chR_ok K ?_ e1 (ih_rg_w e2)
           rw [f_copied, if_pos (by omega)])
        | exact ih_chR_no 0 K (by rw [f_copied, if_neg (by omega)]) rfl (ih_rr_r _)
        | (have hn2 : ¬ ((0 ≤ a ∧ a < 4) ∧ 0 ≤ b ∧ b < t 112 (22 + a)) := by
             rintro ⟨q1, q2, q3⟩
             refine hn a.toNat b.toNat (by omega) (by omega) (by omega) ?_
             rw [show ((a.toNat : Nat) : Int) = a by omega]
             omega
           exact ih_chR_no 0 K (by rw [f_copied, if_neg (fun q => hn2 q.1)]) rfl (ih_rr_r _))
    · refine ih_seg (i1 := 10) 3 rfl ?_
      refine ih_iv1 127 rfl rfl (by first | rfl | exact ih_kP (ih_P_w0 hc) |  exact ih_kP (by assumption) | exact ih_kC (by assumption) | exact ih_kN (by assumption) | exact ih_kS (by assumption) | exact ih_kW (by assumption)) (Nat.le_of_ble_eq_true rfl) (Nat.le_of_ble_eq_true rfl) rfl ?_
      refine r_finds 0 rfl (by omega) ?_
      refine ih_ret rfl rfl ?_
      first
        | (refine ih_chR_ok K ?_ e1 (ih_rg_w e2)
           rw [f_copied, if_pos (by omega)])
        | exact ih_chR_no 0 K (by rw [f_copied, if_neg (by omega)]) rfl (ih_rr_r _)
        | (have hn2 : ¬ ((0 ≤ a ∧ a < 4) ∧ 0 ≤ b ∧ b < t 112 (22 + a)) := by
             rintro ⟨q1, q2, q3⟩
             refine hn a.toNat b.toNat (by omega) (by omega) (by omega) ?_
             rw [show ((a.toNat : Nat) : Int) = a by omega]
             omega
           exact ih_chR_no 0 K (by rw [f_copied, if_neg (fun q => hn2 q.1)]) rfl (ih_rr_r _))
  · refine ih_seg (i1 := 10) 3 rfl ?_
    refine ih_iv1 127 rfl rfl (by first | rfl | exact ih_kP (ih_P_w0 hc) |  exact ih_kP (by assumption) | exact ih_kC (by assumption) | exact ih_kN (by assumption) | exact ih_kS (by assumption) | exact ih_kW (by assumption)) (Nat.le_of_ble_eq_true rfl) (Nat.le_of_ble_eq_true rfl) rfl ?_
    refine r_finds 0 rfl (by omega) ?_
    refine ih_ret rfl rfl ?_
    first
      | (refine ih_chR_ok K ?_ e1 (ih_rg_w e2)
         rw [f_copied, if_pos (by omega)])
      | exact ih_chR_no 0 K (by rw [f_copied, if_neg (by omega)]) rfl (ih_rr_r _)
      | (have hn2 : ¬ ((0 ≤ a ∧ a < 4) ∧ 0 ≤ b ∧ b < t 112 (22 + a)) := by
           rintro ⟨q1, q2, q3⟩
           refine hn a.toNat b.toNat (by omega) (by omega) (by omega) ?_
           rw [show ((a.toNat : Nat) : Int) = a by omega]
           omega
         exact ih_chR_no 0 K (by rw [f_copied, if_neg (fun q => hn2 q.1)]) rfl (ih_rr_r _))


theorem c_op_seed {X : List Int} {t : ih_S} {Q : Option xa_V → ih_S → Prop} {s : Int → Int} {a : Int} (W : ih_Wr t 1 s) (G : ih_Gd s) (K : ih_chC t (ih_ok1 (s 1)) (ih_u1 s 1 a) Q) : ih_Wp X 86 0 [xR 0, xI a, xC 1] [] t Q := by
  refine ih_seg (i1 := 1) 1 rfl ?_
  refine ih_getR rfl rfl ?_
  refine ih_getI rfl (by first | rfl | exact ih_fW6 (by assumption)) ?_
  refine ih_seg (i1 := 5) 2 rfl ?_
  try simp only [xa_set, List.set_cons_zero, List.set_cons_succ, List.getElem?_cons_zero, List.getElem?_cons_succ]
  refine ih_getR rfl rfl ?_
  refine ih_seg (i1 := 7) 1 rfl ?_
  refine ih_putI rfl (by first | rfl | exact ih_fW6 (by assumption)) rfl ?_
  refine ih_seg (i1 := 9) 1 rfl ?_
  refine ih_ret rfl rfl ?_
  have ez : t 1 6 = s 1 := W.z
  refine ih_chC_ok K ?_ (ih_Wu_z G W) (ih_cf_u (ih_cf_r t) (by omega))
  rw [ez]


theorem r_op_seed {X : List Int} {t : ih_S} {Q : Option xa_V → ih_S → Prop} {a : Int} (K : ih_chR t (ih_ok1 (t 112 1)) (ih_u1 (t 112) 1 a) Q) : ih_Wp X 179 0 [xR 111, xI a, xC 1] [] t Q := by
  refine ih_seg (i1 := 1) 1 rfl ?_
  refine ih_getR rfl rfl ?_
  refine ih_seg (i1 := 3) 1 rfl ?_
  refine ih_iald rfl (by first | rfl | exact ih_lP1 (ih_P_w0 hc) | exact ih_lP2 (ih_P_w0 hc) | exact ih_lP3 (ih_P_w0 hc) | exact ih_lP4 (ih_P_w0 hc) |  exact ih_lP1 (by assumption) | exact ih_lP2 (by assumption) | exact ih_lP3 (by assumption) | exact ih_lP4 (by assumption) | exact ih_lC1 (by assumption) | exact ih_lS1 (by assumption) | exact ih_lW1 (by assumption) | exact ih_lW2 (by assumption) | exact ih_lW4 (by assumption) | exact ih_lW5 (by assumption)) (by omega) (by omega) (k := ?_)
  refine ih_seg (i1 := 6) 2 rfl ?_
  try simp only [xa_set, List.set_cons_zero, List.set_cons_succ, List.getElem?_cons_zero, List.getElem?_cons_succ]
  refine ih_getR rfl rfl ?_
  refine ih_seg (i1 := 9) 2 rfl ?_
  refine ih_iast rfl (by first | rfl | exact ih_lP1 (ih_P_w0 hc) | exact ih_lP2 (ih_P_w0 hc) | exact ih_lP3 (ih_P_w0 hc) | exact ih_lP4 (ih_P_w0 hc) |  exact ih_lP1 (by assumption) | exact ih_lP2 (by assumption) | exact ih_lP3 (by assumption) | exact ih_lP4 (by assumption) | exact ih_lC1 (by assumption) | exact ih_lS1 (by assumption) | exact ih_lW1 (by assumption) | exact ih_lW2 (by assumption) | exact ih_lW4 (by assumption) | exact ih_lW5 (by assumption)) (by omega) (by omega) (k := ?_)
  refine ih_seg (i1 := 11) 1 rfl ?_
  refine ih_ret rfl rfl ?_
  exact ih_chR_ok K rfl ih_up_eq (ih_rg_u (ih_rg_r t) (by omega))

