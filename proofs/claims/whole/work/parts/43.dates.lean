/-! markOf, as, earliest, latest -/
def f_markOf (s : Int → Int) (a b d : Int) : ih_An := if ((0 ≤ a ∧ a < 4) ∧ 0 ≤ b ∧ b < s (22 + a)) ∧ 0 ≤ d ∧ d < 5 then ih_ok1 (if d < 4 then s (26 + 48 * a + 4 * b + d) else ih_rsp s a.toNat b.toNat) else ih_no 0

theorem c_op_markOf {X : List Int} {t : ih_S} {Q : Option xa_V → ih_S → Prop} {s : Int → Int} {a b d : Int} (ha : xa_rI a) (hb : xa_rI b) (hd : xa_rI d) (W : ih_Wr t 1 s) (G : ih_Gd s) (K : ih_roC t (f_markOf s a b d) Q) : ih_Wp X 63 0 [xR 0, xI a, xI b, xI d, xC 1] [] t Q := by
  refine ih_seg (i1 := 3) 3 rfl ?_
  refine ih_iv2 111 rfl rfl (by first | rfl | exact ih_kP (ih_P_w0 hc) |  exact ih_kP (by assumption) | exact ih_kC (by assumption) | exact ih_kN (by assumption) | exact ih_kS (by assumption) | exact ih_kW (by assumption)) (Nat.le_of_ble_eq_true rfl) (Nat.le_of_ble_eq_true rfl) rfl ?_
  refine c_isMark (by omega) (by omega) (fun p hp => (ih_PG_W W G hp).sz) (fun c m ea eb hc hm => ?_) (fun hn => ?_)
  · refine ih_seg (i1 := 9) 1 rfl ?_
    subst ea eb
    have P := ih_PG_W W G hc
    have g0 := P.sz
    have hz := ih_W_sz W hc
    have hm2 : (m : Int) < s (22 + c) := by omega
    have ek1 := ih_W_kd W hc hm2
    have ek2 := ih_W_lt W hc hm2
    have ek3 := ih_W_ink W hc hm2
    have ek4 := ih_W_at W hc hm2
    have hk := P.kd m hm
    have hi := P.ink m hm
    simp only [← ih_a1] at hk
    simp only [← ih_a3] at hi
    have hi2 : 0 ≤ s (26 + 48 * c + 4 * m + 2) ∧ s (26 + 48 * c + 4 * m + 2) < 8 := (G.pap c hc).ink m hm2
    have el : t 2 (s (26 + 48 * c + 4 * m + 2)) = s (2 + s (26 + 48 * c + 4 * m + 2)) := W.las _ hi2.1 hi2.2
    have hl := P.las _ hi.1 hi.2
    refine ih_seg (i1 := 10) 1 rfl ?_
    refine ih_getR rfl rfl ?_
    refine ih_getR rfl (by first | rfl | exact ih_fW2 (by assumption)) ?_
    refine ih_seg (i1 := 13) 1 rfl ?_
    refine ih_aald rfl (ih_eP hc) ?_
    refine ih_seg (i1 := 16) 2 rfl ?_
    try simp only [xa_set, List.set_cons_zero, List.set_cons_succ, List.getElem?_cons_zero, List.getElem?_cons_succ]
    rcases (by omega : d = 0 ∨ d = 1 ∨ d = 2 ∨ d = 3 ∨ d = 4 ∨ (d < 0 ∨ 4 < d)) with hw | hw | hw | hw | hw | hw
    · rw [hw]
      refine ih_sw rfl (by decide) (by decide) (by decide) rfl ?_
      refine ih_seg (i1 := 18) 1 rfl ?_
      refine ih_getR rfl (by first | rfl | exact ih_fP0 (ih_P_w0 hc) | exact ih_fP0 (by assumption)) ?_
      refine ih_seg (i1 := 20) 1 rfl ?_
      refine ih_iald rfl (by first | rfl | exact ih_lP1 (ih_P_w0 hc) | exact ih_lP2 (ih_P_w0 hc) | exact ih_lP3 (ih_P_w0 hc) | exact ih_lP4 (ih_P_w0 hc) |  exact ih_lP1 (by assumption) | exact ih_lP2 (by assumption) | exact ih_lP3 (by assumption) | exact ih_lP4 (by assumption) | exact ih_lC1 (by assumption) | exact ih_lS1 (by assumption) | exact ih_lW1 (by assumption) | exact ih_lW2 (by assumption) | exact ih_lW4 (by assumption) | exact ih_lW5 (by assumption)) (by omega) (by omega) (k := ?_)
      refine ih_ret rfl rfl ?_
      first
        | (refine ih_roC_ok K ?_ (ih_sc_r _)
           rw [f_markOf, if_pos (by omega), if_pos (by omega)]
           simp only [ih_a1, ih_a2, ih_a3, ih_a4]
           rw [ek1]
           exact congrArg (fun z => Sum.inl (s z)) (by omega))
        | (refine ih_roC_ok K ?_ (ih_sc_r _)
           rw [f_markOf, if_pos (by omega), if_pos (by omega)]
           simp only [ih_a1, ih_a2, ih_a3, ih_a4]
           rw [ek2]
           exact congrArg (fun z => Sum.inl (s z)) (by omega))
        | (refine ih_roC_ok K ?_ (ih_sc_r _)
           rw [f_markOf, if_pos (by omega), if_pos (by omega)]
           simp only [ih_a1, ih_a2, ih_a3, ih_a4]
           rw [ek3]
           exact congrArg (fun z => Sum.inl (s z)) (by omega))
        | (refine ih_roC_ok K ?_ (ih_sc_r _)
           rw [f_markOf, if_pos (by omega), if_pos (by omega)]
           simp only [ih_a1, ih_a2, ih_a3, ih_a4]
           rw [ek4]
           exact congrArg (fun z => Sum.inl (s z)) (by omega))
        | (refine ih_roC_ok K ?_ (ih_sc_r _)
           rw [f_markOf, if_pos (by omega), if_neg (by omega)]
           simp only [ih_a1, ih_a3, Int.toNat_natCast]
           rw [ek1, ek3, el]
           rfl)
        | exact ih_roC_no K (by rw [f_markOf, if_neg (by omega)]) (ih_sc_r _)
        | (have hn2 : ¬ ((0 ≤ a ∧ a < 4) ∧ 0 ≤ b ∧ b < s (22 + a)) := by
             rintro ⟨q1, q2, q3⟩
             refine hn a.toNat b.toNat (by omega) (by omega) (by omega) ?_
             rw [ih_W_sz W (by omega), show ((a.toNat : Nat) : Int) = a by omega]
             omega
           exact ih_roC_no K (by rw [f_markOf, if_neg (fun q => hn2 q.1)]) (ih_sc_r _))
    · rw [hw]
      refine ih_sw rfl (by decide) (by decide) (by decide) rfl ?_
      refine ih_seg (i1 := 23) 1 rfl ?_
      refine ih_getR rfl (by first | rfl | exact ih_fP1 (ih_P_w0 hc) | exact ih_fP1 (by assumption)) ?_
      refine ih_seg (i1 := 25) 1 rfl ?_
      refine ih_iald rfl (by first | rfl | exact ih_lP1 (ih_P_w0 hc) | exact ih_lP2 (ih_P_w0 hc) | exact ih_lP3 (ih_P_w0 hc) | exact ih_lP4 (ih_P_w0 hc) |  exact ih_lP1 (by assumption) | exact ih_lP2 (by assumption) | exact ih_lP3 (by assumption) | exact ih_lP4 (by assumption) | exact ih_lC1 (by assumption) | exact ih_lS1 (by assumption) | exact ih_lW1 (by assumption) | exact ih_lW2 (by assumption) | exact ih_lW4 (by assumption) | exact ih_lW5 (by assumption)) (by omega) (by omega) (k := ?_)
      refine ih_ret rfl rfl ?_
      first
        | (refine ih_roC_ok K ?_ (ih_sc_r _)
           rw [f_markOf, if_pos (by omega), if_pos (by omega)]
           simp only [ih_a1, ih_a2, ih_a3, ih_a4]
           rw [ek1]
           exact congrArg (fun z => Sum.inl (s z)) (by omega))
        | (refine ih_roC_ok K ?_ (ih_sc_r _)
           rw [f_markOf, if_pos (by omega), if_pos (by omega)]
           simp only [ih_a1, ih_a2, ih_a3, ih_a4]
           rw [ek2]
           exact congrArg (fun z => Sum.inl (s z)) (by omega))
        | (refine ih_roC_ok K ?_ (ih_sc_r _)
           rw [f_markOf, if_pos (by omega), if_pos (by omega)]
           simp only [ih_a1, ih_a2, ih_a3, ih_a4]
           rw [ek3]
           exact congrArg (fun z => Sum.inl (s z)) (by omega))
        | (refine ih_roC_ok K ?_ (ih_sc_r _)
           rw [f_markOf, if_pos (by omega), if_pos (by omega)]
           simp only [ih_a1, ih_a2, ih_a3, ih_a4]
           rw [ek4]
           exact congrArg (fun z => Sum.inl (s z)) (by omega))
        | (refine ih_roC_ok K ?_ (ih_sc_r _)
           rw [f_markOf, if_pos (by omega), if_neg (by omega)]
           simp only [ih_a1, ih_a3, Int.toNat_natCast]
           rw [ek1, ek3, el]
           rfl)
        | exact ih_roC_no K (by rw [f_markOf, if_neg (by omega)]) (ih_sc_r _)
        | (have hn2 : ¬ ((0 ≤ a ∧ a < 4) ∧ 0 ≤ b ∧ b < s (22 + a)) := by
             rintro ⟨q1, q2, q3⟩
             refine hn a.toNat b.toNat (by omega) (by omega) (by omega) ?_
             rw [ih_W_sz W (by omega), show ((a.toNat : Nat) : Int) = a by omega]
             omega
           exact ih_roC_no K (by rw [f_markOf, if_neg (fun q => hn2 q.1)]) (ih_sc_r _))
    · rw [hw]
      refine ih_sw rfl (by decide) (by decide) (by decide) rfl ?_
      refine ih_seg (i1 := 28) 1 rfl ?_
      refine ih_getR rfl (by first | rfl | exact ih_fP2 (ih_P_w0 hc) | exact ih_fP2 (by assumption)) ?_
      refine ih_seg (i1 := 30) 1 rfl ?_
      refine ih_iald rfl (by first | rfl | exact ih_lP1 (ih_P_w0 hc) | exact ih_lP2 (ih_P_w0 hc) | exact ih_lP3 (ih_P_w0 hc) | exact ih_lP4 (ih_P_w0 hc) |  exact ih_lP1 (by assumption) | exact ih_lP2 (by assumption) | exact ih_lP3 (by assumption) | exact ih_lP4 (by assumption) | exact ih_lC1 (by assumption) | exact ih_lS1 (by assumption) | exact ih_lW1 (by assumption) | exact ih_lW2 (by assumption) | exact ih_lW4 (by assumption) | exact ih_lW5 (by assumption)) (by omega) (by omega) (k := ?_)
      refine ih_ret rfl rfl ?_
      first
        | (refine ih_roC_ok K ?_ (ih_sc_r _)
           rw [f_markOf, if_pos (by omega), if_pos (by omega)]
           simp only [ih_a1, ih_a2, ih_a3, ih_a4]
           rw [ek1]
           exact congrArg (fun z => Sum.inl (s z)) (by omega))
        | (refine ih_roC_ok K ?_ (ih_sc_r _)
           rw [f_markOf, if_pos (by omega), if_pos (by omega)]
           simp only [ih_a1, ih_a2, ih_a3, ih_a4]
           rw [ek2]
           exact congrArg (fun z => Sum.inl (s z)) (by omega))
        | (refine ih_roC_ok K ?_ (ih_sc_r _)
           rw [f_markOf, if_pos (by omega), if_pos (by omega)]
           simp only [ih_a1, ih_a2, ih_a3, ih_a4]
           rw [ek3]
           exact congrArg (fun z => Sum.inl (s z)) (by omega))
        | (refine ih_roC_ok K ?_ (ih_sc_r _)
           rw [f_markOf, if_pos (by omega), if_pos (by omega)]
           simp only [ih_a1, ih_a2, ih_a3, ih_a4]
           rw [ek4]
           exact congrArg (fun z => Sum.inl (s z)) (by omega))
        | (refine ih_roC_ok K ?_ (ih_sc_r _)
           rw [f_markOf, if_pos (by omega), if_neg (by omega)]
           simp only [ih_a1, ih_a3, Int.toNat_natCast]
           rw [ek1, ek3, el]
           rfl)
        | exact ih_roC_no K (by rw [f_markOf, if_neg (by omega)]) (ih_sc_r _)
        | (have hn2 : ¬ ((0 ≤ a ∧ a < 4) ∧ 0 ≤ b ∧ b < s (22 + a)) := by
             rintro ⟨q1, q2, q3⟩
             refine hn a.toNat b.toNat (by omega) (by omega) (by omega) ?_
             rw [ih_W_sz W (by omega), show ((a.toNat : Nat) : Int) = a by omega]
             omega
           exact ih_roC_no K (by rw [f_markOf, if_neg (fun q => hn2 q.1)]) (ih_sc_r _))
    · rw [hw]
      refine ih_sw rfl (by decide) (by decide) (by decide) rfl ?_
      refine ih_seg (i1 := 33) 1 rfl ?_
      refine ih_getR rfl (by first | rfl | exact ih_fP3 (ih_P_w0 hc) | exact ih_fP3 (by assumption)) ?_
      refine ih_seg (i1 := 35) 1 rfl ?_
      refine ih_iald rfl (by first | rfl | exact ih_lP1 (ih_P_w0 hc) | exact ih_lP2 (ih_P_w0 hc) | exact ih_lP3 (ih_P_w0 hc) | exact ih_lP4 (ih_P_w0 hc) |  exact ih_lP1 (by assumption) | exact ih_lP2 (by assumption) | exact ih_lP3 (by assumption) | exact ih_lP4 (by assumption) | exact ih_lC1 (by assumption) | exact ih_lS1 (by assumption) | exact ih_lW1 (by assumption) | exact ih_lW2 (by assumption) | exact ih_lW4 (by assumption) | exact ih_lW5 (by assumption)) (by omega) (by omega) (k := ?_)
      refine ih_ret rfl rfl ?_
      first
        | (refine ih_roC_ok K ?_ (ih_sc_r _)
           rw [f_markOf, if_pos (by omega), if_pos (by omega)]
           simp only [ih_a1, ih_a2, ih_a3, ih_a4]
           rw [ek1]
           exact congrArg (fun z => Sum.inl (s z)) (by omega))
        | (refine ih_roC_ok K ?_ (ih_sc_r _)
           rw [f_markOf, if_pos (by omega), if_pos (by omega)]
           simp only [ih_a1, ih_a2, ih_a3, ih_a4]
           rw [ek2]
           exact congrArg (fun z => Sum.inl (s z)) (by omega))
        | (refine ih_roC_ok K ?_ (ih_sc_r _)
           rw [f_markOf, if_pos (by omega), if_pos (by omega)]
           simp only [ih_a1, ih_a2, ih_a3, ih_a4]
           rw [ek3]
           exact congrArg (fun z => Sum.inl (s z)) (by omega))
        | (refine ih_roC_ok K ?_ (ih_sc_r _)
           rw [f_markOf, if_pos (by omega), if_pos (by omega)]
           simp only [ih_a1, ih_a2, ih_a3, ih_a4]
           rw [ek4]
           exact congrArg (fun z => Sum.inl (s z)) (by omega))
        | (refine ih_roC_ok K ?_ (ih_sc_r _)
           rw [f_markOf, if_pos (by omega), if_neg (by omega)]
           simp only [ih_a1, ih_a3, Int.toNat_natCast]
           rw [ek1, ek3, el]
           rfl)
        | exact ih_roC_no K (by rw [f_markOf, if_neg (by omega)]) (ih_sc_r _)
        | (have hn2 : ¬ ((0 ≤ a ∧ a < 4) ∧ 0 ≤ b ∧ b < s (22 + a)) := by
             rintro ⟨q1, q2, q3⟩
             refine hn a.toNat b.toNat (by omega) (by omega) (by omega) ?_
             rw [ih_W_sz W (by omega), show ((a.toNat : Nat) : Int) = a by omega]
             omega
           exact ih_roC_no K (by rw [f_markOf, if_neg (fun q => hn2 q.1)]) (ih_sc_r _))
    · rw [hw]
      refine ih_sw rfl (by decide) (by decide) (by decide) rfl ?_
      refine ih_seg (i1 := 38) 1 rfl ?_
      refine ih_getR rfl (by first | rfl | exact ih_fP0 (ih_P_w0 hc) | exact ih_fP0 (by assumption)) ?_
      refine ih_seg (i1 := 40) 1 rfl ?_
      refine ih_iald rfl (by first | rfl | exact ih_lP1 (ih_P_w0 hc) | exact ih_lP2 (ih_P_w0 hc) | exact ih_lP3 (ih_P_w0 hc) | exact ih_lP4 (ih_P_w0 hc) |  exact ih_lP1 (by assumption) | exact ih_lP2 (by assumption) | exact ih_lP3 (by assumption) | exact ih_lP4 (by assumption) | exact ih_lC1 (by assumption) | exact ih_lS1 (by assumption) | exact ih_lW1 (by assumption) | exact ih_lW2 (by assumption) | exact ih_lW4 (by assumption) | exact ih_lW5 (by assumption)) (by omega) (by omega) (k := ?_)
      refine ih_seg (i1 := 42) 1 rfl ?_
      refine ih_getR rfl rfl ?_
      refine ih_getR rfl (by first | rfl | exact ih_fW0 (by assumption)) ?_
      refine ih_seg (i1 := 45) 1 rfl ?_
      refine ih_getR rfl (by first | rfl | exact ih_fP2 (ih_P_w0 hc) | exact ih_fP2 (by assumption)) ?_
      refine ih_seg (i1 := 47) 1 rfl ?_
      refine ih_iald rfl (by first | rfl | exact ih_lP1 (ih_P_w0 hc) | exact ih_lP2 (ih_P_w0 hc) | exact ih_lP3 (ih_P_w0 hc) | exact ih_lP4 (ih_P_w0 hc) |  exact ih_lP1 (by assumption) | exact ih_lP2 (by assumption) | exact ih_lP3 (by assumption) | exact ih_lP4 (by assumption) | exact ih_lC1 (by assumption) | exact ih_lS1 (by assumption) | exact ih_lW1 (by assumption) | exact ih_lW2 (by assumption) | exact ih_lW4 (by assumption) | exact ih_lW5 (by assumption)) (by omega) (by omega) (k := ?_)
      refine ih_iald rfl (by first | rfl | exact ih_lP1 (ih_P_w0 hc) | exact ih_lP2 (ih_P_w0 hc) | exact ih_lP3 (ih_P_w0 hc) | exact ih_lP4 (ih_P_w0 hc) |  exact ih_lP1 (by assumption) | exact ih_lP2 (by assumption) | exact ih_lP3 (by assumption) | exact ih_lP4 (by assumption) | exact ih_lC1 (by assumption) | exact ih_lS1 (by assumption) | exact ih_lW1 (by assumption) | exact ih_lW2 (by assumption) | exact ih_lW4 (by assumption) | exact ih_lW5 (by assumption)) (by omega) (by omega) (k := ?_)
      refine ih_is2 122 rfl rfl (Nat.le_of_ble_eq_true rfl) (Nat.le_of_ble_eq_true rfl) rfl ?_
      refine c_span (by omega) (by omega) ?_
      refine ih_ret rfl rfl ?_
      first
        | (refine ih_roC_ok K ?_ (ih_sc_r _)
           rw [f_markOf, if_pos (by omega), if_pos (by omega)]
           simp only [ih_a1, ih_a2, ih_a3, ih_a4]
           rw [ek1]
           exact congrArg (fun z => Sum.inl (s z)) (by omega))
        | (refine ih_roC_ok K ?_ (ih_sc_r _)
           rw [f_markOf, if_pos (by omega), if_pos (by omega)]
           simp only [ih_a1, ih_a2, ih_a3, ih_a4]
           rw [ek2]
           exact congrArg (fun z => Sum.inl (s z)) (by omega))
        | (refine ih_roC_ok K ?_ (ih_sc_r _)
           rw [f_markOf, if_pos (by omega), if_pos (by omega)]
           simp only [ih_a1, ih_a2, ih_a3, ih_a4]
           rw [ek3]
           exact congrArg (fun z => Sum.inl (s z)) (by omega))
        | (refine ih_roC_ok K ?_ (ih_sc_r _)
           rw [f_markOf, if_pos (by omega), if_pos (by omega)]
           simp only [ih_a1, ih_a2, ih_a3, ih_a4]
           rw [ek4]
           exact congrArg (fun z => Sum.inl (s z)) (by omega))
        | (refine ih_roC_ok K ?_ (ih_sc_r _)
           rw [f_markOf, if_pos (by omega), if_neg (by omega)]
           simp only [ih_a1, ih_a3, Int.toNat_natCast]
           rw [ek1, ek3, el]
           rfl)
        | exact ih_roC_no K (by rw [f_markOf, if_neg (by omega)]) (ih_sc_r _)
        | (have hn2 : ¬ ((0 ≤ a ∧ a < 4) ∧ 0 ≤ b ∧ b < s (22 + a)) := by
             rintro ⟨q1, q2, q3⟩
             refine hn a.toNat b.toNat (by omega) (by omega) (by omega) ?_
             rw [ih_W_sz W (by omega), show ((a.toNat : Nat) : Int) = a by omega]
             omega
           exact ih_roC_no K (by rw [f_markOf, if_neg (fun q => hn2 q.1)]) (ih_sc_r _))
    · refine ih_swd rfl (by omega) hw ?_
      refine ih_seg (i1 := 53) 2 rfl ?_
      refine ih_iv1 102 rfl rfl (by first | rfl | exact ih_kP (ih_P_w0 hc) |  exact ih_kP (by assumption) | exact ih_kC (by assumption) | exact ih_kN (by assumption) | exact ih_kS (by assumption) | exact ih_kW (by assumption)) (Nat.le_of_ble_eq_true rfl) (Nat.le_of_ble_eq_true rfl) rfl ?_
      refine c_finding (by omega) ?_
      refine ih_ret rfl rfl ?_
      first
        | (refine ih_roC_ok K ?_ (ih_sc_r _)
           rw [f_markOf, if_pos (by omega), if_pos (by omega)]
           simp only [ih_a1, ih_a2, ih_a3, ih_a4]
           rw [ek1]
           exact congrArg (fun z => Sum.inl (s z)) (by omega))
        | (refine ih_roC_ok K ?_ (ih_sc_r _)
           rw [f_markOf, if_pos (by omega), if_pos (by omega)]
           simp only [ih_a1, ih_a2, ih_a3, ih_a4]
           rw [ek2]
           exact congrArg (fun z => Sum.inl (s z)) (by omega))
        | (refine ih_roC_ok K ?_ (ih_sc_r _)
           rw [f_markOf, if_pos (by omega), if_pos (by omega)]
           simp only [ih_a1, ih_a2, ih_a3, ih_a4]
           rw [ek3]
           exact congrArg (fun z => Sum.inl (s z)) (by omega))
        | (refine ih_roC_ok K ?_ (ih_sc_r _)
           rw [f_markOf, if_pos (by omega), if_pos (by omega)]
           simp only [ih_a1, ih_a2, ih_a3, ih_a4]
           rw [ek4]
           exact congrArg (fun z => Sum.inl (s z)) (by omega))
        | (refine ih_roC_ok K ?_ (ih_sc_r _)
           rw [f_markOf, if_pos (by omega), if_neg (by omega)]
           simp only [ih_a1, ih_a3, Int.toNat_natCast]
           rw [ek1, ek3, el]
           rfl)
        | exact ih_roC_no K (by rw [f_markOf, if_neg (by omega)]) (ih_sc_r _)
        | (have hn2 : ¬ ((0 ≤ a ∧ a < 4) ∧ 0 ≤ b ∧ b < s (22 + a)) := by
             rintro ⟨q1, q2, q3⟩
             refine hn a.toNat b.toNat (by omega) (by omega) (by omega) ?_
             rw [ih_W_sz W (by omega), show ((a.toNat : Nat) : Int) = a by omega]
             omega
           exact ih_roC_no K (by rw [f_markOf, if_neg (fun q => hn2 q.1)]) (ih_sc_r _))
  · refine ih_seg (i1 := 7) 3 rfl ?_
    refine ih_iv1 102 rfl rfl (by first | rfl | exact ih_kP (ih_P_w0 hc) |  exact ih_kP (by assumption) | exact ih_kC (by assumption) | exact ih_kN (by assumption) | exact ih_kS (by assumption) | exact ih_kW (by assumption)) (Nat.le_of_ble_eq_true rfl) (Nat.le_of_ble_eq_true rfl) rfl ?_
    refine c_finding (by omega) ?_
    refine ih_ret rfl rfl ?_
    first
      | (refine ih_roC_ok K ?_ (ih_sc_r _)
         rw [f_markOf, if_pos (by omega), if_pos (by omega)]
         simp only [ih_a1, ih_a2, ih_a3, ih_a4]
         rw [ek1]
         exact congrArg (fun z => Sum.inl (s z)) (by omega))
      | (refine ih_roC_ok K ?_ (ih_sc_r _)
         rw [f_markOf, if_pos (by omega), if_pos (by omega)]
         simp only [ih_a1, ih_a2, ih_a3, ih_a4]
         rw [ek2]
         exact congrArg (fun z => Sum.inl (s z)) (by omega))
      | (refine ih_roC_ok K ?_ (ih_sc_r _)
         rw [f_markOf, if_pos (by omega), if_pos (by omega)]
         simp only [ih_a1, ih_a2, ih_a3, ih_a4]
         rw [ek3]
         exact congrArg (fun z => Sum.inl (s z)) (by omega))
      | (refine ih_roC_ok K ?_ (ih_sc_r _)
         rw [f_markOf, if_pos (by omega), if_pos (by omega)]
         simp only [ih_a1, ih_a2, ih_a3, ih_a4]
         rw [ek4]
         exact congrArg (fun z => Sum.inl (s z)) (by omega))
      | (refine ih_roC_ok K ?_ (ih_sc_r _)
         rw [f_markOf, if_pos (by omega), if_neg (by omega)]
         simp only [ih_a1, ih_a3, Int.toNat_natCast]
         rw [ek1, ek3, el]
         rfl)
      | exact ih_roC_no K (by rw [f_markOf, if_neg (by omega)]) (ih_sc_r _)
      | (have hn2 : ¬ ((0 ≤ a ∧ a < 4) ∧ 0 ≤ b ∧ b < s (22 + a)) := by
           rintro ⟨q1, q2, q3⟩
           refine hn a.toNat b.toNat (by omega) (by omega) (by omega) ?_
           rw [ih_W_sz W (by omega), show ((a.toNat : Nat) : Int) = a by omega]
           omega
         exact ih_roC_no K (by rw [f_markOf, if_neg (fun q => hn2 q.1)]) (ih_sc_r _))


theorem r_op_markOf {X : List Int} {t : ih_S} {Q : Option xa_V → ih_S → Prop} {a b d : Int} (ha : xa_rI a) (hb : xa_rI b) (hd : xa_rI d) (G : ih_Gd (t 112)) (K : ih_roR t (f_markOf (t 112) a b d) Q) : ih_Wp X 141 0 [xR 111, xI a, xI b, xI d] [] t Q := by
  refine ih_seg (i1 := 3) 3 rfl ?_
  refine ih_iv2 131 rfl rfl (by first | rfl | exact ih_kP (ih_P_w0 hc) |  exact ih_kP (by assumption) | exact ih_kC (by assumption) | exact ih_kN (by assumption) | exact ih_kS (by assumption) | exact ih_kW (by assumption)) (Nat.le_of_ble_eq_true rfl) (Nat.le_of_ble_eq_true rfl) rfl ?_
  refine r_isMark (by omega) (by omega) (fun p hp => (G.pap p hp).sz) (fun p m ea eb hp hm => ?_) (fun hn => ?_)
  · refine ih_seg (i1 := 5) 1 rfl ?_
    subst ea eb
    have P := G.pap p hp
    have g0 := P.sz
    refine ih_seg (i1 := 6) 1 rfl ?_
    refine ih_i2l rfl (by omega) ?_
    refine ih_seg (i1 := 9) 2 rfl ?_
    refine ih_is3 126 rfl rfl (Nat.le_of_ble_eq_true rfl) (Nat.le_of_ble_eq_true rfl) rfl ?_
    refine r_in (by omega) (by omega) (by omega) (fun w1 => ?_) (fun w2 => ?_)
    · refine ih_seg (i1 := 17) 3 rfl ?_
      refine ih_icmp_ge rfl (by omega) (by omega) (fun w3 => ?_) (fun w3 => ?_)
      · refine ih_seg (i1 := 30) 3 rfl ?_
        refine ih_iv2 140 rfl rfl (by first | rfl | exact ih_kP (ih_P_w0 hc) |  exact ih_kP (by assumption) | exact ih_kC (by assumption) | exact ih_kN (by assumption) | exact ih_kS (by assumption) | exact ih_kW (by assumption)) (Nat.le_of_ble_eq_true rfl) (Nat.le_of_ble_eq_true rfl) rfl ?_
        refine r_staysOf hp P hm ?_
        refine ih_ret rfl rfl ?_
        first
          | (refine ih_roR_ok K ?_ (ih_rr_r _)
             rw [f_markOf, if_pos (by omega), if_pos (by omega)])
          | (refine ih_roR_ok K ?_ (ih_rr_r _)
             rw [f_markOf, if_pos (by omega), if_neg (by omega)]
             rfl)
          | exact ih_roR_no 0 K (by rw [f_markOf, if_neg (by omega)]) rfl (ih_rr_r _)
          | (have hn2 : ¬ ((0 ≤ a ∧ a < 4) ∧ 0 ≤ b ∧ b < t 112 (22 + a)) := by
               rintro ⟨q1, q2, q3⟩
               refine hn a.toNat b.toNat (by omega) (by omega) (by omega) ?_
               rw [show ((a.toNat : Nat) : Int) = a by omega]
               omega
             exact ih_roR_no 0 K (by rw [f_markOf, if_neg (fun q => hn2 q.1)]) rfl (ih_rr_r _))
      · refine ih_seg (i1 := 19) 1 rfl ?_
        refine ih_getR rfl rfl ?_
        refine ih_seg (i1 := 22) 2 rfl ?_
        refine ih_is2 132 rfl rfl (Nat.le_of_ble_eq_true rfl) (Nat.le_of_ble_eq_true rfl) rfl ?_
        refine r_at ?_
        refine ih_seg (i1 := 25) 2 rfl ?_
        try dsimp only
        refine ih_iald rfl (by first | rfl | exact ih_lP1 (ih_P_w0 hc) | exact ih_lP2 (ih_P_w0 hc) | exact ih_lP3 (ih_P_w0 hc) | exact ih_lP4 (ih_P_w0 hc) |  exact ih_lP1 (by assumption) | exact ih_lP2 (by assumption) | exact ih_lP3 (by assumption) | exact ih_lP4 (by assumption) | exact ih_lC1 (by assumption) | exact ih_lS1 (by assumption) | exact ih_lW1 (by assumption) | exact ih_lW2 (by assumption) | exact ih_lW4 (by assumption) | exact ih_lW5 (by assumption)) (by omega) (by omega) (k := ?_)
        refine ih_seg (i1 := 31) 1 rfl ?_
        refine ih_ret rfl rfl ?_
        first
          | (refine ih_roR_ok K ?_ (ih_rr_r _)
             rw [f_markOf, if_pos (by omega), if_pos (by omega)])
          | (refine ih_roR_ok K ?_ (ih_rr_r _)
             rw [f_markOf, if_pos (by omega), if_neg (by omega)]
             rfl)
          | exact ih_roR_no 0 K (by rw [f_markOf, if_neg (by omega)]) rfl (ih_rr_r _)
          | (have hn2 : ¬ ((0 ≤ a ∧ a < 4) ∧ 0 ≤ b ∧ b < t 112 (22 + a)) := by
               rintro ⟨q1, q2, q3⟩
               refine hn a.toNat b.toNat (by omega) (by omega) (by omega) ?_
               rw [show ((a.toNat : Nat) : Int) = a by omega]
               omega
             exact ih_roR_no 0 K (by rw [f_markOf, if_neg (fun q => hn2 q.1)]) rfl (ih_rr_r _))
    · refine ih_seg (i1 := 13) 3 rfl ?_
      refine ih_iv1 127 rfl rfl (by first | rfl | exact ih_kP (ih_P_w0 hc) |  exact ih_kP (by assumption) | exact ih_kC (by assumption) | exact ih_kN (by assumption) | exact ih_kS (by assumption) | exact ih_kW (by assumption)) (Nat.le_of_ble_eq_true rfl) (Nat.le_of_ble_eq_true rfl) rfl ?_
      refine r_finds 0 rfl (by omega) ?_
      refine ih_ret rfl rfl ?_
      first
        | (refine ih_roR_ok K ?_ (ih_rr_r _)
           rw [f_markOf, if_pos (by omega), if_pos (by omega)])
        | (refine ih_roR_ok K ?_ (ih_rr_r _)
           rw [f_markOf, if_pos (by omega), if_neg (by omega)]
           rfl)
        | exact ih_roR_no 0 K (by rw [f_markOf, if_neg (by omega)]) rfl (ih_rr_r _)
        | (have hn2 : ¬ ((0 ≤ a ∧ a < 4) ∧ 0 ≤ b ∧ b < t 112 (22 + a)) := by
             rintro ⟨q1, q2, q3⟩
             refine hn a.toNat b.toNat (by omega) (by omega) (by omega) ?_
             rw [show ((a.toNat : Nat) : Int) = a by omega]
             omega
           exact ih_roR_no 0 K (by rw [f_markOf, if_neg (fun q => hn2 q.1)]) rfl (ih_rr_r _))
  · refine ih_seg (i1 := 13) 3 rfl ?_
    refine ih_iv1 127 rfl rfl (by first | rfl | exact ih_kP (ih_P_w0 hc) |  exact ih_kP (by assumption) | exact ih_kC (by assumption) | exact ih_kN (by assumption) | exact ih_kS (by assumption) | exact ih_kW (by assumption)) (Nat.le_of_ble_eq_true rfl) (Nat.le_of_ble_eq_true rfl) rfl ?_
    refine r_finds 0 rfl (by omega) ?_
    refine ih_ret rfl rfl ?_
    first
      | (refine ih_roR_ok K ?_ (ih_rr_r _)
         rw [f_markOf, if_pos (by omega), if_pos (by omega)])
      | (refine ih_roR_ok K ?_ (ih_rr_r _)
         rw [f_markOf, if_pos (by omega), if_neg (by omega)]
         rfl)
      | exact ih_roR_no 0 K (by rw [f_markOf, if_neg (by omega)]) rfl (ih_rr_r _)
      | (have hn2 : ¬ ((0 ≤ a ∧ a < 4) ∧ 0 ≤ b ∧ b < t 112 (22 + a)) := by
           rintro ⟨q1, q2, q3⟩
           refine hn a.toNat b.toNat (by omega) (by omega) (by omega) ?_
           rw [show ((a.toNat : Nat) : Int) = a by omega]
           omega
         exact ih_roR_no 0 K (by rw [f_markOf, if_neg (fun q => hn2 q.1)]) rfl (ih_rr_r _))


def ih_isK (v w : Int) : Prop := w = 0 ∨ v = w ∨ (w = 1 ∧ (v = 4 ∨ v = 6)) ∨ (w = 3 ∧ v = 5)
def f_as (s : Int → Int) (a b : Int) : ih_An := if (0 ≤ a ∧ a < 10) ∧ 0 ≤ b ∧ b < 7 then (if s (218 + a) < 0 then ih_no 5 else if b = 0 ∨ s (26 + 48 * (s (218 + a) / 100) + 4 * (s (218 + a) % 100)) = b ∨ (b = 1 ∧ (s (26 + 48 * (s (218 + a) / 100) + 4 * (s (218 + a) % 100)) = 4 ∨ s (26 + 48 * (s (218 + a) / 100) + 4 * (s (218 + a) % 100)) = 6)) ∨ (b = 3 ∧ s (26 + 48 * (s (218 + a) / 100) + 4 * (s (218 + a) % 100)) = 5) then ih_ok1 (s (218 + a)) else ih_no 2) else ih_no 0

theorem c_iok_m {X : List Int} {t : ih_S} {Q : Option xa_V → ih_S → Prop} {w i : Int} {x : xa_V} (hw : 1 ≤ w ∧ w < 7) (hi : 0 ≤ i ∧ i + 0 ≤ 6) (kt : ih_isK (-1) w → Q (some (xI 1)) t) (kf : ¬ ih_isK (-1) w → Q (some (xI 0)) t) : ih_Wp X 113 4 [x, xI w, xI (-1), xI i] [] t Q := by
  refine ih_seg (i1 := 6) 2 rfl ?_
  refine ih_icmp_ge rfl (by omega) (by omega) (fun w1 => ?_) (fun w1 => ?_)
  · refine ih_seg (i1 := 21) 1 rfl ?_
    refine ih_ret rfl rfl ?_
    first
      | exact kt (by unfold ih_isK; omega)
      | exact kf (by unfold ih_isK; omega)
      | (exfalso
         omega)
  · refine ih_seg (i1 := 8) 1 rfl ?_
    refine ih_ifc_lt rfl (by omega) (fun w2 => ?_) (fun w2 => ?_)
    · refine ih_seg (i1 := 21) 1 rfl ?_
      refine ih_ret rfl rfl ?_
      first
        | exact kt (by unfold ih_isK; omega)
        | exact kf (by unfold ih_isK; omega)
        | (exfalso
           omega)
    · exfalso
      omega


theorem c_iok_0 {X : List Int} {t : ih_S} {Q : Option xa_V → ih_S → Prop} {w i : Int} {x : xa_V} (hw : 0 ≤ w ∧ w < 7) (hi : 0 ≤ i ∧ i + 1 ≤ 6) (kt : ih_isK 0 w → Q (some (xI 1)) t) (kf : ¬ ih_isK 0 w → Q (some (xI 0)) t) : ih_Wp X 113 4 [x, xI w, xI 0, xI i] [] t Q := by
  refine ih_seg (i1 := 6) 2 rfl ?_
  refine ih_icmp_ge rfl (by omega) (by omega) (fun w1 => ?_) (fun w1 => ?_)
  · refine ih_seg (i1 := 21) 1 rfl ?_
    refine ih_ret rfl rfl ?_
    first
      | exact kt (by unfold ih_isK; omega)
      | exact kf (by unfold ih_isK; omega)
      | (exfalso
         omega)
  · refine ih_seg (i1 := 8) 1 rfl ?_
    refine ih_ifc_lt rfl (by omega) (fun w2 => ?_) (fun w2 => ?_)
    · refine ih_seg (i1 := 21) 1 rfl ?_
      refine ih_ret rfl rfl ?_
      first
        | exact kt (by unfold ih_isK; omega)
        | exact kf (by unfold ih_isK; omega)
        | (exfalso
           omega)
    · refine ih_seg (i1 := 11) 2 rfl ?_
      refine ih_icmp_ne rfl (by omega) (by omega) (fun w3 => ?_) (fun w3 => ?_)
      · refine ih_seg (i1 := 16) 2 rfl ?_
        refine ih_cald rfl rfl (by decide) (by decide) (by decide) rfl ?_
        refine ih_seg (i1 := 4) 3 rfl ?_
        try simp only [xa_set, List.set_cons_zero, List.set_cons_succ, List.getElem?_cons_zero, List.getElem?_cons_succ]
        refine c_iok_m (by omega) (by omega) (fun q => kt ?_) (fun q => kf (fun q2 => q ?_))
        · unfold ih_isK at q ⊢
          omega
        · unfold ih_isK at q2 ⊢
          omega
      · refine ih_seg (i1 := 13) 1 rfl ?_
        refine ih_ret rfl rfl ?_
        first
          | exact kt (by unfold ih_isK; omega)
          | exact kf (by unfold ih_isK; omega)
          | (exfalso
             omega)


theorem c_iok_1 {X : List Int} {t : ih_S} {Q : Option xa_V → ih_S → Prop} {w i : Int} {x : xa_V} (hw : 0 ≤ w ∧ w < 7) (hi : 0 ≤ i ∧ i + 2 ≤ 6) (kt : ih_isK 1 w → Q (some (xI 1)) t) (kf : ¬ ih_isK 1 w → Q (some (xI 0)) t) : ih_Wp X 113 4 [x, xI w, xI 1, xI i] [] t Q := by
  refine ih_seg (i1 := 6) 2 rfl ?_
  refine ih_icmp_ge rfl (by omega) (by omega) (fun w1 => ?_) (fun w1 => ?_)
  · refine ih_seg (i1 := 21) 1 rfl ?_
    refine ih_ret rfl rfl ?_
    first
      | exact kt (by unfold ih_isK; omega)
      | exact kf (by unfold ih_isK; omega)
      | (exfalso
         omega)
  · refine ih_seg (i1 := 8) 1 rfl ?_
    refine ih_ifc_lt rfl (by omega) (fun w2 => ?_) (fun w2 => ?_)
    · refine ih_seg (i1 := 21) 1 rfl ?_
      refine ih_ret rfl rfl ?_
      first
        | exact kt (by unfold ih_isK; omega)
        | exact kf (by unfold ih_isK; omega)
        | (exfalso
           omega)
    · refine ih_seg (i1 := 11) 2 rfl ?_
      refine ih_icmp_ne rfl (by omega) (by omega) (fun w3 => ?_) (fun w3 => ?_)
      · refine ih_seg (i1 := 16) 2 rfl ?_
        refine ih_cald rfl rfl (by decide) (by decide) (by decide) rfl ?_
        refine ih_seg (i1 := 4) 3 rfl ?_
        try simp only [xa_set, List.set_cons_zero, List.set_cons_succ, List.getElem?_cons_zero, List.getElem?_cons_succ]
        refine c_iok_0 hw (by omega) (fun q => kt ?_) (fun q => kf (fun q2 => q ?_))
        · unfold ih_isK at q ⊢
          omega
        · unfold ih_isK at q2 ⊢
          omega
      · refine ih_seg (i1 := 13) 1 rfl ?_
        refine ih_ret rfl rfl ?_
        first
          | exact kt (by unfold ih_isK; omega)
          | exact kf (by unfold ih_isK; omega)
          | (exfalso
             omega)


theorem c_iok_2 {X : List Int} {t : ih_S} {Q : Option xa_V → ih_S → Prop} {w i : Int} {x : xa_V} (hw : 0 ≤ w ∧ w < 7) (hi : 0 ≤ i ∧ i + 2 ≤ 6) (kt : ih_isK 2 w → Q (some (xI 1)) t) (kf : ¬ ih_isK 2 w → Q (some (xI 0)) t) : ih_Wp X 113 4 [x, xI w, xI 2, xI i] [] t Q := by
  refine ih_seg (i1 := 6) 2 rfl ?_
  refine ih_icmp_ge rfl (by omega) (by omega) (fun w1 => ?_) (fun w1 => ?_)
  · refine ih_seg (i1 := 21) 1 rfl ?_
    refine ih_ret rfl rfl ?_
    first
      | exact kt (by unfold ih_isK; omega)
      | exact kf (by unfold ih_isK; omega)
      | (exfalso
         omega)
  · refine ih_seg (i1 := 8) 1 rfl ?_
    refine ih_ifc_lt rfl (by omega) (fun w2 => ?_) (fun w2 => ?_)
    · refine ih_seg (i1 := 21) 1 rfl ?_
      refine ih_ret rfl rfl ?_
      first
        | exact kt (by unfold ih_isK; omega)
        | exact kf (by unfold ih_isK; omega)
        | (exfalso
           omega)
    · refine ih_seg (i1 := 11) 2 rfl ?_
      refine ih_icmp_ne rfl (by omega) (by omega) (fun w3 => ?_) (fun w3 => ?_)
      · refine ih_seg (i1 := 16) 2 rfl ?_
        refine ih_cald rfl rfl (by decide) (by decide) (by decide) rfl ?_
        refine ih_seg (i1 := 4) 3 rfl ?_
        try simp only [xa_set, List.set_cons_zero, List.set_cons_succ, List.getElem?_cons_zero, List.getElem?_cons_succ]
        refine c_iok_0 hw (by omega) (fun q => kt ?_) (fun q => kf (fun q2 => q ?_))
        · unfold ih_isK at q ⊢
          omega
        · unfold ih_isK at q2 ⊢
          omega
      · refine ih_seg (i1 := 13) 1 rfl ?_
        refine ih_ret rfl rfl ?_
        first
          | exact kt (by unfold ih_isK; omega)
          | exact kf (by unfold ih_isK; omega)
          | (exfalso
             omega)


theorem c_iok_3 {X : List Int} {t : ih_S} {Q : Option xa_V → ih_S → Prop} {w i : Int} {x : xa_V} (hw : 0 ≤ w ∧ w < 7) (hi : 0 ≤ i ∧ i + 2 ≤ 6) (kt : ih_isK 3 w → Q (some (xI 1)) t) (kf : ¬ ih_isK 3 w → Q (some (xI 0)) t) : ih_Wp X 113 4 [x, xI w, xI 3, xI i] [] t Q := by
  refine ih_seg (i1 := 6) 2 rfl ?_
  refine ih_icmp_ge rfl (by omega) (by omega) (fun w1 => ?_) (fun w1 => ?_)
  · refine ih_seg (i1 := 21) 1 rfl ?_
    refine ih_ret rfl rfl ?_
    first
      | exact kt (by unfold ih_isK; omega)
      | exact kf (by unfold ih_isK; omega)
      | (exfalso
         omega)
  · refine ih_seg (i1 := 8) 1 rfl ?_
    refine ih_ifc_lt rfl (by omega) (fun w2 => ?_) (fun w2 => ?_)
    · refine ih_seg (i1 := 21) 1 rfl ?_
      refine ih_ret rfl rfl ?_
      first
        | exact kt (by unfold ih_isK; omega)
        | exact kf (by unfold ih_isK; omega)
        | (exfalso
           omega)
    · refine ih_seg (i1 := 11) 2 rfl ?_
      refine ih_icmp_ne rfl (by omega) (by omega) (fun w3 => ?_) (fun w3 => ?_)
      · refine ih_seg (i1 := 16) 2 rfl ?_
        refine ih_cald rfl rfl (by decide) (by decide) (by decide) rfl ?_
        refine ih_seg (i1 := 4) 3 rfl ?_
        try simp only [xa_set, List.set_cons_zero, List.set_cons_succ, List.getElem?_cons_zero, List.getElem?_cons_succ]
        refine c_iok_0 hw (by omega) (fun q => kt ?_) (fun q => kf (fun q2 => q ?_))
        · unfold ih_isK at q ⊢
          omega
        · unfold ih_isK at q2 ⊢
          omega
      · refine ih_seg (i1 := 13) 1 rfl ?_
        refine ih_ret rfl rfl ?_
        first
          | exact kt (by unfold ih_isK; omega)
          | exact kf (by unfold ih_isK; omega)
          | (exfalso
             omega)


theorem c_iok_4 {X : List Int} {t : ih_S} {Q : Option xa_V → ih_S → Prop} {w i : Int} {x : xa_V} (hw : 0 ≤ w ∧ w < 7) (hi : 0 ≤ i ∧ i + 3 ≤ 6) (kt : ih_isK 4 w → Q (some (xI 1)) t) (kf : ¬ ih_isK 4 w → Q (some (xI 0)) t) : ih_Wp X 113 4 [x, xI w, xI 4, xI i] [] t Q := by
  refine ih_seg (i1 := 6) 2 rfl ?_
  refine ih_icmp_ge rfl (by omega) (by omega) (fun w1 => ?_) (fun w1 => ?_)
  · refine ih_seg (i1 := 21) 1 rfl ?_
    refine ih_ret rfl rfl ?_
    first
      | exact kt (by unfold ih_isK; omega)
      | exact kf (by unfold ih_isK; omega)
      | (exfalso
         omega)
  · refine ih_seg (i1 := 8) 1 rfl ?_
    refine ih_ifc_lt rfl (by omega) (fun w2 => ?_) (fun w2 => ?_)
    · refine ih_seg (i1 := 21) 1 rfl ?_
      refine ih_ret rfl rfl ?_
      first
        | exact kt (by unfold ih_isK; omega)
        | exact kf (by unfold ih_isK; omega)
        | (exfalso
           omega)
    · refine ih_seg (i1 := 11) 2 rfl ?_
      refine ih_icmp_ne rfl (by omega) (by omega) (fun w3 => ?_) (fun w3 => ?_)
      · refine ih_seg (i1 := 16) 2 rfl ?_
        refine ih_cald rfl rfl (by decide) (by decide) (by decide) rfl ?_
        refine ih_seg (i1 := 4) 3 rfl ?_
        try simp only [xa_set, List.set_cons_zero, List.set_cons_succ, List.getElem?_cons_zero, List.getElem?_cons_succ]
        refine c_iok_1 hw (by omega) (fun q => kt ?_) (fun q => kf (fun q2 => q ?_))
        · unfold ih_isK at q ⊢
          omega
        · unfold ih_isK at q2 ⊢
          omega
      · refine ih_seg (i1 := 13) 1 rfl ?_
        refine ih_ret rfl rfl ?_
        first
          | exact kt (by unfold ih_isK; omega)
          | exact kf (by unfold ih_isK; omega)
          | (exfalso
             omega)


theorem c_iok_5 {X : List Int} {t : ih_S} {Q : Option xa_V → ih_S → Prop} {w i : Int} {x : xa_V} (hw : 0 ≤ w ∧ w < 7) (hi : 0 ≤ i ∧ i + 3 ≤ 6) (kt : ih_isK 5 w → Q (some (xI 1)) t) (kf : ¬ ih_isK 5 w → Q (some (xI 0)) t) : ih_Wp X 113 4 [x, xI w, xI 5, xI i] [] t Q := by
  refine ih_seg (i1 := 6) 2 rfl ?_
  refine ih_icmp_ge rfl (by omega) (by omega) (fun w1 => ?_) (fun w1 => ?_)
  · refine ih_seg (i1 := 21) 1 rfl ?_
    refine ih_ret rfl rfl ?_
    first
      | exact kt (by unfold ih_isK; omega)
      | exact kf (by unfold ih_isK; omega)
      | (exfalso
         omega)
  · refine ih_seg (i1 := 8) 1 rfl ?_
    refine ih_ifc_lt rfl (by omega) (fun w2 => ?_) (fun w2 => ?_)
    · refine ih_seg (i1 := 21) 1 rfl ?_
      refine ih_ret rfl rfl ?_
      first
        | exact kt (by unfold ih_isK; omega)
        | exact kf (by unfold ih_isK; omega)
        | (exfalso
           omega)
    · refine ih_seg (i1 := 11) 2 rfl ?_
      refine ih_icmp_ne rfl (by omega) (by omega) (fun w3 => ?_) (fun w3 => ?_)
      · refine ih_seg (i1 := 16) 2 rfl ?_
        refine ih_cald rfl rfl (by decide) (by decide) (by decide) rfl ?_
        refine ih_seg (i1 := 4) 3 rfl ?_
        try simp only [xa_set, List.set_cons_zero, List.set_cons_succ, List.getElem?_cons_zero, List.getElem?_cons_succ]
        refine c_iok_3 hw (by omega) (fun q => kt ?_) (fun q => kf (fun q2 => q ?_))
        · unfold ih_isK at q ⊢
          omega
        · unfold ih_isK at q2 ⊢
          omega
      · refine ih_seg (i1 := 13) 1 rfl ?_
        refine ih_ret rfl rfl ?_
        first
          | exact kt (by unfold ih_isK; omega)
          | exact kf (by unfold ih_isK; omega)
          | (exfalso
             omega)


theorem c_iok_6 {X : List Int} {t : ih_S} {Q : Option xa_V → ih_S → Prop} {w i : Int} {x : xa_V} (hw : 0 ≤ w ∧ w < 7) (hi : 0 ≤ i ∧ i + 3 ≤ 6) (kt : ih_isK 6 w → Q (some (xI 1)) t) (kf : ¬ ih_isK 6 w → Q (some (xI 0)) t) : ih_Wp X 113 4 [x, xI w, xI 6, xI i] [] t Q := by
  refine ih_seg (i1 := 6) 2 rfl ?_
  refine ih_icmp_ge rfl (by omega) (by omega) (fun w1 => ?_) (fun w1 => ?_)
  · refine ih_seg (i1 := 21) 1 rfl ?_
    refine ih_ret rfl rfl ?_
    first
      | exact kt (by unfold ih_isK; omega)
      | exact kf (by unfold ih_isK; omega)
      | (exfalso
         omega)
  · refine ih_seg (i1 := 8) 1 rfl ?_
    refine ih_ifc_lt rfl (by omega) (fun w2 => ?_) (fun w2 => ?_)
    · refine ih_seg (i1 := 21) 1 rfl ?_
      refine ih_ret rfl rfl ?_
      first
        | exact kt (by unfold ih_isK; omega)
        | exact kf (by unfold ih_isK; omega)
        | (exfalso
           omega)
    · refine ih_seg (i1 := 11) 2 rfl ?_
      refine ih_icmp_ne rfl (by omega) (by omega) (fun w3 => ?_) (fun w3 => ?_)
      · refine ih_seg (i1 := 16) 2 rfl ?_
        refine ih_cald rfl rfl (by decide) (by decide) (by decide) rfl ?_
        refine ih_seg (i1 := 4) 3 rfl ?_
        try simp only [xa_set, List.set_cons_zero, List.set_cons_succ, List.getElem?_cons_zero, List.getElem?_cons_succ]
        refine c_iok_1 hw (by omega) (fun q => kt ?_) (fun q => kf (fun q2 => q ?_))
        · unfold ih_isK at q ⊢
          omega
        · unfold ih_isK at q2 ⊢
          omega
      · refine ih_seg (i1 := 13) 1 rfl ?_
        refine ih_ret rfl rfl ?_
        first
          | exact kt (by unfold ih_isK; omega)
          | exact kf (by unfold ih_isK; omega)
          | (exfalso
             omega)


theorem c_isOfKind {X : List Int} {t : ih_S} {Q : Option xa_V → ih_S → Prop} {v w : Int} (hv : 0 ≤ v ∧ v < 7) (hw : 0 ≤ w ∧ w < 7) (kt : ih_isK v w → Q (some (xI 1)) t) (kf : ¬ ih_isK v w → Q (some (xI 0)) t) : ih_Wp X 113 0 [xI v, xI w, xC 1, xC 1] [] t Q := by
  refine ih_seg (i1 := 4) 4 rfl ?_
  try simp only [xa_set, List.set_cons_zero, List.set_cons_succ, List.getElem?_cons_zero, List.getElem?_cons_succ]
  rcases (by omega : v = 0 ∨ v = 1 ∨ v = 2 ∨ v = 3 ∨ v = 4 ∨ v = 5 ∨ v = 6) with rfl | rfl | rfl | rfl | rfl | rfl | rfl
  · exact c_iok_0 hw (by omega) kt kf
  · exact c_iok_1 hw (by omega) kt kf
  · exact c_iok_2 hw (by omega) kt kf
  · exact c_iok_3 hw (by omega) kt kf
  · exact c_iok_4 hw (by omega) kt kf
  · exact c_iok_5 hw (by omega) kt kf
  · exact c_iok_6 hw (by omega) kt kf


theorem c_op_as {X : List Int} {t : ih_S} {Q : Option xa_V → ih_S → Prop} {s : Int → Int} {a b : Int} (ha : xa_rI a) (hb : xa_rI b) (W : ih_Wr t 1 s) (G : ih_Gd s) (K : ih_roC t (f_as s a b) Q) : ih_Wp X 91 0 [xR 0, xI a, xI b, xC 1, xC 1] [] t Q := by
  refine ih_seg (i1 := 1) 1 rfl ?_
  refine ih_is1 109 rfl rfl (Nat.le_of_ble_eq_true rfl) (Nat.le_of_ble_eq_true rfl) rfl ?_
  refine c_isSpot (by omega) (fun w1 => ?_) (fun w2 => ?_)
  · refine ih_seg (i1 := 4) 2 rfl ?_
    refine ih_is1 107 rfl rfl (Nat.le_of_ble_eq_true rfl) (Nat.le_of_ble_eq_true rfl) rfl ?_
    refine c_isKind (by omega) (fun w3 => ?_) (fun w4 => ?_)
    · refine ih_seg (i1 := 10) 1 rfl ?_
      have sp : (0 ≤ t 5 a ∧ t 5 a < 4) ∧ ((s (218 + a) = -1 ∧ t 6 a = -1) ∨ ((0 ≤ t 6 a ∧ t 6 a < 100) ∧ s (218 + a) = 100 * t 5 a + t 6 a)) := W.spot a (by omega) (by omega)
      refine ih_seg (i1 := 11) 1 rfl ?_
      refine ih_getR rfl rfl ?_
      refine ih_getR rfl (by first | rfl | exact ih_fW3 (by assumption)) ?_
      refine ih_seg (i1 := 14) 1 rfl ?_
      refine ih_iald rfl (by first | rfl | exact ih_lP1 (ih_P_w0 hc) | exact ih_lP2 (ih_P_w0 hc) | exact ih_lP3 (ih_P_w0 hc) | exact ih_lP4 (ih_P_w0 hc) |  exact ih_lP1 (by assumption) | exact ih_lP2 (by assumption) | exact ih_lP3 (by assumption) | exact ih_lP4 (by assumption) | exact ih_lC1 (by assumption) | exact ih_lS1 (by assumption) | exact ih_lW1 (by assumption) | exact ih_lW2 (by assumption) | exact ih_lW4 (by assumption) | exact ih_lW5 (by assumption)) (by omega) (by omega) (k := ?_)
      refine ih_seg (i1 := 17) 2 rfl ?_
      try simp only [xa_set, List.set_cons_zero, List.set_cons_succ, List.getElem?_cons_zero, List.getElem?_cons_succ]
      refine ih_getR rfl rfl ?_
      refine ih_getR rfl (by first | rfl | exact ih_fW4 (by assumption)) ?_
      refine ih_seg (i1 := 20) 1 rfl ?_
      refine ih_iald rfl (by first | rfl | exact ih_lP1 (ih_P_w0 hc) | exact ih_lP2 (ih_P_w0 hc) | exact ih_lP3 (ih_P_w0 hc) | exact ih_lP4 (ih_P_w0 hc) |  exact ih_lP1 (by assumption) | exact ih_lP2 (by assumption) | exact ih_lP3 (by assumption) | exact ih_lP4 (by assumption) | exact ih_lC1 (by assumption) | exact ih_lS1 (by assumption) | exact ih_lW1 (by assumption) | exact ih_lW2 (by assumption) | exact ih_lW4 (by assumption) | exact ih_lW5 (by assumption)) (by omega) (by omega) (k := ?_)
      refine ih_seg (i1 := 25) 4 rfl ?_
      try simp only [xa_set, List.set_cons_zero, List.set_cons_succ, List.getElem?_cons_zero, List.getElem?_cons_succ]
      refine ih_iv2 111 rfl rfl (by first | rfl | exact ih_kP (ih_P_w0 hc) |  exact ih_kP (by assumption) | exact ih_kC (by assumption) | exact ih_kN (by assumption) | exact ih_kS (by assumption) | exact ih_kW (by assumption)) (Nat.le_of_ble_eq_true rfl) (Nat.le_of_ble_eq_true rfl) rfl ?_
      refine c_isMark (by omega) (by omega) (fun p hp => (ih_PG_W W G hp).sz) (fun c m ea eb hc hm => ?_) (fun hn => ?_)
      · refine ih_seg (i1 := 31) 1 rfl ?_
        have P := ih_PG_W W G hc
        have g0 := P.sz
        have hz := ih_W_sz W hc
        have hm2 : (m : Int) < s (22 + c) := by omega
        have ek := ih_W_kd W hc hm2
        have hk := P.kd m hm
        have hh : s (218 + a) = 100 * c + m := by omega
        have hd1 : (100 * (c : Int) + m) / 100 = c := by omega
        have hd2 : (100 * (c : Int) + m) % 100 = m := by omega
        simp only [ea, eb]
        refine ih_seg (i1 := 32) 1 rfl ?_
        refine ih_getR rfl rfl ?_
        refine ih_getR rfl (by first | rfl | exact ih_fW2 (by assumption)) ?_
        refine ih_seg (i1 := 35) 1 rfl ?_
        refine ih_aald rfl (ih_eP hc) ?_
        refine ih_getR rfl (by first | rfl | exact ih_fP0 (ih_P_w0 hc) | exact ih_fP0 (by assumption)) ?_
        refine ih_seg (i1 := 38) 1 rfl ?_
        refine ih_iald rfl (by first | rfl | exact ih_lP1 (ih_P_w0 hc) | exact ih_lP2 (ih_P_w0 hc) | exact ih_lP3 (ih_P_w0 hc) | exact ih_lP4 (ih_P_w0 hc) |  exact ih_lP1 (by assumption) | exact ih_lP2 (by assumption) | exact ih_lP3 (by assumption) | exact ih_lP4 (by assumption) | exact ih_lC1 (by assumption) | exact ih_lS1 (by assumption) | exact ih_lW1 (by assumption) | exact ih_lW2 (by assumption) | exact ih_lW4 (by assumption) | exact ih_lW5 (by assumption)) (by omega) (by omega) (k := ?_)
        refine ih_seg (i1 := 40) 1 rfl ?_
        refine ih_is2 113 rfl rfl (Nat.le_of_ble_eq_true rfl) (Nat.le_of_ble_eq_true rfl) rfl ?_
        simp only [ih_a1]
        refine c_isOfKind (by omega) (by omega) (fun hq => ?_) (fun hq => ?_)
        · refine ih_seg (i1 := 51) 6 rfl ?_
          try dsimp only
          refine ih_ret rfl rfl ?_
          first
            | exact ih_roC_no K (by rw [f_as, if_neg (by omega)]) (ih_sc_r _)
            | (refine ih_roC_ok K ?_ (ih_sc_r _)
               unfold ih_isK at hq
               rw [ek] at hq
               rw [f_as, if_pos (by omega), hh, hd1, hd2, if_neg (by omega), if_pos (by omega)])
            | (refine ih_roC_no K ?_ (ih_sc_r _)
               unfold ih_isK at hq
               rw [ek] at hq
               rw [f_as, if_pos (by omega), hh, hd1, hd2, if_neg (by omega), if_neg (by omega)])
            | (refine ih_roC_no K ?_ (ih_sc_r _)
               rw [f_as, if_pos (by omega), if_pos]
               rcases G.spot a (by omega) (by omega) with sg | ⟨p, m, hp, hm, sg⟩
               · omega
               · exfalso
                 have zz := (G.pap p hp).sz
                 refine hn p m (by omega) (by omega) hp ?_
                 rw [ih_W_sz W hp]
                 exact hm)
        · refine ih_seg (i1 := 44) 3 rfl ?_
          refine ih_iv1 102 rfl rfl (by first | rfl | exact ih_kP (ih_P_w0 hc) |  exact ih_kP (by assumption) | exact ih_kC (by assumption) | exact ih_kN (by assumption) | exact ih_kS (by assumption) | exact ih_kW (by assumption)) (Nat.le_of_ble_eq_true rfl) (Nat.le_of_ble_eq_true rfl) rfl ?_
          refine c_finding (by omega) ?_
          refine ih_ret rfl rfl ?_
          first
            | exact ih_roC_no K (by rw [f_as, if_neg (by omega)]) (ih_sc_r _)
            | (refine ih_roC_ok K ?_ (ih_sc_r _)
               unfold ih_isK at hq
               rw [ek] at hq
               rw [f_as, if_pos (by omega), hh, hd1, hd2, if_neg (by omega), if_pos (by omega)])
            | (refine ih_roC_no K ?_ (ih_sc_r _)
               unfold ih_isK at hq
               rw [ek] at hq
               rw [f_as, if_pos (by omega), hh, hd1, hd2, if_neg (by omega), if_neg (by omega)])
            | (refine ih_roC_no K ?_ (ih_sc_r _)
               rw [f_as, if_pos (by omega), if_pos]
               rcases G.spot a (by omega) (by omega) with sg | ⟨p, m, hp, hm, sg⟩
               · omega
               · exfalso
                 have zz := (G.pap p hp).sz
                 refine hn p m (by omega) (by omega) hp ?_
                 rw [ih_W_sz W hp]
                 exact hm)
      · refine ih_seg (i1 := 29) 3 rfl ?_
        refine ih_iv1 102 rfl rfl (by first | rfl | exact ih_kP (ih_P_w0 hc) |  exact ih_kP (by assumption) | exact ih_kC (by assumption) | exact ih_kN (by assumption) | exact ih_kS (by assumption) | exact ih_kW (by assumption)) (Nat.le_of_ble_eq_true rfl) (Nat.le_of_ble_eq_true rfl) rfl ?_
        refine c_finding (by omega) ?_
        refine ih_ret rfl rfl ?_
        first
          | exact ih_roC_no K (by rw [f_as, if_neg (by omega)]) (ih_sc_r _)
          | (refine ih_roC_ok K ?_ (ih_sc_r _)
             unfold ih_isK at hq
             rw [ek] at hq
             rw [f_as, if_pos (by omega), hh, hd1, hd2, if_neg (by omega), if_pos (by omega)])
          | (refine ih_roC_no K ?_ (ih_sc_r _)
             unfold ih_isK at hq
             rw [ek] at hq
             rw [f_as, if_pos (by omega), hh, hd1, hd2, if_neg (by omega), if_neg (by omega)])
          | (refine ih_roC_no K ?_ (ih_sc_r _)
             rw [f_as, if_pos (by omega), if_pos]
             rcases G.spot a (by omega) (by omega) with sg | ⟨p, m, hp, hm, sg⟩
             · omega
             · exfalso
               have zz := (G.pap p hp).sz
               refine hn p m (by omega) (by omega) hp ?_
               rw [ih_W_sz W hp]
               exact hm)
    · refine ih_seg (i1 := 8) 3 rfl ?_
      refine ih_iv1 102 rfl rfl (by first | rfl | exact ih_kP (ih_P_w0 hc) |  exact ih_kP (by assumption) | exact ih_kC (by assumption) | exact ih_kN (by assumption) | exact ih_kS (by assumption) | exact ih_kW (by assumption)) (Nat.le_of_ble_eq_true rfl) (Nat.le_of_ble_eq_true rfl) rfl ?_
      refine c_finding (by omega) ?_
      refine ih_ret rfl rfl ?_
      first
        | exact ih_roC_no K (by rw [f_as, if_neg (by omega)]) (ih_sc_r _)
        | (refine ih_roC_ok K ?_ (ih_sc_r _)
           unfold ih_isK at hq
           rw [ek] at hq
           rw [f_as, if_pos (by omega), hh, hd1, hd2, if_neg (by omega), if_pos (by omega)])
        | (refine ih_roC_no K ?_ (ih_sc_r _)
           unfold ih_isK at hq
           rw [ek] at hq
           rw [f_as, if_pos (by omega), hh, hd1, hd2, if_neg (by omega), if_neg (by omega)])
        | (refine ih_roC_no K ?_ (ih_sc_r _)
           rw [f_as, if_pos (by omega), if_pos]
           rcases G.spot a (by omega) (by omega) with sg | ⟨p, m, hp, hm, sg⟩
           · omega
           · exfalso
             have zz := (G.pap p hp).sz
             refine hn p m (by omega) (by omega) hp ?_
             rw [ih_W_sz W hp]
             exact hm)
  · refine ih_seg (i1 := 8) 3 rfl ?_
    refine ih_iv1 102 rfl rfl (by first | rfl | exact ih_kP (ih_P_w0 hc) |  exact ih_kP (by assumption) | exact ih_kC (by assumption) | exact ih_kN (by assumption) | exact ih_kS (by assumption) | exact ih_kW (by assumption)) (Nat.le_of_ble_eq_true rfl) (Nat.le_of_ble_eq_true rfl) rfl ?_
    refine c_finding (by omega) ?_
    refine ih_ret rfl rfl ?_
    first
      | exact ih_roC_no K (by rw [f_as, if_neg (by omega)]) (ih_sc_r _)
      | (refine ih_roC_ok K ?_ (ih_sc_r _)
         unfold ih_isK at hq
         rw [ek] at hq
         rw [f_as, if_pos (by omega), hh, hd1, hd2, if_neg (by omega), if_pos (by omega)])
      | (refine ih_roC_no K ?_ (ih_sc_r _)
         unfold ih_isK at hq
         rw [ek] at hq
         rw [f_as, if_pos (by omega), hh, hd1, hd2, if_neg (by omega), if_neg (by omega)])
      | (refine ih_roC_no K ?_ (ih_sc_r _)
         rw [f_as, if_pos (by omega), if_pos]
         rcases G.spot a (by omega) (by omega) with sg | ⟨p, m, hp, hm, sg⟩
         · omega
         · exfalso
           have zz := (G.pap p hp).sz
           refine hn p m (by omega) (by omega) hp ?_
           rw [ih_W_sz W hp]
           exact hm)


theorem r_op_as {X : List Int} {t : ih_S} {Q : Option xa_V → ih_S → Prop} {a b : Int} (ha : xa_rI a) (hb : xa_rI b) (G : ih_Gd (t 112)) (K : ih_roR t (f_as (t 112) a b) Q) : ih_Wp X 197 0 [xR 111, xI a, xI b, xC 1, xC 1, xC 1] [] t Q := by
  refine ih_seg (i1 := 1) 1 rfl ?_
  refine ih_i2l rfl (by omega) ?_
  refine ih_seg (i1 := 4) 2 rfl ?_
  refine ih_is3 126 rfl rfl (Nat.le_of_ble_eq_true rfl) (Nat.le_of_ble_eq_true rfl) rfl ?_
  refine r_in (by omega) (by omega) (by omega) (fun w1 => ?_) (fun w2 => ?_)
  · refine ih_seg (i1 := 7) 2 rfl ?_
    refine ih_i2l rfl (by omega) ?_
    refine ih_seg (i1 := 10) 2 rfl ?_
    refine ih_is3 126 rfl rfl (Nat.le_of_ble_eq_true rfl) (Nat.le_of_ble_eq_true rfl) rfl ?_
    refine r_in (by omega) (by omega) (by omega) (fun w3 => ?_) (fun w4 => ?_)
    · refine ih_seg (i1 := 16) 1 rfl ?_
      have sr : -1 ≤ t 112 (218 + a) ∧ t 112 (218 + a) < 400 := by
        rcases G.spot a (by omega) (by omega) with sg | ⟨p, m, hp, hm, sg⟩
        · omega
        · have zz := (G.pap p hp).sz
          omega
      refine ih_seg (i1 := 17) 1 rfl ?_
      refine ih_getR rfl rfl ?_
      refine ih_seg (i1 := 21) 3 rfl ?_
      try dsimp only
      refine ih_iald rfl (by first | rfl | exact ih_lP1 (ih_P_w0 hc) | exact ih_lP2 (ih_P_w0 hc) | exact ih_lP3 (ih_P_w0 hc) | exact ih_lP4 (ih_P_w0 hc) |  exact ih_lP1 (by assumption) | exact ih_lP2 (by assumption) | exact ih_lP3 (by assumption) | exact ih_lP4 (by assumption) | exact ih_lC1 (by assumption) | exact ih_lS1 (by assumption) | exact ih_lW1 (by assumption) | exact ih_lW2 (by assumption) | exact ih_lW4 (by assumption) | exact ih_lW5 (by assumption)) (by omega) (by omega) (k := ?_)
      refine ih_seg (i1 := 24) 2 rfl ?_
      try simp only [xa_set, List.set_cons_zero, List.set_cons_succ, List.getElem?_cons_zero, List.getElem?_cons_succ]
      refine ih_ifc_ge rfl (by omega) (fun w5 => ?_) (fun w5 => ?_)
      · obtain ⟨p, m, hp, hm, hh⟩ : ∃ p m : Nat, p < 4 ∧ (m : Int) < t 112 (22 + p) ∧ t 112 (218 + a) = 100 * p + m := by
          rcases G.spot a (by omega) (by omega) with sg | sg
          · exfalso
            omega
          · exact sg
        have zz := (G.pap p hp).sz
        have ko : t 112 (26 + 48 * (t 112 (218 + a) / 100) + 4 * (t 112 (218 + a) % 100)) = t 112 (26 + 48 * p + 4 * m) := congrArg (t 112) (by omega)
        have kk := (G.pap p hp).kd m hm
        refine ih_seg (i1 := 30) 1 rfl ?_
        refine ih_getR rfl rfl ?_
        refine ih_seg (i1 := 33) 2 rfl ?_
        refine ih_idiv0 rfl (by omega) (by omega) ?_
        refine ih_seg (i1 := 36) 2 rfl ?_
        refine ih_irem0 rfl (by omega) (by omega) ?_
        refine ih_is2 132 rfl rfl (Nat.le_of_ble_eq_true rfl) (Nat.le_of_ble_eq_true rfl) rfl ?_
        refine r_at ?_
        refine ih_iald rfl (by first | rfl | exact ih_lP1 (ih_P_w0 hc) | exact ih_lP2 (ih_P_w0 hc) | exact ih_lP3 (ih_P_w0 hc) | exact ih_lP4 (ih_P_w0 hc) |  exact ih_lP1 (by assumption) | exact ih_lP2 (by assumption) | exact ih_lP3 (by assumption) | exact ih_lP4 (by assumption) | exact ih_lC1 (by assumption) | exact ih_lS1 (by assumption) | exact ih_lW1 (by assumption) | exact ih_lW2 (by assumption) | exact ih_lW4 (by assumption) | exact ih_lW5 (by assumption)) (by omega) (by omega) (k := ?_)
        refine ih_seg (i1 := 41) 2 rfl ?_
        try simp only [xa_set, List.set_cons_zero, List.set_cons_succ, List.getElem?_cons_zero, List.getElem?_cons_succ]
        refine ih_ifc_eq rfl (by omega) (fun w6 => ?_) (fun w6 => ?_)
        · refine ih_seg (i1 := 65) 4 rfl ?_
          try simp only [xa_set, List.set_cons_zero, List.set_cons_succ, List.getElem?_cons_zero, List.getElem?_cons_succ]
          refine ih_ifc_eq rfl (by omega) (fun w7 => ?_) (fun w7 => ?_)
          · refine ih_seg (i1 := 70) 2 rfl ?_
            refine ih_iv1 127 rfl rfl (by first | rfl | exact ih_kP (ih_P_w0 hc) |  exact ih_kP (by assumption) | exact ih_kC (by assumption) | exact ih_kN (by assumption) | exact ih_kS (by assumption) | exact ih_kW (by assumption)) (Nat.le_of_ble_eq_true rfl) (Nat.le_of_ble_eq_true rfl) rfl ?_
            refine r_finds 2 rfl (by omega) ?_
            refine ih_ret rfl rfl ?_
            first
              | exact ih_roR_no 0 K (by rw [f_as, if_neg (by omega)]) rfl (ih_rr_r _)
              | exact ih_roR_no 5 K (by rw [f_as, if_pos (by omega), if_pos (by omega)]) rfl (ih_rr_r _)
              | exact ih_roR_ok K (by rw [f_as, if_pos (by omega), if_neg (by omega), if_pos (by omega)]) (ih_rr_r _)
              | exact ih_roR_no 2 K (by rw [f_as, if_pos (by omega), if_neg (by omega), if_neg (by omega)]) rfl (ih_rr_r _)
              | (exfalso
                 omega)
          · refine ih_seg (i1 := 71) 2 rfl ?_
            refine ih_ret rfl rfl ?_
            first
              | exact ih_roR_no 0 K (by rw [f_as, if_neg (by omega)]) rfl (ih_rr_r _)
              | exact ih_roR_no 5 K (by rw [f_as, if_pos (by omega), if_pos (by omega)]) rfl (ih_rr_r _)
              | exact ih_roR_ok K (by rw [f_as, if_pos (by omega), if_neg (by omega), if_pos (by omega)]) (ih_rr_r _)
              | exact ih_roR_no 2 K (by rw [f_as, if_pos (by omega), if_neg (by omega), if_neg (by omega)]) rfl (ih_rr_r _)
              | (exfalso
                 omega)
        · refine ih_seg (i1 := 44) 2 rfl ?_
          refine ih_icmp_eq rfl (by omega) (by omega) (fun w8 => ?_) (fun w8 => ?_)
          · refine ih_seg (i1 := 65) 4 rfl ?_
            try simp only [xa_set, List.set_cons_zero, List.set_cons_succ, List.getElem?_cons_zero, List.getElem?_cons_succ]
            refine ih_ifc_eq rfl (by omega) (fun w9 => ?_) (fun w9 => ?_)
            · refine ih_seg (i1 := 70) 2 rfl ?_
              refine ih_iv1 127 rfl rfl (by first | rfl | exact ih_kP (ih_P_w0 hc) |  exact ih_kP (by assumption) | exact ih_kC (by assumption) | exact ih_kN (by assumption) | exact ih_kS (by assumption) | exact ih_kW (by assumption)) (Nat.le_of_ble_eq_true rfl) (Nat.le_of_ble_eq_true rfl) rfl ?_
              refine r_finds 2 rfl (by omega) ?_
              refine ih_ret rfl rfl ?_
              first
                | exact ih_roR_no 0 K (by rw [f_as, if_neg (by omega)]) rfl (ih_rr_r _)
                | exact ih_roR_no 5 K (by rw [f_as, if_pos (by omega), if_pos (by omega)]) rfl (ih_rr_r _)
                | exact ih_roR_ok K (by rw [f_as, if_pos (by omega), if_neg (by omega), if_pos (by omega)]) (ih_rr_r _)
                | exact ih_roR_no 2 K (by rw [f_as, if_pos (by omega), if_neg (by omega), if_neg (by omega)]) rfl (ih_rr_r _)
                | (exfalso
                   omega)
            · refine ih_seg (i1 := 71) 2 rfl ?_
              refine ih_ret rfl rfl ?_
              first
                | exact ih_roR_no 0 K (by rw [f_as, if_neg (by omega)]) rfl (ih_rr_r _)
                | exact ih_roR_no 5 K (by rw [f_as, if_pos (by omega), if_pos (by omega)]) rfl (ih_rr_r _)
                | exact ih_roR_ok K (by rw [f_as, if_pos (by omega), if_neg (by omega), if_pos (by omega)]) (ih_rr_r _)
                | exact ih_roR_no 2 K (by rw [f_as, if_pos (by omega), if_neg (by omega), if_neg (by omega)]) rfl (ih_rr_r _)
                | (exfalso
                   omega)
          · refine ih_seg (i1 := 47) 2 rfl ?_
            refine ih_icmp_ne rfl (by omega) (by omega) (fun w10 => ?_) (fun w10 => ?_)
            · refine ih_seg (i1 := 56) 2 rfl ?_
              refine ih_icmp_ne rfl (by omega) (by omega) (fun w11 => ?_) (fun w11 => ?_)
              · refine ih_seg (i1 := 65) 3 rfl ?_
                try simp only [xa_set, List.set_cons_zero, List.set_cons_succ, List.getElem?_cons_zero, List.getElem?_cons_succ]
                refine ih_ifc_eq rfl (by omega) (fun w12 => ?_) (fun w12 => ?_)
                · refine ih_seg (i1 := 70) 2 rfl ?_
                  refine ih_iv1 127 rfl rfl (by first | rfl | exact ih_kP (ih_P_w0 hc) |  exact ih_kP (by assumption) | exact ih_kC (by assumption) | exact ih_kN (by assumption) | exact ih_kS (by assumption) | exact ih_kW (by assumption)) (Nat.le_of_ble_eq_true rfl) (Nat.le_of_ble_eq_true rfl) rfl ?_
                  refine r_finds 2 rfl (by omega) ?_
                  refine ih_ret rfl rfl ?_
                  first
                    | exact ih_roR_no 0 K (by rw [f_as, if_neg (by omega)]) rfl (ih_rr_r _)
                    | exact ih_roR_no 5 K (by rw [f_as, if_pos (by omega), if_pos (by omega)]) rfl (ih_rr_r _)
                    | exact ih_roR_ok K (by rw [f_as, if_pos (by omega), if_neg (by omega), if_pos (by omega)]) (ih_rr_r _)
                    | exact ih_roR_no 2 K (by rw [f_as, if_pos (by omega), if_neg (by omega), if_neg (by omega)]) rfl (ih_rr_r _)
                    | (exfalso
                       omega)
                · refine ih_seg (i1 := 71) 2 rfl ?_
                  refine ih_ret rfl rfl ?_
                  first
                    | exact ih_roR_no 0 K (by rw [f_as, if_neg (by omega)]) rfl (ih_rr_r _)
                    | exact ih_roR_no 5 K (by rw [f_as, if_pos (by omega), if_pos (by omega)]) rfl (ih_rr_r _)
                    | exact ih_roR_ok K (by rw [f_as, if_pos (by omega), if_neg (by omega), if_pos (by omega)]) (ih_rr_r _)
                    | exact ih_roR_no 2 K (by rw [f_as, if_pos (by omega), if_neg (by omega), if_neg (by omega)]) rfl (ih_rr_r _)
                    | (exfalso
                       omega)
              · refine ih_seg (i1 := 59) 2 rfl ?_
                refine ih_icmp_ne rfl (by omega) (by omega) (fun w13 => ?_) (fun w13 => ?_)
                · refine ih_seg (i1 := 65) 3 rfl ?_
                  try simp only [xa_set, List.set_cons_zero, List.set_cons_succ, List.getElem?_cons_zero, List.getElem?_cons_succ]
                  refine ih_ifc_eq rfl (by omega) (fun w14 => ?_) (fun w14 => ?_)
                  · refine ih_seg (i1 := 70) 2 rfl ?_
                    refine ih_iv1 127 rfl rfl (by first | rfl | exact ih_kP (ih_P_w0 hc) |  exact ih_kP (by assumption) | exact ih_kC (by assumption) | exact ih_kN (by assumption) | exact ih_kS (by assumption) | exact ih_kW (by assumption)) (Nat.le_of_ble_eq_true rfl) (Nat.le_of_ble_eq_true rfl) rfl ?_
                    refine r_finds 2 rfl (by omega) ?_
                    refine ih_ret rfl rfl ?_
                    first
                      | exact ih_roR_no 0 K (by rw [f_as, if_neg (by omega)]) rfl (ih_rr_r _)
                      | exact ih_roR_no 5 K (by rw [f_as, if_pos (by omega), if_pos (by omega)]) rfl (ih_rr_r _)
                      | exact ih_roR_ok K (by rw [f_as, if_pos (by omega), if_neg (by omega), if_pos (by omega)]) (ih_rr_r _)
                      | exact ih_roR_no 2 K (by rw [f_as, if_pos (by omega), if_neg (by omega), if_neg (by omega)]) rfl (ih_rr_r _)
                      | (exfalso
                         omega)
                  · refine ih_seg (i1 := 71) 2 rfl ?_
                    refine ih_ret rfl rfl ?_
                    first
                      | exact ih_roR_no 0 K (by rw [f_as, if_neg (by omega)]) rfl (ih_rr_r _)
                      | exact ih_roR_no 5 K (by rw [f_as, if_pos (by omega), if_pos (by omega)]) rfl (ih_rr_r _)
                      | exact ih_roR_ok K (by rw [f_as, if_pos (by omega), if_neg (by omega), if_pos (by omega)]) (ih_rr_r _)
                      | exact ih_roR_no 2 K (by rw [f_as, if_pos (by omega), if_neg (by omega), if_neg (by omega)]) rfl (ih_rr_r _)
                      | (exfalso
                         omega)
                · refine ih_seg (i1 := 65) 4 rfl ?_
                  try simp only [xa_set, List.set_cons_zero, List.set_cons_succ, List.getElem?_cons_zero, List.getElem?_cons_succ]
                  refine ih_ifc_eq rfl (by omega) (fun w15 => ?_) (fun w15 => ?_)
                  · refine ih_seg (i1 := 70) 2 rfl ?_
                    refine ih_iv1 127 rfl rfl (by first | rfl | exact ih_kP (ih_P_w0 hc) |  exact ih_kP (by assumption) | exact ih_kC (by assumption) | exact ih_kN (by assumption) | exact ih_kS (by assumption) | exact ih_kW (by assumption)) (Nat.le_of_ble_eq_true rfl) (Nat.le_of_ble_eq_true rfl) rfl ?_
                    refine r_finds 2 rfl (by omega) ?_
                    refine ih_ret rfl rfl ?_
                    first
                      | exact ih_roR_no 0 K (by rw [f_as, if_neg (by omega)]) rfl (ih_rr_r _)
                      | exact ih_roR_no 5 K (by rw [f_as, if_pos (by omega), if_pos (by omega)]) rfl (ih_rr_r _)
                      | exact ih_roR_ok K (by rw [f_as, if_pos (by omega), if_neg (by omega), if_pos (by omega)]) (ih_rr_r _)
                      | exact ih_roR_no 2 K (by rw [f_as, if_pos (by omega), if_neg (by omega), if_neg (by omega)]) rfl (ih_rr_r _)
                      | (exfalso
                         omega)
                  · refine ih_seg (i1 := 71) 2 rfl ?_
                    refine ih_ret rfl rfl ?_
                    first
                      | exact ih_roR_no 0 K (by rw [f_as, if_neg (by omega)]) rfl (ih_rr_r _)
                      | exact ih_roR_no 5 K (by rw [f_as, if_pos (by omega), if_pos (by omega)]) rfl (ih_rr_r _)
                      | exact ih_roR_ok K (by rw [f_as, if_pos (by omega), if_neg (by omega), if_pos (by omega)]) (ih_rr_r _)
                      | exact ih_roR_no 2 K (by rw [f_as, if_pos (by omega), if_neg (by omega), if_neg (by omega)]) rfl (ih_rr_r _)
                      | (exfalso
                         omega)
            · refine ih_seg (i1 := 50) 2 rfl ?_
              refine ih_icmp_eq rfl (by omega) (by omega) (fun w16 => ?_) (fun w16 => ?_)
              · refine ih_seg (i1 := 65) 4 rfl ?_
                try simp only [xa_set, List.set_cons_zero, List.set_cons_succ, List.getElem?_cons_zero, List.getElem?_cons_succ]
                refine ih_ifc_eq rfl (by omega) (fun w17 => ?_) (fun w17 => ?_)
                · refine ih_seg (i1 := 70) 2 rfl ?_
                  refine ih_iv1 127 rfl rfl (by first | rfl | exact ih_kP (ih_P_w0 hc) |  exact ih_kP (by assumption) | exact ih_kC (by assumption) | exact ih_kN (by assumption) | exact ih_kS (by assumption) | exact ih_kW (by assumption)) (Nat.le_of_ble_eq_true rfl) (Nat.le_of_ble_eq_true rfl) rfl ?_
                  refine r_finds 2 rfl (by omega) ?_
                  refine ih_ret rfl rfl ?_
                  first
                    | exact ih_roR_no 0 K (by rw [f_as, if_neg (by omega)]) rfl (ih_rr_r _)
                    | exact ih_roR_no 5 K (by rw [f_as, if_pos (by omega), if_pos (by omega)]) rfl (ih_rr_r _)
                    | exact ih_roR_ok K (by rw [f_as, if_pos (by omega), if_neg (by omega), if_pos (by omega)]) (ih_rr_r _)
                    | exact ih_roR_no 2 K (by rw [f_as, if_pos (by omega), if_neg (by omega), if_neg (by omega)]) rfl (ih_rr_r _)
                    | (exfalso
                       omega)
                · refine ih_seg (i1 := 71) 2 rfl ?_
                  refine ih_ret rfl rfl ?_
                  first
                    | exact ih_roR_no 0 K (by rw [f_as, if_neg (by omega)]) rfl (ih_rr_r _)
                    | exact ih_roR_no 5 K (by rw [f_as, if_pos (by omega), if_pos (by omega)]) rfl (ih_rr_r _)
                    | exact ih_roR_ok K (by rw [f_as, if_pos (by omega), if_neg (by omega), if_pos (by omega)]) (ih_rr_r _)
                    | exact ih_roR_no 2 K (by rw [f_as, if_pos (by omega), if_neg (by omega), if_neg (by omega)]) rfl (ih_rr_r _)
                    | (exfalso
                       omega)
              · refine ih_seg (i1 := 53) 2 rfl ?_
                refine ih_icmp_eq rfl (by omega) (by omega) (fun w18 => ?_) (fun w18 => ?_)
                · refine ih_seg (i1 := 65) 4 rfl ?_
                  try simp only [xa_set, List.set_cons_zero, List.set_cons_succ, List.getElem?_cons_zero, List.getElem?_cons_succ]
                  refine ih_ifc_eq rfl (by omega) (fun w19 => ?_) (fun w19 => ?_)
                  · refine ih_seg (i1 := 70) 2 rfl ?_
                    refine ih_iv1 127 rfl rfl (by first | rfl | exact ih_kP (ih_P_w0 hc) |  exact ih_kP (by assumption) | exact ih_kC (by assumption) | exact ih_kN (by assumption) | exact ih_kS (by assumption) | exact ih_kW (by assumption)) (Nat.le_of_ble_eq_true rfl) (Nat.le_of_ble_eq_true rfl) rfl ?_
                    refine r_finds 2 rfl (by omega) ?_
                    refine ih_ret rfl rfl ?_
                    first
                      | exact ih_roR_no 0 K (by rw [f_as, if_neg (by omega)]) rfl (ih_rr_r _)
                      | exact ih_roR_no 5 K (by rw [f_as, if_pos (by omega), if_pos (by omega)]) rfl (ih_rr_r _)
                      | exact ih_roR_ok K (by rw [f_as, if_pos (by omega), if_neg (by omega), if_pos (by omega)]) (ih_rr_r _)
                      | exact ih_roR_no 2 K (by rw [f_as, if_pos (by omega), if_neg (by omega), if_neg (by omega)]) rfl (ih_rr_r _)
                      | (exfalso
                         omega)
                  · refine ih_seg (i1 := 71) 2 rfl ?_
                    refine ih_ret rfl rfl ?_
                    first
                      | exact ih_roR_no 0 K (by rw [f_as, if_neg (by omega)]) rfl (ih_rr_r _)
                      | exact ih_roR_no 5 K (by rw [f_as, if_pos (by omega), if_pos (by omega)]) rfl (ih_rr_r _)
                      | exact ih_roR_ok K (by rw [f_as, if_pos (by omega), if_neg (by omega), if_pos (by omega)]) (ih_rr_r _)
                      | exact ih_roR_no 2 K (by rw [f_as, if_pos (by omega), if_neg (by omega), if_neg (by omega)]) rfl (ih_rr_r _)
                      | (exfalso
                         omega)
                · refine ih_seg (i1 := 56) 2 rfl ?_
                  refine ih_icmp_ne rfl (by omega) (by omega) (fun w20 => ?_) (fun w20 => ?_)
                  · refine ih_seg (i1 := 65) 3 rfl ?_
                    try simp only [xa_set, List.set_cons_zero, List.set_cons_succ, List.getElem?_cons_zero, List.getElem?_cons_succ]
                    refine ih_ifc_eq rfl (by omega) (fun w21 => ?_) (fun w21 => ?_)
                    · refine ih_seg (i1 := 70) 2 rfl ?_
                      refine ih_iv1 127 rfl rfl (by first | rfl | exact ih_kP (ih_P_w0 hc) |  exact ih_kP (by assumption) | exact ih_kC (by assumption) | exact ih_kN (by assumption) | exact ih_kS (by assumption) | exact ih_kW (by assumption)) (Nat.le_of_ble_eq_true rfl) (Nat.le_of_ble_eq_true rfl) rfl ?_
                      refine r_finds 2 rfl (by omega) ?_
                      refine ih_ret rfl rfl ?_
                      first
                        | exact ih_roR_no 0 K (by rw [f_as, if_neg (by omega)]) rfl (ih_rr_r _)
                        | exact ih_roR_no 5 K (by rw [f_as, if_pos (by omega), if_pos (by omega)]) rfl (ih_rr_r _)
                        | exact ih_roR_ok K (by rw [f_as, if_pos (by omega), if_neg (by omega), if_pos (by omega)]) (ih_rr_r _)
                        | exact ih_roR_no 2 K (by rw [f_as, if_pos (by omega), if_neg (by omega), if_neg (by omega)]) rfl (ih_rr_r _)
                        | (exfalso
                           omega)
                    · refine ih_seg (i1 := 71) 2 rfl ?_
                      refine ih_ret rfl rfl ?_
                      first
                        | exact ih_roR_no 0 K (by rw [f_as, if_neg (by omega)]) rfl (ih_rr_r _)
                        | exact ih_roR_no 5 K (by rw [f_as, if_pos (by omega), if_pos (by omega)]) rfl (ih_rr_r _)
                        | exact ih_roR_ok K (by rw [f_as, if_pos (by omega), if_neg (by omega), if_pos (by omega)]) (ih_rr_r _)
                        | exact ih_roR_no 2 K (by rw [f_as, if_pos (by omega), if_neg (by omega), if_neg (by omega)]) rfl (ih_rr_r _)
                        | (exfalso
                           omega)
                  · refine ih_seg (i1 := 59) 2 rfl ?_
                    refine ih_icmp_ne rfl (by omega) (by omega) (fun w22 => ?_) (fun w22 => ?_)
                    · refine ih_seg (i1 := 65) 3 rfl ?_
                      try simp only [xa_set, List.set_cons_zero, List.set_cons_succ, List.getElem?_cons_zero, List.getElem?_cons_succ]
                      refine ih_ifc_eq rfl (by omega) (fun w23 => ?_) (fun w23 => ?_)
                      · refine ih_seg (i1 := 70) 2 rfl ?_
                        refine ih_iv1 127 rfl rfl (by first | rfl | exact ih_kP (ih_P_w0 hc) |  exact ih_kP (by assumption) | exact ih_kC (by assumption) | exact ih_kN (by assumption) | exact ih_kS (by assumption) | exact ih_kW (by assumption)) (Nat.le_of_ble_eq_true rfl) (Nat.le_of_ble_eq_true rfl) rfl ?_
                        refine r_finds 2 rfl (by omega) ?_
                        refine ih_ret rfl rfl ?_
                        first
                          | exact ih_roR_no 0 K (by rw [f_as, if_neg (by omega)]) rfl (ih_rr_r _)
                          | exact ih_roR_no 5 K (by rw [f_as, if_pos (by omega), if_pos (by omega)]) rfl (ih_rr_r _)
                          | exact ih_roR_ok K (by rw [f_as, if_pos (by omega), if_neg (by omega), if_pos (by omega)]) (ih_rr_r _)
                          | exact ih_roR_no 2 K (by rw [f_as, if_pos (by omega), if_neg (by omega), if_neg (by omega)]) rfl (ih_rr_r _)
                          | (exfalso
                             omega)
                      · refine ih_seg (i1 := 71) 2 rfl ?_
                        refine ih_ret rfl rfl ?_
                        first
                          | exact ih_roR_no 0 K (by rw [f_as, if_neg (by omega)]) rfl (ih_rr_r _)
                          | exact ih_roR_no 5 K (by rw [f_as, if_pos (by omega), if_pos (by omega)]) rfl (ih_rr_r _)
                          | exact ih_roR_ok K (by rw [f_as, if_pos (by omega), if_neg (by omega), if_pos (by omega)]) (ih_rr_r _)
                          | exact ih_roR_no 2 K (by rw [f_as, if_pos (by omega), if_neg (by omega), if_neg (by omega)]) rfl (ih_rr_r _)
                          | (exfalso
                             omega)
                    · refine ih_seg (i1 := 65) 4 rfl ?_
                      try simp only [xa_set, List.set_cons_zero, List.set_cons_succ, List.getElem?_cons_zero, List.getElem?_cons_succ]
                      refine ih_ifc_eq rfl (by omega) (fun w24 => ?_) (fun w24 => ?_)
                      · refine ih_seg (i1 := 70) 2 rfl ?_
                        refine ih_iv1 127 rfl rfl (by first | rfl | exact ih_kP (ih_P_w0 hc) |  exact ih_kP (by assumption) | exact ih_kC (by assumption) | exact ih_kN (by assumption) | exact ih_kS (by assumption) | exact ih_kW (by assumption)) (Nat.le_of_ble_eq_true rfl) (Nat.le_of_ble_eq_true rfl) rfl ?_
                        refine r_finds 2 rfl (by omega) ?_
                        refine ih_ret rfl rfl ?_
                        first
                          | exact ih_roR_no 0 K (by rw [f_as, if_neg (by omega)]) rfl (ih_rr_r _)
                          | exact ih_roR_no 5 K (by rw [f_as, if_pos (by omega), if_pos (by omega)]) rfl (ih_rr_r _)
                          | exact ih_roR_ok K (by rw [f_as, if_pos (by omega), if_neg (by omega), if_pos (by omega)]) (ih_rr_r _)
                          | exact ih_roR_no 2 K (by rw [f_as, if_pos (by omega), if_neg (by omega), if_neg (by omega)]) rfl (ih_rr_r _)
                          | (exfalso
                             omega)
                      · refine ih_seg (i1 := 71) 2 rfl ?_
                        refine ih_ret rfl rfl ?_
                        first
                          | exact ih_roR_no 0 K (by rw [f_as, if_neg (by omega)]) rfl (ih_rr_r _)
                          | exact ih_roR_no 5 K (by rw [f_as, if_pos (by omega), if_pos (by omega)]) rfl (ih_rr_r _)
                          | exact ih_roR_ok K (by rw [f_as, if_pos (by omega), if_neg (by omega), if_pos (by omega)]) (ih_rr_r _)
                          | exact ih_roR_no 2 K (by rw [f_as, if_pos (by omega), if_neg (by omega), if_neg (by omega)]) rfl (ih_rr_r _)
                          | (exfalso
                             omega)
      · refine ih_seg (i1 := 27) 2 rfl ?_
        refine ih_iv1 127 rfl rfl (by first | rfl | exact ih_kP (ih_P_w0 hc) |  exact ih_kP (by assumption) | exact ih_kC (by assumption) | exact ih_kN (by assumption) | exact ih_kS (by assumption) | exact ih_kW (by assumption)) (Nat.le_of_ble_eq_true rfl) (Nat.le_of_ble_eq_true rfl) rfl ?_
        refine r_finds 5 rfl (by omega) ?_
        refine ih_ret rfl rfl ?_
        first
          | exact ih_roR_no 0 K (by rw [f_as, if_neg (by omega)]) rfl (ih_rr_r _)
          | exact ih_roR_no 5 K (by rw [f_as, if_pos (by omega), if_pos (by omega)]) rfl (ih_rr_r _)
          | exact ih_roR_ok K (by rw [f_as, if_pos (by omega), if_neg (by omega), if_pos (by omega)]) (ih_rr_r _)
          | exact ih_roR_no 2 K (by rw [f_as, if_pos (by omega), if_neg (by omega), if_neg (by omega)]) rfl (ih_rr_r _)
          | (exfalso
             omega)
    · refine ih_seg (i1 := 14) 3 rfl ?_
      refine ih_iv1 127 rfl rfl (by first | rfl | exact ih_kP (ih_P_w0 hc) |  exact ih_kP (by assumption) | exact ih_kC (by assumption) | exact ih_kN (by assumption) | exact ih_kS (by assumption) | exact ih_kW (by assumption)) (Nat.le_of_ble_eq_true rfl) (Nat.le_of_ble_eq_true rfl) rfl ?_
      refine r_finds 0 rfl (by omega) ?_
      refine ih_ret rfl rfl ?_
      first
        | exact ih_roR_no 0 K (by rw [f_as, if_neg (by omega)]) rfl (ih_rr_r _)
        | exact ih_roR_no 5 K (by rw [f_as, if_pos (by omega), if_pos (by omega)]) rfl (ih_rr_r _)
        | exact ih_roR_ok K (by rw [f_as, if_pos (by omega), if_neg (by omega), if_pos (by omega)]) (ih_rr_r _)
        | exact ih_roR_no 2 K (by rw [f_as, if_pos (by omega), if_neg (by omega), if_neg (by omega)]) rfl (ih_rr_r _)
        | (exfalso
           omega)
  · refine ih_seg (i1 := 14) 3 rfl ?_
    refine ih_iv1 127 rfl rfl (by first | rfl | exact ih_kP (ih_P_w0 hc) |  exact ih_kP (by assumption) | exact ih_kC (by assumption) | exact ih_kN (by assumption) | exact ih_kS (by assumption) | exact ih_kW (by assumption)) (Nat.le_of_ble_eq_true rfl) (Nat.le_of_ble_eq_true rfl) rfl ?_
    refine r_finds 0 rfl (by omega) ?_
    refine ih_ret rfl rfl ?_
    first
      | exact ih_roR_no 0 K (by rw [f_as, if_neg (by omega)]) rfl (ih_rr_r _)
      | exact ih_roR_no 5 K (by rw [f_as, if_pos (by omega), if_pos (by omega)]) rfl (ih_rr_r _)
      | exact ih_roR_ok K (by rw [f_as, if_pos (by omega), if_neg (by omega), if_pos (by omega)]) (ih_rr_r _)
      | exact ih_roR_no 2 K (by rw [f_as, if_pos (by omega), if_neg (by omega), if_neg (by omega)]) rfl (ih_rr_r _)
      | (exfalso
         omega)


def ih_unf (s : Int → Int) (p : Nat) (b d : Int) : Int := if ih_w (s (18 + p)) d - s (2 + b) + 1 ≤ 0 then 0 else ih_how (s (18 + p)) (ih_w (s (18 + p)) d - s (2 + b) + 1)
theorem ih_unf_is {s : Int → Int} {p : Nat} {b d h : Int} (h0 : 0 ≤ h) (h1 : ih_w (s (18 + p)) d - s (2 + b) + 1 ≤ ih_w (s (18 + p)) h) (h2 : h = 0 ∨ ih_w (s (18 + p)) (h - 1) < ih_w (s (18 + p)) d - s (2 + b) + 1) : ih_unf s p b d = h := by
  unfold ih_unf
  split
  · next q =>
    rcases h2 with h2 | h2
    · exact h2.symm
    · by_cases e : h = 0
      · exact e.symm
      · exfalso
        have : 0 ≤ ih_w (s (18 + p)) (h - 1) := by
          unfold ih_w
          repeat' split
          all_goals omega
        omega
  · next q =>
    have g1 := ih_gal (lit := s (18 + p)) (h := h) (w := ih_w (s (18 + p)) d - s (2 + b) + 1) h0 (by omega)
    have g3 : 0 ≤ ih_how (s (18 + p)) (ih_w (s (18 + p)) d - s (2 + b) + 1) := by
      unfold ih_how
      repeat' split
      all_goals omega
    rcases h2 with h2 | h2
    · omega
    · by_cases e : h = 0
      · omega
      · have g2 := ih_gal (lit := s (18 + p)) (h := h - 1) (w := ih_w (s (18 + p)) d - s (2 + b) + 1) (by omega) (by omega)
        omega
def f_earliest (s : Int → Int) (a b d : Int) : ih_An := if (0 ≤ a ∧ a < 4) ∧ (0 ≤ b ∧ b < 8) ∧ 0 ≤ d ∧ d < 10000 then ih_ok1 (ih_unf s a.toNat b d) else ih_no 0
def f_latest (s : Int → Int) (a b d : Int) : ih_An := if (0 ≤ a ∧ a < 4) ∧ (0 ≤ b ∧ b < 8) ∧ 0 ≤ d ∧ d < 10000 then (if ih_unf s a.toNat b d = 0 then ih_no 3 else ih_ok1 (ih_unf s a.toNat b d - 1)) else ih_no 0
theorem ih_unf_rg {s : Int → Int} {p : Nat} {b d : Int} (hd : 0 ≤ d ∧ d < 10000) (hl : 1 ≤ s (2 + b) ∧ s (2 + b) ≤ 999) : 0 ≤ ih_unf s p b d ∧ ih_unf s p b d ≤ 50000 := by
  unfold ih_unf
  have h := ih_w_rg (lit := s (18 + p)) hd.1 (by omega)
  split
  · omega
  · exact ih_how_rg (by omega) (by omega)

theorem c_unf {X : List Int} {t : ih_S} {Q : Option xa_V → ih_S → Prop} {s : Int → Int} {c : Nat} {b d : Int} (hc : c < 4) (hb : 0 ≤ b ∧ b < 8) (hd : 0 ≤ d ∧ d < 10000) (W : ih_Wr t 1 s) (G : ih_Gd s) (k : Q (some (xI (ih_unf s c b d))) t) : ih_Wp X 118 0 [xR 0, xI c, xI b, xI d, xC 1, xC 1] [] t Q := by
  have P := ih_PG_W W G hc
  have gl := P.lit
  have el := ih_W_lit W hc
  have l1 : t 2 b = s (2 + b) := W.las b hb.1 hb.2
  have l2 := P.las b hb.1 hb.2
  have wr := ih_w_rg (lit := t (7 + 5 * c) 5) hd.1 (by omega)
  refine ih_seg (i1 := 1) 1 rfl ?_
  refine ih_getR rfl rfl ?_
  refine ih_getR rfl (by first | rfl | exact ih_fW2 (by assumption)) ?_
  refine ih_seg (i1 := 4) 1 rfl ?_
  refine ih_aald rfl (ih_eP hc) ?_
  refine ih_getI rfl (by first | rfl | exact ih_fP5 (ih_P_w0 hc) | exact ih_fP5 (by assumption)) ?_
  refine ih_seg (i1 := 9) 3 rfl ?_
  try simp only [xa_set, List.set_cons_zero, List.set_cons_succ, List.getElem?_cons_zero, List.getElem?_cons_succ]
  refine ih_is2 123 rfl rfl (Nat.le_of_ble_eq_true rfl) (Nat.le_of_ble_eq_true rfl) rfl ?_
  refine c_wear (by omega) (by omega) ?_
  refine ih_seg (i1 := 11) 1 rfl ?_
  refine ih_getR rfl rfl ?_
  refine ih_getR rfl (by first | rfl | exact ih_fW0 (by assumption)) ?_
  refine ih_seg (i1 := 14) 1 rfl ?_
  refine ih_iald rfl (by first | rfl | exact ih_lP1 (ih_P_w0 hc) | exact ih_lP2 (ih_P_w0 hc) | exact ih_lP3 (ih_P_w0 hc) | exact ih_lP4 (ih_P_w0 hc) |  exact ih_lP1 (by assumption) | exact ih_lP2 (by assumption) | exact ih_lP3 (by assumption) | exact ih_lP4 (by assumption) | exact ih_lC1 (by assumption) | exact ih_lS1 (by assumption) | exact ih_lW1 (by assumption) | exact ih_lW2 (by assumption) | exact ih_lW4 (by assumption) | exact ih_lW5 (by assumption)) (by omega) (by omega) (k := ?_)
  refine ih_seg (i1 := 20) 5 rfl ?_
  try simp only [xa_set, List.set_cons_zero, List.set_cons_succ, List.getElem?_cons_zero, List.getElem?_cons_succ]
  refine ih_ifc_gt rfl (by omega) (fun w1 => ?_) (fun w1 => ?_)
  · refine ih_seg (i1 := 25) 2 rfl ?_
    refine ih_is2 124 rfl rfl (Nat.le_of_ble_eq_true rfl) (Nat.le_of_ble_eq_true rfl) rfl ?_
    refine c_how (by omega) (by omega) ?_
    refine ih_ret rfl rfl ?_
    refine ih_Qe ?_ k
    unfold ih_unf
    rw [← el, ← l1]
    first
      | rw [if_pos (by omega)]
      | rw [if_neg (by omega)]
  · refine ih_seg (i1 := 26) 2 rfl ?_
    refine ih_ret rfl rfl ?_
    refine ih_Qe ?_ k
    unfold ih_unf
    rw [← el, ← l1]
    first
      | rw [if_pos (by omega)]
      | rw [if_neg (by omega)]


theorem c_op_earliest {X : List Int} {t : ih_S} {Q : Option xa_V → ih_S → Prop} {s : Int → Int} {a b d : Int} (ha : xa_rI a) (hb : xa_rI b) (hd : xa_rI d) (W : ih_Wr t 1 s) (G : ih_Gd s) (K : ih_roC t (f_earliest s a b d) Q) : ih_Wp X 83 0 [xR 0, xI a, xI b, xI d] [] t Q := by
  refine ih_seg (i1 := 1) 1 rfl ?_
  refine ih_is1 106 rfl rfl (Nat.le_of_ble_eq_true rfl) (Nat.le_of_ble_eq_true rfl) rfl ?_
  refine c_isPaper (by omega) (fun w1 => ?_) (fun w2 => ?_)
  · refine ih_seg (i1 := 4) 2 rfl ?_
    refine ih_is1 105 rfl rfl (Nat.le_of_ble_eq_true rfl) (Nat.le_of_ble_eq_true rfl) rfl ?_
    refine c_isInk (by omega) (fun w3 => ?_) (fun w4 => ?_)
    · refine ih_seg (i1 := 7) 2 rfl ?_
      refine ih_is1 104 rfl rfl (Nat.le_of_ble_eq_true rfl) (Nat.le_of_ble_eq_true rfl) rfl ?_
      refine c_isHour (by omega) (fun w5 => ?_) (fun w6 => ?_)
      · refine ih_seg (i1 := 17) 5 rfl ?_
        refine ih_iv3 118 rfl rfl (by first | rfl | exact ih_kP (ih_P_w0 hc) |  exact ih_kP (by assumption) | exact ih_kC (by assumption) | exact ih_kN (by assumption) | exact ih_kS (by assumption) | exact ih_kW (by assumption)) (Nat.le_of_ble_eq_true rfl) (Nat.le_of_ble_eq_true rfl) rfl ?_
        obtain ⟨c, rfl⟩ := Int.eq_ofNat_of_zero_le (show 0 ≤ a by omega)
        have hc : c < 4 := by omega
        have ur := ih_unf_rg (s := s) (p := c) (b := b) (d := d) (by omega) ((G.pap c hc).las b (by omega) (by omega))
        refine c_unf hc (by omega) (by omega) W G ?_
        refine ih_ret rfl rfl ?_
        first
          | exact ih_roC_no K (by rw [f_earliest, if_neg (by omega)]) (ih_sc_r _)
          | exact ih_roC_ok K (by rw [f_earliest, if_pos (by omega), Int.toNat_natCast]) (ih_sc_r _)
      · refine ih_seg (i1 := 11) 3 rfl ?_
        refine ih_iv1 102 rfl rfl (by first | rfl | exact ih_kP (ih_P_w0 hc) |  exact ih_kP (by assumption) | exact ih_kC (by assumption) | exact ih_kN (by assumption) | exact ih_kS (by assumption) | exact ih_kW (by assumption)) (Nat.le_of_ble_eq_true rfl) (Nat.le_of_ble_eq_true rfl) rfl ?_
        refine c_finding (by omega) ?_
        refine ih_ret rfl rfl ?_
        first
          | exact ih_roC_no K (by rw [f_earliest, if_neg (by omega)]) (ih_sc_r _)
          | exact ih_roC_ok K (by rw [f_earliest, if_pos (by omega), Int.toNat_natCast]) (ih_sc_r _)
    · refine ih_seg (i1 := 11) 3 rfl ?_
      refine ih_iv1 102 rfl rfl (by first | rfl | exact ih_kP (ih_P_w0 hc) |  exact ih_kP (by assumption) | exact ih_kC (by assumption) | exact ih_kN (by assumption) | exact ih_kS (by assumption) | exact ih_kW (by assumption)) (Nat.le_of_ble_eq_true rfl) (Nat.le_of_ble_eq_true rfl) rfl ?_
      refine c_finding (by omega) ?_
      refine ih_ret rfl rfl ?_
      first
        | exact ih_roC_no K (by rw [f_earliest, if_neg (by omega)]) (ih_sc_r _)
        | exact ih_roC_ok K (by rw [f_earliest, if_pos (by omega), Int.toNat_natCast]) (ih_sc_r _)
  · refine ih_seg (i1 := 11) 3 rfl ?_
    refine ih_iv1 102 rfl rfl (by first | rfl | exact ih_kP (ih_P_w0 hc) |  exact ih_kP (by assumption) | exact ih_kC (by assumption) | exact ih_kN (by assumption) | exact ih_kS (by assumption) | exact ih_kW (by assumption)) (Nat.le_of_ble_eq_true rfl) (Nat.le_of_ble_eq_true rfl) rfl ?_
    refine c_finding (by omega) ?_
    refine ih_ret rfl rfl ?_
    first
      | exact ih_roC_no K (by rw [f_earliest, if_neg (by omega)]) (ih_sc_r _)
      | exact ih_roC_ok K (by rw [f_earliest, if_pos (by omega), Int.toNat_natCast]) (ih_sc_r _)


theorem c_op_latest {X : List Int} {t : ih_S} {Q : Option xa_V → ih_S → Prop} {s : Int → Int} {a b d : Int} (ha : xa_rI a) (hb : xa_rI b) (hd : xa_rI d) (W : ih_Wr t 1 s) (G : ih_Gd s) (K : ih_roC t (f_latest s a b d) Q) : ih_Wp X 84 0 [xR 0, xI a, xI b, xI d, xC 1] [] t Q := by
  refine ih_seg (i1 := 1) 1 rfl ?_
  refine ih_is1 106 rfl rfl (Nat.le_of_ble_eq_true rfl) (Nat.le_of_ble_eq_true rfl) rfl ?_
  refine c_isPaper (by omega) (fun w1 => ?_) (fun w2 => ?_)
  · refine ih_seg (i1 := 4) 2 rfl ?_
    refine ih_is1 105 rfl rfl (Nat.le_of_ble_eq_true rfl) (Nat.le_of_ble_eq_true rfl) rfl ?_
    refine c_isInk (by omega) (fun w3 => ?_) (fun w4 => ?_)
    · refine ih_seg (i1 := 7) 2 rfl ?_
      refine ih_is1 104 rfl rfl (Nat.le_of_ble_eq_true rfl) (Nat.le_of_ble_eq_true rfl) rfl ?_
      refine c_isHour (by omega) (fun w5 => ?_) (fun w6 => ?_)
      · refine ih_seg (i1 := 17) 5 rfl ?_
        refine ih_iv3 118 rfl rfl (by first | rfl | exact ih_kP (ih_P_w0 hc) |  exact ih_kP (by assumption) | exact ih_kC (by assumption) | exact ih_kN (by assumption) | exact ih_kS (by assumption) | exact ih_kW (by assumption)) (Nat.le_of_ble_eq_true rfl) (Nat.le_of_ble_eq_true rfl) rfl ?_
        obtain ⟨c, rfl⟩ := Int.eq_ofNat_of_zero_le (show 0 ≤ a by omega)
        have hc : c < 4 := by omega
        have ur := ih_unf_rg (s := s) (p := c) (b := b) (d := d) (by omega) ((G.pap c hc).las b (by omega) (by omega))
        refine c_unf hc (by omega) (by omega) W G ?_
        refine ih_seg (i1 := 20) 2 rfl ?_
        try simp only [xa_set, List.set_cons_zero, List.set_cons_succ, List.getElem?_cons_zero, List.getElem?_cons_succ]
        refine ih_ifc_ne rfl (by omega) (fun w7 => ?_) (fun w7 => ?_)
        · refine ih_seg (i1 := 28) 3 rfl ?_
          try dsimp only
          refine ih_ret rfl rfl ?_
          first
            | exact ih_roC_no K (by rw [f_latest, if_neg (by omega)]) (ih_sc_r _)
            | exact ih_roC_no K (by rw [f_latest, if_pos (by omega), Int.toNat_natCast, if_pos (by omega)]) (ih_sc_r _)
            | exact ih_roC_ok K (by rw [f_latest, if_pos (by omega), Int.toNat_natCast, if_neg (by omega)]) (ih_sc_r _)
        · refine ih_seg (i1 := 23) 2 rfl ?_
          refine ih_iv1 102 rfl rfl (by first | rfl | exact ih_kP (ih_P_w0 hc) |  exact ih_kP (by assumption) | exact ih_kC (by assumption) | exact ih_kN (by assumption) | exact ih_kS (by assumption) | exact ih_kW (by assumption)) (Nat.le_of_ble_eq_true rfl) (Nat.le_of_ble_eq_true rfl) rfl ?_
          refine c_finding (by omega) ?_
          refine ih_seg (i1 := 28) 1 rfl ?_
          refine ih_ret rfl rfl ?_
          first
            | exact ih_roC_no K (by rw [f_latest, if_neg (by omega)]) (ih_sc_r _)
            | exact ih_roC_no K (by rw [f_latest, if_pos (by omega), Int.toNat_natCast, if_pos (by omega)]) (ih_sc_r _)
            | exact ih_roC_ok K (by rw [f_latest, if_pos (by omega), Int.toNat_natCast, if_neg (by omega)]) (ih_sc_r _)
      · refine ih_seg (i1 := 11) 3 rfl ?_
        refine ih_iv1 102 rfl rfl (by first | rfl | exact ih_kP (ih_P_w0 hc) |  exact ih_kP (by assumption) | exact ih_kC (by assumption) | exact ih_kN (by assumption) | exact ih_kS (by assumption) | exact ih_kW (by assumption)) (Nat.le_of_ble_eq_true rfl) (Nat.le_of_ble_eq_true rfl) rfl ?_
        refine c_finding (by omega) ?_
        refine ih_ret rfl rfl ?_
        first
          | exact ih_roC_no K (by rw [f_latest, if_neg (by omega)]) (ih_sc_r _)
          | exact ih_roC_no K (by rw [f_latest, if_pos (by omega), Int.toNat_natCast, if_pos (by omega)]) (ih_sc_r _)
          | exact ih_roC_ok K (by rw [f_latest, if_pos (by omega), Int.toNat_natCast, if_neg (by omega)]) (ih_sc_r _)
    · refine ih_seg (i1 := 11) 3 rfl ?_
      refine ih_iv1 102 rfl rfl (by first | rfl | exact ih_kP (ih_P_w0 hc) |  exact ih_kP (by assumption) | exact ih_kC (by assumption) | exact ih_kN (by assumption) | exact ih_kS (by assumption) | exact ih_kW (by assumption)) (Nat.le_of_ble_eq_true rfl) (Nat.le_of_ble_eq_true rfl) rfl ?_
      refine c_finding (by omega) ?_
      refine ih_ret rfl rfl ?_
      first
        | exact ih_roC_no K (by rw [f_latest, if_neg (by omega)]) (ih_sc_r _)
        | exact ih_roC_no K (by rw [f_latest, if_pos (by omega), Int.toNat_natCast, if_pos (by omega)]) (ih_sc_r _)
        | exact ih_roC_ok K (by rw [f_latest, if_pos (by omega), Int.toNat_natCast, if_neg (by omega)]) (ih_sc_r _)
  · refine ih_seg (i1 := 11) 3 rfl ?_
    refine ih_iv1 102 rfl rfl (by first | rfl | exact ih_kP (ih_P_w0 hc) |  exact ih_kP (by assumption) | exact ih_kC (by assumption) | exact ih_kN (by assumption) | exact ih_kS (by assumption) | exact ih_kW (by assumption)) (Nat.le_of_ble_eq_true rfl) (Nat.le_of_ble_eq_true rfl) rfl ?_
    refine c_finding (by omega) ?_
    refine ih_ret rfl rfl ?_
    first
      | exact ih_roC_no K (by rw [f_latest, if_neg (by omega)]) (ih_sc_r _)
      | exact ih_roC_no K (by rw [f_latest, if_pos (by omega), Int.toNat_natCast, if_pos (by omega)]) (ih_sc_r _)
      | exact ih_roC_ok K (by rw [f_latest, if_pos (by omega), Int.toNat_natCast, if_neg (by omega)]) (ih_sc_r _)


theorem r_earliest_l {X : List Int} {t : ih_S} {Q : Option xa_V → ih_S → Prop} {p : Nat} {b d : Int} (hp : p < 4) (hb : 0 ≤ b ∧ b < 8) (hd : 0 ≤ d ∧ d < 10000) (G : ih_Gd (t 112)) (K : Q (some (xI (ih_unf (t 112) p b d))) t) : ∀ (n : Nat) (h : Int) (hh : 0 ≤ h ∧ h ≤ d) (hf : h ≤ n) (h1 : ih_w (t 112 (18 + p)) d - t 112 (2 + b) + 1 ≤ ih_w (t 112 (18 + p)) h), ih_Wp X 176 15 [xR 111, xI p, xI b, xI d, xI h] [] t Q := by
  intro n
  induction n with
  | zero =>
    intro h hh hf h1
    have P := G.pap p hp
    have gl := P.lit
    have l2 := P.las b hb.1 hb.2
    have wr := ih_w_rg (lit := t 112 (18 + p)) hd.1 (by omega)
    have wr1 := ih_w_rg (lit := t 112 (18 + p)) (h := h) (by omega) (by omega)
    refine ih_seg (i1 := 16) 1 rfl ?_
    refine ih_ifc_le rfl (by omega) (fun w1 => ?_) (fun w1 => ?_)
    · refine ih_seg (i1 := 34) 1 rfl ?_
      refine ih_ret rfl rfl ?_
      exact ih_Qe (ih_unf_is hh.1 h1 (by omega)).symm K
    · refine ih_seg (i1 := 23) 6 rfl ?_
      try dsimp only
      refine ih_iv3 147 rfl rfl (by first | rfl | exact ih_kP (ih_P_w0 hc) |  exact ih_kP (by assumption) | exact ih_kC (by assumption) | exact ih_kN (by assumption) | exact ih_kS (by assumption) | exact ih_kW (by assumption)) (Nat.le_of_ble_eq_true rfl) (Nat.le_of_ble_eq_true rfl) rfl ?_
      exfalso
      omega

  | succ n ih =>
    intro h hh hf h1
    have P := G.pap p hp
    have gl := P.lit
    have l2 := P.las b hb.1 hb.2
    have wr := ih_w_rg (lit := t 112 (18 + p)) hd.1 (by omega)
    have wr1 := ih_w_rg (lit := t 112 (18 + p)) (h := h) (by omega) (by omega)
    refine ih_seg (i1 := 16) 1 rfl ?_
    refine ih_ifc_le rfl (by omega) (fun w1 => ?_) (fun w1 => ?_)
    · refine ih_seg (i1 := 34) 1 rfl ?_
      refine ih_ret rfl rfl ?_
      exact ih_Qe (ih_unf_is hh.1 h1 (by omega)).symm K
    · refine ih_seg (i1 := 23) 6 rfl ?_
      try dsimp only
      refine ih_iv3 147 rfl rfl (by first | rfl | exact ih_kP (ih_P_w0 hc) |  exact ih_kP (by assumption) | exact ih_kC (by assumption) | exact ih_kN (by assumption) | exact ih_kS (by assumption) | exact ih_kW (by assumption)) (Nat.le_of_ble_eq_true rfl) (Nat.le_of_ble_eq_true rfl) rfl ?_
      have wr2 := ih_w_rg (lit := t 112 (18 + p)) (h := h - 1) (by omega) (by omega)
      refine r_ageOf hp gl (by omega) (by omega) ?_
      refine ih_seg (i1 := 25) 1 rfl ?_
      refine ih_getR rfl rfl ?_
      refine ih_seg (i1 := 29) 3 rfl ?_
      try dsimp only
      refine ih_iald rfl (by first | rfl | exact ih_lP1 (ih_P_w0 hc) | exact ih_lP2 (ih_P_w0 hc) | exact ih_lP3 (ih_P_w0 hc) | exact ih_lP4 (ih_P_w0 hc) |  exact ih_lP1 (by assumption) | exact ih_lP2 (by assumption) | exact ih_lP3 (by assumption) | exact ih_lP4 (by assumption) | exact ih_lC1 (by assumption) | exact ih_lS1 (by assumption) | exact ih_lW1 (by assumption) | exact ih_lW2 (by assumption) | exact ih_lW4 (by assumption) | exact ih_lW5 (by assumption)) (by omega) (by omega) (k := ?_)
      refine ih_icmp_ge rfl (by omega) (by omega) (fun w2 => ?_) (fun w2 => ?_)
      · refine ih_seg (i1 := 34) 1 rfl ?_
        refine ih_ret rfl rfl ?_
        exact ih_Qe (ih_unf_is hh.1 h1 (by omega)).symm K
      · refine ih_seg (i1 := 15) 2 rfl ?_
        try simp only [xa_set, List.set_cons_zero, List.set_cons_succ, List.getElem?_cons_zero, List.getElem?_cons_succ]
        exact ih (h - 1) (by omega) (by omega) (by omega)


theorem r_op_earliest {X : List Int} {t : ih_S} {Q : Option xa_V → ih_S → Prop} {a b d : Int} (ha : xa_rI a) (hb : xa_rI b) (hd : xa_rI d) (G : ih_Gd (t 112)) (K : ih_roR t (f_earliest (t 112) a b d) Q) : ih_Wp X 176 0 [xR 111, xI a, xI b, xI d, xC 1] [] t Q := by
  refine ih_seg (i1 := 1) 1 rfl ?_
  refine ih_is1 128 rfl rfl (Nat.le_of_ble_eq_true rfl) (Nat.le_of_ble_eq_true rfl) rfl ?_
  refine r_isPaper (by omega) (fun w1 => ?_) (fun w2 => ?_)
  · refine ih_seg (i1 := 4) 2 rfl ?_
    refine ih_is1 129 rfl rfl (Nat.le_of_ble_eq_true rfl) (Nat.le_of_ble_eq_true rfl) rfl ?_
    refine r_isInk (by omega) (fun w3 => ?_) (fun w4 => ?_)
    · refine ih_seg (i1 := 7) 2 rfl ?_
      refine ih_is1 130 rfl rfl (Nat.le_of_ble_eq_true rfl) (Nat.le_of_ble_eq_true rfl) rfl ?_
      refine r_isHour (by omega) (fun w5 => ?_) (fun w6 => ?_)
      · refine ih_seg (i1 := 15) 3 rfl ?_
        try simp only [xa_set, List.set_cons_zero, List.set_cons_succ, List.getElem?_cons_zero, List.getElem?_cons_succ]
        obtain ⟨p, rfl⟩ := Int.eq_ofNat_of_zero_le (show 0 ≤ a by omega)
        have hp : p < 4 := by omega
        have l2 := (G.pap p hp).las b (by omega) (by omega)
        refine r_earliest_l hp (by omega) (by omega) G ?_ d.toNat d (by omega) (by omega) (by omega)
        exact ih_roR_ok K (by rw [f_earliest, if_pos (by omega), Int.toNat_natCast]) (ih_rr_r _)
      · refine ih_seg (i1 := 11) 3 rfl ?_
        refine ih_iv1 127 rfl rfl (by first | rfl | exact ih_kP (ih_P_w0 hc) |  exact ih_kP (by assumption) | exact ih_kC (by assumption) | exact ih_kN (by assumption) | exact ih_kS (by assumption) | exact ih_kW (by assumption)) (Nat.le_of_ble_eq_true rfl) (Nat.le_of_ble_eq_true rfl) rfl ?_
        refine r_finds 0 rfl (by omega) ?_
        refine ih_ret rfl rfl ?_
        exact ih_roR_no 0 K (by rw [f_earliest, if_neg (by omega)]) rfl (ih_rr_r _)
    · refine ih_seg (i1 := 11) 3 rfl ?_
      refine ih_iv1 127 rfl rfl (by first | rfl | exact ih_kP (ih_P_w0 hc) |  exact ih_kP (by assumption) | exact ih_kC (by assumption) | exact ih_kN (by assumption) | exact ih_kS (by assumption) | exact ih_kW (by assumption)) (Nat.le_of_ble_eq_true rfl) (Nat.le_of_ble_eq_true rfl) rfl ?_
      refine r_finds 0 rfl (by omega) ?_
      refine ih_ret rfl rfl ?_
      exact ih_roR_no 0 K (by rw [f_earliest, if_neg (by omega)]) rfl (ih_rr_r _)
  · refine ih_seg (i1 := 11) 3 rfl ?_
    refine ih_iv1 127 rfl rfl (by first | rfl | exact ih_kP (ih_P_w0 hc) |  exact ih_kP (by assumption) | exact ih_kC (by assumption) | exact ih_kN (by assumption) | exact ih_kS (by assumption) | exact ih_kW (by assumption)) (Nat.le_of_ble_eq_true rfl) (Nat.le_of_ble_eq_true rfl) rfl ?_
    refine r_finds 0 rfl (by omega) ?_
    refine ih_ret rfl rfl ?_
    exact ih_roR_no 0 K (by rw [f_earliest, if_neg (by omega)]) rfl (ih_rr_r _)


theorem r_latest_l {X : List Int} {t : ih_S} {Q : Option xa_V → ih_S → Prop} {p : Nat} {b d : Int} (hp : p < 4) (hb : 0 ≤ b ∧ b < 8) (hd : 0 ≤ d ∧ d < 10000) (G : ih_Gd (t 112)) (K : ih_roR t (if ih_unf (t 112) p b d = 0 then ih_no 3 else ih_ok1 (ih_unf (t 112) p b d - 1)) Q) : ∀ (n : Nat) (h : Int) (hh : -1 ≤ h ∧ h ≤ d) (hf : h + 1 ≤ n) (h1 : ih_w (t 112 (18 + p)) d - t 112 (2 + b) + 1 ≤ ih_w (t 112 (18 + p)) (h + 1)), ih_Wp X 177 15 [xR 111, xI p, xI b, xI d, xI h] [] t Q := by
  intro n
  induction n with
  | zero =>
    intro h hh hf h1
    have P := G.pap p hp
    have gl := P.lit
    have l2 := P.las b hb.1 hb.2
    have wr := ih_w_rg (lit := t 112 (18 + p)) hd.1 (by omega)
    refine ih_seg (i1 := 16) 1 rfl ?_
    refine ih_ifc_lt rfl (by omega) (fun w1 => ?_) (fun w1 => ?_)
    · refine ih_seg (i1 := 32) 1 rfl ?_
      refine ih_ifc_ge rfl (by omega) (fun w2 => ?_) (fun w2 => ?_)
      · refine ih_seg (i1 := 38) 1 rfl ?_
        refine ih_ret rfl rfl ?_
        first
          | exact ih_roR_no 3 K (by rw [if_pos (ih_unf_is (by omega) (show _ ≤ ih_w (t 112 (18 + p)) 0 by rw [show (0 : Int) = h + 1 by omega]; exact h1) (by omega))]) rfl (ih_rr_r _)
          | (have eu := ih_unf_is (s := t 112) (p := p) (b := b) (d := d) (h := h + 1) (by omega) h1 (Or.inr (by rw [show h + 1 - 1 = h by omega]; omega))
             exact ih_roR_ok K (by rw [eu, if_neg (by omega)]; exact congrArg Sum.inl (by omega)) (ih_rr_r _))
          | (exfalso
             omega)
      · refine ih_seg (i1 := 35) 2 rfl ?_
        refine ih_iv1 127 rfl rfl (by first | rfl | exact ih_kP (ih_P_w0 hc) |  exact ih_kP (by assumption) | exact ih_kC (by assumption) | exact ih_kN (by assumption) | exact ih_kS (by assumption) | exact ih_kW (by assumption)) (Nat.le_of_ble_eq_true rfl) (Nat.le_of_ble_eq_true rfl) rfl ?_
        refine r_finds 3 rfl (by omega) ?_
        refine ih_seg (i1 := 38) 1 rfl ?_
        refine ih_ret rfl rfl ?_
        first
          | exact ih_roR_no 3 K (by rw [if_pos (ih_unf_is (by omega) (show _ ≤ ih_w (t 112 (18 + p)) 0 by rw [show (0 : Int) = h + 1 by omega]; exact h1) (by omega))]) rfl (ih_rr_r _)
          | (have eu := ih_unf_is (s := t 112) (p := p) (b := b) (d := d) (h := h + 1) (by omega) h1 (Or.inr (by rw [show h + 1 - 1 = h by omega]; omega))
             exact ih_roR_ok K (by rw [eu, if_neg (by omega)]; exact congrArg Sum.inl (by omega)) (ih_rr_r _))
          | (exfalso
             omega)
    · refine ih_seg (i1 := 21) 4 rfl ?_
      refine ih_iv3 147 rfl rfl (by first | rfl | exact ih_kP (ih_P_w0 hc) |  exact ih_kP (by assumption) | exact ih_kC (by assumption) | exact ih_kN (by assumption) | exact ih_kS (by assumption) | exact ih_kW (by assumption)) (Nat.le_of_ble_eq_true rfl) (Nat.le_of_ble_eq_true rfl) rfl ?_
      exfalso
      omega

  | succ n ih =>
    intro h hh hf h1
    have P := G.pap p hp
    have gl := P.lit
    have l2 := P.las b hb.1 hb.2
    have wr := ih_w_rg (lit := t 112 (18 + p)) hd.1 (by omega)
    refine ih_seg (i1 := 16) 1 rfl ?_
    refine ih_ifc_lt rfl (by omega) (fun w1 => ?_) (fun w1 => ?_)
    · refine ih_seg (i1 := 32) 1 rfl ?_
      refine ih_ifc_ge rfl (by omega) (fun w2 => ?_) (fun w2 => ?_)
      · refine ih_seg (i1 := 38) 1 rfl ?_
        refine ih_ret rfl rfl ?_
        first
          | exact ih_roR_no 3 K (by rw [if_pos (ih_unf_is (by omega) (show _ ≤ ih_w (t 112 (18 + p)) 0 by rw [show (0 : Int) = h + 1 by omega]; exact h1) (by omega))]) rfl (ih_rr_r _)
          | (have eu := ih_unf_is (s := t 112) (p := p) (b := b) (d := d) (h := h + 1) (by omega) h1 (Or.inr (by rw [show h + 1 - 1 = h by omega]; omega))
             exact ih_roR_ok K (by rw [eu, if_neg (by omega)]; exact congrArg Sum.inl (by omega)) (ih_rr_r _))
          | (exfalso
             omega)
      · refine ih_seg (i1 := 35) 2 rfl ?_
        refine ih_iv1 127 rfl rfl (by first | rfl | exact ih_kP (ih_P_w0 hc) |  exact ih_kP (by assumption) | exact ih_kC (by assumption) | exact ih_kN (by assumption) | exact ih_kS (by assumption) | exact ih_kW (by assumption)) (Nat.le_of_ble_eq_true rfl) (Nat.le_of_ble_eq_true rfl) rfl ?_
        refine r_finds 3 rfl (by omega) ?_
        refine ih_seg (i1 := 38) 1 rfl ?_
        refine ih_ret rfl rfl ?_
        first
          | exact ih_roR_no 3 K (by rw [if_pos (ih_unf_is (by omega) (show _ ≤ ih_w (t 112 (18 + p)) 0 by rw [show (0 : Int) = h + 1 by omega]; exact h1) (by omega))]) rfl (ih_rr_r _)
          | (have eu := ih_unf_is (s := t 112) (p := p) (b := b) (d := d) (h := h + 1) (by omega) h1 (Or.inr (by rw [show h + 1 - 1 = h by omega]; omega))
             exact ih_roR_ok K (by rw [eu, if_neg (by omega)]; exact congrArg Sum.inl (by omega)) (ih_rr_r _))
          | (exfalso
             omega)
    · refine ih_seg (i1 := 21) 4 rfl ?_
      refine ih_iv3 147 rfl rfl (by first | rfl | exact ih_kP (ih_P_w0 hc) |  exact ih_kP (by assumption) | exact ih_kC (by assumption) | exact ih_kN (by assumption) | exact ih_kS (by assumption) | exact ih_kW (by assumption)) (Nat.le_of_ble_eq_true rfl) (Nat.le_of_ble_eq_true rfl) rfl ?_
      have wr2 := ih_w_rg (lit := t 112 (18 + p)) (h := h) (by omega) (by omega)
      refine r_ageOf hp gl (by omega) (by omega) ?_
      refine ih_seg (i1 := 23) 1 rfl ?_
      refine ih_getR rfl rfl ?_
      refine ih_seg (i1 := 27) 3 rfl ?_
      try dsimp only
      refine ih_iald rfl (by first | rfl | exact ih_lP1 (ih_P_w0 hc) | exact ih_lP2 (ih_P_w0 hc) | exact ih_lP3 (ih_P_w0 hc) | exact ih_lP4 (ih_P_w0 hc) |  exact ih_lP1 (by assumption) | exact ih_lP2 (by assumption) | exact ih_lP3 (by assumption) | exact ih_lP4 (by assumption) | exact ih_lC1 (by assumption) | exact ih_lS1 (by assumption) | exact ih_lW1 (by assumption) | exact ih_lW2 (by assumption) | exact ih_lW4 (by assumption) | exact ih_lW5 (by assumption)) (by omega) (by omega) (k := ?_)
      refine ih_icmp_ge rfl (by omega) (by omega) (fun w3 => ?_) (fun w3 => ?_)
      · refine ih_seg (i1 := 32) 1 rfl ?_
        refine ih_ifc_ge rfl (by omega) (fun w4 => ?_) (fun w4 => ?_)
        · refine ih_seg (i1 := 38) 1 rfl ?_
          refine ih_ret rfl rfl ?_
          first
            | exact ih_roR_no 3 K (by rw [if_pos (ih_unf_is (by omega) (show _ ≤ ih_w (t 112 (18 + p)) 0 by rw [show (0 : Int) = h + 1 by omega]; exact h1) (by omega))]) rfl (ih_rr_r _)
            | (have eu := ih_unf_is (s := t 112) (p := p) (b := b) (d := d) (h := h + 1) (by omega) h1 (Or.inr (by rw [show h + 1 - 1 = h by omega]; omega))
               exact ih_roR_ok K (by rw [eu, if_neg (by omega)]; exact congrArg Sum.inl (by omega)) (ih_rr_r _))
            | (exfalso
               omega)
        · refine ih_seg (i1 := 35) 2 rfl ?_
          refine ih_iv1 127 rfl rfl (by first | rfl | exact ih_kP (ih_P_w0 hc) |  exact ih_kP (by assumption) | exact ih_kC (by assumption) | exact ih_kN (by assumption) | exact ih_kS (by assumption) | exact ih_kW (by assumption)) (Nat.le_of_ble_eq_true rfl) (Nat.le_of_ble_eq_true rfl) rfl ?_
          refine r_finds 3 rfl (by omega) ?_
          refine ih_seg (i1 := 38) 1 rfl ?_
          refine ih_ret rfl rfl ?_
          first
            | exact ih_roR_no 3 K (by rw [if_pos (ih_unf_is (by omega) (show _ ≤ ih_w (t 112 (18 + p)) 0 by rw [show (0 : Int) = h + 1 by omega]; exact h1) (by omega))]) rfl (ih_rr_r _)
            | (have eu := ih_unf_is (s := t 112) (p := p) (b := b) (d := d) (h := h + 1) (by omega) h1 (Or.inr (by rw [show h + 1 - 1 = h by omega]; omega))
               exact ih_roR_ok K (by rw [eu, if_neg (by omega)]; exact congrArg Sum.inl (by omega)) (ih_rr_r _))
            | (exfalso
               omega)
      · refine ih_seg (i1 := 15) 2 rfl ?_
        try simp only [xa_set, List.set_cons_zero, List.set_cons_succ, List.getElem?_cons_zero, List.getElem?_cons_succ]
        exact ih (h - 1) (by omega) (by omega) (by rw [show h - 1 + 1 = h by omega]; omega)


theorem r_op_latest {X : List Int} {t : ih_S} {Q : Option xa_V → ih_S → Prop} {a b d : Int} (ha : xa_rI a) (hb : xa_rI b) (hd : xa_rI d) (G : ih_Gd (t 112)) (K : ih_roR t (f_latest (t 112) a b d) Q) : ih_Wp X 177 0 [xR 111, xI a, xI b, xI d, xC 1] [] t Q := by
  refine ih_seg (i1 := 1) 1 rfl ?_
  refine ih_is1 128 rfl rfl (Nat.le_of_ble_eq_true rfl) (Nat.le_of_ble_eq_true rfl) rfl ?_
  refine r_isPaper (by omega) (fun w1 => ?_) (fun w2 => ?_)
  · refine ih_seg (i1 := 4) 2 rfl ?_
    refine ih_is1 129 rfl rfl (Nat.le_of_ble_eq_true rfl) (Nat.le_of_ble_eq_true rfl) rfl ?_
    refine r_isInk (by omega) (fun w3 => ?_) (fun w4 => ?_)
    · refine ih_seg (i1 := 7) 2 rfl ?_
      refine ih_is1 130 rfl rfl (Nat.le_of_ble_eq_true rfl) (Nat.le_of_ble_eq_true rfl) rfl ?_
      refine r_isHour (by omega) (fun w5 => ?_) (fun w6 => ?_)
      · refine ih_seg (i1 := 15) 3 rfl ?_
        try simp only [xa_set, List.set_cons_zero, List.set_cons_succ, List.getElem?_cons_zero, List.getElem?_cons_succ]
        obtain ⟨p, rfl⟩ := Int.eq_ofNat_of_zero_le (show 0 ≤ a by omega)
        have hp : p < 4 := by omega
        have l2 := (G.pap p hp).las b (by omega) (by omega)
        rw [f_latest, if_pos (by omega), Int.toNat_natCast] at K
        have wm := ih_w_mono (lit := t 112 (18 + p)) (a := d) (b := d + 1) (by omega) (by omega)
        exact r_latest_l hp (by omega) (by omega) G K (d + 1).toNat d (by omega) (by omega) (by omega)
      · refine ih_seg (i1 := 11) 3 rfl ?_
        refine ih_iv1 127 rfl rfl (by first | rfl | exact ih_kP (ih_P_w0 hc) |  exact ih_kP (by assumption) | exact ih_kC (by assumption) | exact ih_kN (by assumption) | exact ih_kS (by assumption) | exact ih_kW (by assumption)) (Nat.le_of_ble_eq_true rfl) (Nat.le_of_ble_eq_true rfl) rfl ?_
        refine r_finds 0 rfl (by omega) ?_
        refine ih_ret rfl rfl ?_
        exact ih_roR_no 0 K (by rw [f_latest, if_neg (by omega)]) rfl (ih_rr_r _)
    · refine ih_seg (i1 := 11) 3 rfl ?_
      refine ih_iv1 127 rfl rfl (by first | rfl | exact ih_kP (ih_P_w0 hc) |  exact ih_kP (by assumption) | exact ih_kC (by assumption) | exact ih_kN (by assumption) | exact ih_kS (by assumption) | exact ih_kW (by assumption)) (Nat.le_of_ble_eq_true rfl) (Nat.le_of_ble_eq_true rfl) rfl ?_
      refine r_finds 0 rfl (by omega) ?_
      refine ih_ret rfl rfl ?_
      exact ih_roR_no 0 K (by rw [f_latest, if_neg (by omega)]) rfl (ih_rr_r _)
  · refine ih_seg (i1 := 11) 3 rfl ?_
    refine ih_iv1 127 rfl rfl (by first | rfl | exact ih_kP (ih_P_w0 hc) |  exact ih_kP (by assumption) | exact ih_kC (by assumption) | exact ih_kN (by assumption) | exact ih_kS (by assumption) | exact ih_kW (by assumption)) (Nat.le_of_ble_eq_true rfl) (Nat.le_of_ble_eq_true rfl) rfl ?_
    refine r_finds 0 rfl (by omega) ?_
    refine ih_ret rfl rfl ?_
    exact ih_roR_no 0 K (by rw [f_latest, if_neg (by omega)]) rfl (ih_rr_r _)

