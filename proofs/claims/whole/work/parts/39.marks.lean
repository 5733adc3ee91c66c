/-! Calls about a mark -/

theorem r_isMark {X : List Int} {t : ih_S} {Q : Option xa_V → ih_S → Prop} {a b : Int} (ha : xa_rI a) (hb : xa_rI b) (hs : ∀ p : Nat, p < 4 → 0 ≤ t 112 (22 + p) ∧ t 112 (22 + p) ≤ 12) (kt : ∀ p m : Nat, a = p → b = m → p < 4 → (m : Int) < t 112 (22 + p) → Q (some (xI 1)) t) (kf : (∀ p m : Nat, a = p → b = m → p < 4 → ¬ ((m : Int) < t 112 (22 + p))) → Q (some (xI 0)) t) : ih_Wp X 131 0 [xR 111, xI a, xI b] [] t Q := by
  refine ih_seg (i1 := 1) 1 rfl ?_
  refine ih_is1 128 rfl rfl (Nat.le_of_ble_eq_true rfl) (Nat.le_of_ble_eq_true rfl) rfl ?_
  refine r_isPaper (by omega) (fun hq => ?_) (fun hq => ?_)
  rotate_left
  · refine ih_seg (i1 := 20) 2 rfl ?_
    refine ih_ret rfl rfl ?_
    exact kf (fun p m e _ hp => by omega)
  obtain ⟨p, rfl⟩ := Int.eq_ofNat_of_zero_le hq.1
  have hc : p < 4 := by omega
  have gs := hs p hc
  refine ih_seg (i1 := 4) 2 rfl ?_
  refine ih_i2l rfl (by omega) ?_
  refine ih_seg (i1 := 7) 2 rfl ?_
  refine ih_getR rfl rfl ?_
  refine ih_seg (i1 := 11) 3 rfl ?_
  try dsimp only
  refine ih_iald rfl (by first | rfl | exact ih_lP1 (ih_P_w0 hc) | exact ih_lP2 (ih_P_w0 hc) | exact ih_lP3 (ih_P_w0 hc) | exact ih_lP4 (ih_P_w0 hc) |  exact ih_lP1 (by assumption) | exact ih_lP2 (by assumption) | exact ih_lP3 (by assumption) | exact ih_lP4 (by assumption) | exact ih_lC1 (by assumption) | exact ih_lS1 (by assumption) | exact ih_lW1 (by assumption) | exact ih_lW2 (by assumption) | exact ih_lW4 (by assumption) | exact ih_lW5 (by assumption)) (by omega) (by omega) (k := ?_)
  refine ih_seg (i1 := 14) 2 rfl ?_
  try dsimp only
  refine ih_i2l rfl (by omega) ?_
  refine ih_is3 126 rfl rfl (Nat.le_of_ble_eq_true rfl) (Nat.le_of_ble_eq_true rfl) rfl ?_
  refine r_in (by omega) (by omega) (by omega) (fun w1 => ?_) (fun w2 => ?_)
  · refine ih_seg (i1 := 20) 3 rfl ?_
    refine ih_ret rfl rfl ?_
    first
      | (obtain ⟨m, rfl⟩ := Int.eq_ofNat_of_zero_le (show 0 ≤ b by omega)
         exact kt p m rfl rfl hc (by omega))
      | exact kf (fun p1 m e1 e2 h1 h2 => by
          obtain rfl : p = p1 := by omega
          omega)
  · refine ih_seg (i1 := 20) 2 rfl ?_
    refine ih_ret rfl rfl ?_
    first
      | (obtain ⟨m, rfl⟩ := Int.eq_ofNat_of_zero_le (show 0 ≤ b by omega)
         exact kt p m rfl rfl hc (by omega))
      | exact kf (fun p1 m e1 e2 h1 h2 => by
          obtain rfl : p = p1 := by omega
          omega)


def f_age (s : Int → Int) (a b d : Int) : ih_An := if ((0 ≤ a ∧ a < 4) ∧ 0 ≤ b ∧ b < s (22 + a)) ∧ 0 ≤ d ∧ d < 10000 then (if d < s (26 + 48 * a + 4 * b + 3) then ih_no 4 else ih_ok1 (ih_w (s (18 + a)) d - ih_w (s (18 + a)) (s (26 + 48 * a + 4 * b + 3)))) else ih_no 0

theorem c_age {X : List Int} {t : ih_S} {Q : Option xa_V → ih_S → Prop} {s : Int → Int} {a b d : Int} (ha : xa_rI a) (hb : xa_rI b) (hd : xa_rI d) (W : ih_Wr t 1 s) (G : ih_Gd s) (K : ih_roC t (f_age s a b d) Q) : ih_Wp X 68 0 [xR 0, xI a, xI b, xI d, xC 1] [] t Q := by
  refine ih_seg (i1 := 3) 3 rfl ?_
  refine ih_iv2 111 rfl rfl (by first | rfl | exact ih_kP (by assumption) | exact ih_kC (by assumption) | exact ih_kN (by assumption) | exact ih_kS (by assumption) | exact ih_kW (by assumption)) (Nat.le_of_ble_eq_true rfl) (Nat.le_of_ble_eq_true rfl) rfl ?_
  refine c_isMark (by omega) (by omega) (fun p hp => (ih_PG_W W G hp).sz) (fun c m ea eb hc hm => ?_) (fun hn => ?_)
  · refine ih_seg (i1 := 6) 2 rfl ?_
    refine ih_is1 104 rfl rfl (Nat.le_of_ble_eq_true rfl) (Nat.le_of_ble_eq_true rfl) rfl ?_
    subst ea eb
    have P := ih_PG_W W G hc
    have g0 := P.sz
    have ga := P.at_ m hm
    have gl := P.lit
    have hz := ih_W_sz W hc
    have hm2 : (m : Int) < s (22 + c) := by omega
    have e1 := ih_W_at W hc hm2
    have e2 := ih_W_lit W hc
    simp only [← ih_a4] at ga e1
    refine c_isHour (by omega) (fun w1 => ?_) (fun w2 => ?_)
    · refine ih_seg (i1 := 13) 2 rfl ?_
      refine ih_getR rfl rfl ?_
      refine ih_getR rfl (by first | rfl | exact ih_fW2 (by assumption)) ?_
      refine ih_seg (i1 := 16) 1 rfl ?_
      refine ih_aald rfl (ih_eP hc) ?_
      refine ih_seg (i1 := 20) 3 rfl ?_
      try simp only [xa_set, List.set_cons_zero, List.set_cons_succ, List.getElem?_cons_zero, List.getElem?_cons_succ]
      refine ih_getR rfl (by first | rfl | exact ih_fP3 (ih_P_w0 hc) | exact ih_fP3 (by assumption)) ?_
      refine ih_seg (i1 := 22) 1 rfl ?_
      refine ih_iald rfl (by first | rfl | exact ih_lP1 (ih_P_w0 hc) | exact ih_lP2 (ih_P_w0 hc) | exact ih_lP3 (ih_P_w0 hc) | exact ih_lP4 (ih_P_w0 hc) |  exact ih_lP1 (by assumption) | exact ih_lP2 (by assumption) | exact ih_lP3 (by assumption) | exact ih_lP4 (by assumption) | exact ih_lC1 (by assumption) | exact ih_lS1 (by assumption) | exact ih_lW1 (by assumption) | exact ih_lW2 (by assumption) | exact ih_lW4 (by assumption) | exact ih_lW5 (by assumption)) (by omega) (by omega) (k := ?_)
      refine ih_icmp_ge rfl (by omega) (by omega) (fun w3 => ?_) (fun w3 => ?_)
      · refine ih_seg (i1 := 29) 1 rfl ?_
        refine ih_getI rfl (by first | rfl | exact ih_fP5 (ih_P_w0 hc) | exact ih_fP5 (by assumption)) ?_
        refine ih_seg (i1 := 31) 1 rfl ?_
        refine ih_is2 123 rfl rfl (Nat.le_of_ble_eq_true rfl) (Nat.le_of_ble_eq_true rfl) rfl ?_
        refine c_wear (by omega) (by omega) ?_
        refine ih_seg (i1 := 33) 1 rfl ?_
        refine ih_getI rfl (by first | rfl | exact ih_fP5 (ih_P_w0 hc) | exact ih_fP5 (by assumption)) ?_
        refine ih_seg (i1 := 35) 1 rfl ?_
        refine ih_getR rfl (by first | rfl | exact ih_fP3 (ih_P_w0 hc) | exact ih_fP3 (by assumption)) ?_
        refine ih_seg (i1 := 37) 1 rfl ?_
        refine ih_iald rfl (by first | rfl | exact ih_lP1 (ih_P_w0 hc) | exact ih_lP2 (ih_P_w0 hc) | exact ih_lP3 (ih_P_w0 hc) | exact ih_lP4 (ih_P_w0 hc) |  exact ih_lP1 (by assumption) | exact ih_lP2 (by assumption) | exact ih_lP3 (by assumption) | exact ih_lP4 (by assumption) | exact ih_lC1 (by assumption) | exact ih_lS1 (by assumption) | exact ih_lW1 (by assumption) | exact ih_lW2 (by assumption) | exact ih_lW4 (by assumption) | exact ih_lW5 (by assumption)) (by omega) (by omega) (k := ?_)
        refine ih_is2 123 rfl rfl (Nat.le_of_ble_eq_true rfl) (Nat.le_of_ble_eq_true rfl) rfl ?_
        refine c_wear (by omega) (by omega) ?_
        refine ih_seg (i1 := 40) 1 rfl ?_
        try dsimp only
        refine ih_ret rfl rfl ?_
        first
          | (refine ih_roC_ok K ?_ (ih_sc_r _)
             rw [f_age, if_pos (by omega), if_neg (by omega), e1, e2])
          | exact ih_roC_no K (by rw [f_age, if_pos (by omega), if_pos (by omega)]) (ih_sc_r _)
          | exact ih_roC_no K (by rw [f_age, if_neg (by omega)]) (ih_sc_r _)
          | (have hn2 : ¬ ((0 ≤ a ∧ a < 4) ∧ 0 ≤ b ∧ b < s (22 + a)) := by
               rintro ⟨q1, q2, q3⟩
               refine hn a.toNat b.toNat (by omega) (by omega) (by omega) ?_
               rw [ih_W_sz W (by omega), show ((a.toNat : Nat) : Int) = a by omega]
               omega
             exact ih_roC_no K (by rw [f_age, if_neg (fun q => hn2 q.1)]) (ih_sc_r _))
      · refine ih_seg (i1 := 26) 2 rfl ?_
        refine ih_iv1 102 rfl rfl (by first | rfl | exact ih_kP (by assumption) | exact ih_kC (by assumption) | exact ih_kN (by assumption) | exact ih_kS (by assumption) | exact ih_kW (by assumption)) (Nat.le_of_ble_eq_true rfl) (Nat.le_of_ble_eq_true rfl) rfl ?_
        refine c_finding (by omega) ?_
        refine ih_ret rfl rfl ?_
        first
          | (refine ih_roC_ok K ?_ (ih_sc_r _)
             rw [f_age, if_pos (by omega), if_neg (by omega), e1, e2])
          | exact ih_roC_no K (by rw [f_age, if_pos (by omega), if_pos (by omega)]) (ih_sc_r _)
          | exact ih_roC_no K (by rw [f_age, if_neg (by omega)]) (ih_sc_r _)
          | (have hn2 : ¬ ((0 ≤ a ∧ a < 4) ∧ 0 ≤ b ∧ b < s (22 + a)) := by
               rintro ⟨q1, q2, q3⟩
               refine hn a.toNat b.toNat (by omega) (by omega) (by omega) ?_
               rw [ih_W_sz W (by omega), show ((a.toNat : Nat) : Int) = a by omega]
               omega
             exact ih_roC_no K (by rw [f_age, if_neg (fun q => hn2 q.1)]) (ih_sc_r _))
    · refine ih_seg (i1 := 10) 3 rfl ?_
      refine ih_iv1 102 rfl rfl (by first | rfl | exact ih_kP (by assumption) | exact ih_kC (by assumption) | exact ih_kN (by assumption) | exact ih_kS (by assumption) | exact ih_kW (by assumption)) (Nat.le_of_ble_eq_true rfl) (Nat.le_of_ble_eq_true rfl) rfl ?_
      refine c_finding (by omega) ?_
      refine ih_ret rfl rfl ?_
      first
        | (refine ih_roC_ok K ?_ (ih_sc_r _)
           rw [f_age, if_pos (by omega), if_neg (by omega), e1, e2])
        | exact ih_roC_no K (by rw [f_age, if_pos (by omega), if_pos (by omega)]) (ih_sc_r _)
        | exact ih_roC_no K (by rw [f_age, if_neg (by omega)]) (ih_sc_r _)
        | (have hn2 : ¬ ((0 ≤ a ∧ a < 4) ∧ 0 ≤ b ∧ b < s (22 + a)) := by
             rintro ⟨q1, q2, q3⟩
             refine hn a.toNat b.toNat (by omega) (by omega) (by omega) ?_
             rw [ih_W_sz W (by omega), show ((a.toNat : Nat) : Int) = a by omega]
             omega
           exact ih_roC_no K (by rw [f_age, if_neg (fun q => hn2 q.1)]) (ih_sc_r _))
  · refine ih_seg (i1 := 10) 3 rfl ?_
    refine ih_iv1 102 rfl rfl (by first | rfl | exact ih_kP (by assumption) | exact ih_kC (by assumption) | exact ih_kN (by assumption) | exact ih_kS (by assumption) | exact ih_kW (by assumption)) (Nat.le_of_ble_eq_true rfl) (Nat.le_of_ble_eq_true rfl) rfl ?_
    refine c_finding (by omega) ?_
    refine ih_ret rfl rfl ?_
    first
      | (refine ih_roC_ok K ?_ (ih_sc_r _)
         rw [f_age, if_pos (by omega), if_neg (by omega), e1, e2])
      | exact ih_roC_no K (by rw [f_age, if_pos (by omega), if_pos (by omega)]) (ih_sc_r _)
      | exact ih_roC_no K (by rw [f_age, if_neg (by omega)]) (ih_sc_r _)
      | (have hn2 : ¬ ((0 ≤ a ∧ a < 4) ∧ 0 ≤ b ∧ b < s (22 + a)) := by
           rintro ⟨q1, q2, q3⟩
           refine hn a.toNat b.toNat (by omega) (by omega) (by omega) ?_
           rw [ih_W_sz W (by omega), show ((a.toNat : Nat) : Int) = a by omega]
           omega
         exact ih_roC_no K (by rw [f_age, if_neg (fun q => hn2 q.1)]) (ih_sc_r _))


theorem r_age {X : List Int} {t : ih_S} {Q : Option xa_V → ih_S → Prop} {a b d : Int} (ha : xa_rI a) (hb : xa_rI b) (hd : xa_rI d) (G : ih_Gd (t 112)) (K : ih_roR t (f_age (t 112) a b d) Q) : ih_Wp X 151 0 [xR 111, xI a, xI b, xI d, xC 1] [] t Q := by
  refine ih_seg (i1 := 3) 3 rfl ?_
  refine ih_iv2 131 rfl rfl (by first | rfl | exact ih_kP (by assumption) | exact ih_kC (by assumption) | exact ih_kN (by assumption) | exact ih_kS (by assumption) | exact ih_kW (by assumption)) (Nat.le_of_ble_eq_true rfl) (Nat.le_of_ble_eq_true rfl) rfl ?_
  refine r_isMark (by omega) (by omega) (fun p hp => (G.pap p hp).sz) (fun p m ea eb hp hm => ?_) (fun hn => ?_)
  · refine ih_seg (i1 := 6) 2 rfl ?_
    refine ih_is1 130 rfl rfl (Nat.le_of_ble_eq_true rfl) (Nat.le_of_ble_eq_true rfl) rfl ?_
    subst ea eb
    have P := G.pap p hp
    have g0 := P.sz
    have ga := P.at_ m hm
    have gl := P.lit
    refine r_isHour (by omega) (fun w1 => ?_) (fun w2 => ?_)
    · refine ih_seg (i1 := 13) 2 rfl ?_
      refine ih_getR rfl rfl ?_
      refine ih_seg (i1 := 16) 2 rfl ?_
      refine ih_is2 132 rfl rfl (Nat.le_of_ble_eq_true rfl) (Nat.le_of_ble_eq_true rfl) rfl ?_
      refine r_at ?_
      refine ih_seg (i1 := 19) 2 rfl ?_
      try dsimp only
      refine ih_iald rfl (by first | rfl | exact ih_lP1 (ih_P_w0 hc) | exact ih_lP2 (ih_P_w0 hc) | exact ih_lP3 (ih_P_w0 hc) | exact ih_lP4 (ih_P_w0 hc) |  exact ih_lP1 (by assumption) | exact ih_lP2 (by assumption) | exact ih_lP3 (by assumption) | exact ih_lP4 (by assumption) | exact ih_lC1 (by assumption) | exact ih_lS1 (by assumption) | exact ih_lW1 (by assumption) | exact ih_lW2 (by assumption) | exact ih_lW4 (by assumption) | exact ih_lW5 (by assumption)) (by omega) (by omega) (k := ?_)
      refine ih_seg (i1 := 23) 3 rfl ?_
      try simp only [xa_set, List.set_cons_zero, List.set_cons_succ, List.getElem?_cons_zero, List.getElem?_cons_succ]
      refine ih_icmp_ge rfl (by omega) (by omega) (fun w3 => ?_) (fun w3 => ?_)
      · refine ih_seg (i1 := 32) 4 rfl ?_
        refine ih_iv3 147 rfl rfl (by first | rfl | exact ih_kP (by assumption) | exact ih_kC (by assumption) | exact ih_kN (by assumption) | exact ih_kS (by assumption) | exact ih_kW (by assumption)) (Nat.le_of_ble_eq_true rfl) (Nat.le_of_ble_eq_true rfl) rfl ?_
        refine r_ageOf hp gl (by omega) (by omega) ?_
        refine ih_ret rfl rfl ?_
        first
          | (refine ih_roR_ok K ?_ (ih_rr_r _)
             rw [f_age, if_pos (by omega), if_neg (by omega)])
          | exact ih_roR_no 4 K (by rw [f_age, if_pos (by omega), if_pos (by omega)]) rfl (ih_rr_r _)
          | exact ih_roR_no 0 K (by rw [f_age, if_neg (by omega)]) rfl (ih_rr_r _)
          | (have hn2 : ¬ ((0 ≤ a ∧ a < 4) ∧ 0 ≤ b ∧ b < t 112 (22 + a)) := by
               rintro ⟨q1, q2, q3⟩
               refine hn a.toNat b.toNat (by omega) (by omega) (by omega) ?_
               rw [show ((a.toNat : Nat) : Int) = a by omega]
               omega
             exact ih_roR_no 0 K (by rw [f_age, if_neg (fun q => hn2 q.1)]) rfl (ih_rr_r _))
      · refine ih_seg (i1 := 26) 2 rfl ?_
        refine ih_iv1 127 rfl rfl (by first | rfl | exact ih_kP (by assumption) | exact ih_kC (by assumption) | exact ih_kN (by assumption) | exact ih_kS (by assumption) | exact ih_kW (by assumption)) (Nat.le_of_ble_eq_true rfl) (Nat.le_of_ble_eq_true rfl) rfl ?_
        refine r_finds 4 rfl (by omega) ?_
        refine ih_seg (i1 := 33) 1 rfl ?_
        refine ih_ret rfl rfl ?_
        first
          | (refine ih_roR_ok K ?_ (ih_rr_r _)
             rw [f_age, if_pos (by omega), if_neg (by omega)])
          | exact ih_roR_no 4 K (by rw [f_age, if_pos (by omega), if_pos (by omega)]) rfl (ih_rr_r _)
          | exact ih_roR_no 0 K (by rw [f_age, if_neg (by omega)]) rfl (ih_rr_r _)
          | (have hn2 : ¬ ((0 ≤ a ∧ a < 4) ∧ 0 ≤ b ∧ b < t 112 (22 + a)) := by
               rintro ⟨q1, q2, q3⟩
               refine hn a.toNat b.toNat (by omega) (by omega) (by omega) ?_
               rw [show ((a.toNat : Nat) : Int) = a by omega]
               omega
             exact ih_roR_no 0 K (by rw [f_age, if_neg (fun q => hn2 q.1)]) rfl (ih_rr_r _))
    · refine ih_seg (i1 := 10) 3 rfl ?_
      refine ih_iv1 127 rfl rfl (by first | rfl | exact ih_kP (by assumption) | exact ih_kC (by assumption) | exact ih_kN (by assumption) | exact ih_kS (by assumption) | exact ih_kW (by assumption)) (Nat.le_of_ble_eq_true rfl) (Nat.le_of_ble_eq_true rfl) rfl ?_
      refine r_finds 0 rfl (by omega) ?_
      refine ih_ret rfl rfl ?_
      first
        | (refine ih_roR_ok K ?_ (ih_rr_r _)
           rw [f_age, if_pos (by omega), if_neg (by omega)])
        | exact ih_roR_no 4 K (by rw [f_age, if_pos (by omega), if_pos (by omega)]) rfl (ih_rr_r _)
        | exact ih_roR_no 0 K (by rw [f_age, if_neg (by omega)]) rfl (ih_rr_r _)
        | (have hn2 : ¬ ((0 ≤ a ∧ a < 4) ∧ 0 ≤ b ∧ b < t 112 (22 + a)) := by
             rintro ⟨q1, q2, q3⟩
             refine hn a.toNat b.toNat (by omega) (by omega) (by omega) ?_
             rw [show ((a.toNat : Nat) : Int) = a by omega]
             omega
           exact ih_roR_no 0 K (by rw [f_age, if_neg (fun q => hn2 q.1)]) rfl (ih_rr_r _))
  · refine ih_seg (i1 := 10) 3 rfl ?_
    refine ih_iv1 127 rfl rfl (by first | rfl | exact ih_kP (by assumption) | exact ih_kC (by assumption) | exact ih_kN (by assumption) | exact ih_kS (by assumption) | exact ih_kW (by assumption)) (Nat.le_of_ble_eq_true rfl) (Nat.le_of_ble_eq_true rfl) rfl ?_
    refine r_finds 0 rfl (by omega) ?_
    refine ih_ret rfl rfl ?_
    first
      | (refine ih_roR_ok K ?_ (ih_rr_r _)
         rw [f_age, if_pos (by omega), if_neg (by omega)])
      | exact ih_roR_no 4 K (by rw [f_age, if_pos (by omega), if_pos (by omega)]) rfl (ih_rr_r _)
      | exact ih_roR_no 0 K (by rw [f_age, if_neg (by omega)]) rfl (ih_rr_r _)
      | (have hn2 : ¬ ((0 ≤ a ∧ a < 4) ∧ 0 ≤ b ∧ b < t 112 (22 + a)) := by
           rintro ⟨q1, q2, q3⟩
           refine hn a.toNat b.toNat (by omega) (by omega) (by omega) ?_
           rw [show ((a.toNat : Nat) : Int) = a by omega]
           omega
         exact ih_roR_no 0 K (by rw [f_age, if_neg (fun q => hn2 q.1)]) rfl (ih_rr_r _))

