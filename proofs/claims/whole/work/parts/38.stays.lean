/-! stays -/
theorem ih_fst_all {f : Int → Bool} {n : Nat} {a : Int} (h : ∀ e, a ≤ e → e < a + n → f e = false) : ih_fst f a n = a + n := ih_fst_is (by omega) (Int.le_refl _) h (fun q => absurd q (Int.lt_irrefl _))
theorem ih_fst_some {f : Int → Bool} : ∀ {n : Nat} {a : Int}, ih_fst f a n = a + n → ∀ e, a ≤ e → e < a + n → f e = false
  | 0, a, h, e, h0, h1 => by omega
  | n + 1, a, h, e, h0, h1 => by
    cases q : f a with
    | true => rw [ih_fst_y q] at h; omega
    | false =>
      rw [ih_fst_n q] at h
      by_cases k : e = a
      · subst k; exact q
      · exact ih_fst_some (n := n) (a := a + 1) (by omega) e (by omega) (by omega)
def ih_kp (M : Int → Int) (a b : Int) : Int := if ih_fst (fun e => decide (M e ≠ M a)) a (b + 1 - a).toNat = b + 1 then 1 else 0
theorem ih_kp_y {M : Int → Int} {a b : Int} (h : a ≤ b) (q : ∀ e, a ≤ e → e ≤ b → M e = M a) : ih_kp M a b = 1 := by
  unfold ih_kp
  rw [ih_fst_all (fun e h0 h1 => by rw [decide_eq_false_iff_not]; exact fun k => k (q e h0 (by omega))), if_pos (by omega)]
theorem ih_kp_n {M : Int → Int} {a b : Int} (h : a ≤ b) (q : ¬ ∀ e, a ≤ e → e ≤ b → M e = M a) : ih_kp M a b = 0 := by
  unfold ih_kp
  rw [if_neg]
  intro k
  refine q (fun e h0 h1 => ?_)
  have := ih_fst_some (n := (b + 1 - a).toNat) (a := a) (by rw [k]; omega) e h0 (by omega)
  rw [decide_eq_false_iff_not] at this
  exact Classical.not_not.mp this
def f_stays (s : Int → Int) (a b : Int) : ih_An := if (0 ≤ a ∧ a < 4) ∧ 0 ≤ b ∧ b < 10000 then (if b < s 0 then ih_no 4 else ih_ok1 (ih_kp (ih_rM s a.toNat) (s 0) b)) else ih_no 0

theorem c_stays {X : List Int} {t : ih_S} {Q : Option xa_V → ih_S → Prop} {s : Int → Int} {a b : Int} (ha : xa_rI a) (hb : xa_rI b) (W : ih_Wr t 1 s) (G : ih_Gd s) (K : ih_roC t (f_stays s a b) Q) : ih_Wp X 77 0 [xR 0, xI a, xI b] [] t Q := by
  have nw := W.now
  have gn := G.now
  refine ih_seg (i1 := 1) 1 rfl ?_
  refine ih_is1 106 rfl rfl (Nat.le_of_ble_eq_true rfl) (Nat.le_of_ble_eq_true rfl) rfl ?_
  refine c_isPaper (by omega) (fun w1 => ?_) (fun w2 => ?_)
  · refine ih_seg (i1 := 4) 2 rfl ?_
    refine ih_is1 104 rfl rfl (Nat.le_of_ble_eq_true rfl) (Nat.le_of_ble_eq_true rfl) rfl ?_
    refine c_isHour (by omega) (fun w3 => ?_) (fun w4 => ?_)
    · refine ih_seg (i1 := 12) 3 rfl ?_
      refine ih_getR rfl rfl ?_
      refine ih_getI rfl (by first | rfl | exact ih_fW5 (by assumption)) ?_
      refine ih_icmp_ge rfl (by omega) (by omega) (fun w5 => ?_) (fun w5 => ?_)
      · refine ih_seg (i1 := 21) 2 rfl ?_
        refine ih_iv1 116 rfl rfl (by first | rfl | exact ih_kP (by assumption) | exact ih_kC (by assumption) | exact ih_kN (by assumption) | exact ih_kS (by assumption) | exact ih_kW (by assumption)) (Nat.le_of_ble_eq_true rfl) (Nat.le_of_ble_eq_true rfl) rfl ?_
        obtain ⟨c, rfl⟩ := Int.eq_ofNat_of_zero_le (show 0 ≤ a by omega)
        have hc : c < 4 := by omega
        have P := ih_PG_W W G hc
        refine c_reckoned hc P (fun t1 hf he => ?_)
        have E1 := ih_EG_en hc P hf he
        have P1 := P.of hc (fun j hj => hf j (by omega))
        refine ih_seg (i1 := 23) 1 rfl ?_
        refine ih_getR rfl rfl ?_
        refine ih_getI rfl (by first | rfl | exact ih_fW5 (by assumption)) ?_
        refine ih_seg (i1 := 26) 1 rfl ?_
        refine ih_iv2 16 rfl rfl (by first | rfl | exact ih_kP (by assumption) | exact ih_kC (by assumption) | exact ih_kN (by assumption) | exact ih_kS (by assumption) | exact ih_kW (by assumption)) (Nat.le_of_ble_eq_true rfl) (Nat.le_of_ble_eq_true rfl) rfl ?_
        have en : t1 1 = t 1 := hf 1 (by omega)
        have em : ∀ e, s 0 ≤ e → ih_M t1 c e = ih_rM s c e := fun e h => (ih_M_cM hc P hf he (by omega)).trans (ih_cM_rM W G hc)
        rw [en, nw]
        refine c_keeps hc P1 E1 (ih_fr_r _ _) (by omega) (by omega) (fun t2 h2 q => ?_) (fun t2 h2 q => ?_)
        · refine ih_seg (i1 := 31) 3 rfl ?_
          refine ih_ret rfl rfl ?_
          first
            | (refine ih_roC_ok K ?_ (ih_sc_t (ih_sc_e hc hf) (ih_sc_f hc h2))
               rw [f_stays, if_pos (by omega), if_neg (by omega)]
               simp only [Int.toNat_natCast]
               first
                 | rw [ih_kp_y (by omega) (fun e h0 h1 => by rw [← em e h0, ← em (s 0) (by omega)]; exact q e h0 h1)]
                 | rw [ih_kp_n (by omega) (fun k => q (fun e h0 h1 => by rw [em e h0, em (s 0) (by omega)]; exact k e h0 h1))])
            | exact ih_roC_no K (by rw [f_stays, if_pos (by omega), if_pos (by omega)]) (ih_sc_r _)
            | exact ih_roC_no K (by rw [f_stays, if_neg (by omega)]) (ih_sc_r _)
        · refine ih_seg (i1 := 31) 2 rfl ?_
          refine ih_ret rfl rfl ?_
          first
            | (refine ih_roC_ok K ?_ (ih_sc_t (ih_sc_e hc hf) (ih_sc_f hc h2))
               rw [f_stays, if_pos (by omega), if_neg (by omega)]
               simp only [Int.toNat_natCast]
               first
                 | rw [ih_kp_y (by omega) (fun e h0 h1 => by rw [← em e h0, ← em (s 0) (by omega)]; exact q e h0 h1)]
                 | rw [ih_kp_n (by omega) (fun k => q (fun e h0 h1 => by rw [em e h0, em (s 0) (by omega)]; exact k e h0 h1))])
            | exact ih_roC_no K (by rw [f_stays, if_pos (by omega), if_pos (by omega)]) (ih_sc_r _)
            | exact ih_roC_no K (by rw [f_stays, if_neg (by omega)]) (ih_sc_r _)
      · refine ih_seg (i1 := 17) 2 rfl ?_
        refine ih_iv1 102 rfl rfl (by first | rfl | exact ih_kP (by assumption) | exact ih_kC (by assumption) | exact ih_kN (by assumption) | exact ih_kS (by assumption) | exact ih_kW (by assumption)) (Nat.le_of_ble_eq_true rfl) (Nat.le_of_ble_eq_true rfl) rfl ?_
        refine c_finding (by omega) ?_
        refine ih_ret rfl rfl ?_
        first
          | (refine ih_roC_ok K ?_ (ih_sc_t (ih_sc_e hc hf) (ih_sc_f hc h2))
             rw [f_stays, if_pos (by omega), if_neg (by omega)]
             simp only [Int.toNat_natCast]
             first
               | rw [ih_kp_y (by omega) (fun e h0 h1 => by rw [← em e h0, ← em (s 0) (by omega)]; exact q e h0 h1)]
               | rw [ih_kp_n (by omega) (fun k => q (fun e h0 h1 => by rw [em e h0, em (s 0) (by omega)]; exact k e h0 h1))])
          | exact ih_roC_no K (by rw [f_stays, if_pos (by omega), if_pos (by omega)]) (ih_sc_r _)
          | exact ih_roC_no K (by rw [f_stays, if_neg (by omega)]) (ih_sc_r _)
    · refine ih_seg (i1 := 8) 3 rfl ?_
      refine ih_iv1 102 rfl rfl (by first | rfl | exact ih_kP (by assumption) | exact ih_kC (by assumption) | exact ih_kN (by assumption) | exact ih_kS (by assumption) | exact ih_kW (by assumption)) (Nat.le_of_ble_eq_true rfl) (Nat.le_of_ble_eq_true rfl) rfl ?_
      refine c_finding (by omega) ?_
      refine ih_ret rfl rfl ?_
      first
        | (refine ih_roC_ok K ?_ (ih_sc_t (ih_sc_e hc hf) (ih_sc_f hc h2))
           rw [f_stays, if_pos (by omega), if_neg (by omega)]
           simp only [Int.toNat_natCast]
           first
             | rw [ih_kp_y (by omega) (fun e h0 h1 => by rw [← em e h0, ← em (s 0) (by omega)]; exact q e h0 h1)]
             | rw [ih_kp_n (by omega) (fun k => q (fun e h0 h1 => by rw [em e h0, em (s 0) (by omega)]; exact k e h0 h1))])
        | exact ih_roC_no K (by rw [f_stays, if_pos (by omega), if_pos (by omega)]) (ih_sc_r _)
        | exact ih_roC_no K (by rw [f_stays, if_neg (by omega)]) (ih_sc_r _)
  · refine ih_seg (i1 := 8) 3 rfl ?_
    refine ih_iv1 102 rfl rfl (by first | rfl | exact ih_kP (by assumption) | exact ih_kC (by assumption) | exact ih_kN (by assumption) | exact ih_kS (by assumption) | exact ih_kW (by assumption)) (Nat.le_of_ble_eq_true rfl) (Nat.le_of_ble_eq_true rfl) rfl ?_
    refine c_finding (by omega) ?_
    refine ih_ret rfl rfl ?_
    first
      | (refine ih_roC_ok K ?_ (ih_sc_t (ih_sc_e hc hf) (ih_sc_f hc h2))
         rw [f_stays, if_pos (by omega), if_neg (by omega)]
         simp only [Int.toNat_natCast]
         first
           | rw [ih_kp_y (by omega) (fun e h0 h1 => by rw [← em e h0, ← em (s 0) (by omega)]; exact q e h0 h1)]
           | rw [ih_kp_n (by omega) (fun k => q (fun e h0 h1 => by rw [em e h0, em (s 0) (by omega)]; exact k e h0 h1))])
      | exact ih_roC_no K (by rw [f_stays, if_pos (by omega), if_pos (by omega)]) (ih_sc_r _)
      | exact ih_roC_no K (by rw [f_stays, if_neg (by omega)]) (ih_sc_r _)


theorem r_op_stays {X : List Int} {t : ih_S} {Q : Option xa_V → ih_S → Prop} {a b : Int} (ha : xa_rI a) (hb : xa_rI b) (G : ih_Gd (t 112)) (K : ih_roR t (f_stays (t 112) a b) Q) : ih_Wp X 166 0 [xR 111, xI a, xI b] [] t Q := by
  have gn := G.now
  refine ih_seg (i1 := 1) 1 rfl ?_
  refine ih_is1 128 rfl rfl (Nat.le_of_ble_eq_true rfl) (Nat.le_of_ble_eq_true rfl) rfl ?_
  refine r_isPaper (by omega) (fun w1 => ?_) (fun w2 => ?_)
  · refine ih_seg (i1 := 4) 2 rfl ?_
    refine ih_is1 130 rfl rfl (Nat.le_of_ble_eq_true rfl) (Nat.le_of_ble_eq_true rfl) rfl ?_
    refine r_isHour (by omega) (fun w3 => ?_) (fun w4 => ?_)
    · refine ih_seg (i1 := 12) 3 rfl ?_
      refine ih_getR rfl rfl ?_
      refine ih_seg (i1 := 14) 1 rfl ?_
      refine ih_iald rfl (by first | rfl | exact ih_lP1 (by assumption) | exact ih_lP2 (by assumption) | exact ih_lP3 (by assumption) | exact ih_lP4 (by assumption) | exact ih_lC1 (by assumption) | exact ih_lS1 (by assumption) | exact ih_lW1 (by assumption) | exact ih_lW2 (by assumption) | exact ih_lW4 (by assumption) | exact ih_lW5 (by assumption)) (by omega) (by omega) (k := ?_)
      refine ih_icmp_ge rfl (by omega) (by omega) (fun w5 => ?_) (fun w5 => ?_)
      · refine ih_seg (i1 := 25) 5 rfl ?_
        refine ih_getR rfl rfl ?_
        refine ih_seg (i1 := 27) 1 rfl ?_
        refine ih_iald rfl (by first | rfl | exact ih_lP1 (by assumption) | exact ih_lP2 (by assumption) | exact ih_lP3 (by assumption) | exact ih_lP4 (by assumption) | exact ih_lC1 (by assumption) | exact ih_lS1 (by assumption) | exact ih_lW1 (by assumption) | exact ih_lW2 (by assumption) | exact ih_lW4 (by assumption) | exact ih_lW5 (by assumption)) (by omega) (by omega) (k := ?_)
        refine ih_iv2 157 rfl rfl (by first | rfl | exact ih_kP (by assumption) | exact ih_kC (by assumption) | exact ih_kN (by assumption) | exact ih_kS (by assumption) | exact ih_kW (by assumption)) (Nat.le_of_ble_eq_true rfl) (Nat.le_of_ble_eq_true rfl) rfl ?_
        obtain ⟨p, rfl⟩ := Int.eq_ofNat_of_zero_le (show 0 ≤ a by omega)
        have hp : p < 4 := by omega
        refine r_meansAt hp (G.pap p hp) (ih_rf_r _) (by omega) (fun t1 h1 => ?_)
        refine ih_seg (i1 := 30) 1 rfl ?_
        refine ih_iv3 165 rfl rfl (by first | rfl | exact ih_kP (by assumption) | exact ih_kC (by assumption) | exact ih_kN (by assumption) | exact ih_kS (by assumption) | exact ih_kW (by assumption)) (Nat.le_of_ble_eq_true rfl) (Nat.le_of_ble_eq_true rfl) rfl ?_
        refine r_stay hp (G.pap p hp) h1 (ih_rM_rg _ _ _) (by omega) gn (fun t2 h2 q => ?_) (fun t2 h2 q => ?_)
        · refine ih_seg (i1 := 35) 3 rfl ?_
          refine ih_ret rfl rfl ?_
          first
            | (refine ih_roR_ok K ?_ (ih_rr_f h2)
               rw [f_stays, if_pos (by omega), if_neg (by omega)]
               simp only [Int.toNat_natCast]
               first
                 | rw [ih_kp_y (by omega) q]
                 | rw [ih_kp_n (by omega) q])
            | exact ih_roR_no 4 K (by rw [f_stays, if_pos (by omega), if_pos (by omega)]) rfl (ih_rr_r _)
            | exact ih_roR_no 0 K (by rw [f_stays, if_neg (by omega)]) rfl (ih_rr_r _)
        · refine ih_seg (i1 := 35) 2 rfl ?_
          refine ih_ret rfl rfl ?_
          first
            | (refine ih_roR_ok K ?_ (ih_rr_f h2)
               rw [f_stays, if_pos (by omega), if_neg (by omega)]
               simp only [Int.toNat_natCast]
               first
                 | rw [ih_kp_y (by omega) q]
                 | rw [ih_kp_n (by omega) q])
            | exact ih_roR_no 4 K (by rw [f_stays, if_pos (by omega), if_pos (by omega)]) rfl (ih_rr_r _)
            | exact ih_roR_no 0 K (by rw [f_stays, if_neg (by omega)]) rfl (ih_rr_r _)
      · refine ih_seg (i1 := 18) 2 rfl ?_
        refine ih_iv1 127 rfl rfl (by first | rfl | exact ih_kP (by assumption) | exact ih_kC (by assumption) | exact ih_kN (by assumption) | exact ih_kS (by assumption) | exact ih_kW (by assumption)) (Nat.le_of_ble_eq_true rfl) (Nat.le_of_ble_eq_true rfl) rfl ?_
        refine r_finds 4 rfl (by omega) ?_
        refine ih_ret rfl rfl ?_
        first
          | (refine ih_roR_ok K ?_ (ih_rr_f h2)
             rw [f_stays, if_pos (by omega), if_neg (by omega)]
             simp only [Int.toNat_natCast]
             first
               | rw [ih_kp_y (by omega) q]
               | rw [ih_kp_n (by omega) q])
          | exact ih_roR_no 4 K (by rw [f_stays, if_pos (by omega), if_pos (by omega)]) rfl (ih_rr_r _)
          | exact ih_roR_no 0 K (by rw [f_stays, if_neg (by omega)]) rfl (ih_rr_r _)
    · refine ih_seg (i1 := 8) 3 rfl ?_
      refine ih_iv1 127 rfl rfl (by first | rfl | exact ih_kP (by assumption) | exact ih_kC (by assumption) | exact ih_kN (by assumption) | exact ih_kS (by assumption) | exact ih_kW (by assumption)) (Nat.le_of_ble_eq_true rfl) (Nat.le_of_ble_eq_true rfl) rfl ?_
      refine r_finds 0 rfl (by omega) ?_
      refine ih_ret rfl rfl ?_
      first
        | (refine ih_roR_ok K ?_ (ih_rr_f h2)
           rw [f_stays, if_pos (by omega), if_neg (by omega)]
           simp only [Int.toNat_natCast]
           first
             | rw [ih_kp_y (by omega) q]
             | rw [ih_kp_n (by omega) q])
        | exact ih_roR_no 4 K (by rw [f_stays, if_pos (by omega), if_pos (by omega)]) rfl (ih_rr_r _)
        | exact ih_roR_no 0 K (by rw [f_stays, if_neg (by omega)]) rfl (ih_rr_r _)
  · refine ih_seg (i1 := 8) 3 rfl ?_
    refine ih_iv1 127 rfl rfl (by first | rfl | exact ih_kP (by assumption) | exact ih_kC (by assumption) | exact ih_kN (by assumption) | exact ih_kS (by assumption) | exact ih_kW (by assumption)) (Nat.le_of_ble_eq_true rfl) (Nat.le_of_ble_eq_true rfl) rfl ?_
    refine r_finds 0 rfl (by omega) ?_
    refine ih_ret rfl rfl ?_
    first
      | (refine ih_roR_ok K ?_ (ih_rr_f h2)
         rw [f_stays, if_pos (by omega), if_neg (by omega)]
         simp only [Int.toNat_natCast]
         first
           | rw [ih_kp_y (by omega) q]
           | rw [ih_kp_n (by omega) q])
      | exact ih_roR_no 4 K (by rw [f_stays, if_pos (by omega), if_pos (by omega)]) rfl (ih_rr_r _)
      | exact ih_roR_no 0 K (by rw [f_stays, if_neg (by omega)]) rfl (ih_rr_r _)

