/-! More calls that only answer -/
theorem ih_W_sc {t t1 : ih_S} {s : Int → Int} (W : ih_Wr t 1 s) (h : ih_sc t t1) : ih_Wr t1 1 s := ih_Wr_of W (fun j h0 h1 => h j (by omega))

theorem c_same {X : List Int} {t : ih_S} {Q : Option xa_V → ih_S → Prop} {s : Int → Int} {a b d : Int} (ha : xa_rI a) (hb : xa_rI b) (hd : xa_rI d) (W : ih_Wr t 1 s) (G : ih_Gd s) (K : ih_roC t (f_same s a b d) Q) : ih_Wp X 76 0 [xR 0, xI a, xI b, xI d] [] t Q := by
  refine ih_seg (i1 := 1) 1 rfl ?_
  refine ih_is1 106 rfl rfl (Nat.le_of_ble_eq_true rfl) (Nat.le_of_ble_eq_true rfl) rfl ?_
  refine c_isPaper (by omega) (fun w1 => ?_) (fun w2 => ?_)
  · refine ih_seg (i1 := 4) 2 rfl ?_
    refine ih_is1 106 rfl rfl (Nat.le_of_ble_eq_true rfl) (Nat.le_of_ble_eq_true rfl) rfl ?_
    refine c_isPaper (by omega) (fun w3 => ?_) (fun w4 => ?_)
    · refine ih_seg (i1 := 7) 2 rfl ?_
      refine ih_is1 104 rfl rfl (Nat.le_of_ble_eq_true rfl) (Nat.le_of_ble_eq_true rfl) rfl ?_
      refine c_isHour (by omega) (fun w5 => ?_) (fun w6 => ?_)
      · refine ih_seg (i1 := 15) 3 rfl ?_
        refine ih_iv1 116 rfl rfl (by first | rfl | exact ih_kP (by assumption) | exact ih_kC (by assumption) | exact ih_kN (by assumption) | exact ih_kS (by assumption) | exact ih_kW (by assumption)) (Nat.le_of_ble_eq_true rfl) (Nat.le_of_ble_eq_true rfl) rfl ?_
        obtain ⟨c, rfl⟩ := Int.eq_ofNat_of_zero_le (show 0 ≤ a by omega)
        have hc : c < 4 := by omega
        have P := ih_PG_W W G hc
        refine c_reckoned hc P (fun t1 hf he => ?_)
        have E1 := ih_EG_en hc P hf he
        have P1 := P.of hc (fun j hj => hf j (by omega))
        refine ih_seg (i1 := 17) 1 rfl ?_
        refine ih_iv1 13 rfl rfl (by first | rfl | exact ih_kP (by assumption) | exact ih_kC (by assumption) | exact ih_kN (by assumption) | exact ih_kS (by assumption) | exact ih_kW (by assumption)) (Nat.le_of_ble_eq_true rfl) (Nat.le_of_ble_eq_true rfl) rfl ?_
        have em : ih_M t1 c d = ih_rM s c d := (ih_M_cM hc P hf he (by omega)).trans (ih_cM_rM W G hc)
        have mr := ih_rM_rg s c d
        refine c_mean hc P1 E1 (ih_fr_r _ _) (by omega) (fun t2 h2 => ?_)
        rw [em]
        have sc2 := ih_sc_t (ih_sc_e hc hf) (ih_sc_f hc h2)
        have W2 := ih_W_sc W sc2
        refine ih_seg (i1 := 20) 2 rfl ?_
        refine ih_iv1 116 rfl rfl (by first | rfl | exact ih_kP (by assumption) | exact ih_kC (by assumption) | exact ih_kN (by assumption) | exact ih_kS (by assumption) | exact ih_kW (by assumption)) (Nat.le_of_ble_eq_true rfl) (Nat.le_of_ble_eq_true rfl) rfl ?_
        obtain ⟨c2, rfl⟩ := Int.eq_ofNat_of_zero_le (show 0 ≤ b by omega)
        have hc2 : c2 < 4 := by omega
        have P2 := ih_PG_W W2 G hc2
        refine c_reckoned hc2 P2 (fun t3 hf3 he3 => ?_)
        have E3 := ih_EG_en hc2 P2 hf3 he3
        have P3 := P2.of hc2 (fun j hj => hf3 j (by omega))
        refine ih_seg (i1 := 22) 1 rfl ?_
        refine ih_iv1 13 rfl rfl (by first | rfl | exact ih_kP (by assumption) | exact ih_kC (by assumption) | exact ih_kN (by assumption) | exact ih_kS (by assumption) | exact ih_kW (by assumption)) (Nat.le_of_ble_eq_true rfl) (Nat.le_of_ble_eq_true rfl) rfl ?_
        have em2 : ih_M t3 c2 d = ih_rM s c2 d := (ih_M_cM hc2 P2 hf3 he3 (by omega)).trans (ih_cM_rM W2 G hc2)
        have mr2 := ih_rM_rg s c2 d
        refine c_mean hc2 P3 E3 (ih_fr_r _ _) (by omega) (fun t4 h4 => ?_)
        rw [em2]
        have sc4 := ih_sc_t sc2 (ih_sc_t (ih_sc_e hc2 hf3) (ih_sc_f hc2 h4))
        refine ih_icmp_ne rfl (by omega) (by omega) (fun w7 => ?_) (fun w7 => ?_)
        · refine ih_seg (i1 := 27) 1 rfl ?_
          refine ih_ret rfl rfl ?_
          first
            | (refine ih_roC_ok K ?_ sc4
               rw [f_same, if_pos (by omega)]
               first
                 | (rw [if_pos (show ih_rM s c d = ih_rM s c2 d by omega)]; done)
                 | (rw [if_neg (show ¬ ih_rM s c d = ih_rM s c2 d by omega)]; done)
                 | (show ih_ok1 (if ih_rM s c d = ih_rM s c2 d then 1 else 0) = _
                    first | rw [if_pos (by omega)] | rw [if_neg (by omega)]))
            | exact ih_roC_no K (by rw [f_same, if_neg (by omega)]) (ih_sc_r _)
        · refine ih_seg (i1 := 27) 2 rfl ?_
          refine ih_ret rfl rfl ?_
          first
            | (refine ih_roC_ok K ?_ sc4
               rw [f_same, if_pos (by omega)]
               first
                 | (rw [if_pos (show ih_rM s c d = ih_rM s c2 d by omega)]; done)
                 | (rw [if_neg (show ¬ ih_rM s c d = ih_rM s c2 d by omega)]; done)
                 | (show ih_ok1 (if ih_rM s c d = ih_rM s c2 d then 1 else 0) = _
                    first | rw [if_pos (by omega)] | rw [if_neg (by omega)]))
            | exact ih_roC_no K (by rw [f_same, if_neg (by omega)]) (ih_sc_r _)
      · refine ih_seg (i1 := 11) 3 rfl ?_
        refine ih_iv1 102 rfl rfl (by first | rfl | exact ih_kP (by assumption) | exact ih_kC (by assumption) | exact ih_kN (by assumption) | exact ih_kS (by assumption) | exact ih_kW (by assumption)) (Nat.le_of_ble_eq_true rfl) (Nat.le_of_ble_eq_true rfl) rfl ?_
        refine c_finding (by omega) ?_
        refine ih_ret rfl rfl ?_
        first
          | (refine ih_roC_ok K ?_ sc4
             rw [f_same, if_pos (by omega)]
             first
               | (rw [if_pos (show ih_rM s c d = ih_rM s c2 d by omega)]; done)
               | (rw [if_neg (show ¬ ih_rM s c d = ih_rM s c2 d by omega)]; done)
               | (show ih_ok1 (if ih_rM s c d = ih_rM s c2 d then 1 else 0) = _
                  first | rw [if_pos (by omega)] | rw [if_neg (by omega)]))
          | exact ih_roC_no K (by rw [f_same, if_neg (by omega)]) (ih_sc_r _)
    · refine ih_seg (i1 := 11) 3 rfl ?_
      refine ih_iv1 102 rfl rfl (by first | rfl | exact ih_kP (by assumption) | exact ih_kC (by assumption) | exact ih_kN (by assumption) | exact ih_kS (by assumption) | exact ih_kW (by assumption)) (Nat.le_of_ble_eq_true rfl) (Nat.le_of_ble_eq_true rfl) rfl ?_
      refine c_finding (by omega) ?_
      refine ih_ret rfl rfl ?_
      first
        | (refine ih_roC_ok K ?_ sc4
           rw [f_same, if_pos (by omega)]
           first
             | (rw [if_pos (show ih_rM s c d = ih_rM s c2 d by omega)]; done)
             | (rw [if_neg (show ¬ ih_rM s c d = ih_rM s c2 d by omega)]; done)
             | (show ih_ok1 (if ih_rM s c d = ih_rM s c2 d then 1 else 0) = _
                first | rw [if_pos (by omega)] | rw [if_neg (by omega)]))
        | exact ih_roC_no K (by rw [f_same, if_neg (by omega)]) (ih_sc_r _)
  · refine ih_seg (i1 := 11) 3 rfl ?_
    refine ih_iv1 102 rfl rfl (by first | rfl | exact ih_kP (by assumption) | exact ih_kC (by assumption) | exact ih_kN (by assumption) | exact ih_kS (by assumption) | exact ih_kW (by assumption)) (Nat.le_of_ble_eq_true rfl) (Nat.le_of_ble_eq_true rfl) rfl ?_
    refine c_finding (by omega) ?_
    refine ih_ret rfl rfl ?_
    first
      | (refine ih_roC_ok K ?_ sc4
         rw [f_same, if_pos (by omega)]
         first
           | (rw [if_pos (show ih_rM s c d = ih_rM s c2 d by omega)]; done)
           | (rw [if_neg (show ¬ ih_rM s c d = ih_rM s c2 d by omega)]; done)
           | (show ih_ok1 (if ih_rM s c d = ih_rM s c2 d then 1 else 0) = _
              first | rw [if_pos (by omega)] | rw [if_neg (by omega)]))
      | exact ih_roC_no K (by rw [f_same, if_neg (by omega)]) (ih_sc_r _)


theorem r_same {X : List Int} {t : ih_S} {Q : Option xa_V → ih_S → Prop} {a b d : Int} (ha : xa_rI a) (hb : xa_rI b) (hd : xa_rI d) (G : ih_Gd (t 112)) (K : ih_roR t (f_same (t 112) a b d) Q) : ih_Wp X 164 0 [xR 111, xI a, xI b, xI d] [] t Q := by
  refine ih_seg (i1 := 1) 1 rfl ?_
  refine ih_is1 128 rfl rfl (Nat.le_of_ble_eq_true rfl) (Nat.le_of_ble_eq_true rfl) rfl ?_
  refine r_isPaper (by omega) (fun w1 => ?_) (fun w2 => ?_)
  · refine ih_seg (i1 := 4) 2 rfl ?_
    refine ih_is1 128 rfl rfl (Nat.le_of_ble_eq_true rfl) (Nat.le_of_ble_eq_true rfl) rfl ?_
    refine r_isPaper (by omega) (fun w3 => ?_) (fun w4 => ?_)
    · refine ih_seg (i1 := 7) 2 rfl ?_
      refine ih_is1 130 rfl rfl (Nat.le_of_ble_eq_true rfl) (Nat.le_of_ble_eq_true rfl) rfl ?_
      refine r_isHour (by omega) (fun w5 => ?_) (fun w6 => ?_)
      · refine ih_seg (i1 := 16) 4 rfl ?_
        refine ih_iv2 157 rfl rfl (by first | rfl | exact ih_kP (by assumption) | exact ih_kC (by assumption) | exact ih_kN (by assumption) | exact ih_kS (by assumption) | exact ih_kW (by assumption)) (Nat.le_of_ble_eq_true rfl) (Nat.le_of_ble_eq_true rfl) rfl ?_
        obtain ⟨c, rfl⟩ := Int.eq_ofNat_of_zero_le (show 0 ≤ a by omega)
        have hc : c < 4 := by omega
        have mr := ih_rM_rg (t 112) c d
        refine r_meansAt hc (G.pap c hc) (ih_rf_r _) (by omega) (fun t1 h1 => ?_)
        refine ih_seg (i1 := 20) 3 rfl ?_
        refine ih_iv2 157 rfl rfl (by first | rfl | exact ih_kP (by assumption) | exact ih_kC (by assumption) | exact ih_kN (by assumption) | exact ih_kS (by assumption) | exact ih_kW (by assumption)) (Nat.le_of_ble_eq_true rfl) (Nat.le_of_ble_eq_true rfl) rfl ?_
        obtain ⟨c2, rfl⟩ := Int.eq_ofNat_of_zero_le (show 0 ≤ b by omega)
        have hc2 : c2 < 4 := by omega
        have mr2 := ih_rM_rg (t 112) c2 d
        refine r_meansAt hc2 (G.pap c2 hc2) h1 (by omega) (fun t2 h2 => ?_)
        refine ih_icmp_ne rfl (by omega) (by omega) (fun w7 => ?_) (fun w7 => ?_)
        · refine ih_seg (i1 := 25) 1 rfl ?_
          refine ih_ret rfl rfl ?_
          first
            | (refine ih_roR_ok K ?_ (ih_rr_f h2)
               rw [f_same, if_pos (by omega)]
               show ih_ok1 (if ih_rM (t 112) c d = ih_rM (t 112) c2 d then 1 else 0) = _
               first | rw [if_pos (by omega)] | rw [if_neg (by omega)])
            | exact ih_roR_no 0 K (by rw [f_same, if_neg (by omega)]) rfl (ih_rr_r _)
        · refine ih_seg (i1 := 25) 2 rfl ?_
          refine ih_ret rfl rfl ?_
          first
            | (refine ih_roR_ok K ?_ (ih_rr_f h2)
               rw [f_same, if_pos (by omega)]
               show ih_ok1 (if ih_rM (t 112) c d = ih_rM (t 112) c2 d then 1 else 0) = _
               first | rw [if_pos (by omega)] | rw [if_neg (by omega)])
            | exact ih_roR_no 0 K (by rw [f_same, if_neg (by omega)]) rfl (ih_rr_r _)
      · refine ih_seg (i1 := 11) 3 rfl ?_
        refine ih_iv1 127 rfl rfl (by first | rfl | exact ih_kP (by assumption) | exact ih_kC (by assumption) | exact ih_kN (by assumption) | exact ih_kS (by assumption) | exact ih_kW (by assumption)) (Nat.le_of_ble_eq_true rfl) (Nat.le_of_ble_eq_true rfl) rfl ?_
        refine r_finds 0 rfl (by omega) ?_
        refine ih_ret rfl rfl ?_
        first
          | (refine ih_roR_ok K ?_ (ih_rr_f h2)
             rw [f_same, if_pos (by omega)]
             show ih_ok1 (if ih_rM (t 112) c d = ih_rM (t 112) c2 d then 1 else 0) = _
             first | rw [if_pos (by omega)] | rw [if_neg (by omega)])
          | exact ih_roR_no 0 K (by rw [f_same, if_neg (by omega)]) rfl (ih_rr_r _)
    · refine ih_seg (i1 := 11) 3 rfl ?_
      refine ih_iv1 127 rfl rfl (by first | rfl | exact ih_kP (by assumption) | exact ih_kC (by assumption) | exact ih_kN (by assumption) | exact ih_kS (by assumption) | exact ih_kW (by assumption)) (Nat.le_of_ble_eq_true rfl) (Nat.le_of_ble_eq_true rfl) rfl ?_
      refine r_finds 0 rfl (by omega) ?_
      refine ih_ret rfl rfl ?_
      first
        | (refine ih_roR_ok K ?_ (ih_rr_f h2)
           rw [f_same, if_pos (by omega)]
           show ih_ok1 (if ih_rM (t 112) c d = ih_rM (t 112) c2 d then 1 else 0) = _
           first | rw [if_pos (by omega)] | rw [if_neg (by omega)])
        | exact ih_roR_no 0 K (by rw [f_same, if_neg (by omega)]) rfl (ih_rr_r _)
  · refine ih_seg (i1 := 11) 3 rfl ?_
    refine ih_iv1 127 rfl rfl (by first | rfl | exact ih_kP (by assumption) | exact ih_kC (by assumption) | exact ih_kN (by assumption) | exact ih_kS (by assumption) | exact ih_kW (by assumption)) (Nat.le_of_ble_eq_true rfl) (Nat.le_of_ble_eq_true rfl) rfl ?_
    refine r_finds 0 rfl (by omega) ?_
    refine ih_ret rfl rfl ?_
    first
      | (refine ih_roR_ok K ?_ (ih_rr_f h2)
         rw [f_same, if_pos (by omega)]
         show ih_ok1 (if ih_rM (t 112) c d = ih_rM (t 112) c2 d then 1 else 0) = _
         first | rw [if_pos (by omega)] | rw [if_neg (by omega)])
      | exact ih_roR_no 0 K (by rw [f_same, if_neg (by omega)]) rfl (ih_rr_r _)

