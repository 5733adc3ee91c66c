/-! changes -/
def f_changes (s : Int → Int) (a b d : Int) : ih_An := if (0 ≤ a ∧ a < 4) ∧ (0 ≤ b ∧ b < 10000) ∧ (0 ≤ d ∧ d < 10000) ∧ b < d then ih_ok1 (ih_chg (ih_rM s a.toNat) (if b = 0 then 0 else b - 1) (d - (if b = 0 then 0 else b - 1)).toNat) else ih_no 0

theorem c_op_changes {X : List Int} {t : ih_S} {Q : Option xa_V → ih_S → Prop} {s : Int → Int} {a b d : Int} (ha : xa_rI a) (hb : xa_rI b) (hd : xa_rI d) (W : ih_Wr t 1 s) (G : ih_Gd s) (K : ih_roC t (f_changes s a b d) Q) : ih_Wp X 73 0 [xR 0, xI a, xI b, xI d] [] t Q := by
  refine ih_seg (i1 := 1) 1 rfl ?_
  refine ih_is1 106 rfl rfl (Nat.le_of_ble_eq_true rfl) (Nat.le_of_ble_eq_true rfl) rfl ?_
  refine c_isPaper (by omega) (fun w1 => ?_) (fun w2 => ?_)
  · refine ih_seg (i1 := 4) 2 rfl ?_
    refine ih_is1 104 rfl rfl (Nat.le_of_ble_eq_true rfl) (Nat.le_of_ble_eq_true rfl) rfl ?_
    refine c_isHour (by omega) (fun w3 => ?_) (fun w4 => ?_)
    · refine ih_seg (i1 := 7) 2 rfl ?_
      refine ih_is1 104 rfl rfl (Nat.le_of_ble_eq_true rfl) (Nat.le_of_ble_eq_true rfl) rfl ?_
      refine c_isHour (by omega) (fun w5 => ?_) (fun w6 => ?_)
      · refine ih_seg (i1 := 11) 3 rfl ?_
        refine ih_icmp_gt rfl (by omega) (by omega) (fun w7 => ?_) (fun w7 => ?_)
        · refine ih_seg (i1 := 18) 2 rfl ?_
          refine ih_iv1 116 rfl rfl (by first | rfl | exact ih_kP (by assumption) | exact ih_kC (by assumption) | exact ih_kN (by assumption) | exact ih_kS (by assumption) | exact ih_kW (by assumption)) (Nat.le_of_ble_eq_true rfl) (Nat.le_of_ble_eq_true rfl) rfl ?_
          obtain ⟨c, rfl⟩ := Int.eq_ofNat_of_zero_le (show 0 ≤ a by omega)
          have hc : c < 4 := by omega
          have P := ih_PG_W W G hc
          refine c_reckoned hc P (fun t1 hf he => ?_)
          have E1 := ih_EG_en hc P hf he
          have P1 := P.of hc (fun j hj => hf j (by omega))
          refine ih_seg (i1 := 21) 2 rfl ?_
          refine ih_iv2 17 rfl rfl (by first | rfl | exact ih_kP (by assumption) | exact ih_kC (by assumption) | exact ih_kN (by assumption) | exact ih_kS (by assumption) | exact ih_kW (by assumption)) (Nat.le_of_ble_eq_true rfl) (Nat.le_of_ble_eq_true rfl) rfl ?_
          have em : ∀ e, 0 ≤ e → ih_M t1 c e = ih_rM s c e := fun e h => (ih_M_cM hc P hf he h).trans (ih_cM_rM W G hc)
          refine c_changes hc P1 E1 (ih_fr_r _ _) (by omega) (by omega) (fun t2 h2 => ?_)
          have sc2 := ih_sc_t (ih_sc_e hc hf) (ih_sc_f hc h2)
          have ra : 0 ≤ (if b = 0 then 0 else b - 1) := by split <;> omega
          refine ih_ret rfl rfl ?_
          first
            | (refine ih_roC_ok K ?_ sc2
               rw [f_changes, if_pos (by omega), ih_chg_congr (fun e h0 h1 => em e (by omega))]
               rfl)
            | exact ih_roC_no K (by rw [f_changes, if_neg (by omega)]) (ih_sc_r _)
        · refine ih_seg (i1 := 14) 2 rfl ?_
          refine ih_iv1 102 rfl rfl (by first | rfl | exact ih_kP (by assumption) | exact ih_kC (by assumption) | exact ih_kN (by assumption) | exact ih_kS (by assumption) | exact ih_kW (by assumption)) (Nat.le_of_ble_eq_true rfl) (Nat.le_of_ble_eq_true rfl) rfl ?_
          refine c_finding (by omega) ?_
          refine ih_ret rfl rfl ?_
          first
            | (refine ih_roC_ok K ?_ sc2
               rw [f_changes, if_pos (by omega), ih_chg_congr (fun e h0 h1 => em e (by omega))]
               rfl)
            | exact ih_roC_no K (by rw [f_changes, if_neg (by omega)]) (ih_sc_r _)
      · refine ih_seg (i1 := 14) 3 rfl ?_
        refine ih_iv1 102 rfl rfl (by first | rfl | exact ih_kP (by assumption) | exact ih_kC (by assumption) | exact ih_kN (by assumption) | exact ih_kS (by assumption) | exact ih_kW (by assumption)) (Nat.le_of_ble_eq_true rfl) (Nat.le_of_ble_eq_true rfl) rfl ?_
        refine c_finding (by omega) ?_
        refine ih_ret rfl rfl ?_
        first
          | (refine ih_roC_ok K ?_ sc2
             rw [f_changes, if_pos (by omega), ih_chg_congr (fun e h0 h1 => em e (by omega))]
             rfl)
          | exact ih_roC_no K (by rw [f_changes, if_neg (by omega)]) (ih_sc_r _)
    · refine ih_seg (i1 := 14) 3 rfl ?_
      refine ih_iv1 102 rfl rfl (by first | rfl | exact ih_kP (by assumption) | exact ih_kC (by assumption) | exact ih_kN (by assumption) | exact ih_kS (by assumption) | exact ih_kW (by assumption)) (Nat.le_of_ble_eq_true rfl) (Nat.le_of_ble_eq_true rfl) rfl ?_
      refine c_finding (by omega) ?_
      refine ih_ret rfl rfl ?_
      first
        | (refine ih_roC_ok K ?_ sc2
           rw [f_changes, if_pos (by omega), ih_chg_congr (fun e h0 h1 => em e (by omega))]
           rfl)
        | exact ih_roC_no K (by rw [f_changes, if_neg (by omega)]) (ih_sc_r _)
  · refine ih_seg (i1 := 14) 3 rfl ?_
    refine ih_iv1 102 rfl rfl (by first | rfl | exact ih_kP (by assumption) | exact ih_kC (by assumption) | exact ih_kN (by assumption) | exact ih_kS (by assumption) | exact ih_kW (by assumption)) (Nat.le_of_ble_eq_true rfl) (Nat.le_of_ble_eq_true rfl) rfl ?_
    refine c_finding (by omega) ?_
    refine ih_ret rfl rfl ?_
    first
      | (refine ih_roC_ok K ?_ sc2
         rw [f_changes, if_pos (by omega), ih_chg_congr (fun e h0 h1 => em e (by omega))]
         rfl)
      | exact ih_roC_no K (by rw [f_changes, if_neg (by omega)]) (ih_sc_r _)


theorem r_changes_l {X : List Int} {t : ih_S} {Q : Option xa_V → ih_S → Prop} {p : Nat} {a b f : Int} (hp : p < 4) (G : ih_Gd (t 112)) (ha : 0 ≤ a ∧ a < b) (hb : b < 10000) (K : ∀ t1, ih_rf t t1 → Q (some (xI (ih_chg (ih_rM (t 112) p) a (b - a).toNat))) t1) : ∀ (d k : Nat) (x : xa_V) (t1 : ih_S) (hd : a + k + d = b) (hf : ih_rf t t1), ih_Wp X 161 31 [xR 111, xI p, xI f, xI b, xI (ih_chg (ih_rM (t 112) p) a k), xI (ih_rM (t 112) p (a + k)), xI (a + k + 1), x] [] t1 Q := by
  intro d
  induction d with
  | zero =>
    intro k x t1 hd hf
    have mr := ih_rM_rg (t 112) p (a + k + 1)
    have mq := ih_rM_rg (t 112) p (a + k)
    have cr := ih_chg_rg (ih_rM (t 112) p) a k
    refine ih_seg (i1 := 33) 2 rfl ?_
    refine ih_icmp_gt rfl (by omega) (by omega) (fun w1 => ?_) (fun w1 => ?_)
    · refine ih_seg (i1 := 53) 1 rfl ?_
      refine ih_ret rfl rfl ?_
      rw [show (b - a).toNat = k by omega] at K
      exact K _ hf
    · refine ih_seg (i1 := 37) 3 rfl ?_
      refine ih_iv2 157 rfl rfl (by first | rfl | exact ih_kP (by assumption) | exact ih_kC (by assumption) | exact ih_kN (by assumption) | exact ih_kS (by assumption) | exact ih_kW (by assumption)) (Nat.le_of_ble_eq_true rfl) (Nat.le_of_ble_eq_true rfl) rfl ?_
      exfalso
      omega
  | succ d ih =>
    intro k x t1 hd hf
    have mr := ih_rM_rg (t 112) p (a + k + 1)
    have mq := ih_rM_rg (t 112) p (a + k)
    have cr := ih_chg_rg (ih_rM (t 112) p) a k
    refine ih_seg (i1 := 33) 2 rfl ?_
    refine ih_icmp_gt rfl (by omega) (by omega) (fun w1 => ?_) (fun w1 => ?_)
    · refine ih_seg (i1 := 53) 1 rfl ?_
      refine ih_ret rfl rfl ?_
      exfalso
      omega
    · refine ih_seg (i1 := 37) 3 rfl ?_
      refine ih_iv2 157 rfl rfl (by first | rfl | exact ih_kP (by assumption) | exact ih_kC (by assumption) | exact ih_kN (by assumption) | exact ih_kS (by assumption) | exact ih_kW (by assumption)) (Nat.le_of_ble_eq_true rfl) (Nat.le_of_ble_eq_true rfl) rfl ?_
      refine r_meansAt hp (G.pap p hp) hf (by omega) (fun t2 hf => ?_)
      refine ih_seg (i1 := 42) 4 rfl ?_
      try simp only [xa_set, List.set_cons_zero, List.set_cons_succ, List.getElem?_cons_zero, List.getElem?_cons_succ]
      refine ih_icmp_ne rfl (by omega) (by omega) (fun w2 => ?_) (fun w2 => ?_)
      · refine ih_seg (i1 := 31) 7 rfl ?_
        try simp only [xa_set, List.set_cons_zero, List.set_cons_succ, List.getElem?_cons_zero, List.getElem?_cons_succ]
        refine ih_ls ?_ (ih (k + 1) (xI (ih_rM (t 112) p (a + k + 1))) _ (by omega) hf)
        rw [show a + ((k + 1 : Nat) : Int) = a + k + 1 by omega, ih_chg]
        first | rw [if_pos (by omega)] | rw [if_neg (by omega)]
      · refine ih_seg (i1 := 31) 8 rfl ?_
        try simp only [xa_set, List.set_cons_zero, List.set_cons_succ, List.getElem?_cons_zero, List.getElem?_cons_succ]
        refine ih_ls ?_ (ih (k + 1) (xI (ih_rM (t 112) p (a + k + 1))) _ (by omega) hf)
        rw [show a + ((k + 1 : Nat) : Int) = a + k + 1 by omega, ih_chg]
        first | rw [if_pos (by omega)] | rw [if_neg (by omega)]

theorem r_op_changes {X : List Int} {t : ih_S} {Q : Option xa_V → ih_S → Prop} {a b d : Int} (ha : xa_rI a) (hb : xa_rI b) (hd : xa_rI d) (G : ih_Gd (t 112)) (K : ih_roR t (f_changes (t 112) a b d) Q) : ih_Wp X 161 0 [xR 111, xI a, xI b, xI d, xC 1, xC 1, xC 1, xC 1] [] t Q := by
  refine ih_seg (i1 := 1) 1 rfl ?_
  refine ih_is1 128 rfl rfl (Nat.le_of_ble_eq_true rfl) (Nat.le_of_ble_eq_true rfl) rfl ?_
  refine r_isPaper (by omega) (fun w1 => ?_) (fun w2 => ?_)
  · refine ih_seg (i1 := 4) 2 rfl ?_
    refine ih_is1 130 rfl rfl (Nat.le_of_ble_eq_true rfl) (Nat.le_of_ble_eq_true rfl) rfl ?_
    refine r_isHour (by omega) (fun w3 => ?_) (fun w4 => ?_)
    · refine ih_seg (i1 := 7) 2 rfl ?_
      refine ih_is1 130 rfl rfl (Nat.le_of_ble_eq_true rfl) (Nat.le_of_ble_eq_true rfl) rfl ?_
      refine r_isHour (by omega) (fun w5 => ?_) (fun w6 => ?_)
      · refine ih_seg (i1 := 11) 3 rfl ?_
        refine ih_icmp_gt rfl (by omega) (by omega) (fun w7 => ?_) (fun w7 => ?_)
        · refine ih_seg (i1 := 21) 5 rfl ?_
          try simp only [xa_set, List.set_cons_zero, List.set_cons_succ, List.getElem?_cons_zero, List.getElem?_cons_succ]
          refine ih_ifc_ne rfl (by omega) (fun w8 => ?_) (fun w8 => ?_)
          · refine ih_seg (i1 := 27) 3 rfl ?_
            try dsimp only
            refine ih_iv2 157 rfl rfl (by first | rfl | exact ih_kP (by assumption) | exact ih_kC (by assumption) | exact ih_kN (by assumption) | exact ih_kS (by assumption) | exact ih_kW (by assumption)) (Nat.le_of_ble_eq_true rfl) (Nat.le_of_ble_eq_true rfl) rfl ?_
            obtain ⟨p, rfl⟩ := Int.eq_ofNat_of_zero_le (show 0 ≤ a by omega)
            have hp : p < 4 := by omega
            refine r_meansAt hp (G.pap p hp) (ih_rf_r _) (by omega) (fun t1 hf => ?_)
            refine ih_seg (i1 := 31) 3 rfl ?_
            try simp only [xa_set, List.set_cons_zero, List.set_cons_succ, List.getElem?_cons_zero, List.getElem?_cons_succ]
            refine ih_ls ?_ (r_changes_l (a := (b - 1)) (b := d) (f := b) hp G (by omega) (by omega) (fun t3 h3 => ?_) (d - (b - 1)).toNat 0 (xC 1) _ (by omega) hf)
            · rw [show b - 1 + ((0 : Nat) : Int) = b - 1 by omega, show b - 1 + 1 = b by omega]; rfl
            · refine ih_roR_ok K ?_ (ih_rr_f h3)
              rw [f_changes, if_pos (by omega), if_neg (show ¬ b = 0 by omega)]
              rfl
          · refine ih_seg (i1 := 27) 2 rfl ?_
            refine ih_iv2 157 rfl rfl (by first | rfl | exact ih_kP (by assumption) | exact ih_kC (by assumption) | exact ih_kN (by assumption) | exact ih_kS (by assumption) | exact ih_kW (by assumption)) (Nat.le_of_ble_eq_true rfl) (Nat.le_of_ble_eq_true rfl) rfl ?_
            obtain ⟨p, rfl⟩ := Int.eq_ofNat_of_zero_le (show 0 ≤ a by omega)
            have hp : p < 4 := by omega
            refine r_meansAt hp (G.pap p hp) (ih_rf_r _) (by omega) (fun t1 hf => ?_)
            refine ih_seg (i1 := 31) 3 rfl ?_
            try simp only [xa_set, List.set_cons_zero, List.set_cons_succ, List.getElem?_cons_zero, List.getElem?_cons_succ]
            have hb0 : b = 0 := by omega
            subst hb0
            have mz := ih_rM_rg (t 112) p 0
            refine ih_seg (i1 := 33) 2 rfl ?_
            refine ih_icmp_gt rfl (by omega) (by omega) (fun w1 => ?_) (fun w1 => ?_)
            · refine ih_seg (i1 := 53) 1 rfl ?_
              refine ih_ret rfl rfl ?_
              exfalso
              omega
            · refine ih_seg (i1 := 37) 3 rfl ?_
              refine ih_iv2 157 rfl rfl (by first | rfl | exact ih_kP (by assumption) | exact ih_kC (by assumption) | exact ih_kN (by assumption) | exact ih_kS (by assumption) | exact ih_kW (by assumption)) (Nat.le_of_ble_eq_true rfl) (Nat.le_of_ble_eq_true rfl) rfl ?_
              refine r_meansAt hp (G.pap p hp) hf (by omega) (fun t2 hf => ?_)
              refine ih_seg (i1 := 42) 4 rfl ?_
              try simp only [xa_set, List.set_cons_zero, List.set_cons_succ, List.getElem?_cons_zero, List.getElem?_cons_succ]
              refine ih_icmp_ne rfl (by omega) (by omega) (fun w2 => ?_) (fun w2 => ?_)
              · refine ih_seg (i1 := 31) 7 rfl ?_
                try simp only [xa_set, List.set_cons_zero, List.set_cons_succ, List.getElem?_cons_zero, List.getElem?_cons_succ]
                first
                  | (exfalso; omega)
                  | (refine ih_ls ?_ (r_changes_l (a := 0) (b := d) (f := 0) hp G (by omega) (by omega) (fun t3 h3 => ?_) (d - 0).toNat 0 (xI (ih_rM (t 112) p 0)) _ (by omega) hf)
                     · rfl
                     · refine ih_roR_ok K ?_ (ih_rr_f h3)
                       rw [f_changes, if_pos (by omega), if_pos rfl]
                       rfl)
              · refine ih_seg (i1 := 31) 8 rfl ?_
                try simp only [xa_set, List.set_cons_zero, List.set_cons_succ, List.getElem?_cons_zero, List.getElem?_cons_succ]
                first
                  | (exfalso; omega)
                  | (refine ih_ls ?_ (r_changes_l (a := 0) (b := d) (f := 0) hp G (by omega) (by omega) (fun t3 h3 => ?_) (d - 0).toNat 0 (xI (ih_rM (t 112) p 0)) _ (by omega) hf)
                     · rfl
                     · refine ih_roR_ok K ?_ (ih_rr_f h3)
                       rw [f_changes, if_pos (by omega), if_pos rfl]
                       rfl)
        · refine ih_seg (i1 := 14) 2 rfl ?_
          refine ih_iv1 127 rfl rfl (by first | rfl | exact ih_kP (by assumption) | exact ih_kC (by assumption) | exact ih_kN (by assumption) | exact ih_kS (by assumption) | exact ih_kW (by assumption)) (Nat.le_of_ble_eq_true rfl) (Nat.le_of_ble_eq_true rfl) rfl ?_
          refine r_finds 0 rfl (by omega) ?_
          refine ih_ret rfl rfl ?_
          exact ih_roR_no 0 K (by rw [f_changes, if_neg (by omega)]) rfl (ih_rr_r _)
      · refine ih_seg (i1 := 14) 3 rfl ?_
        refine ih_iv1 127 rfl rfl (by first | rfl | exact ih_kP (by assumption) | exact ih_kC (by assumption) | exact ih_kN (by assumption) | exact ih_kS (by assumption) | exact ih_kW (by assumption)) (Nat.le_of_ble_eq_true rfl) (Nat.le_of_ble_eq_true rfl) rfl ?_
        refine r_finds 0 rfl (by omega) ?_
        refine ih_ret rfl rfl ?_
        exact ih_roR_no 0 K (by rw [f_changes, if_neg (by omega)]) rfl (ih_rr_r _)
    · refine ih_seg (i1 := 14) 3 rfl ?_
      refine ih_iv1 127 rfl rfl (by first | rfl | exact ih_kP (by assumption) | exact ih_kC (by assumption) | exact ih_kN (by assumption) | exact ih_kS (by assumption) | exact ih_kW (by assumption)) (Nat.le_of_ble_eq_true rfl) (Nat.le_of_ble_eq_true rfl) rfl ?_
      refine r_finds 0 rfl (by omega) ?_
      refine ih_ret rfl rfl ?_
      exact ih_roR_no 0 K (by rw [f_changes, if_neg (by omega)]) rfl (ih_rr_r _)
  · refine ih_seg (i1 := 14) 3 rfl ?_
    refine ih_iv1 127 rfl rfl (by first | rfl | exact ih_kP (by assumption) | exact ih_kC (by assumption) | exact ih_kN (by assumption) | exact ih_kS (by assumption) | exact ih_kW (by assumption)) (Nat.le_of_ble_eq_true rfl) (Nat.le_of_ble_eq_true rfl) rfl ?_
    refine r_finds 0 rfl (by omega) ?_
    refine ih_ret rfl rfl ?_
    exact ih_roR_no 0 K (by rw [f_changes, if_neg (by omega)]) rfl (ih_rr_r _)

