/-! How many hours -/
theorem ih_cnt_congr {M N : Int → Int} {m a : Int} : ∀ {n : Nat}, (∀ e, a ≤ e → e < a + n → M e = N e) → ih_cnt M m a n = ih_cnt N m a n
  | 0, _ => rfl
  | n + 1, h => by rw [ih_cnt, ih_cnt, ih_cnt_congr (fun e h0 h1 => h e h0 (by omega)), h (a + n) (by omega) (by omega)]
theorem ih_chg_congr {M N : Int → Int} {a : Int} : ∀ {n : Nat}, (∀ e, a ≤ e → e ≤ a + n → M e = N e) → ih_chg M a n = ih_chg N a n
  | 0, _ => rfl
  | n + 1, h => by rw [ih_chg, ih_chg, ih_chg_congr (fun e h0 h1 => h e h0 (by omega)), h (a + n) (by omega) (by omega), h (a + n + 1) (by omega) (by omega)]
def f_often (s : Int → Int) (a m : Int) : ih_An := if (0 ≤ a ∧ a < 4) ∧ -1 ≤ m ∧ m ≤ 65535 then ih_ok1 (ih_cnt (ih_rM s a.toNat) m (s 0) (10000 - s 0).toNat) else ih_no 0

theorem c_often {X : List Int} {t : ih_S} {Q : Option xa_V → ih_S → Prop} {s : Int → Int} {a m : Int} (ha : xa_rI a) (hm : xa_rI m) (W : ih_Wr t 1 s) (G : ih_Gd s) (K : ih_roC t (f_often s a m) Q) : ih_Wp X 75 0 [xR 0, xI a, xI m] [] t Q := by
  refine ih_seg (i1 := 1) 1 rfl ?_
  refine ih_is1 106 rfl rfl (Nat.le_of_ble_eq_true rfl) (Nat.le_of_ble_eq_true rfl) rfl ?_
  refine c_isPaper (by omega) (fun w1 => ?_) (fun w2 => ?_)
  · refine ih_seg (i1 := 6) 4 rfl ?_
    refine ih_is3 103 rfl rfl (Nat.le_of_ble_eq_true rfl) (Nat.le_of_ble_eq_true rfl) rfl ?_
    refine c_within (by omega) (by omega) (by omega) (fun w3 => ?_) (fun w4 => ?_)
    · refine ih_seg (i1 := 14) 3 rfl ?_
      refine ih_iv1 116 rfl rfl (by first | rfl | exact ih_kP (by assumption) | exact ih_kC (by assumption) | exact ih_kN (by assumption) | exact ih_kS (by assumption) | exact ih_kW (by assumption)) (Nat.le_of_ble_eq_true rfl) (Nat.le_of_ble_eq_true rfl) rfl ?_
      obtain ⟨c, rfl⟩ := Int.eq_ofNat_of_zero_le (show 0 ≤ a by omega)
      have hc : c < 4 := by omega
      have P := ih_PG_W W G hc
      refine c_reckoned hc P (fun t1 hf he => ?_)
      have E1 := ih_EG_en hc P hf he
      have P1 := P.of hc (fun j hj => hf j (by omega))
      refine ih_seg (i1 := 17) 2 rfl ?_
      refine ih_getR rfl rfl ?_
      refine ih_getI rfl (by first | rfl | exact ih_fW5 (by assumption)) ?_
      refine ih_iv2 19 rfl rfl (by first | rfl | exact ih_kP (by assumption) | exact ih_kC (by assumption) | exact ih_kN (by assumption) | exact ih_kS (by assumption) | exact ih_kW (by assumption)) (Nat.le_of_ble_eq_true rfl) (Nat.le_of_ble_eq_true rfl) rfl ?_
      have nw := W.now
      have en : t1 1 = t 1 := hf 1 (by omega)
      have rw1 := G.now
      have em : ∀ e, s 0 ≤ e → ih_M t1 c e = ih_rM s c e := fun e h => (ih_M_cM hc P hf he (by omega)).trans (ih_cM_rM W G hc)
      rw [en, nw]
      refine c_hours hc P1 E1 (ih_fr_r _ _) (by omega) (by omega) (fun t2 h2 => ?_)
      have sc2 := ih_sc_t (ih_sc_e hc hf) (ih_sc_f hc h2)
      refine ih_ret rfl rfl ?_
      first
        | (refine ih_roC_ok K ?_ sc2
           rw [f_often, if_pos (by omega), ih_cnt_congr (fun e h0 h1 => em e h0)]
           rfl)
        | exact ih_roC_no K (by rw [f_often, if_neg (by omega)]) (ih_sc_r _)
    · refine ih_seg (i1 := 10) 3 rfl ?_
      refine ih_iv1 102 rfl rfl (by first | rfl | exact ih_kP (by assumption) | exact ih_kC (by assumption) | exact ih_kN (by assumption) | exact ih_kS (by assumption) | exact ih_kW (by assumption)) (Nat.le_of_ble_eq_true rfl) (Nat.le_of_ble_eq_true rfl) rfl ?_
      refine c_finding (by omega) ?_
      refine ih_ret rfl rfl ?_
      first
        | (refine ih_roC_ok K ?_ sc2
           rw [f_often, if_pos (by omega), ih_cnt_congr (fun e h0 h1 => em e h0)]
           rfl)
        | exact ih_roC_no K (by rw [f_often, if_neg (by omega)]) (ih_sc_r _)
  · refine ih_seg (i1 := 10) 3 rfl ?_
    refine ih_iv1 102 rfl rfl (by first | rfl | exact ih_kP (by assumption) | exact ih_kC (by assumption) | exact ih_kN (by assumption) | exact ih_kS (by assumption) | exact ih_kW (by assumption)) (Nat.le_of_ble_eq_true rfl) (Nat.le_of_ble_eq_true rfl) rfl ?_
    refine c_finding (by omega) ?_
    refine ih_ret rfl rfl ?_
    first
      | (refine ih_roC_ok K ?_ sc2
         rw [f_often, if_pos (by omega), ih_cnt_congr (fun e h0 h1 => em e h0)]
         rfl)
      | exact ih_roC_no K (by rw [f_often, if_neg (by omega)]) (ih_sc_r _)


theorem r_often_l {X : List Int} {t : ih_S} {Q : Option xa_V → ih_S → Prop} {p : Nat} {m a : Int} (hp : p < 4) (G : ih_Gd (t 112)) (hm : -1 ≤ m ∧ m < 65536) (ha : 0 ≤ a ∧ a < 10000) (K : ∀ t1, ih_rf t t1 → Q (some (xI (ih_cnt (ih_rM (t 112) p) m a (10000 - a).toNat))) t1) : ∀ (d k : Nat) (t1 : ih_S) (hd : a + k + d = 10000) (hf : ih_rf t t1), ih_Wp X 163 20 [xR 111, xI p, xI m, xI (ih_cnt (ih_rM (t 112) p) m a k), xI (a + k)] [] t1 Q := by
  intro d
  induction d with
  | zero =>
    intro k t1 hd hf
    have mr := ih_rM_rg (t 112) p (a + k)
    have cr := ih_cnt_rg (ih_rM (t 112) p) m a k
    refine ih_seg (i1 := 22) 2 rfl ?_
    refine ih_icmp_gt rfl (by omega) (by omega) (fun w1 => ?_) (fun w1 => ?_)
    · refine ih_seg (i1 := 38) 1 rfl ?_
      refine ih_ret rfl rfl ?_
      rw [show (10000 - a).toNat = k by omega] at K
      exact K _ hf
    · refine ih_seg (i1 := 27) 4 rfl ?_
      refine ih_iv2 157 rfl rfl (by first | rfl | exact ih_kP (by assumption) | exact ih_kC (by assumption) | exact ih_kN (by assumption) | exact ih_kS (by assumption) | exact ih_kW (by assumption)) (Nat.le_of_ble_eq_true rfl) (Nat.le_of_ble_eq_true rfl) rfl ?_
      exfalso
      omega
  | succ d ih =>
    intro k t1 hd hf
    have mr := ih_rM_rg (t 112) p (a + k)
    have cr := ih_cnt_rg (ih_rM (t 112) p) m a k
    refine ih_seg (i1 := 22) 2 rfl ?_
    refine ih_icmp_gt rfl (by omega) (by omega) (fun w1 => ?_) (fun w1 => ?_)
    · refine ih_seg (i1 := 38) 1 rfl ?_
      refine ih_ret rfl rfl ?_
      exfalso
      omega
    · refine ih_seg (i1 := 27) 4 rfl ?_
      refine ih_iv2 157 rfl rfl (by first | rfl | exact ih_kP (by assumption) | exact ih_kC (by assumption) | exact ih_kN (by assumption) | exact ih_kS (by assumption) | exact ih_kW (by assumption)) (Nat.le_of_ble_eq_true rfl) (Nat.le_of_ble_eq_true rfl) rfl ?_
      refine r_meansAt hp (G.pap p hp) hf (by omega) (fun t2 hf => ?_)
      refine ih_seg (i1 := 29) 1 rfl ?_
      refine ih_icmp_ne rfl (by omega) (by omega) (fun w2 => ?_) (fun w2 => ?_)
      · refine ih_seg (i1 := 20) 5 rfl ?_
        try simp only [xa_set, List.set_cons_zero, List.set_cons_succ, List.getElem?_cons_zero, List.getElem?_cons_succ]
        refine ih_ls ?_ (ih (k + 1) _ (by omega) hf)
        rw [show a + ((k + 1 : Nat) : Int) = a + k + 1 by omega, ih_cnt]
        first | rw [if_pos (by omega)] | rw [if_neg (by omega)]
      · refine ih_seg (i1 := 20) 6 rfl ?_
        try simp only [xa_set, List.set_cons_zero, List.set_cons_succ, List.getElem?_cons_zero, List.getElem?_cons_succ]
        refine ih_ls ?_ (ih (k + 1) _ (by omega) hf)
        rw [show a + ((k + 1 : Nat) : Int) = a + k + 1 by omega, ih_cnt]
        first | rw [if_pos (by omega)] | rw [if_neg (by omega)]

theorem r_often {X : List Int} {t : ih_S} {Q : Option xa_V → ih_S → Prop} {a m : Int} (ha : xa_rI a) (hm : xa_rI m) (G : ih_Gd (t 112)) (K : ih_roR t (f_often (t 112) a m) Q) : ih_Wp X 163 0 [xR 111, xI a, xI m, xC 1, xC 1] [] t Q := by
  refine ih_seg (i1 := 1) 1 rfl ?_
  refine ih_is1 128 rfl rfl (Nat.le_of_ble_eq_true rfl) (Nat.le_of_ble_eq_true rfl) rfl ?_
  refine r_isPaper (by omega) (fun w1 => ?_) (fun w2 => ?_)
  · refine ih_seg (i1 := 4) 2 rfl ?_
    refine ih_i2l rfl (by omega) ?_
    refine ih_seg (i1 := 7) 2 rfl ?_
    refine ih_is3 126 rfl rfl (Nat.le_of_ble_eq_true rfl) (Nat.le_of_ble_eq_true rfl) rfl ?_
    refine r_in (by omega) (by omega) (by omega) (fun w3 => ?_) (fun w4 => ?_)
    · refine ih_seg (i1 := 16) 4 rfl ?_
      try simp only [xa_set, List.set_cons_zero, List.set_cons_succ, List.getElem?_cons_zero, List.getElem?_cons_succ]
      refine ih_getR rfl rfl ?_
      refine ih_seg (i1 := 18) 1 rfl ?_
      refine ih_iald rfl (by first | rfl | exact ih_lP1 (by assumption) | exact ih_lP2 (by assumption) | exact ih_lP3 (by assumption) | exact ih_lP4 (by assumption) | exact ih_lC1 (by assumption) | exact ih_lS1 (by assumption) | exact ih_lW1 (by assumption) | exact ih_lW2 (by assumption) | exact ih_lW4 (by assumption) | exact ih_lW5 (by assumption)) (by omega) (by omega) (k := ?_)
      refine ih_seg (i1 := 20) 1 rfl ?_
      try simp only [xa_set, List.set_cons_zero, List.set_cons_succ, List.getElem?_cons_zero, List.getElem?_cons_succ]
      obtain ⟨p, rfl⟩ := Int.eq_ofNat_of_zero_le (show 0 ≤ a by omega)
      have hp : p < 4 := by omega
      have nw := G.now
      refine ih_ls ?_ (r_often_l (m := m) (a := t 112 0) hp G (by omega) nw (fun t1 h1 => ?_) (10000 - t 112 0).toNat 0 _ (by omega) (ih_rf_r _))
      · rw [show t 112 0 + ((0 : Nat) : Int) = t 112 0 by omega]
        rfl
      · refine ih_roR_ok K ?_ (ih_rr_f h1)
        rw [f_often, if_pos (by omega)]
        rfl
    · refine ih_seg (i1 := 11) 3 rfl ?_
      refine ih_iv1 127 rfl rfl (by first | rfl | exact ih_kP (by assumption) | exact ih_kC (by assumption) | exact ih_kN (by assumption) | exact ih_kS (by assumption) | exact ih_kW (by assumption)) (Nat.le_of_ble_eq_true rfl) (Nat.le_of_ble_eq_true rfl) rfl ?_
      refine r_finds 0 rfl (by omega) ?_
      refine ih_ret rfl rfl ?_
      exact ih_roR_no 0 K (by rw [f_often, if_neg (by omega)]) rfl (ih_rr_r _)
  · refine ih_seg (i1 := 11) 3 rfl ?_
    refine ih_iv1 127 rfl rfl (by first | rfl | exact ih_kP (by assumption) | exact ih_kC (by assumption) | exact ih_kN (by assumption) | exact ih_kS (by assumption) | exact ih_kW (by assumption)) (Nat.le_of_ble_eq_true rfl) (Nat.le_of_ble_eq_true rfl) rfl ?_
    refine r_finds 0 rfl (by omega) ?_
    refine ih_ret rfl rfl ?_
    exact ih_roR_no 0 K (by rw [f_often, if_neg (by omega)]) rfl (ih_rr_r _)

