/-! gone -/
def ih_gf (s : Int → Int) (p m : Nat) : Int := ih_fst (fun h => decide (ih_rs s p h m = false)) (s (26 + 48 * p + 4 * m + 3)) (10000 - s (26 + 48 * p + 4 * m + 3)).toNat
def f_gone (s : Int → Int) (a b : Int) : ih_An := if (0 ≤ a ∧ a < 4) ∧ 0 ≤ b ∧ b < s (22 + a) then (if 9999 < ih_gf s a.toNat b.toNat then ih_no 3 else ih_ok1 (ih_gf s a.toNat b.toNat)) else ih_no 0
theorem ih_gf_en {t : ih_S} {s : Int → Int} {c m : Nat} (W : ih_Wr t 1 s) (G : ih_Gd s) (hc : c < 4) (hm : (m : Int) < s (22 + c)) : ih_gf s c m = if ih_en t c m < 10000 then ih_en t c m else 10000 := by
  have P := ih_PG_W W G hc
  have hm' : (m : Int) < t (7 + 5 * c) 4 := by rw [ih_W_sz W hc]; exact hm
  have a := (G.pap c hc).at_ m hm
  have r := ih_en_rg P hm'
  have i := P.ink m hm'
  have l := P.las _ i.1 i.2
  have sp := ih_span_rg (k := t (8 + 5 * c) m) l.1 l.2
  have sw := ih_w_rg (lit := t (7 + 5 * c) 5) a.1 (by omega)
  have key : ∀ h, 0 ≤ h → s (26 + 48 * c + 4 * m + 3) ≤ h → (h < ih_en t c m ↔ ih_rs s c h m = true) := by
    intro h h0 h1
    rw [← ih_cs_rs W G hc hm]
    unfold ih_en ih_eo ih_cs
    rw [ih_W_at W hc hm, ih_gal h0 (by omega), decide_eq_true_eq]
    omega
  have h0 : s (26 + 48 * c + 4 * m + 3) < ih_en t c m := by
    unfold ih_en ih_eo
    rw [ih_W_at W hc hm, ih_gal a.1 (by omega)]
    omega
  refine ih_fst_is (by split <;> omega) (by split <;> omega) (fun e e0 e1 => ?_) (fun q => ?_)
  · rw [decide_eq_false_iff_not, (key e (by omega) e0).1 (by split at e1 <;> omega)]
    decide
  · rw [decide_eq_true_eq]
    have h9 : ih_en t c m < 10000 := by split at q <;> omega
    rw [if_pos h9]
    cases k : ih_rs s c (ih_en t c m) m with
    | false => rfl
    | true => have := (key _ (by omega) (by omega)).2 k; omega

theorem c_gone {X : List Int} {t : ih_S} {Q : Option xa_V → ih_S → Prop} {s : Int → Int} {a b : Int} (ha : xa_rI a) (hb : xa_rI b) (W : ih_Wr t 1 s) (G : ih_Gd s) (K : ih_roC t (f_gone s a b) Q) : ih_Wp X 69 0 [xR 0, xI a, xI b, xC 1] [] t Q := by
  refine ih_seg (i1 := 3) 3 rfl ?_
  refine ih_iv2 111 rfl rfl (by first | rfl | exact ih_kP (ih_P_w0 hc) |  exact ih_kP (by assumption) | exact ih_kC (by assumption) | exact ih_kN (by assumption) | exact ih_kS (by assumption) | exact ih_kW (by assumption)) (Nat.le_of_ble_eq_true rfl) (Nat.le_of_ble_eq_true rfl) rfl ?_
  refine c_isMark (by omega) (by omega) (fun p hp => (ih_PG_W W G hp).sz) (fun c m ea eb hc hm => ?_) (fun hn => ?_)
  · refine ih_seg (i1 := 11) 3 rfl ?_
    refine ih_iv1 116 rfl rfl (by first | rfl | exact ih_kP (ih_P_w0 hc) |  exact ih_kP (by assumption) | exact ih_kC (by assumption) | exact ih_kN (by assumption) | exact ih_kS (by assumption) | exact ih_kW (by assumption)) (Nat.le_of_ble_eq_true rfl) (Nat.le_of_ble_eq_true rfl) rfl ?_
    subst ea eb
    have P := ih_PG_W W G hc
    have g0 := P.sz
    have hz := ih_W_sz W hc
    have hm2 : (m : Int) < s (22 + c) := by omega
    have eg := ih_gf_en W G hc hm2
    have er := ih_en_rg P hm
    refine c_reckoned hc P (fun t1 hf he => ?_)
    have e1 := he m hm
    refine ih_getR rfl (by first | rfl | exact ih_fC2 (by assumption)) ?_
    refine ih_seg (i1 := 14) 1 rfl ?_
    refine ih_iald rfl (by first | rfl | exact ih_lP1 (ih_P_w0 hc) | exact ih_lP2 (ih_P_w0 hc) | exact ih_lP3 (ih_P_w0 hc) | exact ih_lP4 (ih_P_w0 hc) |  exact ih_lP1 (by assumption) | exact ih_lP2 (by assumption) | exact ih_lP3 (by assumption) | exact ih_lP4 (by assumption) | exact ih_lC1 (by assumption) | exact ih_lS1 (by assumption) | exact ih_lW1 (by assumption) | exact ih_lW2 (by assumption) | exact ih_lW4 (by assumption) | exact ih_lW5 (by assumption)) (by omega) (by omega) (k := ?_)
    rw [e1]
    refine ih_seg (i1 := 18) 3 rfl ?_
    try simp only [xa_set, List.set_cons_zero, List.set_cons_succ, List.getElem?_cons_zero, List.getElem?_cons_succ]
    refine ih_icmp_le rfl (by omega) (by omega) (fun w1 => ?_) (fun w1 => ?_)
    · refine ih_seg (i1 := 24) 1 rfl ?_
      refine ih_ret rfl rfl ?_
      first
        | (refine ih_roC_ok K ?_ (ih_sc_e hc hf)
           rw [f_gone, if_pos (by omega)]
           simp only [Int.toNat_natCast]
           have eg2 : ih_gf s c m = ih_en t c m := by rw [eg, if_pos (by omega)]
           rw [eg2, if_neg (by omega)])
        | (refine ih_roC_no K ?_ (ih_sc_e hc hf)
           rw [f_gone, if_pos (by omega)]
           simp only [Int.toNat_natCast]
           have eg2 : ih_gf s c m = 10000 := by rw [eg, if_neg (by omega)]
           rw [eg2, if_pos (by omega)])
    · refine ih_seg (i1 := 21) 2 rfl ?_
      refine ih_iv1 102 rfl rfl (by first | rfl | exact ih_kP (ih_P_w0 hc) |  exact ih_kP (by assumption) | exact ih_kC (by assumption) | exact ih_kN (by assumption) | exact ih_kS (by assumption) | exact ih_kW (by assumption)) (Nat.le_of_ble_eq_true rfl) (Nat.le_of_ble_eq_true rfl) rfl ?_
      refine c_finding (by omega) ?_
      refine ih_seg (i1 := 24) 1 rfl ?_
      refine ih_ret rfl rfl ?_
      first
        | (refine ih_roC_ok K ?_ (ih_sc_e hc hf)
           rw [f_gone, if_pos (by omega)]
           simp only [Int.toNat_natCast]
           have eg2 : ih_gf s c m = ih_en t c m := by rw [eg, if_pos (by omega)]
           rw [eg2, if_neg (by omega)])
        | (refine ih_roC_no K ?_ (ih_sc_e hc hf)
           rw [f_gone, if_pos (by omega)]
           simp only [Int.toNat_natCast]
           have eg2 : ih_gf s c m = 10000 := by rw [eg, if_neg (by omega)]
           rw [eg2, if_pos (by omega)])
  · refine ih_seg (i1 := 7) 3 rfl ?_
    refine ih_iv1 102 rfl rfl (by first | rfl | exact ih_kP (ih_P_w0 hc) |  exact ih_kP (by assumption) | exact ih_kC (by assumption) | exact ih_kN (by assumption) | exact ih_kS (by assumption) | exact ih_kW (by assumption)) (Nat.le_of_ble_eq_true rfl) (Nat.le_of_ble_eq_true rfl) rfl ?_
    refine c_finding (by omega) ?_
    refine ih_ret rfl rfl ?_
    have hn2 : ¬ ((0 ≤ a ∧ a < 4) ∧ 0 ≤ b ∧ b < s (22 + a)) := by
      rintro ⟨q1, q2, q3⟩
      refine hn a.toNat b.toNat (by omega) (by omega) (by omega) ?_
      rw [ih_W_sz W (by omega), show ((a.toNat : Nat) : Int) = a by omega]
      omega
    exact ih_roC_no K (by rw [f_gone, if_neg hn2]) (ih_sc_r _)


theorem r_gone_l {X : List Int} {t : ih_S} {Q : Option xa_V → ih_S → Prop} {p m : Nat} (hp : p < 4) (G : ih_Gd (t 112)) (hm : (m : Int) < t 112 (22 + p))  : ∀ (d : Nat) (h : Int) (hd : h + d = 10000) (h0 : 0 ≤ h) (K : ih_roR t (if 9999 < ih_fst (fun e => decide (ih_rs (t 112) p e m = false)) h d then ih_no 3 else ih_ok1 (ih_fst (fun e => decide (ih_rs (t 112) p e m = false)) h d)) Q), ih_Wp X 152 18 [xR 111, xI p, xI m, xI h] [] t Q := by
  intro d
  induction d with
  | zero =>
    intro h hd h0 K
    refine ih_seg (i1 := 20) 2 rfl ?_
    refine ih_icmp_gt rfl (by omega) (by omega) (fun w1 => ?_) (fun w1 => ?_)
    · refine ih_seg (i1 := 33) 2 rfl ?_
      refine ih_iv1 127 rfl rfl (by first | rfl | exact ih_kP (ih_P_w0 hc) |  exact ih_kP (by assumption) | exact ih_kC (by assumption) | exact ih_kN (by assumption) | exact ih_kS (by assumption) | exact ih_kW (by assumption)) (Nat.le_of_ble_eq_true rfl) (Nat.le_of_ble_eq_true rfl) rfl ?_
      refine r_finds 3 rfl (by omega) ?_
      refine ih_ret rfl rfl ?_
      refine ih_roR_no 3 K ?_ rfl (ih_rr_r _)
      rw [if_pos (by show 9999 < h; omega)]
    · exfalso
      omega

  | succ d ih =>
    intro h hd h0 K
    have P := G.pap p hp
    refine ih_seg (i1 := 20) 2 rfl ?_
    refine ih_icmp_gt rfl (by omega) (by omega) (fun w1 => ?_) (fun w1 => ?_)
    · refine ih_seg (i1 := 33) 2 rfl ?_
      refine ih_iv1 127 rfl rfl (by first | rfl | exact ih_kP (ih_P_w0 hc) |  exact ih_kP (by assumption) | exact ih_kC (by assumption) | exact ih_kN (by assumption) | exact ih_kS (by assumption) | exact ih_kW (by assumption)) (Nat.le_of_ble_eq_true rfl) (Nat.le_of_ble_eq_true rfl) rfl ?_
      refine r_finds 3 rfl (by omega) ?_
      refine ih_ret rfl rfl ?_
      first
        | (exfalso
           omega)
        | (refine ih_roR_ok K ?_ (ih_rr_r _)
           rw [ih_fst_y (f := (fun e => decide (ih_rs (t 112) p e m = false))) (by show decide (ih_rs (t 112) p h m = false) = true; rw [q]; rfl), if_neg (by omega)])
    · refine ih_seg (i1 := 25) 4 rfl ?_
      refine ih_iv3 148 rfl rfl (by first | rfl | exact ih_kP (ih_P_w0 hc) |  exact ih_kP (by assumption) | exact ih_kC (by assumption) | exact ih_kN (by assumption) | exact ih_kS (by assumption) | exact ih_kW (by assumption)) (Nat.le_of_ble_eq_true rfl) (Nat.le_of_ble_eq_true rfl) rfl ?_
      refine r_isSeen hp P hm (by omega) (fun q => ?_) (fun q => ?_)
      · refine ih_seg (i1 := 18) 3 rfl ?_
        try simp only [xa_set, List.set_cons_zero, List.set_cons_succ, List.getElem?_cons_zero, List.getElem?_cons_succ]
        refine ih (h + 1) (by omega) (by omega) ?_
        rw [ih_fst_n (f := (fun e => decide (ih_rs (t 112) p e m = false))) (by show decide (ih_rs (t 112) p h m = false) = false; rw [q]; rfl)] at K
        exact K
      · refine ih_seg (i1 := 28) 2 rfl ?_
        refine ih_ret rfl rfl ?_
        first
          | (exfalso
             omega)
          | (refine ih_roR_ok K ?_ (ih_rr_r _)
             rw [ih_fst_y (f := (fun e => decide (ih_rs (t 112) p e m = false))) (by show decide (ih_rs (t 112) p h m = false) = true; rw [q]; rfl), if_neg (by omega)])


theorem r_op_gone {X : List Int} {t : ih_S} {Q : Option xa_V → ih_S → Prop} {a b : Int} (ha : xa_rI a) (hb : xa_rI b) (G : ih_Gd (t 112)) (K : ih_roR t (f_gone (t 112) a b) Q) : ih_Wp X 152 0 [xR 111, xI a, xI b, xC 1] [] t Q := by
  refine ih_seg (i1 := 3) 3 rfl ?_
  refine ih_iv2 131 rfl rfl (by first | rfl | exact ih_kP (ih_P_w0 hc) |  exact ih_kP (by assumption) | exact ih_kC (by assumption) | exact ih_kN (by assumption) | exact ih_kS (by assumption) | exact ih_kW (by assumption)) (Nat.le_of_ble_eq_true rfl) (Nat.le_of_ble_eq_true rfl) rfl ?_
  refine r_isMark (by omega) (by omega) (fun p hp => (G.pap p hp).sz) (fun p m ea eb hp hm => ?_) (fun hn => ?_)
  · refine ih_seg (i1 := 9) 1 rfl ?_
    subst ea eb
    have P := G.pap p hp
    have g0 := P.sz
    have ga := P.at_ m hm
    refine ih_seg (i1 := 10) 1 rfl ?_
    refine ih_getR rfl rfl ?_
    refine ih_seg (i1 := 13) 2 rfl ?_
    refine ih_is2 132 rfl rfl (Nat.le_of_ble_eq_true rfl) (Nat.le_of_ble_eq_true rfl) rfl ?_
    refine r_at ?_
    refine ih_seg (i1 := 16) 2 rfl ?_
    try dsimp only
    refine ih_iald rfl (by first | rfl | exact ih_lP1 (ih_P_w0 hc) | exact ih_lP2 (ih_P_w0 hc) | exact ih_lP3 (ih_P_w0 hc) | exact ih_lP4 (ih_P_w0 hc) |  exact ih_lP1 (by assumption) | exact ih_lP2 (by assumption) | exact ih_lP3 (by assumption) | exact ih_lP4 (by assumption) | exact ih_lC1 (by assumption) | exact ih_lS1 (by assumption) | exact ih_lW1 (by assumption) | exact ih_lW2 (by assumption) | exact ih_lW4 (by assumption) | exact ih_lW5 (by assumption)) (by omega) (by omega) (k := ?_)
    refine ih_seg (i1 := 18) 1 rfl ?_
    try simp only [xa_set, List.set_cons_zero, List.set_cons_succ, List.getElem?_cons_zero, List.getElem?_cons_succ]
    rw [f_gone, if_pos (by omega)] at K
    simp only [Int.toNat_natCast] at K
    exact r_gone_l hp G hm _ _ (by omega) (by omega) K
  · refine ih_seg (i1 := 7) 3 rfl ?_
    refine ih_iv1 127 rfl rfl (by first | rfl | exact ih_kP (ih_P_w0 hc) |  exact ih_kP (by assumption) | exact ih_kC (by assumption) | exact ih_kN (by assumption) | exact ih_kS (by assumption) | exact ih_kW (by assumption)) (Nat.le_of_ble_eq_true rfl) (Nat.le_of_ble_eq_true rfl) rfl ?_
    refine r_finds 0 rfl (by omega) ?_
    refine ih_ret rfl rfl ?_
    have hn2 : ¬ ((0 ≤ a ∧ a < 4) ∧ 0 ≤ b ∧ b < t 112 (22 + a)) := by
      rintro ⟨q1, q2, q3⟩
      refine hn a.toNat b.toNat (by omega) (by omega) (by omega) ?_
      rw [show ((a.toNat : Nat) : Int) = a by omega]
      omega
    exact ih_roR_no 0 K (by rw [f_gone, if_neg hn2]) rfl (ih_rr_r _)

