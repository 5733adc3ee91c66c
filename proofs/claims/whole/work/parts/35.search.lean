/-! The first hour at which .. -/
def ih_fst (f : Int → Bool) (a : Int) : Nat → Int
  | 0 => a
  | n + 1 => if f a = true then a else ih_fst f (a + 1) n
theorem ih_fst_is {f : Int → Bool} {v : Int} : ∀ {n : Nat} {a : Int}, a ≤ v → v ≤ a + n → (∀ e, a ≤ e → e < v → f e = false) → (v < a + n → f v = true) → ih_fst f a n = v
  | 0, a, h0, h1, h2, h3 => by show a = v; omega
  | n + 1, a, h0, h1, h2, h3 => by
    rw [ih_fst]
    by_cases e : a = v
    · subst e
      rw [if_pos (h3 (by omega))]
    · rw [if_neg (by rw [h2 a (by omega) (by omega)]; decide)]
      exact ih_fst_is (by omega) (by omega) (fun e a0 a1 => h2 e (by omega) a1) (fun q => h3 (by omega))
theorem ih_fst_rg {f : Int → Bool} : ∀ {n : Nat} {a : Int}, a ≤ ih_fst f a n ∧ ih_fst f a n ≤ a + n
  | 0, a => ⟨Int.le_refl a, by show a ≤ a + 0; omega⟩
  | n + 1, a => by
    have := ih_fst_rg (f := f) (n := n) (a := a + 1)
    rw [ih_fst]
    split <;> omega
theorem ih_fst_y {f : Int → Bool} {a : Int} {n : Nat} (h : f a = true) : ih_fst f a (n + 1) = a := by rw [ih_fst, if_pos h]
theorem ih_fst_n {f : Int → Bool} {a : Int} {n : Nat} (h : f a = false) : ih_fst f a (n + 1) = ih_fst f (a + 1) n := by rw [ih_fst, if_neg (by rw [h]; decide)]
def f_until (s : Int → Int) (a : Int) : ih_An := if 0 ≤ a ∧ a < 4 then (if 9999 < ih_fst (fun h => decide (ih_rM s a.toNat h ≠ ih_rM s a.toNat (s 0))) (s 0 + 1) (9999 - s 0).toNat then ih_no 3 else ih_ok1 (ih_fst (fun h => decide (ih_rM s a.toNat h ≠ ih_rM s a.toNat (s 0))) (s 0 + 1) (9999 - s 0).toNat)) else ih_no 0

theorem c_until {X : List Int} {t : ih_S} {Q : Option xa_V → ih_S → Prop} {s : Int → Int} {a : Int} (ha : xa_rI a) (W : ih_Wr t 1 s) (G : ih_Gd s) (K : ih_roC t (f_until s a) Q) : ih_Wp X 72 0 [xR 0, xI a, xC 1] [] t Q := by
  refine ih_seg (i1 := 1) 1 rfl ?_
  refine ih_is1 106 rfl rfl (Nat.le_of_ble_eq_true rfl) (Nat.le_of_ble_eq_true rfl) rfl ?_
  refine c_isPaper (by omega) (fun w1 => ?_) (fun w2 => ?_)
  · refine ih_seg (i1 := 9) 3 rfl ?_
    refine ih_iv1 116 rfl rfl (by first | rfl | exact ih_kP (by assumption) | exact ih_kC (by assumption) | exact ih_kN (by assumption) | exact ih_kS (by assumption) | exact ih_kW (by assumption)) (Nat.le_of_ble_eq_true rfl) (Nat.le_of_ble_eq_true rfl) rfl ?_
    obtain ⟨c, rfl⟩ := Int.eq_ofNat_of_zero_le (show 0 ≤ a by omega)
    have hc : c < 4 := by omega
    have P := ih_PG_W W G hc
    refine c_reckoned hc P (fun t1 hf he => ?_)
    have E1 := ih_EG_en hc P hf he
    have P1 := P.of hc (fun j hj => hf j (by omega))
    refine ih_seg (i1 := 11) 1 rfl ?_
    refine ih_getR rfl rfl ?_
    refine ih_getI rfl (by first | rfl | exact ih_fW5 (by assumption)) ?_
    refine ih_seg (i1 := 14) 1 rfl ?_
    refine ih_iv2 15 rfl rfl (by first | rfl | exact ih_kP (by assumption) | exact ih_kC (by assumption) | exact ih_kN (by assumption) | exact ih_kS (by assumption) | exact ih_kW (by assumption)) (Nat.le_of_ble_eq_true rfl) (Nat.le_of_ble_eq_true rfl) rfl ?_
    have nw := W.now
    have en : t1 1 = t 1 := hf 1 (by omega)
    have rw1 := G.now
    refine c_change hc P1 E1 (ih_fr_r _ _) (by rw [en]; omega) (by omega) (fun t2 v h2 v1 v2 v3 => ?_)
    rw [en, nw] at v1 v2 v3
    have sc2 := ih_sc_t (ih_sc_e hc hf) (ih_sc_f hc h2)
    have em : ∀ e, s 0 ≤ e → ih_M t1 c e = ih_rM s c e := fun e h => (ih_M_cM hc P hf he (by omega)).trans (ih_cM_rM W G hc)
    have fe : ih_fst (fun h => decide (ih_rM s c h ≠ ih_rM s c (s 0))) (s 0 + 1) (9999 - s 0).toNat = v := ih_fst_is (by omega) (by omega) (fun e e0 e1 => by
      rw [decide_eq_false_iff_not, ← em e (by omega), ← em (s 0) (by omega)]
      exact fun q => q (v2 e (by omega) e1)) (fun q => by
      rw [decide_eq_true_eq, ← em v (by omega), ← em (s 0) (by omega)]
      exact v3 (by omega))
    refine ih_seg (i1 := 18) 3 rfl ?_
    try simp only [xa_set, List.set_cons_zero, List.set_cons_succ, List.getElem?_cons_zero, List.getElem?_cons_succ]
    refine ih_icmp_le rfl (by omega) (by omega) (fun w3 => ?_) (fun w3 => ?_)
    · refine ih_seg (i1 := 24) 1 rfl ?_
      refine ih_ret rfl rfl ?_
      first
        | (refine ih_roC_ok K ?_ sc2
           rw [f_until, if_pos (by omega)]
           simp only [Int.toNat_natCast]
           rw [fe, if_neg (by omega)])
        | (refine ih_roC_no K ?_ sc2
           rw [f_until, if_pos (by omega)]
           simp only [Int.toNat_natCast]
           rw [fe, if_pos (by omega)])
        | exact ih_roC_no K (by rw [f_until, if_neg (by omega)]) (ih_sc_r _)
    · refine ih_seg (i1 := 21) 2 rfl ?_
      refine ih_iv1 102 rfl rfl (by first | rfl | exact ih_kP (by assumption) | exact ih_kC (by assumption) | exact ih_kN (by assumption) | exact ih_kS (by assumption) | exact ih_kW (by assumption)) (Nat.le_of_ble_eq_true rfl) (Nat.le_of_ble_eq_true rfl) rfl ?_
      refine c_finding (by omega) ?_
      refine ih_seg (i1 := 24) 1 rfl ?_
      refine ih_ret rfl rfl ?_
      first
        | (refine ih_roC_ok K ?_ sc2
           rw [f_until, if_pos (by omega)]
           simp only [Int.toNat_natCast]
           rw [fe, if_neg (by omega)])
        | (refine ih_roC_no K ?_ sc2
           rw [f_until, if_pos (by omega)]
           simp only [Int.toNat_natCast]
           rw [fe, if_pos (by omega)])
        | exact ih_roC_no K (by rw [f_until, if_neg (by omega)]) (ih_sc_r _)
  · refine ih_seg (i1 := 5) 3 rfl ?_
    refine ih_iv1 102 rfl rfl (by first | rfl | exact ih_kP (by assumption) | exact ih_kC (by assumption) | exact ih_kN (by assumption) | exact ih_kS (by assumption) | exact ih_kW (by assumption)) (Nat.le_of_ble_eq_true rfl) (Nat.le_of_ble_eq_true rfl) rfl ?_
    refine c_finding (by omega) ?_
    refine ih_ret rfl rfl ?_
    first
      | (refine ih_roC_ok K ?_ sc2
         rw [f_until, if_pos (by omega)]
         simp only [Int.toNat_natCast]
         rw [fe, if_neg (by omega)])
      | (refine ih_roC_no K ?_ sc2
         rw [f_until, if_pos (by omega)]
         simp only [Int.toNat_natCast]
         rw [fe, if_pos (by omega)])
      | exact ih_roC_no K (by rw [f_until, if_neg (by omega)]) (ih_sc_r _)


theorem r_until_l {X : List Int} {t : ih_S} {Q : Option xa_V → ih_S → Prop} {p : Nat} {m : Int} (hp : p < 4) (G : ih_Gd (t 112)) (hm : -1 ≤ m ∧ m < 65536) : ∀ (d : Nat) (h : Int) (t1 : ih_S) (hd : h + d = 10000) (h0 : 0 ≤ h) (hf : ih_rf t t1) (K : ih_roR t (if 9999 < ih_fst (fun e => decide (ih_rM (t 112) p e ≠ m)) h d then ih_no 3 else ih_ok1 (ih_fst (fun e => decide (ih_rM (t 112) p e ≠ m)) h d)) Q), ih_Wp X 160 22 [xR 111, xI p, xI m, xI h] [] t1 Q := by
  intro d
  induction d with
  | zero =>
    intro h t1 hd h0 hf K
    have mr := ih_rM_rg (t 112) p h
    refine ih_seg (i1 := 24) 2 rfl ?_
    refine ih_icmp_gt rfl (by omega) (by omega) (fun w1 => ?_) (fun w1 => ?_)
    · refine ih_seg (i1 := 37) 2 rfl ?_
      refine ih_iv1 127 rfl rfl (by first | rfl | exact ih_kP (by assumption) | exact ih_kC (by assumption) | exact ih_kN (by assumption) | exact ih_kS (by assumption) | exact ih_kW (by assumption)) (Nat.le_of_ble_eq_true rfl) (Nat.le_of_ble_eq_true rfl) rfl ?_
      refine r_finds 3 rfl (by omega) ?_
      refine ih_ret rfl rfl ?_
      refine ih_roR_no 3 K ?_ rfl (ih_rr_f hf)
      rw [if_pos (by show 9999 < h; omega)]
    · refine ih_seg (i1 := 28) 3 rfl ?_
      refine ih_iv2 157 rfl rfl (by first | rfl | exact ih_kP (by assumption) | exact ih_kC (by assumption) | exact ih_kN (by assumption) | exact ih_kS (by assumption) | exact ih_kW (by assumption)) (Nat.le_of_ble_eq_true rfl) (Nat.le_of_ble_eq_true rfl) rfl ?_
      exfalso
      omega
  | succ d ih =>
    intro h t1 hd h0 hf K
    have mr := ih_rM_rg (t 112) p h
    refine ih_seg (i1 := 24) 2 rfl ?_
    refine ih_icmp_gt rfl (by omega) (by omega) (fun w1 => ?_) (fun w1 => ?_)
    · refine ih_seg (i1 := 37) 2 rfl ?_
      refine ih_iv1 127 rfl rfl (by first | rfl | exact ih_kP (by assumption) | exact ih_kC (by assumption) | exact ih_kN (by assumption) | exact ih_kS (by assumption) | exact ih_kW (by assumption)) (Nat.le_of_ble_eq_true rfl) (Nat.le_of_ble_eq_true rfl) rfl ?_
      refine r_finds 3 rfl (by omega) ?_
      refine ih_ret rfl rfl ?_
      first
        | (exfalso; omega)
        | (refine ih_roR_ok K ?_ (ih_rr_f hf)
           rw [ih_fst_y (f := fun e => decide (ih_rM (t 112) p e ≠ m)) (by show decide (ih_rM (t 112) p h ≠ m) = true; rw [decide_eq_true_eq]; omega), if_neg (by omega)])
    · refine ih_seg (i1 := 28) 3 rfl ?_
      refine ih_iv2 157 rfl rfl (by first | rfl | exact ih_kP (by assumption) | exact ih_kC (by assumption) | exact ih_kN (by assumption) | exact ih_kS (by assumption) | exact ih_kW (by assumption)) (Nat.le_of_ble_eq_true rfl) (Nat.le_of_ble_eq_true rfl) rfl ?_
      refine r_meansAt hp (G.pap p hp) hf (by omega) (fun t2 hf => ?_)
      refine ih_seg (i1 := 30) 1 rfl ?_
      refine ih_icmp_eq rfl (by omega) (by omega) (fun w2 => ?_) (fun w2 => ?_)
      · refine ih_seg (i1 := 22) 2 rfl ?_
        try simp only [xa_set, List.set_cons_zero, List.set_cons_succ, List.getElem?_cons_zero, List.getElem?_cons_succ]
        refine ih (h + 1) _ (by omega) (by omega) hf ?_
        rw [ih_fst_n (f := fun e => decide (ih_rM (t 112) p e ≠ m)) (by show decide (ih_rM (t 112) p h ≠ m) = false; rw [decide_eq_false_iff_not]; omega)] at K
        exact K
      · refine ih_seg (i1 := 32) 1 rfl ?_
        refine ih_ret rfl rfl ?_
        first
          | (exfalso; omega)
          | (refine ih_roR_ok K ?_ (ih_rr_f hf)
             rw [ih_fst_y (f := fun e => decide (ih_rM (t 112) p e ≠ m)) (by show decide (ih_rM (t 112) p h ≠ m) = true; rw [decide_eq_true_eq]; omega), if_neg (by omega)])

theorem r_until {X : List Int} {t : ih_S} {Q : Option xa_V → ih_S → Prop} {a : Int} (ha : xa_rI a) (G : ih_Gd (t 112)) (K : ih_roR t (f_until (t 112) a) Q) : ih_Wp X 160 0 [xR 111, xI a, xC 1, xC 1] [] t Q := by
  refine ih_seg (i1 := 1) 1 rfl ?_
  refine ih_is1 128 rfl rfl (Nat.le_of_ble_eq_true rfl) (Nat.le_of_ble_eq_true rfl) rfl ?_
  refine r_isPaper (by omega) (fun w1 => ?_) (fun w2 => ?_)
  · refine ih_seg (i1 := 10) 4 rfl ?_
    refine ih_getR rfl rfl ?_
    refine ih_seg (i1 := 12) 1 rfl ?_
    refine ih_iald rfl (by first | rfl | exact ih_lP1 (by assumption) | exact ih_lP2 (by assumption) | exact ih_lP3 (by assumption) | exact ih_lP4 (by assumption) | exact ih_lC1 (by assumption) | exact ih_lS1 (by assumption) | exact ih_lW1 (by assumption) | exact ih_lW2 (by assumption) | exact ih_lW4 (by assumption) | exact ih_lW5 (by assumption)) (by omega) (by omega) (k := ?_)
    refine ih_iv2 157 rfl rfl (by first | rfl | exact ih_kP (by assumption) | exact ih_kC (by assumption) | exact ih_kN (by assumption) | exact ih_kS (by assumption) | exact ih_kW (by assumption)) (Nat.le_of_ble_eq_true rfl) (Nat.le_of_ble_eq_true rfl) rfl ?_
    obtain ⟨p, rfl⟩ := Int.eq_ofNat_of_zero_le (show 0 ≤ a by omega)
    have hp : p < 4 := by omega
    have nw := G.now
    refine r_meansAt hp (G.pap p hp) (ih_rf_r _) (by omega) (fun t1 h1 => ?_)
    refine ih_seg (i1 := 16) 2 rfl ?_
    try simp only [xa_set, List.set_cons_zero, List.set_cons_succ, List.getElem?_cons_zero, List.getElem?_cons_succ]
    refine ih_getR rfl rfl ?_
    refine ih_seg (i1 := 18) 1 rfl ?_
    refine ih_iald rfl (by first | rfl | exact ih_lP1 (by assumption) | exact ih_lP2 (by assumption) | exact ih_lP3 (by assumption) | exact ih_lP4 (by assumption) | exact ih_lC1 (by assumption) | exact ih_lS1 (by assumption) | exact ih_lW1 (by assumption) | exact ih_lW2 (by assumption) | exact ih_lW4 (by assumption) | exact ih_lW5 (by assumption)) (by omega) (by omega) (k := ?_)
    refine ih_seg (i1 := 22) 3 rfl ?_
    try simp only [xa_set, List.set_cons_zero, List.set_cons_succ, List.getElem?_cons_zero, List.getElem?_cons_succ]
    rw [ih_rf_s h1]
    refine r_until_l hp G (ih_rM_rg _ _ _) (9999 - t 112 0).toNat _ _ (by omega) (by omega) h1 ?_
    rw [f_until, if_pos (by omega)] at K
    exact K
  · refine ih_seg (i1 := 5) 3 rfl ?_
    refine ih_iv1 127 rfl rfl (by first | rfl | exact ih_kP (by assumption) | exact ih_kC (by assumption) | exact ih_kN (by assumption) | exact ih_kS (by assumption) | exact ih_kW (by assumption)) (Nat.le_of_ble_eq_true rfl) (Nat.le_of_ble_eq_true rfl) rfl ?_
    refine r_finds 0 rfl (by omega) ?_
    refine ih_ret rfl rfl ?_
    exact ih_roR_no 0 K (by rw [f_until, if_neg (by omega)]) rfl (ih_rr_r _)


def f_shows (s : Int → Int) (a m : Int) : ih_An := if (0 ≤ a ∧ a < 4) ∧ -1 ≤ m ∧ m ≤ 65535 then (if 9999 < ih_fst (fun h => decide (ih_rM s a.toNat h = m)) (s 0) (10000 - s 0).toNat then ih_no 3 else ih_ok1 (ih_fst (fun h => decide (ih_rM s a.toNat h = m)) (s 0) (10000 - s 0).toNat)) else ih_no 0

theorem c_shows {X : List Int} {t : ih_S} {Q : Option xa_V → ih_S → Prop} {s : Int → Int} {a m : Int} (ha : xa_rI a) (hm : xa_rI m) (W : ih_Wr t 1 s) (G : ih_Gd s) (K : ih_roC t (f_shows s a m) Q) : ih_Wp X 74 0 [xR 0, xI a, xI m, xC 1] [] t Q := by
  refine ih_seg (i1 := 1) 1 rfl ?_
  refine ih_is1 106 rfl rfl (Nat.le_of_ble_eq_true rfl) (Nat.le_of_ble_eq_true rfl) rfl ?_
  refine c_isPaper (by omega) (fun w1 => ?_) (fun w2 => ?_)
  · refine ih_seg (i1 := 6) 4 rfl ?_
    refine ih_is3 103 rfl rfl (Nat.le_of_ble_eq_true rfl) (Nat.le_of_ble_eq_true rfl) rfl ?_
    refine c_within (by omega) (by omega) (by omega) (fun w3 => ?_) (fun w4 => ?_)
    · refine ih_seg (i1 := 14) 3 rfl ?_
      refine ih_iv1 116 rfl rfl (by first | rfl | exact ih_kP (by assumption) | exact ih_kC (by assumption) | exact ih_kN (by assumption) | exact ih_kS (by assumption) | exact ih_kW (by assumption)) (Nat.le_of_ble_eq_true rfl) (Nat.le_of_ble_eq_true rfl) rfl ?_
      obtain ⟨c, rfl⟩ := Int.eq_ofNat_of_zero_le (show 0 ≤ a by omega)
      have hc : c < 4 := by omega
      have P := ih_PG_W W G hc
      refine c_reckoned hc P (fun t1 hf he => ?_)
      have E1 := ih_EG_en hc P hf he
      have P1 := P.of hc (fun j hj => hf j (by omega))
      refine ih_seg (i1 := 17) 2 rfl ?_
      refine ih_getR rfl rfl ?_
      refine ih_getI rfl (by first | rfl | exact ih_fW5 (by assumption)) ?_
      refine ih_iv2 18 rfl rfl (by first | rfl | exact ih_kP (by assumption) | exact ih_kC (by assumption) | exact ih_kN (by assumption) | exact ih_kS (by assumption) | exact ih_kW (by assumption)) (Nat.le_of_ble_eq_true rfl) (Nat.le_of_ble_eq_true rfl) rfl ?_
      have nw := W.now
      have en : t1 1 = t 1 := hf 1 (by omega)
      have rw1 := G.now
      refine c_first hc P1 E1 (ih_fr_r _ _) (by rw [en]; omega) (by omega) (fun t2 v h2 v1 v2 v3 => ?_)
      rw [en, nw] at v1 v2
      have sc2 := ih_sc_t (ih_sc_e hc hf) (ih_sc_f hc h2)
      have em : ∀ e, s 0 ≤ e → ih_M t1 c e = ih_rM s c e := fun e h => (ih_M_cM hc P hf he (by omega)).trans (ih_cM_rM W G hc)
      have fe : ih_fst (fun h => decide (ih_rM s c h = m)) (s 0) (10000 - s 0).toNat = v := ih_fst_is (by omega) (by omega) (fun e e0 e1 => by
        rw [decide_eq_false_iff_not, ← em e (by omega)]
        exact v2 e (by omega) e1) (fun q => by
        rw [decide_eq_true_eq, ← em v (by omega)]
        exact v3 (by omega))
      refine ih_seg (i1 := 23) 3 rfl ?_
      try simp only [xa_set, List.set_cons_zero, List.set_cons_succ, List.getElem?_cons_zero, List.getElem?_cons_succ]
      refine ih_icmp_le rfl (by omega) (by omega) (fun w5 => ?_) (fun w5 => ?_)
      · refine ih_seg (i1 := 29) 1 rfl ?_
        refine ih_ret rfl rfl ?_
        first
          | (refine ih_roC_ok K ?_ sc2
             rw [f_shows, if_pos (by omega)]
             simp only [Int.toNat_natCast]
             rw [fe, if_neg (by omega)])
          | (refine ih_roC_no K ?_ sc2
             rw [f_shows, if_pos (by omega)]
             simp only [Int.toNat_natCast]
             rw [fe, if_pos (by omega)])
          | exact ih_roC_no K (by rw [f_shows, if_neg (by omega)]) (ih_sc_r _)
      · refine ih_seg (i1 := 26) 2 rfl ?_
        refine ih_iv1 102 rfl rfl (by first | rfl | exact ih_kP (by assumption) | exact ih_kC (by assumption) | exact ih_kN (by assumption) | exact ih_kS (by assumption) | exact ih_kW (by assumption)) (Nat.le_of_ble_eq_true rfl) (Nat.le_of_ble_eq_true rfl) rfl ?_
        refine c_finding (by omega) ?_
        refine ih_seg (i1 := 29) 1 rfl ?_
        refine ih_ret rfl rfl ?_
        first
          | (refine ih_roC_ok K ?_ sc2
             rw [f_shows, if_pos (by omega)]
             simp only [Int.toNat_natCast]
             rw [fe, if_neg (by omega)])
          | (refine ih_roC_no K ?_ sc2
             rw [f_shows, if_pos (by omega)]
             simp only [Int.toNat_natCast]
             rw [fe, if_pos (by omega)])
          | exact ih_roC_no K (by rw [f_shows, if_neg (by omega)]) (ih_sc_r _)
    · refine ih_seg (i1 := 10) 3 rfl ?_
      refine ih_iv1 102 rfl rfl (by first | rfl | exact ih_kP (by assumption) | exact ih_kC (by assumption) | exact ih_kN (by assumption) | exact ih_kS (by assumption) | exact ih_kW (by assumption)) (Nat.le_of_ble_eq_true rfl) (Nat.le_of_ble_eq_true rfl) rfl ?_
      refine c_finding (by omega) ?_
      refine ih_ret rfl rfl ?_
      first
        | (refine ih_roC_ok K ?_ sc2
           rw [f_shows, if_pos (by omega)]
           simp only [Int.toNat_natCast]
           rw [fe, if_neg (by omega)])
        | (refine ih_roC_no K ?_ sc2
           rw [f_shows, if_pos (by omega)]
           simp only [Int.toNat_natCast]
           rw [fe, if_pos (by omega)])
        | exact ih_roC_no K (by rw [f_shows, if_neg (by omega)]) (ih_sc_r _)
  · refine ih_seg (i1 := 10) 3 rfl ?_
    refine ih_iv1 102 rfl rfl (by first | rfl | exact ih_kP (by assumption) | exact ih_kC (by assumption) | exact ih_kN (by assumption) | exact ih_kS (by assumption) | exact ih_kW (by assumption)) (Nat.le_of_ble_eq_true rfl) (Nat.le_of_ble_eq_true rfl) rfl ?_
    refine c_finding (by omega) ?_
    refine ih_ret rfl rfl ?_
    first
      | (refine ih_roC_ok K ?_ sc2
         rw [f_shows, if_pos (by omega)]
         simp only [Int.toNat_natCast]
         rw [fe, if_neg (by omega)])
      | (refine ih_roC_no K ?_ sc2
         rw [f_shows, if_pos (by omega)]
         simp only [Int.toNat_natCast]
         rw [fe, if_pos (by omega)])
      | exact ih_roC_no K (by rw [f_shows, if_neg (by omega)]) (ih_sc_r _)


theorem r_shows_l {X : List Int} {t : ih_S} {Q : Option xa_V → ih_S → Prop} {p : Nat} {m : Int} (hp : p < 4) (G : ih_Gd (t 112)) (hm : -1 ≤ m ∧ m < 65536) : ∀ (d : Nat) (h : Int) (t1 : ih_S) (hd : h + d = 10000) (h0 : 0 ≤ h) (hf : ih_rf t t1) (K : ih_roR t (if 9999 < ih_fst (fun e => decide (ih_rM (t 112) p e = m)) h d then ih_no 3 else ih_ok1 (ih_fst (fun e => decide (ih_rM (t 112) p e = m)) h d)) Q), ih_Wp X 162 18 [xR 111, xI p, xI m, xI h] [] t1 Q := by
  intro d
  induction d with
  | zero =>
    intro h t1 hd h0 hf K
    have mr := ih_rM_rg (t 112) p h
    refine ih_seg (i1 := 20) 2 rfl ?_
    refine ih_icmp_gt rfl (by omega) (by omega) (fun w1 => ?_) (fun w1 => ?_)
    · refine ih_seg (i1 := 33) 2 rfl ?_
      refine ih_iv1 127 rfl rfl (by first | rfl | exact ih_kP (by assumption) | exact ih_kC (by assumption) | exact ih_kN (by assumption) | exact ih_kS (by assumption) | exact ih_kW (by assumption)) (Nat.le_of_ble_eq_true rfl) (Nat.le_of_ble_eq_true rfl) rfl ?_
      refine r_finds 3 rfl (by omega) ?_
      refine ih_ret rfl rfl ?_
      refine ih_roR_no 3 K ?_ rfl (ih_rr_f hf)
      rw [if_pos (by show 9999 < h; omega)]
    · refine ih_seg (i1 := 24) 3 rfl ?_
      refine ih_iv2 157 rfl rfl (by first | rfl | exact ih_kP (by assumption) | exact ih_kC (by assumption) | exact ih_kN (by assumption) | exact ih_kS (by assumption) | exact ih_kW (by assumption)) (Nat.le_of_ble_eq_true rfl) (Nat.le_of_ble_eq_true rfl) rfl ?_
      exfalso
      omega
  | succ d ih =>
    intro h t1 hd h0 hf K
    have mr := ih_rM_rg (t 112) p h
    refine ih_seg (i1 := 20) 2 rfl ?_
    refine ih_icmp_gt rfl (by omega) (by omega) (fun w1 => ?_) (fun w1 => ?_)
    · refine ih_seg (i1 := 33) 2 rfl ?_
      refine ih_iv1 127 rfl rfl (by first | rfl | exact ih_kP (by assumption) | exact ih_kC (by assumption) | exact ih_kN (by assumption) | exact ih_kS (by assumption) | exact ih_kW (by assumption)) (Nat.le_of_ble_eq_true rfl) (Nat.le_of_ble_eq_true rfl) rfl ?_
      refine r_finds 3 rfl (by omega) ?_
      refine ih_ret rfl rfl ?_
      first
        | (exfalso; omega)
        | (refine ih_roR_ok K ?_ (ih_rr_f hf)
           rw [ih_fst_y (f := fun e => decide (ih_rM (t 112) p e = m)) (by show decide (ih_rM (t 112) p h = m) = true; rw [decide_eq_true_eq]; omega), if_neg (by omega)])
    · refine ih_seg (i1 := 24) 3 rfl ?_
      refine ih_iv2 157 rfl rfl (by first | rfl | exact ih_kP (by assumption) | exact ih_kC (by assumption) | exact ih_kN (by assumption) | exact ih_kS (by assumption) | exact ih_kW (by assumption)) (Nat.le_of_ble_eq_true rfl) (Nat.le_of_ble_eq_true rfl) rfl ?_
      refine r_meansAt hp (G.pap p hp) hf (by omega) (fun t2 hf => ?_)
      refine ih_seg (i1 := 26) 1 rfl ?_
      refine ih_icmp_ne rfl (by omega) (by omega) (fun w2 => ?_) (fun w2 => ?_)
      · refine ih_seg (i1 := 18) 2 rfl ?_
        try simp only [xa_set, List.set_cons_zero, List.set_cons_succ, List.getElem?_cons_zero, List.getElem?_cons_succ]
        refine ih (h + 1) _ (by omega) (by omega) hf ?_
        rw [ih_fst_n (f := fun e => decide (ih_rM (t 112) p e = m)) (by show decide (ih_rM (t 112) p h = m) = false; rw [decide_eq_false_iff_not]; omega)] at K
        exact K
      · refine ih_seg (i1 := 28) 1 rfl ?_
        refine ih_ret rfl rfl ?_
        first
          | (exfalso; omega)
          | (refine ih_roR_ok K ?_ (ih_rr_f hf)
             rw [ih_fst_y (f := fun e => decide (ih_rM (t 112) p e = m)) (by show decide (ih_rM (t 112) p h = m) = true; rw [decide_eq_true_eq]; omega), if_neg (by omega)])

theorem r_shows {X : List Int} {t : ih_S} {Q : Option xa_V → ih_S → Prop} {a m : Int} (ha : xa_rI a) (hm : xa_rI m) (G : ih_Gd (t 112)) (K : ih_roR t (f_shows (t 112) a m) Q) : ih_Wp X 162 0 [xR 111, xI a, xI m, xC 1] [] t Q := by
  refine ih_seg (i1 := 1) 1 rfl ?_
  refine ih_is1 128 rfl rfl (Nat.le_of_ble_eq_true rfl) (Nat.le_of_ble_eq_true rfl) rfl ?_
  refine r_isPaper (by omega) (fun w1 => ?_) (fun w2 => ?_)
  · refine ih_seg (i1 := 4) 2 rfl ?_
    refine ih_i2l rfl (by omega) ?_
    refine ih_seg (i1 := 7) 2 rfl ?_
    refine ih_is3 126 rfl rfl (Nat.le_of_ble_eq_true rfl) (Nat.le_of_ble_eq_true rfl) rfl ?_
    refine r_in (by omega) (by omega) (by omega) (fun w3 => ?_) (fun w4 => ?_)
    · refine ih_seg (i1 := 14) 2 rfl ?_
      refine ih_getR rfl rfl ?_
      refine ih_seg (i1 := 16) 1 rfl ?_
      refine ih_iald rfl (by first | rfl | exact ih_lP1 (by assumption) | exact ih_lP2 (by assumption) | exact ih_lP3 (by assumption) | exact ih_lP4 (by assumption) | exact ih_lC1 (by assumption) | exact ih_lS1 (by assumption) | exact ih_lW1 (by assumption) | exact ih_lW2 (by assumption) | exact ih_lW4 (by assumption) | exact ih_lW5 (by assumption)) (by omega) (by omega) (k := ?_)
      refine ih_seg (i1 := 18) 1 rfl ?_
      try simp only [xa_set, List.set_cons_zero, List.set_cons_succ, List.getElem?_cons_zero, List.getElem?_cons_succ]
      obtain ⟨p, rfl⟩ := Int.eq_ofNat_of_zero_le (show 0 ≤ a by omega)
      have hp : p < 4 := by omega
      have nw := G.now
      refine r_shows_l hp G (by omega) (10000 - t 112 0).toNat _ _ (by omega) (by omega) (ih_rf_r _) ?_
      rw [f_shows, if_pos (by omega)] at K
      exact K
    · refine ih_seg (i1 := 11) 3 rfl ?_
      refine ih_iv1 127 rfl rfl (by first | rfl | exact ih_kP (by assumption) | exact ih_kC (by assumption) | exact ih_kN (by assumption) | exact ih_kS (by assumption) | exact ih_kW (by assumption)) (Nat.le_of_ble_eq_true rfl) (Nat.le_of_ble_eq_true rfl) rfl ?_
      refine r_finds 0 rfl (by omega) ?_
      refine ih_ret rfl rfl ?_
      exact ih_roR_no 0 K (by rw [f_shows, if_neg (by omega)]) rfl (ih_rr_r _)
  · refine ih_seg (i1 := 11) 3 rfl ?_
    refine ih_iv1 127 rfl rfl (by first | rfl | exact ih_kP (by assumption) | exact ih_kC (by assumption) | exact ih_kN (by assumption) | exact ih_kS (by assumption) | exact ih_kW (by assumption)) (Nat.le_of_ble_eq_true rfl) (Nat.le_of_ble_eq_true rfl) rfl ?_
    refine r_finds 0 rfl (by omega) ?_
    refine ih_ret rfl rfl ?_
    exact ih_roR_no 0 K (by rw [f_shows, if_neg (by omega)]) rfl (ih_rr_r _)

