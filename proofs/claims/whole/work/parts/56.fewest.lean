/-! fewest: the reference's half -/
theorem ih_cs_RG {s : Int → Int} {p w : Nat} {ink : Int} (G : ih_Gd s) (hp : p < 4) (hi : 0 ≤ ink ∧ ink < 8) : ih_RG (ih_cs2 s p ink w (s (22 + p))) p := by
  have P := G.pap p hp
  have z := P.sz
  have e22 : ih_cs2 s p ink w (s (22 + p)) (22 + p) = s (22 + p) := ih_cs_lo (by omega)
  refine ⟨by rw [e22]; exact z, by rw [ih_cs_lo (by omega)]; exact P.lit, fun k hk => ?_, fun k hk => ?_, fun k hk => ?_, fun k hk => ?_, fun j h0 h1 => by rw [ih_cs_lo (by omega)]; exact P.las j h0 h1⟩
  all_goals rw [e22] at hk
  · rw [ih_cs_kd hk]
    exact P.kd k hk
  · rw [ih_cs_lt hk]
    exact P.lt k hk
  · rw [ih_cs_ink hk]
    split
    · exact hi
    · exact P.ink k hk
  · rw [ih_cs_ats hk]
    split
    · exact G.now
    · exact P.at_ k hk
theorem ih_cs_y {s : Int → Int} {p w k : Nat} {ink : Int} (h : w.testBit k = true) : g_cop (ih_cs2 s p ink w k) p k ink = ih_cs2 s p ink w ((k + 1 : Nat) : Int) := by
  have e0 : ih_cs2 s p ink w k 0 = s 0 := ih_cs_lo (by omega)
  funext x
  unfold g_cop
  rw [e0, ih_u1x, ih_u1x]
  by_cases q : 26 + 48 * (p : Int) + 4 * k ≤ x ∧ x < 26 + 48 * p + 4 * k + 4
  · have r : x = 26 + 48 * (p : Int) + 4 * k + ((0 : Nat) : Int) ∨ x = 26 + 48 * (p : Int) + 4 * k + ((1 : Nat) : Int) ∨ x = 26 + 48 * (p : Int) + 4 * k + ((2 : Nat) : Int) ∨ x = 26 + 48 * (p : Int) + 4 * k + ((3 : Nat) : Int) := by omega
    have hk : (k : Int) < ((k + 1 : Nat) : Int) := by omega
    rcases r with r | r | r | r
    · rw [r, ih_cs_at (by decide) hk, if_pos h, if_neg (by omega), if_neg (by omega), ih_cs_lo (by omega)]
      simp
    · rw [r, ih_cs_at (by decide) hk, if_pos h, if_neg (by omega), if_neg (by omega), ih_cs_lo (by omega)]
      simp
    · rw [r, ih_cs_at (by decide) hk, if_pos h, if_neg (by omega), if_pos (by omega)]
      simp
    · rw [r, ih_cs_at (by decide) hk, if_pos h, if_pos (by omega)]
      simp
  · rw [if_neg (by omega), if_neg (by omega)]
    unfold ih_cs2
    by_cases q2 : 26 + 48 * (p : Int) ≤ x ∧ x < 26 + 48 * p + 4 * k
    · by_cases q3 : w.testBit ((x - 26 - 48 * (p : Int)) / 4).toNat = true
      · have c1 : 26 + 48 * (p : Int) ≤ x ∧ x < 26 + 48 * p + 4 * (k : Int) ∧ w.testBit ((x - 26 - 48 * (p : Int)) / 4).toNat = true := ⟨q2.1, q2.2, q3⟩
        have c2 : 26 + 48 * (p : Int) ≤ x ∧ x < 26 + 48 * p + 4 * ((k + 1 : Nat) : Int) ∧ w.testBit ((x - 26 - 48 * (p : Int)) / 4).toNat = true := ⟨q2.1, by omega, q3⟩
        rw [if_pos c1, if_pos c2]
      · rw [if_neg (fun k => q3 k.2.2), if_neg (fun k => q3 k.2.2)]
    · rw [if_neg (fun k => q2 ⟨k.1, k.2.1⟩), if_neg (fun k => q2 ⟨k.1, by omega⟩)]
theorem ih_cs_n {s : Int → Int} {p w k : Nat} {ink : Int} (h : w.testBit k = false) : ih_cs2 s p ink w k = ih_cs2 s p ink w ((k + 1 : Nat) : Int) := by
  funext x
  unfold ih_cs2
  by_cases q : 26 + 48 * (p : Int) + 4 * k ≤ x ∧ x < 26 + 48 * p + 4 * k + 4
  · rw [if_neg (by omega), if_neg]
    rw [show ((x - 26 - 48 * (p : Int)) / 4).toNat = k by omega, h]
    simp
  · by_cases q2 : 26 + 48 * (p : Int) ≤ x ∧ x < 26 + 48 * p + 4 * k
    · by_cases q3 : w.testBit ((x - 26 - 48 * (p : Int)) / 4).toNat = true
      · have c1 : 26 + 48 * (p : Int) ≤ x ∧ x < 26 + 48 * p + 4 * (k : Int) ∧ w.testBit ((x - 26 - 48 * (p : Int)) / 4).toNat = true := ⟨q2.1, q2.2, q3⟩
        have c2 : 26 + 48 * (p : Int) ≤ x ∧ x < 26 + 48 * p + 4 * ((k + 1 : Nat) : Int) ∧ w.testBit ((x - 26 - 48 * (p : Int)) / 4).toNat = true := ⟨q2.1, by omega, q3⟩
        rw [if_pos c1, if_pos c2]
      · rw [if_neg (fun k => q3 k.2.2), if_neg (fun k => q3 k.2.2)]
    · rw [if_neg (fun k => q2 ⟨k.1, k.2.1⟩), if_neg (fun k => q2 ⟨k.1, by omega⟩)]
theorem ih_cs_0 {s : Int → Int} {p w : Nat} {ink : Int} : ih_cs2 s p ink w ((0 : Nat) : Int) = s := by
  funext x
  unfold ih_cs2
  rw [if_neg (by omega)]

theorem r_has {X : List Int} {t : ih_S} {Q : Option xa_V → ih_S → Prop} {v k : Nat} (hv : v < 4096) (hk : k < 12) (kt : v.testBit k = true → Q (some (xI 1)) t) (kf : v.testBit k = false → Q (some (xI 0)) t) : ih_Wp X 133 0 [xI v, xI k] [] t Q := by
  have gb := ih_bit (v := v) (k := k) (by omega) (by omega)
  refine ih_seg (i1 := 6) 6 rfl ?_
  try dsimp only
  refine ih_icmp_ne rfl (by (first | omega | (rw [gb]; split <;> omega))) (by (first | omega | (rw [gb]; split <;> omega))) (fun w1 => ?_) (fun w1 => ?_)
  · refine ih_seg (i1 := 10) 1 rfl ?_
    refine ih_ret rfl rfl ?_
    first
      | (refine kt ?_
         cases q : v.testBit k with
         | true => rfl
         | false => rw [q] at gb; simp at gb; omega)
      | (refine kf ?_
         cases q : v.testBit k with
         | false => rfl
         | true => rw [q] at gb; simp at gb; omega)
  · refine ih_seg (i1 := 10) 2 rfl ?_
    refine ih_ret rfl rfl ?_
    first
      | (refine kt ?_
         cases q : v.testBit k with
         | true => rfl
         | false => rw [q] at gb; simp at gb; omega)
      | (refine kf ?_
         cases q : v.testBit k with
         | false => rfl
         | true => rw [q] at gb; simp at gb; omega)


theorem r_fc_l {X : List Int} {t : ih_S} {Q : Option xa_V → ih_S → Prop} {p w : Nat} {ink n e4 e5 e6 e7 : Int} {s : Int → Int} (hp : p < 4) (hi : 0 ≤ ink ∧ ink < 8) (hw : w < 4096) (G : ih_Gd s) (K : ∀ t1, t1 112 = ih_cs2 s p ink w (s (22 + p)) → (∀ j, j ≠ 112 → t1 j = t j) → ih_Wp X 170 90 [xR 111, xI p, xI ink, xI n, xI e4, xI e5, xI e6, xI e7, xI w, xI (s (22 + p))] [] t1 Q)  : ∀ (d : Nat) (k : Nat) (t1 : ih_S) (hd : (k : Int) + d = s (22 + p)) (hf : ∀ j, j ≠ 112 → t1 j = t j) (hr : t1 112 = ih_cs2 s p ink w k), ih_Wp X 170 71 [xR 111, xI p, xI ink, xI n, xI e4, xI e5, xI e6, xI e7, xI w, xI k] [] t1 Q := by
  intro d
  induction d with
  | zero =>
    intro k t1 hd hf hr
    have z := (G.pap p hp).sz
    have e22 : t1 112 (22 + p) = s (22 + p) := by rw [hr]; exact ih_cs_lo (by omega)
    refine ih_seg (i1 := 73) 2 rfl ?_
    refine ih_getR rfl rfl ?_
    refine ih_seg (i1 := 77) 3 rfl ?_
    try dsimp only
    refine ih_iald rfl (by first | rfl | exact ih_lP1 (ih_P_w0 hc) | exact ih_lP2 (ih_P_w0 hc) | exact ih_lP3 (ih_P_w0 hc) | exact ih_lP4 (ih_P_w0 hc) |  exact ih_lP1 (by assumption) | exact ih_lP2 (by assumption) | exact ih_lP3 (by assumption) | exact ih_lP4 (by assumption) | exact ih_lC1 (by assumption) | exact ih_lS1 (by assumption) | exact ih_lW1 (by assumption) | exact ih_lW2 (by assumption) | exact ih_lW4 (by assumption) | exact ih_lW5 (by assumption)) (by omega) (by omega) (k := ?_)
    refine ih_icmp_ge rfl (by omega) (by omega) (fun w1 => ?_) (fun w1 => ?_)
    · have ek : s (22 + p) = k := by omega
      rw [ek] at K
      exact K t1 hr hf
    · exfalso
      omega

  | succ d ih =>
    intro k t1 hd hf hr
    have z := (G.pap p hp).sz
    have e22 : t1 112 (22 + p) = s (22 + p) := by rw [hr]; exact ih_cs_lo (by omega)
    refine ih_seg (i1 := 73) 2 rfl ?_
    refine ih_getR rfl rfl ?_
    refine ih_seg (i1 := 77) 3 rfl ?_
    try dsimp only
    refine ih_iald rfl (by first | rfl | exact ih_lP1 (ih_P_w0 hc) | exact ih_lP2 (ih_P_w0 hc) | exact ih_lP3 (ih_P_w0 hc) | exact ih_lP4 (ih_P_w0 hc) |  exact ih_lP1 (by assumption) | exact ih_lP2 (by assumption) | exact ih_lP3 (by assumption) | exact ih_lP4 (by assumption) | exact ih_lC1 (by assumption) | exact ih_lS1 (by assumption) | exact ih_lW1 (by assumption) | exact ih_lW2 (by assumption) | exact ih_lW4 (by assumption) | exact ih_lW5 (by assumption)) (by omega) (by omega) (k := ?_)
    refine ih_icmp_ge rfl (by omega) (by omega) (fun w1 => ?_) (fun w1 => ?_)
    · exfalso
      omega
    · refine ih_seg (i1 := 81) 2 rfl ?_
      refine ih_is2 133 rfl rfl (Nat.le_of_ble_eq_true rfl) (Nat.le_of_ble_eq_true rfl) rfl ?_
      refine r_has hw (by omega) (fun hq => ?_) (fun hq => ?_)
      · refine ih_seg (i1 := 87) 5 rfl ?_
        refine ih_iv3 144 rfl rfl (by first | rfl | exact ih_kP (ih_P_w0 hc) |  exact ih_kP (by assumption) | exact ih_kC (by assumption) | exact ih_kN (by assumption) | exact ih_kS (by assumption) | exact ih_kW (by assumption)) (Nat.le_of_ble_eq_true rfl) (Nat.le_of_ble_eq_true rfl) rfl ?_
        refine r_copies hp (by omega) (fun t2 f1 f2 => ?_)
        refine ih_seg (i1 := 71) 2 rfl ?_
        try simp only [xa_set, List.set_cons_zero, List.set_cons_succ, List.getElem?_cons_zero, List.getElem?_cons_succ]
        refine ih (k + 1) t2 (by omega) (fun j hj => (f2 j hj).trans (hf j hj)) ?_
        rw [f1, hr]
        exact ih_cs_y hq
      · refine ih_seg (i1 := 71) 3 rfl ?_
        try simp only [xa_set, List.set_cons_zero, List.set_cons_succ, List.getElem?_cons_zero, List.getElem?_cons_succ]
        refine ih (k + 1) t1 (by omega) hf ?_
        rw [hr]
        exact ih_cs_n hq


theorem r_few_l {X : List Int} {t : ih_S} {Q : Option xa_V → ih_S → Prop} {p : Nat} {ink n : Int} {s ot : Int → Int} (hp : p < 4) (hi : 0 ≤ ink ∧ ink < 8) (hn : 0 ≤ n ∧ s 0 + n < 10000) (G : ih_Gd s) (hs : t 112 = s) (ho : t 114 = fun x => if 0 ≤ x ∧ x < 228 then s x else ot x)  : ∀ (d : Nat) (w : Nat) (best : Int) (x : xa_V) (t1 : ih_S) (hd : w + d = (2 ^ (s (22 + p)).toNat)) (hf : ih_rq t t1) (hr : t1 112 = s) (h14 : t1 114 = t 114) (hb : best = -1 ∨ ∃ y : Nat, best = y ∧ y < 4096) (K : ih_roR t (if ih_frr (ih_okR s p ink n) (ih_sv s p) ((2 ^ (s (22 + p)).toNat) - w) w best < 0 then ih_no 3 else ih_ok1 (ih_frr (ih_okR s p ink n) (ih_sv s p) ((2 ^ (s (22 + p)).toNat) - w) w best)) Q), ih_Wp X 170 46 [xR 111, xI p, xI ink, xI n, xI (s 0), xI (ih_rM s p (s 0)), xI (ih_sv s p : Nat), xI best, xI w, x] [] t1 Q := by
  intro d
  induction d with
  | zero =>
    intro w best x t1 hd hf hr h14 hb K
    have z := (G.pap p hp).sz
    have gn := G.now
    have mr0 := ih_rM_rg s p (s 0)
    have h2n : 2 ^ (s (22 + p)).toNat ≤ 4096 := Nat.le_trans (Nat.pow_le_pow_right (by decide) (show (s (22 + p)).toNat ≤ 12 by omega)) (by decide)
    have svl : ih_sv s p < 4096 := ih_set_12 _ (by omega)
    have esh : xa_shl 1 (s (22 + p)) = ((2 ^ (s (22 + p)).toNat : Nat) : Int) := by
      have := ih_shl1 (k := (s (22 + p)).toNat) (by omega)
      rwa [show (((s (22 + p)).toNat : Nat) : Int) = s (22 + p) by omega] at this
    have dl := ih_dif_lt w (ih_sv s p)
    have hbr : -1 ≤ best ∧ best < 4096 := by
      rcases hb with rfl | ⟨y, rfl, hy⟩ <;> omega
    have er : t1 112 = t 112 := hr.trans hs.symm
    refine ih_seg (i1 := 49) 3 rfl ?_
    refine ih_getR rfl rfl ?_
    refine ih_seg (i1 := 53) 3 rfl ?_
    try dsimp only
    refine ih_iald rfl (by first | rfl | exact ih_lP1 (ih_P_w0 hc) | exact ih_lP2 (ih_P_w0 hc) | exact ih_lP3 (ih_P_w0 hc) | exact ih_lP4 (ih_P_w0 hc) |  exact ih_lP1 (by assumption) | exact ih_lP2 (by assumption) | exact ih_lP3 (by assumption) | exact ih_lP4 (by assumption) | exact ih_lC1 (by assumption) | exact ih_lS1 (by assumption) | exact ih_lW1 (by assumption) | exact ih_lW2 (by assumption) | exact ih_lW4 (by assumption) | exact ih_lW5 (by assumption)) (by omega) (by omega) (k := ?_)
    rw [hr]
    refine ih_seg (i1 := 55) 1 rfl ?_
    try dsimp only
    rw [esh]
    refine ih_icmp_ge rfl (by omega) (by omega) (fun w1 => ?_) (fun w1 => ?_)
    · refine ih_seg (i1 := 107) 1 rfl ?_
      refine ih_ifc_ge rfl (by omega) (fun w2 => ?_) (fun w2 => ?_)
      · refine ih_seg (i1 := 113) 1 rfl ?_
        refine ih_ret rfl rfl ?_
        first
          | (exfalso
             omega)
          | exact ih_roR_ok K (by rw [show 2 ^ (s (22 + p)).toNat - w = 0 by omega]; exact if_neg (by show ¬ best < 0; omega)) (ih_rr_q hf er)
          | exact ih_roR_no 3 K (by rw [show 2 ^ (s (22 + p)).toNat - w = 0 by omega]; exact if_pos (by show best < 0; omega)) rfl (ih_rr_q hf er)
      · refine ih_seg (i1 := 110) 2 rfl ?_
        refine ih_iv1 127 rfl rfl (by first | rfl | exact ih_kP (ih_P_w0 hc) |  exact ih_kP (by assumption) | exact ih_kC (by assumption) | exact ih_kN (by assumption) | exact ih_kS (by assumption) | exact ih_kW (by assumption)) (Nat.le_of_ble_eq_true rfl) (Nat.le_of_ble_eq_true rfl) rfl ?_
        refine r_finds 3 rfl (by omega) ?_
        refine ih_seg (i1 := 113) 1 rfl ?_
        refine ih_ret rfl rfl ?_
        first
          | (exfalso
             omega)
          | exact ih_roR_ok K (by rw [show 2 ^ (s (22 + p)).toNat - w = 0 by omega]; exact if_neg (by show ¬ best < 0; omega)) (ih_rr_q hf er)
          | exact ih_roR_no 3 K (by rw [show 2 ^ (s (22 + p)).toNat - w = 0 by omega]; exact if_pos (by show best < 0; omega)) rfl (ih_rr_q hf er)
    · exfalso
      omega

  | succ d ih =>
    intro w best x t1 hd hf hr h14 hb K
    have z := (G.pap p hp).sz
    have gn := G.now
    have mr0 := ih_rM_rg s p (s 0)
    have h2n : 2 ^ (s (22 + p)).toNat ≤ 4096 := Nat.le_trans (Nat.pow_le_pow_right (by decide) (show (s (22 + p)).toNat ≤ 12 by omega)) (by decide)
    have svl : ih_sv s p < 4096 := ih_set_12 _ (by omega)
    have esh : xa_shl 1 (s (22 + p)) = ((2 ^ (s (22 + p)).toNat : Nat) : Int) := by
      have := ih_shl1 (k := (s (22 + p)).toNat) (by omega)
      rwa [show (((s (22 + p)).toNat : Nat) : Int) = s (22 + p) by omega] at this
    have dl := ih_dif_lt w (ih_sv s p)
    have hbr : -1 ≤ best ∧ best < 4096 := by
      rcases hb with rfl | ⟨y, rfl, hy⟩ <;> omega
    have er : t1 112 = t 112 := hr.trans hs.symm
    refine ih_seg (i1 := 49) 3 rfl ?_
    refine ih_getR rfl rfl ?_
    refine ih_seg (i1 := 53) 3 rfl ?_
    try dsimp only
    refine ih_iald rfl (by first | rfl | exact ih_lP1 (ih_P_w0 hc) | exact ih_lP2 (ih_P_w0 hc) | exact ih_lP3 (ih_P_w0 hc) | exact ih_lP4 (ih_P_w0 hc) |  exact ih_lP1 (by assumption) | exact ih_lP2 (by assumption) | exact ih_lP3 (by assumption) | exact ih_lP4 (by assumption) | exact ih_lC1 (by assumption) | exact ih_lS1 (by assumption) | exact ih_lW1 (by assumption) | exact ih_lW2 (by assumption) | exact ih_lW4 (by assumption) | exact ih_lW5 (by assumption)) (by omega) (by omega) (k := ?_)
    rw [hr]
    refine ih_seg (i1 := 55) 1 rfl ?_
    try dsimp only
    rw [esh]
    refine ih_icmp_ge rfl (by omega) (by omega) (fun w1 => ?_) (fun w1 => ?_)
    · refine ih_seg (i1 := 107) 1 rfl ?_
      refine ih_ifc_ge rfl (by omega) (fun w2 => ?_) (fun w2 => ?_)
      · refine ih_seg (i1 := 113) 1 rfl ?_
        refine ih_ret rfl rfl ?_
        first
          | (exfalso
             omega)
          | exact ih_roR_ok K (by rw [show 2 ^ (s (22 + p)).toNat - w = 0 by omega]; exact if_neg (by show ¬ best < 0; omega)) (ih_rr_q hf er)
          | exact ih_roR_no 3 K (by rw [show 2 ^ (s (22 + p)).toNat - w = 0 by omega]; exact if_pos (by show best < 0; omega)) rfl (ih_rr_q hf er)
      · refine ih_seg (i1 := 110) 2 rfl ?_
        refine ih_iv1 127 rfl rfl (by first | rfl | exact ih_kP (ih_P_w0 hc) |  exact ih_kP (by assumption) | exact ih_kC (by assumption) | exact ih_kN (by assumption) | exact ih_kS (by assumption) | exact ih_kW (by assumption)) (Nat.le_of_ble_eq_true rfl) (Nat.le_of_ble_eq_true rfl) rfl ?_
        refine r_finds 3 rfl (by omega) ?_
        refine ih_seg (i1 := 113) 1 rfl ?_
        refine ih_ret rfl rfl ?_
        first
          | (exfalso
             omega)
          | exact ih_roR_ok K (by rw [show 2 ^ (s (22 + p)).toNat - w = 0 by omega]; exact if_neg (by show ¬ best < 0; omega)) (ih_rr_q hf er)
          | exact ih_roR_no 3 K (by rw [show 2 ^ (s (22 + p)).toNat - w = 0 by omega]; exact if_pos (by show best < 0; omega)) rfl (ih_rr_q hf er)
    · refine ih_seg (i1 := 61) 5 rfl ?_
      try dsimp only
      rw [ih_andn (by omega) svl]
      refine ih_ifc_ne rfl (by omega) (fun w3 => ?_) (fun w3 => ?_)
      · refine ih_seg (i1 := 46) 2 rfl ?_
        try simp only [xa_set, List.set_cons_zero, List.set_cons_succ, List.getElem?_cons_zero, List.getElem?_cons_succ]
        have e1 : 2 ^ (s (22 + p)).toNat - w = (2 ^ (s (22 + p)).toNat - (w + 1)) + 1 := by omega
        rw [e1] at K
        have K2 : ih_roR t (if ih_frr (ih_okR s p ink n) (ih_sv s p) (2 ^ (s (22 + p)).toNat - (w + 1)) (w + 1) (ih_frs (ih_okR s p ink n) (ih_sv s p) w best) < 0 then ih_no 3 else ih_ok1 (ih_frr (ih_okR s p ink n) (ih_sv s p) (2 ^ (s (22 + p)).toNat - (w + 1)) (w + 1) (ih_frs (ih_okR s p ink n) (ih_sv s p) w best))) Q := K
        have ef : ih_frs (ih_okR s p ink n) (ih_sv s p) w best = best := if_neg (fun q => by have := q.1; omega)
        rw [ef] at K2
        exact ih (w + 1) best _ t1 (by omega) hf hr h14 hb K2
      · refine ih_seg (i1 := 63) 1 rfl ?_
        refine ih_ifc_lt rfl (by omega) (fun w4 => ?_) (fun w4 => ?_)
        · refine ih_seg (i1 := 71) 2 rfl ?_
          try simp only [xa_set, List.set_cons_zero, List.set_cons_succ, List.getElem?_cons_zero, List.getElem?_cons_succ]
          refine r_fc_l hp hi (by omega) G (fun t2 f1 f2 => ?_) (s (22 + p)).toNat 0 t1 (by omega) (fun _ _ => rfl) (by rw [hr]; exact ih_cs_0.symm)
          refine ih_seg (i1 := 96) 6 rfl ?_
          try dsimp only
          refine ih_iv3 165 rfl rfl (by first | rfl | exact ih_kP (ih_P_w0 hc) |  exact ih_kP (by assumption) | exact ih_kC (by assumption) | exact ih_kN (by assumption) | exact ih_kS (by assumption) | exact ih_kW (by assumption)) (Nat.le_of_ble_eq_true rfl) (Nat.le_of_ble_eq_true rfl) rfl ?_
          refine r_stay (t := t2) hp (by rw [f1]; exact ih_cs_RG G hp hi) (ih_rf_r _) mr0 (by omega) (by rw [f1, ih_cs_lo (by omega)]; exact gn) (fun t4 h4 hq => ?_) (fun t4 h4 hq => ?_)
          all_goals rw [f1, ih_cs_lo (x := 0) (by omega)] at hq
          · refine ih_seg (i1 := 103) 5 rfl ?_
            try simp only [xa_set, List.set_cons_zero, List.set_cons_succ, List.getElem?_cons_zero, List.getElem?_cons_succ]
            refine ih_iv0 168 rfl rfl (by first | rfl | exact ih_kP (ih_P_w0 hc) |  exact ih_kP (by assumption) | exact ih_kC (by assumption) | exact ih_kN (by assumption) | exact ih_kS (by assumption) | exact ih_kW (by assumption)) (Nat.le_of_ble_eq_true rfl) (Nat.le_of_ble_eq_true rfl) rfl ?_
            refine r_putsBack (fun t5 f5 f6 => ?_)
            have er5 : t5 112 = s := by
              rw [f6, h4.1 114 (by decide), f2 114 (by decide), h14, ho, h4.1 112 (by decide), f1]
              funext x
              try dsimp only
              by_cases q : 0 ≤ x ∧ x < 228
              · rw [if_pos q, if_pos q]
              · rw [if_neg q]
                exact ih_cs_lo (by omega)
            have fq5 : ih_rq t t5 := ih_rq_t hf (ih_rq_t (ih_rq_w f2) (ih_rq_t (ih_rq_f h4) (ih_rq_w f5)))
            have h14' : t5 114 = t 114 := (f5 114 (by decide)).trans ((h4.1 114 (by decide)).trans ((f2 114 (by decide)).trans h14))
            refine ih_seg (i1 := 46) 2 rfl ?_
            try simp only [xa_set, List.set_cons_zero, List.set_cons_succ, List.getElem?_cons_zero, List.getElem?_cons_succ]
            have e1 : 2 ^ (s (22 + p)).toNat - w = (2 ^ (s (22 + p)).toNat - (w + 1)) + 1 := by omega
            rw [e1] at K
            have K2 : ih_roR t (if ih_frr (ih_okR s p ink n) (ih_sv s p) (2 ^ (s (22 + p)).toNat - (w + 1)) (w + 1) (ih_frs (ih_okR s p ink n) (ih_sv s p) w best) < 0 then ih_no 3 else ih_ok1 (ih_frr (ih_okR s p ink n) (ih_sv s p) (2 ^ (s (22 + p)).toNat - (w + 1)) (w + 1) (ih_frs (ih_okR s p ink n) (ih_sv s p) w best))) Q := K
            have ef : ih_frs (ih_okR s p ink n) (ih_sv s p) w best = (w : Int) := if_pos ⟨by omega, Or.inl (by omega), by exact ih_st_y (by omega) hq⟩
            rw [ef] at K2
            exact ih (w + 1) _ _ t5 (by omega) fq5 er5 h14' (Or.inr ⟨w, rfl, by omega⟩) K2
          · refine ih_seg (i1 := 103) 4 rfl ?_
            try simp only [xa_set, List.set_cons_zero, List.set_cons_succ, List.getElem?_cons_zero, List.getElem?_cons_succ]
            refine ih_iv0 168 rfl rfl (by first | rfl | exact ih_kP (ih_P_w0 hc) |  exact ih_kP (by assumption) | exact ih_kC (by assumption) | exact ih_kN (by assumption) | exact ih_kS (by assumption) | exact ih_kW (by assumption)) (Nat.le_of_ble_eq_true rfl) (Nat.le_of_ble_eq_true rfl) rfl ?_
            refine r_putsBack (fun t5 f5 f6 => ?_)
            have er5 : t5 112 = s := by
              rw [f6, h4.1 114 (by decide), f2 114 (by decide), h14, ho, h4.1 112 (by decide), f1]
              funext x
              try dsimp only
              by_cases q : 0 ≤ x ∧ x < 228
              · rw [if_pos q, if_pos q]
              · rw [if_neg q]
                exact ih_cs_lo (by omega)
            have fq5 : ih_rq t t5 := ih_rq_t hf (ih_rq_t (ih_rq_w f2) (ih_rq_t (ih_rq_f h4) (ih_rq_w f5)))
            have h14' : t5 114 = t 114 := (f5 114 (by decide)).trans ((h4.1 114 (by decide)).trans ((f2 114 (by decide)).trans h14))
            refine ih_seg (i1 := 46) 2 rfl ?_
            try simp only [xa_set, List.set_cons_zero, List.set_cons_succ, List.getElem?_cons_zero, List.getElem?_cons_succ]
            have e1 : 2 ^ (s (22 + p)).toNat - w = (2 ^ (s (22 + p)).toNat - (w + 1)) + 1 := by omega
            rw [e1] at K
            have K2 : ih_roR t (if ih_frr (ih_okR s p ink n) (ih_sv s p) (2 ^ (s (22 + p)).toNat - (w + 1)) (w + 1) (ih_frs (ih_okR s p ink n) (ih_sv s p) w best) < 0 then ih_no 3 else ih_ok1 (ih_frr (ih_okR s p ink n) (ih_sv s p) (2 ^ (s (22 + p)).toNat - (w + 1)) (w + 1) (ih_frs (ih_okR s p ink n) (ih_sv s p) w best))) Q := K
            have ef : ih_frs (ih_okR s p ink n) (ih_sv s p) w best = best := if_neg (fun q => by have h9 := q.2.2; unfold ih_okR at h9; rw [ih_st_n (by omega) hq] at h9; exact absurd h9 (by decide))
            rw [ef] at K2
            exact ih (w + 1) best _ t5 (by omega) fq5 er5 h14' hb K2
        · refine ih_seg (i1 := 65) 1 rfl ?_
          refine ih_is1 134 rfl rfl (Nat.le_of_ble_eq_true rfl) (Nat.le_of_ble_eq_true rfl) rfl ?_
          have ow := ih_ones_rg w
          refine r_ones (by omega) ?_
          refine ih_seg (i1 := 67) 1 rfl ?_
          refine ih_is1 134 rfl rfl (Nat.le_of_ble_eq_true rfl) (Nat.le_of_ble_eq_true rfl) rfl ?_
          obtain ⟨y, rfl⟩ := Int.eq_ofNat_of_zero_le (show 0 ≤ best by omega)
          have oy := ih_ones_rg y
          have ey : (y : Int).toNat = y := Int.toNat_natCast y
          refine r_ones (by omega) ?_
          refine ih_icmp_ge rfl (by omega) (by omega) (fun w5 => ?_) (fun w5 => ?_)
          · refine ih_seg (i1 := 46) 2 rfl ?_
            try simp only [xa_set, List.set_cons_zero, List.set_cons_succ, List.getElem?_cons_zero, List.getElem?_cons_succ]
            have e1 : 2 ^ (s (22 + p)).toNat - w = (2 ^ (s (22 + p)).toNat - (w + 1)) + 1 := by omega
            rw [e1] at K
            have K2 : ih_roR t (if ih_frr (ih_okR s p ink n) (ih_sv s p) (2 ^ (s (22 + p)).toNat - (w + 1)) (w + 1) (ih_frs (ih_okR s p ink n) (ih_sv s p) w (y : Int)) < 0 then ih_no 3 else ih_ok1 (ih_frr (ih_okR s p ink n) (ih_sv s p) (2 ^ (s (22 + p)).toNat - (w + 1)) (w + 1) (ih_frs (ih_okR s p ink n) (ih_sv s p) w (y : Int)))) Q := K
            have ef : ih_frs (ih_okR s p ink n) (ih_sv s p) w (y : Int) = (y : Int) := if_neg (fun q => by have := q.2.1; rw [ey] at this; omega)
            rw [ef] at K2
            exact ih (w + 1) (y : Int) _ t1 (by omega) hf hr h14 hb K2
          · refine ih_seg (i1 := 71) 2 rfl ?_
            try simp only [xa_set, List.set_cons_zero, List.set_cons_succ, List.getElem?_cons_zero, List.getElem?_cons_succ]
            refine r_fc_l hp hi (by omega) G (fun t2 f1 f2 => ?_) (s (22 + p)).toNat 0 t1 (by omega) (fun _ _ => rfl) (by rw [hr]; exact ih_cs_0.symm)
            refine ih_seg (i1 := 96) 6 rfl ?_
            try dsimp only
            refine ih_iv3 165 rfl rfl (by first | rfl | exact ih_kP (ih_P_w0 hc) |  exact ih_kP (by assumption) | exact ih_kC (by assumption) | exact ih_kN (by assumption) | exact ih_kS (by assumption) | exact ih_kW (by assumption)) (Nat.le_of_ble_eq_true rfl) (Nat.le_of_ble_eq_true rfl) rfl ?_
            refine r_stay (t := t2) hp (by rw [f1]; exact ih_cs_RG G hp hi) (ih_rf_r _) mr0 (by omega) (by rw [f1, ih_cs_lo (by omega)]; exact gn) (fun t4 h4 hq => ?_) (fun t4 h4 hq => ?_)
            all_goals rw [f1, ih_cs_lo (x := 0) (by omega)] at hq
            · refine ih_seg (i1 := 103) 5 rfl ?_
              try simp only [xa_set, List.set_cons_zero, List.set_cons_succ, List.getElem?_cons_zero, List.getElem?_cons_succ]
              refine ih_iv0 168 rfl rfl (by first | rfl | exact ih_kP (ih_P_w0 hc) |  exact ih_kP (by assumption) | exact ih_kC (by assumption) | exact ih_kN (by assumption) | exact ih_kS (by assumption) | exact ih_kW (by assumption)) (Nat.le_of_ble_eq_true rfl) (Nat.le_of_ble_eq_true rfl) rfl ?_
              refine r_putsBack (fun t5 f5 f6 => ?_)
              have er5 : t5 112 = s := by
                rw [f6, h4.1 114 (by decide), f2 114 (by decide), h14, ho, h4.1 112 (by decide), f1]
                funext x
                try dsimp only
                by_cases q : 0 ≤ x ∧ x < 228
                · rw [if_pos q, if_pos q]
                · rw [if_neg q]
                  exact ih_cs_lo (by omega)
              have fq5 : ih_rq t t5 := ih_rq_t hf (ih_rq_t (ih_rq_w f2) (ih_rq_t (ih_rq_f h4) (ih_rq_w f5)))
              have h14' : t5 114 = t 114 := (f5 114 (by decide)).trans ((h4.1 114 (by decide)).trans ((f2 114 (by decide)).trans h14))
              refine ih_seg (i1 := 46) 2 rfl ?_
              try simp only [xa_set, List.set_cons_zero, List.set_cons_succ, List.getElem?_cons_zero, List.getElem?_cons_succ]
              have e1 : 2 ^ (s (22 + p)).toNat - w = (2 ^ (s (22 + p)).toNat - (w + 1)) + 1 := by omega
              rw [e1] at K
              have K2 : ih_roR t (if ih_frr (ih_okR s p ink n) (ih_sv s p) (2 ^ (s (22 + p)).toNat - (w + 1)) (w + 1) (ih_frs (ih_okR s p ink n) (ih_sv s p) w (y : Int)) < 0 then ih_no 3 else ih_ok1 (ih_frr (ih_okR s p ink n) (ih_sv s p) (2 ^ (s (22 + p)).toNat - (w + 1)) (w + 1) (ih_frs (ih_okR s p ink n) (ih_sv s p) w (y : Int)))) Q := K
              have ef : ih_frs (ih_okR s p ink n) (ih_sv s p) w (y : Int) = (w : Int) := if_pos ⟨by omega, Or.inr (by rw [ey]; omega), by exact ih_st_y (by omega) hq⟩
              rw [ef] at K2
              exact ih (w + 1) _ _ t5 (by omega) fq5 er5 h14' (Or.inr ⟨w, rfl, by omega⟩) K2
            · refine ih_seg (i1 := 103) 4 rfl ?_
              try simp only [xa_set, List.set_cons_zero, List.set_cons_succ, List.getElem?_cons_zero, List.getElem?_cons_succ]
              refine ih_iv0 168 rfl rfl (by first | rfl | exact ih_kP (ih_P_w0 hc) |  exact ih_kP (by assumption) | exact ih_kC (by assumption) | exact ih_kN (by assumption) | exact ih_kS (by assumption) | exact ih_kW (by assumption)) (Nat.le_of_ble_eq_true rfl) (Nat.le_of_ble_eq_true rfl) rfl ?_
              refine r_putsBack (fun t5 f5 f6 => ?_)
              have er5 : t5 112 = s := by
                rw [f6, h4.1 114 (by decide), f2 114 (by decide), h14, ho, h4.1 112 (by decide), f1]
                funext x
                try dsimp only
                by_cases q : 0 ≤ x ∧ x < 228
                · rw [if_pos q, if_pos q]
                · rw [if_neg q]
                  exact ih_cs_lo (by omega)
              have fq5 : ih_rq t t5 := ih_rq_t hf (ih_rq_t (ih_rq_w f2) (ih_rq_t (ih_rq_f h4) (ih_rq_w f5)))
              have h14' : t5 114 = t 114 := (f5 114 (by decide)).trans ((h4.1 114 (by decide)).trans ((f2 114 (by decide)).trans h14))
              refine ih_seg (i1 := 46) 2 rfl ?_
              try simp only [xa_set, List.set_cons_zero, List.set_cons_succ, List.getElem?_cons_zero, List.getElem?_cons_succ]
              have e1 : 2 ^ (s (22 + p)).toNat - w = (2 ^ (s (22 + p)).toNat - (w + 1)) + 1 := by omega
              rw [e1] at K
              have K2 : ih_roR t (if ih_frr (ih_okR s p ink n) (ih_sv s p) (2 ^ (s (22 + p)).toNat - (w + 1)) (w + 1) (ih_frs (ih_okR s p ink n) (ih_sv s p) w (y : Int)) < 0 then ih_no 3 else ih_ok1 (ih_frr (ih_okR s p ink n) (ih_sv s p) (2 ^ (s (22 + p)).toNat - (w + 1)) (w + 1) (ih_frs (ih_okR s p ink n) (ih_sv s p) w (y : Int)))) Q := K
              have ef : ih_frs (ih_okR s p ink n) (ih_sv s p) w (y : Int) = (y : Int) := if_neg (fun q => by have h9 := q.2.2; unfold ih_okR at h9; rw [ih_st_n (by omega) hq] at h9; exact absurd h9 (by decide))
              rw [ef] at K2
              exact ih (w + 1) (y : Int) _ t5 (by omega) fq5 er5 h14' hb K2


set_option maxRecDepth 20000 in
theorem r_op_fewest {X : List Int} {t : ih_S} {Q : Option xa_V → ih_S → Prop} {a b d : Int} (ha : xa_rI a) (hb : xa_rI b) (hd : xa_rI d) (G : ih_Gd (t 112)) (K : ih_roR t (f_fewest (t 112) a b d) Q) : ih_Wp X 170 0 [xR 111, xI a, xI b, xI d, xC 1, xC 1, xC 1, xC 1, xC 1, xC 1] [] t Q := by
  have gn := G.now
  refine ih_seg (i1 := 1) 1 rfl ?_
  refine ih_is1 128 rfl rfl (Nat.le_of_ble_eq_true rfl) (Nat.le_of_ble_eq_true rfl) rfl ?_
  refine r_isPaper (by omega) (fun w1 => ?_) (fun w2 => ?_)
  · refine ih_seg (i1 := 4) 2 rfl ?_
    refine ih_is1 129 rfl rfl (Nat.le_of_ble_eq_true rfl) (Nat.le_of_ble_eq_true rfl) rfl ?_
    refine r_isInk (by omega) (fun w3 => ?_) (fun w4 => ?_)
    · refine ih_seg (i1 := 7) 2 rfl ?_
      refine ih_i2l rfl (by omega) ?_
      refine ih_seg (i1 := 10) 2 rfl ?_
      refine ih_is3 126 rfl rfl (Nat.le_of_ble_eq_true rfl) (Nat.le_of_ble_eq_true rfl) rfl ?_
      refine r_in (by omega) (by omega) (by omega) (fun w5 => ?_) (fun w6 => ?_)
      · refine ih_seg (i1 := 17) 2 rfl ?_
        refine ih_getR rfl rfl ?_
        refine ih_seg (i1 := 19) 1 rfl ?_
        refine ih_iald rfl (by first | rfl | exact ih_lP1 (ih_P_w0 hc) | exact ih_lP2 (ih_P_w0 hc) | exact ih_lP3 (ih_P_w0 hc) | exact ih_lP4 (ih_P_w0 hc) |  exact ih_lP1 (by assumption) | exact ih_lP2 (by assumption) | exact ih_lP3 (by assumption) | exact ih_lP4 (by assumption) | exact ih_lC1 (by assumption) | exact ih_lS1 (by assumption) | exact ih_lW1 (by assumption) | exact ih_lW2 (by assumption) | exact ih_lW4 (by assumption) | exact ih_lW5 (by assumption)) (by omega) (by omega) (k := ?_)
        refine ih_seg (i1 := 25) 5 rfl ?_
        try simp only [xa_set, List.set_cons_zero, List.set_cons_succ, List.getElem?_cons_zero, List.getElem?_cons_succ]
        refine ih_icmp_le rfl (by omega) (by omega) (fun w7 => ?_) (fun w7 => ?_)
        · refine ih_seg (i1 := 33) 3 rfl ?_
          refine ih_iv2 157 rfl rfl (by first | rfl | exact ih_kP (ih_P_w0 hc) |  exact ih_kP (by assumption) | exact ih_kC (by assumption) | exact ih_kN (by assumption) | exact ih_kS (by assumption) | exact ih_kW (by assumption)) (Nat.le_of_ble_eq_true rfl) (Nat.le_of_ble_eq_true rfl) rfl ?_
          obtain ⟨p, rfl⟩ := Int.eq_ofNat_of_zero_le (show 0 ≤ a by omega)
          have hp : p < 4 := by omega
          refine r_meansAt hp (G.pap p hp) (ih_rf_r _) (by omega) (fun t1 h1 => ?_)
          have es := ih_rf_s h1
          refine ih_seg (i1 := 38) 4 rfl ?_
          try simp only [xa_set, List.set_cons_zero, List.set_cons_succ, List.getElem?_cons_zero, List.getElem?_cons_succ]
          refine ih_iv2 149 rfl rfl (by first | rfl | exact ih_kP (ih_P_w0 hc) |  exact ih_kP (by assumption) | exact ih_kC (by assumption) | exact ih_kN (by assumption) | exact ih_kS (by assumption) | exact ih_kW (by assumption)) (Nat.le_of_ble_eq_true rfl) (Nat.le_of_ble_eq_true rfl) rfl ?_
          refine r_seenOf hp (by rw [es]; exact G.pap p hp) (by omega) ?_
          rw [es]
          refine ih_seg (i1 := 41) 2 rfl ?_
          try simp only [xa_set, List.set_cons_zero, List.set_cons_succ, List.getElem?_cons_zero, List.getElem?_cons_succ]
          refine ih_iv0 167 rfl rfl (by first | rfl | exact ih_kP (ih_P_w0 hc) |  exact ih_kP (by assumption) | exact ih_kC (by assumption) | exact ih_kN (by assumption) | exact ih_kS (by assumption) | exact ih_kW (by assumption)) (Nat.le_of_ble_eq_true rfl) (Nat.le_of_ble_eq_true rfl) rfl ?_
          refine r_puts (fun t2 g1 g2 => ?_)
          refine ih_seg (i1 := 46) 4 rfl ?_
          try simp only [xa_set, List.set_cons_zero, List.set_cons_succ, List.getElem?_cons_zero, List.getElem?_cons_succ]
          rw [f_fewest, if_pos (by omega), if_neg (by omega), Int.toNat_natCast] at K
          have es2 : t2 112 = t 112 := (g1 112 (by decide)).trans es
          have fr : ih_rr t t2 := ih_rr_t (ih_rr_f h1) (ih_rr_q (ih_rq_o g1) (g1 112 (by decide)))
          exact r_few_l hp (by omega) (by omega) G es2 (by rw [g2, es]) (2 ^ (t 112 (22 + p)).toNat) 0 (-1) _ t2 (by omega) (ih_rq_r _) es2 rfl (Or.inl rfl) (ih_roR_w fr K)
        · refine ih_seg (i1 := 28) 2 rfl ?_
          refine ih_iv1 127 rfl rfl (by first | rfl | exact ih_kP (ih_P_w0 hc) |  exact ih_kP (by assumption) | exact ih_kC (by assumption) | exact ih_kN (by assumption) | exact ih_kS (by assumption) | exact ih_kW (by assumption)) (Nat.le_of_ble_eq_true rfl) (Nat.le_of_ble_eq_true rfl) rfl ?_
          refine r_finds 4 rfl (by omega) ?_
          refine ih_ret rfl rfl ?_
          first
            | exact ih_roR_no 0 K (by rw [f_fewest, if_neg (by omega)]) rfl (ih_rr_r _)
            | exact ih_roR_no 4 K (by rw [f_fewest, if_pos (by omega), if_pos (by omega)]) rfl (ih_rr_r _)
      · refine ih_seg (i1 := 14) 3 rfl ?_
        refine ih_iv1 127 rfl rfl (by first | rfl | exact ih_kP (ih_P_w0 hc) |  exact ih_kP (by assumption) | exact ih_kC (by assumption) | exact ih_kN (by assumption) | exact ih_kS (by assumption) | exact ih_kW (by assumption)) (Nat.le_of_ble_eq_true rfl) (Nat.le_of_ble_eq_true rfl) rfl ?_
        refine r_finds 0 rfl (by omega) ?_
        refine ih_ret rfl rfl ?_
        first
          | exact ih_roR_no 0 K (by rw [f_fewest, if_neg (by omega)]) rfl (ih_rr_r _)
          | exact ih_roR_no 4 K (by rw [f_fewest, if_pos (by omega), if_pos (by omega)]) rfl (ih_rr_r _)
    · refine ih_seg (i1 := 14) 3 rfl ?_
      refine ih_iv1 127 rfl rfl (by first | rfl | exact ih_kP (ih_P_w0 hc) |  exact ih_kP (by assumption) | exact ih_kC (by assumption) | exact ih_kN (by assumption) | exact ih_kS (by assumption) | exact ih_kW (by assumption)) (Nat.le_of_ble_eq_true rfl) (Nat.le_of_ble_eq_true rfl) rfl ?_
      refine r_finds 0 rfl (by omega) ?_
      refine ih_ret rfl rfl ?_
      first
        | exact ih_roR_no 0 K (by rw [f_fewest, if_neg (by omega)]) rfl (ih_rr_r _)
        | exact ih_roR_no 4 K (by rw [f_fewest, if_pos (by omega), if_pos (by omega)]) rfl (ih_rr_r _)
  · refine ih_seg (i1 := 14) 3 rfl ?_
    refine ih_iv1 127 rfl rfl (by first | rfl | exact ih_kP (ih_P_w0 hc) |  exact ih_kP (by assumption) | exact ih_kC (by assumption) | exact ih_kN (by assumption) | exact ih_kS (by assumption) | exact ih_kW (by assumption)) (Nat.le_of_ble_eq_true rfl) (Nat.le_of_ble_eq_true rfl) rfl ?_
    refine r_finds 0 rfl (by omega) ?_
    refine ih_ret rfl rfl ?_
    first
      | exact ih_roR_no 0 K (by rw [f_fewest, if_neg (by omega)]) rfl (ih_rr_r _)
      | exact ih_roR_no 4 K (by rw [f_fewest, if_pos (by omega), if_pos (by omega)]) rfl (ih_rr_r _)

