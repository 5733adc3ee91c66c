/-! sheet, put, copy, load, judge -/
def ih_SW (t : ih_S) (bt sz nb : Int → Int) : Prop := ∀ i : Nat, i < 4 → t (103 + 2 * i) 1 = bt i ∧ t (103 + 2 * i) 2 = sz i ∧ ∀ k : Nat, (k : Int) < sz i → t (104 + 2 * i) k = nb (40 * i + k)
def ih_SG (bt sz nb : Int → Int) : Prop := ∀ i : Nat, i < 4 → (bt i = 0 ∨ bt i = 8 ∨ bt i = 16 ∨ bt i = 32) ∧ (0 ≤ sz i ∧ sz i ≤ 40) ∧ ∀ k : Nat, (k : Int) < sz i → xa_rI (nb (40 * i + k))
theorem ih_SW_of {t t1 : ih_S} {bt sz nb : Int → Int} (h : ih_SW t bt sz nb) (e : ∀ j, 103 ≤ j → j ≤ 110 → t1 j = t j) : ih_SW t1 bt sz nb := by
  intro i hi
  rw [e (103 + 2 * i) (by omega) (by omega), e (104 + 2 * i) (by omega) (by omega)]
  exact h i hi
/-- the class's half of a call on sheets; the reference's -/
def ih_shC (t : ih_S) (r : ih_An) (bt sz nb : Int → Int) (Q : Option xa_V → ih_S → Prop) : Prop := match r with
  | .inl v => ∀ t1, ih_SW t1 bt sz nb → (∀ j, j < 103 ∨ 110 < j → t1 j = t j) → Q (some (xI v)) t1
  | .inr j => ∀ t1, ih_sc (ih_up t 84 j (t 84 j + 1)) t1 → Q (some (xI (-1000001 - j))) t1
theorem ih_shC_ok {t t1 : ih_S} {r : ih_An} {bt sz nb : Int → Int} {v : Int} {Q : Option xa_V → ih_S → Prop} (K : ih_shC t r bt sz nb Q) (e : r = ih_ok1 v) (W : ih_SW t1 bt sz nb) (h : ∀ j, j < 103 ∨ 110 < j → t1 j = t j) : Q (some (xI v)) t1 := by
  subst e
  exact K _ W h
theorem ih_shC_no {t t1 : ih_S} {r : ih_An} {bt sz nb : Int → Int} {j : Int} {Q : Option xa_V → ih_S → Prop} (K : ih_shC t r bt sz nb Q) (e : r = ih_no j) (h : ih_sc t t1) : Q (some (xI (-1000001 - j))) (ih_up t1 84 j (t1 84 j + 1)) := by
  subst e
  exact K _ (ih_sc_up h)
def ih_shR (t : ih_S) (r : ih_An) (bt sz nb : Int → Int) (Q : Option xa_V → ih_S → Prop) : Prop := match r with
  | .inl v => ∀ t1, t1 118 = bt → t1 119 = sz → t1 120 = nb → (∀ j, ¬ (118 ≤ j ∧ j ≤ 121) → t1 j = t j) → Q (some (xI v)) t1
  | .inr j => ∀ t1, ih_rr (ih_up t 115 j (t 115 j + 1)) t1 → Q (some (xI (-1000001 - j))) t1
theorem ih_shR_ok {t t1 : ih_S} {r : ih_An} {bt sz nb : Int → Int} {v : Int} {Q : Option xa_V → ih_S → Prop} (K : ih_shR t r bt sz nb Q) (e : r = ih_ok1 v) (h1 : t1 118 = bt) (h2 : t1 119 = sz) (h3 : t1 120 = nb) (h : ∀ j, ¬ (118 ≤ j ∧ j ≤ 121) → t1 j = t j) : Q (some (xI v)) t1 := by
  subst e
  exact K _ h1 h2 h3 h
theorem ih_shR_no {t t1 : ih_S} {r : ih_An} {bt sz nb : Int → Int} {a : Int} (j : Int) {Q : Option xa_V → ih_S → Prop} (K : ih_shR t r bt sz nb Q) (e : r = ih_no j) (ha : a = -1000001 - j) (h : ih_rr t t1) : Q (some (xI a)) (ih_up t1 115 j (t1 115 j + 1)) := by
  subst e ha
  exact K _ (ih_rr_up h)
def f_sheet (a b d : Int) : ih_An := if (0 ≤ a ∧ a < 4) ∧ (b = 0 ∨ b = 8 ∨ b = 16 ∨ b = 32) then (if d < 0 then ih_no 6 else if 40 < d then ih_no 0 else ih_ok1 (if b = 0 then 0 else d)) else ih_no 0
def g_nb0 (nb : Int → Int) (a : Int) : Int → Int := fun x => if 40 * a ≤ x ∧ x < 40 * a + 40 then 0 else nb x
def ih_nar (b v : Int) : Int := if b = 8 then xa_i2b v else if b = 16 then xa_i2s v else v
theorem ih_nar_rg {b v : Int} (hv : xa_rI v) : xa_rI (ih_nar b v) := by
  unfold ih_nar
  split
  · exact xa_rng _
  · split
    · exact xa_rng _
    · exact hv
def f_put (bt sz : Int → Int) (a b : Int) : ih_An := if 0 ≤ a ∧ a < 4 then (if bt a = 0 then ih_no 5 else if 0 ≤ b ∧ b < sz a then ih_ok1 1 else ih_no 0) else ih_no 0
def f_copy (bt sz : Int → Int) (a b d e n : Int) : ih_An := if (0 ≤ a ∧ a < 4) ∧ 0 ≤ d ∧ d < 4 then (if bt a = 0 ∨ bt d = 0 then ih_no 5 else if bt a = bt d then (if 0 ≤ b ∧ 0 ≤ e ∧ 0 ≤ n ∧ b + n ≤ sz a ∧ e + n ≤ sz d then ih_ok1 n else ih_no 0) else ih_no 2) else ih_no 0
def g_copy (nb : Int → Int) (a b d e n : Int) : Int → Int := fun x => if 40 * d + e ≤ x ∧ x < 40 * d + e + n then nb (40 * a + b + (x - (40 * d + e))) else nb x
def ih_jd (s bt sz nb : Int → Int) (p : Nat) (a d : Int) : Int → Bool := fun k => decide (9999 < d + k ∨ ih_rM s p (d + k) ≠ nb (40 * a + k))
def f_judge (s bt sz nb : Int → Int) (a b d : Int) : ih_An := if 0 ≤ a ∧ a < 4 then (if bt a = 0 then ih_no 5 else if (0 ≤ b ∧ b < 4) ∧ 0 ≤ d ∧ d < 10000 then ih_ok1 (if ih_fst (ih_jd s bt sz nb b.toNat a d) 0 (sz a).toNat < sz a then 1 + ih_fst (ih_jd s bt sz nb b.toNat a d) 0 (sz a).toNat else 0) else ih_no 0) else ih_no 0

theorem c_isMissing {X : List Int} {t : ih_S} {Q : Option xa_V → ih_S → Prop} {q : Nat} (hq : q < 4) (hr : xa_rI (t (103 + 2 * q) 1)) (kt : t (103 + 2 * q) 1 = 0 → Q (some (xI 1)) t) (kf : t (103 + 2 * q) 1 ≠ 0 → Q (some (xI 0)) t) : ih_Wp X 31 0 [xR (103 + 2 * q)] [] t Q := by
  refine ih_seg (i1 := 1) 1 rfl ?_
  refine ih_getI rfl (by first | rfl | exact ih_fS1 (by assumption)) ?_
  refine ih_ifc_ne rfl (by omega) (fun w1 => ?_) (fun w1 => ?_)
  · refine ih_seg (i1 := 6) 1 rfl ?_
    refine ih_ret rfl rfl ?_
    first | exact kt (by omega) | exact kf (by omega)
  · refine ih_seg (i1 := 6) 2 rfl ?_
    refine ih_ret rfl rfl ?_
    first | exact kt (by omega) | exact kf (by omega)


theorem c_shbegin_l {X : List Int} {t : ih_S} {Q : Option xa_V → ih_S → Prop} {q : Nat} {b n : Int} (hq : q < 4) (hz : 0 ≤ t (103 + 2 * q) 2 ∧ t (103 + 2 * q) 2 ≤ 40) (K : ∀ t1, (∀ j, j ≠ 104 + 2 * q → t1 j = t j) → (∀ k : Nat, (k : Int) < t (103 + 2 * q) 2 → t1 (104 + 2 * q) k = 0) → Q none t1) : ∀ (d : Nat) (i : Nat) (t1 : ih_S) (hd : (i : Int) + d = t (103 + 2 * q) 2) (hf : (∀ j, j ≠ 104 + 2 * q → t1 j = t j)) (h0 : ∀ k : Nat, k < i → t1 (104 + 2 * q) k = 0), ih_Wp X 32 12 [xR (103 + 2 * q), xI b, xI n, xI i] [] t1 Q := by
  intro d
  induction d with
  | zero =>
    intro i t1 hd hf h0
    have es : t1 (103 + 2 * q) = t (103 + 2 * q) := hf _ (by omega)
    rw [← es] at hd hz
    refine ih_seg (i1 := 14) 2 rfl ?_
    refine ih_getI rfl (by first | rfl | exact ih_fS2 (by assumption)) ?_
    refine ih_icmp_ge rfl (by omega) (by omega) (fun w1 => ?_) (fun w1 => ?_)
    · refine ih_retv rfl ?_
      exact K t1 hf (fun k hk => h0 k (by rw [← es] at hk; omega))
    · exfalso
      omega

  | succ d ih =>
    intro i t1 hd hf h0
    have es : t1 (103 + 2 * q) = t (103 + 2 * q) := hf _ (by omega)
    rw [← es] at hd hz
    refine ih_seg (i1 := 14) 2 rfl ?_
    refine ih_getI rfl (by first | rfl | exact ih_fS2 (by assumption)) ?_
    refine ih_icmp_ge rfl (by omega) (by omega) (fun w1 => ?_) (fun w1 => ?_)
    · refine ih_retv rfl ?_
      exfalso
      omega
    · refine ih_seg (i1 := 17) 1 rfl ?_
      refine ih_getR rfl (by first | rfl | exact ih_fS0 (by assumption)) ?_
      refine ih_seg (i1 := 20) 2 rfl ?_
      refine ih_iast rfl (ih_lS1 hq) (by omega) (by omega) (k := ?_)
      refine ih_seg (i1 := 12) 2 rfl ?_
      try simp only [xa_set, List.set_cons_zero, List.set_cons_succ, List.getElem?_cons_zero, List.getElem?_cons_succ]
      refine ih (i + 1) _ (by rw [← es]; omega) (fun j hj => (ih_up_ne hj).trans (hf j hj)) (fun k hk => ?_)
      rw [ih_up2]
      split
      · rfl
      · exact h0 k (by omega)


theorem c_shbegin {X : List Int} {t : ih_S} {Q : Option xa_V → ih_S → Prop} {q : Nat} {b n : Int} (hq : q < 4) (hb : xa_rI b) (hn : 0 ≤ n ∧ n ≤ 40) (K : ∀ t1, (∀ j, j ≠ 103 + 2 * q → j ≠ 104 + 2 * q → t1 j = t j) → t1 (103 + 2 * q) 1 = b → t1 (103 + 2 * q) 2 = (if b = 0 then 0 else n) → (∀ k : Nat, (k : Int) < (if b = 0 then 0 else n) → t1 (104 + 2 * q) k = 0) → Q none t1) : ih_Wp X 32 0 [xR (103 + 2 * q), xI b, xI n, xC 1] [] t Q := by
  refine ih_seg (i1 := 2) 2 rfl ?_
  refine ih_putI rfl (by first | rfl | exact ih_fS1 (by assumption)) rfl ?_
  refine ih_seg (i1 := 5) 2 rfl ?_
  refine ih_ifc_ne rfl (by omega) (fun w1 => ?_) (fun w1 => ?_)
  · refine ih_seg (i1 := 9) 1 rfl ?_
    refine ih_putI rfl (by first | rfl | exact ih_fS2 (by assumption)) rfl ?_
    refine ih_seg (i1 := 12) 2 rfl ?_
    try simp only [xa_set, List.set_cons_zero, List.set_cons_succ, List.getElem?_cons_zero, List.getElem?_cons_succ]
    have hif : 0 ≤ (if b = 0 then 0 else n) ∧ (if b = 0 then 0 else n) ≤ 40 := by split <;> omega
    have e2 : ih_up (ih_up t (103 + 2 * q) 1 b) (103 + 2 * q) 2 n (103 + 2 * q) 2 = (if b = 0 then 0 else n) := by
      rw [ih_up_eq, ih_u1_eq]
      split <;> omega
    refine c_shbegin_l hq (by rw [e2]; exact hif) (fun t1 h1 h2 => ?_) (if b = 0 then 0 else n : Int).toNat 0 _ (by rw [e2]; omega) (fun _ _ => rfl) (fun k hk => by omega)
    refine K t1 (fun j j1 j2 => ?_) ?_ ?_ (fun k hk => h2 k (by rw [e2]; exact hk))
    · rw [h1 j j2, ih_up_ne j1, ih_up_ne j1]
    · rw [h1 _ (by omega), ih_up_eq, ih_u1_ne (by decide), ih_up_eq, ih_u1_eq]
    · rw [h1 _ (by omega)]
      exact e2
  · refine ih_seg (i1 := 9) 2 rfl ?_
    refine ih_putI rfl (by first | rfl | exact ih_fS2 (by assumption)) rfl ?_
    refine ih_seg (i1 := 12) 2 rfl ?_
    try simp only [xa_set, List.set_cons_zero, List.set_cons_succ, List.getElem?_cons_zero, List.getElem?_cons_succ]
    have hif : 0 ≤ (if b = 0 then 0 else n) ∧ (if b = 0 then 0 else n) ≤ 40 := by split <;> omega
    have e2 : ih_up (ih_up t (103 + 2 * q) 1 b) (103 + 2 * q) 2 0 (103 + 2 * q) 2 = (if b = 0 then 0 else n) := by
      rw [ih_up_eq, ih_u1_eq]
      split <;> omega
    refine c_shbegin_l hq (by rw [e2]; exact hif) (fun t1 h1 h2 => ?_) (if b = 0 then 0 else n : Int).toNat 0 _ (by rw [e2]; omega) (fun _ _ => rfl) (fun k hk => by omega)
    refine K t1 (fun j j1 j2 => ?_) ?_ ?_ (fun k hk => h2 k (by rw [e2]; exact hk))
    · rw [h1 j j2, ih_up_ne j1, ih_up_ne j1]
    · rw [h1 _ (by omega), ih_up_eq, ih_u1_ne (by decide), ih_up_eq, ih_u1_eq]
    · rw [h1 _ (by omega)]
      exact e2


theorem c_op_sheet {X : List Int} {t : ih_S} {Q : Option xa_V → ih_S → Prop} {bt sz nb : Int → Int} {a b d : Int} (ha : xa_rI a) (hb : xa_rI b) (hd : xa_rI d) (S : ih_SW t bt sz nb) (SG : ih_SG bt sz nb) (K : ih_shC t (f_sheet a b d) (ih_u1 bt a b) (ih_u1 sz a (if b = 0 then 0 else d)) (g_nb0 nb a) Q) : ih_Wp X 92 0 [xR 0, xI a, xI b, xI d] [] t Q := by
  refine ih_seg (i1 := 1) 1 rfl ?_
  refine ih_is1 110 rfl rfl (Nat.le_of_ble_eq_true rfl) (Nat.le_of_ble_eq_true rfl) rfl ?_
  refine c_isSheet (by omega) (fun w1 => ?_) (fun w2 => ?_)
  · refine ih_seg (i1 := 4) 2 rfl ?_
    refine ih_ifc_eq rfl (by omega) (fun w3 => ?_) (fun w3 => ?_)
    · refine ih_seg (i1 := 19) 1 rfl ?_
      refine ih_ifc_ge rfl (by omega) (fun w4 => ?_) (fun w4 => ?_)
      · refine ih_seg (i1 := 26) 2 rfl ?_
        refine ih_icmp_le rfl (by omega) (by omega) (fun w5 => ?_) (fun w5 => ?_)
        · obtain ⟨q, rfl⟩ := Int.eq_ofNat_of_zero_le (show 0 ≤ a by omega)
          have hq : q < 4 := by omega
          refine ih_seg (i1 := 32) 1 rfl ?_
          refine ih_getR rfl rfl ?_
          refine ih_seg (i1 := 34) 1 rfl ?_
          refine ih_aald rfl (ih_eS hq) ?_
          refine ih_seg (i1 := 37) 2 rfl ?_
          refine ih_iv2 32 rfl rfl (by first | rfl | exact ih_kP (ih_P_w0 hc) |  exact ih_kP (by assumption) | exact ih_kC (by assumption) | exact ih_kN (by assumption) | exact ih_kS (by assumption) | exact ih_kW (by assumption)) (Nat.le_of_ble_eq_true rfl) (Nat.le_of_ble_eq_true rfl) rfl ?_
          refine c_shbegin hq (by omega) (by omega) (fun t1 h1 h2 h3 h4 => ?_)
          refine ih_seg (i1 := 39) 1 rfl ?_
          refine ih_getR rfl rfl ?_
          refine ih_seg (i1 := 41) 1 rfl ?_
          refine ih_aald rfl (ih_eS hq) ?_
          refine ih_getI rfl (by first | rfl | exact ih_fS2 (by assumption)) ?_
          refine ih_ret rfl rfl ?_
          first
            | exact ih_shC_no K (by rw [f_sheet, if_neg (by omega)]) (ih_sc_r _)
            | exact ih_shC_no K (by rw [f_sheet, if_pos (by omega), if_pos (by omega)]) (ih_sc_r _)
            | exact ih_shC_no K (by rw [f_sheet, if_pos (by omega), if_neg (by omega), if_pos (by omega)]) (ih_sc_r _)
            | (refine ih_shC_ok K (by rw [f_sheet, if_pos (by omega), if_neg (by omega), if_neg (by omega), h3]) (fun i hi => ?_) (fun j hj => h1 j (by omega) (by omega))
               by_cases e : i = q
               · subst e
                 refine ⟨by rw [h2, ih_u1_eq], by rw [h3, ih_u1_eq], fun k hk => ?_⟩
                 rw [ih_u1_eq] at hk
                 rw [h4 k hk, g_nb0, if_pos (by split at hk <;> omega)]
               · have S1 := S i hi
                 have z1 := (SG i hi).2.1
                 rw [h1 _ (by omega) (by omega), h1 (104 + 2 * i) (by omega) (by omega), ih_u1_ne (by omega), ih_u1_ne (by omega)]
                 refine ⟨S1.1, S1.2.1, fun k hk => ?_⟩
                 rw [S1.2.2 k hk, g_nb0, if_neg (by omega)])
        · refine ih_seg (i1 := 29) 2 rfl ?_
          refine ih_iv1 102 rfl rfl (by first | rfl | exact ih_kP (ih_P_w0 hc) |  exact ih_kP (by assumption) | exact ih_kC (by assumption) | exact ih_kN (by assumption) | exact ih_kS (by assumption) | exact ih_kW (by assumption)) (Nat.le_of_ble_eq_true rfl) (Nat.le_of_ble_eq_true rfl) rfl ?_
          refine c_finding (by omega) ?_
          refine ih_ret rfl rfl ?_
          first
            | exact ih_shC_no K (by rw [f_sheet, if_neg (by omega)]) (ih_sc_r _)
            | exact ih_shC_no K (by rw [f_sheet, if_pos (by omega), if_pos (by omega)]) (ih_sc_r _)
            | exact ih_shC_no K (by rw [f_sheet, if_pos (by omega), if_neg (by omega), if_pos (by omega)]) (ih_sc_r _)
            | (refine ih_shC_ok K (by rw [f_sheet, if_pos (by omega), if_neg (by omega), if_neg (by omega), h3]) (fun i hi => ?_) (fun j hj => h1 j (by omega) (by omega))
               by_cases e : i = q
               · subst e
                 refine ⟨by rw [h2, ih_u1_eq], by rw [h3, ih_u1_eq], fun k hk => ?_⟩
                 rw [ih_u1_eq] at hk
                 rw [h4 k hk, g_nb0, if_pos (by split at hk <;> omega)]
               · have S1 := S i hi
                 have z1 := (SG i hi).2.1
                 rw [h1 _ (by omega) (by omega), h1 (104 + 2 * i) (by omega) (by omega), ih_u1_ne (by omega), ih_u1_ne (by omega)]
                 refine ⟨S1.1, S1.2.1, fun k hk => ?_⟩
                 rw [S1.2.2 k hk, g_nb0, if_neg (by omega)])
      · refine ih_seg (i1 := 22) 2 rfl ?_
        refine ih_iv1 102 rfl rfl (by first | rfl | exact ih_kP (ih_P_w0 hc) |  exact ih_kP (by assumption) | exact ih_kC (by assumption) | exact ih_kN (by assumption) | exact ih_kS (by assumption) | exact ih_kW (by assumption)) (Nat.le_of_ble_eq_true rfl) (Nat.le_of_ble_eq_true rfl) rfl ?_
        refine c_finding (by omega) ?_
        refine ih_ret rfl rfl ?_
        first
          | exact ih_shC_no K (by rw [f_sheet, if_neg (by omega)]) (ih_sc_r _)
          | exact ih_shC_no K (by rw [f_sheet, if_pos (by omega), if_pos (by omega)]) (ih_sc_r _)
          | exact ih_shC_no K (by rw [f_sheet, if_pos (by omega), if_neg (by omega), if_pos (by omega)]) (ih_sc_r _)
          | (refine ih_shC_ok K (by rw [f_sheet, if_pos (by omega), if_neg (by omega), if_neg (by omega), h3]) (fun i hi => ?_) (fun j hj => h1 j (by omega) (by omega))
             by_cases e : i = q
             · subst e
               refine ⟨by rw [h2, ih_u1_eq], by rw [h3, ih_u1_eq], fun k hk => ?_⟩
               rw [ih_u1_eq] at hk
               rw [h4 k hk, g_nb0, if_pos (by split at hk <;> omega)]
             · have S1 := S i hi
               have z1 := (SG i hi).2.1
               rw [h1 _ (by omega) (by omega), h1 (104 + 2 * i) (by omega) (by omega), ih_u1_ne (by omega), ih_u1_ne (by omega)]
               refine ⟨S1.1, S1.2.1, fun k hk => ?_⟩
               rw [S1.2.2 k hk, g_nb0, if_neg (by omega)])
    · refine ih_seg (i1 := 7) 2 rfl ?_
      refine ih_icmp_eq rfl (by omega) (by omega) (fun w6 => ?_) (fun w6 => ?_)
      · refine ih_seg (i1 := 19) 1 rfl ?_
        refine ih_ifc_ge rfl (by omega) (fun w7 => ?_) (fun w7 => ?_)
        · refine ih_seg (i1 := 26) 2 rfl ?_
          refine ih_icmp_le rfl (by omega) (by omega) (fun w8 => ?_) (fun w8 => ?_)
          · obtain ⟨q, rfl⟩ := Int.eq_ofNat_of_zero_le (show 0 ≤ a by omega)
            have hq : q < 4 := by omega
            refine ih_seg (i1 := 32) 1 rfl ?_
            refine ih_getR rfl rfl ?_
            refine ih_seg (i1 := 34) 1 rfl ?_
            refine ih_aald rfl (ih_eS hq) ?_
            refine ih_seg (i1 := 37) 2 rfl ?_
            refine ih_iv2 32 rfl rfl (by first | rfl | exact ih_kP (ih_P_w0 hc) |  exact ih_kP (by assumption) | exact ih_kC (by assumption) | exact ih_kN (by assumption) | exact ih_kS (by assumption) | exact ih_kW (by assumption)) (Nat.le_of_ble_eq_true rfl) (Nat.le_of_ble_eq_true rfl) rfl ?_
            refine c_shbegin hq (by omega) (by omega) (fun t1 h1 h2 h3 h4 => ?_)
            refine ih_seg (i1 := 39) 1 rfl ?_
            refine ih_getR rfl rfl ?_
            refine ih_seg (i1 := 41) 1 rfl ?_
            refine ih_aald rfl (ih_eS hq) ?_
            refine ih_getI rfl (by first | rfl | exact ih_fS2 (by assumption)) ?_
            refine ih_ret rfl rfl ?_
            first
              | exact ih_shC_no K (by rw [f_sheet, if_neg (by omega)]) (ih_sc_r _)
              | exact ih_shC_no K (by rw [f_sheet, if_pos (by omega), if_pos (by omega)]) (ih_sc_r _)
              | exact ih_shC_no K (by rw [f_sheet, if_pos (by omega), if_neg (by omega), if_pos (by omega)]) (ih_sc_r _)
              | (refine ih_shC_ok K (by rw [f_sheet, if_pos (by omega), if_neg (by omega), if_neg (by omega), h3]) (fun i hi => ?_) (fun j hj => h1 j (by omega) (by omega))
                 by_cases e : i = q
                 · subst e
                   refine ⟨by rw [h2, ih_u1_eq], by rw [h3, ih_u1_eq], fun k hk => ?_⟩
                   rw [ih_u1_eq] at hk
                   rw [h4 k hk, g_nb0, if_pos (by split at hk <;> omega)]
                 · have S1 := S i hi
                   have z1 := (SG i hi).2.1
                   rw [h1 _ (by omega) (by omega), h1 (104 + 2 * i) (by omega) (by omega), ih_u1_ne (by omega), ih_u1_ne (by omega)]
                   refine ⟨S1.1, S1.2.1, fun k hk => ?_⟩
                   rw [S1.2.2 k hk, g_nb0, if_neg (by omega)])
          · refine ih_seg (i1 := 29) 2 rfl ?_
            refine ih_iv1 102 rfl rfl (by first | rfl | exact ih_kP (ih_P_w0 hc) |  exact ih_kP (by assumption) | exact ih_kC (by assumption) | exact ih_kN (by assumption) | exact ih_kS (by assumption) | exact ih_kW (by assumption)) (Nat.le_of_ble_eq_true rfl) (Nat.le_of_ble_eq_true rfl) rfl ?_
            refine c_finding (by omega) ?_
            refine ih_ret rfl rfl ?_
            first
              | exact ih_shC_no K (by rw [f_sheet, if_neg (by omega)]) (ih_sc_r _)
              | exact ih_shC_no K (by rw [f_sheet, if_pos (by omega), if_pos (by omega)]) (ih_sc_r _)
              | exact ih_shC_no K (by rw [f_sheet, if_pos (by omega), if_neg (by omega), if_pos (by omega)]) (ih_sc_r _)
              | (refine ih_shC_ok K (by rw [f_sheet, if_pos (by omega), if_neg (by omega), if_neg (by omega), h3]) (fun i hi => ?_) (fun j hj => h1 j (by omega) (by omega))
                 by_cases e : i = q
                 · subst e
                   refine ⟨by rw [h2, ih_u1_eq], by rw [h3, ih_u1_eq], fun k hk => ?_⟩
                   rw [ih_u1_eq] at hk
                   rw [h4 k hk, g_nb0, if_pos (by split at hk <;> omega)]
                 · have S1 := S i hi
                   have z1 := (SG i hi).2.1
                   rw [h1 _ (by omega) (by omega), h1 (104 + 2 * i) (by omega) (by omega), ih_u1_ne (by omega), ih_u1_ne (by omega)]
                   refine ⟨S1.1, S1.2.1, fun k hk => ?_⟩
                   rw [S1.2.2 k hk, g_nb0, if_neg (by omega)])
        · refine ih_seg (i1 := 22) 2 rfl ?_
          refine ih_iv1 102 rfl rfl (by first | rfl | exact ih_kP (ih_P_w0 hc) |  exact ih_kP (by assumption) | exact ih_kC (by assumption) | exact ih_kN (by assumption) | exact ih_kS (by assumption) | exact ih_kW (by assumption)) (Nat.le_of_ble_eq_true rfl) (Nat.le_of_ble_eq_true rfl) rfl ?_
          refine c_finding (by omega) ?_
          refine ih_ret rfl rfl ?_
          first
            | exact ih_shC_no K (by rw [f_sheet, if_neg (by omega)]) (ih_sc_r _)
            | exact ih_shC_no K (by rw [f_sheet, if_pos (by omega), if_pos (by omega)]) (ih_sc_r _)
            | exact ih_shC_no K (by rw [f_sheet, if_pos (by omega), if_neg (by omega), if_pos (by omega)]) (ih_sc_r _)
            | (refine ih_shC_ok K (by rw [f_sheet, if_pos (by omega), if_neg (by omega), if_neg (by omega), h3]) (fun i hi => ?_) (fun j hj => h1 j (by omega) (by omega))
               by_cases e : i = q
               · subst e
                 refine ⟨by rw [h2, ih_u1_eq], by rw [h3, ih_u1_eq], fun k hk => ?_⟩
                 rw [ih_u1_eq] at hk
                 rw [h4 k hk, g_nb0, if_pos (by split at hk <;> omega)]
               · have S1 := S i hi
                 have z1 := (SG i hi).2.1
                 rw [h1 _ (by omega) (by omega), h1 (104 + 2 * i) (by omega) (by omega), ih_u1_ne (by omega), ih_u1_ne (by omega)]
                 refine ⟨S1.1, S1.2.1, fun k hk => ?_⟩
                 rw [S1.2.2 k hk, g_nb0, if_neg (by omega)])
      · refine ih_seg (i1 := 10) 2 rfl ?_
        refine ih_icmp_eq rfl (by omega) (by omega) (fun w9 => ?_) (fun w9 => ?_)
        · refine ih_seg (i1 := 19) 1 rfl ?_
          refine ih_ifc_ge rfl (by omega) (fun w10 => ?_) (fun w10 => ?_)
          · refine ih_seg (i1 := 26) 2 rfl ?_
            refine ih_icmp_le rfl (by omega) (by omega) (fun w11 => ?_) (fun w11 => ?_)
            · obtain ⟨q, rfl⟩ := Int.eq_ofNat_of_zero_le (show 0 ≤ a by omega)
              have hq : q < 4 := by omega
              refine ih_seg (i1 := 32) 1 rfl ?_
              refine ih_getR rfl rfl ?_
              refine ih_seg (i1 := 34) 1 rfl ?_
              refine ih_aald rfl (ih_eS hq) ?_
              refine ih_seg (i1 := 37) 2 rfl ?_
              refine ih_iv2 32 rfl rfl (by first | rfl | exact ih_kP (ih_P_w0 hc) |  exact ih_kP (by assumption) | exact ih_kC (by assumption) | exact ih_kN (by assumption) | exact ih_kS (by assumption) | exact ih_kW (by assumption)) (Nat.le_of_ble_eq_true rfl) (Nat.le_of_ble_eq_true rfl) rfl ?_
              refine c_shbegin hq (by omega) (by omega) (fun t1 h1 h2 h3 h4 => ?_)
              refine ih_seg (i1 := 39) 1 rfl ?_
              refine ih_getR rfl rfl ?_
              refine ih_seg (i1 := 41) 1 rfl ?_
              refine ih_aald rfl (ih_eS hq) ?_
              refine ih_getI rfl (by first | rfl | exact ih_fS2 (by assumption)) ?_
              refine ih_ret rfl rfl ?_
              first
                | exact ih_shC_no K (by rw [f_sheet, if_neg (by omega)]) (ih_sc_r _)
                | exact ih_shC_no K (by rw [f_sheet, if_pos (by omega), if_pos (by omega)]) (ih_sc_r _)
                | exact ih_shC_no K (by rw [f_sheet, if_pos (by omega), if_neg (by omega), if_pos (by omega)]) (ih_sc_r _)
                | (refine ih_shC_ok K (by rw [f_sheet, if_pos (by omega), if_neg (by omega), if_neg (by omega), h3]) (fun i hi => ?_) (fun j hj => h1 j (by omega) (by omega))
                   by_cases e : i = q
                   · subst e
                     refine ⟨by rw [h2, ih_u1_eq], by rw [h3, ih_u1_eq], fun k hk => ?_⟩
                     rw [ih_u1_eq] at hk
                     rw [h4 k hk, g_nb0, if_pos (by split at hk <;> omega)]
                   · have S1 := S i hi
                     have z1 := (SG i hi).2.1
                     rw [h1 _ (by omega) (by omega), h1 (104 + 2 * i) (by omega) (by omega), ih_u1_ne (by omega), ih_u1_ne (by omega)]
                     refine ⟨S1.1, S1.2.1, fun k hk => ?_⟩
                     rw [S1.2.2 k hk, g_nb0, if_neg (by omega)])
            · refine ih_seg (i1 := 29) 2 rfl ?_
              refine ih_iv1 102 rfl rfl (by first | rfl | exact ih_kP (ih_P_w0 hc) |  exact ih_kP (by assumption) | exact ih_kC (by assumption) | exact ih_kN (by assumption) | exact ih_kS (by assumption) | exact ih_kW (by assumption)) (Nat.le_of_ble_eq_true rfl) (Nat.le_of_ble_eq_true rfl) rfl ?_
              refine c_finding (by omega) ?_
              refine ih_ret rfl rfl ?_
              first
                | exact ih_shC_no K (by rw [f_sheet, if_neg (by omega)]) (ih_sc_r _)
                | exact ih_shC_no K (by rw [f_sheet, if_pos (by omega), if_pos (by omega)]) (ih_sc_r _)
                | exact ih_shC_no K (by rw [f_sheet, if_pos (by omega), if_neg (by omega), if_pos (by omega)]) (ih_sc_r _)
                | (refine ih_shC_ok K (by rw [f_sheet, if_pos (by omega), if_neg (by omega), if_neg (by omega), h3]) (fun i hi => ?_) (fun j hj => h1 j (by omega) (by omega))
                   by_cases e : i = q
                   · subst e
                     refine ⟨by rw [h2, ih_u1_eq], by rw [h3, ih_u1_eq], fun k hk => ?_⟩
                     rw [ih_u1_eq] at hk
                     rw [h4 k hk, g_nb0, if_pos (by split at hk <;> omega)]
                   · have S1 := S i hi
                     have z1 := (SG i hi).2.1
                     rw [h1 _ (by omega) (by omega), h1 (104 + 2 * i) (by omega) (by omega), ih_u1_ne (by omega), ih_u1_ne (by omega)]
                     refine ⟨S1.1, S1.2.1, fun k hk => ?_⟩
                     rw [S1.2.2 k hk, g_nb0, if_neg (by omega)])
          · refine ih_seg (i1 := 22) 2 rfl ?_
            refine ih_iv1 102 rfl rfl (by first | rfl | exact ih_kP (ih_P_w0 hc) |  exact ih_kP (by assumption) | exact ih_kC (by assumption) | exact ih_kN (by assumption) | exact ih_kS (by assumption) | exact ih_kW (by assumption)) (Nat.le_of_ble_eq_true rfl) (Nat.le_of_ble_eq_true rfl) rfl ?_
            refine c_finding (by omega) ?_
            refine ih_ret rfl rfl ?_
            first
              | exact ih_shC_no K (by rw [f_sheet, if_neg (by omega)]) (ih_sc_r _)
              | exact ih_shC_no K (by rw [f_sheet, if_pos (by omega), if_pos (by omega)]) (ih_sc_r _)
              | exact ih_shC_no K (by rw [f_sheet, if_pos (by omega), if_neg (by omega), if_pos (by omega)]) (ih_sc_r _)
              | (refine ih_shC_ok K (by rw [f_sheet, if_pos (by omega), if_neg (by omega), if_neg (by omega), h3]) (fun i hi => ?_) (fun j hj => h1 j (by omega) (by omega))
                 by_cases e : i = q
                 · subst e
                   refine ⟨by rw [h2, ih_u1_eq], by rw [h3, ih_u1_eq], fun k hk => ?_⟩
                   rw [ih_u1_eq] at hk
                   rw [h4 k hk, g_nb0, if_pos (by split at hk <;> omega)]
                 · have S1 := S i hi
                   have z1 := (SG i hi).2.1
                   rw [h1 _ (by omega) (by omega), h1 (104 + 2 * i) (by omega) (by omega), ih_u1_ne (by omega), ih_u1_ne (by omega)]
                   refine ⟨S1.1, S1.2.1, fun k hk => ?_⟩
                   rw [S1.2.2 k hk, g_nb0, if_neg (by omega)])
        · refine ih_seg (i1 := 13) 2 rfl ?_
          refine ih_icmp_eq rfl (by omega) (by omega) (fun w12 => ?_) (fun w12 => ?_)
          · refine ih_seg (i1 := 19) 1 rfl ?_
            refine ih_ifc_ge rfl (by omega) (fun w13 => ?_) (fun w13 => ?_)
            · refine ih_seg (i1 := 26) 2 rfl ?_
              refine ih_icmp_le rfl (by omega) (by omega) (fun w14 => ?_) (fun w14 => ?_)
              · obtain ⟨q, rfl⟩ := Int.eq_ofNat_of_zero_le (show 0 ≤ a by omega)
                have hq : q < 4 := by omega
                refine ih_seg (i1 := 32) 1 rfl ?_
                refine ih_getR rfl rfl ?_
                refine ih_seg (i1 := 34) 1 rfl ?_
                refine ih_aald rfl (ih_eS hq) ?_
                refine ih_seg (i1 := 37) 2 rfl ?_
                refine ih_iv2 32 rfl rfl (by first | rfl | exact ih_kP (ih_P_w0 hc) |  exact ih_kP (by assumption) | exact ih_kC (by assumption) | exact ih_kN (by assumption) | exact ih_kS (by assumption) | exact ih_kW (by assumption)) (Nat.le_of_ble_eq_true rfl) (Nat.le_of_ble_eq_true rfl) rfl ?_
                refine c_shbegin hq (by omega) (by omega) (fun t1 h1 h2 h3 h4 => ?_)
                refine ih_seg (i1 := 39) 1 rfl ?_
                refine ih_getR rfl rfl ?_
                refine ih_seg (i1 := 41) 1 rfl ?_
                refine ih_aald rfl (ih_eS hq) ?_
                refine ih_getI rfl (by first | rfl | exact ih_fS2 (by assumption)) ?_
                refine ih_ret rfl rfl ?_
                first
                  | exact ih_shC_no K (by rw [f_sheet, if_neg (by omega)]) (ih_sc_r _)
                  | exact ih_shC_no K (by rw [f_sheet, if_pos (by omega), if_pos (by omega)]) (ih_sc_r _)
                  | exact ih_shC_no K (by rw [f_sheet, if_pos (by omega), if_neg (by omega), if_pos (by omega)]) (ih_sc_r _)
                  | (refine ih_shC_ok K (by rw [f_sheet, if_pos (by omega), if_neg (by omega), if_neg (by omega), h3]) (fun i hi => ?_) (fun j hj => h1 j (by omega) (by omega))
                     by_cases e : i = q
                     · subst e
                       refine ⟨by rw [h2, ih_u1_eq], by rw [h3, ih_u1_eq], fun k hk => ?_⟩
                       rw [ih_u1_eq] at hk
                       rw [h4 k hk, g_nb0, if_pos (by split at hk <;> omega)]
                     · have S1 := S i hi
                       have z1 := (SG i hi).2.1
                       rw [h1 _ (by omega) (by omega), h1 (104 + 2 * i) (by omega) (by omega), ih_u1_ne (by omega), ih_u1_ne (by omega)]
                       refine ⟨S1.1, S1.2.1, fun k hk => ?_⟩
                       rw [S1.2.2 k hk, g_nb0, if_neg (by omega)])
              · refine ih_seg (i1 := 29) 2 rfl ?_
                refine ih_iv1 102 rfl rfl (by first | rfl | exact ih_kP (ih_P_w0 hc) |  exact ih_kP (by assumption) | exact ih_kC (by assumption) | exact ih_kN (by assumption) | exact ih_kS (by assumption) | exact ih_kW (by assumption)) (Nat.le_of_ble_eq_true rfl) (Nat.le_of_ble_eq_true rfl) rfl ?_
                refine c_finding (by omega) ?_
                refine ih_ret rfl rfl ?_
                first
                  | exact ih_shC_no K (by rw [f_sheet, if_neg (by omega)]) (ih_sc_r _)
                  | exact ih_shC_no K (by rw [f_sheet, if_pos (by omega), if_pos (by omega)]) (ih_sc_r _)
                  | exact ih_shC_no K (by rw [f_sheet, if_pos (by omega), if_neg (by omega), if_pos (by omega)]) (ih_sc_r _)
                  | (refine ih_shC_ok K (by rw [f_sheet, if_pos (by omega), if_neg (by omega), if_neg (by omega), h3]) (fun i hi => ?_) (fun j hj => h1 j (by omega) (by omega))
                     by_cases e : i = q
                     · subst e
                       refine ⟨by rw [h2, ih_u1_eq], by rw [h3, ih_u1_eq], fun k hk => ?_⟩
                       rw [ih_u1_eq] at hk
                       rw [h4 k hk, g_nb0, if_pos (by split at hk <;> omega)]
                     · have S1 := S i hi
                       have z1 := (SG i hi).2.1
                       rw [h1 _ (by omega) (by omega), h1 (104 + 2 * i) (by omega) (by omega), ih_u1_ne (by omega), ih_u1_ne (by omega)]
                       refine ⟨S1.1, S1.2.1, fun k hk => ?_⟩
                       rw [S1.2.2 k hk, g_nb0, if_neg (by omega)])
            · refine ih_seg (i1 := 22) 2 rfl ?_
              refine ih_iv1 102 rfl rfl (by first | rfl | exact ih_kP (ih_P_w0 hc) |  exact ih_kP (by assumption) | exact ih_kC (by assumption) | exact ih_kN (by assumption) | exact ih_kS (by assumption) | exact ih_kW (by assumption)) (Nat.le_of_ble_eq_true rfl) (Nat.le_of_ble_eq_true rfl) rfl ?_
              refine c_finding (by omega) ?_
              refine ih_ret rfl rfl ?_
              first
                | exact ih_shC_no K (by rw [f_sheet, if_neg (by omega)]) (ih_sc_r _)
                | exact ih_shC_no K (by rw [f_sheet, if_pos (by omega), if_pos (by omega)]) (ih_sc_r _)
                | exact ih_shC_no K (by rw [f_sheet, if_pos (by omega), if_neg (by omega), if_pos (by omega)]) (ih_sc_r _)
                | (refine ih_shC_ok K (by rw [f_sheet, if_pos (by omega), if_neg (by omega), if_neg (by omega), h3]) (fun i hi => ?_) (fun j hj => h1 j (by omega) (by omega))
                   by_cases e : i = q
                   · subst e
                     refine ⟨by rw [h2, ih_u1_eq], by rw [h3, ih_u1_eq], fun k hk => ?_⟩
                     rw [ih_u1_eq] at hk
                     rw [h4 k hk, g_nb0, if_pos (by split at hk <;> omega)]
                   · have S1 := S i hi
                     have z1 := (SG i hi).2.1
                     rw [h1 _ (by omega) (by omega), h1 (104 + 2 * i) (by omega) (by omega), ih_u1_ne (by omega), ih_u1_ne (by omega)]
                     refine ⟨S1.1, S1.2.1, fun k hk => ?_⟩
                     rw [S1.2.2 k hk, g_nb0, if_neg (by omega)])
          · refine ih_seg (i1 := 16) 2 rfl ?_
            refine ih_iv1 102 rfl rfl (by first | rfl | exact ih_kP (ih_P_w0 hc) |  exact ih_kP (by assumption) | exact ih_kC (by assumption) | exact ih_kN (by assumption) | exact ih_kS (by assumption) | exact ih_kW (by assumption)) (Nat.le_of_ble_eq_true rfl) (Nat.le_of_ble_eq_true rfl) rfl ?_
            refine c_finding (by omega) ?_
            refine ih_ret rfl rfl ?_
            first
              | exact ih_shC_no K (by rw [f_sheet, if_neg (by omega)]) (ih_sc_r _)
              | exact ih_shC_no K (by rw [f_sheet, if_pos (by omega), if_pos (by omega)]) (ih_sc_r _)
              | exact ih_shC_no K (by rw [f_sheet, if_pos (by omega), if_neg (by omega), if_pos (by omega)]) (ih_sc_r _)
              | (refine ih_shC_ok K (by rw [f_sheet, if_pos (by omega), if_neg (by omega), if_neg (by omega), h3]) (fun i hi => ?_) (fun j hj => h1 j (by omega) (by omega))
                 by_cases e : i = q
                 · subst e
                   refine ⟨by rw [h2, ih_u1_eq], by rw [h3, ih_u1_eq], fun k hk => ?_⟩
                   rw [ih_u1_eq] at hk
                   rw [h4 k hk, g_nb0, if_pos (by split at hk <;> omega)]
                 · have S1 := S i hi
                   have z1 := (SG i hi).2.1
                   rw [h1 _ (by omega) (by omega), h1 (104 + 2 * i) (by omega) (by omega), ih_u1_ne (by omega), ih_u1_ne (by omega)]
                   refine ⟨S1.1, S1.2.1, fun k hk => ?_⟩
                   rw [S1.2.2 k hk, g_nb0, if_neg (by omega)])
  · refine ih_seg (i1 := 16) 3 rfl ?_
    refine ih_iv1 102 rfl rfl (by first | rfl | exact ih_kP (ih_P_w0 hc) |  exact ih_kP (by assumption) | exact ih_kC (by assumption) | exact ih_kN (by assumption) | exact ih_kS (by assumption) | exact ih_kW (by assumption)) (Nat.le_of_ble_eq_true rfl) (Nat.le_of_ble_eq_true rfl) rfl ?_
    refine c_finding (by omega) ?_
    refine ih_ret rfl rfl ?_
    first
      | exact ih_shC_no K (by rw [f_sheet, if_neg (by omega)]) (ih_sc_r _)
      | exact ih_shC_no K (by rw [f_sheet, if_pos (by omega), if_pos (by omega)]) (ih_sc_r _)
      | exact ih_shC_no K (by rw [f_sheet, if_pos (by omega), if_neg (by omega), if_pos (by omega)]) (ih_sc_r _)
      | (refine ih_shC_ok K (by rw [f_sheet, if_pos (by omega), if_neg (by omega), if_neg (by omega), h3]) (fun i hi => ?_) (fun j hj => h1 j (by omega) (by omega))
         by_cases e : i = q
         · subst e
           refine ⟨by rw [h2, ih_u1_eq], by rw [h3, ih_u1_eq], fun k hk => ?_⟩
           rw [ih_u1_eq] at hk
           rw [h4 k hk, g_nb0, if_pos (by split at hk <;> omega)]
         · have S1 := S i hi
           have z1 := (SG i hi).2.1
           rw [h1 _ (by omega) (by omega), h1 (104 + 2 * i) (by omega) (by omega), ih_u1_ne (by omega), ih_u1_ne (by omega)]
           refine ⟨S1.1, S1.2.1, fun k hk => ?_⟩
           rw [S1.2.2 k hk, g_nb0, if_neg (by omega)])


theorem r_shbegin_l {X : List Int} {t : ih_S} {Q : Option xa_V → ih_S → Prop} {q : Nat} {b n : Int} (hq : q < 4) (K : ∀ t1, (∀ j, j ≠ 120 → t1 j = t j) → t1 120 = g_nb0 (t 120) q → Q (some (xI (t 119 q))) t1) : ∀ (d : Nat) (i : Nat) (t1 : ih_S) (hd : i + d = 40) (hf : ∀ j, j ≠ 120 → t1 j = t j) (h0 : t1 120 = fun x => if 40 * (q : Int) ≤ x ∧ x < 40 * q + i then 0 else t 120 x), ih_Wp X 199 47 [xR 111, xI q, xI b, xI n, xI i] [] t1 Q := by
  intro d
  induction d with
  | zero =>
    intro i t1 hd hf h0
    obtain rfl : i = 40 := by omega
    have es : t1 119 = t 119 := hf _ (by decide)
    refine ih_seg (i1 := 49) 2 rfl ?_
    refine ih_icmp_ge rfl (by omega) (by omega) (fun w1 => ?_) (fun w1 => ?_)
    · refine ih_seg (i1 := 62) 1 rfl ?_
      refine ih_getR rfl rfl ?_
      refine ih_seg (i1 := 64) 1 rfl ?_
      refine ih_iald rfl (by first | rfl | exact ih_lP1 (ih_P_w0 hc) | exact ih_lP2 (ih_P_w0 hc) | exact ih_lP3 (ih_P_w0 hc) | exact ih_lP4 (ih_P_w0 hc) |  exact ih_lP1 (by assumption) | exact ih_lP2 (by assumption) | exact ih_lP3 (by assumption) | exact ih_lP4 (by assumption) | exact ih_lC1 (by assumption) | exact ih_lS1 (by assumption) | exact ih_lW1 (by assumption) | exact ih_lW2 (by assumption) | exact ih_lW4 (by assumption) | exact ih_lW5 (by assumption)) (by omega) (by omega) (k := ?_)
      refine ih_ret rfl rfl ?_
      rw [es]
      exact K t1 hf h0
    · exfalso
      omega

  | succ d ih =>
    intro i t1 hd hf h0
    refine ih_seg (i1 := 49) 2 rfl ?_
    refine ih_icmp_ge rfl (by omega) (by omega) (fun w1 => ?_) (fun w1 => ?_)
    · refine ih_seg (i1 := 62) 1 rfl ?_
      refine ih_getR rfl rfl ?_
      refine ih_seg (i1 := 64) 1 rfl ?_
      refine ih_iald rfl (by first | rfl | exact ih_lP1 (ih_P_w0 hc) | exact ih_lP2 (ih_P_w0 hc) | exact ih_lP3 (ih_P_w0 hc) | exact ih_lP4 (ih_P_w0 hc) |  exact ih_lP1 (by assumption) | exact ih_lP2 (by assumption) | exact ih_lP3 (by assumption) | exact ih_lP4 (by assumption) | exact ih_lC1 (by assumption) | exact ih_lS1 (by assumption) | exact ih_lW1 (by assumption) | exact ih_lW2 (by assumption) | exact ih_lW4 (by assumption) | exact ih_lW5 (by assumption)) (by omega) (by omega) (k := ?_)
      refine ih_ret rfl rfl ?_
      exfalso
      omega
    · refine ih_seg (i1 := 51) 1 rfl ?_
      refine ih_getR rfl rfl ?_
      refine ih_seg (i1 := 58) 6 rfl ?_
      try dsimp only
      refine ih_iast rfl (by first | rfl | exact ih_lP1 (ih_P_w0 hc) | exact ih_lP2 (ih_P_w0 hc) | exact ih_lP3 (ih_P_w0 hc) | exact ih_lP4 (ih_P_w0 hc) |  exact ih_lP1 (by assumption) | exact ih_lP2 (by assumption) | exact ih_lP3 (by assumption) | exact ih_lP4 (by assumption) | exact ih_lC1 (by assumption) | exact ih_lS1 (by assumption) | exact ih_lW1 (by assumption) | exact ih_lW2 (by assumption) | exact ih_lW4 (by assumption) | exact ih_lW5 (by assumption)) (by omega) (by omega) (k := ?_)
      refine ih_seg (i1 := 47) 2 rfl ?_
      try simp only [xa_set, List.set_cons_zero, List.set_cons_succ, List.getElem?_cons_zero, List.getElem?_cons_succ]
      refine ih (i + 1) _ (by omega) (fun j hj => (ih_up_ne hj).trans (hf j hj)) ?_
      rw [ih_up_eq, h0]
      funext x
      simp only [ih_u1x]
      (repeat' split) <;> first | rfl | omega


theorem r_op_sheet {X : List Int} {t : ih_S} {Q : Option xa_V → ih_S → Prop} {a b d : Int} (ha : xa_rI a) (hb : xa_rI b) (hd : xa_rI d) (K : ih_shR t (f_sheet a b d) (ih_u1 (t 118) a b) (ih_u1 (t 119) a (if b = 0 then 0 else d)) (g_nb0 (t 120) a) Q) : ih_Wp X 199 0 [xR 111, xI a, xI b, xI d, xC 1] [] t Q := by
  refine ih_seg (i1 := 1) 1 rfl ?_
  refine ih_is1 198 rfl rfl (Nat.le_of_ble_eq_true rfl) (Nat.le_of_ble_eq_true rfl) rfl ?_
  refine r_isOne (by omega) (fun w1 => ?_) (fun w2 => ?_)
  · refine ih_seg (i1 := 4) 2 rfl ?_
    refine ih_ifc_eq rfl (by omega) (fun w3 => ?_) (fun w3 => ?_)
    · refine ih_seg (i1 := 19) 1 rfl ?_
      refine ih_ifc_ge rfl (by omega) (fun w4 => ?_) (fun w4 => ?_)
      · refine ih_seg (i1 := 26) 2 rfl ?_
        refine ih_icmp_le rfl (by omega) (by omega) (fun w5 => ?_) (fun w5 => ?_)
        · obtain ⟨q, rfl⟩ := Int.eq_ofNat_of_zero_le (show 0 ≤ a by omega)
          have hq : q < 4 := by omega
          refine ih_seg (i1 := 32) 1 rfl ?_
          refine ih_getR rfl rfl ?_
          refine ih_seg (i1 := 35) 2 rfl ?_
          refine ih_iast rfl (by first | rfl | exact ih_lP1 (ih_P_w0 hc) | exact ih_lP2 (ih_P_w0 hc) | exact ih_lP3 (ih_P_w0 hc) | exact ih_lP4 (ih_P_w0 hc) |  exact ih_lP1 (by assumption) | exact ih_lP2 (by assumption) | exact ih_lP3 (by assumption) | exact ih_lP4 (by assumption) | exact ih_lC1 (by assumption) | exact ih_lS1 (by assumption) | exact ih_lW1 (by assumption) | exact ih_lW2 (by assumption) | exact ih_lW4 (by assumption) | exact ih_lW5 (by assumption)) (by omega) (by omega) (k := ?_)
          refine ih_seg (i1 := 37) 1 rfl ?_
          refine ih_getR rfl rfl ?_
          refine ih_seg (i1 := 40) 2 rfl ?_
          refine ih_ifc_ne rfl (by omega) (fun w6 => ?_) (fun w6 => ?_)
          · refine ih_seg (i1 := 44) 1 rfl ?_
            refine ih_iast rfl (by first | rfl | exact ih_lP1 (ih_P_w0 hc) | exact ih_lP2 (ih_P_w0 hc) | exact ih_lP3 (ih_P_w0 hc) | exact ih_lP4 (ih_P_w0 hc) |  exact ih_lP1 (by assumption) | exact ih_lP2 (by assumption) | exact ih_lP3 (by assumption) | exact ih_lP4 (by assumption) | exact ih_lC1 (by assumption) | exact ih_lS1 (by assumption) | exact ih_lW1 (by assumption) | exact ih_lW2 (by assumption) | exact ih_lW4 (by assumption) | exact ih_lW5 (by assumption)) (by omega) (by omega) (k := ?_)
            refine ih_seg (i1 := 47) 2 rfl ?_
            try simp only [xa_set, List.set_cons_zero, List.set_cons_succ, List.getElem?_cons_zero, List.getElem?_cons_succ]
            first
              | exact ih_shR_no 0 K (by rw [f_sheet, if_neg (by omega)]) rfl (ih_rr_r _)
              | exact ih_shR_no 6 K (by rw [f_sheet, if_pos (by omega), if_pos (by omega)]) rfl (ih_rr_r _)
              | exact ih_shR_no 0 K (by rw [f_sheet, if_pos (by omega), if_neg (by omega), if_pos (by omega)]) rfl (ih_rr_r _)
              | (exfalso
                 omega)
              | (refine r_shbegin_l hq (fun t1 h1 h2 => ?_) 40 0 _ (by omega) (fun _ _ => rfl) (by funext x; rw [if_neg (by omega)])
                 refine ih_shR_ok K ?_ ?_ ?_ h2 (fun j hj => ?_)
                 · rw [f_sheet, if_pos (by omega), if_neg (by omega), if_neg (by omega), ih_up_eq, ih_u1_eq]
                   first | rw [if_pos (by omega)] | rw [if_neg (by omega)]
                 · rw [h1 118 (by decide), ih_up_ne (by decide), ih_up_eq]
                 · rw [h1 119 (by decide), ih_up_eq, ih_up_ne (by decide)]
                   first | rw [if_pos (by omega)] | rw [if_neg (by omega)]
                 · rw [h1 j (by omega), ih_up_ne (by omega), ih_up_ne (by omega)])
          · refine ih_seg (i1 := 44) 2 rfl ?_
            refine ih_iast rfl (by first | rfl | exact ih_lP1 (ih_P_w0 hc) | exact ih_lP2 (ih_P_w0 hc) | exact ih_lP3 (ih_P_w0 hc) | exact ih_lP4 (ih_P_w0 hc) |  exact ih_lP1 (by assumption) | exact ih_lP2 (by assumption) | exact ih_lP3 (by assumption) | exact ih_lP4 (by assumption) | exact ih_lC1 (by assumption) | exact ih_lS1 (by assumption) | exact ih_lW1 (by assumption) | exact ih_lW2 (by assumption) | exact ih_lW4 (by assumption) | exact ih_lW5 (by assumption)) (by omega) (by omega) (k := ?_)
            refine ih_seg (i1 := 47) 2 rfl ?_
            try simp only [xa_set, List.set_cons_zero, List.set_cons_succ, List.getElem?_cons_zero, List.getElem?_cons_succ]
            first
              | exact ih_shR_no 0 K (by rw [f_sheet, if_neg (by omega)]) rfl (ih_rr_r _)
              | exact ih_shR_no 6 K (by rw [f_sheet, if_pos (by omega), if_pos (by omega)]) rfl (ih_rr_r _)
              | exact ih_shR_no 0 K (by rw [f_sheet, if_pos (by omega), if_neg (by omega), if_pos (by omega)]) rfl (ih_rr_r _)
              | (exfalso
                 omega)
              | (refine r_shbegin_l hq (fun t1 h1 h2 => ?_) 40 0 _ (by omega) (fun _ _ => rfl) (by funext x; rw [if_neg (by omega)])
                 refine ih_shR_ok K ?_ ?_ ?_ h2 (fun j hj => ?_)
                 · rw [f_sheet, if_pos (by omega), if_neg (by omega), if_neg (by omega), ih_up_eq, ih_u1_eq]
                   first | rw [if_pos (by omega)] | rw [if_neg (by omega)]
                 · rw [h1 118 (by decide), ih_up_ne (by decide), ih_up_eq]
                 · rw [h1 119 (by decide), ih_up_eq, ih_up_ne (by decide)]
                   first | rw [if_pos (by omega)] | rw [if_neg (by omega)]
                 · rw [h1 j (by omega), ih_up_ne (by omega), ih_up_ne (by omega)])
        · refine ih_seg (i1 := 29) 2 rfl ?_
          refine ih_iv1 127 rfl rfl (by first | rfl | exact ih_kP (ih_P_w0 hc) |  exact ih_kP (by assumption) | exact ih_kC (by assumption) | exact ih_kN (by assumption) | exact ih_kS (by assumption) | exact ih_kW (by assumption)) (Nat.le_of_ble_eq_true rfl) (Nat.le_of_ble_eq_true rfl) rfl ?_
          refine r_finds 0 rfl (by omega) ?_
          refine ih_ret rfl rfl ?_
          first
            | exact ih_shR_no 0 K (by rw [f_sheet, if_neg (by omega)]) rfl (ih_rr_r _)
            | exact ih_shR_no 6 K (by rw [f_sheet, if_pos (by omega), if_pos (by omega)]) rfl (ih_rr_r _)
            | exact ih_shR_no 0 K (by rw [f_sheet, if_pos (by omega), if_neg (by omega), if_pos (by omega)]) rfl (ih_rr_r _)
            | (exfalso
               omega)
            | (refine r_shbegin_l hq (fun t1 h1 h2 => ?_) 40 0 _ (by omega) (fun _ _ => rfl) (by funext x; rw [if_neg (by omega)])
               refine ih_shR_ok K ?_ ?_ ?_ h2 (fun j hj => ?_)
               · rw [f_sheet, if_pos (by omega), if_neg (by omega), if_neg (by omega), ih_up_eq, ih_u1_eq]
                 first | rw [if_pos (by omega)] | rw [if_neg (by omega)]
               · rw [h1 118 (by decide), ih_up_ne (by decide), ih_up_eq]
               · rw [h1 119 (by decide), ih_up_eq, ih_up_ne (by decide)]
                 first | rw [if_pos (by omega)] | rw [if_neg (by omega)]
               · rw [h1 j (by omega), ih_up_ne (by omega), ih_up_ne (by omega)])
      · refine ih_seg (i1 := 22) 2 rfl ?_
        refine ih_iv1 127 rfl rfl (by first | rfl | exact ih_kP (ih_P_w0 hc) |  exact ih_kP (by assumption) | exact ih_kC (by assumption) | exact ih_kN (by assumption) | exact ih_kS (by assumption) | exact ih_kW (by assumption)) (Nat.le_of_ble_eq_true rfl) (Nat.le_of_ble_eq_true rfl) rfl ?_
        refine r_finds 6 rfl (by omega) ?_
        refine ih_ret rfl rfl ?_
        first
          | exact ih_shR_no 0 K (by rw [f_sheet, if_neg (by omega)]) rfl (ih_rr_r _)
          | exact ih_shR_no 6 K (by rw [f_sheet, if_pos (by omega), if_pos (by omega)]) rfl (ih_rr_r _)
          | exact ih_shR_no 0 K (by rw [f_sheet, if_pos (by omega), if_neg (by omega), if_pos (by omega)]) rfl (ih_rr_r _)
          | (exfalso
             omega)
          | (refine r_shbegin_l hq (fun t1 h1 h2 => ?_) 40 0 _ (by omega) (fun _ _ => rfl) (by funext x; rw [if_neg (by omega)])
             refine ih_shR_ok K ?_ ?_ ?_ h2 (fun j hj => ?_)
             · rw [f_sheet, if_pos (by omega), if_neg (by omega), if_neg (by omega), ih_up_eq, ih_u1_eq]
               first | rw [if_pos (by omega)] | rw [if_neg (by omega)]
             · rw [h1 118 (by decide), ih_up_ne (by decide), ih_up_eq]
             · rw [h1 119 (by decide), ih_up_eq, ih_up_ne (by decide)]
               first | rw [if_pos (by omega)] | rw [if_neg (by omega)]
             · rw [h1 j (by omega), ih_up_ne (by omega), ih_up_ne (by omega)])
    · refine ih_seg (i1 := 7) 2 rfl ?_
      refine ih_icmp_eq rfl (by omega) (by omega) (fun w7 => ?_) (fun w7 => ?_)
      · refine ih_seg (i1 := 19) 1 rfl ?_
        refine ih_ifc_ge rfl (by omega) (fun w8 => ?_) (fun w8 => ?_)
        · refine ih_seg (i1 := 26) 2 rfl ?_
          refine ih_icmp_le rfl (by omega) (by omega) (fun w9 => ?_) (fun w9 => ?_)
          · obtain ⟨q, rfl⟩ := Int.eq_ofNat_of_zero_le (show 0 ≤ a by omega)
            have hq : q < 4 := by omega
            refine ih_seg (i1 := 32) 1 rfl ?_
            refine ih_getR rfl rfl ?_
            refine ih_seg (i1 := 35) 2 rfl ?_
            refine ih_iast rfl (by first | rfl | exact ih_lP1 (ih_P_w0 hc) | exact ih_lP2 (ih_P_w0 hc) | exact ih_lP3 (ih_P_w0 hc) | exact ih_lP4 (ih_P_w0 hc) |  exact ih_lP1 (by assumption) | exact ih_lP2 (by assumption) | exact ih_lP3 (by assumption) | exact ih_lP4 (by assumption) | exact ih_lC1 (by assumption) | exact ih_lS1 (by assumption) | exact ih_lW1 (by assumption) | exact ih_lW2 (by assumption) | exact ih_lW4 (by assumption) | exact ih_lW5 (by assumption)) (by omega) (by omega) (k := ?_)
            refine ih_seg (i1 := 37) 1 rfl ?_
            refine ih_getR rfl rfl ?_
            refine ih_seg (i1 := 40) 2 rfl ?_
            refine ih_ifc_ne rfl (by omega) (fun w10 => ?_) (fun w10 => ?_)
            · refine ih_seg (i1 := 44) 1 rfl ?_
              refine ih_iast rfl (by first | rfl | exact ih_lP1 (ih_P_w0 hc) | exact ih_lP2 (ih_P_w0 hc) | exact ih_lP3 (ih_P_w0 hc) | exact ih_lP4 (ih_P_w0 hc) |  exact ih_lP1 (by assumption) | exact ih_lP2 (by assumption) | exact ih_lP3 (by assumption) | exact ih_lP4 (by assumption) | exact ih_lC1 (by assumption) | exact ih_lS1 (by assumption) | exact ih_lW1 (by assumption) | exact ih_lW2 (by assumption) | exact ih_lW4 (by assumption) | exact ih_lW5 (by assumption)) (by omega) (by omega) (k := ?_)
              refine ih_seg (i1 := 47) 2 rfl ?_
              try simp only [xa_set, List.set_cons_zero, List.set_cons_succ, List.getElem?_cons_zero, List.getElem?_cons_succ]
              first
                | exact ih_shR_no 0 K (by rw [f_sheet, if_neg (by omega)]) rfl (ih_rr_r _)
                | exact ih_shR_no 6 K (by rw [f_sheet, if_pos (by omega), if_pos (by omega)]) rfl (ih_rr_r _)
                | exact ih_shR_no 0 K (by rw [f_sheet, if_pos (by omega), if_neg (by omega), if_pos (by omega)]) rfl (ih_rr_r _)
                | (exfalso
                   omega)
                | (refine r_shbegin_l hq (fun t1 h1 h2 => ?_) 40 0 _ (by omega) (fun _ _ => rfl) (by funext x; rw [if_neg (by omega)])
                   refine ih_shR_ok K ?_ ?_ ?_ h2 (fun j hj => ?_)
                   · rw [f_sheet, if_pos (by omega), if_neg (by omega), if_neg (by omega), ih_up_eq, ih_u1_eq]
                     first | rw [if_pos (by omega)] | rw [if_neg (by omega)]
                   · rw [h1 118 (by decide), ih_up_ne (by decide), ih_up_eq]
                   · rw [h1 119 (by decide), ih_up_eq, ih_up_ne (by decide)]
                     first | rw [if_pos (by omega)] | rw [if_neg (by omega)]
                   · rw [h1 j (by omega), ih_up_ne (by omega), ih_up_ne (by omega)])
            · refine ih_seg (i1 := 44) 2 rfl ?_
              refine ih_iast rfl (by first | rfl | exact ih_lP1 (ih_P_w0 hc) | exact ih_lP2 (ih_P_w0 hc) | exact ih_lP3 (ih_P_w0 hc) | exact ih_lP4 (ih_P_w0 hc) |  exact ih_lP1 (by assumption) | exact ih_lP2 (by assumption) | exact ih_lP3 (by assumption) | exact ih_lP4 (by assumption) | exact ih_lC1 (by assumption) | exact ih_lS1 (by assumption) | exact ih_lW1 (by assumption) | exact ih_lW2 (by assumption) | exact ih_lW4 (by assumption) | exact ih_lW5 (by assumption)) (by omega) (by omega) (k := ?_)
              refine ih_seg (i1 := 47) 2 rfl ?_
              try simp only [xa_set, List.set_cons_zero, List.set_cons_succ, List.getElem?_cons_zero, List.getElem?_cons_succ]
              first
                | exact ih_shR_no 0 K (by rw [f_sheet, if_neg (by omega)]) rfl (ih_rr_r _)
                | exact ih_shR_no 6 K (by rw [f_sheet, if_pos (by omega), if_pos (by omega)]) rfl (ih_rr_r _)
                | exact ih_shR_no 0 K (by rw [f_sheet, if_pos (by omega), if_neg (by omega), if_pos (by omega)]) rfl (ih_rr_r _)
                | (exfalso
                   omega)
                | (refine r_shbegin_l hq (fun t1 h1 h2 => ?_) 40 0 _ (by omega) (fun _ _ => rfl) (by funext x; rw [if_neg (by omega)])
                   refine ih_shR_ok K ?_ ?_ ?_ h2 (fun j hj => ?_)
                   · rw [f_sheet, if_pos (by omega), if_neg (by omega), if_neg (by omega), ih_up_eq, ih_u1_eq]
                     first | rw [if_pos (by omega)] | rw [if_neg (by omega)]
                   · rw [h1 118 (by decide), ih_up_ne (by decide), ih_up_eq]
                   · rw [h1 119 (by decide), ih_up_eq, ih_up_ne (by decide)]
                     first | rw [if_pos (by omega)] | rw [if_neg (by omega)]
                   · rw [h1 j (by omega), ih_up_ne (by omega), ih_up_ne (by omega)])
          · refine ih_seg (i1 := 29) 2 rfl ?_
            refine ih_iv1 127 rfl rfl (by first | rfl | exact ih_kP (ih_P_w0 hc) |  exact ih_kP (by assumption) | exact ih_kC (by assumption) | exact ih_kN (by assumption) | exact ih_kS (by assumption) | exact ih_kW (by assumption)) (Nat.le_of_ble_eq_true rfl) (Nat.le_of_ble_eq_true rfl) rfl ?_
            refine r_finds 0 rfl (by omega) ?_
            refine ih_ret rfl rfl ?_
            first
              | exact ih_shR_no 0 K (by rw [f_sheet, if_neg (by omega)]) rfl (ih_rr_r _)
              | exact ih_shR_no 6 K (by rw [f_sheet, if_pos (by omega), if_pos (by omega)]) rfl (ih_rr_r _)
              | exact ih_shR_no 0 K (by rw [f_sheet, if_pos (by omega), if_neg (by omega), if_pos (by omega)]) rfl (ih_rr_r _)
              | (exfalso
                 omega)
              | (refine r_shbegin_l hq (fun t1 h1 h2 => ?_) 40 0 _ (by omega) (fun _ _ => rfl) (by funext x; rw [if_neg (by omega)])
                 refine ih_shR_ok K ?_ ?_ ?_ h2 (fun j hj => ?_)
                 · rw [f_sheet, if_pos (by omega), if_neg (by omega), if_neg (by omega), ih_up_eq, ih_u1_eq]
                   first | rw [if_pos (by omega)] | rw [if_neg (by omega)]
                 · rw [h1 118 (by decide), ih_up_ne (by decide), ih_up_eq]
                 · rw [h1 119 (by decide), ih_up_eq, ih_up_ne (by decide)]
                   first | rw [if_pos (by omega)] | rw [if_neg (by omega)]
                 · rw [h1 j (by omega), ih_up_ne (by omega), ih_up_ne (by omega)])
        · refine ih_seg (i1 := 22) 2 rfl ?_
          refine ih_iv1 127 rfl rfl (by first | rfl | exact ih_kP (ih_P_w0 hc) |  exact ih_kP (by assumption) | exact ih_kC (by assumption) | exact ih_kN (by assumption) | exact ih_kS (by assumption) | exact ih_kW (by assumption)) (Nat.le_of_ble_eq_true rfl) (Nat.le_of_ble_eq_true rfl) rfl ?_
          refine r_finds 6 rfl (by omega) ?_
          refine ih_ret rfl rfl ?_
          first
            | exact ih_shR_no 0 K (by rw [f_sheet, if_neg (by omega)]) rfl (ih_rr_r _)
            | exact ih_shR_no 6 K (by rw [f_sheet, if_pos (by omega), if_pos (by omega)]) rfl (ih_rr_r _)
            | exact ih_shR_no 0 K (by rw [f_sheet, if_pos (by omega), if_neg (by omega), if_pos (by omega)]) rfl (ih_rr_r _)
            | (exfalso
               omega)
            | (refine r_shbegin_l hq (fun t1 h1 h2 => ?_) 40 0 _ (by omega) (fun _ _ => rfl) (by funext x; rw [if_neg (by omega)])
               refine ih_shR_ok K ?_ ?_ ?_ h2 (fun j hj => ?_)
               · rw [f_sheet, if_pos (by omega), if_neg (by omega), if_neg (by omega), ih_up_eq, ih_u1_eq]
                 first | rw [if_pos (by omega)] | rw [if_neg (by omega)]
               · rw [h1 118 (by decide), ih_up_ne (by decide), ih_up_eq]
               · rw [h1 119 (by decide), ih_up_eq, ih_up_ne (by decide)]
                 first | rw [if_pos (by omega)] | rw [if_neg (by omega)]
               · rw [h1 j (by omega), ih_up_ne (by omega), ih_up_ne (by omega)])
      · refine ih_seg (i1 := 10) 2 rfl ?_
        refine ih_icmp_eq rfl (by omega) (by omega) (fun w11 => ?_) (fun w11 => ?_)
        · refine ih_seg (i1 := 19) 1 rfl ?_
          refine ih_ifc_ge rfl (by omega) (fun w12 => ?_) (fun w12 => ?_)
          · refine ih_seg (i1 := 26) 2 rfl ?_
            refine ih_icmp_le rfl (by omega) (by omega) (fun w13 => ?_) (fun w13 => ?_)
            · obtain ⟨q, rfl⟩ := Int.eq_ofNat_of_zero_le (show 0 ≤ a by omega)
              have hq : q < 4 := by omega
              refine ih_seg (i1 := 32) 1 rfl ?_
              refine ih_getR rfl rfl ?_
              refine ih_seg (i1 := 35) 2 rfl ?_
              refine ih_iast rfl (by first | rfl | exact ih_lP1 (ih_P_w0 hc) | exact ih_lP2 (ih_P_w0 hc) | exact ih_lP3 (ih_P_w0 hc) | exact ih_lP4 (ih_P_w0 hc) |  exact ih_lP1 (by assumption) | exact ih_lP2 (by assumption) | exact ih_lP3 (by assumption) | exact ih_lP4 (by assumption) | exact ih_lC1 (by assumption) | exact ih_lS1 (by assumption) | exact ih_lW1 (by assumption) | exact ih_lW2 (by assumption) | exact ih_lW4 (by assumption) | exact ih_lW5 (by assumption)) (by omega) (by omega) (k := ?_)
              refine ih_seg (i1 := 37) 1 rfl ?_
              refine ih_getR rfl rfl ?_
              refine ih_seg (i1 := 40) 2 rfl ?_
              refine ih_ifc_ne rfl (by omega) (fun w14 => ?_) (fun w14 => ?_)
              · refine ih_seg (i1 := 44) 1 rfl ?_
                refine ih_iast rfl (by first | rfl | exact ih_lP1 (ih_P_w0 hc) | exact ih_lP2 (ih_P_w0 hc) | exact ih_lP3 (ih_P_w0 hc) | exact ih_lP4 (ih_P_w0 hc) |  exact ih_lP1 (by assumption) | exact ih_lP2 (by assumption) | exact ih_lP3 (by assumption) | exact ih_lP4 (by assumption) | exact ih_lC1 (by assumption) | exact ih_lS1 (by assumption) | exact ih_lW1 (by assumption) | exact ih_lW2 (by assumption) | exact ih_lW4 (by assumption) | exact ih_lW5 (by assumption)) (by omega) (by omega) (k := ?_)
                refine ih_seg (i1 := 47) 2 rfl ?_
                try simp only [xa_set, List.set_cons_zero, List.set_cons_succ, List.getElem?_cons_zero, List.getElem?_cons_succ]
                first
                  | exact ih_shR_no 0 K (by rw [f_sheet, if_neg (by omega)]) rfl (ih_rr_r _)
                  | exact ih_shR_no 6 K (by rw [f_sheet, if_pos (by omega), if_pos (by omega)]) rfl (ih_rr_r _)
                  | exact ih_shR_no 0 K (by rw [f_sheet, if_pos (by omega), if_neg (by omega), if_pos (by omega)]) rfl (ih_rr_r _)
                  | (exfalso
                     omega)
                  | (refine r_shbegin_l hq (fun t1 h1 h2 => ?_) 40 0 _ (by omega) (fun _ _ => rfl) (by funext x; rw [if_neg (by omega)])
                     refine ih_shR_ok K ?_ ?_ ?_ h2 (fun j hj => ?_)
                     · rw [f_sheet, if_pos (by omega), if_neg (by omega), if_neg (by omega), ih_up_eq, ih_u1_eq]
                       first | rw [if_pos (by omega)] | rw [if_neg (by omega)]
                     · rw [h1 118 (by decide), ih_up_ne (by decide), ih_up_eq]
                     · rw [h1 119 (by decide), ih_up_eq, ih_up_ne (by decide)]
                       first | rw [if_pos (by omega)] | rw [if_neg (by omega)]
                     · rw [h1 j (by omega), ih_up_ne (by omega), ih_up_ne (by omega)])
              · refine ih_seg (i1 := 44) 2 rfl ?_
                refine ih_iast rfl (by first | rfl | exact ih_lP1 (ih_P_w0 hc) | exact ih_lP2 (ih_P_w0 hc) | exact ih_lP3 (ih_P_w0 hc) | exact ih_lP4 (ih_P_w0 hc) |  exact ih_lP1 (by assumption) | exact ih_lP2 (by assumption) | exact ih_lP3 (by assumption) | exact ih_lP4 (by assumption) | exact ih_lC1 (by assumption) | exact ih_lS1 (by assumption) | exact ih_lW1 (by assumption) | exact ih_lW2 (by assumption) | exact ih_lW4 (by assumption) | exact ih_lW5 (by assumption)) (by omega) (by omega) (k := ?_)
                refine ih_seg (i1 := 47) 2 rfl ?_
                try simp only [xa_set, List.set_cons_zero, List.set_cons_succ, List.getElem?_cons_zero, List.getElem?_cons_succ]
                first
                  | exact ih_shR_no 0 K (by rw [f_sheet, if_neg (by omega)]) rfl (ih_rr_r _)
                  | exact ih_shR_no 6 K (by rw [f_sheet, if_pos (by omega), if_pos (by omega)]) rfl (ih_rr_r _)
                  | exact ih_shR_no 0 K (by rw [f_sheet, if_pos (by omega), if_neg (by omega), if_pos (by omega)]) rfl (ih_rr_r _)
                  | (exfalso
                     omega)
                  | (refine r_shbegin_l hq (fun t1 h1 h2 => ?_) 40 0 _ (by omega) (fun _ _ => rfl) (by funext x; rw [if_neg (by omega)])
                     refine ih_shR_ok K ?_ ?_ ?_ h2 (fun j hj => ?_)
                     · rw [f_sheet, if_pos (by omega), if_neg (by omega), if_neg (by omega), ih_up_eq, ih_u1_eq]
                       first | rw [if_pos (by omega)] | rw [if_neg (by omega)]
                     · rw [h1 118 (by decide), ih_up_ne (by decide), ih_up_eq]
                     · rw [h1 119 (by decide), ih_up_eq, ih_up_ne (by decide)]
                       first | rw [if_pos (by omega)] | rw [if_neg (by omega)]
                     · rw [h1 j (by omega), ih_up_ne (by omega), ih_up_ne (by omega)])
            · refine ih_seg (i1 := 29) 2 rfl ?_
              refine ih_iv1 127 rfl rfl (by first | rfl | exact ih_kP (ih_P_w0 hc) |  exact ih_kP (by assumption) | exact ih_kC (by assumption) | exact ih_kN (by assumption) | exact ih_kS (by assumption) | exact ih_kW (by assumption)) (Nat.le_of_ble_eq_true rfl) (Nat.le_of_ble_eq_true rfl) rfl ?_
              refine r_finds 0 rfl (by omega) ?_
              refine ih_ret rfl rfl ?_
              first
                | exact ih_shR_no 0 K (by rw [f_sheet, if_neg (by omega)]) rfl (ih_rr_r _)
                | exact ih_shR_no 6 K (by rw [f_sheet, if_pos (by omega), if_pos (by omega)]) rfl (ih_rr_r _)
                | exact ih_shR_no 0 K (by rw [f_sheet, if_pos (by omega), if_neg (by omega), if_pos (by omega)]) rfl (ih_rr_r _)
                | (exfalso
                   omega)
                | (refine r_shbegin_l hq (fun t1 h1 h2 => ?_) 40 0 _ (by omega) (fun _ _ => rfl) (by funext x; rw [if_neg (by omega)])
                   refine ih_shR_ok K ?_ ?_ ?_ h2 (fun j hj => ?_)
                   · rw [f_sheet, if_pos (by omega), if_neg (by omega), if_neg (by omega), ih_up_eq, ih_u1_eq]
                     first | rw [if_pos (by omega)] | rw [if_neg (by omega)]
                   · rw [h1 118 (by decide), ih_up_ne (by decide), ih_up_eq]
                   · rw [h1 119 (by decide), ih_up_eq, ih_up_ne (by decide)]
                     first | rw [if_pos (by omega)] | rw [if_neg (by omega)]
                   · rw [h1 j (by omega), ih_up_ne (by omega), ih_up_ne (by omega)])
          · refine ih_seg (i1 := 22) 2 rfl ?_
            refine ih_iv1 127 rfl rfl (by first | rfl | exact ih_kP (ih_P_w0 hc) |  exact ih_kP (by assumption) | exact ih_kC (by assumption) | exact ih_kN (by assumption) | exact ih_kS (by assumption) | exact ih_kW (by assumption)) (Nat.le_of_ble_eq_true rfl) (Nat.le_of_ble_eq_true rfl) rfl ?_
            refine r_finds 6 rfl (by omega) ?_
            refine ih_ret rfl rfl ?_
            first
              | exact ih_shR_no 0 K (by rw [f_sheet, if_neg (by omega)]) rfl (ih_rr_r _)
              | exact ih_shR_no 6 K (by rw [f_sheet, if_pos (by omega), if_pos (by omega)]) rfl (ih_rr_r _)
              | exact ih_shR_no 0 K (by rw [f_sheet, if_pos (by omega), if_neg (by omega), if_pos (by omega)]) rfl (ih_rr_r _)
              | (exfalso
                 omega)
              | (refine r_shbegin_l hq (fun t1 h1 h2 => ?_) 40 0 _ (by omega) (fun _ _ => rfl) (by funext x; rw [if_neg (by omega)])
                 refine ih_shR_ok K ?_ ?_ ?_ h2 (fun j hj => ?_)
                 · rw [f_sheet, if_pos (by omega), if_neg (by omega), if_neg (by omega), ih_up_eq, ih_u1_eq]
                   first | rw [if_pos (by omega)] | rw [if_neg (by omega)]
                 · rw [h1 118 (by decide), ih_up_ne (by decide), ih_up_eq]
                 · rw [h1 119 (by decide), ih_up_eq, ih_up_ne (by decide)]
                   first | rw [if_pos (by omega)] | rw [if_neg (by omega)]
                 · rw [h1 j (by omega), ih_up_ne (by omega), ih_up_ne (by omega)])
        · refine ih_seg (i1 := 13) 2 rfl ?_
          refine ih_icmp_eq rfl (by omega) (by omega) (fun w15 => ?_) (fun w15 => ?_)
          · refine ih_seg (i1 := 19) 1 rfl ?_
            refine ih_ifc_ge rfl (by omega) (fun w16 => ?_) (fun w16 => ?_)
            · refine ih_seg (i1 := 26) 2 rfl ?_
              refine ih_icmp_le rfl (by omega) (by omega) (fun w17 => ?_) (fun w17 => ?_)
              · obtain ⟨q, rfl⟩ := Int.eq_ofNat_of_zero_le (show 0 ≤ a by omega)
                have hq : q < 4 := by omega
                refine ih_seg (i1 := 32) 1 rfl ?_
                refine ih_getR rfl rfl ?_
                refine ih_seg (i1 := 35) 2 rfl ?_
                refine ih_iast rfl (by first | rfl | exact ih_lP1 (ih_P_w0 hc) | exact ih_lP2 (ih_P_w0 hc) | exact ih_lP3 (ih_P_w0 hc) | exact ih_lP4 (ih_P_w0 hc) |  exact ih_lP1 (by assumption) | exact ih_lP2 (by assumption) | exact ih_lP3 (by assumption) | exact ih_lP4 (by assumption) | exact ih_lC1 (by assumption) | exact ih_lS1 (by assumption) | exact ih_lW1 (by assumption) | exact ih_lW2 (by assumption) | exact ih_lW4 (by assumption) | exact ih_lW5 (by assumption)) (by omega) (by omega) (k := ?_)
                refine ih_seg (i1 := 37) 1 rfl ?_
                refine ih_getR rfl rfl ?_
                refine ih_seg (i1 := 40) 2 rfl ?_
                refine ih_ifc_ne rfl (by omega) (fun w18 => ?_) (fun w18 => ?_)
                · refine ih_seg (i1 := 44) 1 rfl ?_
                  refine ih_iast rfl (by first | rfl | exact ih_lP1 (ih_P_w0 hc) | exact ih_lP2 (ih_P_w0 hc) | exact ih_lP3 (ih_P_w0 hc) | exact ih_lP4 (ih_P_w0 hc) |  exact ih_lP1 (by assumption) | exact ih_lP2 (by assumption) | exact ih_lP3 (by assumption) | exact ih_lP4 (by assumption) | exact ih_lC1 (by assumption) | exact ih_lS1 (by assumption) | exact ih_lW1 (by assumption) | exact ih_lW2 (by assumption) | exact ih_lW4 (by assumption) | exact ih_lW5 (by assumption)) (by omega) (by omega) (k := ?_)
                  refine ih_seg (i1 := 47) 2 rfl ?_
                  try simp only [xa_set, List.set_cons_zero, List.set_cons_succ, List.getElem?_cons_zero, List.getElem?_cons_succ]
                  first
                    | exact ih_shR_no 0 K (by rw [f_sheet, if_neg (by omega)]) rfl (ih_rr_r _)
                    | exact ih_shR_no 6 K (by rw [f_sheet, if_pos (by omega), if_pos (by omega)]) rfl (ih_rr_r _)
                    | exact ih_shR_no 0 K (by rw [f_sheet, if_pos (by omega), if_neg (by omega), if_pos (by omega)]) rfl (ih_rr_r _)
                    | (exfalso
                       omega)
                    | (refine r_shbegin_l hq (fun t1 h1 h2 => ?_) 40 0 _ (by omega) (fun _ _ => rfl) (by funext x; rw [if_neg (by omega)])
                       refine ih_shR_ok K ?_ ?_ ?_ h2 (fun j hj => ?_)
                       · rw [f_sheet, if_pos (by omega), if_neg (by omega), if_neg (by omega), ih_up_eq, ih_u1_eq]
                         first | rw [if_pos (by omega)] | rw [if_neg (by omega)]
                       · rw [h1 118 (by decide), ih_up_ne (by decide), ih_up_eq]
                       · rw [h1 119 (by decide), ih_up_eq, ih_up_ne (by decide)]
                         first | rw [if_pos (by omega)] | rw [if_neg (by omega)]
                       · rw [h1 j (by omega), ih_up_ne (by omega), ih_up_ne (by omega)])
                · refine ih_seg (i1 := 44) 2 rfl ?_
                  refine ih_iast rfl (by first | rfl | exact ih_lP1 (ih_P_w0 hc) | exact ih_lP2 (ih_P_w0 hc) | exact ih_lP3 (ih_P_w0 hc) | exact ih_lP4 (ih_P_w0 hc) |  exact ih_lP1 (by assumption) | exact ih_lP2 (by assumption) | exact ih_lP3 (by assumption) | exact ih_lP4 (by assumption) | exact ih_lC1 (by assumption) | exact ih_lS1 (by assumption) | exact ih_lW1 (by assumption) | exact ih_lW2 (by assumption) | exact ih_lW4 (by assumption) | exact ih_lW5 (by assumption)) (by omega) (by omega) (k := ?_)
                  refine ih_seg (i1 := 47) 2 rfl ?_
                  try simp only [xa_set, List.set_cons_zero, List.set_cons_succ, List.getElem?_cons_zero, List.getElem?_cons_succ]
                  first
                    | exact ih_shR_no 0 K (by rw [f_sheet, if_neg (by omega)]) rfl (ih_rr_r _)
                    | exact ih_shR_no 6 K (by rw [f_sheet, if_pos (by omega), if_pos (by omega)]) rfl (ih_rr_r _)
                    | exact ih_shR_no 0 K (by rw [f_sheet, if_pos (by omega), if_neg (by omega), if_pos (by omega)]) rfl (ih_rr_r _)
                    | (exfalso
                       omega)
                    | (refine r_shbegin_l hq (fun t1 h1 h2 => ?_) 40 0 _ (by omega) (fun _ _ => rfl) (by funext x; rw [if_neg (by omega)])
                       refine ih_shR_ok K ?_ ?_ ?_ h2 (fun j hj => ?_)
                       · rw [f_sheet, if_pos (by omega), if_neg (by omega), if_neg (by omega), ih_up_eq, ih_u1_eq]
                         first | rw [if_pos (by omega)] | rw [if_neg (by omega)]
                       · rw [h1 118 (by decide), ih_up_ne (by decide), ih_up_eq]
                       · rw [h1 119 (by decide), ih_up_eq, ih_up_ne (by decide)]
                         first | rw [if_pos (by omega)] | rw [if_neg (by omega)]
                       · rw [h1 j (by omega), ih_up_ne (by omega), ih_up_ne (by omega)])
              · refine ih_seg (i1 := 29) 2 rfl ?_
                refine ih_iv1 127 rfl rfl (by first | rfl | exact ih_kP (ih_P_w0 hc) |  exact ih_kP (by assumption) | exact ih_kC (by assumption) | exact ih_kN (by assumption) | exact ih_kS (by assumption) | exact ih_kW (by assumption)) (Nat.le_of_ble_eq_true rfl) (Nat.le_of_ble_eq_true rfl) rfl ?_
                refine r_finds 0 rfl (by omega) ?_
                refine ih_ret rfl rfl ?_
                first
                  | exact ih_shR_no 0 K (by rw [f_sheet, if_neg (by omega)]) rfl (ih_rr_r _)
                  | exact ih_shR_no 6 K (by rw [f_sheet, if_pos (by omega), if_pos (by omega)]) rfl (ih_rr_r _)
                  | exact ih_shR_no 0 K (by rw [f_sheet, if_pos (by omega), if_neg (by omega), if_pos (by omega)]) rfl (ih_rr_r _)
                  | (exfalso
                     omega)
                  | (refine r_shbegin_l hq (fun t1 h1 h2 => ?_) 40 0 _ (by omega) (fun _ _ => rfl) (by funext x; rw [if_neg (by omega)])
                     refine ih_shR_ok K ?_ ?_ ?_ h2 (fun j hj => ?_)
                     · rw [f_sheet, if_pos (by omega), if_neg (by omega), if_neg (by omega), ih_up_eq, ih_u1_eq]
                       first | rw [if_pos (by omega)] | rw [if_neg (by omega)]
                     · rw [h1 118 (by decide), ih_up_ne (by decide), ih_up_eq]
                     · rw [h1 119 (by decide), ih_up_eq, ih_up_ne (by decide)]
                       first | rw [if_pos (by omega)] | rw [if_neg (by omega)]
                     · rw [h1 j (by omega), ih_up_ne (by omega), ih_up_ne (by omega)])
            · refine ih_seg (i1 := 22) 2 rfl ?_
              refine ih_iv1 127 rfl rfl (by first | rfl | exact ih_kP (ih_P_w0 hc) |  exact ih_kP (by assumption) | exact ih_kC (by assumption) | exact ih_kN (by assumption) | exact ih_kS (by assumption) | exact ih_kW (by assumption)) (Nat.le_of_ble_eq_true rfl) (Nat.le_of_ble_eq_true rfl) rfl ?_
              refine r_finds 6 rfl (by omega) ?_
              refine ih_ret rfl rfl ?_
              first
                | exact ih_shR_no 0 K (by rw [f_sheet, if_neg (by omega)]) rfl (ih_rr_r _)
                | exact ih_shR_no 6 K (by rw [f_sheet, if_pos (by omega), if_pos (by omega)]) rfl (ih_rr_r _)
                | exact ih_shR_no 0 K (by rw [f_sheet, if_pos (by omega), if_neg (by omega), if_pos (by omega)]) rfl (ih_rr_r _)
                | (exfalso
                   omega)
                | (refine r_shbegin_l hq (fun t1 h1 h2 => ?_) 40 0 _ (by omega) (fun _ _ => rfl) (by funext x; rw [if_neg (by omega)])
                   refine ih_shR_ok K ?_ ?_ ?_ h2 (fun j hj => ?_)
                   · rw [f_sheet, if_pos (by omega), if_neg (by omega), if_neg (by omega), ih_up_eq, ih_u1_eq]
                     first | rw [if_pos (by omega)] | rw [if_neg (by omega)]
                   · rw [h1 118 (by decide), ih_up_ne (by decide), ih_up_eq]
                   · rw [h1 119 (by decide), ih_up_eq, ih_up_ne (by decide)]
                     first | rw [if_pos (by omega)] | rw [if_neg (by omega)]
                   · rw [h1 j (by omega), ih_up_ne (by omega), ih_up_ne (by omega)])
          · refine ih_seg (i1 := 16) 2 rfl ?_
            refine ih_iv1 127 rfl rfl (by first | rfl | exact ih_kP (ih_P_w0 hc) |  exact ih_kP (by assumption) | exact ih_kC (by assumption) | exact ih_kN (by assumption) | exact ih_kS (by assumption) | exact ih_kW (by assumption)) (Nat.le_of_ble_eq_true rfl) (Nat.le_of_ble_eq_true rfl) rfl ?_
            refine r_finds 0 rfl (by omega) ?_
            refine ih_ret rfl rfl ?_
            first
              | exact ih_shR_no 0 K (by rw [f_sheet, if_neg (by omega)]) rfl (ih_rr_r _)
              | exact ih_shR_no 6 K (by rw [f_sheet, if_pos (by omega), if_pos (by omega)]) rfl (ih_rr_r _)
              | exact ih_shR_no 0 K (by rw [f_sheet, if_pos (by omega), if_neg (by omega), if_pos (by omega)]) rfl (ih_rr_r _)
              | (exfalso
                 omega)
              | (refine r_shbegin_l hq (fun t1 h1 h2 => ?_) 40 0 _ (by omega) (fun _ _ => rfl) (by funext x; rw [if_neg (by omega)])
                 refine ih_shR_ok K ?_ ?_ ?_ h2 (fun j hj => ?_)
                 · rw [f_sheet, if_pos (by omega), if_neg (by omega), if_neg (by omega), ih_up_eq, ih_u1_eq]
                   first | rw [if_pos (by omega)] | rw [if_neg (by omega)]
                 · rw [h1 118 (by decide), ih_up_ne (by decide), ih_up_eq]
                 · rw [h1 119 (by decide), ih_up_eq, ih_up_ne (by decide)]
                   first | rw [if_pos (by omega)] | rw [if_neg (by omega)]
                 · rw [h1 j (by omega), ih_up_ne (by omega), ih_up_ne (by omega)])
  · refine ih_seg (i1 := 16) 3 rfl ?_
    refine ih_iv1 127 rfl rfl (by first | rfl | exact ih_kP (ih_P_w0 hc) |  exact ih_kP (by assumption) | exact ih_kC (by assumption) | exact ih_kN (by assumption) | exact ih_kS (by assumption) | exact ih_kW (by assumption)) (Nat.le_of_ble_eq_true rfl) (Nat.le_of_ble_eq_true rfl) rfl ?_
    refine r_finds 0 rfl (by omega) ?_
    refine ih_ret rfl rfl ?_
    first
      | exact ih_shR_no 0 K (by rw [f_sheet, if_neg (by omega)]) rfl (ih_rr_r _)
      | exact ih_shR_no 6 K (by rw [f_sheet, if_pos (by omega), if_pos (by omega)]) rfl (ih_rr_r _)
      | exact ih_shR_no 0 K (by rw [f_sheet, if_pos (by omega), if_neg (by omega), if_pos (by omega)]) rfl (ih_rr_r _)
      | (exfalso
         omega)
      | (refine r_shbegin_l hq (fun t1 h1 h2 => ?_) 40 0 _ (by omega) (fun _ _ => rfl) (by funext x; rw [if_neg (by omega)])
         refine ih_shR_ok K ?_ ?_ ?_ h2 (fun j hj => ?_)
         · rw [f_sheet, if_pos (by omega), if_neg (by omega), if_neg (by omega), ih_up_eq, ih_u1_eq]
           first | rw [if_pos (by omega)] | rw [if_neg (by omega)]
         · rw [h1 118 (by decide), ih_up_ne (by decide), ih_up_eq]
         · rw [h1 119 (by decide), ih_up_eq, ih_up_ne (by decide)]
           first | rw [if_pos (by omega)] | rw [if_neg (by omega)]
         · rw [h1 j (by omega), ih_up_ne (by omega), ih_up_ne (by omega)])


theorem c_set {X : List Int} {t : ih_S} {Q : Option xa_V → ih_S → Prop} {q i : Nat} {v : Int} (hq : q < 4) (hi : i < 40) (hr : xa_rI (t (103 + 2 * q) 1)) (k : Q none (ih_up t (104 + 2 * q) i (ih_nar (t (103 + 2 * q) 1) v))) : ih_Wp X 33 0 [xR (103 + 2 * q), xI i, xI v] [] t Q := by
  refine ih_seg (i1 := 1) 1 rfl ?_
  refine ih_getI rfl (by first | rfl | exact ih_fS1 (by assumption)) ?_
  refine ih_seg (i1 := 3) 1 rfl ?_
  refine ih_icmp_ne rfl (by omega) (by omega) (fun w1 => ?_) (fun w1 => ?_)
  · refine ih_seg (i1 := 12) 1 rfl ?_
    refine ih_getR rfl (by first | rfl | exact ih_fS0 (by assumption)) ?_
    refine ih_seg (i1 := 15) 2 rfl ?_
    refine ih_getI rfl (by first | rfl | exact ih_fS1 (by assumption)) ?_
    refine ih_seg (i1 := 17) 1 rfl ?_
    refine ih_icmp_ne rfl (by omega) (by omega) (fun w2 => ?_) (fun w2 => ?_)
    · refine ih_seg (i1 := 22) 1 rfl ?_
      refine ih_iast rfl (ih_lS1 hq) (by omega) (by omega) (k := ?_)
      refine ih_retv rfl ?_
      unfold ih_nar at k
      first
        | (rw [if_pos (by omega)] at k
           exact k)
        | (rw [if_neg (by omega), if_pos (by omega)] at k
           exact k)
        | (rw [if_neg (by omega), if_neg (by omega)] at k
           exact k)
    · refine ih_seg (i1 := 22) 3 rfl ?_
      refine ih_iast rfl (ih_lS1 hq) (by omega) (by omega) (k := ?_)
      refine ih_retv rfl ?_
      unfold ih_nar at k
      first
        | (rw [if_pos (by omega)] at k
           exact k)
        | (rw [if_neg (by omega), if_pos (by omega)] at k
           exact k)
        | (rw [if_neg (by omega), if_neg (by omega)] at k
           exact k)
  · refine ih_seg (i1 := 5) 1 rfl ?_
    refine ih_getR rfl (by first | rfl | exact ih_fS0 (by assumption)) ?_
    refine ih_seg (i1 := 9) 3 rfl ?_
    refine ih_iast rfl (ih_lS1 hq) (by omega) (by omega) (k := ?_)
    refine ih_seg (i1 := 23) 1 rfl ?_
    refine ih_retv rfl ?_
    unfold ih_nar at k
    first
      | (rw [if_pos (by omega)] at k
         exact k)
      | (rw [if_neg (by omega), if_pos (by omega)] at k
         exact k)
      | (rw [if_neg (by omega), if_neg (by omega)] at k
         exact k)


theorem c_op_put {X : List Int} {t : ih_S} {Q : Option xa_V → ih_S → Prop} {bt sz nb : Int → Int} {a b d : Int} (ha : xa_rI a) (hb : xa_rI b) (hd : xa_rI d) (S : ih_SW t bt sz nb) (SG : ih_SG bt sz nb) (K : ih_shC t (f_put bt sz a b) bt sz (ih_u1 nb (40 * a + b) (ih_nar (bt a) d)) Q) : ih_Wp X 93 0 [xR 0, xI a, xI b, xI d] [] t Q := by
  refine ih_seg (i1 := 1) 1 rfl ?_
  refine ih_is1 110 rfl rfl (Nat.le_of_ble_eq_true rfl) (Nat.le_of_ble_eq_true rfl) rfl ?_
  refine c_isSheet (by omega) (fun w1 => ?_) (fun w2 => ?_)
  · refine ih_seg (i1 := 7) 1 rfl ?_
    obtain ⟨q, rfl⟩ := Int.eq_ofNat_of_zero_le (show 0 ≤ a by omega)
    have hq : q < 4 := by omega
    obtain ⟨e1, e2, e3⟩ := S q hq
    obtain ⟨g1, g2, g3⟩ := SG q hq
    refine ih_seg (i1 := 8) 1 rfl ?_
    refine ih_getR rfl rfl ?_
    refine ih_seg (i1 := 10) 1 rfl ?_
    refine ih_aald rfl (ih_eS hq) ?_
    refine ih_iv0 31 rfl rfl (by first | rfl | exact ih_kP (ih_P_w0 hc) |  exact ih_kP (by assumption) | exact ih_kC (by assumption) | exact ih_kN (by assumption) | exact ih_kS (by assumption) | exact ih_kW (by assumption)) (Nat.le_of_ble_eq_true rfl) (Nat.le_of_ble_eq_true rfl) rfl ?_
    refine c_isMissing hq (by omega) (fun hm => ?_) (fun hm => ?_)
    · refine ih_seg (i1 := 15) 3 rfl ?_
      refine ih_iv1 102 rfl rfl (by first | rfl | exact ih_kP (ih_P_w0 hc) |  exact ih_kP (by assumption) | exact ih_kC (by assumption) | exact ih_kN (by assumption) | exact ih_kS (by assumption) | exact ih_kW (by assumption)) (Nat.le_of_ble_eq_true rfl) (Nat.le_of_ble_eq_true rfl) rfl ?_
      refine c_finding (by omega) ?_
      refine ih_ret rfl rfl ?_
      first
        | exact ih_shC_no K (by rw [f_put, if_neg (by omega)]) (ih_sc_r _)
        | exact ih_shC_no K (by rw [f_put, if_pos (by omega), if_pos (by omega)]) (ih_sc_r _)
        | exact ih_shC_no K (by rw [f_put, if_pos (by omega), if_neg (by omega), if_neg (by omega)]) (ih_sc_r _)
        | (refine ih_shC_ok K (by rw [f_put, if_pos (by omega), if_neg (by omega), if_pos (by omega)]) (fun j hj => ?_) (fun j hj => ih_up_ne (by omega))
           have S1 := S j hj
           have z1 := (SG j hj).2.1
           rw [ih_up_ne (by omega)]
           refine ⟨S1.1, S1.2.1, fun k hk => ?_⟩
           have e4 := S1.2.2 k hk
           rw [ih_up2, ih_u1x, e1]
           (repeat' split) <;> first | rfl | omega)
    · refine ih_seg (i1 := 20) 4 rfl ?_
      refine ih_getR rfl rfl ?_
      refine ih_seg (i1 := 22) 1 rfl ?_
      refine ih_aald rfl (ih_eS hq) ?_
      refine ih_getI rfl (by first | rfl | exact ih_fS2 (by assumption)) ?_
      refine ih_seg (i1 := 26) 2 rfl ?_
      try dsimp only
      refine ih_is3 103 rfl rfl (Nat.le_of_ble_eq_true rfl) (Nat.le_of_ble_eq_true rfl) rfl ?_
      refine c_within (by omega) (by omega) (by omega) (fun w3 => ?_) (fun w4 => ?_)
      · refine ih_seg (i1 := 32) 1 rfl ?_
        obtain ⟨i, rfl⟩ := Int.eq_ofNat_of_zero_le (show 0 ≤ b by omega)
        refine ih_seg (i1 := 33) 1 rfl ?_
        refine ih_getR rfl rfl ?_
        refine ih_seg (i1 := 35) 1 rfl ?_
        refine ih_aald rfl (ih_eS hq) ?_
        refine ih_seg (i1 := 38) 2 rfl ?_
        refine ih_iv2 33 rfl rfl (by first | rfl | exact ih_kP (ih_P_w0 hc) |  exact ih_kP (by assumption) | exact ih_kC (by assumption) | exact ih_kN (by assumption) | exact ih_kS (by assumption) | exact ih_kW (by assumption)) (Nat.le_of_ble_eq_true rfl) (Nat.le_of_ble_eq_true rfl) rfl ?_
        refine c_set hq (by omega) (by omega) ?_
        refine ih_seg (i1 := 40) 1 rfl ?_
        refine ih_ret rfl rfl ?_
        first
          | exact ih_shC_no K (by rw [f_put, if_neg (by omega)]) (ih_sc_r _)
          | exact ih_shC_no K (by rw [f_put, if_pos (by omega), if_pos (by omega)]) (ih_sc_r _)
          | exact ih_shC_no K (by rw [f_put, if_pos (by omega), if_neg (by omega), if_neg (by omega)]) (ih_sc_r _)
          | (refine ih_shC_ok K (by rw [f_put, if_pos (by omega), if_neg (by omega), if_pos (by omega)]) (fun j hj => ?_) (fun j hj => ih_up_ne (by omega))
             have S1 := S j hj
             have z1 := (SG j hj).2.1
             rw [ih_up_ne (by omega)]
             refine ⟨S1.1, S1.2.1, fun k hk => ?_⟩
             have e4 := S1.2.2 k hk
             rw [ih_up2, ih_u1x, e1]
             (repeat' split) <;> first | rfl | omega)
      · refine ih_seg (i1 := 30) 3 rfl ?_
        refine ih_iv1 102 rfl rfl (by first | rfl | exact ih_kP (ih_P_w0 hc) |  exact ih_kP (by assumption) | exact ih_kC (by assumption) | exact ih_kN (by assumption) | exact ih_kS (by assumption) | exact ih_kW (by assumption)) (Nat.le_of_ble_eq_true rfl) (Nat.le_of_ble_eq_true rfl) rfl ?_
        refine c_finding (by omega) ?_
        refine ih_ret rfl rfl ?_
        first
          | exact ih_shC_no K (by rw [f_put, if_neg (by omega)]) (ih_sc_r _)
          | exact ih_shC_no K (by rw [f_put, if_pos (by omega), if_pos (by omega)]) (ih_sc_r _)
          | exact ih_shC_no K (by rw [f_put, if_pos (by omega), if_neg (by omega), if_neg (by omega)]) (ih_sc_r _)
          | (refine ih_shC_ok K (by rw [f_put, if_pos (by omega), if_neg (by omega), if_pos (by omega)]) (fun j hj => ?_) (fun j hj => ih_up_ne (by omega))
             have S1 := S j hj
             have z1 := (SG j hj).2.1
             rw [ih_up_ne (by omega)]
             refine ⟨S1.1, S1.2.1, fun k hk => ?_⟩
             have e4 := S1.2.2 k hk
             rw [ih_up2, ih_u1x, e1]
             (repeat' split) <;> first | rfl | omega)
  · refine ih_seg (i1 := 5) 3 rfl ?_
    refine ih_iv1 102 rfl rfl (by first | rfl | exact ih_kP (ih_P_w0 hc) |  exact ih_kP (by assumption) | exact ih_kC (by assumption) | exact ih_kN (by assumption) | exact ih_kS (by assumption) | exact ih_kW (by assumption)) (Nat.le_of_ble_eq_true rfl) (Nat.le_of_ble_eq_true rfl) rfl ?_
    refine c_finding (by omega) ?_
    refine ih_ret rfl rfl ?_
    first
      | exact ih_shC_no K (by rw [f_put, if_neg (by omega)]) (ih_sc_r _)
      | exact ih_shC_no K (by rw [f_put, if_pos (by omega), if_pos (by omega)]) (ih_sc_r _)
      | exact ih_shC_no K (by rw [f_put, if_pos (by omega), if_neg (by omega), if_neg (by omega)]) (ih_sc_r _)
      | (refine ih_shC_ok K (by rw [f_put, if_pos (by omega), if_neg (by omega), if_pos (by omega)]) (fun j hj => ?_) (fun j hj => ih_up_ne (by omega))
         have S1 := S j hj
         have z1 := (SG j hj).2.1
         rw [ih_up_ne (by omega)]
         refine ⟨S1.1, S1.2.1, fun k hk => ?_⟩
         have e4 := S1.2.2 k hk
         rw [ih_up2, ih_u1x, e1]
         (repeat' split) <;> first | rfl | omega)


theorem r_wrong {X : List Int} {t : ih_S} {Q : Option xa_V → ih_S → Prop} {a : Int} (ha : xa_rI a) (SG : ih_SG (t 118) (t 119) (t 120)) (K : Q (some (xI (if 0 ≤ a ∧ a < 4 then (if t 118 a = 0 then -1000006 else 0) else -1000001))) t) : ih_Wp X 201 0 [xR 111, xI a] [] t Q := by
  refine ih_seg (i1 := 1) 1 rfl ?_
  refine ih_is1 198 rfl rfl (Nat.le_of_ble_eq_true rfl) (Nat.le_of_ble_eq_true rfl) rfl ?_
  refine r_isOne (by omega) (fun w1 => ?_) (fun w2 => ?_)
  · refine ih_seg (i1 := 5) 1 rfl ?_
    obtain ⟨q, rfl⟩ := Int.eq_ofNat_of_zero_le (show 0 ≤ a by omega)
    have hq : q < 4 := by omega
    obtain ⟨g1, g2, g3⟩ := SG q hq
    refine ih_seg (i1 := 6) 1 rfl ?_
    refine ih_getR rfl rfl ?_
    refine ih_seg (i1 := 8) 1 rfl ?_
    refine ih_iald rfl (by first | rfl | exact ih_lP1 (ih_P_w0 hc) | exact ih_lP2 (ih_P_w0 hc) | exact ih_lP3 (ih_P_w0 hc) | exact ih_lP4 (ih_P_w0 hc) |  exact ih_lP1 (by assumption) | exact ih_lP2 (by assumption) | exact ih_lP3 (by assumption) | exact ih_lP4 (by assumption) | exact ih_lC1 (by assumption) | exact ih_lS1 (by assumption) | exact ih_lW1 (by assumption) | exact ih_lW2 (by assumption) | exact ih_lW4 (by assumption) | exact ih_lW5 (by assumption)) (by omega) (by omega) (k := ?_)
    refine ih_ifc_ne rfl (by omega) (fun w3 => ?_) (fun w3 => ?_)
    · refine ih_seg (i1 := 13) 1 rfl ?_
      refine ih_ret rfl rfl ?_
      refine ih_Qe ?_ K
      first
        | rw [if_neg (by omega)]
        | rw [if_pos (by omega), if_pos (by omega)]
        | rw [if_pos (by omega), if_neg (by omega)]
    · refine ih_seg (i1 := 13) 2 rfl ?_
      refine ih_ret rfl rfl ?_
      refine ih_Qe ?_ K
      first
        | rw [if_neg (by omega)]
        | rw [if_pos (by omega), if_pos (by omega)]
        | rw [if_pos (by omega), if_neg (by omega)]
  · refine ih_seg (i1 := 13) 3 rfl ?_
    refine ih_ret rfl rfl ?_
    refine ih_Qe ?_ K
    first
      | rw [if_neg (by omega)]
      | rw [if_pos (by omega), if_pos (by omega)]
      | rw [if_pos (by omega), if_neg (by omega)]


theorem r_narrowed {X : List Int} {t : ih_S} {Q : Option xa_V → ih_S → Prop} {b v : Int} (hb : xa_rI b) (k : Q (some (xI (ih_nar b v))) t) : ih_Wp X 200 0 [xI b, xI v] [] t Q := by
  refine ih_seg (i1 := 2) 2 rfl ?_
  refine ih_icmp_ne rfl (by omega) (by omega) (fun w1 => ?_) (fun w1 => ?_)
  · refine ih_seg (i1 := 8) 2 rfl ?_
    refine ih_icmp_ne rfl (by omega) (by omega) (fun w2 => ?_) (fun w2 => ?_)
    · refine ih_seg (i1 := 13) 1 rfl ?_
      refine ih_ret rfl rfl ?_
      refine ih_Qe ?_ k
      unfold ih_nar
      first
        | rw [if_pos (by omega)]
        | rw [if_neg (by omega), if_pos (by omega)]
        | rw [if_neg (by omega), if_neg (by omega)]
    · refine ih_seg (i1 := 13) 3 rfl ?_
      refine ih_ret rfl rfl ?_
      refine ih_Qe ?_ k
      unfold ih_nar
      first
        | rw [if_pos (by omega)]
        | rw [if_neg (by omega), if_pos (by omega)]
        | rw [if_neg (by omega), if_neg (by omega)]
  · refine ih_seg (i1 := 13) 3 rfl ?_
    refine ih_ret rfl rfl ?_
    refine ih_Qe ?_ k
    unfold ih_nar
    first
      | rw [if_pos (by omega)]
      | rw [if_neg (by omega), if_pos (by omega)]
      | rw [if_neg (by omega), if_neg (by omega)]


theorem r_op_put {X : List Int} {t : ih_S} {Q : Option xa_V → ih_S → Prop} {a b d : Int} (ha : xa_rI a) (hb : xa_rI b) (hd : xa_rI d) (SG : ih_SG (t 118) (t 119) (t 120)) (K : ih_shR t (f_put (t 118) (t 119) a b) (t 118) (t 119) (ih_u1 (t 120) (40 * a + b) (ih_nar (t 118 a) d)) Q) : ih_Wp X 202 0 [xR 111, xI a, xI b, xI d, xC 1] [] t Q := by
  refine ih_seg (i1 := 2) 2 rfl ?_
  refine ih_iv1 201 rfl rfl (by first | rfl | exact ih_kP (ih_P_w0 hc) |  exact ih_kP (by assumption) | exact ih_kC (by assumption) | exact ih_kN (by assumption) | exact ih_kS (by assumption) | exact ih_kW (by assumption)) (Nat.le_of_ble_eq_true rfl) (Nat.le_of_ble_eq_true rfl) rfl ?_
  refine r_wrong (by omega) SG ?_
  have hw : ((if 0 ≤ a ∧ a < 4 then (if t 118 a = 0 then -1000006 else 0) else -1000001) = (-1000001 : Int) ∧ ¬ (0 ≤ a ∧ a < 4)) ∨ ((if 0 ≤ a ∧ a < 4 then (if t 118 a = 0 then -1000006 else 0) else -1000001) = (-1000006 : Int) ∧ (0 ≤ a ∧ a < 4) ∧ t 118 a = 0) ∨ ((if 0 ≤ a ∧ a < 4 then (if t 118 a = 0 then -1000006 else 0) else -1000001) = (0 : Int) ∧ (0 ≤ a ∧ a < 4) ∧ t 118 a ≠ 0) := by
    split
    · split <;> omega
    · omega
  generalize (if 0 ≤ a ∧ a < 4 then (if t 118 a = 0 then -1000006 else 0) else -1000001 : Int) = wv at hw ⊢
  refine ih_seg (i1 := 5) 2 rfl ?_
  try simp only [xa_set, List.set_cons_zero, List.set_cons_succ, List.getElem?_cons_zero, List.getElem?_cons_succ]
  refine ih_ifc_eq rfl (by omega) (fun w1 => ?_) (fun w1 => ?_)
  · obtain ⟨q, rfl⟩ := Int.eq_ofNat_of_zero_le (show 0 ≤ a by omega)
    have hq : q < 4 := by omega
    obtain ⟨g1, g2, g3⟩ := SG q hq
    refine ih_seg (i1 := 11) 1 rfl ?_
    refine ih_i2l rfl (by omega) ?_
    refine ih_seg (i1 := 14) 2 rfl ?_
    refine ih_getR rfl rfl ?_
    refine ih_seg (i1 := 16) 1 rfl ?_
    refine ih_iald rfl (by first | rfl | exact ih_lP1 (ih_P_w0 hc) | exact ih_lP2 (ih_P_w0 hc) | exact ih_lP3 (ih_P_w0 hc) | exact ih_lP4 (ih_P_w0 hc) |  exact ih_lP1 (by assumption) | exact ih_lP2 (by assumption) | exact ih_lP3 (by assumption) | exact ih_lP4 (by assumption) | exact ih_lC1 (by assumption) | exact ih_lS1 (by assumption) | exact ih_lW1 (by assumption) | exact ih_lW2 (by assumption) | exact ih_lW4 (by assumption) | exact ih_lW5 (by assumption)) (by omega) (by omega) (k := ?_)
    refine ih_seg (i1 := 19) 2 rfl ?_
    try dsimp only
    refine ih_i2l rfl (by omega) ?_
    refine ih_is3 126 rfl rfl (Nat.le_of_ble_eq_true rfl) (Nat.le_of_ble_eq_true rfl) rfl ?_
    refine r_in (by omega) (by omega) (by omega) (fun w2 => ?_) (fun w3 => ?_)
    · refine ih_seg (i1 := 26) 1 rfl ?_
      obtain ⟨i, rfl⟩ := Int.eq_ofNat_of_zero_le (show 0 ≤ b by omega)
      refine ih_seg (i1 := 27) 1 rfl ?_
      refine ih_getR rfl rfl ?_
      refine ih_seg (i1 := 34) 6 rfl ?_
      try dsimp only
      refine ih_getR rfl rfl ?_
      refine ih_seg (i1 := 36) 1 rfl ?_
      refine ih_iald rfl (by first | rfl | exact ih_lP1 (ih_P_w0 hc) | exact ih_lP2 (ih_P_w0 hc) | exact ih_lP3 (ih_P_w0 hc) | exact ih_lP4 (ih_P_w0 hc) |  exact ih_lP1 (by assumption) | exact ih_lP2 (by assumption) | exact ih_lP3 (by assumption) | exact ih_lP4 (by assumption) | exact ih_lC1 (by assumption) | exact ih_lS1 (by assumption) | exact ih_lW1 (by assumption) | exact ih_lW2 (by assumption) | exact ih_lW4 (by assumption) | exact ih_lW5 (by assumption)) (by omega) (by omega) (k := ?_)
      refine ih_seg (i1 := 38) 1 rfl ?_
      refine ih_is2 200 rfl rfl (Nat.le_of_ble_eq_true rfl) (Nat.le_of_ble_eq_true rfl) rfl ?_
      refine r_narrowed (by omega) ?_
      refine ih_iast rfl (by first | rfl | exact ih_lP1 (ih_P_w0 hc) | exact ih_lP2 (ih_P_w0 hc) | exact ih_lP3 (ih_P_w0 hc) | exact ih_lP4 (ih_P_w0 hc) |  exact ih_lP1 (by assumption) | exact ih_lP2 (by assumption) | exact ih_lP3 (by assumption) | exact ih_lP4 (by assumption) | exact ih_lC1 (by assumption) | exact ih_lS1 (by assumption) | exact ih_lW1 (by assumption) | exact ih_lW2 (by assumption) | exact ih_lW4 (by assumption) | exact ih_lW5 (by assumption)) (by omega) (by omega) (k := ?_)
      refine ih_seg (i1 := 41) 1 rfl ?_
      refine ih_ret rfl rfl ?_
      first
        | exact ih_shR_no 0 K (by rw [f_put, if_pos (by omega), if_neg (by omega), if_neg (by omega)]) rfl (ih_rr_r _)
        | exact ih_shR_ok K (by rw [f_put, if_pos (by omega), if_neg (by omega), if_pos (by omega)]) (ih_up_ne (by decide)) (ih_up_ne (by decide)) ih_up_eq (fun j hj => ih_up_ne (by omega))
    · refine ih_seg (i1 := 24) 3 rfl ?_
      refine ih_iv1 127 rfl rfl (by first | rfl | exact ih_kP (ih_P_w0 hc) |  exact ih_kP (by assumption) | exact ih_kC (by assumption) | exact ih_kN (by assumption) | exact ih_kS (by assumption) | exact ih_kW (by assumption)) (Nat.le_of_ble_eq_true rfl) (Nat.le_of_ble_eq_true rfl) rfl ?_
      refine r_finds 0 rfl (by omega) ?_
      refine ih_ret rfl rfl ?_
      first
        | exact ih_shR_no 0 K (by rw [f_put, if_pos (by omega), if_neg (by omega), if_neg (by omega)]) rfl (ih_rr_r _)
        | exact ih_shR_ok K (by rw [f_put, if_pos (by omega), if_neg (by omega), if_pos (by omega)]) (ih_up_ne (by decide)) (ih_up_ne (by decide)) ih_up_eq (fun j hj => ih_up_ne (by omega))
  · refine ih_seg (i1 := 8) 2 rfl ?_
    refine ih_iv1 127 rfl rfl (by first | rfl | exact ih_kP (ih_P_w0 hc) |  exact ih_kP (by assumption) | exact ih_kC (by assumption) | exact ih_kN (by assumption) | exact ih_kS (by assumption) | exact ih_kW (by assumption)) (Nat.le_of_ble_eq_true rfl) (Nat.le_of_ble_eq_true rfl) rfl ?_
    rcases hw with ⟨rfl, h2⟩ | ⟨rfl, h2, h3⟩ | ⟨rfl, h2, h3⟩
    · refine r_finds 0 rfl (by omega) ?_
      refine ih_ret rfl rfl ?_
      exact ih_shR_no 0 K (by rw [f_put, if_neg (by omega)]) rfl (ih_rr_r _)
    · refine r_finds 5 rfl (by omega) ?_
      refine ih_ret rfl rfl ?_
      exact ih_shR_no 5 K (by rw [f_put, if_pos (by omega), if_pos (by omega)]) rfl (ih_rr_r _)
    · exfalso
      omega


theorem c_hasRange {X : List Int} {t : ih_S} {Q : Option xa_V → ih_S → Prop} {q : Nat} {a n : Int} (hq : q < 4) (ha : xa_rI a) (hn : xa_rI n) (hz : 0 ≤ t (103 + 2 * q) 2 ∧ t (103 + 2 * q) 2 ≤ 40) (kt : 0 ≤ a ∧ 0 ≤ n ∧ a + n ≤ t (103 + 2 * q) 2 → Q (some (xI 1)) t) (kf : ¬ (0 ≤ a ∧ 0 ≤ n ∧ a + n ≤ t (103 + 2 * q) 2) → Q (some (xI 0)) t) : ih_Wp X 34 0 [xR (103 + 2 * q), xI a, xI n] [] t Q := by
  refine ih_seg (i1 := 1) 1 rfl ?_
  refine ih_ifc_lt rfl (by omega) (fun w1 => ?_) (fun w1 => ?_)
  · refine ih_seg (i1 := 17) 1 rfl ?_
    refine ih_ret rfl rfl ?_
    first | exact kt (by omega) | exact kf (by omega)
  · refine ih_seg (i1 := 3) 1 rfl ?_
    refine ih_ifc_lt rfl (by omega) (fun w2 => ?_) (fun w2 => ?_)
    · refine ih_seg (i1 := 17) 1 rfl ?_
      refine ih_ret rfl rfl ?_
      first | exact kt (by omega) | exact kf (by omega)
    · refine ih_seg (i1 := 6) 2 rfl ?_
      refine ih_getI rfl (by first | rfl | exact ih_fS2 (by assumption)) ?_
      refine ih_icmp_gt rfl (by omega) (by omega) (fun w3 => ?_) (fun w3 => ?_)
      · refine ih_seg (i1 := 17) 1 rfl ?_
        refine ih_ret rfl rfl ?_
        first | exact kt (by omega) | exact kf (by omega)
      · refine ih_seg (i1 := 10) 2 rfl ?_
        refine ih_getI rfl (by first | rfl | exact ih_fS2 (by assumption)) ?_
        refine ih_seg (i1 := 13) 2 rfl ?_
        try dsimp only
        refine ih_icmp_gt rfl (by omega) (by omega) (fun w4 => ?_) (fun w4 => ?_)
        · refine ih_seg (i1 := 17) 1 rfl ?_
          refine ih_ret rfl rfl ?_
          first | exact kt (by omega) | exact kf (by omega)
        · refine ih_seg (i1 := 17) 2 rfl ?_
          refine ih_ret rfl rfl ?_
          first | exact kt (by omega) | exact kf (by omega)


theorem c_op_copy {X : List Int} {t : ih_S} {Q : Option xa_V → ih_S → Prop} {bt sz nb : Int → Int} {a b d e n : Int} (ha : xa_rI a) (hb : xa_rI b) (hd : xa_rI d) (he : xa_rI e) (hn : xa_rI n) (S : ih_SW t bt sz nb) (SG : ih_SG bt sz nb) (K : ih_shC t (f_copy bt sz a b d e n) bt sz (g_copy nb a b d e n) Q) : ih_Wp X 94 0 [xR 0, xI a, xI b, xI d, xI e, xI n] [] t Q := by
  refine ih_seg (i1 := 1) 1 rfl ?_
  refine ih_is1 110 rfl rfl (Nat.le_of_ble_eq_true rfl) (Nat.le_of_ble_eq_true rfl) rfl ?_
  refine c_isSheet (by omega) (fun w1 => ?_) (fun w2 => ?_)
  · refine ih_seg (i1 := 4) 2 rfl ?_
    refine ih_is1 110 rfl rfl (Nat.le_of_ble_eq_true rfl) (Nat.le_of_ble_eq_true rfl) rfl ?_
    refine c_isSheet (by omega) (fun w3 => ?_) (fun w4 => ?_)
    · refine ih_seg (i1 := 10) 1 rfl ?_
      obtain ⟨q, rfl⟩ := Int.eq_ofNat_of_zero_le (show 0 ≤ a by omega)
      have hq : q < 4 := by omega
      obtain ⟨r, rfl⟩ := Int.eq_ofNat_of_zero_le (show 0 ≤ d by omega)
      have hr : r < 4 := by omega
      obtain ⟨e1, e2, e3⟩ := S q hq
      obtain ⟨g1, g2, g3⟩ := SG q hq
      obtain ⟨i1, i2, i3⟩ := S r hr
      obtain ⟨j1, j2, j3⟩ := SG r hr
      refine ih_seg (i1 := 11) 1 rfl ?_
      refine ih_getR rfl rfl ?_
      refine ih_seg (i1 := 13) 1 rfl ?_
      refine ih_aald rfl (ih_eS hq) ?_
      refine ih_iv0 31 rfl rfl (by first | rfl | exact ih_kP (ih_P_w0 hc) |  exact ih_kP (by assumption) | exact ih_kC (by assumption) | exact ih_kN (by assumption) | exact ih_kS (by assumption) | exact ih_kW (by assumption)) (Nat.le_of_ble_eq_true rfl) (Nat.le_of_ble_eq_true rfl) rfl ?_
      refine c_isMissing hq (by omega) (fun hm => ?_) (fun hm => ?_)
      · refine ih_seg (i1 := 24) 3 rfl ?_
        refine ih_iv1 102 rfl rfl (by first | rfl | exact ih_kP (ih_P_w0 hc) |  exact ih_kP (by assumption) | exact ih_kC (by assumption) | exact ih_kN (by assumption) | exact ih_kS (by assumption) | exact ih_kW (by assumption)) (Nat.le_of_ble_eq_true rfl) (Nat.le_of_ble_eq_true rfl) rfl ?_
        refine c_finding (by omega) ?_
        refine ih_ret rfl rfl ?_
        first
          | exact ih_shC_no K (by rw [f_copy, if_neg (by omega)]) (ih_sc_r _)
          | exact ih_shC_no K (by rw [f_copy, if_pos (by omega), if_pos (by omega)]) (ih_sc_r _)
          | exact ih_shC_no K (by rw [f_copy, if_pos (by omega), if_neg (by omega), if_neg (by omega)]) (ih_sc_r _)
          | exact ih_shC_no K (by rw [f_copy, if_pos (by omega), if_neg (by omega), if_pos (by omega), if_neg (by omega)]) (ih_sc_r _)
          | (refine ih_shC_ok K (by rw [f_copy, if_pos (by omega), if_neg (by omega), if_pos (by omega), if_pos (by omega)]) (fun j hj => ?_) (fun j hj => ih_uf_ne (by omega))
             have S1 := S j hj
             have z1 := (SG j hj).2.1
             rw [ih_uf_ne (by omega)]
             refine ⟨S1.1, S1.2.1, fun k hk => ?_⟩
             have e4 := S1.2.2 k hk
             by_cases ej : j = r
             · subst ej
               rw [ih_uf_eq]
               unfold ih_cp g_copy
               by_cases ek : e ≤ (k : Int) ∧ (k : Int) < e + n
               · rw [if_pos ek, if_pos (by omega)]
                 have e5 := e3 (b + (k - e)).toNat (by omega)
                 rw [show (((b + (k - e)).toNat : Nat) : Int) = b + (k - e) by omega] at e5
                 rw [e5]
                 exact congrArg nb (by omega)
               · rw [if_neg ek, if_neg (by omega)]
                 exact e4
             · rw [ih_uf_ne (by omega), e4, g_copy, if_neg (by omega)])
      · refine ih_seg (i1 := 17) 2 rfl ?_
        refine ih_getR rfl rfl ?_
        refine ih_seg (i1 := 19) 1 rfl ?_
        refine ih_aald rfl (ih_eS hr) ?_
        refine ih_iv0 31 rfl rfl (by first | rfl | exact ih_kP (ih_P_w0 hc) |  exact ih_kP (by assumption) | exact ih_kC (by assumption) | exact ih_kN (by assumption) | exact ih_kS (by assumption) | exact ih_kW (by assumption)) (Nat.le_of_ble_eq_true rfl) (Nat.le_of_ble_eq_true rfl) rfl ?_
        refine c_isMissing hr (by omega) (fun hm2 => ?_) (fun hm2 => ?_)
        · refine ih_seg (i1 := 24) 3 rfl ?_
          refine ih_iv1 102 rfl rfl (by first | rfl | exact ih_kP (ih_P_w0 hc) |  exact ih_kP (by assumption) | exact ih_kC (by assumption) | exact ih_kN (by assumption) | exact ih_kS (by assumption) | exact ih_kW (by assumption)) (Nat.le_of_ble_eq_true rfl) (Nat.le_of_ble_eq_true rfl) rfl ?_
          refine c_finding (by omega) ?_
          refine ih_ret rfl rfl ?_
          first
            | exact ih_shC_no K (by rw [f_copy, if_neg (by omega)]) (ih_sc_r _)
            | exact ih_shC_no K (by rw [f_copy, if_pos (by omega), if_pos (by omega)]) (ih_sc_r _)
            | exact ih_shC_no K (by rw [f_copy, if_pos (by omega), if_neg (by omega), if_neg (by omega)]) (ih_sc_r _)
            | exact ih_shC_no K (by rw [f_copy, if_pos (by omega), if_neg (by omega), if_pos (by omega), if_neg (by omega)]) (ih_sc_r _)
            | (refine ih_shC_ok K (by rw [f_copy, if_pos (by omega), if_neg (by omega), if_pos (by omega), if_pos (by omega)]) (fun j hj => ?_) (fun j hj => ih_uf_ne (by omega))
               have S1 := S j hj
               have z1 := (SG j hj).2.1
               rw [ih_uf_ne (by omega)]
               refine ⟨S1.1, S1.2.1, fun k hk => ?_⟩
               have e4 := S1.2.2 k hk
               by_cases ej : j = r
               · subst ej
                 rw [ih_uf_eq]
                 unfold ih_cp g_copy
                 by_cases ek : e ≤ (k : Int) ∧ (k : Int) < e + n
                 · rw [if_pos ek, if_pos (by omega)]
                   have e5 := e3 (b + (k - e)).toNat (by omega)
                   rw [show (((b + (k - e)).toNat : Nat) : Int) = b + (k - e) by omega] at e5
                   rw [e5]
                   exact congrArg nb (by omega)
                 · rw [if_neg ek, if_neg (by omega)]
                   exact e4
               · rw [ih_uf_ne (by omega), e4, g_copy, if_neg (by omega)])
        · refine ih_seg (i1 := 27) 2 rfl ?_
          refine ih_getR rfl rfl ?_
          refine ih_seg (i1 := 29) 1 rfl ?_
          refine ih_aald rfl (ih_eS hq) ?_
          refine ih_getI rfl (by first | rfl | exact ih_fS1 (by assumption)) ?_
          refine ih_seg (i1 := 32) 1 rfl ?_
          refine ih_getR rfl rfl ?_
          refine ih_seg (i1 := 34) 1 rfl ?_
          refine ih_aald rfl (ih_eS hr) ?_
          refine ih_getI rfl (by first | rfl | exact ih_fS1 (by assumption)) ?_
          refine ih_icmp_eq rfl (by omega) (by omega) (fun w5 => ?_) (fun w5 => ?_)
          · refine ih_seg (i1 := 42) 1 rfl ?_
            refine ih_getR rfl rfl ?_
            refine ih_seg (i1 := 44) 1 rfl ?_
            refine ih_aald rfl (ih_eS hq) ?_
            refine ih_seg (i1 := 47) 2 rfl ?_
            refine ih_iv2 34 rfl rfl (by first | rfl | exact ih_kP (ih_P_w0 hc) |  exact ih_kP (by assumption) | exact ih_kC (by assumption) | exact ih_kN (by assumption) | exact ih_kS (by assumption) | exact ih_kW (by assumption)) (Nat.le_of_ble_eq_true rfl) (Nat.le_of_ble_eq_true rfl) rfl ?_
            refine c_hasRange hq (by omega) (by omega) (by omega) (fun hh1 => ?_) (fun hh1 => ?_)
            · refine ih_seg (i1 := 50) 2 rfl ?_
              refine ih_getR rfl rfl ?_
              refine ih_seg (i1 := 52) 1 rfl ?_
              refine ih_aald rfl (ih_eS hr) ?_
              refine ih_seg (i1 := 55) 2 rfl ?_
              refine ih_iv2 34 rfl rfl (by first | rfl | exact ih_kP (ih_P_w0 hc) |  exact ih_kP (by assumption) | exact ih_kC (by assumption) | exact ih_kN (by assumption) | exact ih_kS (by assumption) | exact ih_kW (by assumption)) (Nat.le_of_ble_eq_true rfl) (Nat.le_of_ble_eq_true rfl) rfl ?_
              refine c_hasRange hr (by omega) (by omega) (by omega) (fun hh2 => ?_) (fun hh2 => ?_)
              · refine ih_seg (i1 := 62) 2 rfl ?_
                refine ih_getR rfl rfl ?_
                refine ih_seg (i1 := 64) 1 rfl ?_
                refine ih_aald rfl (ih_eS hq) ?_
                refine ih_getR rfl (by first | rfl | exact ih_fS0 (by assumption)) ?_
                refine ih_seg (i1 := 68) 2 rfl ?_
                refine ih_getR rfl rfl ?_
                refine ih_seg (i1 := 70) 1 rfl ?_
                refine ih_aald rfl (ih_eS hr) ?_
                refine ih_getR rfl (by first | rfl | exact ih_fS0 (by assumption)) ?_
                refine ih_seg (i1 := 74) 2 rfl ?_
                refine ih_acp rfl (ih_lS1 hq) (ih_lS1 hr) (by omega) (by omega) (by omega) (by omega) (by omega) (Nat.le_of_ble_eq_true rfl) (k := ?_)
                refine ih_seg (i1 := 76) 1 rfl ?_
                refine ih_ret rfl rfl ?_
                first
                  | exact ih_shC_no K (by rw [f_copy, if_neg (by omega)]) (ih_sc_r _)
                  | exact ih_shC_no K (by rw [f_copy, if_pos (by omega), if_pos (by omega)]) (ih_sc_r _)
                  | exact ih_shC_no K (by rw [f_copy, if_pos (by omega), if_neg (by omega), if_neg (by omega)]) (ih_sc_r _)
                  | exact ih_shC_no K (by rw [f_copy, if_pos (by omega), if_neg (by omega), if_pos (by omega), if_neg (by omega)]) (ih_sc_r _)
                  | (refine ih_shC_ok K (by rw [f_copy, if_pos (by omega), if_neg (by omega), if_pos (by omega), if_pos (by omega)]) (fun j hj => ?_) (fun j hj => ih_uf_ne (by omega))
                     have S1 := S j hj
                     have z1 := (SG j hj).2.1
                     rw [ih_uf_ne (by omega)]
                     refine ⟨S1.1, S1.2.1, fun k hk => ?_⟩
                     have e4 := S1.2.2 k hk
                     by_cases ej : j = r
                     · subst ej
                       rw [ih_uf_eq]
                       unfold ih_cp g_copy
                       by_cases ek : e ≤ (k : Int) ∧ (k : Int) < e + n
                       · rw [if_pos ek, if_pos (by omega)]
                         have e5 := e3 (b + (k - e)).toNat (by omega)
                         rw [show (((b + (k - e)).toNat : Nat) : Int) = b + (k - e) by omega] at e5
                         rw [e5]
                         exact congrArg nb (by omega)
                       · rw [if_neg ek, if_neg (by omega)]
                         exact e4
                     · rw [ih_uf_ne (by omega), e4, g_copy, if_neg (by omega)])
              · refine ih_seg (i1 := 59) 3 rfl ?_
                refine ih_iv1 102 rfl rfl (by first | rfl | exact ih_kP (ih_P_w0 hc) |  exact ih_kP (by assumption) | exact ih_kC (by assumption) | exact ih_kN (by assumption) | exact ih_kS (by assumption) | exact ih_kW (by assumption)) (Nat.le_of_ble_eq_true rfl) (Nat.le_of_ble_eq_true rfl) rfl ?_
                refine c_finding (by omega) ?_
                refine ih_ret rfl rfl ?_
                first
                  | exact ih_shC_no K (by rw [f_copy, if_neg (by omega)]) (ih_sc_r _)
                  | exact ih_shC_no K (by rw [f_copy, if_pos (by omega), if_pos (by omega)]) (ih_sc_r _)
                  | exact ih_shC_no K (by rw [f_copy, if_pos (by omega), if_neg (by omega), if_neg (by omega)]) (ih_sc_r _)
                  | exact ih_shC_no K (by rw [f_copy, if_pos (by omega), if_neg (by omega), if_pos (by omega), if_neg (by omega)]) (ih_sc_r _)
                  | (refine ih_shC_ok K (by rw [f_copy, if_pos (by omega), if_neg (by omega), if_pos (by omega), if_pos (by omega)]) (fun j hj => ?_) (fun j hj => ih_uf_ne (by omega))
                     have S1 := S j hj
                     have z1 := (SG j hj).2.1
                     rw [ih_uf_ne (by omega)]
                     refine ⟨S1.1, S1.2.1, fun k hk => ?_⟩
                     have e4 := S1.2.2 k hk
                     by_cases ej : j = r
                     · subst ej
                       rw [ih_uf_eq]
                       unfold ih_cp g_copy
                       by_cases ek : e ≤ (k : Int) ∧ (k : Int) < e + n
                       · rw [if_pos ek, if_pos (by omega)]
                         have e5 := e3 (b + (k - e)).toNat (by omega)
                         rw [show (((b + (k - e)).toNat : Nat) : Int) = b + (k - e) by omega] at e5
                         rw [e5]
                         exact congrArg nb (by omega)
                       · rw [if_neg ek, if_neg (by omega)]
                         exact e4
                     · rw [ih_uf_ne (by omega), e4, g_copy, if_neg (by omega)])
            · refine ih_seg (i1 := 59) 3 rfl ?_
              refine ih_iv1 102 rfl rfl (by first | rfl | exact ih_kP (ih_P_w0 hc) |  exact ih_kP (by assumption) | exact ih_kC (by assumption) | exact ih_kN (by assumption) | exact ih_kS (by assumption) | exact ih_kW (by assumption)) (Nat.le_of_ble_eq_true rfl) (Nat.le_of_ble_eq_true rfl) rfl ?_
              refine c_finding (by omega) ?_
              refine ih_ret rfl rfl ?_
              first
                | exact ih_shC_no K (by rw [f_copy, if_neg (by omega)]) (ih_sc_r _)
                | exact ih_shC_no K (by rw [f_copy, if_pos (by omega), if_pos (by omega)]) (ih_sc_r _)
                | exact ih_shC_no K (by rw [f_copy, if_pos (by omega), if_neg (by omega), if_neg (by omega)]) (ih_sc_r _)
                | exact ih_shC_no K (by rw [f_copy, if_pos (by omega), if_neg (by omega), if_pos (by omega), if_neg (by omega)]) (ih_sc_r _)
                | (refine ih_shC_ok K (by rw [f_copy, if_pos (by omega), if_neg (by omega), if_pos (by omega), if_pos (by omega)]) (fun j hj => ?_) (fun j hj => ih_uf_ne (by omega))
                   have S1 := S j hj
                   have z1 := (SG j hj).2.1
                   rw [ih_uf_ne (by omega)]
                   refine ⟨S1.1, S1.2.1, fun k hk => ?_⟩
                   have e4 := S1.2.2 k hk
                   by_cases ej : j = r
                   · subst ej
                     rw [ih_uf_eq]
                     unfold ih_cp g_copy
                     by_cases ek : e ≤ (k : Int) ∧ (k : Int) < e + n
                     · rw [if_pos ek, if_pos (by omega)]
                       have e5 := e3 (b + (k - e)).toNat (by omega)
                       rw [show (((b + (k - e)).toNat : Nat) : Int) = b + (k - e) by omega] at e5
                       rw [e5]
                       exact congrArg nb (by omega)
                     · rw [if_neg ek, if_neg (by omega)]
                       exact e4
                   · rw [ih_uf_ne (by omega), e4, g_copy, if_neg (by omega)])
          · refine ih_seg (i1 := 39) 2 rfl ?_
            refine ih_iv1 102 rfl rfl (by first | rfl | exact ih_kP (ih_P_w0 hc) |  exact ih_kP (by assumption) | exact ih_kC (by assumption) | exact ih_kN (by assumption) | exact ih_kS (by assumption) | exact ih_kW (by assumption)) (Nat.le_of_ble_eq_true rfl) (Nat.le_of_ble_eq_true rfl) rfl ?_
            refine c_finding (by omega) ?_
            refine ih_ret rfl rfl ?_
            first
              | exact ih_shC_no K (by rw [f_copy, if_neg (by omega)]) (ih_sc_r _)
              | exact ih_shC_no K (by rw [f_copy, if_pos (by omega), if_pos (by omega)]) (ih_sc_r _)
              | exact ih_shC_no K (by rw [f_copy, if_pos (by omega), if_neg (by omega), if_neg (by omega)]) (ih_sc_r _)
              | exact ih_shC_no K (by rw [f_copy, if_pos (by omega), if_neg (by omega), if_pos (by omega), if_neg (by omega)]) (ih_sc_r _)
              | (refine ih_shC_ok K (by rw [f_copy, if_pos (by omega), if_neg (by omega), if_pos (by omega), if_pos (by omega)]) (fun j hj => ?_) (fun j hj => ih_uf_ne (by omega))
                 have S1 := S j hj
                 have z1 := (SG j hj).2.1
                 rw [ih_uf_ne (by omega)]
                 refine ⟨S1.1, S1.2.1, fun k hk => ?_⟩
                 have e4 := S1.2.2 k hk
                 by_cases ej : j = r
                 · subst ej
                   rw [ih_uf_eq]
                   unfold ih_cp g_copy
                   by_cases ek : e ≤ (k : Int) ∧ (k : Int) < e + n
                   · rw [if_pos ek, if_pos (by omega)]
                     have e5 := e3 (b + (k - e)).toNat (by omega)
                     rw [show (((b + (k - e)).toNat : Nat) : Int) = b + (k - e) by omega] at e5
                     rw [e5]
                     exact congrArg nb (by omega)
                   · rw [if_neg ek, if_neg (by omega)]
                     exact e4
                 · rw [ih_uf_ne (by omega), e4, g_copy, if_neg (by omega)])
    · refine ih_seg (i1 := 8) 3 rfl ?_
      refine ih_iv1 102 rfl rfl (by first | rfl | exact ih_kP (ih_P_w0 hc) |  exact ih_kP (by assumption) | exact ih_kC (by assumption) | exact ih_kN (by assumption) | exact ih_kS (by assumption) | exact ih_kW (by assumption)) (Nat.le_of_ble_eq_true rfl) (Nat.le_of_ble_eq_true rfl) rfl ?_
      refine c_finding (by omega) ?_
      refine ih_ret rfl rfl ?_
      first
        | exact ih_shC_no K (by rw [f_copy, if_neg (by omega)]) (ih_sc_r _)
        | exact ih_shC_no K (by rw [f_copy, if_pos (by omega), if_pos (by omega)]) (ih_sc_r _)
        | exact ih_shC_no K (by rw [f_copy, if_pos (by omega), if_neg (by omega), if_neg (by omega)]) (ih_sc_r _)
        | exact ih_shC_no K (by rw [f_copy, if_pos (by omega), if_neg (by omega), if_pos (by omega), if_neg (by omega)]) (ih_sc_r _)
        | (refine ih_shC_ok K (by rw [f_copy, if_pos (by omega), if_neg (by omega), if_pos (by omega), if_pos (by omega)]) (fun j hj => ?_) (fun j hj => ih_uf_ne (by omega))
           have S1 := S j hj
           have z1 := (SG j hj).2.1
           rw [ih_uf_ne (by omega)]
           refine ⟨S1.1, S1.2.1, fun k hk => ?_⟩
           have e4 := S1.2.2 k hk
           by_cases ej : j = r
           · subst ej
             rw [ih_uf_eq]
             unfold ih_cp g_copy
             by_cases ek : e ≤ (k : Int) ∧ (k : Int) < e + n
             · rw [if_pos ek, if_pos (by omega)]
               have e5 := e3 (b + (k - e)).toNat (by omega)
               rw [show (((b + (k - e)).toNat : Nat) : Int) = b + (k - e) by omega] at e5
               rw [e5]
               exact congrArg nb (by omega)
             · rw [if_neg ek, if_neg (by omega)]
               exact e4
           · rw [ih_uf_ne (by omega), e4, g_copy, if_neg (by omega)])
  · refine ih_seg (i1 := 8) 3 rfl ?_
    refine ih_iv1 102 rfl rfl (by first | rfl | exact ih_kP (ih_P_w0 hc) |  exact ih_kP (by assumption) | exact ih_kC (by assumption) | exact ih_kN (by assumption) | exact ih_kS (by assumption) | exact ih_kW (by assumption)) (Nat.le_of_ble_eq_true rfl) (Nat.le_of_ble_eq_true rfl) rfl ?_
    refine c_finding (by omega) ?_
    refine ih_ret rfl rfl ?_
    first
      | exact ih_shC_no K (by rw [f_copy, if_neg (by omega)]) (ih_sc_r _)
      | exact ih_shC_no K (by rw [f_copy, if_pos (by omega), if_pos (by omega)]) (ih_sc_r _)
      | exact ih_shC_no K (by rw [f_copy, if_pos (by omega), if_neg (by omega), if_neg (by omega)]) (ih_sc_r _)
      | exact ih_shC_no K (by rw [f_copy, if_pos (by omega), if_neg (by omega), if_pos (by omega), if_neg (by omega)]) (ih_sc_r _)
      | (refine ih_shC_ok K (by rw [f_copy, if_pos (by omega), if_neg (by omega), if_pos (by omega), if_pos (by omega)]) (fun j hj => ?_) (fun j hj => ih_uf_ne (by omega))
         have S1 := S j hj
         have z1 := (SG j hj).2.1
         rw [ih_uf_ne (by omega)]
         refine ⟨S1.1, S1.2.1, fun k hk => ?_⟩
         have e4 := S1.2.2 k hk
         by_cases ej : j = r
         · subst ej
           rw [ih_uf_eq]
           unfold ih_cp g_copy
           by_cases ek : e ≤ (k : Int) ∧ (k : Int) < e + n
           · rw [if_pos ek, if_pos (by omega)]
             have e5 := e3 (b + (k - e)).toNat (by omega)
             rw [show (((b + (k - e)).toNat : Nat) : Int) = b + (k - e) by omega] at e5
             rw [e5]
             exact congrArg nb (by omega)
           · rw [if_neg ek, if_neg (by omega)]
             exact e4
         · rw [ih_uf_ne (by omega), e4, g_copy, if_neg (by omega)])


theorem r_copy_2 {X : List Int} {t : ih_S} {Q : Option xa_V → ih_S → Prop} {q r : Nat} {b e n : Int} (hq : q < 4) (hr : r < 4) (hb : 0 ≤ b) (he : 0 ≤ e) (hn : 0 ≤ n) (h1 : b + n ≤ 40) (h2 : e + n ≤ 40) (K : ∀ t1, (∀ j, j ≠ 120 → t1 j = t j) → t1 120 = (fun x => if 40 * (r : Int) + e ≤ x ∧ x < 40 * r + e + n then t 121 (x - (40 * r + e)) else t 120 x) → Q (some (xI n)) t1) : ∀ (d : Nat) (i : Nat) (t1 : ih_S) (hd : (i : Int) + d = n) (hf : ∀ j, j ≠ 120 → t1 j = t j) (h0 : t1 120 = fun x => if 40 * (r : Int) + e ≤ x ∧ x < 40 * r + e + i then t 121 (x - (40 * r + e)) else t 120 x), ih_Wp X 203 86 [xR 111, xI q, xI b, xI r, xI e, xI n, xI i] [] t1 Q := by
  intro d
  induction d with
  | zero =>
    intro i t1 hd hf h0
    refine ih_seg (i1 := 88) 2 rfl ?_
    refine ih_icmp_ge rfl (by omega) (by omega) (fun w1 => ?_) (fun w1 => ?_)
    · refine ih_seg (i1 := 106) 1 rfl ?_
      refine ih_ret rfl rfl ?_
      obtain rfl : n = i := by omega
      exact K t1 hf h0
    · exfalso
      omega

  | succ d ih =>
    intro i t1 hd hf h0
    refine ih_seg (i1 := 88) 2 rfl ?_
    refine ih_icmp_ge rfl (by omega) (by omega) (fun w1 => ?_) (fun w1 => ?_)
    · refine ih_seg (i1 := 106) 1 rfl ?_
      refine ih_ret rfl rfl ?_
      exfalso
      omega
    · refine ih_seg (i1 := 90) 1 rfl ?_
      refine ih_getR rfl rfl ?_
      refine ih_seg (i1 := 99) 8 rfl ?_
      try dsimp only
      refine ih_getR rfl rfl ?_
      refine ih_seg (i1 := 101) 1 rfl ?_
      refine ih_iald rfl (by first | rfl | exact ih_lP1 (ih_P_w0 hc) | exact ih_lP2 (ih_P_w0 hc) | exact ih_lP3 (ih_P_w0 hc) | exact ih_lP4 (ih_P_w0 hc) |  exact ih_lP1 (by assumption) | exact ih_lP2 (by assumption) | exact ih_lP3 (by assumption) | exact ih_lP4 (by assumption) | exact ih_lC1 (by assumption) | exact ih_lS1 (by assumption) | exact ih_lW1 (by assumption) | exact ih_lW2 (by assumption) | exact ih_lW4 (by assumption) | exact ih_lW5 (by assumption)) (by omega) (by omega) (k := ?_)
      refine ih_iast rfl (by first | rfl | exact ih_lP1 (ih_P_w0 hc) | exact ih_lP2 (ih_P_w0 hc) | exact ih_lP3 (ih_P_w0 hc) | exact ih_lP4 (ih_P_w0 hc) |  exact ih_lP1 (by assumption) | exact ih_lP2 (by assumption) | exact ih_lP3 (by assumption) | exact ih_lP4 (by assumption) | exact ih_lC1 (by assumption) | exact ih_lS1 (by assumption) | exact ih_lW1 (by assumption) | exact ih_lW2 (by assumption) | exact ih_lW4 (by assumption) | exact ih_lW5 (by assumption)) (by omega) (by omega) (k := ?_)
      refine ih_seg (i1 := 86) 2 rfl ?_
      try simp only [xa_set, List.set_cons_zero, List.set_cons_succ, List.getElem?_cons_zero, List.getElem?_cons_succ]
      refine ih (i + 1) _ (by omega) (fun j hj => (ih_up_ne hj).trans (hf j hj)) ?_
      rw [ih_up_eq, h0, hf 121 (by decide)]
      funext x
      simp only [ih_u1x]
      (repeat' split) <;> first | rfl | omega | exact congrArg (t 121) (by omega)


theorem r_copy_1 {X : List Int} {t : ih_S} {Q : Option xa_V → ih_S → Prop} {q r : Nat} {b e n : Int} (hq : q < 4) (hr : r < 4) (hb : 0 ≤ b) (he : 0 ≤ e) (hn : 0 ≤ n) (h1 : b + n ≤ 40) (h2 : e + n ≤ 40) (K : ∀ t1, (∀ j, j ≠ 120 → j ≠ 121 → t1 j = t j) → t1 120 = g_copy (t 120) q b r e n → Q (some (xI n)) t1) : ∀ (d : Nat) (i : Nat) (t1 : ih_S) (hd : (i : Int) + d = n) (hf : ∀ j, j ≠ 121 → t1 j = t j) (h0 : ∀ k : Nat, k < i → t1 121 k = t 120 (40 * q + b + k)), ih_Wp X 203 65 [xR 111, xI q, xI b, xI r, xI e, xI n, xI i] [] t1 Q := by
  intro d
  induction d with
  | zero =>
    intro i t1 hd hf h0
    refine ih_seg (i1 := 67) 2 rfl ?_
    refine ih_icmp_ge rfl (by omega) (by omega) (fun w1 => ?_) (fun w1 => ?_)
    · refine ih_seg (i1 := 86) 2 rfl ?_
      try simp only [xa_set, List.set_cons_zero, List.set_cons_succ, List.getElem?_cons_zero, List.getElem?_cons_succ]
      refine r_copy_2 hq hr hb he hn h1 h2 (fun t2 f1 f2 => ?_) n.toNat 0 t1 (by omega) (fun _ _ => rfl) (by funext x; rw [if_neg (by omega)])
      refine K t2 (fun j j1 j2 => (f1 j j1).trans (hf j j2)) ?_
      rw [f2]
      funext x
      unfold g_copy
      split
      · next hx =>
        have := h0 (x - (40 * r + e)).toNat (by omega)
        rw [show (((x - (40 * r + e)).toNat : Nat) : Int) = x - (40 * r + e) by omega] at this
        exact this
      · rw [hf 120 (by decide)]
    · exfalso
      omega

  | succ d ih =>
    intro i t1 hd hf h0
    refine ih_seg (i1 := 67) 2 rfl ?_
    refine ih_icmp_ge rfl (by omega) (by omega) (fun w1 => ?_) (fun w1 => ?_)
    · refine ih_seg (i1 := 86) 2 rfl ?_
      try simp only [xa_set, List.set_cons_zero, List.set_cons_succ, List.getElem?_cons_zero, List.getElem?_cons_succ]
      exfalso
      omega
    · refine ih_seg (i1 := 69) 1 rfl ?_
      refine ih_getR rfl rfl ?_
      refine ih_seg (i1 := 72) 2 rfl ?_
      refine ih_getR rfl rfl ?_
      refine ih_seg (i1 := 80) 7 rfl ?_
      try dsimp only
      refine ih_iald rfl (by first | rfl | exact ih_lP1 (ih_P_w0 hc) | exact ih_lP2 (ih_P_w0 hc) | exact ih_lP3 (ih_P_w0 hc) | exact ih_lP4 (ih_P_w0 hc) |  exact ih_lP1 (by assumption) | exact ih_lP2 (by assumption) | exact ih_lP3 (by assumption) | exact ih_lP4 (by assumption) | exact ih_lC1 (by assumption) | exact ih_lS1 (by assumption) | exact ih_lW1 (by assumption) | exact ih_lW2 (by assumption) | exact ih_lW4 (by assumption) | exact ih_lW5 (by assumption)) (by omega) (by omega) (k := ?_)
      refine ih_iast rfl (by first | rfl | exact ih_lP1 (ih_P_w0 hc) | exact ih_lP2 (ih_P_w0 hc) | exact ih_lP3 (ih_P_w0 hc) | exact ih_lP4 (ih_P_w0 hc) |  exact ih_lP1 (by assumption) | exact ih_lP2 (by assumption) | exact ih_lP3 (by assumption) | exact ih_lP4 (by assumption) | exact ih_lC1 (by assumption) | exact ih_lS1 (by assumption) | exact ih_lW1 (by assumption) | exact ih_lW2 (by assumption) | exact ih_lW4 (by assumption) | exact ih_lW5 (by assumption)) (by omega) (by omega) (k := ?_)
      refine ih_seg (i1 := 65) 2 rfl ?_
      try simp only [xa_set, List.set_cons_zero, List.set_cons_succ, List.getElem?_cons_zero, List.getElem?_cons_succ]
      refine ih (i + 1) _ (by omega) (fun j hj => (ih_up_ne hj).trans (hf j hj)) (fun k hk => ?_)
      rw [ih_up2]
      split
      · next hx =>
        rw [hf 120 (by decide)]
        exact congrArg (t 120) (by omega)
      · exact h0 k (by omega)


theorem r_op_copy {X : List Int} {t : ih_S} {Q : Option xa_V → ih_S → Prop} {a b d e n : Int} (ha : xa_rI a) (hb : xa_rI b) (hd : xa_rI d) (he : xa_rI e) (hn : xa_rI n) (SG : ih_SG (t 118) (t 119) (t 120)) (K : ih_shR t (f_copy (t 118) (t 119) a b d e n) (t 118) (t 119) (g_copy (t 120) a b d e n) Q) : ih_Wp X 203 0 [xR 111, xI a, xI b, xI d, xI e, xI n, xC 1] [] t Q := by
  refine ih_seg (i1 := 1) 1 rfl ?_
  refine ih_is1 198 rfl rfl (Nat.le_of_ble_eq_true rfl) (Nat.le_of_ble_eq_true rfl) rfl ?_
  refine r_isOne (by omega) (fun w1 => ?_) (fun w2 => ?_)
  · refine ih_seg (i1 := 4) 2 rfl ?_
    refine ih_is1 198 rfl rfl (Nat.le_of_ble_eq_true rfl) (Nat.le_of_ble_eq_true rfl) rfl ?_
    refine r_isOne (by omega) (fun w3 => ?_) (fun w4 => ?_)
    · refine ih_seg (i1 := 10) 1 rfl ?_
      obtain ⟨q, rfl⟩ := Int.eq_ofNat_of_zero_le (show 0 ≤ a by omega)
      have hq : q < 4 := by omega
      obtain ⟨r, rfl⟩ := Int.eq_ofNat_of_zero_le (show 0 ≤ d by omega)
      have hr : r < 4 := by omega
      obtain ⟨g1, g2, g3⟩ := SG q hq
      obtain ⟨j1, j2, j3⟩ := SG r hr
      refine ih_seg (i1 := 11) 1 rfl ?_
      refine ih_getR rfl rfl ?_
      refine ih_seg (i1 := 13) 1 rfl ?_
      refine ih_iald rfl (by first | rfl | exact ih_lP1 (ih_P_w0 hc) | exact ih_lP2 (ih_P_w0 hc) | exact ih_lP3 (ih_P_w0 hc) | exact ih_lP4 (ih_P_w0 hc) |  exact ih_lP1 (by assumption) | exact ih_lP2 (by assumption) | exact ih_lP3 (by assumption) | exact ih_lP4 (by assumption) | exact ih_lC1 (by assumption) | exact ih_lS1 (by assumption) | exact ih_lW1 (by assumption) | exact ih_lW2 (by assumption) | exact ih_lW4 (by assumption) | exact ih_lW5 (by assumption)) (by omega) (by omega) (k := ?_)
      refine ih_ifc_eq rfl (by omega) (fun w5 => ?_) (fun w5 => ?_)
      · refine ih_seg (i1 := 22) 2 rfl ?_
        refine ih_iv1 127 rfl rfl (by first | rfl | exact ih_kP (ih_P_w0 hc) |  exact ih_kP (by assumption) | exact ih_kC (by assumption) | exact ih_kN (by assumption) | exact ih_kS (by assumption) | exact ih_kW (by assumption)) (Nat.le_of_ble_eq_true rfl) (Nat.le_of_ble_eq_true rfl) rfl ?_
        refine r_finds 5 rfl (by omega) ?_
        refine ih_ret rfl rfl ?_
        first
          | exact ih_shR_no 0 K (by rw [f_copy, if_neg (by omega)]) rfl (ih_rr_r _)
          | exact ih_shR_no 5 K (by rw [f_copy, if_pos (by omega), if_pos (by omega)]) rfl (ih_rr_r _)
          | exact ih_shR_no 2 K (by rw [f_copy, if_pos (by omega), if_neg (by omega), if_neg (by omega)]) rfl (ih_rr_r _)
          | exact ih_shR_no 0 K (by rw [f_copy, if_pos (by omega), if_neg (by omega), if_pos (by omega), if_neg (by omega)]) rfl (ih_rr_r _)
          | (refine r_copy_1 hq hr (by omega) (by omega) (by omega) (by omega) (by omega) (fun t1 f1 f2 => ?_) n.toNat 0 t (by omega) (fun _ _ => rfl) (fun k hk => by omega)
             exact ih_shR_ok K (by rw [f_copy, if_pos (by omega), if_neg (by omega), if_pos (by omega), if_pos (by omega)]) (f1 118 (by decide) (by decide)) (f1 119 (by decide) (by decide)) f2 (fun j hj => f1 j (by omega) (by omega)))
      · refine ih_seg (i1 := 16) 1 rfl ?_
        refine ih_getR rfl rfl ?_
        refine ih_seg (i1 := 18) 1 rfl ?_
        refine ih_iald rfl (by first | rfl | exact ih_lP1 (ih_P_w0 hc) | exact ih_lP2 (ih_P_w0 hc) | exact ih_lP3 (ih_P_w0 hc) | exact ih_lP4 (ih_P_w0 hc) |  exact ih_lP1 (by assumption) | exact ih_lP2 (by assumption) | exact ih_lP3 (by assumption) | exact ih_lP4 (by assumption) | exact ih_lC1 (by assumption) | exact ih_lS1 (by assumption) | exact ih_lW1 (by assumption) | exact ih_lW2 (by assumption) | exact ih_lW4 (by assumption) | exact ih_lW5 (by assumption)) (by omega) (by omega) (k := ?_)
        refine ih_ifc_ne rfl (by omega) (fun w6 => ?_) (fun w6 => ?_)
        · refine ih_seg (i1 := 25) 1 rfl ?_
          refine ih_getR rfl rfl ?_
          refine ih_seg (i1 := 27) 1 rfl ?_
          refine ih_iald rfl (by first | rfl | exact ih_lP1 (ih_P_w0 hc) | exact ih_lP2 (ih_P_w0 hc) | exact ih_lP3 (ih_P_w0 hc) | exact ih_lP4 (ih_P_w0 hc) |  exact ih_lP1 (by assumption) | exact ih_lP2 (by assumption) | exact ih_lP3 (by assumption) | exact ih_lP4 (by assumption) | exact ih_lC1 (by assumption) | exact ih_lS1 (by assumption) | exact ih_lW1 (by assumption) | exact ih_lW2 (by assumption) | exact ih_lW4 (by assumption) | exact ih_lW5 (by assumption)) (by omega) (by omega) (k := ?_)
          refine ih_seg (i1 := 29) 1 rfl ?_
          refine ih_getR rfl rfl ?_
          refine ih_seg (i1 := 31) 1 rfl ?_
          refine ih_iald rfl (by first | rfl | exact ih_lP1 (ih_P_w0 hc) | exact ih_lP2 (ih_P_w0 hc) | exact ih_lP3 (ih_P_w0 hc) | exact ih_lP4 (ih_P_w0 hc) |  exact ih_lP1 (by assumption) | exact ih_lP2 (by assumption) | exact ih_lP3 (by assumption) | exact ih_lP4 (by assumption) | exact ih_lC1 (by assumption) | exact ih_lS1 (by assumption) | exact ih_lW1 (by assumption) | exact ih_lW2 (by assumption) | exact ih_lW4 (by assumption) | exact ih_lW5 (by assumption)) (by omega) (by omega) (k := ?_)
          refine ih_icmp_eq rfl (by omega) (by omega) (fun w7 => ?_) (fun w7 => ?_)
          · refine ih_seg (i1 := 38) 1 rfl ?_
            refine ih_ifc_lt rfl (by omega) (fun w8 => ?_) (fun w8 => ?_)
            · refine ih_seg (i1 := 61) 2 rfl ?_
              refine ih_iv1 127 rfl rfl (by first | rfl | exact ih_kP (ih_P_w0 hc) |  exact ih_kP (by assumption) | exact ih_kC (by assumption) | exact ih_kN (by assumption) | exact ih_kS (by assumption) | exact ih_kW (by assumption)) (Nat.le_of_ble_eq_true rfl) (Nat.le_of_ble_eq_true rfl) rfl ?_
              refine r_finds 0 rfl (by omega) ?_
              refine ih_ret rfl rfl ?_
              first
                | exact ih_shR_no 0 K (by rw [f_copy, if_neg (by omega)]) rfl (ih_rr_r _)
                | exact ih_shR_no 5 K (by rw [f_copy, if_pos (by omega), if_pos (by omega)]) rfl (ih_rr_r _)
                | exact ih_shR_no 2 K (by rw [f_copy, if_pos (by omega), if_neg (by omega), if_neg (by omega)]) rfl (ih_rr_r _)
                | exact ih_shR_no 0 K (by rw [f_copy, if_pos (by omega), if_neg (by omega), if_pos (by omega), if_neg (by omega)]) rfl (ih_rr_r _)
                | (refine r_copy_1 hq hr (by omega) (by omega) (by omega) (by omega) (by omega) (fun t1 f1 f2 => ?_) n.toNat 0 t (by omega) (fun _ _ => rfl) (fun k hk => by omega)
                   exact ih_shR_ok K (by rw [f_copy, if_pos (by omega), if_neg (by omega), if_pos (by omega), if_pos (by omega)]) (f1 118 (by decide) (by decide)) (f1 119 (by decide) (by decide)) f2 (fun j hj => f1 j (by omega) (by omega)))
            · refine ih_seg (i1 := 40) 1 rfl ?_
              refine ih_ifc_lt rfl (by omega) (fun w9 => ?_) (fun w9 => ?_)
              · refine ih_seg (i1 := 61) 2 rfl ?_
                refine ih_iv1 127 rfl rfl (by first | rfl | exact ih_kP (ih_P_w0 hc) |  exact ih_kP (by assumption) | exact ih_kC (by assumption) | exact ih_kN (by assumption) | exact ih_kS (by assumption) | exact ih_kW (by assumption)) (Nat.le_of_ble_eq_true rfl) (Nat.le_of_ble_eq_true rfl) rfl ?_
                refine r_finds 0 rfl (by omega) ?_
                refine ih_ret rfl rfl ?_
                first
                  | exact ih_shR_no 0 K (by rw [f_copy, if_neg (by omega)]) rfl (ih_rr_r _)
                  | exact ih_shR_no 5 K (by rw [f_copy, if_pos (by omega), if_pos (by omega)]) rfl (ih_rr_r _)
                  | exact ih_shR_no 2 K (by rw [f_copy, if_pos (by omega), if_neg (by omega), if_neg (by omega)]) rfl (ih_rr_r _)
                  | exact ih_shR_no 0 K (by rw [f_copy, if_pos (by omega), if_neg (by omega), if_pos (by omega), if_neg (by omega)]) rfl (ih_rr_r _)
                  | (refine r_copy_1 hq hr (by omega) (by omega) (by omega) (by omega) (by omega) (fun t1 f1 f2 => ?_) n.toNat 0 t (by omega) (fun _ _ => rfl) (fun k hk => by omega)
                     exact ih_shR_ok K (by rw [f_copy, if_pos (by omega), if_neg (by omega), if_pos (by omega), if_pos (by omega)]) (f1 118 (by decide) (by decide)) (f1 119 (by decide) (by decide)) f2 (fun j hj => f1 j (by omega) (by omega)))
              · refine ih_seg (i1 := 42) 1 rfl ?_
                refine ih_ifc_lt rfl (by omega) (fun w10 => ?_) (fun w10 => ?_)
                · refine ih_seg (i1 := 61) 2 rfl ?_
                  refine ih_iv1 127 rfl rfl (by first | rfl | exact ih_kP (ih_P_w0 hc) |  exact ih_kP (by assumption) | exact ih_kC (by assumption) | exact ih_kN (by assumption) | exact ih_kS (by assumption) | exact ih_kW (by assumption)) (Nat.le_of_ble_eq_true rfl) (Nat.le_of_ble_eq_true rfl) rfl ?_
                  refine r_finds 0 rfl (by omega) ?_
                  refine ih_ret rfl rfl ?_
                  first
                    | exact ih_shR_no 0 K (by rw [f_copy, if_neg (by omega)]) rfl (ih_rr_r _)
                    | exact ih_shR_no 5 K (by rw [f_copy, if_pos (by omega), if_pos (by omega)]) rfl (ih_rr_r _)
                    | exact ih_shR_no 2 K (by rw [f_copy, if_pos (by omega), if_neg (by omega), if_neg (by omega)]) rfl (ih_rr_r _)
                    | exact ih_shR_no 0 K (by rw [f_copy, if_pos (by omega), if_neg (by omega), if_pos (by omega), if_neg (by omega)]) rfl (ih_rr_r _)
                    | (refine r_copy_1 hq hr (by omega) (by omega) (by omega) (by omega) (by omega) (fun t1 f1 f2 => ?_) n.toNat 0 t (by omega) (fun _ _ => rfl) (fun k hk => by omega)
                       exact ih_shR_ok K (by rw [f_copy, if_pos (by omega), if_neg (by omega), if_pos (by omega), if_pos (by omega)]) (f1 118 (by decide) (by decide)) (f1 119 (by decide) (by decide)) f2 (fun j hj => f1 j (by omega) (by omega)))
                · refine ih_seg (i1 := 45) 2 rfl ?_
                  refine ih_getR rfl rfl ?_
                  refine ih_seg (i1 := 47) 1 rfl ?_
                  refine ih_iald rfl (by first | rfl | exact ih_lP1 (ih_P_w0 hc) | exact ih_lP2 (ih_P_w0 hc) | exact ih_lP3 (ih_P_w0 hc) | exact ih_lP4 (ih_P_w0 hc) |  exact ih_lP1 (by assumption) | exact ih_lP2 (by assumption) | exact ih_lP3 (by assumption) | exact ih_lP4 (by assumption) | exact ih_lC1 (by assumption) | exact ih_lS1 (by assumption) | exact ih_lW1 (by assumption) | exact ih_lW2 (by assumption) | exact ih_lW4 (by assumption) | exact ih_lW5 (by assumption)) (by omega) (by omega) (k := ?_)
                  refine ih_seg (i1 := 50) 2 rfl ?_
                  try dsimp only
                  refine ih_icmp_gt rfl (by omega) (by omega) (fun w11 => ?_) (fun w11 => ?_)
                  · refine ih_seg (i1 := 61) 2 rfl ?_
                    refine ih_iv1 127 rfl rfl (by first | rfl | exact ih_kP (ih_P_w0 hc) |  exact ih_kP (by assumption) | exact ih_kC (by assumption) | exact ih_kN (by assumption) | exact ih_kS (by assumption) | exact ih_kW (by assumption)) (Nat.le_of_ble_eq_true rfl) (Nat.le_of_ble_eq_true rfl) rfl ?_
                    refine r_finds 0 rfl (by omega) ?_
                    refine ih_ret rfl rfl ?_
                    first
                      | exact ih_shR_no 0 K (by rw [f_copy, if_neg (by omega)]) rfl (ih_rr_r _)
                      | exact ih_shR_no 5 K (by rw [f_copy, if_pos (by omega), if_pos (by omega)]) rfl (ih_rr_r _)
                      | exact ih_shR_no 2 K (by rw [f_copy, if_pos (by omega), if_neg (by omega), if_neg (by omega)]) rfl (ih_rr_r _)
                      | exact ih_shR_no 0 K (by rw [f_copy, if_pos (by omega), if_neg (by omega), if_pos (by omega), if_neg (by omega)]) rfl (ih_rr_r _)
                      | (refine r_copy_1 hq hr (by omega) (by omega) (by omega) (by omega) (by omega) (fun t1 f1 f2 => ?_) n.toNat 0 t (by omega) (fun _ _ => rfl) (fun k hk => by omega)
                         exact ih_shR_ok K (by rw [f_copy, if_pos (by omega), if_neg (by omega), if_pos (by omega), if_pos (by omega)]) (f1 118 (by decide) (by decide)) (f1 119 (by decide) (by decide)) f2 (fun j hj => f1 j (by omega) (by omega)))
                  · refine ih_seg (i1 := 53) 2 rfl ?_
                    refine ih_getR rfl rfl ?_
                    refine ih_seg (i1 := 55) 1 rfl ?_
                    refine ih_iald rfl (by first | rfl | exact ih_lP1 (ih_P_w0 hc) | exact ih_lP2 (ih_P_w0 hc) | exact ih_lP3 (ih_P_w0 hc) | exact ih_lP4 (ih_P_w0 hc) |  exact ih_lP1 (by assumption) | exact ih_lP2 (by assumption) | exact ih_lP3 (by assumption) | exact ih_lP4 (by assumption) | exact ih_lC1 (by assumption) | exact ih_lS1 (by assumption) | exact ih_lW1 (by assumption) | exact ih_lW2 (by assumption) | exact ih_lW4 (by assumption) | exact ih_lW5 (by assumption)) (by omega) (by omega) (k := ?_)
                    refine ih_seg (i1 := 58) 2 rfl ?_
                    try dsimp only
                    refine ih_icmp_le rfl (by omega) (by omega) (fun w12 => ?_) (fun w12 => ?_)
                    · refine ih_seg (i1 := 65) 2 rfl ?_
                      try simp only [xa_set, List.set_cons_zero, List.set_cons_succ, List.getElem?_cons_zero, List.getElem?_cons_succ]
                      first
                        | exact ih_shR_no 0 K (by rw [f_copy, if_neg (by omega)]) rfl (ih_rr_r _)
                        | exact ih_shR_no 5 K (by rw [f_copy, if_pos (by omega), if_pos (by omega)]) rfl (ih_rr_r _)
                        | exact ih_shR_no 2 K (by rw [f_copy, if_pos (by omega), if_neg (by omega), if_neg (by omega)]) rfl (ih_rr_r _)
                        | exact ih_shR_no 0 K (by rw [f_copy, if_pos (by omega), if_neg (by omega), if_pos (by omega), if_neg (by omega)]) rfl (ih_rr_r _)
                        | (refine r_copy_1 hq hr (by omega) (by omega) (by omega) (by omega) (by omega) (fun t1 f1 f2 => ?_) n.toNat 0 t (by omega) (fun _ _ => rfl) (fun k hk => by omega)
                           exact ih_shR_ok K (by rw [f_copy, if_pos (by omega), if_neg (by omega), if_pos (by omega), if_pos (by omega)]) (f1 118 (by decide) (by decide)) (f1 119 (by decide) (by decide)) f2 (fun j hj => f1 j (by omega) (by omega)))
                    · refine ih_seg (i1 := 61) 2 rfl ?_
                      refine ih_iv1 127 rfl rfl (by first | rfl | exact ih_kP (ih_P_w0 hc) |  exact ih_kP (by assumption) | exact ih_kC (by assumption) | exact ih_kN (by assumption) | exact ih_kS (by assumption) | exact ih_kW (by assumption)) (Nat.le_of_ble_eq_true rfl) (Nat.le_of_ble_eq_true rfl) rfl ?_
                      refine r_finds 0 rfl (by omega) ?_
                      refine ih_ret rfl rfl ?_
                      first
                        | exact ih_shR_no 0 K (by rw [f_copy, if_neg (by omega)]) rfl (ih_rr_r _)
                        | exact ih_shR_no 5 K (by rw [f_copy, if_pos (by omega), if_pos (by omega)]) rfl (ih_rr_r _)
                        | exact ih_shR_no 2 K (by rw [f_copy, if_pos (by omega), if_neg (by omega), if_neg (by omega)]) rfl (ih_rr_r _)
                        | exact ih_shR_no 0 K (by rw [f_copy, if_pos (by omega), if_neg (by omega), if_pos (by omega), if_neg (by omega)]) rfl (ih_rr_r _)
                        | (refine r_copy_1 hq hr (by omega) (by omega) (by omega) (by omega) (by omega) (fun t1 f1 f2 => ?_) n.toNat 0 t (by omega) (fun _ _ => rfl) (fun k hk => by omega)
                           exact ih_shR_ok K (by rw [f_copy, if_pos (by omega), if_neg (by omega), if_pos (by omega), if_pos (by omega)]) (f1 118 (by decide) (by decide)) (f1 119 (by decide) (by decide)) f2 (fun j hj => f1 j (by omega) (by omega)))
          · refine ih_seg (i1 := 35) 2 rfl ?_
            refine ih_iv1 127 rfl rfl (by first | rfl | exact ih_kP (ih_P_w0 hc) |  exact ih_kP (by assumption) | exact ih_kC (by assumption) | exact ih_kN (by assumption) | exact ih_kS (by assumption) | exact ih_kW (by assumption)) (Nat.le_of_ble_eq_true rfl) (Nat.le_of_ble_eq_true rfl) rfl ?_
            refine r_finds 2 rfl (by omega) ?_
            refine ih_ret rfl rfl ?_
            first
              | exact ih_shR_no 0 K (by rw [f_copy, if_neg (by omega)]) rfl (ih_rr_r _)
              | exact ih_shR_no 5 K (by rw [f_copy, if_pos (by omega), if_pos (by omega)]) rfl (ih_rr_r _)
              | exact ih_shR_no 2 K (by rw [f_copy, if_pos (by omega), if_neg (by omega), if_neg (by omega)]) rfl (ih_rr_r _)
              | exact ih_shR_no 0 K (by rw [f_copy, if_pos (by omega), if_neg (by omega), if_pos (by omega), if_neg (by omega)]) rfl (ih_rr_r _)
              | (refine r_copy_1 hq hr (by omega) (by omega) (by omega) (by omega) (by omega) (fun t1 f1 f2 => ?_) n.toNat 0 t (by omega) (fun _ _ => rfl) (fun k hk => by omega)
                 exact ih_shR_ok K (by rw [f_copy, if_pos (by omega), if_neg (by omega), if_pos (by omega), if_pos (by omega)]) (f1 118 (by decide) (by decide)) (f1 119 (by decide) (by decide)) f2 (fun j hj => f1 j (by omega) (by omega)))
        · refine ih_seg (i1 := 22) 2 rfl ?_
          refine ih_iv1 127 rfl rfl (by first | rfl | exact ih_kP (ih_P_w0 hc) |  exact ih_kP (by assumption) | exact ih_kC (by assumption) | exact ih_kN (by assumption) | exact ih_kS (by assumption) | exact ih_kW (by assumption)) (Nat.le_of_ble_eq_true rfl) (Nat.le_of_ble_eq_true rfl) rfl ?_
          refine r_finds 5 rfl (by omega) ?_
          refine ih_ret rfl rfl ?_
          first
            | exact ih_shR_no 0 K (by rw [f_copy, if_neg (by omega)]) rfl (ih_rr_r _)
            | exact ih_shR_no 5 K (by rw [f_copy, if_pos (by omega), if_pos (by omega)]) rfl (ih_rr_r _)
            | exact ih_shR_no 2 K (by rw [f_copy, if_pos (by omega), if_neg (by omega), if_neg (by omega)]) rfl (ih_rr_r _)
            | exact ih_shR_no 0 K (by rw [f_copy, if_pos (by omega), if_neg (by omega), if_pos (by omega), if_neg (by omega)]) rfl (ih_rr_r _)
            | (refine r_copy_1 hq hr (by omega) (by omega) (by omega) (by omega) (by omega) (fun t1 f1 f2 => ?_) n.toNat 0 t (by omega) (fun _ _ => rfl) (fun k hk => by omega)
               exact ih_shR_ok K (by rw [f_copy, if_pos (by omega), if_neg (by omega), if_pos (by omega), if_pos (by omega)]) (f1 118 (by decide) (by decide)) (f1 119 (by decide) (by decide)) f2 (fun j hj => f1 j (by omega) (by omega)))
    · refine ih_seg (i1 := 8) 3 rfl ?_
      refine ih_iv1 127 rfl rfl (by first | rfl | exact ih_kP (ih_P_w0 hc) |  exact ih_kP (by assumption) | exact ih_kC (by assumption) | exact ih_kN (by assumption) | exact ih_kS (by assumption) | exact ih_kW (by assumption)) (Nat.le_of_ble_eq_true rfl) (Nat.le_of_ble_eq_true rfl) rfl ?_
      refine r_finds 0 rfl (by omega) ?_
      refine ih_ret rfl rfl ?_
      first
        | exact ih_shR_no 0 K (by rw [f_copy, if_neg (by omega)]) rfl (ih_rr_r _)
        | exact ih_shR_no 5 K (by rw [f_copy, if_pos (by omega), if_pos (by omega)]) rfl (ih_rr_r _)
        | exact ih_shR_no 2 K (by rw [f_copy, if_pos (by omega), if_neg (by omega), if_neg (by omega)]) rfl (ih_rr_r _)
        | exact ih_shR_no 0 K (by rw [f_copy, if_pos (by omega), if_neg (by omega), if_pos (by omega), if_neg (by omega)]) rfl (ih_rr_r _)
        | (refine r_copy_1 hq hr (by omega) (by omega) (by omega) (by omega) (by omega) (fun t1 f1 f2 => ?_) n.toNat 0 t (by omega) (fun _ _ => rfl) (fun k hk => by omega)
           exact ih_shR_ok K (by rw [f_copy, if_pos (by omega), if_neg (by omega), if_pos (by omega), if_pos (by omega)]) (f1 118 (by decide) (by decide)) (f1 119 (by decide) (by decide)) f2 (fun j hj => f1 j (by omega) (by omega)))
  · refine ih_seg (i1 := 8) 3 rfl ?_
    refine ih_iv1 127 rfl rfl (by first | rfl | exact ih_kP (ih_P_w0 hc) |  exact ih_kP (by assumption) | exact ih_kC (by assumption) | exact ih_kN (by assumption) | exact ih_kS (by assumption) | exact ih_kW (by assumption)) (Nat.le_of_ble_eq_true rfl) (Nat.le_of_ble_eq_true rfl) rfl ?_
    refine r_finds 0 rfl (by omega) ?_
    refine ih_ret rfl rfl ?_
    first
      | exact ih_shR_no 0 K (by rw [f_copy, if_neg (by omega)]) rfl (ih_rr_r _)
      | exact ih_shR_no 5 K (by rw [f_copy, if_pos (by omega), if_pos (by omega)]) rfl (ih_rr_r _)
      | exact ih_shR_no 2 K (by rw [f_copy, if_pos (by omega), if_neg (by omega), if_neg (by omega)]) rfl (ih_rr_r _)
      | exact ih_shR_no 0 K (by rw [f_copy, if_pos (by omega), if_neg (by omega), if_pos (by omega), if_neg (by omega)]) rfl (ih_rr_r _)
      | (refine r_copy_1 hq hr (by omega) (by omega) (by omega) (by omega) (by omega) (fun t1 f1 f2 => ?_) n.toNat 0 t (by omega) (fun _ _ => rfl) (fun k hk => by omega)
         exact ih_shR_ok K (by rw [f_copy, if_pos (by omega), if_neg (by omega), if_pos (by omega), if_pos (by omega)]) (f1 118 (by decide) (by decide)) (f1 119 (by decide) (by decide)) f2 (fun j hj => f1 j (by omega) (by omega)))


def ih_ja (f : Int → Bool) (k : Int) (n : Nat) : Int := if ih_fst f k n < k + n then 1 + ih_fst f k n else 0
theorem ih_ja_e {f : Int → Bool} {k : Int} : ih_ja f k 0 = 0 := by
  rw [ih_ja, if_neg (by rw [ih_fst]; omega)]
theorem ih_ja_y {f : Int → Bool} {k : Int} {n : Nat} (h : f k = true) : ih_ja f k (n + 1) = 1 + k := by
  rw [ih_ja, ih_fst_y h, if_pos (by omega)]
theorem ih_ja_n {f : Int → Bool} {k : Int} {n : Nat} (h : f k = false) : ih_ja f k (n + 1) = ih_ja f (k + 1) n := by
  rw [ih_ja, ih_ja, ih_fst_n h]
  have e : k + ((n + 1 : Nat) : Int) = k + 1 + (n : Int) := by omega
  rw [e]

theorem c_judge_l {X : List Int} {t : ih_S} {Q : Option xa_V → ih_S → Prop} {q c : Nat} {b a h : Int} (hq : q < 4) (hc : c < 4) (G : ih_PG t c) (E : ih_EG t c) (hh : 0 ≤ h ∧ h < 10000) (hz : 0 ≤ t (103 + 2 * q) 2 ∧ t (103 + 2 * q) 2 ≤ 40) (hr : ∀ k : Nat, (k : Int) < t (103 + 2 * q) 2 → xa_rI (t (104 + 2 * q) k))  : ∀ (d : Nat) (k : Nat) (t1 : ih_S) (hd : (k : Int) + d = t (103 + 2 * q) 2) (hf : ih_fr c t t1) (K : ∀ t2, ih_fr c t t2 → Q (some (xI (ih_ja (fun e => decide (9999 < h + e ∨ ih_M t c (h + e) ≠ t (104 + 2 * q) e)) k d))) t2), ih_Wp X 96 35 [xR 0, xI a, xI b, xI h, xR (103 + 2 * q), xR (91 + 3 * c), xI k] [] t1 Q := by
  intro d
  induction d with
  | zero =>
    intro k t1 hd hf K
    have es : t1 (103 + 2 * q) = t (103 + 2 * q) := hf _ (by omega)
    have en : t1 (104 + 2 * q) = t (104 + 2 * q) := hf _ (by omega)
    rw [← es] at hd hz
    refine ih_seg (i1 := 37) 2 rfl ?_
    refine ih_getI rfl (by first | rfl | exact ih_fS2 (by assumption)) ?_
    refine ih_icmp_ge rfl (by omega) (by omega) (fun w1 => ?_) (fun w1 => ?_)
    · refine ih_seg (i1 := 61) 1 rfl ?_
      refine ih_ret rfl rfl ?_
      have := K t1 hf
      rw [ih_ja_e] at this
      exact this
    · exfalso
      omega

  | succ d ih =>
    intro k t1 hd hf K
    have es : t1 (103 + 2 * q) = t (103 + 2 * q) := hf _ (by omega)
    have en : t1 (104 + 2 * q) = t (104 + 2 * q) := hf _ (by omega)
    rw [← es] at hd hz
    have hk : (k : Int) < t (103 + 2 * q) 2 := by rw [← es]; omega
    have hr1 := hr k hk
    have mr := ih_M_rg t c (h + k)
    refine ih_seg (i1 := 37) 2 rfl ?_
    refine ih_getI rfl (by first | rfl | exact ih_fS2 (by assumption)) ?_
    refine ih_icmp_ge rfl (by omega) (by omega) (fun w1 => ?_) (fun w1 => ?_)
    · refine ih_seg (i1 := 61) 1 rfl ?_
      refine ih_ret rfl rfl ?_
      first
        | (have := K _ hf
           rw [ih_ja_y (by rw [decide_eq_true_eq]; omega)] at this
           exact this)
        | (exfalso
           omega)
    · refine ih_seg (i1 := 43) 4 rfl ?_
      try dsimp only
      refine ih_icmp_gt rfl (by omega) (by omega) (fun w2 => ?_) (fun w2 => ?_)
      · refine ih_seg (i1 := 57) 3 rfl ?_
        try dsimp only
        refine ih_ret rfl rfl ?_
        first
          | (have := K _ hf
             rw [ih_ja_y (by rw [decide_eq_true_eq]; omega)] at this
             exact this)
          | (exfalso
             omega)
      · refine ih_seg (i1 := 48) 4 rfl ?_
        try dsimp only
        refine ih_iv1 13 rfl rfl (by first | rfl | exact ih_kP (ih_P_w0 hc) |  exact ih_kP (by assumption) | exact ih_kC (by assumption) | exact ih_kN (by assumption) | exact ih_kS (by assumption) | exact ih_kW (by assumption)) (Nat.le_of_ble_eq_true rfl) (Nat.le_of_ble_eq_true rfl) rfl ?_
        refine c_mean hc G E hf (by omega) (fun t2 hf => ?_)
        refine ih_seg (i1 := 50) 1 rfl ?_
        refine ih_getR rfl (by first | rfl | exact ih_fS0 (by assumption)) ?_
        refine ih_seg (i1 := 52) 1 rfl ?_
        have en : t2 (104 + 2 * q) = t (104 + 2 * q) := hf _ (by omega)
        refine ih_iald rfl (ih_lS1 hq) (by omega) (by omega) (k := ?_)
        rw [en]
        refine ih_icmp_eq rfl (by omega) (by omega) (fun w3 => ?_) (fun w3 => ?_)
        · refine ih_seg (i1 := 35) 2 rfl ?_
          try simp only [xa_set, List.set_cons_zero, List.set_cons_succ, List.getElem?_cons_zero, List.getElem?_cons_succ]
          refine ih (k + 1) _ (by rw [← es]; omega) hf (fun t2 h2 => ?_)
          have := K t2 h2
          rw [ih_ja_n (by rw [decide_eq_false_iff_not]; omega)] at this
          exact this
        · refine ih_seg (i1 := 57) 3 rfl ?_
          try dsimp only
          refine ih_ret rfl rfl ?_
          first
            | (have := K _ hf
               rw [ih_ja_y (by rw [decide_eq_true_eq]; omega)] at this
               exact this)
            | (exfalso
               omega)


theorem c_op_judge {X : List Int} {t : ih_S} {Q : Option xa_V → ih_S → Prop} {s : Int → Int} {bt sz nb : Int → Int} {a b d : Int} (ha : xa_rI a) (hb : xa_rI b) (hd : xa_rI d) (S : ih_SW t bt sz nb) (SG : ih_SG bt sz nb) (W : ih_Wr t 1 s) (G : ih_Gd s) (K : ih_roC t (f_judge s bt sz nb a b d) Q) : ih_Wp X 96 0 [xR 0, xI a, xI b, xI d, xC 1, xC 1, xC 1] [] t Q := by
  refine ih_seg (i1 := 1) 1 rfl ?_
  refine ih_is1 110 rfl rfl (Nat.le_of_ble_eq_true rfl) (Nat.le_of_ble_eq_true rfl) rfl ?_
  refine c_isSheet (by omega) (fun w1 => ?_) (fun w2 => ?_)
  · refine ih_seg (i1 := 7) 1 rfl ?_
    obtain ⟨q, rfl⟩ := Int.eq_ofNat_of_zero_le (show 0 ≤ a by omega)
    have hq : q < 4 := by omega
    obtain ⟨e1, e2, e3⟩ := S q hq
    obtain ⟨g1, g2, g3⟩ := SG q hq
    refine ih_seg (i1 := 8) 1 rfl ?_
    refine ih_getR rfl rfl ?_
    refine ih_seg (i1 := 10) 1 rfl ?_
    refine ih_aald rfl (ih_eS hq) ?_
    refine ih_seg (i1 := 13) 2 rfl ?_
    try simp only [xa_set, List.set_cons_zero, List.set_cons_succ, List.getElem?_cons_zero, List.getElem?_cons_succ]
    refine ih_iv0 31 rfl rfl (by first | rfl | exact ih_kP (ih_P_w0 hc) |  exact ih_kP (by assumption) | exact ih_kC (by assumption) | exact ih_kN (by assumption) | exact ih_kS (by assumption) | exact ih_kW (by assumption)) (Nat.le_of_ble_eq_true rfl) (Nat.le_of_ble_eq_true rfl) rfl ?_
    refine c_isMissing hq (by omega) (fun hm => ?_) (fun hm => ?_)
    · refine ih_seg (i1 := 17) 3 rfl ?_
      refine ih_iv1 102 rfl rfl (by first | rfl | exact ih_kP (ih_P_w0 hc) |  exact ih_kP (by assumption) | exact ih_kC (by assumption) | exact ih_kN (by assumption) | exact ih_kS (by assumption) | exact ih_kW (by assumption)) (Nat.le_of_ble_eq_true rfl) (Nat.le_of_ble_eq_true rfl) rfl ?_
      refine c_finding (by omega) ?_
      refine ih_ret rfl rfl ?_
      first
        | exact ih_roC_no K (by rw [f_judge, if_neg (by omega)]) (ih_sc_r _)
        | exact ih_roC_no K (by rw [f_judge, if_pos (by omega), if_pos (by omega)]) (ih_sc_r _)
        | exact ih_roC_no K (by rw [f_judge, if_pos (by omega), if_neg (by omega), if_neg (by omega)]) (ih_sc_r _)
        | (have f1 : t1 (103 + 2 * q) = t (103 + 2 * q) := hf _ (by omega)
           have f2 : t1 (104 + 2 * q) = t (104 + 2 * q) := hf _ (by omega)
           refine c_judge_l hq hc P1 E1 (by omega) (by rw [f1, e2]; exact g2) (fun k hk => ?_) (sz q).toNat 0 t1 (by rw [f1, e2]; omega) (ih_fr_r _ _) (fun t2 h2 => ?_)
           · rw [f1, e2] at hk
             rw [f2, e3 k hk]
             exact g3 k hk
           · refine ih_roC_ok K ?_ (ih_sc_t (ih_sc_e hc hf) (ih_sc_f hc h2))
             rw [f_judge, if_pos (by omega), if_neg (by omega), if_pos (by omega)]
             have ec : ih_fst (fun e => decide (9999 < d + e ∨ ih_M t1 c (d + e) ≠ t1 (104 + 2 * q) e)) ((0 : Nat) : Int) (sz q).toNat = ih_fst (ih_jd s bt sz nb (c : Int).toNat q d) 0 (sz q).toNat := by
               refine ih_fst_congr (fun x h0 h1 => ?_)
               unfold ih_jd
               rw [ih_M_cM hc P hf he (by omega), ih_cM_rM W G hc, f2, Int.toNat_natCast]
               have := e3 x.toNat (by omega)
               rw [show ((x.toNat : Nat) : Int) = x by omega] at this
               rw [this]
             rw [ih_ja, ec]
             have ez : (((0 : Nat) : Int) + ((sz q).toNat : Int)) = sz q := by omega
             rw [ez])
    · refine ih_seg (i1 := 20) 2 rfl ?_
      refine ih_is1 106 rfl rfl (Nat.le_of_ble_eq_true rfl) (Nat.le_of_ble_eq_true rfl) rfl ?_
      refine c_isPaper (by omega) (fun w3 => ?_) (fun w4 => ?_)
      · refine ih_seg (i1 := 23) 2 rfl ?_
        refine ih_is1 104 rfl rfl (Nat.le_of_ble_eq_true rfl) (Nat.le_of_ble_eq_true rfl) rfl ?_
        refine c_isHour (by omega) (fun w5 => ?_) (fun w6 => ?_)
        · refine ih_seg (i1 := 31) 3 rfl ?_
          refine ih_iv1 116 rfl rfl (by first | rfl | exact ih_kP (ih_P_w0 hc) |  exact ih_kP (by assumption) | exact ih_kC (by assumption) | exact ih_kN (by assumption) | exact ih_kS (by assumption) | exact ih_kW (by assumption)) (Nat.le_of_ble_eq_true rfl) (Nat.le_of_ble_eq_true rfl) rfl ?_
          obtain ⟨c, rfl⟩ := Int.eq_ofNat_of_zero_le (show 0 ≤ b by omega)
          have hc : c < 4 := by omega
          have P := ih_PG_W W G hc
          refine c_reckoned hc P (fun t1 hf he => ?_)
          have E1 := ih_EG_en hc P hf he
          have P1 := P.of hc (fun j hj => hf j (by omega))
          refine ih_seg (i1 := 35) 3 rfl ?_
          try simp only [xa_set, List.set_cons_zero, List.set_cons_succ, List.getElem?_cons_zero, List.getElem?_cons_succ]
          first
            | exact ih_roC_no K (by rw [f_judge, if_neg (by omega)]) (ih_sc_r _)
            | exact ih_roC_no K (by rw [f_judge, if_pos (by omega), if_pos (by omega)]) (ih_sc_r _)
            | exact ih_roC_no K (by rw [f_judge, if_pos (by omega), if_neg (by omega), if_neg (by omega)]) (ih_sc_r _)
            | (have f1 : t1 (103 + 2 * q) = t (103 + 2 * q) := hf _ (by omega)
               have f2 : t1 (104 + 2 * q) = t (104 + 2 * q) := hf _ (by omega)
               refine c_judge_l hq hc P1 E1 (by omega) (by rw [f1, e2]; exact g2) (fun k hk => ?_) (sz q).toNat 0 t1 (by rw [f1, e2]; omega) (ih_fr_r _ _) (fun t2 h2 => ?_)
               · rw [f1, e2] at hk
                 rw [f2, e3 k hk]
                 exact g3 k hk
               · refine ih_roC_ok K ?_ (ih_sc_t (ih_sc_e hc hf) (ih_sc_f hc h2))
                 rw [f_judge, if_pos (by omega), if_neg (by omega), if_pos (by omega)]
                 have ec : ih_fst (fun e => decide (9999 < d + e ∨ ih_M t1 c (d + e) ≠ t1 (104 + 2 * q) e)) ((0 : Nat) : Int) (sz q).toNat = ih_fst (ih_jd s bt sz nb (c : Int).toNat q d) 0 (sz q).toNat := by
                   refine ih_fst_congr (fun x h0 h1 => ?_)
                   unfold ih_jd
                   rw [ih_M_cM hc P hf he (by omega), ih_cM_rM W G hc, f2, Int.toNat_natCast]
                   have := e3 x.toNat (by omega)
                   rw [show ((x.toNat : Nat) : Int) = x by omega] at this
                   rw [this]
                 rw [ih_ja, ec]
                 have ez : (((0 : Nat) : Int) + ((sz q).toNat : Int)) = sz q := by omega
                 rw [ez])
        · refine ih_seg (i1 := 27) 3 rfl ?_
          refine ih_iv1 102 rfl rfl (by first | rfl | exact ih_kP (ih_P_w0 hc) |  exact ih_kP (by assumption) | exact ih_kC (by assumption) | exact ih_kN (by assumption) | exact ih_kS (by assumption) | exact ih_kW (by assumption)) (Nat.le_of_ble_eq_true rfl) (Nat.le_of_ble_eq_true rfl) rfl ?_
          refine c_finding (by omega) ?_
          refine ih_ret rfl rfl ?_
          first
            | exact ih_roC_no K (by rw [f_judge, if_neg (by omega)]) (ih_sc_r _)
            | exact ih_roC_no K (by rw [f_judge, if_pos (by omega), if_pos (by omega)]) (ih_sc_r _)
            | exact ih_roC_no K (by rw [f_judge, if_pos (by omega), if_neg (by omega), if_neg (by omega)]) (ih_sc_r _)
            | (have f1 : t1 (103 + 2 * q) = t (103 + 2 * q) := hf _ (by omega)
               have f2 : t1 (104 + 2 * q) = t (104 + 2 * q) := hf _ (by omega)
               refine c_judge_l hq hc P1 E1 (by omega) (by rw [f1, e2]; exact g2) (fun k hk => ?_) (sz q).toNat 0 t1 (by rw [f1, e2]; omega) (ih_fr_r _ _) (fun t2 h2 => ?_)
               · rw [f1, e2] at hk
                 rw [f2, e3 k hk]
                 exact g3 k hk
               · refine ih_roC_ok K ?_ (ih_sc_t (ih_sc_e hc hf) (ih_sc_f hc h2))
                 rw [f_judge, if_pos (by omega), if_neg (by omega), if_pos (by omega)]
                 have ec : ih_fst (fun e => decide (9999 < d + e ∨ ih_M t1 c (d + e) ≠ t1 (104 + 2 * q) e)) ((0 : Nat) : Int) (sz q).toNat = ih_fst (ih_jd s bt sz nb (c : Int).toNat q d) 0 (sz q).toNat := by
                   refine ih_fst_congr (fun x h0 h1 => ?_)
                   unfold ih_jd
                   rw [ih_M_cM hc P hf he (by omega), ih_cM_rM W G hc, f2, Int.toNat_natCast]
                   have := e3 x.toNat (by omega)
                   rw [show ((x.toNat : Nat) : Int) = x by omega] at this
                   rw [this]
                 rw [ih_ja, ec]
                 have ez : (((0 : Nat) : Int) + ((sz q).toNat : Int)) = sz q := by omega
                 rw [ez])
      · refine ih_seg (i1 := 27) 3 rfl ?_
        refine ih_iv1 102 rfl rfl (by first | rfl | exact ih_kP (ih_P_w0 hc) |  exact ih_kP (by assumption) | exact ih_kC (by assumption) | exact ih_kN (by assumption) | exact ih_kS (by assumption) | exact ih_kW (by assumption)) (Nat.le_of_ble_eq_true rfl) (Nat.le_of_ble_eq_true rfl) rfl ?_
        refine c_finding (by omega) ?_
        refine ih_ret rfl rfl ?_
        first
          | exact ih_roC_no K (by rw [f_judge, if_neg (by omega)]) (ih_sc_r _)
          | exact ih_roC_no K (by rw [f_judge, if_pos (by omega), if_pos (by omega)]) (ih_sc_r _)
          | exact ih_roC_no K (by rw [f_judge, if_pos (by omega), if_neg (by omega), if_neg (by omega)]) (ih_sc_r _)
          | (have f1 : t1 (103 + 2 * q) = t (103 + 2 * q) := hf _ (by omega)
             have f2 : t1 (104 + 2 * q) = t (104 + 2 * q) := hf _ (by omega)
             refine c_judge_l hq hc P1 E1 (by omega) (by rw [f1, e2]; exact g2) (fun k hk => ?_) (sz q).toNat 0 t1 (by rw [f1, e2]; omega) (ih_fr_r _ _) (fun t2 h2 => ?_)
             · rw [f1, e2] at hk
               rw [f2, e3 k hk]
               exact g3 k hk
             · refine ih_roC_ok K ?_ (ih_sc_t (ih_sc_e hc hf) (ih_sc_f hc h2))
               rw [f_judge, if_pos (by omega), if_neg (by omega), if_pos (by omega)]
               have ec : ih_fst (fun e => decide (9999 < d + e ∨ ih_M t1 c (d + e) ≠ t1 (104 + 2 * q) e)) ((0 : Nat) : Int) (sz q).toNat = ih_fst (ih_jd s bt sz nb (c : Int).toNat q d) 0 (sz q).toNat := by
                 refine ih_fst_congr (fun x h0 h1 => ?_)
                 unfold ih_jd
                 rw [ih_M_cM hc P hf he (by omega), ih_cM_rM W G hc, f2, Int.toNat_natCast]
                 have := e3 x.toNat (by omega)
                 rw [show ((x.toNat : Nat) : Int) = x by omega] at this
                 rw [this]
               rw [ih_ja, ec]
               have ez : (((0 : Nat) : Int) + ((sz q).toNat : Int)) = sz q := by omega
               rw [ez])
  · refine ih_seg (i1 := 5) 3 rfl ?_
    refine ih_iv1 102 rfl rfl (by first | rfl | exact ih_kP (ih_P_w0 hc) |  exact ih_kP (by assumption) | exact ih_kC (by assumption) | exact ih_kN (by assumption) | exact ih_kS (by assumption) | exact ih_kW (by assumption)) (Nat.le_of_ble_eq_true rfl) (Nat.le_of_ble_eq_true rfl) rfl ?_
    refine c_finding (by omega) ?_
    refine ih_ret rfl rfl ?_
    first
      | exact ih_roC_no K (by rw [f_judge, if_neg (by omega)]) (ih_sc_r _)
      | exact ih_roC_no K (by rw [f_judge, if_pos (by omega), if_pos (by omega)]) (ih_sc_r _)
      | exact ih_roC_no K (by rw [f_judge, if_pos (by omega), if_neg (by omega), if_neg (by omega)]) (ih_sc_r _)
      | (have f1 : t1 (103 + 2 * q) = t (103 + 2 * q) := hf _ (by omega)
         have f2 : t1 (104 + 2 * q) = t (104 + 2 * q) := hf _ (by omega)
         refine c_judge_l hq hc P1 E1 (by omega) (by rw [f1, e2]; exact g2) (fun k hk => ?_) (sz q).toNat 0 t1 (by rw [f1, e2]; omega) (ih_fr_r _ _) (fun t2 h2 => ?_)
         · rw [f1, e2] at hk
           rw [f2, e3 k hk]
           exact g3 k hk
         · refine ih_roC_ok K ?_ (ih_sc_t (ih_sc_e hc hf) (ih_sc_f hc h2))
           rw [f_judge, if_pos (by omega), if_neg (by omega), if_pos (by omega)]
           have ec : ih_fst (fun e => decide (9999 < d + e ∨ ih_M t1 c (d + e) ≠ t1 (104 + 2 * q) e)) ((0 : Nat) : Int) (sz q).toNat = ih_fst (ih_jd s bt sz nb (c : Int).toNat q d) 0 (sz q).toNat := by
             refine ih_fst_congr (fun x h0 h1 => ?_)
             unfold ih_jd
             rw [ih_M_cM hc P hf he (by omega), ih_cM_rM W G hc, f2, Int.toNat_natCast]
             have := e3 x.toNat (by omega)
             rw [show ((x.toNat : Nat) : Int) = x by omega] at this
             rw [this]
           rw [ih_ja, ec]
           have ez : (((0 : Nat) : Int) + ((sz q).toNat : Int)) = sz q := by omega
           rw [ez])


theorem r_judge_l {X : List Int} {t : ih_S} {Q : Option xa_V → ih_S → Prop} {q p : Nat} {h : Int} {x : Int} (hq : q < 4) (hp : p < 4) (G : ih_Gd (t 112)) (hh : 0 ≤ h ∧ h < 10000) (hz : 0 ≤ t 119 q ∧ t 119 q ≤ 40) (hr : ∀ k : Nat, (k : Int) < t 119 q → xa_rI (t 120 (40 * q + k)))  : ∀ (d : Nat) (k : Nat) (t1 : ih_S) (hd : (k : Int) + d = t 119 q) (hf : ih_rf t t1) (K : ∀ t2, ih_rf t t2 → Q (some (xI (ih_ja (fun e => decide (9999 < h + e ∨ ih_rM (t 112) p (h + e) ≠ t 120 (40 * q + e))) k d))) t2), ih_Wp X 205 22 [xR 111, xI q, xI p, xI h, xI x, xI k] [] t1 Q := by
  intro d
  induction d with
  | zero =>
    intro k t1 hd hf K
    have es := ih_rf_s hf
    have e9 : t1 119 = t 119 := hf.1 119 (by decide)
    have e0 : t1 120 = t 120 := hf.1 120 (by decide)
    rw [← e9] at hd hz
    refine ih_seg (i1 := 24) 2 rfl ?_
    refine ih_getR rfl rfl ?_
    refine ih_seg (i1 := 26) 1 rfl ?_
    refine ih_iald rfl (by first | rfl | exact ih_lP1 (ih_P_w0 hc) | exact ih_lP2 (ih_P_w0 hc) | exact ih_lP3 (ih_P_w0 hc) | exact ih_lP4 (ih_P_w0 hc) |  exact ih_lP1 (by assumption) | exact ih_lP2 (by assumption) | exact ih_lP3 (by assumption) | exact ih_lP4 (by assumption) | exact ih_lC1 (by assumption) | exact ih_lS1 (by assumption) | exact ih_lW1 (by assumption) | exact ih_lW2 (by assumption) | exact ih_lW4 (by assumption) | exact ih_lW5 (by assumption)) (by omega) (by omega) (k := ?_)
    refine ih_icmp_ge rfl (by omega) (by omega) (fun w1 => ?_) (fun w1 => ?_)
    · refine ih_seg (i1 := 55) 1 rfl ?_
      refine ih_ret rfl rfl ?_
      have := K t1 hf
      rw [ih_ja_e] at this
      exact this
    · exfalso
      omega

  | succ d ih =>
    intro k t1 hd hf K
    have es := ih_rf_s hf
    have e9 : t1 119 = t 119 := hf.1 119 (by decide)
    have e0 : t1 120 = t 120 := hf.1 120 (by decide)
    rw [← e9] at hd hz
    have hk : (k : Int) < t 119 q := by rw [← e9]; omega
    have hr1 := hr k hk
    have mr := ih_rM_rg (t 112) p (h + k)
    refine ih_seg (i1 := 24) 2 rfl ?_
    refine ih_getR rfl rfl ?_
    refine ih_seg (i1 := 26) 1 rfl ?_
    refine ih_iald rfl (by first | rfl | exact ih_lP1 (ih_P_w0 hc) | exact ih_lP2 (ih_P_w0 hc) | exact ih_lP3 (ih_P_w0 hc) | exact ih_lP4 (ih_P_w0 hc) |  exact ih_lP1 (by assumption) | exact ih_lP2 (by assumption) | exact ih_lP3 (by assumption) | exact ih_lP4 (by assumption) | exact ih_lC1 (by assumption) | exact ih_lS1 (by assumption) | exact ih_lW1 (by assumption) | exact ih_lW2 (by assumption) | exact ih_lW4 (by assumption) | exact ih_lW5 (by assumption)) (by omega) (by omega) (k := ?_)
    refine ih_icmp_ge rfl (by omega) (by omega) (fun w1 => ?_) (fun w1 => ?_)
    · refine ih_seg (i1 := 55) 1 rfl ?_
      refine ih_ret rfl rfl ?_
      first
        | (have := K _ hf2
           rw [ih_ja_y (by rw [decide_eq_true_eq]; omega)] at this
           exact this)
        | (have := K _ hf
           rw [ih_ja_y (by rw [decide_eq_true_eq]; omega)] at this
           exact this)
        | (exfalso
           omega)
    · refine ih_seg (i1 := 32) 4 rfl ?_
      try dsimp only
      refine ih_icmp_gt rfl (by omega) (by omega) (fun w2 => ?_) (fun w2 => ?_)
      · refine ih_seg (i1 := 51) 3 rfl ?_
        try dsimp only
        refine ih_ret rfl rfl ?_
        first
          | (have := K _ hf2
             rw [ih_ja_y (by rw [decide_eq_true_eq]; omega)] at this
             exact this)
          | (have := K _ hf
             rw [ih_ja_y (by rw [decide_eq_true_eq]; omega)] at this
             exact this)
          | (exfalso
             omega)
      · refine ih_seg (i1 := 34) 1 rfl ?_
        refine ih_getR rfl rfl ?_
        refine ih_seg (i1 := 40) 5 rfl ?_
        try dsimp only
        refine ih_iald rfl (by first | rfl | exact ih_lP1 (ih_P_w0 hc) | exact ih_lP2 (ih_P_w0 hc) | exact ih_lP3 (ih_P_w0 hc) | exact ih_lP4 (ih_P_w0 hc) |  exact ih_lP1 (by assumption) | exact ih_lP2 (by assumption) | exact ih_lP3 (by assumption) | exact ih_lP4 (by assumption) | exact ih_lC1 (by assumption) | exact ih_lS1 (by assumption) | exact ih_lW1 (by assumption) | exact ih_lW2 (by assumption) | exact ih_lW4 (by assumption) | exact ih_lW5 (by assumption)) (by omega) (by omega) (k := ?_)
        refine ih_seg (i1 := 46) 5 rfl ?_
        try dsimp only
        refine ih_iv2 157 rfl rfl (by first | rfl | exact ih_kP (ih_P_w0 hc) |  exact ih_kP (by assumption) | exact ih_kC (by assumption) | exact ih_kN (by assumption) | exact ih_kS (by assumption) | exact ih_kW (by assumption)) (Nat.le_of_ble_eq_true rfl) (Nat.le_of_ble_eq_true rfl) rfl ?_
        rw [e0]
        refine r_meansAt hp (G.pap p hp) hf (by omega) (fun t2 hf2 => ?_)
        refine ih_icmp_eq rfl (by omega) (by omega) (fun w3 => ?_) (fun w3 => ?_)
        · refine ih_seg (i1 := 22) 2 rfl ?_
          try simp only [xa_set, List.set_cons_zero, List.set_cons_succ, List.getElem?_cons_zero, List.getElem?_cons_succ]
          refine ih (k + 1) _ (by rw [← e9]; omega) hf2 (fun t3 h3 => ?_)
          have := K t3 h3
          rw [ih_ja_n (by rw [decide_eq_false_iff_not]; omega)] at this
          exact this
        · refine ih_seg (i1 := 51) 3 rfl ?_
          try dsimp only
          refine ih_ret rfl rfl ?_
          first
            | (have := K _ hf2
               rw [ih_ja_y (by rw [decide_eq_true_eq]; omega)] at this
               exact this)
            | (have := K _ hf
               rw [ih_ja_y (by rw [decide_eq_true_eq]; omega)] at this
               exact this)
            | (exfalso
               omega)


theorem r_op_judge {X : List Int} {t : ih_S} {Q : Option xa_V → ih_S → Prop} {a b d : Int} (ha : xa_rI a) (hb : xa_rI b) (hd : xa_rI d) (G : ih_Gd (t 112)) (SG : ih_SG (t 118) (t 119) (t 120)) (K : ih_roR t (f_judge (t 112) (t 118) (t 119) (t 120) a b d) Q) : ih_Wp X 205 0 [xR 111, xI a, xI b, xI d, xC 1, xC 1] [] t Q := by
  refine ih_seg (i1 := 2) 2 rfl ?_
  refine ih_iv1 201 rfl rfl (by first | rfl | exact ih_kP (ih_P_w0 hc) |  exact ih_kP (by assumption) | exact ih_kC (by assumption) | exact ih_kN (by assumption) | exact ih_kS (by assumption) | exact ih_kW (by assumption)) (Nat.le_of_ble_eq_true rfl) (Nat.le_of_ble_eq_true rfl) rfl ?_
  refine r_wrong (by omega) SG ?_
  have hw : ((if 0 ≤ a ∧ a < 4 then (if t 118 a = 0 then -1000006 else 0) else -1000001) = (-1000001 : Int) ∧ ¬ (0 ≤ a ∧ a < 4)) ∨ ((if 0 ≤ a ∧ a < 4 then (if t 118 a = 0 then -1000006 else 0) else -1000001) = (-1000006 : Int) ∧ (0 ≤ a ∧ a < 4) ∧ t 118 a = 0) ∨ ((if 0 ≤ a ∧ a < 4 then (if t 118 a = 0 then -1000006 else 0) else -1000001) = (0 : Int) ∧ (0 ≤ a ∧ a < 4) ∧ t 118 a ≠ 0) := by
    split
    · split <;> omega
    · omega
  generalize (if 0 ≤ a ∧ a < 4 then (if t 118 a = 0 then -1000006 else 0) else -1000001 : Int) = wv at hw ⊢
  refine ih_seg (i1 := 5) 2 rfl ?_
  try simp only [xa_set, List.set_cons_zero, List.set_cons_succ, List.getElem?_cons_zero, List.getElem?_cons_succ]
  refine ih_ifc_eq rfl (by omega) (fun w1 => ?_) (fun w1 => ?_)
  · obtain ⟨q, rfl⟩ := Int.eq_ofNat_of_zero_le (show 0 ≤ a by omega)
    have hq : q < 4 := by omega
    obtain ⟨g1, g2, g3⟩ := SG q hq
    refine ih_seg (i1 := 11) 1 rfl ?_
    refine ih_is1 128 rfl rfl (Nat.le_of_ble_eq_true rfl) (Nat.le_of_ble_eq_true rfl) rfl ?_
    refine r_isPaper (by omega) (fun w2 => ?_) (fun w3 => ?_)
    · refine ih_seg (i1 := 14) 2 rfl ?_
      refine ih_is1 130 rfl rfl (Nat.le_of_ble_eq_true rfl) (Nat.le_of_ble_eq_true rfl) rfl ?_
      refine r_isHour (by omega) (fun w4 => ?_) (fun w5 => ?_)
      · refine ih_seg (i1 := 22) 3 rfl ?_
        try simp only [xa_set, List.set_cons_zero, List.set_cons_succ, List.getElem?_cons_zero, List.getElem?_cons_succ]
        first
          | exact ih_roR_no 0 K (by rw [f_judge, if_pos (by omega), if_neg (by omega), if_neg (by omega)]) rfl (ih_rr_r _)
          | (obtain ⟨p, rfl⟩ := Int.eq_ofNat_of_zero_le (show 0 ≤ b by omega)
             have hp : p < 4 := by omega
             refine r_judge_l hq hp G (by omega) g2 g3 (t 119 q).toNat 0 t (by omega) (ih_rf_r t) (fun t2 h2 => ?_)
             refine ih_roR_ok K ?_ (ih_rr_f h2)
             rw [f_judge, if_pos (by omega), if_neg (by omega), if_pos (by omega), Int.toNat_natCast, ih_ja]
             have ez : (((0 : Nat) : Int) + ((t 119 q).toNat : Int)) = t 119 q := by omega
             rw [ez]
             rfl)
      · refine ih_seg (i1 := 18) 3 rfl ?_
        refine ih_iv1 127 rfl rfl (by first | rfl | exact ih_kP (ih_P_w0 hc) |  exact ih_kP (by assumption) | exact ih_kC (by assumption) | exact ih_kN (by assumption) | exact ih_kS (by assumption) | exact ih_kW (by assumption)) (Nat.le_of_ble_eq_true rfl) (Nat.le_of_ble_eq_true rfl) rfl ?_
        refine r_finds 0 rfl (by omega) ?_
        refine ih_ret rfl rfl ?_
        first
          | exact ih_roR_no 0 K (by rw [f_judge, if_pos (by omega), if_neg (by omega), if_neg (by omega)]) rfl (ih_rr_r _)
          | (obtain ⟨p, rfl⟩ := Int.eq_ofNat_of_zero_le (show 0 ≤ b by omega)
             have hp : p < 4 := by omega
             refine r_judge_l hq hp G (by omega) g2 g3 (t 119 q).toNat 0 t (by omega) (ih_rf_r t) (fun t2 h2 => ?_)
             refine ih_roR_ok K ?_ (ih_rr_f h2)
             rw [f_judge, if_pos (by omega), if_neg (by omega), if_pos (by omega), Int.toNat_natCast, ih_ja]
             have ez : (((0 : Nat) : Int) + ((t 119 q).toNat : Int)) = t 119 q := by omega
             rw [ez]
             rfl)
    · refine ih_seg (i1 := 18) 3 rfl ?_
      refine ih_iv1 127 rfl rfl (by first | rfl | exact ih_kP (ih_P_w0 hc) |  exact ih_kP (by assumption) | exact ih_kC (by assumption) | exact ih_kN (by assumption) | exact ih_kS (by assumption) | exact ih_kW (by assumption)) (Nat.le_of_ble_eq_true rfl) (Nat.le_of_ble_eq_true rfl) rfl ?_
      refine r_finds 0 rfl (by omega) ?_
      refine ih_ret rfl rfl ?_
      first
        | exact ih_roR_no 0 K (by rw [f_judge, if_pos (by omega), if_neg (by omega), if_neg (by omega)]) rfl (ih_rr_r _)
        | (obtain ⟨p, rfl⟩ := Int.eq_ofNat_of_zero_le (show 0 ≤ b by omega)
           have hp : p < 4 := by omega
           refine r_judge_l hq hp G (by omega) g2 g3 (t 119 q).toNat 0 t (by omega) (ih_rf_r t) (fun t2 h2 => ?_)
           refine ih_roR_ok K ?_ (ih_rr_f h2)
           rw [f_judge, if_pos (by omega), if_neg (by omega), if_pos (by omega), Int.toNat_natCast, ih_ja]
           have ez : (((0 : Nat) : Int) + ((t 119 q).toNat : Int)) = t 119 q := by omega
           rw [ez]
           rfl)
  · refine ih_seg (i1 := 8) 2 rfl ?_
    refine ih_iv1 127 rfl rfl (by first | rfl | exact ih_kP (ih_P_w0 hc) |  exact ih_kP (by assumption) | exact ih_kC (by assumption) | exact ih_kN (by assumption) | exact ih_kS (by assumption) | exact ih_kW (by assumption)) (Nat.le_of_ble_eq_true rfl) (Nat.le_of_ble_eq_true rfl) rfl ?_
    rcases hw with ⟨rfl, h2⟩ | ⟨rfl, h2, h3⟩ | ⟨rfl, h2, h3⟩
    · refine r_finds 0 rfl (by omega) ?_
      refine ih_ret rfl rfl ?_
      exact ih_roR_no 0 K (by rw [f_judge, if_neg (by omega)]) rfl (ih_rr_r _)
    · refine r_finds 5 rfl (by omega) ?_
      refine ih_ret rfl rfl ?_
      exact ih_roR_no 5 K (by rw [f_judge, if_pos (by omega), if_pos (by omega)]) rfl (ih_rr_r _)
    · exfalso
      omega


def ih_mn (v : Int) : Prop := 0 ≤ v ∧ v ≤ 63 ∧ v % 10 ≤ 3
def ih_ldr (p : Nat) (ink : Int) (f : Int → Int) : Nat → Int → (Int → Int) → (Int → Int) × Int
  | 0, k, s => (s, k)
  | n + 1, k, s => if s (22 + p) = 12 ∨ ¬ (0 ≤ f k ∧ f k ≤ 63 ∧ f k % 10 ≤ 3) then (s, k) else ih_ldr p ink f n (k + 1) (ih_nm s p (f k / 10) (f k % 10) ink)
theorem ih_ldr_y {p : Nat} {ink : Int} {f : Int → Int} {n : Nat} {k : Int} {s : Int → Int} (h : s (22 + p) = 12 ∨ ¬ (0 ≤ f k ∧ f k ≤ 63 ∧ f k % 10 ≤ 3)) : ih_ldr p ink f (n + 1) k s = (s, k) := if_pos h
theorem ih_ldr_n {p : Nat} {ink : Int} {f : Int → Int} {n : Nat} {k : Int} {s : Int → Int} (h : ¬ (s (22 + p) = 12 ∨ ¬ (0 ≤ f k ∧ f k ≤ 63 ∧ f k % 10 ≤ 3))) : ih_ldr p ink f (n + 1) k s = ih_ldr p ink f n (k + 1) (ih_nm s p (f k / 10) (f k % 10) ink) := if_neg h
theorem ih_ldr_G {p : Nat} {ink : Int} {f : Int → Int} (hp : p < 4) (hi : 0 ≤ ink ∧ ink < 8) : ∀ (n : Nat) (k : Int) (s : Int → Int), ih_Gd s → ih_Gd (ih_ldr p ink f n k s).1
  | 0, k, s, G => G
  | n + 1, k, s, G => by
    by_cases h : s (22 + p) = 12 ∨ ¬ (0 ≤ f k ∧ f k ≤ 63 ∧ f k % 10 ≤ 3)
    · rw [ih_ldr_y h]
      exact G
    · rw [ih_ldr_n h]
      have z := (G.pap p hp).sz
      exact ih_ldr_G hp hi n (k + 1) _ (ih_Gu_nm hp (by omega) (by omega) (by omega) hi G)
def f_load (s bt sz nb : Int → Int) (a b d : Int) : ih_An := if 0 ≤ a ∧ a < 4 then (if bt a = 0 then ih_no 5 else if (0 ≤ b ∧ b < 4) ∧ 0 ≤ d ∧ d < 8 then ih_ok1 (ih_ldr b.toNat d (fun k => nb (40 * a + k)) (sz a).toNat 0 s).2 else ih_no 0) else ih_no 0
def g_load (s sz nb : Int → Int) (a b d : Int) : Int → Int := (ih_ldr b.toNat d (fun k => nb (40 * a + k)) (sz a).toNat 0 s).1

theorem c_isMarkNumber {X : List Int} {t : ih_S} {Q : Option xa_V → ih_S → Prop} {v : Int} (hv : xa_rI v) (kt : 0 ≤ v ∧ v ≤ 63 ∧ v % 10 ≤ 3 → Q (some (xI 1)) t) (kf : ¬ (0 ≤ v ∧ v ≤ 63 ∧ v % 10 ≤ 3) → Q (some (xI 0)) t) : ih_Wp X 112 0 [xI v] [] t Q := by
  refine ih_seg (i1 := 1) 1 rfl ?_
  refine ih_ifc_lt rfl (by omega) (fun w1 => ?_) (fun w1 => ?_)
  · refine ih_seg (i1 := 15) 1 rfl ?_
    refine ih_ret rfl rfl ?_
    first | exact kt (by omega) | exact kf (by omega)
  · refine ih_seg (i1 := 4) 2 rfl ?_
    refine ih_idiv0 rfl (by omega) (by omega) ?_
    refine ih_is1 107 rfl rfl (Nat.le_of_ble_eq_true rfl) (Nat.le_of_ble_eq_true rfl) rfl ?_
    refine c_isKind (by omega) (fun w2 => ?_) (fun w3 => ?_)
    · refine ih_seg (i1 := 9) 3 rfl ?_
      refine ih_irem0 rfl (by omega) (by omega) ?_
      refine ih_is1 108 rfl rfl (Nat.le_of_ble_eq_true rfl) (Nat.le_of_ble_eq_true rfl) rfl ?_
      refine c_isLetter (by omega) (fun w4 => ?_) (fun w5 => ?_)
      · refine ih_seg (i1 := 15) 3 rfl ?_
        refine ih_ret rfl rfl ?_
        first | exact kt (by omega) | exact kf (by omega)
      · refine ih_seg (i1 := 15) 2 rfl ?_
        refine ih_ret rfl rfl ?_
        first | exact kt (by omega) | exact kf (by omega)
    · refine ih_seg (i1 := 15) 2 rfl ?_
      refine ih_ret rfl rfl ?_
      first | exact kt (by omega) | exact kf (by omega)


theorem c_load_l {X : List Int} {t : ih_S} {Q : Option xa_V → ih_S → Prop} {bt sz nb : Int → Int} {q c : Nat} {b a d0 : Int} (hq : q < 4) (hc : c < 4) (hi : 0 ≤ d0 ∧ d0 < 8) (S : ih_SW t bt sz nb) (SG : ih_SG bt sz nb)  : ∀ (d : Nat) (k : Nat) (x : xa_V) (t1 : ih_S) (s : Int → Int) (W : ih_Wr t1 1 s) (G : ih_Gd s) (hd : (k : Int) + d = sz q) (hf : ih_cf t t1) (K : ∀ t2, ih_Wr t2 1 (ih_ldr c d0 (fun k => nb (40 * q + k)) d k s).1 → ih_cf t t2 → Q (some (xI (ih_ldr c d0 (fun k => nb (40 * q + k)) d k s).2)) t2), ih_Wp X 95 37 [xR 0, xI a, xI b, xI d0, xR (103 + 2 * q), xR (7 + 5 * c), xI k, x] [] t1 Q := by
  intro d
  induction d with
  | zero =>
    intro k x t1 s W G hd hf K
    have S1 := ih_SW_of S (fun j h0 h1 => hf j (by omega))
    obtain ⟨e1, e2, e3⟩ := S1 q hq
    obtain ⟨g1, g2, g3⟩ := SG q hq
    have P := ih_PG_W W G hc
    have z := P.sz
    have ez := ih_W_sz W hc
    refine ih_seg (i1 := 39) 2 rfl ?_
    refine ih_getI rfl (by first | rfl | exact ih_fS2 (by assumption)) ?_
    refine ih_icmp_ge rfl (by omega) (by omega) (fun w1 => ?_) (fun w1 => ?_)
    · refine ih_seg (i1 := 70) 1 rfl ?_
      refine ih_ret rfl rfl ?_
      exact K t1 W hf
    · exfalso
      omega

  | succ d ih =>
    intro k x t1 s W G hd hf K
    have S1 := ih_SW_of S (fun j h0 h1 => hf j (by omega))
    obtain ⟨e1, e2, e3⟩ := S1 q hq
    obtain ⟨g1, g2, g3⟩ := SG q hq
    have P := ih_PG_W W G hc
    have z := P.sz
    have ez := ih_W_sz W hc
    have hk : (k : Int) < sz q := by omega
    have e4 := e3 k hk
    have nw : t1 1 5 = s 0 := W.now
    refine ih_seg (i1 := 39) 2 rfl ?_
    refine ih_getI rfl (by first | rfl | exact ih_fS2 (by assumption)) ?_
    refine ih_icmp_ge rfl (by omega) (by omega) (fun w1 => ?_) (fun w1 => ?_)
    · refine ih_seg (i1 := 70) 1 rfl ?_
      refine ih_ret rfl rfl ?_
      first
        | (have hnn : s (22 + c) = 12 ∨ ¬ (0 ≤ nb (40 * q + k) ∧ nb (40 * q + k) ≤ 63 ∧ nb (40 * q + k) % 10 ≤ 3) := by omega
           rw [ih_ldr_y (f := fun k => nb (40 * q + k)) hnn] at K
           exact K t1 W hf)
        | (exfalso
           omega)
    · refine ih_seg (i1 := 42) 1 rfl ?_
      refine ih_iv0 22 rfl rfl (by first | rfl | exact ih_kP (ih_P_w0 hc) |  exact ih_kP (by assumption) | exact ih_kC (by assumption) | exact ih_kN (by assumption) | exact ih_kS (by assumption) | exact ih_kW (by assumption)) (Nat.le_of_ble_eq_true rfl) (Nat.le_of_ble_eq_true rfl) rfl ?_
      refine c_isFull (ih_P_w0 hc) (by omega) (fun w2 => ?_) (fun w3 => ?_)
      · refine ih_seg (i1 := 70) 2 rfl ?_
        refine ih_ret rfl rfl ?_
        first
          | (have hnn : s (22 + c) = 12 ∨ ¬ (0 ≤ nb (40 * q + k) ∧ nb (40 * q + k) ≤ 63 ∧ nb (40 * q + k) % 10 ≤ 3) := by omega
             rw [ih_ldr_y (f := fun k => nb (40 * q + k)) hnn] at K
             exact K t1 W hf)
          | (exfalso
             omega)
      · refine ih_seg (i1 := 45) 2 rfl ?_
        refine ih_getR rfl (by first | rfl | exact ih_fS0 (by assumption)) ?_
        refine ih_seg (i1 := 47) 1 rfl ?_
        refine ih_iald rfl (ih_lS1 hq) (by omega) (by omega) (k := ?_)
        refine ih_is1 112 rfl rfl (Nat.le_of_ble_eq_true rfl) (Nat.le_of_ble_eq_true rfl) rfl ?_
        rw [e4]
        refine c_isMarkNumber (g3 k hk) (fun hm => ?_) (fun hm => ?_)
        · refine ih_seg (i1 := 51) 2 rfl ?_
          refine ih_getR rfl (by first | rfl | exact ih_fS0 (by assumption)) ?_
          refine ih_seg (i1 := 53) 1 rfl ?_
          refine ih_iald rfl (ih_lS1 hq) (by omega) (by omega) (k := ?_)
          rw [e4]
          refine ih_seg (i1 := 58) 4 rfl ?_
          try simp only [xa_set, List.set_cons_zero, List.set_cons_succ, List.getElem?_cons_zero, List.getElem?_cons_succ]
          refine ih_idiv0 rfl (by omega) (by omega) ?_
          refine ih_seg (i1 := 61) 2 rfl ?_
          refine ih_irem0 rfl (by omega) (by omega) ?_
          refine ih_seg (i1 := 64) 2 rfl ?_
          refine ih_getR rfl rfl ?_
          refine ih_getI rfl (by first | rfl | exact ih_fW5 (by assumption)) ?_
          refine ih_iv4 23 rfl rfl (by first | rfl | exact ih_kP (ih_P_w0 hc) |  exact ih_kP (by assumption) | exact ih_kC (by assumption) | exact ih_kN (by assumption) | exact ih_kS (by assumption) | exact ih_kW (by assumption)) (Nat.le_of_ble_eq_true rfl) (Nat.le_of_ble_eq_true rfl) rfl ?_
          refine c_add (ih_P_w0 hc) (by omega) ?_
          refine ih_seg (i1 := 37) 2 rfl ?_
          try simp only [xa_set, List.set_cons_zero, List.set_cons_succ, List.getElem?_cons_zero, List.getElem?_cons_succ]
          simp only [ih_a1, ih_a2, ih_a3, ih_a4, nw, ez]
          have hnn : ¬ (s (22 + c) = 12 ∨ ¬ (0 ≤ nb (40 * q + k) ∧ nb (40 * q + k) ≤ 63 ∧ nb (40 * q + k) % 10 ≤ 3)) := by omega
          rw [ih_ldr_n (f := fun k => nb (40 * q + k)) hnn] at K
          refine ih (k + 1) _ _ _ (ih_Wu_nm G hc (by omega) W) (ih_Gu_nm hc (by omega) (by omega) (by omega) hi G) (by omega) (by repeat (first | exact hf | refine ih_cf_u ?_ (by omega))) K
        · refine ih_seg (i1 := 70) 2 rfl ?_
          refine ih_ret rfl rfl ?_
          first
            | (have hnn : s (22 + c) = 12 ∨ ¬ (0 ≤ nb (40 * q + k) ∧ nb (40 * q + k) ≤ 63 ∧ nb (40 * q + k) % 10 ≤ 3) := by omega
               rw [ih_ldr_y (f := fun k => nb (40 * q + k)) hnn] at K
               exact K t1 W hf)
            | (exfalso
               omega)


theorem c_op_load {X : List Int} {t : ih_S} {Q : Option xa_V → ih_S → Prop} {s : Int → Int} {bt sz nb : Int → Int} {a b d : Int} (ha : xa_rI a) (hb : xa_rI b) (hd : xa_rI d) (S : ih_SW t bt sz nb) (SG : ih_SG bt sz nb) (W : ih_Wr t 1 s) (G : ih_Gd s) (K : ih_chC t (f_load s bt sz nb a b d) (g_load s sz nb a b d) Q) : ih_Wp X 95 0 [xR 0, xI a, xI b, xI d, xC 1, xC 1, xC 1, xC 1] [] t Q := by
  refine ih_seg (i1 := 1) 1 rfl ?_
  refine ih_is1 110 rfl rfl (Nat.le_of_ble_eq_true rfl) (Nat.le_of_ble_eq_true rfl) rfl ?_
  refine c_isSheet (by omega) (fun w1 => ?_) (fun w2 => ?_)
  · refine ih_seg (i1 := 7) 1 rfl ?_
    obtain ⟨q, rfl⟩ := Int.eq_ofNat_of_zero_le (show 0 ≤ a by omega)
    have hq : q < 4 := by omega
    obtain ⟨e1, e2, e3⟩ := S q hq
    obtain ⟨g1, g2, g3⟩ := SG q hq
    refine ih_seg (i1 := 8) 1 rfl ?_
    refine ih_getR rfl rfl ?_
    refine ih_seg (i1 := 10) 1 rfl ?_
    refine ih_aald rfl (ih_eS hq) ?_
    refine ih_seg (i1 := 13) 2 rfl ?_
    try simp only [xa_set, List.set_cons_zero, List.set_cons_succ, List.getElem?_cons_zero, List.getElem?_cons_succ]
    refine ih_iv0 31 rfl rfl (by first | rfl | exact ih_kP (ih_P_w0 hc) |  exact ih_kP (by assumption) | exact ih_kC (by assumption) | exact ih_kN (by assumption) | exact ih_kS (by assumption) | exact ih_kW (by assumption)) (Nat.le_of_ble_eq_true rfl) (Nat.le_of_ble_eq_true rfl) rfl ?_
    refine c_isMissing hq (by omega) (fun hm => ?_) (fun hm => ?_)
    · refine ih_seg (i1 := 17) 3 rfl ?_
      refine ih_iv1 102 rfl rfl (by first | rfl | exact ih_kP (ih_P_w0 hc) |  exact ih_kP (by assumption) | exact ih_kC (by assumption) | exact ih_kN (by assumption) | exact ih_kS (by assumption) | exact ih_kW (by assumption)) (Nat.le_of_ble_eq_true rfl) (Nat.le_of_ble_eq_true rfl) rfl ?_
      refine c_finding (by omega) ?_
      refine ih_ret rfl rfl ?_
      first
        | exact ih_chC_no K (by rw [f_load, if_neg (by omega)]) (ih_sc_r _)
        | exact ih_chC_no K (by rw [f_load, if_pos (by omega), if_pos (by omega)]) (ih_sc_r _)
        | exact ih_chC_no K (by rw [f_load, if_pos (by omega), if_neg (by omega), if_neg (by omega)]) (ih_sc_r _)
        | (refine c_load_l hq hc (by omega) S SG (sz q).toNat 0 _ t s W G (by omega) (ih_cf_r t) (fun t2 W2 f2 => ?_)
           exact ih_chC_ok K (by rw [f_load, if_pos (by omega), if_neg (by omega), if_pos (by omega)]; rfl) W2 f2)
    · refine ih_seg (i1 := 20) 2 rfl ?_
      refine ih_is1 106 rfl rfl (Nat.le_of_ble_eq_true rfl) (Nat.le_of_ble_eq_true rfl) rfl ?_
      refine c_isPaper (by omega) (fun w3 => ?_) (fun w4 => ?_)
      · refine ih_seg (i1 := 23) 2 rfl ?_
        refine ih_is1 105 rfl rfl (Nat.le_of_ble_eq_true rfl) (Nat.le_of_ble_eq_true rfl) rfl ?_
        refine c_isInk (by omega) (fun w5 => ?_) (fun w6 => ?_)
        · refine ih_seg (i1 := 29) 1 rfl ?_
          obtain ⟨c, rfl⟩ := Int.eq_ofNat_of_zero_le (show 0 ≤ b by omega)
          have hc : c < 4 := by omega
          refine ih_seg (i1 := 30) 1 rfl ?_
          refine ih_getR rfl rfl ?_
          refine ih_getR rfl (by first | rfl | exact ih_fW2 (by assumption)) ?_
          refine ih_seg (i1 := 33) 1 rfl ?_
          refine ih_aald rfl (ih_eP hc) ?_
          refine ih_seg (i1 := 37) 3 rfl ?_
          try simp only [xa_set, List.set_cons_zero, List.set_cons_succ, List.getElem?_cons_zero, List.getElem?_cons_succ]
          first
            | exact ih_chC_no K (by rw [f_load, if_neg (by omega)]) (ih_sc_r _)
            | exact ih_chC_no K (by rw [f_load, if_pos (by omega), if_pos (by omega)]) (ih_sc_r _)
            | exact ih_chC_no K (by rw [f_load, if_pos (by omega), if_neg (by omega), if_neg (by omega)]) (ih_sc_r _)
            | (refine c_load_l hq hc (by omega) S SG (sz q).toNat 0 _ t s W G (by omega) (ih_cf_r t) (fun t2 W2 f2 => ?_)
               exact ih_chC_ok K (by rw [f_load, if_pos (by omega), if_neg (by omega), if_pos (by omega)]; rfl) W2 f2)
        · refine ih_seg (i1 := 27) 3 rfl ?_
          refine ih_iv1 102 rfl rfl (by first | rfl | exact ih_kP (ih_P_w0 hc) |  exact ih_kP (by assumption) | exact ih_kC (by assumption) | exact ih_kN (by assumption) | exact ih_kS (by assumption) | exact ih_kW (by assumption)) (Nat.le_of_ble_eq_true rfl) (Nat.le_of_ble_eq_true rfl) rfl ?_
          refine c_finding (by omega) ?_
          refine ih_ret rfl rfl ?_
          first
            | exact ih_chC_no K (by rw [f_load, if_neg (by omega)]) (ih_sc_r _)
            | exact ih_chC_no K (by rw [f_load, if_pos (by omega), if_pos (by omega)]) (ih_sc_r _)
            | exact ih_chC_no K (by rw [f_load, if_pos (by omega), if_neg (by omega), if_neg (by omega)]) (ih_sc_r _)
            | (refine c_load_l hq hc (by omega) S SG (sz q).toNat 0 _ t s W G (by omega) (ih_cf_r t) (fun t2 W2 f2 => ?_)
               exact ih_chC_ok K (by rw [f_load, if_pos (by omega), if_neg (by omega), if_pos (by omega)]; rfl) W2 f2)
      · refine ih_seg (i1 := 27) 3 rfl ?_
        refine ih_iv1 102 rfl rfl (by first | rfl | exact ih_kP (ih_P_w0 hc) |  exact ih_kP (by assumption) | exact ih_kC (by assumption) | exact ih_kN (by assumption) | exact ih_kS (by assumption) | exact ih_kW (by assumption)) (Nat.le_of_ble_eq_true rfl) (Nat.le_of_ble_eq_true rfl) rfl ?_
        refine c_finding (by omega) ?_
        refine ih_ret rfl rfl ?_
        first
          | exact ih_chC_no K (by rw [f_load, if_neg (by omega)]) (ih_sc_r _)
          | exact ih_chC_no K (by rw [f_load, if_pos (by omega), if_pos (by omega)]) (ih_sc_r _)
          | exact ih_chC_no K (by rw [f_load, if_pos (by omega), if_neg (by omega), if_neg (by omega)]) (ih_sc_r _)
          | (refine c_load_l hq hc (by omega) S SG (sz q).toNat 0 _ t s W G (by omega) (ih_cf_r t) (fun t2 W2 f2 => ?_)
             exact ih_chC_ok K (by rw [f_load, if_pos (by omega), if_neg (by omega), if_pos (by omega)]; rfl) W2 f2)
  · refine ih_seg (i1 := 5) 3 rfl ?_
    refine ih_iv1 102 rfl rfl (by first | rfl | exact ih_kP (ih_P_w0 hc) |  exact ih_kP (by assumption) | exact ih_kC (by assumption) | exact ih_kN (by assumption) | exact ih_kS (by assumption) | exact ih_kW (by assumption)) (Nat.le_of_ble_eq_true rfl) (Nat.le_of_ble_eq_true rfl) rfl ?_
    refine c_finding (by omega) ?_
    refine ih_ret rfl rfl ?_
    first
      | exact ih_chC_no K (by rw [f_load, if_neg (by omega)]) (ih_sc_r _)
      | exact ih_chC_no K (by rw [f_load, if_pos (by omega), if_pos (by omega)]) (ih_sc_r _)
      | exact ih_chC_no K (by rw [f_load, if_pos (by omega), if_neg (by omega), if_neg (by omega)]) (ih_sc_r _)
      | (refine c_load_l hq hc (by omega) S SG (sz q).toNat 0 _ t s W G (by omega) (ih_cf_r t) (fun t2 W2 f2 => ?_)
         exact ih_chC_ok K (by rw [f_load, if_pos (by omega), if_neg (by omega), if_pos (by omega)]; rfl) W2 f2)


theorem r_load_l {X : List Int} {t : ih_S} {Q : Option xa_V → ih_S → Prop} {q p : Nat} {d0 : Int} {x : Int} (hq : q < 4) (hp : p < 4) (hi : 0 ≤ d0 ∧ d0 < 8) (hz : 0 ≤ t 119 q ∧ t 119 q ≤ 40) (hr : ∀ k : Nat, (k : Int) < t 119 q → xa_rI (t 120 (40 * q + k)))  : ∀ (d : Nat) (k : Nat) (y z : xa_V) (t1 : ih_S) (G : ih_Gd (t1 112)) (hd : (k : Int) + d = t 119 q) (hf : ∀ j, j ≠ 112 → t1 j = t j) (K : ∀ t2, t2 112 = (ih_ldr p d0 (fun k => t 120 (40 * q + k)) d k (t1 112)).1 → (∀ j, j ≠ 112 → t2 j = t j) → Q (some (xI (ih_ldr p d0 (fun k => t 120 (40 * q + k)) d k (t1 112)).2)) t2), ih_Wp X 204 24 [xR 111, xI q, xI p, xI d0, xI x, xI k, xI k, y, z] [] t1 Q := by
  intro d
  induction d with
  | zero =>
    intro k y z t1 G hd hf K
    have e9 : t1 119 = t 119 := hf 119 (by decide)
    rw [← e9] at hd hz
    refine ih_seg (i1 := 26) 2 rfl ?_
    refine ih_getR rfl rfl ?_
    refine ih_seg (i1 := 28) 1 rfl ?_
    refine ih_iald rfl (by first | rfl | exact ih_lP1 (ih_P_w0 hc) | exact ih_lP2 (ih_P_w0 hc) | exact ih_lP3 (ih_P_w0 hc) | exact ih_lP4 (ih_P_w0 hc) |  exact ih_lP1 (by assumption) | exact ih_lP2 (by assumption) | exact ih_lP3 (by assumption) | exact ih_lP4 (by assumption) | exact ih_lC1 (by assumption) | exact ih_lS1 (by assumption) | exact ih_lW1 (by assumption) | exact ih_lW2 (by assumption) | exact ih_lW4 (by assumption) | exact ih_lW5 (by assumption)) (by omega) (by omega) (k := ?_)
    refine ih_icmp_ge rfl (by omega) (by omega) (fun w1 => ?_) (fun w1 => ?_)
    · refine ih_seg (i1 := 75) 1 rfl ?_
      refine ih_ret rfl rfl ?_
      exact K t1 rfl hf
    · exfalso
      omega

  | succ d ih =>
    intro k y z t1 G hd hf K
    have e9 : t1 119 = t 119 := hf 119 (by decide)
    have e0 : t1 120 = t 120 := hf 120 (by decide)
    have hk : (k : Int) < t 119 q := by omega
    have hr1 := hr k hk
    have zz := (G.pap p hp).sz
    rw [← e0] at hr1 K
    rw [← e9] at hd hz
    refine ih_seg (i1 := 26) 2 rfl ?_
    refine ih_getR rfl rfl ?_
    refine ih_seg (i1 := 28) 1 rfl ?_
    refine ih_iald rfl (by first | rfl | exact ih_lP1 (ih_P_w0 hc) | exact ih_lP2 (ih_P_w0 hc) | exact ih_lP3 (ih_P_w0 hc) | exact ih_lP4 (ih_P_w0 hc) |  exact ih_lP1 (by assumption) | exact ih_lP2 (by assumption) | exact ih_lP3 (by assumption) | exact ih_lP4 (by assumption) | exact ih_lC1 (by assumption) | exact ih_lS1 (by assumption) | exact ih_lW1 (by assumption) | exact ih_lW2 (by assumption) | exact ih_lW4 (by assumption) | exact ih_lW5 (by assumption)) (by omega) (by omega) (k := ?_)
    refine ih_icmp_ge rfl (by omega) (by omega) (fun w1 => ?_) (fun w1 => ?_)
    · refine ih_seg (i1 := 75) 1 rfl ?_
      refine ih_ret rfl rfl ?_
      first
        | (have hnn : t1 112 (22 + p) = 12 ∨ ¬ (0 ≤ t1 120 (40 * q + k) ∧ t1 120 (40 * q + k) ≤ 63 ∧ t1 120 (40 * q + k) % 10 ≤ 3) := by omega
           rw [ih_ldr_y (f := fun k => t1 120 (40 * q + k)) hnn] at K
           exact K t1 rfl hf)
        | (exfalso
           omega)
    · refine ih_seg (i1 := 31) 1 rfl ?_
      refine ih_getR rfl rfl ?_
      refine ih_seg (i1 := 37) 5 rfl ?_
      try dsimp only
      refine ih_iald rfl (by first | rfl | exact ih_lP1 (ih_P_w0 hc) | exact ih_lP2 (ih_P_w0 hc) | exact ih_lP3 (ih_P_w0 hc) | exact ih_lP4 (ih_P_w0 hc) |  exact ih_lP1 (by assumption) | exact ih_lP2 (by assumption) | exact ih_lP3 (by assumption) | exact ih_lP4 (by assumption) | exact ih_lC1 (by assumption) | exact ih_lS1 (by assumption) | exact ih_lW1 (by assumption) | exact ih_lW2 (by assumption) | exact ih_lW4 (by assumption) | exact ih_lW5 (by assumption)) (by omega) (by omega) (k := ?_)
      refine ih_seg (i1 := 40) 2 rfl ?_
      try simp only [xa_set, List.set_cons_zero, List.set_cons_succ, List.getElem?_cons_zero, List.getElem?_cons_succ]
      refine ih_i2l rfl (by omega) ?_
      refine ih_seg (i1 := 43) 2 rfl ?_
      refine ih_is3 126 rfl rfl (Nat.le_of_ble_eq_true rfl) (Nat.le_of_ble_eq_true rfl) rfl ?_
      refine r_in (by omega) (by omega) (by omega) (fun w2 => ?_) (fun w3 => ?_)
      · refine ih_seg (i1 := 47) 3 rfl ?_
        refine ih_irem0 rfl (by omega) (by omega) ?_
        refine ih_seg (i1 := 49) 1 rfl ?_
        refine ih_icmp_gt rfl (by omega) (by omega) (fun w4 => ?_) (fun w4 => ?_)
        · refine ih_seg (i1 := 59) 1 rfl ?_
          refine ih_ret rfl rfl ?_
          first
            | (have hnn : t1 112 (22 + p) = 12 ∨ ¬ (0 ≤ t1 120 (40 * q + k) ∧ t1 120 (40 * q + k) ≤ 63 ∧ t1 120 (40 * q + k) % 10 ≤ 3) := by omega
               rw [ih_ldr_y (f := fun k => t1 120 (40 * q + k)) hnn] at K
               exact K t1 rfl hf)
            | (exfalso
               omega)
        · refine ih_seg (i1 := 51) 1 rfl ?_
          refine ih_getR rfl rfl ?_
          refine ih_seg (i1 := 55) 3 rfl ?_
          try dsimp only
          refine ih_iald rfl (by first | rfl | exact ih_lP1 (ih_P_w0 hc) | exact ih_lP2 (ih_P_w0 hc) | exact ih_lP3 (ih_P_w0 hc) | exact ih_lP4 (ih_P_w0 hc) |  exact ih_lP1 (by assumption) | exact ih_lP2 (by assumption) | exact ih_lP3 (by assumption) | exact ih_lP4 (by assumption) | exact ih_lC1 (by assumption) | exact ih_lS1 (by assumption) | exact ih_lW1 (by assumption) | exact ih_lW2 (by assumption) | exact ih_lW4 (by assumption) | exact ih_lW5 (by assumption)) (by omega) (by omega) (k := ?_)
          refine ih_seg (i1 := 57) 1 rfl ?_
          refine ih_icmp_ne rfl (by omega) (by omega) (fun w5 => ?_) (fun w5 => ?_)
          · refine ih_seg (i1 := 64) 4 rfl ?_
            refine ih_idiv0 rfl (by omega) (by omega) ?_
            refine ih_seg (i1 := 67) 2 rfl ?_
            refine ih_irem0 rfl (by omega) (by omega) ?_
            refine ih_seg (i1 := 69) 1 rfl ?_
            refine ih_iv4 138 rfl rfl (by first | rfl | exact ih_kP (ih_P_w0 hc) |  exact ih_kP (by assumption) | exact ih_kC (by assumption) | exact ih_kN (by assumption) | exact ih_kS (by assumption) | exact ih_kW (by assumption)) (Nat.le_of_ble_eq_true rfl) (Nat.le_of_ble_eq_true rfl) rfl ?_
            refine r_newMark hp (by omega) (fun t2 f1 f2 => ?_)
            refine ih_seg (i1 := 24) 4 rfl ?_
            try simp only [xa_set, List.set_cons_zero, List.set_cons_succ, List.getElem?_cons_zero, List.getElem?_cons_succ]
            have hnn : ¬ (t1 112 (22 + p) = 12 ∨ ¬ (0 ≤ t1 120 (40 * q + k) ∧ t1 120 (40 * q + k) ≤ 63 ∧ t1 120 (40 * q + k) % 10 ≤ 3)) := by omega
            rw [ih_ldr_n (f := fun k => t1 120 (40 * q + k)) hnn] at K
            refine ih (k + 1) _ _ t2 (by rw [f1]; exact ih_Gu_nm hp (by omega) (by omega) (by omega) hi G) (by rw [← e9]; omega) (fun j hj => (f2 j hj).trans (hf j hj)) ?_
            rw [f1, ← e0]
            exact K
          · refine ih_seg (i1 := 59) 1 rfl ?_
            refine ih_ret rfl rfl ?_
            first
              | (have hnn : t1 112 (22 + p) = 12 ∨ ¬ (0 ≤ t1 120 (40 * q + k) ∧ t1 120 (40 * q + k) ≤ 63 ∧ t1 120 (40 * q + k) % 10 ≤ 3) := by omega
                 rw [ih_ldr_y (f := fun k => t1 120 (40 * q + k)) hnn] at K
                 exact K t1 rfl hf)
              | (exfalso
                 omega)
      · refine ih_seg (i1 := 59) 2 rfl ?_
        refine ih_ret rfl rfl ?_
        first
          | (have hnn : t1 112 (22 + p) = 12 ∨ ¬ (0 ≤ t1 120 (40 * q + k) ∧ t1 120 (40 * q + k) ≤ 63 ∧ t1 120 (40 * q + k) % 10 ≤ 3) := by omega
             rw [ih_ldr_y (f := fun k => t1 120 (40 * q + k)) hnn] at K
             exact K t1 rfl hf)
          | (exfalso
             omega)


theorem r_op_load {X : List Int} {t : ih_S} {Q : Option xa_V → ih_S → Prop} {a b d : Int} (ha : xa_rI a) (hb : xa_rI b) (hd : xa_rI d) (G : ih_Gd (t 112)) (SG : ih_SG (t 118) (t 119) (t 120)) (K : ih_chR t (f_load (t 112) (t 118) (t 119) (t 120) a b d) (g_load (t 112) (t 119) (t 120) a b d) Q) : ih_Wp X 204 0 [xR 111, xI a, xI b, xI d, xC 1, xC 1, xC 1, xC 1, xC 1] [] t Q := by
  refine ih_seg (i1 := 2) 2 rfl ?_
  refine ih_iv1 201 rfl rfl (by first | rfl | exact ih_kP (ih_P_w0 hc) |  exact ih_kP (by assumption) | exact ih_kC (by assumption) | exact ih_kN (by assumption) | exact ih_kS (by assumption) | exact ih_kW (by assumption)) (Nat.le_of_ble_eq_true rfl) (Nat.le_of_ble_eq_true rfl) rfl ?_
  refine r_wrong (by omega) SG ?_
  have hw : ((if 0 ≤ a ∧ a < 4 then (if t 118 a = 0 then -1000006 else 0) else -1000001) = (-1000001 : Int) ∧ ¬ (0 ≤ a ∧ a < 4)) ∨ ((if 0 ≤ a ∧ a < 4 then (if t 118 a = 0 then -1000006 else 0) else -1000001) = (-1000006 : Int) ∧ (0 ≤ a ∧ a < 4) ∧ t 118 a = 0) ∨ ((if 0 ≤ a ∧ a < 4 then (if t 118 a = 0 then -1000006 else 0) else -1000001) = (0 : Int) ∧ (0 ≤ a ∧ a < 4) ∧ t 118 a ≠ 0) := by
    split
    · split <;> omega
    · omega
  generalize (if 0 ≤ a ∧ a < 4 then (if t 118 a = 0 then -1000006 else 0) else -1000001 : Int) = wv at hw ⊢
  refine ih_seg (i1 := 5) 2 rfl ?_
  try simp only [xa_set, List.set_cons_zero, List.set_cons_succ, List.getElem?_cons_zero, List.getElem?_cons_succ]
  refine ih_ifc_eq rfl (by omega) (fun w1 => ?_) (fun w1 => ?_)
  · obtain ⟨q, rfl⟩ := Int.eq_ofNat_of_zero_le (show 0 ≤ a by omega)
    have hq : q < 4 := by omega
    obtain ⟨g1, g2, g3⟩ := SG q hq
    refine ih_seg (i1 := 11) 1 rfl ?_
    refine ih_is1 128 rfl rfl (Nat.le_of_ble_eq_true rfl) (Nat.le_of_ble_eq_true rfl) rfl ?_
    refine r_isPaper (by omega) (fun w2 => ?_) (fun w3 => ?_)
    · refine ih_seg (i1 := 14) 2 rfl ?_
      refine ih_is1 129 rfl rfl (Nat.le_of_ble_eq_true rfl) (Nat.le_of_ble_eq_true rfl) rfl ?_
      refine r_isInk (by omega) (fun w4 => ?_) (fun w5 => ?_)
      · refine ih_seg (i1 := 24) 5 rfl ?_
        try simp only [xa_set, List.set_cons_zero, List.set_cons_succ, List.getElem?_cons_zero, List.getElem?_cons_succ]
        first
          | exact ih_chR_no 0 K (by rw [f_load, if_pos (by omega), if_neg (by omega), if_neg (by omega)]) rfl (ih_rr_r _)
          | (obtain ⟨p, rfl⟩ := Int.eq_ofNat_of_zero_le (show 0 ≤ b by omega)
             have hp : p < 4 := by omega
             refine r_load_l hq hp (by omega) g2 g3 (t 119 q).toNat 0 _ _ t G (by omega) (fun _ _ => rfl) (fun t2 f1 f2 => ?_)
             exact ih_chR_ok K (by rw [f_load, if_pos (by omega), if_neg (by omega), if_pos (by omega)]; rfl) f1 (ih_rg_w f2))
      · refine ih_seg (i1 := 18) 3 rfl ?_
        refine ih_iv1 127 rfl rfl (by first | rfl | exact ih_kP (ih_P_w0 hc) |  exact ih_kP (by assumption) | exact ih_kC (by assumption) | exact ih_kN (by assumption) | exact ih_kS (by assumption) | exact ih_kW (by assumption)) (Nat.le_of_ble_eq_true rfl) (Nat.le_of_ble_eq_true rfl) rfl ?_
        refine r_finds 0 rfl (by omega) ?_
        refine ih_ret rfl rfl ?_
        first
          | exact ih_chR_no 0 K (by rw [f_load, if_pos (by omega), if_neg (by omega), if_neg (by omega)]) rfl (ih_rr_r _)
          | (obtain ⟨p, rfl⟩ := Int.eq_ofNat_of_zero_le (show 0 ≤ b by omega)
             have hp : p < 4 := by omega
             refine r_load_l hq hp (by omega) g2 g3 (t 119 q).toNat 0 _ _ t G (by omega) (fun _ _ => rfl) (fun t2 f1 f2 => ?_)
             exact ih_chR_ok K (by rw [f_load, if_pos (by omega), if_neg (by omega), if_pos (by omega)]; rfl) f1 (ih_rg_w f2))
    · refine ih_seg (i1 := 18) 3 rfl ?_
      refine ih_iv1 127 rfl rfl (by first | rfl | exact ih_kP (ih_P_w0 hc) |  exact ih_kP (by assumption) | exact ih_kC (by assumption) | exact ih_kN (by assumption) | exact ih_kS (by assumption) | exact ih_kW (by assumption)) (Nat.le_of_ble_eq_true rfl) (Nat.le_of_ble_eq_true rfl) rfl ?_
      refine r_finds 0 rfl (by omega) ?_
      refine ih_ret rfl rfl ?_
      first
        | exact ih_chR_no 0 K (by rw [f_load, if_pos (by omega), if_neg (by omega), if_neg (by omega)]) rfl (ih_rr_r _)
        | (obtain ⟨p, rfl⟩ := Int.eq_ofNat_of_zero_le (show 0 ≤ b by omega)
           have hp : p < 4 := by omega
           refine r_load_l hq hp (by omega) g2 g3 (t 119 q).toNat 0 _ _ t G (by omega) (fun _ _ => rfl) (fun t2 f1 f2 => ?_)
           exact ih_chR_ok K (by rw [f_load, if_pos (by omega), if_neg (by omega), if_pos (by omega)]; rfl) f1 (ih_rg_w f2))
  · refine ih_seg (i1 := 8) 2 rfl ?_
    refine ih_iv1 127 rfl rfl (by first | rfl | exact ih_kP (ih_P_w0 hc) |  exact ih_kP (by assumption) | exact ih_kC (by assumption) | exact ih_kN (by assumption) | exact ih_kS (by assumption) | exact ih_kW (by assumption)) (Nat.le_of_ble_eq_true rfl) (Nat.le_of_ble_eq_true rfl) rfl ?_
    rcases hw with ⟨rfl, h2⟩ | ⟨rfl, h2, h3⟩ | ⟨rfl, h2, h3⟩
    · refine r_finds 0 rfl (by omega) ?_
      refine ih_ret rfl rfl ?_
      exact ih_chR_no 0 K (by rw [f_load, if_neg (by omega)]) rfl (ih_rr_r _)
    · refine r_finds 5 rfl (by omega) ?_
      refine ih_ret rfl rfl ?_
      exact ih_chR_no 5 K (by rw [f_load, if_pos (by omega), if_pos (by omega)]) rfl (ih_rr_r _)
    · exfalso
      omega

