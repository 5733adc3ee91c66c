/-! texts: the class's marks, items, text -/
theorem ih_fit1 {v : Int} (h : v = 0 ∨ v = 1) : xa_fit 1 (xI v) = true := by rcases h with rfl | rfl <;> rfl
theorem ih_pI_01 {f : Int → Int} {n st : Int} {s : Int → Int} : (ih_pI f n st s).1 = 0 ∨ (ih_pI f n st s).1 = 1 := by
  unfold ih_pI
  repeat' split
  all_goals first | exact Or.inl rfl | exact Or.inr rfl
theorem ih_pP_01 {f : Int → Int} {n st : Int} {s : Int → Int} : (ih_pP f n st s).1 = 0 ∨ (ih_pP f n st s).1 = 1 := by
  unfold ih_pP
  repeat' split
  all_goals first | exact Or.inl rfl | exact Or.inr rfl
theorem ih_pM_01 {f : Int → Int} {n : Int} {p : Nat} {ink z : Int} : ∀ (d : Nat) (st : Int) (s : Int → Int), (ih_pM f n p ink z d st s).1 = 0 ∨ (ih_pM f n p ink z d st s).1 = 1
  | 0, st, s => Or.inr rfl
  | d + 1, st, s => by
    rw [ih_pM]
    split
    · split
      · exact Or.inr rfl
      · exact Or.inl rfl
    · split
      · exact Or.inl rfl
      · split
        · split
          · exact Or.inl rfl
          · exact ih_pM_01 d _ _
        · exact ih_pM_01 d _ _
theorem ih_pO_01 {f : Int → Int} {n st : Int} {s : Int → Int} : (ih_pO f n st s).1 = 0 ∨ (ih_pO f n st s).1 = 1 := by
  unfold ih_pO ih_pMs
  repeat' split
  all_goals first | exact Or.inl rfl | exact ih_pM_01 _ _ _
theorem ih_pT_01 {f : Int → Int} {n st : Int} {s : Int → Int} : (ih_pT f n st s).1 = 0 ∨ (ih_pT f n st s).1 = 1 := by
  unfold ih_pT
  repeat' split
  all_goals first | exact Or.inl rfl | exact ih_pI_01 | exact ih_pP_01 | exact ih_pO_01
theorem ih_nm_sz {s : Int → Int} {p : Nat} {a b c : Int} : ih_nm s p a b c (22 + p) = s (22 + p) + 1 := if_pos rfl
theorem c_toNextC {X : List Int} {t : ih_S} {Q : Option xa_V → ih_S → Prop} {f : Int → Int} {n st : Int} (C : ih_TC t f n st) (K : ∀ t1, (∀ j, j ≠ 80 → t1 j = t j) → ih_TC t1 f n (ih_adv f n st) → Q none t1) : ih_Wp X 38 0 [xR 80] [] t Q := by
  obtain ⟨⟨e2, e1, e3, e4, e5⟩, hr, hb⟩ := C
  have ht := ih_te_b (f := f) (n := n) (st := st) hr.2.1
  refine c_toNext (f := f) (n := n) ⟨⟨by omega, by omega⟩, hb⟩ e2 (by omega) (fun t1 f1 C1 => ?_)
  rw [e1] at C1
  exact K t1 f1 C1

theorem c_readMark_9 {X : List Int} {t : ih_S} {Q : Option xa_V → ih_S → Prop} {f : Int → Int} {n st : Int} {s : Int → Int} (C : ih_TC t f n st) (W : ih_Wr t 1 s) (G : ih_Gd s) {p : Nat} {ink : Int} (hc : p < 4) (hi : 0 ≤ ink ∧ ink < 8) (hs : s (22 + p) < 12) {kd : Int} (hkd : 0 ≤ kd ∧ kd < 7) (k0 : ih_isK kd 1 → ih_ltr f n st < 0 → Q (some (xI 0)) t) (kk : ∀ (lt : Int) t1, (ih_isK kd 1 → 0 ≤ ih_ltr f n st ∧ lt = ih_ltr f n st) → (¬ ih_isK kd 1 → lt = 0) → ih_rt t t1 → ih_TC t1 f n (ih_adv f n st) → ih_Wr t1 1 (ih_nm s p kd lt ink) → Q (some (xI 1)) t1)  : ih_Wp X 50 9 [xR 82, xR (7 + 5 * p), xI kd, xI ink, xC 1] [] t Q := by
  have g0 := (G.pap p hc).sz
  have hz := ih_W_sz W hc
  have nw : t 1 5 = s 0 := W.now
  have hP := ih_P_w0 hc
  have hl := ih_ltr_rg (f := f) (n := n) (st := st)
  refine ih_seg (i1 := 13) 4 rfl ?_
  try simp only [xa_set, List.set_cons_zero, List.set_cons_succ, List.getElem?_cons_zero, List.getElem?_cons_succ]
  refine ih_in2 113 rfl rfl (Nat.le_of_ble_eq_true rfl) (Nat.le_of_ble_eq_true rfl) rfl ?_
  refine c_isOfKind hkd (by omega) (fun hK => ?_) (fun hK => ?_)
  · refine ih_seg (i1 := 16) 2 rfl ?_
    refine ih_getR rfl rfl ?_
    refine ih_iv0 42 rfl rfl (by first | rfl | exact ih_kP (ih_P_w0 hc) |  exact ih_kP (by assumption) | exact ih_kC (by assumption) | exact ih_kN (by assumption) | exact ih_kS (by assumption) | exact ih_kW (by assumption)) (Nat.le_of_ble_eq_true rfl) (Nat.le_of_ble_eq_true rfl) rfl ?_
    refine c_letter C ?_
    refine ih_seg (i1 := 20) 2 rfl ?_
    try simp only [xa_set, List.set_cons_zero, List.set_cons_succ, List.getElem?_cons_zero, List.getElem?_cons_succ]
    refine ih_ifc_ge rfl (by omega) (fun w1 => ?_) (fun w1 => ?_)
    · refine ih_seg (i1 := 28) 5 rfl ?_
      refine ih_getR rfl rfl ?_
      refine ih_getI rfl (by first | rfl | exact ih_fW5 (by assumption)) ?_
      refine ih_iv4 23 rfl rfl (by first | rfl | exact ih_kP (ih_P_w0 hc) |  exact ih_kP (by assumption) | exact ih_kC (by assumption) | exact ih_kN (by assumption) | exact ih_kS (by assumption) | exact ih_kW (by assumption)) (Nat.le_of_ble_eq_true rfl) (Nat.le_of_ble_eq_true rfl) rfl ?_
      refine c_add hP (by omega) ?_
      simp only [ih_a1, ih_a2, ih_a3, ih_a4, nw, hz]
      refine ih_seg (i1 := 32) 1 rfl ?_
      refine ih_getR rfl rfl ?_
      refine ih_iv0 38 rfl rfl (by first | rfl | exact ih_kP (ih_P_w0 hc) |  exact ih_kP (by assumption) | exact ih_kC (by assumption) | exact ih_kN (by assumption) | exact ih_kS (by assumption) | exact ih_kW (by assumption)) (Nat.le_of_ble_eq_true rfl) (Nat.le_of_ble_eq_true rfl) rfl ?_
      refine c_toNextC (ih_TC_u (ih_TC_u (ih_TC_u (ih_TC_u (ih_TC_u C (by omega)) (by omega)) (by omega)) (by omega)) (by omega)) (fun t2 f2 C2 => ?_)
      refine ih_seg (i1 := 35) 1 rfl ?_
      refine ih_ret rfl rfl ?_
      exact kk (ih_ltr f n st) t2 (fun _ => ⟨by omega, rfl⟩) (fun q => absurd hK q) (ih_rt_t (ih_rt_u (ih_rt_u (ih_rt_u (ih_rt_u (ih_rt_u (ih_rt_r t) (by omega)) (by omega)) (by omega)) (by omega)) (by omega)) (ih_rt_a f2)) C2 (ih_Wr_a (ih_Wu_nm G hc hs W) f2)
    · refine ih_seg (i1 := 22) 1 rfl ?_
      refine ih_ret rfl rfl ?_
      exact k0 hK (by omega)
  · refine ih_seg (i1 := 28) 6 rfl ?_
    refine ih_getR rfl rfl ?_
    refine ih_getI rfl (by first | rfl | exact ih_fW5 (by assumption)) ?_
    refine ih_iv4 23 rfl rfl (by first | rfl | exact ih_kP (ih_P_w0 hc) |  exact ih_kP (by assumption) | exact ih_kC (by assumption) | exact ih_kN (by assumption) | exact ih_kS (by assumption) | exact ih_kW (by assumption)) (Nat.le_of_ble_eq_true rfl) (Nat.le_of_ble_eq_true rfl) rfl ?_
    refine c_add hP (by omega) ?_
    simp only [ih_a1, ih_a2, ih_a3, ih_a4, nw, hz]
    refine ih_seg (i1 := 32) 1 rfl ?_
    refine ih_getR rfl rfl ?_
    refine ih_iv0 38 rfl rfl (by first | rfl | exact ih_kP (ih_P_w0 hc) |  exact ih_kP (by assumption) | exact ih_kC (by assumption) | exact ih_kN (by assumption) | exact ih_kS (by assumption) | exact ih_kW (by assumption)) (Nat.le_of_ble_eq_true rfl) (Nat.le_of_ble_eq_true rfl) rfl ?_
    refine c_toNextC (ih_TC_u (ih_TC_u (ih_TC_u (ih_TC_u (ih_TC_u C (by omega)) (by omega)) (by omega)) (by omega)) (by omega)) (fun t2 f2 C2 => ?_)
    refine ih_seg (i1 := 35) 1 rfl ?_
    refine ih_ret rfl rfl ?_
    exact kk 0 t2 (fun q => absurd q hK) (fun _ => rfl) (ih_rt_t (ih_rt_u (ih_rt_u (ih_rt_u (ih_rt_u (ih_rt_u (ih_rt_r t) (by omega)) (by omega)) (by omega)) (by omega)) (by omega)) (ih_rt_a f2)) C2 (ih_Wr_a (ih_Wu_nm G hc hs W) f2)


theorem c_readMark {X : List Int} {t : ih_S} {Q : Option xa_V → ih_S → Prop} {f : Int → Int} {n st : Int} {s : Int → Int} (C : ih_TC t f n st) (W : ih_Wr t 1 s) (G : ih_Gd s) {p : Nat} {ink : Int} (hc : p < 4) (hi : 0 ≤ ink ∧ ink < 8) (hs : s (22 + p) < 12) (hk : 0 ≤ ih_knd f n st) (k1 : ih_knd f n st = 4 ∨ ih_knd f n st = 6 → ih_ltr f n (ih_adv f n st) < 0 → ∀ t1, ih_rt t t1 → ih_TC t1 f n (ih_adv f n st) → ih_Wr t1 1 s → Q (some (xI 0)) t1) (k2 : ih_knd f n st = 4 ∨ ih_knd f n st = 6 → 0 ≤ ih_ltr f n (ih_adv f n st) → ∀ t1, ih_rt t t1 → ih_TC t1 f n (ih_adv f n (ih_adv f n st)) → ih_Wr t1 1 (ih_nm s p (ih_knd f n st) (ih_ltr f n (ih_adv f n st)) ink) → Q (some (xI 1)) t1) (k3 : ¬ (ih_knd f n st = 4 ∨ ih_knd f n st = 6) → ∀ t1, ih_rt t t1 → ih_TC t1 f n (ih_adv f n st) → ih_Wr t1 1 (ih_nm s p (ih_knd f n st) (if ih_knd f n st = 1 then ih_ltr f n st else 0) ink) → Q (some (xI 1)) t1)  : ih_Wp X 50 0 [xR 82, xR (7 + 5 * p), xI (ih_knd f n st), xI ink, xC 1] [] t Q := by
  have hkr := ih_knd_rg (f := f) (n := n) (st := st)
  refine ih_seg (i1 := 2) 2 rfl ?_
  refine ih_icmp_eq rfl (by omega) (by omega) (fun w1 => ?_) (fun w1 => ?_)
  · refine ih_seg (i1 := 7) 1 rfl ?_
    refine ih_getR rfl rfl ?_
    refine ih_iv0 38 rfl rfl (by first | rfl | exact ih_kP (ih_P_w0 hc) |  exact ih_kP (by assumption) | exact ih_kC (by assumption) | exact ih_kN (by assumption) | exact ih_kS (by assumption) | exact ih_kW (by assumption)) (Nat.le_of_ble_eq_true rfl) (Nat.le_of_ble_eq_true rfl) rfl ?_
    refine c_toNextC C (fun t1 f1 C1 => ?_)
    have h46 : ih_knd f n st = 4 ∨ ih_knd f n st = 6 := by omega
    refine c_readMark_9 C1 (ih_Wr_a W f1) G hc hi hs (by omega) (fun hK hl => k1 h46 hl t1 (ih_rt_a f1) C1 (ih_Wr_a W f1)) (fun lt t2 e1 e2 r2 C2 W2 => ?_)
    have e := e1 (Or.inr (Or.inr (Or.inl ⟨rfl, h46⟩)))
    rw [e.2] at W2
    exact k2 h46 e.1 t2 (ih_rt_t (ih_rt_a f1) r2) C2 W2
  · refine ih_seg (i1 := 5) 2 rfl ?_
    refine ih_icmp_ne rfl (by omega) (by omega) (fun w2 => ?_) (fun w2 => ?_)
    · refine c_readMark_9 C W G hc hi hs (by omega) (fun hK hl => ?_) (fun lt t2 e1 e2 r2 C2 W2 => ?_)
      · exfalso
        have h1 : ih_knd f n st = 1 := by unfold ih_isK at hK; omega
        have := ih_knd_1.1 h1
        omega
      · have el : lt = if ih_knd f n st = 1 then ih_ltr f n st else 0 := by
          split
          · next h => exact (e1 (Or.inr (Or.inl h))).2
          · next h => exact e2 (by unfold ih_isK; omega)
        rw [el] at W2
        exact k3 (by omega) t2 r2 C2 W2
    · refine ih_seg (i1 := 7) 1 rfl ?_
      refine ih_getR rfl rfl ?_
      refine ih_iv0 38 rfl rfl (by first | rfl | exact ih_kP (ih_P_w0 hc) |  exact ih_kP (by assumption) | exact ih_kC (by assumption) | exact ih_kN (by assumption) | exact ih_kS (by assumption) | exact ih_kW (by assumption)) (Nat.le_of_ble_eq_true rfl) (Nat.le_of_ble_eq_true rfl) rfl ?_
      refine c_toNextC C (fun t1 f1 C1 => ?_)
      have h46 : ih_knd f n st = 4 ∨ ih_knd f n st = 6 := by omega
      refine c_readMark_9 C1 (ih_Wr_a W f1) G hc hi hs (by omega) (fun hK hl => k1 h46 hl t1 (ih_rt_a f1) C1 (ih_Wr_a W f1)) (fun lt t2 e1 e2 r2 C2 W2 => ?_)
      have e := e1 (Or.inr (Or.inr (Or.inl ⟨rfl, h46⟩)))
      rw [e.2] at W2
      exact k2 h46 e.1 t2 (ih_rt_t (ih_rt_a f1) r2) C2 W2


theorem c_readOn_l {X : List Int} {Q : Option xa_V → ih_S → Prop} {f : Int → Int} {n : Int} {p : Nat} {ink z : Int} (hc : p < 4) (hi : 0 ≤ ink ∧ ink < 8) (hz0 : 0 ≤ z ∧ z ≤ 12)  : ∀ (d : Nat) (m st : Int) (s : Int → Int) (t1 : ih_S) (hd : s (22 + p) + d = 13) (hm : m = s (22 + p) - z) (C : ih_TC t1 f n st) (W : ih_Wr t1 1 s) (G : ih_Gd s) (K : ih_rk t1 f n (ih_pM f n p ink z d st s) Q), ih_Wp X 48 35 [xR 82, xR (7 + 5 * p), xI ink, xI m, xI (ih_knd f n st)] [] t1 Q := by
  intro d
  induction d with
  | zero =>
    intro m st s t1 hd hm C W G K
    exfalso
    have g0 := (G.pap p hc).sz
    omega
  | succ d ih =>
    intro m st s t1 hd hm C W G K
    have g0 := (G.pap p hc).sz
    have hz := ih_W_sz W hc
    have hP := ih_P_w0 hc
    have hkr := ih_knd_rg (f := f) (n := n) (st := st)
    have hl := ih_ltr_rg (f := f) (n := n) (st := st)
    have hl1 := ih_ltr_rg (f := f) (n := n) (st := ih_adv f n st)
    refine ih_seg (i1 := 36) 1 rfl ?_
    refine ih_ifc_lt rfl (by omega) (fun w1 => ?_) (fun w1 => ?_)
    · refine ih_seg (i1 := 57) 1 rfl ?_
      refine ih_ifc_le rfl (by omega) (fun w2 => ?_) (fun w2 => ?_)
      · refine ih_seg (i1 := 61) 1 rfl ?_
        refine ih_ret rfl rfl ?_
        rw [ih_pM, if_pos (by omega), if_neg (by omega)] at K
        exact K _ (ih_rt_r _) C W G
      · refine ih_seg (i1 := 61) 2 rfl ?_
        refine ih_ret rfl rfl ?_
        rw [ih_pM, if_pos (by omega), if_pos (by omega)] at K
        exact K _ (ih_rt_r _) C W G
    · refine ih_seg (i1 := 39) 2 rfl ?_
      refine ih_icmp_ge rfl (by omega) (by omega) (fun w3 => ?_) (fun w3 => ?_)
      · refine ih_seg (i1 := 57) 1 rfl ?_
        refine ih_ifc_le rfl (by omega) (fun w4 => ?_) (fun w4 => ?_)
        · refine ih_seg (i1 := 61) 1 rfl ?_
          refine ih_ret rfl rfl ?_
          exfalso
          omega
        · refine ih_seg (i1 := 61) 2 rfl ?_
          refine ih_ret rfl rfl ?_
          exfalso
          omega
      · refine ih_seg (i1 := 41) 1 rfl ?_
        refine ih_iv0 22 rfl rfl (by first | rfl | exact ih_kP (ih_P_w0 hc) |  exact ih_kP (by assumption) | exact ih_kC (by assumption) | exact ih_kN (by assumption) | exact ih_kS (by assumption) | exact ih_kW (by assumption)) (Nat.le_of_ble_eq_true rfl) (Nat.le_of_ble_eq_true rfl) rfl ?_
        refine c_isFull hP (by omega) (fun w5 => ?_) (fun w6 => ?_)
        · refine ih_seg (i1 := 50) 2 rfl ?_
          refine ih_ret rfl rfl ?_
          rw [ih_pM, if_neg (by omega), if_pos (by omega)] at K
          exact K _ (ih_rt_r _) C W G
        · refine ih_seg (i1 := 47) 5 rfl ?_
          refine ih_iv3 50 rfl rfl (by first | rfl | exact ih_kP (ih_P_w0 hc) |  exact ih_kP (by assumption) | exact ih_kC (by assumption) | exact ih_kN (by assumption) | exact ih_kS (by assumption) | exact ih_kW (by assumption)) (Nat.le_of_ble_eq_true rfl) (Nat.le_of_ble_eq_true rfl) rfl ?_
          refine c_readMark C W G hc hi (by omega) (by omega) (fun qk ql t2 r2 C2 W2 => ?_) (fun qk ql t2 r2 C2 W2 => ?_) (fun qk t2 r2 C2 W2 => ?_)
          · refine ih_seg (i1 := 50) 2 rfl ?_
            refine ih_ret rfl rfl ?_
            rw [ih_pM, if_neg (by omega), if_neg (by omega), if_pos qk, if_pos ql] at K
            exact K t2 r2 C2 W2 G
          · refine ih_seg (i1 := 53) 3 rfl ?_
            try simp only [xa_set, List.set_cons_zero, List.set_cons_succ, List.getElem?_cons_zero, List.getElem?_cons_succ]
            refine ih_iv0 49 rfl rfl (by first | rfl | exact ih_kP (ih_P_w0 hc) |  exact ih_kP (by assumption) | exact ih_kC (by assumption) | exact ih_kN (by assumption) | exact ih_kS (by assumption) | exact ih_kW (by assumption)) (Nat.le_of_ble_eq_true rfl) (Nat.le_of_ble_eq_true rfl) rfl ?_
            refine c_kind C2 ?_
            refine ih_seg (i1 := 35) 2 rfl ?_
            try simp only [xa_set, List.set_cons_zero, List.set_cons_succ, List.getElem?_cons_zero, List.getElem?_cons_succ]
            rw [ih_pM, if_neg (by omega), if_neg (by omega), if_pos qk, if_neg (by omega)] at K
            exact ih (m + 1) _ _ t2 (by rw [ih_nm_sz]; omega) (by rw [ih_nm_sz]; omega) C2 W2 (ih_Gu_nm hc (by omega) (by omega) (by omega) hi G) (fun t3 r3 => K t3 (ih_rt_t r2 r3))
          · refine ih_seg (i1 := 53) 3 rfl ?_
            try simp only [xa_set, List.set_cons_zero, List.set_cons_succ, List.getElem?_cons_zero, List.getElem?_cons_succ]
            refine ih_iv0 49 rfl rfl (by first | rfl | exact ih_kP (ih_P_w0 hc) |  exact ih_kP (by assumption) | exact ih_kC (by assumption) | exact ih_kN (by assumption) | exact ih_kS (by assumption) | exact ih_kW (by assumption)) (Nat.le_of_ble_eq_true rfl) (Nat.le_of_ble_eq_true rfl) rfl ?_
            refine c_kind C2 ?_
            refine ih_seg (i1 := 35) 2 rfl ?_
            try simp only [xa_set, List.set_cons_zero, List.set_cons_succ, List.getElem?_cons_zero, List.getElem?_cons_succ]
            rw [ih_pM, if_neg (by omega), if_neg (by omega), if_neg qk] at K
            exact ih (m + 1) _ _ t2 (by rw [ih_nm_sz]; omega) (by rw [ih_nm_sz]; omega) C2 W2 (ih_Gu_nm hc (by omega) (by omega) (by have hk1 := ih_knd_1 (f := f) (n := n) (st := st); split <;> omega) hi G) (fun t3 r3 => K t3 (ih_rt_t r2 r3))


theorem c_readOn {X : List Int} {t : ih_S} {Q : Option xa_V → ih_S → Prop} {f : Int → Int} {n st : Int} {s : Int → Int} (C : ih_TC t f n st) (W : ih_Wr t 1 s) (G : ih_Gd s) (K : ih_rk t f n (ih_pO f n st s) Q)  : ih_Wp X 48 0 [xR 82, xC 1, xC 1, xC 1, xC 1] [] t Q := by
  refine ih_seg (i1 := 3) 3 rfl ?_
  refine ih_iv2 52 rfl rfl (by first | rfl | exact ih_kP (ih_P_w0 hc) |  exact ih_kP (by assumption) | exact ih_kC (by assumption) | exact ih_kN (by assumption) | exact ih_kS (by assumption) | exact ih_kW (by assumption)) (Nat.le_of_ble_eq_true rfl) (Nat.le_of_ble_eq_true rfl) rfl ?_
  refine c_passNumber C (by omega) (by omega) (fun q1 b1 t1 f1 k1 C1 => ?_) (fun q1 => ?_)
  · refine ih_seg (i1 := 8) 2 rfl ?_
    refine ih_getR rfl rfl ?_
    refine ih_getR rfl (by first | rfl | exact ih_fW2 (by assumption)) ?_
    refine ih_seg (i1 := 11) 1 rfl ?_
    refine ih_getI rfl rfl ?_
    obtain ⟨p, hp⟩ := Int.eq_ofNat_of_zero_le (show 0 ≤ ih_num f n st by omega)
    have hc : p < 4 := by omega
    have hpn : (ih_num f n st).toNat = p := by omega
    have g0 := (G.pap p hc).sz
    rw [k1, hp]
    refine ih_aald rfl (ih_eP hc) ?_
    refine ih_seg (i1 := 18) 5 rfl ?_
    try simp only [xa_set, List.set_cons_zero, List.set_cons_succ, List.getElem?_cons_zero, List.getElem?_cons_succ]
    refine ih_iv1 51 rfl rfl (by first | rfl | exact ih_kP (ih_P_w0 hc) |  exact ih_kP (by assumption) | exact ih_kC (by assumption) | exact ih_kN (by assumption) | exact ih_kS (by assumption) | exact ih_kW (by assumption)) (Nat.le_of_ble_eq_true rfl) (Nat.le_of_ble_eq_true rfl) rfl ?_
    refine c_passName C1 ih_t_ink (fun q2 t2 f2 C2 => ?_) (fun q2 => ?_)
    · refine ih_seg (i1 := 23) 4 rfl ?_
      refine ih_iv2 52 rfl rfl (by first | rfl | exact ih_kP (ih_P_w0 hc) |  exact ih_kP (by assumption) | exact ih_kC (by assumption) | exact ih_kN (by assumption) | exact ih_kS (by assumption) | exact ih_kW (by assumption)) (Nat.le_of_ble_eq_true rfl) (Nat.le_of_ble_eq_true rfl) rfl ?_
      refine c_passNumber C2 (by omega) (by omega) (fun q3 b3 t3 f3 k3 C3 => ?_) (fun q3 => ?_)
      · refine ih_seg (i1 := 28) 2 rfl ?_
        refine ih_getI rfl rfl ?_
        rw [k3]
        refine ih_seg (i1 := 33) 4 rfl ?_
        try simp only [xa_set, List.set_cons_zero, List.set_cons_succ, List.getElem?_cons_zero, List.getElem?_cons_succ]
        refine ih_iv0 49 rfl rfl (by first | rfl | exact ih_kP (ih_P_w0 hc) |  exact ih_kP (by assumption) | exact ih_kC (by assumption) | exact ih_kN (by assumption) | exact ih_kS (by assumption) | exact ih_kW (by assumption)) (Nat.le_of_ble_eq_true rfl) (Nat.le_of_ble_eq_true rfl) rfl ?_
        first | refine c_kind C3 ?_ | refine c_kind C1 ?_
        refine ih_seg (i1 := 35) 1 rfl ?_
        try simp only [xa_set, List.set_cons_zero, List.set_cons_succ, List.getElem?_cons_zero, List.getElem?_cons_succ]
        rw [ih_pO, if_pos ⟨q1, b1⟩, if_pos q2, if_pos ⟨q3, b3⟩, hpn, ih_pMs] at K
        exact c_readOn_l hc (by omega) (by omega) (13 - s (22 + p)).toNat 0 _ s _ (by omega) (by omega) C3 (ih_Wr_b (ih_Wr_a (ih_Wr_b W f1) f2) f3) G (fun t4 r4 => K t4 (ih_rt_t (ih_rt_t (ih_rt_b f1) (ih_rt_t (ih_rt_a f2) (ih_rt_b f3))) r4))
      · refine ih_seg (i1 := 26) 2 rfl ?_
        refine ih_ret rfl rfl ?_
        rw [ih_pO, if_pos ⟨q1, b1⟩, if_pos q2, if_neg q3] at K
        exact K _ (ih_rt_t (ih_rt_b f1) (ih_rt_a f2)) C2 (ih_Wr_a (ih_Wr_b W f1) f2) G
    · refine ih_seg (i1 := 33) 4 rfl ?_
      try simp only [xa_set, List.set_cons_zero, List.set_cons_succ, List.getElem?_cons_zero, List.getElem?_cons_succ]
      refine ih_iv0 49 rfl rfl (by first | rfl | exact ih_kP (ih_P_w0 hc) |  exact ih_kP (by assumption) | exact ih_kC (by assumption) | exact ih_kN (by assumption) | exact ih_kS (by assumption) | exact ih_kW (by assumption)) (Nat.le_of_ble_eq_true rfl) (Nat.le_of_ble_eq_true rfl) rfl ?_
      first | refine c_kind C3 ?_ | refine c_kind C1 ?_
      refine ih_seg (i1 := 35) 1 rfl ?_
      try simp only [xa_set, List.set_cons_zero, List.set_cons_succ, List.getElem?_cons_zero, List.getElem?_cons_succ]
      rw [ih_pO, if_pos ⟨q1, b1⟩, if_neg q2, hpn, ih_pMs] at K
      exact c_readOn_l hc (by omega) (by omega) (13 - s (22 + p)).toNat 0 _ s _ (by omega) (by omega) C1 (ih_Wr_b W f1) G (fun t4 r4 => K t4 (ih_rt_t (ih_rt_b f1) r4))
  · refine ih_seg (i1 := 6) 2 rfl ?_
    refine ih_ret rfl rfl ?_
    rw [ih_pO, if_neg q1] at K
    exact K _ (ih_rt_r t) C W G


theorem c_readItem {X : List Int} {t : ih_S} {Q : Option xa_V → ih_S → Prop} {f : Int → Int} {n st : Int} {s : Int → Int} (C : ih_TC t f n st) (W : ih_Wr t 1 s) (G : ih_Gd s) (K : ih_rk t f n (ih_pT f n st s) Q)  : ih_Wp X 45 0 [xR 82] [] t Q := by
  have ho := ih_pO_01 (f := f) (n := n) (st := ih_adv f n st) (s := s)
  refine ih_seg (i1 := 2) 2 rfl ?_
  refine ih_iv1 51 rfl rfl (by first | rfl | exact ih_kP (ih_P_w0 hc) |  exact ih_kP (by assumption) | exact ih_kC (by assumption) | exact ih_kN (by assumption) | exact ih_kS (by assumption) | exact ih_kW (by assumption)) (Nat.le_of_ble_eq_true rfl) (Nat.le_of_ble_eq_true rfl) rfl ?_
  refine c_passName C ih_t_ink (fun q1 t1 f1 C1 => ?_) (fun q1 => ?_)
  · refine ih_seg (i1 := 5) 2 rfl ?_
    refine ih_iv0 46 rfl rfl (by first | rfl | exact ih_kP (ih_P_w0 hc) |  exact ih_kP (by assumption) | exact ih_kC (by assumption) | exact ih_kN (by assumption) | exact ih_kS (by assumption) | exact ih_kW (by assumption)) (Nat.le_of_ble_eq_true rfl) (Nat.le_of_ble_eq_true rfl) rfl ?_
    refine c_readInk C1 (ih_Wr_a W f1) G (fun t9 r9 C9 W9 G9 => ?_)
    refine ih_ret rfl (ih_fit1 ih_pI_01) ?_
    rw [ih_pT, if_pos q1] at K
    exact K t9 (ih_rt_t (ih_rt_a f1) r9) C9 W9 G9
  · refine ih_seg (i1 := 9) 3 rfl ?_
    refine ih_iv1 51 rfl rfl (by first | rfl | exact ih_kP (ih_P_w0 hc) |  exact ih_kP (by assumption) | exact ih_kC (by assumption) | exact ih_kN (by assumption) | exact ih_kS (by assumption) | exact ih_kW (by assumption)) (Nat.le_of_ble_eq_true rfl) (Nat.le_of_ble_eq_true rfl) rfl ?_
    refine c_passName C ih_t_paper (fun q2 t2 f2 C2 => ?_) (fun q2 => ?_)
    · refine ih_seg (i1 := 12) 2 rfl ?_
      refine ih_iv0 47 rfl rfl (by first | rfl | exact ih_kP (ih_P_w0 hc) |  exact ih_kP (by assumption) | exact ih_kC (by assumption) | exact ih_kN (by assumption) | exact ih_kS (by assumption) | exact ih_kW (by assumption)) (Nat.le_of_ble_eq_true rfl) (Nat.le_of_ble_eq_true rfl) rfl ?_
      refine c_readPaper C2 (ih_Wr_a W f2) G (fun t9 r9 C9 W9 G9 => ?_)
      refine ih_ret rfl (ih_fit1 ih_pP_01) ?_
      rw [ih_pT, if_neg q1, if_pos q2] at K
      exact K t9 (ih_rt_t (ih_rt_a f2) r9) C9 W9 G9
    · refine ih_seg (i1 := 16) 3 rfl ?_
      refine ih_iv1 51 rfl rfl (by first | rfl | exact ih_kP (ih_P_w0 hc) |  exact ih_kP (by assumption) | exact ih_kC (by assumption) | exact ih_kN (by assumption) | exact ih_kS (by assumption) | exact ih_kW (by assumption)) (Nat.le_of_ble_eq_true rfl) (Nat.le_of_ble_eq_true rfl) rfl ?_
      refine c_passName C ih_t_on (fun q3 t3 f3 C3 => ?_) (fun q3 => ?_)
      · refine ih_seg (i1 := 19) 2 rfl ?_
        refine ih_iv0 48 rfl rfl (by first | rfl | exact ih_kP (ih_P_w0 hc) |  exact ih_kP (by assumption) | exact ih_kC (by assumption) | exact ih_kN (by assumption) | exact ih_kS (by assumption) | exact ih_kW (by assumption)) (Nat.le_of_ble_eq_true rfl) (Nat.le_of_ble_eq_true rfl) rfl ?_
        refine c_readOn C3 (ih_Wr_a W f3) G (fun t9 r9 C9 W9 G9 => ?_)
        refine ih_ifc_eq rfl (by omega) (fun w1 => ?_) (fun w1 => ?_)
        · refine ih_seg (i1 := 24) 1 rfl ?_
          refine ih_ret rfl rfl ?_
          rw [ih_pT, if_neg q1, if_neg q2, if_pos q3] at K
          have K9 := K t9 (ih_rt_t (ih_rt_a f3) r9) C9 W9 G9
          rw [w1] at K9
          exact K9
        · refine ih_seg (i1 := 24) 2 rfl ?_
          refine ih_ret rfl rfl ?_
          rw [ih_pT, if_neg q1, if_neg q2, if_pos q3] at K
          have K9 := K t9 (ih_rt_t (ih_rt_a f3) r9) C9 W9 G9
          rw [show (ih_pO f n (ih_adv f n st) s).1 = 1 by omega] at K9
          exact K9
      · refine ih_seg (i1 := 24) 2 rfl ?_
        refine ih_ret rfl rfl ?_
        rw [ih_pT, if_neg q1, if_neg q2, if_neg q3] at K
        exact K _ (ih_rt_r t) C W G


theorem c_readItems_l {X : List Int} {Q : Option xa_V → ih_S → Prop} {f : Int → Int} {n : Int}  : ∀ (d : Nat) (i st : Int) (s : Int → Int) (t1 : ih_S) (hd : i + d = 121) (hi : 1 ≤ i) (C : ih_TC t1 f n st) (W : ih_Wr t1 1 s) (G : ih_Gd s) (K : ∀ t2, ih_rt t1 t2 → (0 ≤ (ih_pL f n d i st s).1 → ih_Wr t2 1 (ih_pL f n d i st s).2 ∧ ih_Gd (ih_pL f n d i st s).2) → Q (some (xI (ih_pL f n d i st s).1)) t2), ih_Wp X 44 5 [xR 82, xI i] [] t1 Q := by
  intro d
  induction d with
  | zero =>
    intro i st s t1 hd hi C W G K
    have c3 : t1 80 3 = st := C.1.2.2.1
    have hr := C.2.1
    refine ih_seg (i1 := 7) 2 rfl ?_
    refine ih_icmp_gt rfl (by omega) (by omega) (fun w1 => ?_) (fun w1 => ?_)
    · refine ih_seg (i1 := 30) 2 rfl ?_
      refine ih_getR rfl rfl ?_
      refine ih_getI rfl rfl ?_
      refine ih_seg (i1 := 33) 1 rfl ?_
      try dsimp only
      refine ih_ret rfl rfl ?_
      rw [ih_pL] at K
      refine ih_Qe ?_ (K t1 (ih_rt_r _) (fun h => ?_))
      · rw [c3]
      · exfalso
        dsimp only at h
        omega
    · exfalso
      omega

  | succ d ih =>
    intro i st s t1 hd hi C W G K
    have h01 := ih_pT_01 (f := f) (n := n) (st := st) (s := s)
    refine ih_seg (i1 := 7) 2 rfl ?_
    refine ih_icmp_gt rfl (by omega) (by omega) (fun w1 => ?_) (fun w1 => ?_)
    · refine ih_seg (i1 := 30) 2 rfl ?_
      refine ih_getR rfl rfl ?_
      refine ih_getI rfl rfl ?_
      refine ih_seg (i1 := 33) 1 rfl ?_
      try dsimp only
      refine ih_ret rfl rfl ?_
      exfalso
      omega
    · refine ih_seg (i1 := 9) 1 rfl ?_
      refine ih_iv0 45 rfl rfl (by first | rfl | exact ih_kP (ih_P_w0 hc) |  exact ih_kP (by assumption) | exact ih_kC (by assumption) | exact ih_kN (by assumption) | exact ih_kS (by assumption) | exact ih_kW (by assumption)) (Nat.le_of_ble_eq_true rfl) (Nat.le_of_ble_eq_true rfl) rfl ?_
      refine c_readItem C W G (fun t2 r2 C2 W2 G2 => ?_)
      have c3 : t2 80 3 = (ih_pT f n st s).2.1 := C2.1.2.2.1
      have c4 : t2 80 4 = ih_kk f n (ih_pT f n st s).2.1 := C2.1.2.2.2.1
      have hr := C2.2.1
      have hkk := ih_kk_rg (f := f) (n := n) (st := (ih_pT f n st s).2.1)
      refine ih_ifc_eq rfl (by omega) (fun w2 => ?_) (fun w2 => ?_)
      · refine ih_seg (i1 := 30) 2 rfl ?_
        refine ih_getR rfl rfl ?_
        refine ih_getI rfl rfl ?_
        refine ih_seg (i1 := 33) 1 rfl ?_
        try dsimp only
        refine ih_ret rfl rfl ?_
        rw [ih_pL, if_pos (by omega)] at K
        refine ih_Qe ?_ (K t2 r2 (fun h => ?_))
        · rw [c3]
        · exfalso
          dsimp only at h
          omega
      · refine ih_seg (i1 := 12) 1 rfl ?_
        refine ih_getR rfl rfl ?_
        refine ih_getI rfl rfl ?_
        refine ih_ifc_ne rfl (by omega) (fun w3 => ?_) (fun w3 => ?_)
        · refine ih_seg (i1 := 18) 1 rfl ?_
          refine ih_getR rfl rfl ?_
          refine ih_getI rfl rfl ?_
          refine ih_seg (i1 := 21) 1 rfl ?_
          refine ih_icmp_eq rfl (by omega) (by omega) (fun w4 => ?_) (fun w4 => ?_)
          · refine ih_seg (i1 := 24) 1 rfl ?_
            refine ih_getR rfl rfl ?_
            refine ih_iv0 38 rfl rfl (by first | rfl | exact ih_kP (ih_P_w0 hc) |  exact ih_kP (by assumption) | exact ih_kC (by assumption) | exact ih_kN (by assumption) | exact ih_kS (by assumption) | exact ih_kW (by assumption)) (Nat.le_of_ble_eq_true rfl) (Nat.le_of_ble_eq_true rfl) rfl ?_
            refine c_toNextC C2 (fun t3 f3 C3 => ?_)
            refine ih_seg (i1 := 5) 2 rfl ?_
            try simp only [xa_set, List.set_cons_zero, List.set_cons_succ, List.getElem?_cons_zero, List.getElem?_cons_succ]
            rw [ih_pL, if_neg (by omega), if_neg (by omega), if_pos (by omega)] at K
            exact ih (i + 1) _ _ t3 (by omega) (by omega) C3 (ih_Wr_a W2 f3) G2 (fun t4 r4 => K t4 (ih_rt_t (ih_rt_t r2 (ih_rt_a f3)) r4))
          · refine ih_seg (i1 := 30) 3 rfl ?_
            refine ih_getR rfl rfl ?_
            refine ih_getI rfl rfl ?_
            refine ih_seg (i1 := 33) 1 rfl ?_
            try dsimp only
            refine ih_ret rfl rfl ?_
            rw [ih_pL, if_neg (by omega), if_neg (by omega), if_neg (by omega)] at K
            refine ih_Qe ?_ (K t2 r2 (fun h => ?_))
            · rw [c3]
            · exfalso
              dsimp only at h
              omega
        · refine ih_seg (i1 := 16) 1 rfl ?_
          refine ih_ret rfl rfl ?_
          rw [ih_pL, if_neg (by omega), if_pos (by omega)] at K
          exact K t2 r2 (fun _ => ⟨W2, G2⟩)


def v_text (f : Int → Int) (n : Int) (s : Int → Int) : Int := (ih_pL f n 120 1 (ih_sp f n 0) s).1
def g_text (f : Int → Int) (n : Int) (s : Int → Int) : Int → Int := if 0 ≤ v_text f n s then (ih_pL f n 120 1 (ih_sp f n 0) s).2 else s
theorem ih_pL_rg {f : Int → Int} {n : Int} : ∀ (d : Nat) (i st : Int) (s : Int → Int), xa_rI (i + d) ∧ 0 ≤ i → (∀ s st, 0 ≤ st ∧ st ≤ n → 0 ≤ (ih_pT f n st s).2.1 ∧ (ih_pT f n st s).2.1 ≤ n) → 0 ≤ st ∧ st ≤ n → n ≤ 120 → xa_rI (ih_pL f n d i st s).1
  | 0, i, st, s, h, hp, hs, hn => by
    rw [ih_pL]
    dsimp only
    omega
  | d + 1, i, st, s, h, hp, hs, hn => by
    have hb := hp s st hs
    rw [ih_pL]
    split
    · dsimp only
      omega
    · split
      · dsimp only
        omega
      · split
        · have ha := ih_adv_b (f := f) (n := n) (st := (ih_pT f n st s).2.1) hb.2
          exact ih_pL_rg d (i + 1) _ _ (by omega) hp (by omega) hn
        · dsimp only
          omega

theorem c_toFirst {X : List Int} {t : ih_S} {Q : Option xa_V → ih_S → Prop} {f : Int → Int} {n : Int} (T : ih_BT t f n) (hn : t 80 2 = n) (K : ∀ t1, (∀ j, j ≠ 80 → t1 j = t j) → ih_TC t1 f n (ih_sp f n 0) → Q none t1)  : ih_Wp X 37 0 [xR 80] [] t Q := by
  have hT := T.1
  refine ih_seg (i1 := 2) 2 rfl ?_
  refine ih_putI rfl rfl rfl ?_
  refine ih_seg (i1 := 4) 1 rfl ?_
  refine ih_iv0 38 rfl rfl (by first | rfl | exact ih_kP (ih_P_w0 hc) |  exact ih_kP (by assumption) | exact ih_kC (by assumption) | exact ih_kN (by assumption) | exact ih_kS (by assumption) | exact ih_kW (by assumption)) (Nat.le_of_ble_eq_true rfl) (Nat.le_of_ble_eq_true rfl) rfl ?_
  refine c_toNext (f := f) (n := n) ⟨T.1, fun k k0 k1 => by rw [ih_up_ne (by decide)]; exact T.2 k k0 k1⟩ (by rw [ih_up_eq, ih_u1_ne (by decide)]; exact hn) (by rw [ih_up_eq, ih_u1_eq]; omega) (fun t1 f1 C1 => ?_)
  rw [ih_up_eq, ih_u1_eq] at C1
  refine ih_retv rfl ?_
  exact K t1 (fun j h => (f1 j h).trans (ih_up_ne h)) C1


theorem c_readItems {X : List Int} {t : ih_S} {Q : Option xa_V → ih_S → Prop} {f : Int → Int} {n : Int} {s : Int → Int} (T : ih_BT t f n) (hn : t 80 2 = n) (W : ih_Wr t 1 s) (G : ih_Gd s) (K : ∀ t2, ih_rt t t2 → (0 ≤ v_text f n s → ih_Wr t2 1 (g_text f n s) ∧ ih_Gd (g_text f n s)) → Q (some (xI (v_text f n s))) t2)  : ih_Wp X 44 0 [xR 82, xC 1] [] t Q := by
  refine ih_seg (i1 := 1) 1 rfl ?_
  refine ih_getR rfl rfl ?_
  refine ih_iv0 37 rfl rfl (by first | rfl | exact ih_kP (ih_P_w0 hc) |  exact ih_kP (by assumption) | exact ih_kC (by assumption) | exact ih_kN (by assumption) | exact ih_kS (by assumption) | exact ih_kW (by assumption)) (Nat.le_of_ble_eq_true rfl) (Nat.le_of_ble_eq_true rfl) rfl ?_
  refine c_toFirst T hn (fun t1 f1 C1 => ?_)
  refine ih_seg (i1 := 5) 2 rfl ?_
  try simp only [xa_set, List.set_cons_zero, List.set_cons_succ, List.getElem?_cons_zero, List.getElem?_cons_succ]
  refine c_readItems_l 120 1 _ s t1 (by omega) (by omega) C1 (ih_Wr_a W f1) G (fun t2 r2 h2 => ?_)
  refine K t2 (ih_rt_t (ih_rt_a f1) r2) (fun h => ?_)
  rw [g_text, if_pos h]
  exact h2 h

