/-! texts: the reference's words and numbers -/
theorem ih_TR_of {t t1 : ih_S} {f : Int → Int} {n st : Int} (C : ih_TR t f n st) (h1 : t1 111 12 = t 111 12) (h2 : t1 111 13 = t 111 13) (h3 : t1 111 14 = t 111 14) (h4 : t1 117 = t 117) : ih_TR t1 f n st := by
  unfold ih_TR ih_BR
  rw [h1, h2, h3, h4]
  exact C

theorem r_needs {X : List Int} {t : ih_S} {Q : Option xa_V → ih_S → Prop} {f : Int → Int} {n st : Int} (C : ih_TR t f n st) {b : Int} (hb : b = 0 ∨ b = 1) (hw : t 111 16 = 0) (k1 : b = 1 → ∀ t1, (∀ j, j ≠ 111 → t1 j = t j) → (∀ g : Int, g ≠ 13 → g ≠ 14 → t1 111 g = t 111 g) → ih_TR t1 f n (ih_adv f n st) → Q none t1) (k0 : b = 0 → Q none (ih_up t 111 16 1))  : ih_Wp X 186 0 [xR 111, xI b] [] t Q := by
  have ht := ih_te_b (f := f) (n := n) (st := st) C.1.2.2.2
  have e14 := C.1.2.1
  have hst := C.1.2.2
  refine ih_seg (i1 := 2) 2 rfl ?_
  refine ih_getI rfl rfl ?_
  refine ih_ifc_ne rfl (by omega) (fun w1 => ?_) (fun w1 => ?_)
  · refine ih_seg (i1 := 9) 2 rfl ?_
    refine ih_putI rfl rfl rfl ?_
    refine ih_seg (i1 := 11) 1 rfl ?_
    refine ih_getI rfl rfl ?_
    rw [ih_up_eq, ih_u1_eq]
    refine ih_ifc_ne rfl (by omega) (fun w2 => ?_) (fun w2 => ?_)
    · refine ih_retv rfl ?_
      first
        | (exfalso
           omega)
        | exact k0 (by omega)
        | (refine k1 (by omega) t1 (fun j h => (f1 j h).trans (ih_up_ne h)) (fun g h h2 => ?_) C1
           rw [g1 g h h2]
           by_cases e : g = 16
           · rw [e, ih_up_eq, ih_u1_eq, hw]
           · rw [ih_up_eq, ih_u1_ne e])
    · refine ih_seg (i1 := 14) 1 rfl ?_
      refine ih_iv0 185 rfl rfl (by first | rfl | exact ih_kP (ih_P_w0 hc) |  exact ih_kP (by assumption) | exact ih_kC (by assumption) | exact ih_kN (by assumption) | exact ih_kS (by assumption) | exact ih_kW (by assumption)) (Nat.le_of_ble_eq_true rfl) (Nat.le_of_ble_eq_true rfl) rfl ?_
      refine r_token (f := f) (n := n) (ih_BR_of C.2 (by rw [ih_up_eq, ih_u1_ne (by decide)]) (ih_up_ne (by decide))) (by rw [ih_up_eq, ih_u1_ne (by decide)]; omega) (fun t1 f1 g1 C1 => ?_)
      rw [ih_up_eq, ih_u1_ne (by decide), e14] at C1
      refine ih_retv rfl ?_
      first
        | (exfalso
           omega)
        | exact k0 (by omega)
        | (refine k1 (by omega) t1 (fun j h => (f1 j h).trans (ih_up_ne h)) (fun g h h2 => ?_) C1
           rw [g1 g h h2]
           by_cases e : g = 16
           · rw [e, ih_up_eq, ih_u1_eq, hw]
           · rw [ih_up_eq, ih_u1_ne e])
  · refine ih_seg (i1 := 5) 1 rfl ?_
    refine ih_ifc_ne rfl (by omega) (fun w3 => ?_) (fun w3 => ?_)
    · refine ih_seg (i1 := 9) 1 rfl ?_
      refine ih_putI rfl rfl rfl ?_
      refine ih_seg (i1 := 11) 1 rfl ?_
      refine ih_getI rfl rfl ?_
      rw [ih_up_eq, ih_u1_eq]
      refine ih_ifc_ne rfl (by omega) (fun w4 => ?_) (fun w4 => ?_)
      · refine ih_retv rfl ?_
        first
          | (exfalso
             omega)
          | exact k0 (by omega)
          | (refine k1 (by omega) t1 (fun j h => (f1 j h).trans (ih_up_ne h)) (fun g h h2 => ?_) C1
             rw [g1 g h h2]
             by_cases e : g = 16
             · rw [e, ih_up_eq, ih_u1_eq, hw]
             · rw [ih_up_eq, ih_u1_ne e])
      · refine ih_seg (i1 := 14) 1 rfl ?_
        refine ih_iv0 185 rfl rfl (by first | rfl | exact ih_kP (ih_P_w0 hc) |  exact ih_kP (by assumption) | exact ih_kC (by assumption) | exact ih_kN (by assumption) | exact ih_kS (by assumption) | exact ih_kW (by assumption)) (Nat.le_of_ble_eq_true rfl) (Nat.le_of_ble_eq_true rfl) rfl ?_
        refine r_token (f := f) (n := n) (ih_BR_of C.2 (by rw [ih_up_eq, ih_u1_ne (by decide)]) (ih_up_ne (by decide))) (by rw [ih_up_eq, ih_u1_ne (by decide)]; omega) (fun t1 f1 g1 C1 => ?_)
        rw [ih_up_eq, ih_u1_ne (by decide), e14] at C1
        refine ih_retv rfl ?_
        first
          | (exfalso
             omega)
          | exact k0 (by omega)
          | (refine k1 (by omega) t1 (fun j h => (f1 j h).trans (ih_up_ne h)) (fun g h h2 => ?_) C1
             rw [g1 g h h2]
             by_cases e : g = 16
             · rw [e, ih_up_eq, ih_u1_eq, hw]
             · rw [ih_up_eq, ih_u1_ne e])
    · refine ih_seg (i1 := 9) 2 rfl ?_
      refine ih_putI rfl rfl rfl ?_
      refine ih_seg (i1 := 11) 1 rfl ?_
      refine ih_getI rfl rfl ?_
      rw [ih_up_eq, ih_u1_eq]
      refine ih_ifc_ne rfl (by omega) (fun w5 => ?_) (fun w5 => ?_)
      · refine ih_retv rfl ?_
        first
          | (exfalso
             omega)
          | exact k0 (by omega)
          | (refine k1 (by omega) t1 (fun j h => (f1 j h).trans (ih_up_ne h)) (fun g h h2 => ?_) C1
             rw [g1 g h h2]
             by_cases e : g = 16
             · rw [e, ih_up_eq, ih_u1_eq, hw]
             · rw [ih_up_eq, ih_u1_ne e])
      · refine ih_seg (i1 := 14) 1 rfl ?_
        refine ih_iv0 185 rfl rfl (by first | rfl | exact ih_kP (ih_P_w0 hc) |  exact ih_kP (by assumption) | exact ih_kC (by assumption) | exact ih_kN (by assumption) | exact ih_kS (by assumption) | exact ih_kW (by assumption)) (Nat.le_of_ble_eq_true rfl) (Nat.le_of_ble_eq_true rfl) rfl ?_
        refine r_token (f := f) (n := n) (ih_BR_of C.2 (by rw [ih_up_eq, ih_u1_ne (by decide)]) (ih_up_ne (by decide))) (by rw [ih_up_eq, ih_u1_ne (by decide)]; omega) (fun t1 f1 g1 C1 => ?_)
        rw [ih_up_eq, ih_u1_ne (by decide), e14] at C1
        refine ih_retv rfl ?_
        first
          | (exfalso
             omega)
          | exact k0 (by omega)
          | (refine k1 (by omega) t1 (fun j h => (f1 j h).trans (ih_up_ne h)) (fun g h h2 => ?_) C1
             rw [g1 g h h2]
             by_cases e : g = 16
             · rw [e, ih_up_eq, ih_u1_eq, hw]
             · rw [ih_up_eq, ih_u1_ne e])


theorem r_word_any {X : List Int} {t : ih_S} {Q : Option xa_V → ih_S → Prop} {f : Int → Int} {n st : Int} (C : ih_TR t f n st) (K : ∀ v i : Int, ih_Wp X 187 29 [xR 111, xL v, xC 1, xI i] [] t Q)  : ∀ (d : Nat) (v i : Int) (hd : i + d = ih_te f n st) (hi : st ≤ i), ih_Wp X 187 5 [xR 111, xL v, xC 1, xI i] [] t Q := by
  intro d
  induction d with
  | zero =>
    intro v i hd hi
    have e14 := C.1.2.1
    have hst := C.1.2.2
    have hn := C.2.2.1
    have ht := ih_te_b (f := f) (n := n) (st := st) hst.2
    refine ih_seg (i1 := 7) 2 rfl ?_
    refine ih_getI rfl rfl ?_
    refine ih_icmp_ge rfl (by omega) (by omega) (fun w1 => ?_) (fun w1 => ?_)
    · exact K _ _
    · exfalso
      omega

  | succ d ih =>
    intro v i hd hi
    have e14 := C.1.2.1
    have hst := C.1.2.2
    have hn := C.2.2.1
    have ht := ih_te_b (f := f) (n := n) (st := st) hst.2
    have ebi : t 117 i = f i := (C.2.2.2 i (by omega) (by omega)).1
    have bri := (C.2.2.2 i (by omega) (by omega)).2
    refine ih_seg (i1 := 7) 2 rfl ?_
    refine ih_getI rfl rfl ?_
    refine ih_icmp_ge rfl (by omega) (by omega) (fun w1 => ?_) (fun w1 => ?_)
    · exfalso
      omega
    · refine ih_seg (i1 := 11) 2 rfl ?_
      refine ih_lcmp_any rfl (fun z hz _ => ?_)
      refine ih_ifc_le rfl (by omega) (fun w2 => ?_) (fun w2 => ?_)
      · refine ih_seg (i1 := 19) 4 rfl ?_
        try dsimp only
        refine ih_getR rfl rfl ?_
        refine ih_seg (i1 := 21) 1 rfl ?_
        refine ih_iald rfl (by first | rfl | exact ih_lP1 (ih_P_w0 hc) | exact ih_lP2 (ih_P_w0 hc) | exact ih_lP3 (ih_P_w0 hc) | exact ih_lP4 (ih_P_w0 hc) |  exact ih_lP1 (by assumption) | exact ih_lP2 (by assumption) | exact ih_lP3 (by assumption) | exact ih_lP4 (by assumption) | exact ih_lC1 (by assumption) | exact ih_lS1 (by assumption) | exact ih_lW1 (by assumption) | exact ih_lW2 (by assumption) | exact ih_lW4 (by assumption) | exact ih_lW5 (by assumption)) (by omega) (by omega) (k := ?_)
        refine ih_seg (i1 := 24) 2 rfl ?_
        try dsimp only
        refine ih_i2l rfl (by omega) ?_
        refine ih_seg (i1 := 5) 4 rfl ?_
        try simp only [xa_set, List.set_cons_zero, List.set_cons_succ, List.getElem?_cons_zero, List.getElem?_cons_succ]
        exact ih _ (i + 1) (by omega) (by omega)
      · refine ih_seg (i1 := 5) 5 rfl ?_
        try simp only [xa_set, List.set_cons_zero, List.set_cons_succ, List.getElem?_cons_zero, List.getElem?_cons_succ]
        exact ih _ (i + 1) (by omega) (by omega)


theorem r_word_l {X : List Int} {t : ih_S} {Q : Option xa_V → ih_S → Prop} {f : Int → Int} {n st : Int} (C : ih_TR t f n st) (hk : ih_kk f n st = 1) (K : ∀ i : Int, ih_Wp X 187 29 [xR 111, xL (ih_word f n st), xC 1, xI i] [] t Q)  : ∀ (d : Nat) (v i : Int) (hd : i + d = ih_te f n st) (hi : st ≤ i) (hv0 : 0 ≤ v ∧ v ≤ 1152921504606847000) (hw : ih_wd f d i v = ih_word f n st), ih_Wp X 187 5 [xR 111, xL v, xC 1, xI i] [] t Q := by
  intro d
  induction d with
  | zero =>
    intro v i hd hi hv0 hw
    have e14 := C.1.2.1
    have hst := C.1.2.2
    have hn := C.2.2.1
    have ht := ih_te_b (f := f) (n := n) (st := st) hst.2
    refine ih_seg (i1 := 7) 2 rfl ?_
    refine ih_getI rfl rfl ?_
    refine ih_icmp_ge rfl (by omega) (by omega) (fun w1 => ?_) (fun w1 => ?_)
    · rw [show v = ih_word f n st from hw]
      exact K _
    · exfalso
      omega

  | succ d ih =>
    intro v i hd hi hv0 hw
    have e14 := C.1.2.1
    have hst := C.1.2.2
    have hn := C.2.2.1
    have ht := ih_te_b (f := f) (n := n) (st := st) hst.2
    have ebi : t 117 i = f i := (C.2.2.2 i (by omega) (by omega)).1
    have bri := (C.2.2.2 i (by omega) (by omega)).2
    have hls := (ih_te_ls hk).2 i hi (by omega)
    refine ih_seg (i1 := 7) 2 rfl ?_
    refine ih_getI rfl rfl ?_
    refine ih_icmp_ge rfl (by omega) (by omega) (fun w1 => ?_) (fun w1 => ?_)
    · exfalso
      omega
    · refine ih_seg (i1 := 11) 2 rfl ?_
      refine ih_lcmp_any rfl (fun z hz hv => ?_)
      have hz0 := hv (by omega) (by omega)
      have hz2 : z ≤ 0 ↔ v ≤ 36028797018963967 := by
        rw [hz0]
        split
        · omega
        · split <;> omega
      refine ih_ifc_le rfl (by omega) (fun w2 => ?_) (fun w2 => ?_)
      · refine ih_seg (i1 := 19) 4 rfl ?_
        try dsimp only
        refine ih_getR rfl rfl ?_
        refine ih_seg (i1 := 21) 1 rfl ?_
        refine ih_iald rfl (by first | rfl | exact ih_lP1 (ih_P_w0 hc) | exact ih_lP2 (ih_P_w0 hc) | exact ih_lP3 (ih_P_w0 hc) | exact ih_lP4 (ih_P_w0 hc) |  exact ih_lP1 (by assumption) | exact ih_lP2 (by assumption) | exact ih_lP3 (by assumption) | exact ih_lP4 (by assumption) | exact ih_lC1 (by assumption) | exact ih_lS1 (by assumption) | exact ih_lW1 (by assumption) | exact ih_lW2 (by assumption) | exact ih_lW4 (by assumption) | exact ih_lW5 (by assumption)) (by omega) (by omega) (k := ?_)
        rw [ebi]
        refine ih_seg (i1 := 24) 2 rfl ?_
        try dsimp only
        refine ih_i2l rfl (by omega) ?_
        refine ih_seg (i1 := 5) 4 rfl ?_
        try simp only [xa_set, List.set_cons_zero, List.set_cons_succ, List.getElem?_cons_zero, List.getElem?_cons_succ]
        first
          | (exfalso
             omega)
          | (have ew : ih_ws v (f i) = v := if_pos (by omega)
             rw [ih_wd, ew] at hw
             exact ih _ (i + 1) (by omega) (by omega) hv0 hw)
          | (have ew : ih_ws v (f i) = 32 * v + (f i - 96) := ih_ws_s (by omega)
             have er := ih_ws_rg hv0 hls
             rw [ih_wd, ew] at hw
             rw [ew] at er
             exact ih _ (i + 1) (by omega) (by omega) er hw)
      · refine ih_seg (i1 := 5) 5 rfl ?_
        try simp only [xa_set, List.set_cons_zero, List.set_cons_succ, List.getElem?_cons_zero, List.getElem?_cons_succ]
        first
          | (exfalso
             omega)
          | (have ew : ih_ws v (f i) = v := if_pos (by omega)
             rw [ih_wd, ew] at hw
             exact ih _ (i + 1) (by omega) (by omega) hv0 hw)
          | (have ew : ih_ws v (f i) = 32 * v + (f i - 96) := ih_ws_s (by omega)
             have er := ih_ws_rg hv0 hls
             rw [ih_wd, ew] at hw
             rw [ew] at er
             exact ih _ (i + 1) (by omega) (by omega) er hw)


theorem r_word_29 {X : List Int} {t : ih_S} {Q : Option xa_V → ih_S → Prop} {f : Int → Int} {n st : Int} (C : ih_TR t f n st) {v i : Int} (hw : t 111 16 = 0 ∨ t 111 16 = 1) (hv : t 111 16 = 0 → ih_kk f n st = 1 → v = ih_word f n st) (K : Q (some (xL (if t 111 16 = 0 then ih_word f n st else 0))) t)  : ih_Wp X 187 29 [xR 111, xL v, xC 1, xI i] [] t Q := by
  have hst := C.1.2.2
  have hn := C.2.2.1
  have hbl := ih_ba_l (f := f) (n := n) (i := st)
  have hba := ih_ba_rg C.2 hst.1
  have hk := ih_kk1 (f := f) (n := n) (st := st)
  refine ih_seg (i1 := 30) 1 rfl ?_
  refine ih_getI rfl rfl ?_
  refine ih_ifc_ne rfl (by omega) (fun w1 => ?_) (fun w1 => ?_)
  · refine ih_seg (i1 := 41) 2 rfl ?_
    refine ih_retl rfl ?_
    first
      | (rw [if_neg (by omega)] at K
         exact K)
      | (rw [if_pos (by omega), ← hv (by omega) (by omega)] at K
         exact K)
      | (rw [if_pos (by omega), ih_word, if_neg (by omega)] at K
         exact K)
  · refine ih_seg (i1 := 34) 2 rfl ?_
    refine ih_getI rfl rfl ?_
    refine ih_iv1 182 rfl rfl (by first | rfl | exact ih_kP (ih_P_w0 hc) |  exact ih_kP (by assumption) | exact ih_kC (by assumption) | exact ih_kN (by assumption) | exact ih_kS (by assumption) | exact ih_kW (by assumption)) (Nat.le_of_ble_eq_true rfl) (Nat.le_of_ble_eq_true rfl) rfl ?_
    rw [C.1.1]
    refine r_byteAt C.2 (by omega) ?_
    refine ih_is1 183 rfl rfl (Nat.le_of_ble_eq_true rfl) (Nat.le_of_ble_eq_true rfl) rfl ?_
    refine r_isL (by omega) (fun w2 => ?_) (fun w3 => ?_)
    · refine ih_seg (i1 := 41) 2 rfl ?_
      refine ih_retl rfl ?_
      first
        | (rw [if_neg (by omega)] at K
           exact K)
        | (rw [if_pos (by omega), ← hv (by omega) (by omega)] at K
           exact K)
        | (rw [if_pos (by omega), ih_word, if_neg (by omega)] at K
           exact K)
    · refine ih_seg (i1 := 41) 3 rfl ?_
      refine ih_retl rfl ?_
      first
        | (rw [if_neg (by omega)] at K
           exact K)
        | (rw [if_pos (by omega), ← hv (by omega) (by omega)] at K
           exact K)
        | (rw [if_pos (by omega), ih_word, if_neg (by omega)] at K
           exact K)


theorem r_word {X : List Int} {t : ih_S} {Q : Option xa_V → ih_S → Prop} {f : Int → Int} {n st : Int} (C : ih_TR t f n st) (hw : t 111 16 = 0 ∨ t 111 16 = 1) (K : Q (some (xL (if t 111 16 = 0 then ih_word f n st else 0))) t)  : ih_Wp X 187 0 [xR 111, xC 1, xC 1, xC 1] [] t Q := by
  have hst := C.1.2.2
  have ht := ih_te_b (f := f) (n := n) (st := st) hst.2
  refine ih_seg (i1 := 3) 3 rfl ?_
  try simp only [xa_set, List.set_cons_zero, List.set_cons_succ, List.getElem?_cons_zero, List.getElem?_cons_succ]
  refine ih_getI rfl rfl ?_
  rw [C.1.1]
  refine ih_seg (i1 := 5) 1 rfl ?_
  try simp only [xa_set, List.set_cons_zero, List.set_cons_succ, List.getElem?_cons_zero, List.getElem?_cons_succ]
  by_cases hk : ih_kk f n st = 1
  · exact r_word_l C hk (fun i => r_word_29 C hw (fun _ _ => rfl) K) (ih_te f n st - st).toNat 0 st (by omega) (by omega) (by omega) (by rw [ih_word, if_pos hk])
  · exact r_word_any C (fun v i => r_word_29 C hw (fun _ q => absurd q hk) K) (ih_te f n st - st).toNat 0 st (by omega) (by omega)


theorem r_number_w {X : List Int} {t : ih_S} {Q : Option xa_V → ih_S → Prop} {lo hi : Int} (hw : t 111 16 = 1) (K : Q none t)  : ih_Wp X 188 0 [xR 111, xI lo, xI hi, xC 1, xC 1, xC 1] [] t Q := by
  refine ih_seg (i1 := 1) 1 rfl ?_
  refine ih_getI rfl rfl ?_
  refine ih_ifc_eq rfl (by omega) (fun w1 => ?_) (fun w1 => ?_)
  · exfalso
    omega
  · refine ih_retv rfl ?_
    exact K


theorem ih_te_ds {f : Int → Int} {n st : Int} (h : ih_kk f n st = 2) (x : Int) (a : st ≤ x) (b : x < ih_te f n st) : 48 ≤ f x ∧ f x ≤ 57 := by
  have q := ih_kk2.1 h
  have e : ih_te f n st = ih_de f n st := by rw [ih_te, if_neg (by omega), if_neg (by omega), if_pos (by omega)]
  have := ih_fst_in (P := fun i => decide (¬ (48 ≤ f i ∧ f i ≤ 57))) (n := (n - st).toNat) x a (by unfold ih_de at e; omega)
  have := of_decide_eq_false this
  omega

theorem r_number_l {X : List Int} {t : ih_S} {Q : Option xa_V → ih_S → Prop} {f : Int → Int} {n st : Int} (C : ih_TR t f n st) {lo hi : Int} (hk : ih_kk f n st = 2) (K : ih_Wp X 188 39 [xR 111, xI lo, xI hi, xI 1, xI (ih_num f n st), xI (ih_te f n st)] [] t Q)  : ∀ (d : Nat) (v i : Int) (hd : i + d = ih_te f n st) (hi0 : st ≤ i) (hv0 : 0 ≤ v ∧ v ≤ 99999) (hw : ih_nv f d i v = ih_num f n st), ih_Wp X 188 15 [xR 111, xI lo, xI hi, xI 1, xI v, xI i] [] t Q := by
  intro d
  induction d with
  | zero =>
    intro v i hd hi0 hv0 hw
    have e14 := C.1.2.1
    have hst := C.1.2.2
    have hn := C.2.2.1
    have ht := ih_te_b (f := f) (n := n) (st := st) hst.2
    refine ih_seg (i1 := 17) 2 rfl ?_
    refine ih_getI rfl rfl ?_
    refine ih_icmp_ge rfl (by omega) (by omega) (fun w1 => ?_) (fun w1 => ?_)
    · rw [show v = ih_num f n st from hw, show i = ih_te f n st by omega]
      exact K
    · exfalso
      omega

  | succ d ih =>
    intro v i hd hi0 hv0 hw
    have e14 := C.1.2.1
    have hst := C.1.2.2
    have hn := C.2.2.1
    have ht := ih_te_b (f := f) (n := n) (st := st) hst.2
    have ebi : t 117 i = f i := (C.2.2.2 i (by omega) (by omega)).1
    have bri := (C.2.2.2 i (by omega) (by omega)).2
    have hds := ih_te_ds hk i hi0 (by omega)
    refine ih_seg (i1 := 17) 2 rfl ?_
    refine ih_getI rfl rfl ?_
    refine ih_icmp_ge rfl (by omega) (by omega) (fun w1 => ?_) (fun w1 => ?_)
    · exfalso
      omega
    · refine ih_seg (i1 := 20) 1 rfl ?_
      refine ih_ifc_eq rfl (by omega) (fun w2 => ?_) (fun w2 => ?_)
      · exfalso
        omega
      · refine ih_seg (i1 := 23) 2 rfl ?_
        refine ih_icmp_le rfl (by omega) (by omega) (fun w3 => ?_) (fun w3 => ?_)
        · refine ih_seg (i1 := 30) 4 rfl ?_
          try dsimp only
          refine ih_getR rfl rfl ?_
          refine ih_seg (i1 := 32) 1 rfl ?_
          refine ih_iald rfl (by first | rfl | exact ih_lP1 (ih_P_w0 hc) | exact ih_lP2 (ih_P_w0 hc) | exact ih_lP3 (ih_P_w0 hc) | exact ih_lP4 (ih_P_w0 hc) |  exact ih_lP1 (by assumption) | exact ih_lP2 (by assumption) | exact ih_lP3 (by assumption) | exact ih_lP4 (by assumption) | exact ih_lC1 (by assumption) | exact ih_lS1 (by assumption) | exact ih_lW1 (by assumption) | exact ih_lW2 (by assumption) | exact ih_lW4 (by assumption) | exact ih_lW5 (by assumption)) (by omega) (by omega) (k := ?_)
          rw [ebi]
          refine ih_seg (i1 := 15) 6 rfl ?_
          try simp only [xa_set, List.set_cons_zero, List.set_cons_succ, List.getElem?_cons_zero, List.getElem?_cons_succ]
          first
            | (exfalso
               omega)
            | (rw [ih_nv, if_neg (by omega)] at hw
               exact ih _ (i + 1) (by omega) (by omega) hv0 hw)
            | (rw [ih_nv, if_pos (by omega)] at hw
               exact ih _ (i + 1) (by omega) (by omega) (by omega) hw)
        · refine ih_seg (i1 := 15) 5 rfl ?_
          try simp only [xa_set, List.set_cons_zero, List.set_cons_succ, List.getElem?_cons_zero, List.getElem?_cons_succ]
          first
            | (exfalso
               omega)
            | (rw [ih_nv, if_neg (by omega)] at hw
               exact ih _ (i + 1) (by omega) (by omega) hv0 hw)
            | (rw [ih_nv, if_pos (by omega)] at hw
               exact ih _ (i + 1) (by omega) (by omega) (by omega) hw)


theorem r_number_39 {X : List Int} {t : ih_S} {Q : Option xa_V → ih_S → Prop} {f : Int → Int} {n st : Int} (C : ih_TR t f n st) {lo hi l v i : Int} (hlo : xa_rI lo) (hhi : xa_rI hi) (hl : (l = 1 ∧ ih_kk f n st = 2 ∧ v = ih_num f n st) ∨ (l = 0 ∧ ih_kk f n st ≠ 2 ∧ v = 0)) (hw : t 111 16 = 0) (kt : ih_kk f n st = 2 ∧ lo ≤ ih_num f n st ∧ ih_num f n st ≤ hi → ∀ t1, (∀ j, j ≠ 111 → t1 j = t j) → (∀ g : Int, g ≠ 13 → g ≠ 14 → g ≠ 15 → t1 111 g = t 111 g) → t1 111 15 = ih_num f n st → ih_TR t1 f n (ih_adv f n st) → Q none t1) (kf : ¬ (ih_kk f n st = 2 ∧ lo ≤ ih_num f n st ∧ ih_num f n st ≤ hi) → ∀ t1, (∀ j, j ≠ 111 → t1 j = t j) → (∀ g : Int, g ≠ 15 → g ≠ 16 → t1 111 g = t 111 g) → t1 111 16 = 1 → Q none t1)  : ih_Wp X 188 39 [xR 111, xI lo, xI hi, xI l, xI v, xI i] [] t Q := by
  have hm := ih_num_rg (f := f) (n := n) (st := st)
  refine ih_seg (i1 := 41) 2 rfl ?_
  refine ih_putI rfl rfl rfl ?_
  refine ih_seg (i1 := 44) 2 rfl ?_
  refine ih_ifc_eq rfl (by omega) (fun w1 => ?_) (fun w1 => ?_)
  · refine ih_seg (i1 := 56) 1 rfl ?_
    refine ih_iv1 186 rfl rfl (by first | rfl | exact ih_kP (ih_P_w0 hc) |  exact ih_kP (by assumption) | exact ih_kC (by assumption) | exact ih_kN (by assumption) | exact ih_kS (by assumption) | exact ih_kW (by assumption)) (Nat.le_of_ble_eq_true rfl) (Nat.le_of_ble_eq_true rfl) rfl ?_
    refine r_needs (f := f) (n := n) (st := st) (ih_TR_of C (by rw [ih_up_eq, ih_u1_ne (by decide)]) (by rw [ih_up_eq, ih_u1_ne (by decide)]) (by rw [ih_up_eq, ih_u1_ne (by decide)]) (ih_up_ne (by decide))) (by omega) (by rw [ih_up_eq, ih_u1_ne (by decide)]; exact hw) (fun hb1 t1 f1 g1 C1 => ?_) (fun hb0 => ?_)
    · refine ih_retv rfl ?_
      first
        | (exfalso
           omega)
        | (refine kt (by omega) t1 (fun j h => (f1 j h).trans (ih_up_ne h)) (fun g h h2 h3 => by rw [g1 g h h2, ih_up_eq, ih_u1_ne h3]) ?_ C1
           rw [g1 15 (by decide) (by decide), ih_up_eq, ih_u1_eq]
           omega)
    · refine ih_retv rfl ?_
      first
        | (exfalso
           omega)
        | (refine kf (by omega) _ (fun j h => by rw [ih_up_ne h, ih_up_ne h]) (fun g h h2 => by rw [ih_up_eq, ih_u1_ne h2, ih_up_eq, ih_u1_ne h]) ?_
           rw [ih_up_eq, ih_u1_eq])
  · refine ih_seg (i1 := 46) 1 rfl ?_
    refine ih_i2l rfl (by omega) ?_
    refine ih_seg (i1 := 48) 1 rfl ?_
    refine ih_i2l rfl (by omega) ?_
    refine ih_seg (i1 := 50) 1 rfl ?_
    refine ih_i2l rfl (by omega) ?_
    refine ih_is3 126 rfl rfl (Nat.le_of_ble_eq_true rfl) (Nat.le_of_ble_eq_true rfl) rfl ?_
    refine r_in (by omega) (by omega) (by omega) (fun w2 => ?_) (fun w3 => ?_)
    · refine ih_seg (i1 := 56) 3 rfl ?_
      refine ih_iv1 186 rfl rfl (by first | rfl | exact ih_kP (ih_P_w0 hc) |  exact ih_kP (by assumption) | exact ih_kC (by assumption) | exact ih_kN (by assumption) | exact ih_kS (by assumption) | exact ih_kW (by assumption)) (Nat.le_of_ble_eq_true rfl) (Nat.le_of_ble_eq_true rfl) rfl ?_
      refine r_needs (f := f) (n := n) (st := st) (ih_TR_of C (by rw [ih_up_eq, ih_u1_ne (by decide)]) (by rw [ih_up_eq, ih_u1_ne (by decide)]) (by rw [ih_up_eq, ih_u1_ne (by decide)]) (ih_up_ne (by decide))) (by omega) (by rw [ih_up_eq, ih_u1_ne (by decide)]; exact hw) (fun hb1 t1 f1 g1 C1 => ?_) (fun hb0 => ?_)
      · refine ih_retv rfl ?_
        first
          | (exfalso
             omega)
          | (refine kt (by omega) t1 (fun j h => (f1 j h).trans (ih_up_ne h)) (fun g h h2 h3 => by rw [g1 g h h2, ih_up_eq, ih_u1_ne h3]) ?_ C1
             rw [g1 15 (by decide) (by decide), ih_up_eq, ih_u1_eq]
             omega)
      · refine ih_retv rfl ?_
        first
          | (exfalso
             omega)
          | (refine kf (by omega) _ (fun j h => by rw [ih_up_ne h, ih_up_ne h]) (fun g h h2 => by rw [ih_up_eq, ih_u1_ne h2, ih_up_eq, ih_u1_ne h]) ?_
             rw [ih_up_eq, ih_u1_eq])
    · refine ih_seg (i1 := 56) 2 rfl ?_
      refine ih_iv1 186 rfl rfl (by first | rfl | exact ih_kP (ih_P_w0 hc) |  exact ih_kP (by assumption) | exact ih_kC (by assumption) | exact ih_kN (by assumption) | exact ih_kS (by assumption) | exact ih_kW (by assumption)) (Nat.le_of_ble_eq_true rfl) (Nat.le_of_ble_eq_true rfl) rfl ?_
      refine r_needs (f := f) (n := n) (st := st) (ih_TR_of C (by rw [ih_up_eq, ih_u1_ne (by decide)]) (by rw [ih_up_eq, ih_u1_ne (by decide)]) (by rw [ih_up_eq, ih_u1_ne (by decide)]) (ih_up_ne (by decide))) (by omega) (by rw [ih_up_eq, ih_u1_ne (by decide)]; exact hw) (fun hb1 t1 f1 g1 C1 => ?_) (fun hb0 => ?_)
      · refine ih_retv rfl ?_
        first
          | (exfalso
             omega)
          | (refine kt (by omega) t1 (fun j h => (f1 j h).trans (ih_up_ne h)) (fun g h h2 h3 => by rw [g1 g h h2, ih_up_eq, ih_u1_ne h3]) ?_ C1
             rw [g1 15 (by decide) (by decide), ih_up_eq, ih_u1_eq]
             omega)
      · refine ih_retv rfl ?_
        first
          | (exfalso
             omega)
          | (refine kf (by omega) _ (fun j h => by rw [ih_up_ne h, ih_up_ne h]) (fun g h h2 => by rw [ih_up_eq, ih_u1_ne h2, ih_up_eq, ih_u1_ne h]) ?_
             rw [ih_up_eq, ih_u1_eq])


theorem ih_te_d {f : Int → Int} {n st : Int} (h : ih_kk f n st = 2) : ih_te f n st = ih_de f n st := by
  have q := ih_kk2.1 h
  rw [ih_te, if_neg (by omega), if_neg (by omega), if_pos (by omega)]

theorem r_number {X : List Int} {t : ih_S} {Q : Option xa_V → ih_S → Prop} {f : Int → Int} {n st : Int} (C : ih_TR t f n st) {lo hi : Int} (hlo : xa_rI lo) (hhi : xa_rI hi) (hw : t 111 16 = 0) (kt : ih_kk f n st = 2 ∧ lo ≤ ih_num f n st ∧ ih_num f n st ≤ hi → ∀ t1, (∀ j, j ≠ 111 → t1 j = t j) → (∀ g : Int, g ≠ 13 → g ≠ 14 → g ≠ 15 → t1 111 g = t 111 g) → t1 111 15 = ih_num f n st → ih_TR t1 f n (ih_adv f n st) → Q none t1) (kf : ¬ (ih_kk f n st = 2 ∧ lo ≤ ih_num f n st ∧ ih_num f n st ≤ hi) → ∀ t1, (∀ j, j ≠ 111 → t1 j = t j) → (∀ g : Int, g ≠ 15 → g ≠ 16 → t1 111 g = t 111 g) → t1 111 16 = 1 → Q none t1)  : ih_Wp X 188 0 [xR 111, xI lo, xI hi, xC 1, xC 1, xC 1] [] t Q := by
  have hst := C.1.2.2
  have hn := C.2.2.1
  have e14 := C.1.2.1
  have ht := ih_te_b (f := f) (n := n) (st := st) hst.2
  have hbd := ih_ba_d (f := f) (n := n) (i := st)
  have hba := ih_ba_rg C.2 hst.1
  have hk := ih_kk2 (f := f) (n := n) (st := st)
  refine ih_seg (i1 := 1) 1 rfl ?_
  refine ih_getI rfl rfl ?_
  refine ih_ifc_eq rfl (by omega) (fun w1 => ?_) (fun w1 => ?_)
  · refine ih_seg (i1 := 6) 2 rfl ?_
    refine ih_getI rfl rfl ?_
    refine ih_iv1 182 rfl rfl (by first | rfl | exact ih_kP (ih_P_w0 hc) |  exact ih_kP (by assumption) | exact ih_kC (by assumption) | exact ih_kN (by assumption) | exact ih_kS (by assumption) | exact ih_kW (by assumption)) (Nat.le_of_ble_eq_true rfl) (Nat.le_of_ble_eq_true rfl) rfl ?_
    rw [C.1.1]
    refine r_byteAt C.2 (by omega) ?_
    refine ih_is1 184 rfl rfl (Nat.le_of_ble_eq_true rfl) (Nat.le_of_ble_eq_true rfl) rfl ?_
    refine r_isD (by omega) (fun w2 => ?_) (fun w3 => ?_)
    · refine ih_seg (i1 := 13) 4 rfl ?_
      try simp only [xa_set, List.set_cons_zero, List.set_cons_succ, List.getElem?_cons_zero, List.getElem?_cons_succ]
      refine ih_getI rfl rfl ?_
      rw [C.1.1]
      refine ih_seg (i1 := 15) 1 rfl ?_
      try simp only [xa_set, List.set_cons_zero, List.set_cons_succ, List.getElem?_cons_zero, List.getElem?_cons_succ]
      have hk2 := hk.2 (by omega)
      exact r_number_l C hk2 (r_number_39 C hlo hhi (Or.inl ⟨rfl, hk2, rfl⟩) hw kt kf) (ih_te f n st - st).toNat 0 st (by omega) (by omega) (by omega) (by rw [ih_num, if_pos (by omega), ih_te_d hk2])
    · refine ih_seg (i1 := 13) 4 rfl ?_
      try simp only [xa_set, List.set_cons_zero, List.set_cons_succ, List.getElem?_cons_zero, List.getElem?_cons_succ]
      refine ih_getI rfl rfl ?_
      rw [C.1.1]
      refine ih_seg (i1 := 15) 1 rfl ?_
      try simp only [xa_set, List.set_cons_zero, List.set_cons_succ, List.getElem?_cons_zero, List.getElem?_cons_succ]
      refine ih_seg (i1 := 17) 2 rfl ?_
      refine ih_getI rfl rfl ?_
      refine ih_icmp_ge rfl (by omega) (by omega) (fun w1 => ?_) (fun w1 => ?_)
      · exact r_number_39 C hlo hhi (Or.inr ⟨rfl, by omega, rfl⟩) hw kt kf
      · refine ih_seg (i1 := 20) 1 rfl ?_
        refine ih_ifc_eq rfl (by omega) (fun w2 => ?_) (fun w2 => ?_)
        · exact r_number_39 C hlo hhi (Or.inr ⟨rfl, by omega, rfl⟩) hw kt kf
        · exfalso
          omega
  · refine ih_retv rfl ?_
    exfalso
    omega

