/-! texts: the reference's tokens -/
def ih_BR (t : ih_S) (f : Int → Int) (n : Int) : Prop := t 111 12 = n ∧ (0 ≤ n ∧ n ≤ 120) ∧ (∀ k : Int, 0 ≤ k → k < n → t 117 k = f k ∧ 0 ≤ f k ∧ f k < 256)
/-- the reference's text: the token at st -/
def ih_TR (t : ih_S) (f : Int → Int) (n st : Int) : Prop := (t 111 13 = st ∧ t 111 14 = ih_te f n st ∧ 0 ≤ st ∧ st ≤ n) ∧ ih_BR t f n
def ih_ba (f : Int → Int) (n i : Int) : Int := if i < n then f i else -1
theorem ih_BR_of {t t1 : ih_S} {f : Int → Int} {n : Int} (T : ih_BR t f n) (h : t1 111 12 = t 111 12) (h1 : t1 117 = t 117) : ih_BR t1 f n := by
  unfold ih_BR
  rw [h, h1]
  exact T
theorem ih_ba_rg {t : ih_S} {f : Int → Int} {n i : Int} (T : ih_BR t f n) (h : 0 ≤ i) : -1 ≤ ih_ba f n i ∧ ih_ba f n i < 256 := by
  unfold ih_ba
  split
  · next q =>
    have := T.2.2 i h q
    omega
  · omega
theorem ih_ba_l {f : Int → Int} {n i : Int} : (97 ≤ ih_ba f n i ∧ ih_ba f n i ≤ 122) ↔ i < n ∧ 97 ≤ f i ∧ f i ≤ 122 := by
  unfold ih_ba
  split <;> omega
theorem ih_ba_d {f : Int → Int} {n i : Int} : (48 ≤ ih_ba f n i ∧ ih_ba f n i ≤ 57) ↔ i < n ∧ 48 ≤ f i ∧ f i ≤ 57 := by
  unfold ih_ba
  split <;> omega
theorem ih_ba_v {f : Int → Int} {n i v : Int} (hv : 0 ≤ v) : ih_ba f n i = v ↔ i < n ∧ f i = v := by
  unfold ih_ba
  split <;> omega

theorem r_byteAt {X : List Int} {t : ih_S} {Q : Option xa_V → ih_S → Prop} {f : Int → Int} {n : Int} (T : ih_BR t f n) {i : Int} (hi : 0 ≤ i ∧ i < 1000) (K : Q (some (xI (ih_ba f n i))) t)  : ih_Wp X 182 0 [xR 111, xI i] [] t Q := by
  have e := T.1
  have hn := T.2.1
  refine ih_seg (i1 := 2) 2 rfl ?_
  refine ih_getI rfl rfl ?_
  refine ih_icmp_ge rfl (by omega) (by omega) (fun w1 => ?_) (fun w1 => ?_)
  · refine ih_seg (i1 := 10) 1 rfl ?_
    refine ih_ret rfl rfl ?_
    first
      | (rw [ih_ba, if_neg (by omega)] at K
         exact K)
      | (rw [ih_ba, if_pos (by omega)] at K
         exact K)
  · refine ih_seg (i1 := 5) 1 rfl ?_
    refine ih_getR rfl rfl ?_
    refine ih_seg (i1 := 7) 1 rfl ?_
    have hb := T.2.2 i hi.1 (by omega)
    refine ih_iald rfl rfl (by omega) (by omega) (k := ?_)
    rw [hb.1]
    refine ih_seg (i1 := 10) 1 rfl ?_
    refine ih_ret rfl rfl ?_
    first
      | (rw [ih_ba, if_neg (by omega)] at K
         exact K)
      | (rw [ih_ba, if_pos (by omega)] at K
         exact K)


theorem r_isL {X : List Int} {t : ih_S} {Q : Option xa_V → ih_S → Prop} {a : Int} (ha : xa_rI a) (kt : 97 ≤ a ∧ a ≤ 122 → Q (some (xI 1)) t) (kf : ¬ (97 ≤ a ∧ a ≤ 122) → Q (some (xI 0)) t) : ih_Wp X 183 0 [xI a] [] t Q := by
  refine ih_seg (i1 := 1) 1 rfl ?_
  refine ih_i2l rfl (by omega) ?_
  refine ih_seg (i1 := 4) 2 rfl ?_
  refine ih_is3 126 rfl rfl (Nat.le_of_ble_eq_true rfl) (Nat.le_of_ble_eq_true rfl) rfl ?_
  refine r_in (by omega) (by omega) (by omega) (fun w1 => ?_) (fun w2 => ?_)
  · refine ih_ret rfl rfl ?_
    first | exact kt (by omega) | exact kf (by omega)
  · refine ih_ret rfl rfl ?_
    first | exact kt (by omega) | exact kf (by omega)


theorem r_isD {X : List Int} {t : ih_S} {Q : Option xa_V → ih_S → Prop} {a : Int} (ha : xa_rI a) (kt : 48 ≤ a ∧ a ≤ 57 → Q (some (xI 1)) t) (kf : ¬ (48 ≤ a ∧ a ≤ 57) → Q (some (xI 0)) t) : ih_Wp X 184 0 [xI a] [] t Q := by
  refine ih_seg (i1 := 1) 1 rfl ?_
  refine ih_i2l rfl (by omega) ?_
  refine ih_seg (i1 := 4) 2 rfl ?_
  refine ih_is3 126 rfl rfl (Nat.le_of_ble_eq_true rfl) (Nat.le_of_ble_eq_true rfl) rfl ?_
  refine r_in (by omega) (by omega) (by omega) (fun w1 => ?_) (fun w2 => ?_)
  · refine ih_ret rfl rfl ?_
    first | exact kt (by omega) | exact kf (by omega)
  · refine ih_ret rfl rfl ?_
    first | exact kt (by omega) | exact kf (by omega)


theorem r_tn1 {X : List Int} {t : ih_S} {Q : Option xa_V → ih_S → Prop} {f : Int → Int} {n : Int} (T : ih_BR t f n) (K : ∀ t1, (∀ j, j ≠ 111 → t1 j = t j) → (∀ g : Int, g ≠ 13 → t1 111 g = t 111 g) → t1 111 13 = ih_sp f n (t 111 13) → ih_Wp X 185 17 [xR 111, xC 1, xC 1] [] t1 Q)  : ∀ (d : Nat) (i : Int) (t1 : ih_S) (hd : i + d = n) (h3 : t1 111 13 = i) (hi : 0 ≤ i) (hf : (∀ j, j ≠ 111 → t1 j = t j)) (hg : (∀ g : Int, g ≠ 13 → t1 111 g = t 111 g)) (hs : ih_sp f n i = ih_sp f n (t 111 13)), ih_Wp X 185 4 [xR 111, xC 1, xC 1] [] t1 Q := by
  intro d
  induction d with
  | zero =>
    intro i t1 hd h3 hi hf hg hs
    have hT := T.2.1
    have T1 : ih_BR t1 f n := ih_BR_of T (hg 12 (by decide)) (hf 117 (by decide))
    have hba := ih_ba_rg T1 (show 0 ≤ i by omega)
    have hbl := ih_ba_l (f := f) (n := n) (i := i)
    have hbd := ih_ba_d (f := f) (n := n) (i := i)
    have hbv := ih_ba_v (f := f) (n := n) (i := i) (v := 32) (by decide)
    refine ih_seg (i1 := 6) 2 rfl ?_
    refine ih_getI rfl rfl ?_
    refine ih_iv1 182 rfl rfl (by first | rfl | exact ih_kP (ih_P_w0 hc) |  exact ih_kP (by assumption) | exact ih_kC (by assumption) | exact ih_kN (by assumption) | exact ih_kS (by assumption) | exact ih_kW (by assumption)) (Nat.le_of_ble_eq_true rfl) (Nat.le_of_ble_eq_true rfl) rfl ?_
    rw [h3]
    refine r_byteAt T1 (by omega) ?_
    refine ih_seg (i1 := 9) 1 rfl ?_
    refine ih_icmp_ne rfl (by omega) (by omega) (fun w1 => ?_) (fun w1 => ?_)
    · first
        | (exfalso
           omega)
        | (refine K t1 hf hg ?_
           rw [← hs, h3]
           exact (ih_fst_en (by omega)).symm)
    · refine ih_seg (i1 := 12) 2 rfl ?_
      refine ih_getI rfl rfl ?_
      refine ih_seg (i1 := 15) 2 rfl ?_
      try dsimp only
      refine ih_putI rfl rfl rfl ?_
      refine ih_seg (i1 := 4) 1 rfl ?_
      exfalso
      omega

  | succ d ih =>
    intro i t1 hd h3 hi hf hg hs
    have hT := T.2.1
    have T1 : ih_BR t1 f n := ih_BR_of T (hg 12 (by decide)) (hf 117 (by decide))
    have hba := ih_ba_rg T1 (show 0 ≤ i by omega)
    have hbl := ih_ba_l (f := f) (n := n) (i := i)
    have hbd := ih_ba_d (f := f) (n := n) (i := i)
    have hbv := ih_ba_v (f := f) (n := n) (i := i) (v := 32) (by decide)
    refine ih_seg (i1 := 6) 2 rfl ?_
    refine ih_getI rfl rfl ?_
    refine ih_iv1 182 rfl rfl (by first | rfl | exact ih_kP (ih_P_w0 hc) |  exact ih_kP (by assumption) | exact ih_kC (by assumption) | exact ih_kN (by assumption) | exact ih_kS (by assumption) | exact ih_kW (by assumption)) (Nat.le_of_ble_eq_true rfl) (Nat.le_of_ble_eq_true rfl) rfl ?_
    rw [h3]
    refine r_byteAt T1 (by omega) ?_
    refine ih_seg (i1 := 9) 1 rfl ?_
    refine ih_icmp_ne rfl (by omega) (by omega) (fun w1 => ?_) (fun w1 => ?_)
    · first
        | (exfalso
           omega)
        | (refine K t1 hf hg ?_
           rw [← hs, h3]
           exact (ih_fst_ht (by omega) (by rw [decide_eq_true_eq]; omega)).symm)
    · refine ih_seg (i1 := 12) 2 rfl ?_
      refine ih_getI rfl rfl ?_
      refine ih_seg (i1 := 15) 2 rfl ?_
      try dsimp only
      refine ih_putI rfl rfl rfl ?_
      refine ih_seg (i1 := 4) 1 rfl ?_
      refine ih (i + 1) _ (by omega) (by rw [ih_up_eq, ih_u1_eq, h3]) (by omega) (fun j hj => (ih_up_ne hj).trans (hf j hj)) (fun g hg2 => by rw [ih_up_eq, ih_u1_ne hg2]; exact hg g hg2) ?_
      rw [← hs]
      exact (ih_fst_st (by omega) (by rw [decide_eq_false_iff_not]; omega)).symm


theorem r_tn2 {X : List Int} {t : ih_S} {Q : Option xa_V → ih_S → Prop} {f : Int → Int} {n : Int} (T : ih_BR t f n) (K : ∀ t1, (∀ j, j ≠ 111 → t1 j = t j) → (∀ g : Int, g ≠ 14 → t1 111 g = t 111 g) → t1 111 14 = ih_le f n (t 111 14) → Q none t1)  : ∀ (d : Nat) (i : Int) (t1 : ih_S) (hd : i + d = n) (h3 : t1 111 14 = i) (hi : 0 ≤ i) (hf : (∀ j, j ≠ 111 → t1 j = t j)) (hg : (∀ g : Int, g ≠ 14 → t1 111 g = t 111 g)) (hs : ih_le f n i = ih_le f n (t 111 14)), ih_Wp X 185 43 [xR 111, xI 1, xI 0] [] t1 Q := by
  intro d
  induction d with
  | zero =>
    intro i t1 hd h3 hi hf hg hs
    have hT := T.2.1
    have T1 : ih_BR t1 f n := ih_BR_of T (hg 12 (by decide)) (hf 117 (by decide))
    have hba := ih_ba_rg T1 (show 0 ≤ i by omega)
    have hbl := ih_ba_l (f := f) (n := n) (i := i)
    have hbd := ih_ba_d (f := f) (n := n) (i := i)
    have hbv := ih_ba_v (f := f) (n := n) (i := i) (v := 32) (by decide)
    refine ih_seg (i1 := 44) 1 rfl ?_
    refine ih_ifc_eq rfl (by omega) (fun w1 => ?_) (fun w1 => ?_)
    · refine ih_seg (i1 := 52) 1 rfl ?_
      refine ih_ifc_eq rfl (by omega) (fun w2 => ?_) (fun w2 => ?_)
      · refine ih_retv rfl ?_
        first
          | (exfalso
             omega)
          | (refine K t1 hf hg ?_
             rw [← hs, h3]
             exact (ih_fst_en (by omega)).symm)
      · refine ih_seg (i1 := 55) 2 rfl ?_
        refine ih_getI rfl rfl ?_
        refine ih_iv1 182 rfl rfl (by first | rfl | exact ih_kP (ih_P_w0 hc) |  exact ih_kP (by assumption) | exact ih_kC (by assumption) | exact ih_kN (by assumption) | exact ih_kS (by assumption) | exact ih_kW (by assumption)) (Nat.le_of_ble_eq_true rfl) (Nat.le_of_ble_eq_true rfl) rfl ?_
        rw [h3]
        refine r_byteAt T1 (by omega) ?_
        refine ih_is1 184 rfl rfl (Nat.le_of_ble_eq_true rfl) (Nat.le_of_ble_eq_true rfl) rfl ?_
        refine r_isD (by omega) (fun w3 => ?_) (fun w4 => ?_)
        · refine ih_seg (i1 := 61) 3 rfl ?_
          refine ih_getI rfl rfl ?_
          refine ih_seg (i1 := 64) 2 rfl ?_
          try dsimp only
          refine ih_putI rfl rfl rfl ?_
          refine ih_seg (i1 := 43) 1 rfl ?_
          exfalso
          omega
        · refine ih_seg (i1 := 66) 1 rfl ?_
          refine ih_retv rfl ?_
          first
            | (exfalso
               omega)
            | (refine K t1 hf hg ?_
               rw [← hs, h3]
               exact (ih_fst_en (by omega)).symm)
    · refine ih_seg (i1 := 47) 2 rfl ?_
      refine ih_getI rfl rfl ?_
      refine ih_iv1 182 rfl rfl (by first | rfl | exact ih_kP (ih_P_w0 hc) |  exact ih_kP (by assumption) | exact ih_kC (by assumption) | exact ih_kN (by assumption) | exact ih_kS (by assumption) | exact ih_kW (by assumption)) (Nat.le_of_ble_eq_true rfl) (Nat.le_of_ble_eq_true rfl) rfl ?_
      rw [h3]
      refine r_byteAt T1 (by omega) ?_
      refine ih_is1 183 rfl rfl (Nat.le_of_ble_eq_true rfl) (Nat.le_of_ble_eq_true rfl) rfl ?_
      refine r_isL (by omega) (fun w5 => ?_) (fun w6 => ?_)
      · refine ih_seg (i1 := 61) 3 rfl ?_
        refine ih_getI rfl rfl ?_
        refine ih_seg (i1 := 64) 2 rfl ?_
        try dsimp only
        refine ih_putI rfl rfl rfl ?_
        refine ih_seg (i1 := 43) 1 rfl ?_
        exfalso
        omega
      · refine ih_seg (i1 := 52) 2 rfl ?_
        refine ih_ifc_eq rfl (by omega) (fun w7 => ?_) (fun w7 => ?_)
        · refine ih_retv rfl ?_
          first
            | (exfalso
               omega)
            | (refine K t1 hf hg ?_
               rw [← hs, h3]
               exact (ih_fst_en (by omega)).symm)
        · refine ih_seg (i1 := 55) 2 rfl ?_
          refine ih_getI rfl rfl ?_
          refine ih_iv1 182 rfl rfl (by first | rfl | exact ih_kP (ih_P_w0 hc) |  exact ih_kP (by assumption) | exact ih_kC (by assumption) | exact ih_kN (by assumption) | exact ih_kS (by assumption) | exact ih_kW (by assumption)) (Nat.le_of_ble_eq_true rfl) (Nat.le_of_ble_eq_true rfl) rfl ?_
          rw [h3]
          refine r_byteAt T1 (by omega) ?_
          refine ih_is1 184 rfl rfl (Nat.le_of_ble_eq_true rfl) (Nat.le_of_ble_eq_true rfl) rfl ?_
          refine r_isD (by omega) (fun w8 => ?_) (fun w9 => ?_)
          · refine ih_seg (i1 := 61) 3 rfl ?_
            refine ih_getI rfl rfl ?_
            refine ih_seg (i1 := 64) 2 rfl ?_
            try dsimp only
            refine ih_putI rfl rfl rfl ?_
            refine ih_seg (i1 := 43) 1 rfl ?_
            exfalso
            omega
          · refine ih_seg (i1 := 66) 1 rfl ?_
            refine ih_retv rfl ?_
            first
              | (exfalso
                 omega)
              | (refine K t1 hf hg ?_
                 rw [← hs, h3]
                 exact (ih_fst_en (by omega)).symm)

  | succ d ih =>
    intro i t1 hd h3 hi hf hg hs
    have hT := T.2.1
    have T1 : ih_BR t1 f n := ih_BR_of T (hg 12 (by decide)) (hf 117 (by decide))
    have hba := ih_ba_rg T1 (show 0 ≤ i by omega)
    have hbl := ih_ba_l (f := f) (n := n) (i := i)
    have hbd := ih_ba_d (f := f) (n := n) (i := i)
    have hbv := ih_ba_v (f := f) (n := n) (i := i) (v := 32) (by decide)
    refine ih_seg (i1 := 44) 1 rfl ?_
    refine ih_ifc_eq rfl (by omega) (fun w1 => ?_) (fun w1 => ?_)
    · refine ih_seg (i1 := 52) 1 rfl ?_
      refine ih_ifc_eq rfl (by omega) (fun w2 => ?_) (fun w2 => ?_)
      · refine ih_retv rfl ?_
        first
          | (exfalso
             omega)
          | (refine K t1 hf hg ?_
             rw [← hs, h3]
             exact (ih_fst_ht (by omega) (by rw [decide_eq_true_eq]; omega)).symm)
      · refine ih_seg (i1 := 55) 2 rfl ?_
        refine ih_getI rfl rfl ?_
        refine ih_iv1 182 rfl rfl (by first | rfl | exact ih_kP (ih_P_w0 hc) |  exact ih_kP (by assumption) | exact ih_kC (by assumption) | exact ih_kN (by assumption) | exact ih_kS (by assumption) | exact ih_kW (by assumption)) (Nat.le_of_ble_eq_true rfl) (Nat.le_of_ble_eq_true rfl) rfl ?_
        rw [h3]
        refine r_byteAt T1 (by omega) ?_
        refine ih_is1 184 rfl rfl (Nat.le_of_ble_eq_true rfl) (Nat.le_of_ble_eq_true rfl) rfl ?_
        refine r_isD (by omega) (fun w3 => ?_) (fun w4 => ?_)
        · refine ih_seg (i1 := 61) 3 rfl ?_
          refine ih_getI rfl rfl ?_
          refine ih_seg (i1 := 64) 2 rfl ?_
          try dsimp only
          refine ih_putI rfl rfl rfl ?_
          refine ih_seg (i1 := 43) 1 rfl ?_
          refine ih (i + 1) _ (by omega) (by rw [ih_up_eq, ih_u1_eq, h3]) (by omega) (fun j hj => (ih_up_ne hj).trans (hf j hj)) (fun g hg2 => by rw [ih_up_eq, ih_u1_ne hg2]; exact hg g hg2) ?_
          rw [← hs]
          exact (ih_fst_st (by omega) (by rw [decide_eq_false_iff_not]; omega)).symm
        · refine ih_seg (i1 := 66) 1 rfl ?_
          refine ih_retv rfl ?_
          first
            | (exfalso
               omega)
            | (refine K t1 hf hg ?_
               rw [← hs, h3]
               exact (ih_fst_ht (by omega) (by rw [decide_eq_true_eq]; omega)).symm)
    · refine ih_seg (i1 := 47) 2 rfl ?_
      refine ih_getI rfl rfl ?_
      refine ih_iv1 182 rfl rfl (by first | rfl | exact ih_kP (ih_P_w0 hc) |  exact ih_kP (by assumption) | exact ih_kC (by assumption) | exact ih_kN (by assumption) | exact ih_kS (by assumption) | exact ih_kW (by assumption)) (Nat.le_of_ble_eq_true rfl) (Nat.le_of_ble_eq_true rfl) rfl ?_
      rw [h3]
      refine r_byteAt T1 (by omega) ?_
      refine ih_is1 183 rfl rfl (Nat.le_of_ble_eq_true rfl) (Nat.le_of_ble_eq_true rfl) rfl ?_
      refine r_isL (by omega) (fun w5 => ?_) (fun w6 => ?_)
      · refine ih_seg (i1 := 61) 3 rfl ?_
        refine ih_getI rfl rfl ?_
        refine ih_seg (i1 := 64) 2 rfl ?_
        try dsimp only
        refine ih_putI rfl rfl rfl ?_
        refine ih_seg (i1 := 43) 1 rfl ?_
        refine ih (i + 1) _ (by omega) (by rw [ih_up_eq, ih_u1_eq, h3]) (by omega) (fun j hj => (ih_up_ne hj).trans (hf j hj)) (fun g hg2 => by rw [ih_up_eq, ih_u1_ne hg2]; exact hg g hg2) ?_
        rw [← hs]
        exact (ih_fst_st (by omega) (by rw [decide_eq_false_iff_not]; omega)).symm
      · refine ih_seg (i1 := 52) 2 rfl ?_
        refine ih_ifc_eq rfl (by omega) (fun w7 => ?_) (fun w7 => ?_)
        · refine ih_retv rfl ?_
          first
            | (exfalso
               omega)
            | (refine K t1 hf hg ?_
               rw [← hs, h3]
               exact (ih_fst_ht (by omega) (by rw [decide_eq_true_eq]; omega)).symm)
        · refine ih_seg (i1 := 55) 2 rfl ?_
          refine ih_getI rfl rfl ?_
          refine ih_iv1 182 rfl rfl (by first | rfl | exact ih_kP (ih_P_w0 hc) |  exact ih_kP (by assumption) | exact ih_kC (by assumption) | exact ih_kN (by assumption) | exact ih_kS (by assumption) | exact ih_kW (by assumption)) (Nat.le_of_ble_eq_true rfl) (Nat.le_of_ble_eq_true rfl) rfl ?_
          rw [h3]
          refine r_byteAt T1 (by omega) ?_
          refine ih_is1 184 rfl rfl (Nat.le_of_ble_eq_true rfl) (Nat.le_of_ble_eq_true rfl) rfl ?_
          refine r_isD (by omega) (fun w8 => ?_) (fun w9 => ?_)
          · refine ih_seg (i1 := 61) 3 rfl ?_
            refine ih_getI rfl rfl ?_
            refine ih_seg (i1 := 64) 2 rfl ?_
            try dsimp only
            refine ih_putI rfl rfl rfl ?_
            refine ih_seg (i1 := 43) 1 rfl ?_
            refine ih (i + 1) _ (by omega) (by rw [ih_up_eq, ih_u1_eq, h3]) (by omega) (fun j hj => (ih_up_ne hj).trans (hf j hj)) (fun g hg2 => by rw [ih_up_eq, ih_u1_ne hg2]; exact hg g hg2) ?_
            rw [← hs]
            exact (ih_fst_st (by omega) (by rw [decide_eq_false_iff_not]; omega)).symm
          · refine ih_seg (i1 := 66) 1 rfl ?_
            refine ih_retv rfl ?_
            first
              | (exfalso
                 omega)
              | (refine K t1 hf hg ?_
                 rw [← hs, h3]
                 exact (ih_fst_ht (by omega) (by rw [decide_eq_true_eq]; omega)).symm)


theorem r_tn3 {X : List Int} {t : ih_S} {Q : Option xa_V → ih_S → Prop} {f : Int → Int} {n : Int} (T : ih_BR t f n) (K : ∀ t1, (∀ j, j ≠ 111 → t1 j = t j) → (∀ g : Int, g ≠ 14 → t1 111 g = t 111 g) → t1 111 14 = ih_de f n (t 111 14) → Q none t1)  : ∀ (d : Nat) (i : Int) (t1 : ih_S) (hd : i + d = n) (h3 : t1 111 14 = i) (hi : 0 ≤ i) (hf : (∀ j, j ≠ 111 → t1 j = t j)) (hg : (∀ g : Int, g ≠ 14 → t1 111 g = t 111 g)) (hs : ih_de f n i = ih_de f n (t 111 14)), ih_Wp X 185 43 [xR 111, xI 0, xI 1] [] t1 Q := by
  intro d
  induction d with
  | zero =>
    intro i t1 hd h3 hi hf hg hs
    have hT := T.2.1
    have T1 : ih_BR t1 f n := ih_BR_of T (hg 12 (by decide)) (hf 117 (by decide))
    have hba := ih_ba_rg T1 (show 0 ≤ i by omega)
    have hbl := ih_ba_l (f := f) (n := n) (i := i)
    have hbd := ih_ba_d (f := f) (n := n) (i := i)
    have hbv := ih_ba_v (f := f) (n := n) (i := i) (v := 32) (by decide)
    refine ih_seg (i1 := 44) 1 rfl ?_
    refine ih_ifc_eq rfl (by omega) (fun w1 => ?_) (fun w1 => ?_)
    · refine ih_seg (i1 := 52) 1 rfl ?_
      refine ih_ifc_eq rfl (by omega) (fun w2 => ?_) (fun w2 => ?_)
      · refine ih_retv rfl ?_
        first
          | (exfalso
             omega)
          | (refine K t1 hf hg ?_
             rw [← hs, h3]
             exact (ih_fst_en (by omega)).symm)
      · refine ih_seg (i1 := 55) 2 rfl ?_
        refine ih_getI rfl rfl ?_
        refine ih_iv1 182 rfl rfl (by first | rfl | exact ih_kP (ih_P_w0 hc) |  exact ih_kP (by assumption) | exact ih_kC (by assumption) | exact ih_kN (by assumption) | exact ih_kS (by assumption) | exact ih_kW (by assumption)) (Nat.le_of_ble_eq_true rfl) (Nat.le_of_ble_eq_true rfl) rfl ?_
        rw [h3]
        refine r_byteAt T1 (by omega) ?_
        refine ih_is1 184 rfl rfl (Nat.le_of_ble_eq_true rfl) (Nat.le_of_ble_eq_true rfl) rfl ?_
        refine r_isD (by omega) (fun w3 => ?_) (fun w4 => ?_)
        · refine ih_seg (i1 := 61) 3 rfl ?_
          refine ih_getI rfl rfl ?_
          refine ih_seg (i1 := 64) 2 rfl ?_
          try dsimp only
          refine ih_putI rfl rfl rfl ?_
          refine ih_seg (i1 := 43) 1 rfl ?_
          exfalso
          omega
        · refine ih_seg (i1 := 66) 1 rfl ?_
          refine ih_retv rfl ?_
          first
            | (exfalso
               omega)
            | (refine K t1 hf hg ?_
               rw [← hs, h3]
               exact (ih_fst_en (by omega)).symm)
    · refine ih_seg (i1 := 47) 2 rfl ?_
      refine ih_getI rfl rfl ?_
      refine ih_iv1 182 rfl rfl (by first | rfl | exact ih_kP (ih_P_w0 hc) |  exact ih_kP (by assumption) | exact ih_kC (by assumption) | exact ih_kN (by assumption) | exact ih_kS (by assumption) | exact ih_kW (by assumption)) (Nat.le_of_ble_eq_true rfl) (Nat.le_of_ble_eq_true rfl) rfl ?_
      rw [h3]
      refine r_byteAt T1 (by omega) ?_
      refine ih_is1 183 rfl rfl (Nat.le_of_ble_eq_true rfl) (Nat.le_of_ble_eq_true rfl) rfl ?_
      refine r_isL (by omega) (fun w5 => ?_) (fun w6 => ?_)
      · refine ih_seg (i1 := 61) 3 rfl ?_
        refine ih_getI rfl rfl ?_
        refine ih_seg (i1 := 64) 2 rfl ?_
        try dsimp only
        refine ih_putI rfl rfl rfl ?_
        refine ih_seg (i1 := 43) 1 rfl ?_
        exfalso
        omega
      · refine ih_seg (i1 := 52) 2 rfl ?_
        refine ih_ifc_eq rfl (by omega) (fun w7 => ?_) (fun w7 => ?_)
        · refine ih_retv rfl ?_
          first
            | (exfalso
               omega)
            | (refine K t1 hf hg ?_
               rw [← hs, h3]
               exact (ih_fst_en (by omega)).symm)
        · refine ih_seg (i1 := 55) 2 rfl ?_
          refine ih_getI rfl rfl ?_
          refine ih_iv1 182 rfl rfl (by first | rfl | exact ih_kP (ih_P_w0 hc) |  exact ih_kP (by assumption) | exact ih_kC (by assumption) | exact ih_kN (by assumption) | exact ih_kS (by assumption) | exact ih_kW (by assumption)) (Nat.le_of_ble_eq_true rfl) (Nat.le_of_ble_eq_true rfl) rfl ?_
          rw [h3]
          refine r_byteAt T1 (by omega) ?_
          refine ih_is1 184 rfl rfl (Nat.le_of_ble_eq_true rfl) (Nat.le_of_ble_eq_true rfl) rfl ?_
          refine r_isD (by omega) (fun w8 => ?_) (fun w9 => ?_)
          · refine ih_seg (i1 := 61) 3 rfl ?_
            refine ih_getI rfl rfl ?_
            refine ih_seg (i1 := 64) 2 rfl ?_
            try dsimp only
            refine ih_putI rfl rfl rfl ?_
            refine ih_seg (i1 := 43) 1 rfl ?_
            exfalso
            omega
          · refine ih_seg (i1 := 66) 1 rfl ?_
            refine ih_retv rfl ?_
            first
              | (exfalso
                 omega)
              | (refine K t1 hf hg ?_
                 rw [← hs, h3]
                 exact (ih_fst_en (by omega)).symm)

  | succ d ih =>
    intro i t1 hd h3 hi hf hg hs
    have hT := T.2.1
    have T1 : ih_BR t1 f n := ih_BR_of T (hg 12 (by decide)) (hf 117 (by decide))
    have hba := ih_ba_rg T1 (show 0 ≤ i by omega)
    have hbl := ih_ba_l (f := f) (n := n) (i := i)
    have hbd := ih_ba_d (f := f) (n := n) (i := i)
    have hbv := ih_ba_v (f := f) (n := n) (i := i) (v := 32) (by decide)
    refine ih_seg (i1 := 44) 1 rfl ?_
    refine ih_ifc_eq rfl (by omega) (fun w1 => ?_) (fun w1 => ?_)
    · refine ih_seg (i1 := 52) 1 rfl ?_
      refine ih_ifc_eq rfl (by omega) (fun w2 => ?_) (fun w2 => ?_)
      · refine ih_retv rfl ?_
        first
          | (exfalso
             omega)
          | (refine K t1 hf hg ?_
             rw [← hs, h3]
             exact (ih_fst_ht (by omega) (by rw [decide_eq_true_eq]; omega)).symm)
      · refine ih_seg (i1 := 55) 2 rfl ?_
        refine ih_getI rfl rfl ?_
        refine ih_iv1 182 rfl rfl (by first | rfl | exact ih_kP (ih_P_w0 hc) |  exact ih_kP (by assumption) | exact ih_kC (by assumption) | exact ih_kN (by assumption) | exact ih_kS (by assumption) | exact ih_kW (by assumption)) (Nat.le_of_ble_eq_true rfl) (Nat.le_of_ble_eq_true rfl) rfl ?_
        rw [h3]
        refine r_byteAt T1 (by omega) ?_
        refine ih_is1 184 rfl rfl (Nat.le_of_ble_eq_true rfl) (Nat.le_of_ble_eq_true rfl) rfl ?_
        refine r_isD (by omega) (fun w3 => ?_) (fun w4 => ?_)
        · refine ih_seg (i1 := 61) 3 rfl ?_
          refine ih_getI rfl rfl ?_
          refine ih_seg (i1 := 64) 2 rfl ?_
          try dsimp only
          refine ih_putI rfl rfl rfl ?_
          refine ih_seg (i1 := 43) 1 rfl ?_
          refine ih (i + 1) _ (by omega) (by rw [ih_up_eq, ih_u1_eq, h3]) (by omega) (fun j hj => (ih_up_ne hj).trans (hf j hj)) (fun g hg2 => by rw [ih_up_eq, ih_u1_ne hg2]; exact hg g hg2) ?_
          rw [← hs]
          exact (ih_fst_st (by omega) (by rw [decide_eq_false_iff_not]; omega)).symm
        · refine ih_seg (i1 := 66) 1 rfl ?_
          refine ih_retv rfl ?_
          first
            | (exfalso
               omega)
            | (refine K t1 hf hg ?_
               rw [← hs, h3]
               exact (ih_fst_ht (by omega) (by rw [decide_eq_true_eq]; omega)).symm)
    · refine ih_seg (i1 := 47) 2 rfl ?_
      refine ih_getI rfl rfl ?_
      refine ih_iv1 182 rfl rfl (by first | rfl | exact ih_kP (ih_P_w0 hc) |  exact ih_kP (by assumption) | exact ih_kC (by assumption) | exact ih_kN (by assumption) | exact ih_kS (by assumption) | exact ih_kW (by assumption)) (Nat.le_of_ble_eq_true rfl) (Nat.le_of_ble_eq_true rfl) rfl ?_
      rw [h3]
      refine r_byteAt T1 (by omega) ?_
      refine ih_is1 183 rfl rfl (Nat.le_of_ble_eq_true rfl) (Nat.le_of_ble_eq_true rfl) rfl ?_
      refine r_isL (by omega) (fun w5 => ?_) (fun w6 => ?_)
      · refine ih_seg (i1 := 61) 3 rfl ?_
        refine ih_getI rfl rfl ?_
        refine ih_seg (i1 := 64) 2 rfl ?_
        try dsimp only
        refine ih_putI rfl rfl rfl ?_
        refine ih_seg (i1 := 43) 1 rfl ?_
        refine ih (i + 1) _ (by omega) (by rw [ih_up_eq, ih_u1_eq, h3]) (by omega) (fun j hj => (ih_up_ne hj).trans (hf j hj)) (fun g hg2 => by rw [ih_up_eq, ih_u1_ne hg2]; exact hg g hg2) ?_
        rw [← hs]
        exact (ih_fst_st (by omega) (by rw [decide_eq_false_iff_not]; omega)).symm
      · refine ih_seg (i1 := 52) 2 rfl ?_
        refine ih_ifc_eq rfl (by omega) (fun w7 => ?_) (fun w7 => ?_)
        · refine ih_retv rfl ?_
          first
            | (exfalso
               omega)
            | (refine K t1 hf hg ?_
               rw [← hs, h3]
               exact (ih_fst_ht (by omega) (by rw [decide_eq_true_eq]; omega)).symm)
        · refine ih_seg (i1 := 55) 2 rfl ?_
          refine ih_getI rfl rfl ?_
          refine ih_iv1 182 rfl rfl (by first | rfl | exact ih_kP (ih_P_w0 hc) |  exact ih_kP (by assumption) | exact ih_kC (by assumption) | exact ih_kN (by assumption) | exact ih_kS (by assumption) | exact ih_kW (by assumption)) (Nat.le_of_ble_eq_true rfl) (Nat.le_of_ble_eq_true rfl) rfl ?_
          rw [h3]
          refine r_byteAt T1 (by omega) ?_
          refine ih_is1 184 rfl rfl (Nat.le_of_ble_eq_true rfl) (Nat.le_of_ble_eq_true rfl) rfl ?_
          refine r_isD (by omega) (fun w8 => ?_) (fun w9 => ?_)
          · refine ih_seg (i1 := 61) 3 rfl ?_
            refine ih_getI rfl rfl ?_
            refine ih_seg (i1 := 64) 2 rfl ?_
            try dsimp only
            refine ih_putI rfl rfl rfl ?_
            refine ih_seg (i1 := 43) 1 rfl ?_
            refine ih (i + 1) _ (by omega) (by rw [ih_up_eq, ih_u1_eq, h3]) (by omega) (fun j hj => (ih_up_ne hj).trans (hf j hj)) (fun g hg2 => by rw [ih_up_eq, ih_u1_ne hg2]; exact hg g hg2) ?_
            rw [← hs]
            exact (ih_fst_st (by omega) (by rw [decide_eq_false_iff_not]; omega)).symm
          · refine ih_seg (i1 := 66) 1 rfl ?_
            refine ih_retv rfl ?_
            first
              | (exfalso
                 omega)
              | (refine K t1 hf hg ?_
                 rw [← hs, h3]
                 exact (ih_fst_ht (by omega) (by rw [decide_eq_true_eq]; omega)).symm)


theorem r_token {X : List Int} {t : ih_S} {Q : Option xa_V → ih_S → Prop} {f : Int → Int} {n : Int} (T : ih_BR t f n) (he : 0 ≤ t 111 14 ∧ t 111 14 ≤ n) (K : ∀ t1, (∀ j, j ≠ 111 → t1 j = t j) → (∀ g : Int, g ≠ 13 → g ≠ 14 → t1 111 g = t 111 g) → ih_TR t1 f n (ih_sp f n (t 111 14)) → Q none t1)  : ih_Wp X 185 0 [xR 111, xC 1, xC 1] [] t Q := by
  have hT := T.2.1
  have hsb' : 0 ≤ ih_sp f n (t 111 14) := by
    have := ih_sp_b (f := f) (n := n) (e := t 111 14) he.2
    omega
  refine ih_seg (i1 := 2) 2 rfl ?_
  refine ih_getI rfl rfl ?_
  refine ih_putI rfl rfl rfl ?_
  refine r_tn1 (t := ih_up t 111 13 (t 111 14)) (ih_BR_of T (by rw [ih_up_eq, ih_u1_ne (by decide)]) (ih_up_ne (by decide))) (fun t1 f1 g1 b1 => ?_) (n - t 111 14).toNat (t 111 14) _ (by omega) (by rw [ih_up_eq, ih_u1_eq]) he.1 (fun _ _ => rfl) (fun _ _ => rfl) (by rw [ih_up_eq, ih_u1_eq])
  have hsb := ih_sp_b (f := f) (n := n) (e := t 111 14) he.2
  have s3 : t1 111 13 = ih_sp f n (t 111 14) := by
    rw [b1, ih_up_eq, ih_u1_eq]
  have T1 : ih_BR t1 f n := ih_BR_of T (by rw [g1 12 (by decide), ih_up_eq, ih_u1_ne (by decide)]) (by rw [f1 117 (by decide), ih_up_ne (by decide)])
  have fr : ∀ j, j ≠ 111 → t1 j = t j := fun j h => (f1 j h).trans (ih_up_ne h)
  have gr : ∀ g : Int, g ≠ 13 → t1 111 g = t 111 g := fun g h => by rw [g1 g h, ih_up_eq, ih_u1_ne h]
  have hn := T1.1
  have hba := ih_ba_rg T1 hsb'
  have hbl := ih_ba_l (f := f) (n := n) (i := ih_sp f n (t 111 14))
  have hbd := ih_ba_d (f := f) (n := n) (i := ih_sp f n (t 111 14))
  refine ih_seg (i1 := 19) 2 rfl ?_
  refine ih_getI rfl rfl ?_
  refine ih_iv1 182 rfl rfl (by first | rfl | exact ih_kP (ih_P_w0 hc) |  exact ih_kP (by assumption) | exact ih_kC (by assumption) | exact ih_kN (by assumption) | exact ih_kS (by assumption) | exact ih_kW (by assumption)) (Nat.le_of_ble_eq_true rfl) (Nat.le_of_ble_eq_true rfl) rfl ?_
  rw [s3]
  refine r_byteAt T1 (by omega) ?_
  refine ih_is1 183 rfl rfl (Nat.le_of_ble_eq_true rfl) (Nat.le_of_ble_eq_true rfl) rfl ?_
  refine r_isL (by omega) (fun w1 => ?_) (fun w2 => ?_)
  · refine ih_seg (i1 := 25) 3 rfl ?_
    try simp only [xa_set, List.set_cons_zero, List.set_cons_succ, List.getElem?_cons_zero, List.getElem?_cons_succ]
    refine ih_getI rfl rfl ?_
    refine ih_iv1 182 rfl rfl (by first | rfl | exact ih_kP (ih_P_w0 hc) |  exact ih_kP (by assumption) | exact ih_kC (by assumption) | exact ih_kN (by assumption) | exact ih_kS (by assumption) | exact ih_kW (by assumption)) (Nat.le_of_ble_eq_true rfl) (Nat.le_of_ble_eq_true rfl) rfl ?_
    rw [s3]
    refine r_byteAt T1 (by omega) ?_
    refine ih_is1 184 rfl rfl (Nat.le_of_ble_eq_true rfl) (Nat.le_of_ble_eq_true rfl) rfl ?_
    refine r_isD (by omega) (fun w3 => ?_) (fun w4 => ?_)
    · refine ih_seg (i1 := 31) 3 rfl ?_
      try simp only [xa_set, List.set_cons_zero, List.set_cons_succ, List.getElem?_cons_zero, List.getElem?_cons_succ]
      refine ih_getI rfl rfl ?_
      refine ih_seg (i1 := 33) 1 rfl ?_
      refine ih_getI rfl rfl ?_
      refine ih_icmp_ge rfl (by omega) (by omega) (fun w5 => ?_) (fun w5 => ?_)
      · refine ih_seg (i1 := 41) 1 rfl ?_
        refine ih_getI rfl rfl ?_
        refine ih_putI rfl rfl rfl ?_
        exfalso
        omega
      · refine ih_seg (i1 := 36) 1 rfl ?_
        refine ih_getI rfl rfl ?_
        refine ih_seg (i1 := 42) 3 rfl ?_
        try dsimp only
        refine ih_putI rfl rfl rfl ?_
        exfalso
        omega
    · refine ih_seg (i1 := 31) 3 rfl ?_
      try simp only [xa_set, List.set_cons_zero, List.set_cons_succ, List.getElem?_cons_zero, List.getElem?_cons_succ]
      refine ih_getI rfl rfl ?_
      refine ih_seg (i1 := 33) 1 rfl ?_
      refine ih_getI rfl rfl ?_
      refine ih_icmp_ge rfl (by omega) (by omega) (fun w6 => ?_) (fun w6 => ?_)
      · refine ih_seg (i1 := 41) 1 rfl ?_
        refine ih_getI rfl rfl ?_
        refine ih_putI rfl rfl rfl ?_
        exfalso
        omega
      · refine ih_seg (i1 := 36) 1 rfl ?_
        refine ih_getI rfl rfl ?_
        refine ih_seg (i1 := 42) 3 rfl ?_
        try dsimp only
        refine ih_putI rfl rfl rfl ?_
        rw [s3]
        refine r_tn2 (t := (ih_up t1 111 14 (ih_sp f n (t 111 14) + 1))) (ih_BR_of T1 (by rw [ih_up_eq, ih_u1_ne (by decide)]) (ih_up_ne (by decide))) (fun t2 f2 g2 b2 => ?_) (n - (ih_sp f n (t 111 14) + 1)).toNat (ih_sp f n (t 111 14) + 1) _ (by omega) (by rw [ih_up_eq, ih_u1_eq]) (by omega) (fun _ _ => rfl) (fun _ _ => rfl) (by rw [ih_up_eq, ih_u1_eq])
        have te : ih_te f n (ih_sp f n (t 111 14)) = ih_le f n (ih_sp f n (t 111 14) + 1) := by
          rw [ih_te, if_neg (by omega), if_pos (by omega)]
          exact ih_fst_st (by omega) (by rw [decide_eq_false_iff_not]; omega)
        refine K t2 (fun j h => ?_) (fun g h h2 => ?_) ⟨⟨?_, ?_, by omega, by omega⟩, ih_BR_of T1 ?_ ?_⟩
        · rw [f2 j h, ih_up_ne h, fr j h]
        · rw [g2 g h2, ih_up_eq, ih_u1_ne h2, gr g h]
        · rw [g2 13 (by decide), ih_up_eq, ih_u1_ne (by decide), s3]
        · rw [b2, ih_up_eq, ih_u1_eq, te]
        · rw [g2 12 (by decide), ih_up_eq, ih_u1_ne (by decide)]
        · rw [f2 117 (by decide), ih_up_ne (by decide)]
  · refine ih_seg (i1 := 25) 3 rfl ?_
    try simp only [xa_set, List.set_cons_zero, List.set_cons_succ, List.getElem?_cons_zero, List.getElem?_cons_succ]
    refine ih_getI rfl rfl ?_
    refine ih_iv1 182 rfl rfl (by first | rfl | exact ih_kP (ih_P_w0 hc) |  exact ih_kP (by assumption) | exact ih_kC (by assumption) | exact ih_kN (by assumption) | exact ih_kS (by assumption) | exact ih_kW (by assumption)) (Nat.le_of_ble_eq_true rfl) (Nat.le_of_ble_eq_true rfl) rfl ?_
    rw [s3]
    refine r_byteAt T1 (by omega) ?_
    refine ih_is1 184 rfl rfl (Nat.le_of_ble_eq_true rfl) (Nat.le_of_ble_eq_true rfl) rfl ?_
    refine r_isD (by omega) (fun w7 => ?_) (fun w8 => ?_)
    · refine ih_seg (i1 := 31) 3 rfl ?_
      try simp only [xa_set, List.set_cons_zero, List.set_cons_succ, List.getElem?_cons_zero, List.getElem?_cons_succ]
      refine ih_getI rfl rfl ?_
      refine ih_seg (i1 := 33) 1 rfl ?_
      refine ih_getI rfl rfl ?_
      refine ih_icmp_ge rfl (by omega) (by omega) (fun w9 => ?_) (fun w9 => ?_)
      · refine ih_seg (i1 := 41) 1 rfl ?_
        refine ih_getI rfl rfl ?_
        refine ih_putI rfl rfl rfl ?_
        exfalso
        omega
      · refine ih_seg (i1 := 36) 1 rfl ?_
        refine ih_getI rfl rfl ?_
        refine ih_seg (i1 := 42) 3 rfl ?_
        try dsimp only
        refine ih_putI rfl rfl rfl ?_
        rw [s3]
        refine r_tn3 (t := (ih_up t1 111 14 (ih_sp f n (t 111 14) + 1))) (ih_BR_of T1 (by rw [ih_up_eq, ih_u1_ne (by decide)]) (ih_up_ne (by decide))) (fun t2 f2 g2 b2 => ?_) (n - (ih_sp f n (t 111 14) + 1)).toNat (ih_sp f n (t 111 14) + 1) _ (by omega) (by rw [ih_up_eq, ih_u1_eq]) (by omega) (fun _ _ => rfl) (fun _ _ => rfl) (by rw [ih_up_eq, ih_u1_eq])
        have te : ih_te f n (ih_sp f n (t 111 14)) = ih_de f n (ih_sp f n (t 111 14) + 1) := by
          rw [ih_te, if_neg (by omega), if_neg (by omega), if_pos (by omega)]
          exact ih_fst_st (by omega) (by rw [decide_eq_false_iff_not]; omega)
        refine K t2 (fun j h => ?_) (fun g h h2 => ?_) ⟨⟨?_, ?_, by omega, by omega⟩, ih_BR_of T1 ?_ ?_⟩
        · rw [f2 j h, ih_up_ne h, fr j h]
        · rw [g2 g h2, ih_up_eq, ih_u1_ne h2, gr g h]
        · rw [g2 13 (by decide), ih_up_eq, ih_u1_ne (by decide), s3]
        · rw [b2, ih_up_eq, ih_u1_eq, te]
        · rw [g2 12 (by decide), ih_up_eq, ih_u1_ne (by decide)]
        · rw [f2 117 (by decide), ih_up_ne (by decide)]
    · refine ih_seg (i1 := 31) 3 rfl ?_
      try simp only [xa_set, List.set_cons_zero, List.set_cons_succ, List.getElem?_cons_zero, List.getElem?_cons_succ]
      refine ih_getI rfl rfl ?_
      refine ih_seg (i1 := 33) 1 rfl ?_
      refine ih_getI rfl rfl ?_
      refine ih_icmp_ge rfl (by omega) (by omega) (fun w10 => ?_) (fun w10 => ?_)
      · refine ih_seg (i1 := 41) 1 rfl ?_
        refine ih_getI rfl rfl ?_
        refine ih_putI rfl rfl rfl ?_
        refine ih_seg (i1 := 44) 1 rfl ?_
        refine ih_ifc_eq rfl (by omega) (fun w1 => ?_) (fun w1 => ?_)
        · refine ih_seg (i1 := 52) 1 rfl ?_
          refine ih_ifc_eq rfl (by omega) (fun w2 => ?_) (fun w2 => ?_)
          · refine ih_retv rfl ?_
            refine K _ (fun j h => ?_) (fun g h h2 => ?_) ⟨⟨?_, ?_, by omega, by omega⟩, ih_BR_of T1 ?_ ?_⟩
            · rw [ih_up_ne h, fr j h]
            · rw [ih_up_eq, ih_u1_ne h2, gr g h]
            · rw [ih_up_eq, ih_u1_ne (by decide), s3]
            · rw [ih_up_eq, ih_u1_eq, s3, ih_te, if_pos (by omega)]
            · rw [ih_up_eq, ih_u1_ne (by decide)]
            · rw [ih_up_ne (by decide)]
          · exfalso
            omega
        · exfalso
          omega
      · refine ih_seg (i1 := 36) 1 rfl ?_
        refine ih_getI rfl rfl ?_
        refine ih_seg (i1 := 42) 3 rfl ?_
        try dsimp only
        refine ih_putI rfl rfl rfl ?_
        refine ih_seg (i1 := 44) 1 rfl ?_
        refine ih_ifc_eq rfl (by omega) (fun w1 => ?_) (fun w1 => ?_)
        · refine ih_seg (i1 := 52) 1 rfl ?_
          refine ih_ifc_eq rfl (by omega) (fun w2 => ?_) (fun w2 => ?_)
          · refine ih_retv rfl ?_
            refine K _ (fun j h => ?_) (fun g h h2 => ?_) ⟨⟨?_, ?_, by omega, by omega⟩, ih_BR_of T1 ?_ ?_⟩
            · rw [ih_up_ne h, fr j h]
            · rw [ih_up_eq, ih_u1_ne h2, gr g h]
            · rw [ih_up_eq, ih_u1_ne (by decide), s3]
            · rw [ih_up_eq, ih_u1_eq, s3, ih_te, if_neg (by omega), if_neg (by omega), if_neg (by omega)]
            · rw [ih_up_eq, ih_u1_ne (by decide)]
            · rw [ih_up_ne (by decide)]
          · exfalso
            omega
        · exfalso
          omega


theorem ih_up_id {t : ih_S} {a : Nat} {i v : Int} (h : t a i = v) : ih_up t a i v = t := by
  funext b j
  rw [ih_up2]
  split
  · next e => rw [e.1, e.2, h]
  · rfl

theorem r_needs_w {X : List Int} {t : ih_S} {Q : Option xa_V → ih_S → Prop} {b : Int} (hb : b = 0 ∨ b = 1) (hw : t 111 16 = 1) (K : Q none t)  : ih_Wp X 186 0 [xR 111, xI b] [] t Q := by
  refine ih_seg (i1 := 2) 2 rfl ?_
  refine ih_getI rfl rfl ?_
  refine ih_ifc_ne rfl (by omega) (fun w1 => ?_) (fun w1 => ?_)
  · refine ih_seg (i1 := 9) 2 rfl ?_
    refine ih_putI rfl rfl rfl ?_
    refine ih_seg (i1 := 11) 1 rfl ?_
    refine ih_getI rfl rfl ?_
    rw [ih_up_eq, ih_u1_eq]
    refine ih_ifc_ne rfl (by omega) (fun w2 => ?_) (fun w2 => ?_)
    · refine ih_retv rfl ?_
      first
        | (exfalso
           omega)
        | (rw [ih_up_id hw]
           exact K)
    · exfalso
      omega
  · refine ih_seg (i1 := 5) 1 rfl ?_
    refine ih_ifc_ne rfl (by omega) (fun w3 => ?_) (fun w3 => ?_)
    · refine ih_seg (i1 := 9) 1 rfl ?_
      refine ih_putI rfl rfl rfl ?_
      refine ih_seg (i1 := 11) 1 rfl ?_
      refine ih_getI rfl rfl ?_
      rw [ih_up_eq, ih_u1_eq]
      refine ih_ifc_ne rfl (by omega) (fun w4 => ?_) (fun w4 => ?_)
      · refine ih_retv rfl ?_
        first
          | (exfalso
             omega)
          | (rw [ih_up_id hw]
             exact K)
      · exfalso
        omega
    · refine ih_seg (i1 := 9) 2 rfl ?_
      refine ih_putI rfl rfl rfl ?_
      refine ih_seg (i1 := 11) 1 rfl ?_
      refine ih_getI rfl rfl ?_
      rw [ih_up_eq, ih_u1_eq]
      refine ih_ifc_ne rfl (by omega) (fun w5 => ?_) (fun w5 => ?_)
      · refine ih_retv rfl ?_
        first
          | (exfalso
             omega)
          | (rw [ih_up_id hw]
             exact K)
      · exfalso
        omega

