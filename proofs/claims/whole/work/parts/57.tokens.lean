/-! texts: tokens -/
def ih_sp (f : Int → Int) (n e : Int) : Int := ih_fst (fun i => decide (f i ≠ 32)) e (n - e).toNat
def ih_le (f : Int → Int) (n e : Int) : Int := ih_fst (fun i => decide (¬ (97 ≤ f i ∧ f i ≤ 122))) e (n - e).toNat
def ih_de (f : Int → Int) (n e : Int) : Int := ih_fst (fun i => decide (¬ (48 ≤ f i ∧ f i ≤ 57))) e (n - e).toNat
def ih_nv (f : Int → Int) : Nat → Int → Int → Int
  | 0, _, v => v
  | k + 1, i, v => ih_nv f k (i + 1) (if v ≤ 9999 then 10 * v + f i - 48 else v)
def ih_te (f : Int → Int) (n st : Int) : Int := if n ≤ st then st else if 97 ≤ f st ∧ f st ≤ 122 then ih_le f n st else if 48 ≤ f st ∧ f st ≤ 57 then ih_de f n st else st + 1
def ih_kk (f : Int → Int) (n st : Int) : Int := if n ≤ st then 0 else if 97 ≤ f st ∧ f st ≤ 122 then 1 else if 48 ≤ f st ∧ f st ≤ 57 then 2 else if f st = 59 then 3 else 4
def ih_num (f : Int → Int) (n st : Int) : Int := if st < n ∧ 48 ≤ f st ∧ f st ≤ 57 then ih_nv f (ih_de f n st - st).toNat st 0 else 0
theorem ih_fst_st {P : Int → Bool} {e n : Int} (h : e < n) (q : P e = false) : ih_fst P e (n - e).toNat = ih_fst P (e + 1) (n - (e + 1)).toNat := by
  rw [show (n - e).toNat = (n - (e + 1)).toNat + 1 by omega]
  exact ih_fst_n q
theorem ih_fst_ht {P : Int → Bool} {e n : Int} (h : e < n) (q : P e = true) : ih_fst P e (n - e).toNat = e := by
  rw [show (n - e).toNat = (n - (e + 1)).toNat + 1 by omega]
  exact ih_fst_y q
theorem ih_fst_en {P : Int → Bool} {e n : Int} (h : n ≤ e) : ih_fst P e (n - e).toNat = e := by
  rw [show (n - e).toNat = 0 by omega]
  rfl
theorem ih_fst_b {P : Int → Bool} {e n : Int} (h : e ≤ n) : e ≤ ih_fst P e (n - e).toNat ∧ ih_fst P e (n - e).toNat ≤ n := by
  have := ih_fst_rg (f := P) (a := e) (n := (n - e).toNat)
  omega
theorem ih_fst_in {P : Int → Bool} {n : Nat} : ∀ {e : Int} (x : Int), e ≤ x → x < ih_fst P e n → P x = false := by
  induction n with
  | zero => intro e x h0 h1; rw [ih_fst] at h1; omega
  | succ n ih =>
    intro e x h0 h1
    cases q : P e with
    | true => rw [ih_fst_y q] at h1; omega
    | false =>
      by_cases k : x = e
      · subst k; exact q
      · rw [ih_fst_n q] at h1
        exact ih x (by omega) h1
theorem ih_sp_b {f : Int → Int} {n e : Int} (h : e ≤ n) : e ≤ ih_sp f n e ∧ ih_sp f n e ≤ n := ih_fst_b h
theorem ih_le_b {f : Int → Int} {n e : Int} (h : e ≤ n) : e ≤ ih_le f n e ∧ ih_le f n e ≤ n := ih_fst_b h
theorem ih_de_b {f : Int → Int} {n e : Int} (h : e ≤ n) : e ≤ ih_de f n e ∧ ih_de f n e ≤ n := ih_fst_b h
theorem ih_le_gt {f : Int → Int} {n e : Int} (h : e ≤ n) : e < ih_le f n e ↔ e < n ∧ 97 ≤ f e ∧ f e ≤ 122 := by
  constructor
  · intro q
    have hb := ih_le_b (f := f) h
    have hl : e < n := by omega
    refine ⟨hl, Classical.byContradiction (fun k => ?_)⟩
    have : ih_le f n e = e := ih_fst_ht hl (decide_eq_true k)
    omega
  · rintro ⟨hl, q⟩
    have : ih_le f n e = ih_le f n (e + 1) := ih_fst_st hl (decide_eq_false (fun k => k q))
    have hb := ih_le_b (f := f) (n := n) (e := e + 1) (by omega)
    omega
theorem ih_de_gt {f : Int → Int} {n e : Int} (h : e ≤ n) : e < ih_de f n e ↔ e < n ∧ 48 ≤ f e ∧ f e ≤ 57 := by
  constructor
  · intro q
    have hb := ih_de_b (f := f) h
    have hl : e < n := by omega
    refine ⟨hl, Classical.byContradiction (fun k => ?_)⟩
    have : ih_de f n e = e := ih_fst_ht hl (decide_eq_true k)
    omega
  · rintro ⟨hl, q⟩
    have : ih_de f n e = ih_de f n (e + 1) := ih_fst_st hl (decide_eq_false (fun k => k q))
    have hb := ih_de_b (f := f) (n := n) (e := e + 1) (by omega)
    omega
theorem ih_te_b {f : Int → Int} {n st : Int} (h : st ≤ n) : st ≤ ih_te f n st ∧ ih_te f n st ≤ n ∧ (st < n → st < ih_te f n st) := by
  unfold ih_te
  split
  · omega
  · split
    · next q =>
      have hb := ih_le_b (f := f) h
      have := (ih_le_gt (f := f) h).2 ⟨by omega, q⟩
      omega
    · split
      · next q =>
        have hb := ih_de_b (f := f) h
        have := (ih_de_gt (f := f) h).2 ⟨by omega, q⟩
        omega
      · omega
def ih_adv (f : Int → Int) (n st : Int) : Int := ih_sp f n (ih_te f n st)
theorem ih_adv_b {f : Int → Int} {n st : Int} (h : st ≤ n) : st ≤ ih_adv f n st ∧ ih_adv f n st ≤ n ∧ (st < n → st < ih_adv f n st) := by
  have h1 := ih_te_b (f := f) h
  have h2 := ih_sp_b (f := f) (n := n) (e := ih_te f n st) h1.2.1
  unfold ih_adv
  omega
theorem ih_nv_rg {f : Int → Int} : ∀ (k : Nat) (i v : Int), (∀ x : Int, i ≤ x → x < i + k → 48 ≤ f x ∧ f x ≤ 57) → 0 ≤ v ∧ v ≤ 99999 → 0 ≤ ih_nv f k i v ∧ ih_nv f k i v ≤ 99999
  | 0, i, v, h, hv => hv
  | k + 1, i, v, h, hv => by
    have h0 := h i (by omega) (by omega)
    refine ih_nv_rg k (i + 1) _ (fun x h1 h2 => h x (by omega) (by omega)) ?_
    split <;> omega
theorem ih_num_rg {f : Int → Int} {n st : Int} : 0 ≤ ih_num f n st ∧ ih_num f n st ≤ 99999 := by
  unfold ih_num
  split
  · next q =>
    refine ih_nv_rg _ _ _ (fun x h1 h2 => ?_) (by omega)
    have hb := ih_de_b (f := f) (n := n) (e := st) (by omega)
    have := ih_fst_in (P := fun i => decide (¬ (48 ≤ f i ∧ f i ≤ 57))) (n := (n - st).toNat) x h1 (by unfold ih_de at h2 hb; omega)
    have := of_decide_eq_false this
    omega
  · omega
/-- the class's tape: the token at st -/
def ih_TC (t : ih_S) (f : Int → Int) (n st : Int) : Prop := (t 80 2 = n ∧ t 80 1 = ih_te f n st ∧ t 80 3 = st ∧ t 80 4 = ih_kk f n st ∧ t 80 5 = ih_num f n st) ∧ (0 ≤ st ∧ st ≤ n ∧ n ≤ 120) ∧ (∀ k : Int, 0 ≤ k → k < n → t 81 k = f k ∧ 0 ≤ f k ∧ f k < 256)
def ih_BT (t : ih_S) (f : Int → Int) (n : Int) : Prop := (0 ≤ n ∧ n ≤ 120) ∧ (∀ k : Int, 0 ≤ k → k < n → t 81 k = f k ∧ 0 ≤ f k ∧ f k < 256)

theorem c_isSL {X : List Int} {t : ih_S} {Q : Option xa_V → ih_S → Prop} {a : Int} (ha : xa_rI a) (kt : 97 ≤ a ∧ a ≤ 122 → Q (some (xI 1)) t) (kf : ¬ (97 ≤ a ∧ a ≤ 122) → Q (some (xI 0)) t) : ih_Wp X 39 0 [xI a] [] t Q := by
  refine ih_seg (i1 := 2) 2 rfl ?_
  refine ih_icmp_lt rfl (by omega) (by omega) (fun w1 => ?_) (fun w1 => ?_)
  · refine ih_seg (i1 := 9) 1 rfl ?_
    refine ih_ret rfl rfl ?_
    first | exact kt (by omega) | exact kf (by omega)
  · refine ih_seg (i1 := 5) 2 rfl ?_
    refine ih_icmp_gt rfl (by omega) (by omega) (fun w2 => ?_) (fun w2 => ?_)
    · refine ih_seg (i1 := 9) 1 rfl ?_
      refine ih_ret rfl rfl ?_
      first | exact kt (by omega) | exact kf (by omega)
    · refine ih_seg (i1 := 9) 2 rfl ?_
      refine ih_ret rfl rfl ?_
      first | exact kt (by omega) | exact kf (by omega)


theorem c_isDg {X : List Int} {t : ih_S} {Q : Option xa_V → ih_S → Prop} {a : Int} (ha : xa_rI a) (kt : 48 ≤ a ∧ a ≤ 57 → Q (some (xI 1)) t) (kf : ¬ (48 ≤ a ∧ a ≤ 57) → Q (some (xI 0)) t) : ih_Wp X 40 0 [xI a] [] t Q := by
  refine ih_seg (i1 := 2) 2 rfl ?_
  refine ih_icmp_lt rfl (by omega) (by omega) (fun w1 => ?_) (fun w1 => ?_)
  · refine ih_seg (i1 := 9) 1 rfl ?_
    refine ih_ret rfl rfl ?_
    first | exact kt (by omega) | exact kf (by omega)
  · refine ih_seg (i1 := 5) 2 rfl ?_
    refine ih_icmp_gt rfl (by omega) (by omega) (fun w2 => ?_) (fun w2 => ?_)
    · refine ih_seg (i1 := 9) 1 rfl ?_
      refine ih_ret rfl rfl ?_
      first | exact kt (by omega) | exact kf (by omega)
    · refine ih_seg (i1 := 9) 2 rfl ?_
      refine ih_ret rfl rfl ?_
      first | exact kt (by omega) | exact kf (by omega)


theorem c_tn1 {X : List Int} {t : ih_S} {Q : Option xa_V → ih_S → Prop} {f : Int → Int} {n : Int} (T : ih_BT t f n) (hn : t 80 2 = n) (K : ∀ t1, (∀ j, j ≠ 80 → t1 j = t j) → (∀ g : Int, g ≠ 3 → t1 80 g = t 80 g) → t1 80 3 = ih_sp f n (t 80 3) → ih_Wp X 38 23 [xR 80] [] t1 Q) (h0 : 0 ≤ t 80 3)  : ∀ (d : Nat) (i : Int) (t1 : ih_S) (hd : i + d = n) (h3 : t1 80 3 = i) (hi : 0 ≤ i) (hf : (∀ j, j ≠ 80 → t1 j = t j)) (hg : ∀ g : Int, g ≠ 3 → t1 80 g = t 80 g) (hs : ih_sp f n i = ih_sp f n (t 80 3)), ih_Wp X 38 4 [xR 80] [] t1 Q := by
  intro d
  induction d with
  | zero =>
    intro i t1 hd h3 hi hf hg hs
    have n1 : t1 80 2 = n := by rw [hg 2 (by decide)]; exact hn
    have hT := T.1
    refine ih_seg (i1 := 5) 1 rfl ?_
    refine ih_getI rfl rfl ?_
    refine ih_seg (i1 := 7) 1 rfl ?_
    refine ih_getI rfl rfl ?_
    refine ih_icmp_ge rfl (by omega) (by omega) (fun w1 => ?_) (fun w1 => ?_)
    · refine K t1 hf hg ?_
      rw [← hs, h3]
      exact (ih_fst_en (by omega)).symm
    · exfalso
      omega

  | succ d ih =>
    intro i t1 hd h3 hi hf hg hs
    have n1 : t1 80 2 = n := by rw [hg 2 (by decide)]; exact hn
    have hT := T.1
    have hb := T.2 i hi (by omega)
    have eb : t1 81 i = f i := by rw [hf 81 (by decide)]; exact hb.1
    refine ih_seg (i1 := 5) 1 rfl ?_
    refine ih_getI rfl rfl ?_
    refine ih_seg (i1 := 7) 1 rfl ?_
    refine ih_getI rfl rfl ?_
    refine ih_icmp_ge rfl (by omega) (by omega) (fun w1 => ?_) (fun w1 => ?_)
    · first
        | (exfalso
           omega)
        | (refine K t1 hf hg ?_
           rw [← hs, h3]
           exact (ih_fst_ht (by omega) (by rw [decide_eq_true_eq]; omega)).symm)
    · refine ih_seg (i1 := 10) 1 rfl ?_
      refine ih_getR rfl rfl ?_
      refine ih_seg (i1 := 12) 1 rfl ?_
      refine ih_getI rfl rfl ?_
      rw [h3]
      refine ih_iald rfl (by first | rfl | exact ih_lP1 (ih_P_w0 hc) | exact ih_lP2 (ih_P_w0 hc) | exact ih_lP3 (ih_P_w0 hc) | exact ih_lP4 (ih_P_w0 hc) |  exact ih_lP1 (by assumption) | exact ih_lP2 (by assumption) | exact ih_lP3 (by assumption) | exact ih_lP4 (by assumption) | exact ih_lC1 (by assumption) | exact ih_lS1 (by assumption) | exact ih_lW1 (by assumption) | exact ih_lW2 (by assumption) | exact ih_lW4 (by assumption) | exact ih_lW5 (by assumption)) (by omega) (by omega) (k := ?_)
      rw [eb]
      refine ih_seg (i1 := 15) 1 rfl ?_
      refine ih_icmp_ne rfl (by omega) (by omega) (fun w2 => ?_) (fun w2 => ?_)
      · first
          | (exfalso
             omega)
          | (refine K t1 hf hg ?_
             rw [← hs, h3]
             exact (ih_fst_ht (by omega) (by rw [decide_eq_true_eq]; omega)).symm)
      · refine ih_seg (i1 := 18) 2 rfl ?_
        refine ih_getI rfl rfl ?_
        refine ih_seg (i1 := 21) 2 rfl ?_
        try dsimp only
        refine ih_putI rfl rfl rfl ?_
        refine ih_seg (i1 := 4) 1 rfl ?_
        refine ih (i + 1) _ (by omega) (by rw [ih_up_eq, ih_u1_eq, h3]) (by omega) (fun j hj => (ih_up_ne hj).trans (hf j hj)) (fun g hg2 => by rw [ih_up_eq, ih_u1_ne hg2]; exact hg g hg2) ?_
        rw [← hs]
        exact (ih_fst_st (by omega) (by rw [decide_eq_false_iff_not]; omega)).symm


theorem c_tn2 {X : List Int} {t : ih_S} {Q : Option xa_V → ih_S → Prop} {f : Int → Int} {n : Int} (T : ih_BT t f n) (hn : t 80 2 = n) (K : ∀ t1, (∀ j, j ≠ 80 → t1 j = t j) → (∀ g : Int, g ≠ 1 → t1 80 g = t 80 g) → t1 80 1 = ih_le f n (t 80 1) → ih_Wp X 38 49 [xR 80] [] t1 Q)  : ∀ (d : Nat) (i : Int) (t1 : ih_S) (hd : i + d = n) (h3 : t1 80 1 = i) (hi : 0 ≤ i) (hf : (∀ j, j ≠ 80 → t1 j = t j)) (hg : ∀ g : Int, g ≠ 1 → t1 80 g = t 80 g) (hs : ih_le f n i = ih_le f n (t 80 1)), ih_Wp X 38 30 [xR 80] [] t1 Q := by
  intro d
  induction d with
  | zero =>
    intro i t1 hd h3 hi hf hg hs
    have n1 : t1 80 2 = n := by rw [hg 2 (by decide)]; exact hn
    have hT := T.1
    refine ih_seg (i1 := 31) 1 rfl ?_
    refine ih_getI rfl rfl ?_
    refine ih_seg (i1 := 33) 1 rfl ?_
    refine ih_getI rfl rfl ?_
    refine ih_icmp_ge rfl (by omega) (by omega) (fun w1 => ?_) (fun w1 => ?_)
    · refine K t1 hf hg ?_
      rw [← hs, h3]
      exact (ih_fst_en (by omega)).symm
    · exfalso
      omega

  | succ d ih =>
    intro i t1 hd h3 hi hf hg hs
    have n1 : t1 80 2 = n := by rw [hg 2 (by decide)]; exact hn
    have hT := T.1
    have hb := T.2 i hi (by omega)
    have eb : t1 81 i = f i := by rw [hf 81 (by decide)]; exact hb.1
    refine ih_seg (i1 := 31) 1 rfl ?_
    refine ih_getI rfl rfl ?_
    refine ih_seg (i1 := 33) 1 rfl ?_
    refine ih_getI rfl rfl ?_
    refine ih_icmp_ge rfl (by omega) (by omega) (fun w1 => ?_) (fun w1 => ?_)
    · first
        | (exfalso
           omega)
        | (refine K t1 hf hg ?_
           rw [← hs, h3]
           exact (ih_fst_ht (by omega) (by rw [decide_eq_true_eq]; exact hq)).symm)
    · refine ih_seg (i1 := 36) 1 rfl ?_
      refine ih_getR rfl rfl ?_
      refine ih_seg (i1 := 38) 1 rfl ?_
      refine ih_getI rfl rfl ?_
      rw [h3]
      refine ih_iald rfl (by first | rfl | exact ih_lP1 (ih_P_w0 hc) | exact ih_lP2 (ih_P_w0 hc) | exact ih_lP3 (ih_P_w0 hc) | exact ih_lP4 (ih_P_w0 hc) |  exact ih_lP1 (by assumption) | exact ih_lP2 (by assumption) | exact ih_lP3 (by assumption) | exact ih_lP4 (by assumption) | exact ih_lC1 (by assumption) | exact ih_lS1 (by assumption) | exact ih_lW1 (by assumption) | exact ih_lW2 (by assumption) | exact ih_lW4 (by assumption) | exact ih_lW5 (by assumption)) (by omega) (by omega) (k := ?_)
      refine ih_is1 39 rfl rfl (Nat.le_of_ble_eq_true rfl) (Nat.le_of_ble_eq_true rfl) rfl ?_
      rw [eb]
      refine c_isSL (by omega) (fun hq => ?_) (fun hq => ?_)
      · refine ih_seg (i1 := 44) 3 rfl ?_
        refine ih_getI rfl rfl ?_
        refine ih_seg (i1 := 47) 2 rfl ?_
        try dsimp only
        refine ih_putI rfl rfl rfl ?_
        refine ih_seg (i1 := 30) 1 rfl ?_
        refine ih (i + 1) _ (by omega) (by rw [ih_up_eq, ih_u1_eq, h3]) (by omega) (fun j hj => (ih_up_ne hj).trans (hf j hj)) (fun g hg2 => by rw [ih_up_eq, ih_u1_ne hg2]; exact hg g hg2) ?_
        rw [← hs]
        exact (ih_fst_st (by omega) (by rw [decide_eq_false_iff_not]; exact fun k => k hq)).symm
      · refine ih_seg (i1 := 49) 1 rfl ?_
        first
          | (exfalso
             omega)
          | (refine K t1 hf hg ?_
             rw [← hs, h3]
             exact (ih_fst_ht (by omega) (by rw [decide_eq_true_eq]; exact hq)).symm)


theorem c_tn3 {X : List Int} {t : ih_S} {Q : Option xa_V → ih_S → Prop} {f : Int → Int} {n : Int} (T : ih_BT t f n) (hn : t 80 2 = n) (K : ∀ t1, (∀ j, j ≠ 80 → t1 j = t j) → (∀ g : Int, g ≠ 1 → g ≠ 5 → t1 80 g = t 80 g) → t1 80 1 = ih_de f n (t 80 1) → t1 80 5 = ih_nv f (ih_de f n (t 80 1) - t 80 1).toNat (t 80 1) (t 80 5) → ih_Wp X 38 95 [xR 80] [] t1 Q) (h10 : 0 ≤ t 80 1 ∧ t 80 1 ≤ n)  : ∀ (d : Nat) (i : Int) (t1 : ih_S) (hd : i + d = n) (h3 : t1 80 1 = i) (hi : 0 ≤ i) (hv : 0 ≤ t1 80 5 ∧ t1 80 5 ≤ 99999) (hf : (∀ j, j ≠ 80 → t1 j = t j)) (hg : ∀ g : Int, g ≠ 1 → g ≠ 5 → t1 80 g = t 80 g) (hs : ih_de f n i = ih_de f n (t 80 1)) (hs2 : ih_nv f (ih_de f n i - i).toNat i (t1 80 5) = ih_nv f (ih_de f n (t 80 1) - t 80 1).toNat (t 80 1) (t 80 5)), ih_Wp X 38 58 [xR 80] [] t1 Q := by
  intro d
  induction d with
  | zero =>
    intro i t1 hd h3 hi hv hf hg hs hs2
    have n1 : t1 80 2 = n := by rw [hg 2 (by decide) (by decide)]; exact hn
    have hT := T.1
    have ed : ih_de f n i = i := ih_fst_en (by omega)
    refine ih_seg (i1 := 59) 1 rfl ?_
    refine ih_getI rfl rfl ?_
    refine ih_seg (i1 := 61) 1 rfl ?_
    refine ih_getI rfl rfl ?_
    refine ih_icmp_ge rfl (by omega) (by omega) (fun w1 => ?_) (fun w1 => ?_)
    · refine K t1 hf hg ?_ ?_
      · rw [← hs, h3, ed]
      · rw [← hs2, ed, show (i - i).toNat = 0 by omega]
        rfl
    · exfalso
      omega

  | succ d ih =>
    intro i t1 hd h3 hi hv hf hg hs hs2
    have n1 : t1 80 2 = n := by rw [hg 2 (by decide) (by decide)]; exact hn
    have hT := T.1
    have hb := T.2 i hi (by omega)
    have eb : t1 81 i = f i := by rw [hf 81 (by decide)]; exact hb.1
    refine ih_seg (i1 := 59) 1 rfl ?_
    refine ih_getI rfl rfl ?_
    refine ih_seg (i1 := 61) 1 rfl ?_
    refine ih_getI rfl rfl ?_
    refine ih_icmp_ge rfl (by omega) (by omega) (fun w1 => ?_) (fun w1 => ?_)
    · first
        | (exfalso
           omega)
        | (have ed : ih_de f n i = i := ih_fst_ht (by omega) (by rw [decide_eq_true_eq]; exact hq)
           refine K t1 hf hg ?_ ?_
           · rw [← hs, h3, ed]
           · rw [← hs2, ed, show (i - i).toNat = 0 by omega]
             rfl)
    · refine ih_seg (i1 := 64) 1 rfl ?_
      refine ih_getR rfl rfl ?_
      refine ih_seg (i1 := 66) 1 rfl ?_
      refine ih_getI rfl rfl ?_
      rw [h3]
      refine ih_iald rfl (by first | rfl | exact ih_lP1 (ih_P_w0 hc) | exact ih_lP2 (ih_P_w0 hc) | exact ih_lP3 (ih_P_w0 hc) | exact ih_lP4 (ih_P_w0 hc) |  exact ih_lP1 (by assumption) | exact ih_lP2 (by assumption) | exact ih_lP3 (by assumption) | exact ih_lP4 (by assumption) | exact ih_lC1 (by assumption) | exact ih_lS1 (by assumption) | exact ih_lW1 (by assumption) | exact ih_lW2 (by assumption) | exact ih_lW4 (by assumption) | exact ih_lW5 (by assumption)) (by omega) (by omega) (k := ?_)
      refine ih_is1 40 rfl rfl (Nat.le_of_ble_eq_true rfl) (Nat.le_of_ble_eq_true rfl) rfl ?_
      rw [eb]
      refine c_isDg (by omega) (fun hq => ?_) (fun hq => ?_)
      · refine ih_seg (i1 := 71) 2 rfl ?_
        refine ih_getI rfl rfl ?_
        refine ih_seg (i1 := 73) 1 rfl ?_
        refine ih_icmp_gt rfl (by omega) (by omega) (fun w2 => ?_) (fun w2 => ?_)
        · refine ih_seg (i1 := 90) 2 rfl ?_
          first | rw [ih_up_eq, ih_u1_ne (show (1 : Int) ≠ 5 by decide)] | skip
          refine ih_getI rfl rfl ?_
          refine ih_seg (i1 := 93) 2 rfl ?_
          try dsimp only
          refine ih_putI rfl rfl rfl ?_
          refine ih_seg (i1 := 58) 1 rfl ?_
          have ed : ih_de f n i = ih_de f n (i + 1) := ih_fst_st (by omega) (by rw [decide_eq_false_iff_not]; exact fun k => k hq)
          have hbd := ih_de_b (f := f) (n := n) (e := i + 1) (by omega)
          have ek : (ih_de f n i - i).toNat = (ih_de f n (i + 1) - (i + 1)).toNat + 1 := by omega
          rw [ek] at hs2
          have en : ih_nv f ((ih_de f n (i + 1) - (i + 1)).toNat + 1) i (t1 80 5) = ih_nv f (ih_de f n (i + 1) - (i + 1)).toNat (i + 1) (if t1 80 5 ≤ 9999 then 10 * t1 80 5 + f i - 48 else t1 80 5) := rfl
          rw [en] at hs2
          first
            | (rw [if_pos (show t1 80 5 ≤ 9999 by omega)] at hs2
               refine ih (i + 1) _ (by omega) (by simp only [ih_up_eq, ih_u1_eq, ih_u1_ne (show (1 : Int) ≠ 5 by decide), h3]) (by omega) (by simp only [ih_up_eq, ih_u1_eq, ih_u1_ne (show (5 : Int) ≠ 1 by decide)]; omega) (fun j hj => by rw [ih_up_ne hj, ih_up_ne hj]; exact hf j hj) (fun g hg2 hg3 => by rw [ih_up_eq, ih_u1_ne hg2, ih_up_eq, ih_u1_ne hg3]; exact hg g hg2 hg3) (by rw [← ed]; exact hs) ?_
               simp only [ih_up_eq, ih_u1_eq, ih_u1_ne (show (5 : Int) ≠ 1 by decide)]
               exact hs2)
            | (rw [if_neg (show ¬ t1 80 5 ≤ 9999 by omega)] at hs2
               refine ih (i + 1) _ (by omega) (by simp only [ih_up_eq, ih_u1_eq, h3]) (by omega) (by simp only [ih_up_eq, ih_u1_ne (show (5 : Int) ≠ 1 by decide)]; omega) (fun j hj => by rw [ih_up_ne hj]; exact hf j hj) (fun g hg2 hg3 => by rw [ih_up_eq, ih_u1_ne hg2]; exact hg g hg2 hg3) (by rw [← ed]; exact hs) ?_
               simp only [ih_up_eq, ih_u1_ne (show (5 : Int) ≠ 1 by decide)]
               exact hs2)
        · refine ih_seg (i1 := 77) 3 rfl ?_
          refine ih_getI rfl rfl ?_
          refine ih_seg (i1 := 80) 2 rfl ?_
          try dsimp only
          refine ih_getR rfl rfl ?_
          refine ih_seg (i1 := 82) 1 rfl ?_
          refine ih_getI rfl rfl ?_
          rw [h3]
          refine ih_iald rfl (by first | rfl | exact ih_lP1 (ih_P_w0 hc) | exact ih_lP2 (ih_P_w0 hc) | exact ih_lP3 (ih_P_w0 hc) | exact ih_lP4 (ih_P_w0 hc) |  exact ih_lP1 (by assumption) | exact ih_lP2 (by assumption) | exact ih_lP3 (by assumption) | exact ih_lP4 (by assumption) | exact ih_lC1 (by assumption) | exact ih_lS1 (by assumption) | exact ih_lW1 (by assumption) | exact ih_lW2 (by assumption) | exact ih_lW4 (by assumption) | exact ih_lW5 (by assumption)) (by omega) (by omega) (k := ?_)
          rw [eb]
          refine ih_seg (i1 := 87) 3 rfl ?_
          try dsimp only
          refine ih_putI rfl rfl rfl ?_
          refine ih_seg (i1 := 90) 2 rfl ?_
          first | rw [ih_up_eq, ih_u1_ne (show (1 : Int) ≠ 5 by decide)] | skip
          refine ih_getI rfl rfl ?_
          refine ih_seg (i1 := 93) 2 rfl ?_
          try dsimp only
          refine ih_putI rfl rfl rfl ?_
          refine ih_seg (i1 := 58) 1 rfl ?_
          have ed : ih_de f n i = ih_de f n (i + 1) := ih_fst_st (by omega) (by rw [decide_eq_false_iff_not]; exact fun k => k hq)
          have hbd := ih_de_b (f := f) (n := n) (e := i + 1) (by omega)
          have ek : (ih_de f n i - i).toNat = (ih_de f n (i + 1) - (i + 1)).toNat + 1 := by omega
          rw [ek] at hs2
          have en : ih_nv f ((ih_de f n (i + 1) - (i + 1)).toNat + 1) i (t1 80 5) = ih_nv f (ih_de f n (i + 1) - (i + 1)).toNat (i + 1) (if t1 80 5 ≤ 9999 then 10 * t1 80 5 + f i - 48 else t1 80 5) := rfl
          rw [en] at hs2
          first
            | (rw [if_pos (show t1 80 5 ≤ 9999 by omega)] at hs2
               refine ih (i + 1) _ (by omega) (by simp only [ih_up_eq, ih_u1_eq, ih_u1_ne (show (1 : Int) ≠ 5 by decide), h3]) (by omega) (by simp only [ih_up_eq, ih_u1_eq, ih_u1_ne (show (5 : Int) ≠ 1 by decide)]; omega) (fun j hj => by rw [ih_up_ne hj, ih_up_ne hj]; exact hf j hj) (fun g hg2 hg3 => by rw [ih_up_eq, ih_u1_ne hg2, ih_up_eq, ih_u1_ne hg3]; exact hg g hg2 hg3) (by rw [← ed]; exact hs) ?_
               simp only [ih_up_eq, ih_u1_eq, ih_u1_ne (show (5 : Int) ≠ 1 by decide)]
               exact hs2)
            | (rw [if_neg (show ¬ t1 80 5 ≤ 9999 by omega)] at hs2
               refine ih (i + 1) _ (by omega) (by simp only [ih_up_eq, ih_u1_eq, h3]) (by omega) (by simp only [ih_up_eq, ih_u1_ne (show (5 : Int) ≠ 1 by decide)]; omega) (fun j hj => by rw [ih_up_ne hj]; exact hf j hj) (fun g hg2 hg3 => by rw [ih_up_eq, ih_u1_ne hg2]; exact hg g hg2 hg3) (by rw [← ed]; exact hs) ?_
               simp only [ih_up_eq, ih_u1_ne (show (5 : Int) ≠ 1 by decide)]
               exact hs2)
      · refine ih_seg (i1 := 95) 1 rfl ?_
        first
          | (exfalso
             omega)
          | (have ed : ih_de f n i = i := ih_fst_ht (by omega) (by rw [decide_eq_true_eq]; exact hq)
             refine K t1 hf hg ?_ ?_
             · rw [← hs, h3, ed]
             · rw [← hs2, ed, show (i - i).toNat = 0 by omega]
               rfl)


theorem c_toNext {X : List Int} {t : ih_S} {Q : Option xa_V → ih_S → Prop} {f : Int → Int} {n : Int} (T : ih_BT t f n) (hn : t 80 2 = n) (he : 0 ≤ t 80 1 ∧ t 80 1 ≤ n) (K : ∀ t1, (∀ j, j ≠ 80 → t1 j = t j) → ih_TC t1 f n (ih_sp f n (t 80 1)) → Q none t1) : ih_Wp X 38 0 [xR 80] [] t Q := by
  have hT := T.1
  refine ih_seg (i1 := 2) 2 rfl ?_
  refine ih_getI rfl rfl ?_
  refine ih_putI rfl rfl rfl ?_
  have T0 : ih_BT (ih_up t 80 3 (t 80 1)) f n := ⟨T.1, fun k k0 k1 => by rw [ih_up_ne (by decide)]; exact T.2 k k0 k1⟩
  refine c_tn1 T0 (by rw [ih_up_eq, ih_u1_ne (by decide)]; exact hn) (fun t1 f1 g1' b1' => ?_) (by rw [ih_up_eq, ih_u1_eq]; exact he.1) (n - t 80 1).toNat (t 80 1) _ (by omega) (by rw [ih_up_eq, ih_u1_eq]) he.1 (fun _ _ => rfl) (fun _ _ => rfl) (by rw [ih_up_eq, ih_u1_eq])
  have s3 : t1 80 3 = ih_sp f n (t 80 1) := by
    rw [b1']
    simp only [ih_up_eq, ih_u1_eq]
  have n1 : t1 80 2 = n := by
    rw [g1' 2 (by decide), ih_up_eq, ih_u1_ne (by decide)]
    exact hn
  have hsb := ih_sp_b (f := f) (n := n) (e := t 80 1) he.2
  refine ih_seg (i1 := 25) 2 rfl ?_
  refine ih_getI rfl rfl ?_
  refine ih_putI rfl rfl rfl ?_
  refine ih_seg (i1 := 29) 2 rfl ?_
  refine ih_putI rfl rfl rfl ?_
  have T1 : ih_BT (ih_up (ih_up t1 80 1 (t1 80 3)) 80 5 0) f n := ⟨T.1, fun k k0 k1 => by rw [ih_up_ne (show (81 : Nat) ≠ 80 by decide), ih_up_ne (show (81 : Nat) ≠ 80 by decide), f1 81 (by decide), ih_up_ne (by decide)]; exact T.2 k k0 k1⟩
  refine c_tn2 (t := ih_up (ih_up t1 80 1 (t1 80 3)) 80 5 0) T1 (by simp only [ih_up_eq, ih_u1x, reduceIte, Int.reduceEq, if_false, if_true]; exact n1) (fun t2 f2 g2' b2 => ?_) (n - ih_sp f n (t 80 1)).toNat (ih_sp f n (t 80 1)) _ (by omega) (by simp only [ih_up_eq, ih_u1x, reduceIte, Int.reduceEq, if_false, if_true]; exact s3) (by omega) (fun _ _ => rfl) (fun _ _ => rfl) (by simp only [ih_up_eq, ih_u1x, reduceIte, Int.reduceEq, if_false, if_true]; rw [s3])
  have c1 : t2 80 1 = ih_le f n (ih_sp f n (t 80 1)) := by
    rw [b2]
    simp only [ih_up_eq, ih_u1x, reduceIte, Int.reduceEq, if_false, if_true]
    rw [s3]
  have c2 : t2 80 2 = n := by
    rw [g2' 2 (by decide)]
    simp only [ih_up_eq, ih_u1x, reduceIte, Int.reduceEq, if_false, if_true]
    exact n1
  have c3 : t2 80 3 = ih_sp f n (t 80 1) := by
    rw [g2' 3 (by decide)]
    simp only [ih_up_eq, ih_u1x, reduceIte, Int.reduceEq, if_false, if_true]
    exact s3
  have c5 : t2 80 5 = 0 := by
    rw [g2' 5 (by decide)]
    simp only [ih_up_eq, ih_u1x, reduceIte, Int.reduceEq, if_false, if_true]
  have hb1 := ih_le_b (f := f) (n := n) (e := ih_sp f n (t 80 1)) hsb.2
  have hb2 := ih_de_b (f := f) (n := n) (e := ih_sp f n (t 80 1)) hsb.2
  have g1 := ih_le_gt (f := f) (n := n) (e := ih_sp f n (t 80 1)) hsb.2
  have g2 := ih_de_gt (f := f) (n := n) (e := ih_sp f n (t 80 1)) hsb.2
  refine ih_seg (i1 := 50) 1 rfl ?_
  refine ih_getI rfl rfl ?_
  refine ih_seg (i1 := 52) 1 rfl ?_
  refine ih_getI rfl rfl ?_
  refine ih_icmp_le rfl (by omega) (by omega) (fun w1 => ?_) (fun w1 => ?_)
  · have lez : ih_le f n (ih_sp f n (t 80 1)) = ih_sp f n (t 80 1) := by omega
    have T2 : ih_BT t2 f n := ⟨T.1, fun k k0 k1 => by rw [f2 81 (by decide), ih_up_ne (by decide), ih_up_ne (by decide), f1 81 (by decide), ih_up_ne (by decide)]; exact T.2 k k0 k1⟩
    refine c_tn3 T2 c2 (fun t3 f3 g3 b1 b5 => ?_) (by omega) (n - ih_sp f n (t 80 1)).toNat (ih_sp f n (t 80 1)) t2 (by omega) (by omega) (by omega) (by omega) (fun _ _ => rfl) (fun _ _ _ => rfl) (by rw [c1, lez]) (by rw [c1, lez])
    rw [c1, lez] at b1 b5
    have a1 : t3 80 1 = ih_de f n (ih_sp f n (t 80 1)) := b1
    have a2 : t3 80 2 = n := by rw [g3 2 (by decide) (by decide)]; exact c2
    have a3 : t3 80 3 = ih_sp f n (t 80 1) := by rw [g3 3 (by decide) (by decide)]; exact c3
    have a5 : t3 80 5 = ih_nv f (ih_de f n (ih_sp f n (t 80 1)) - ih_sp f n (t 80 1)).toNat (ih_sp f n (t 80 1)) 0 := by rw [b5, c5]
    refine ih_seg (i1 := 96) 1 rfl ?_
    refine ih_getI rfl rfl ?_
    refine ih_seg (i1 := 98) 1 rfl ?_
    refine ih_getI rfl rfl ?_
    refine ih_icmp_le rfl (by omega) (by omega) (fun w1 => ?_) (fun w1 => ?_)
    · refine ih_seg (i1 := 105) 1 rfl ?_
      refine ih_getI rfl rfl ?_
      refine ih_seg (i1 := 107) 1 rfl ?_
      refine ih_getI rfl rfl ?_
      refine ih_icmp_lt rfl (by omega) (by omega) (fun w2 => ?_) (fun w2 => ?_)
      · refine ih_seg (i1 := 115) 2 rfl ?_
        refine ih_getR rfl rfl ?_
        refine ih_seg (i1 := 117) 1 rfl ?_
        refine ih_getI rfl rfl ?_
        have eb3 : t3 81 (ih_sp f n (t 80 1)) = f (ih_sp f n (t 80 1)) := by
          rw [f3 81 (by decide), f2 81 (by decide), ih_up_ne (by decide), ih_up_ne (by decide), f1 81 (by decide), ih_up_ne (by decide)]
          exact (T.2 _ (by omega) (by omega)).1
        have br := T.2 (ih_sp f n (t 80 1)) (by omega) (by omega)
        rw [a3]
        refine ih_iald rfl rfl (by omega) (by omega) (k := ?_)
        rw [eb3]
        refine ih_seg (i1 := 120) 1 rfl ?_
        refine ih_icmp_ne rfl (by omega) (by omega) (fun w3 => ?_) (fun w3 => ?_)
        · refine ih_seg (i1 := 124) 1 rfl ?_
          refine ih_putI rfl rfl rfl ?_
          refine ih_seg (i1 := 127) 2 rfl ?_
          refine ih_getI rfl rfl ?_
          simp only [ih_up_eq, ih_u1_ne (show (3 : Int) ≠ 4 by decide)]
          refine ih_seg (i1 := 130) 2 rfl ?_
          try dsimp only
          refine ih_putI rfl rfl rfl ?_
          refine ih_retv rfl ?_
          refine K _ (fun j hj => ?_) ⟨⟨?_, ?_, ?_, ?_, ?_⟩, ⟨by omega, hsb.2, T.1.2⟩, fun k k0 k1 => ?_⟩
          · simp only [ih_up_ne hj]
            rw [f3 j hj, f2 j hj]
            simp only [ih_up_ne hj]
            rw [f1 j hj]
            simp only [ih_up_ne hj]
          · simp only [ih_up_eq, ih_u1x, reduceIte, Int.reduceEq, if_false, if_true]
            exact a2
          · simp only [ih_up_eq, ih_u1x, reduceIte, Int.reduceEq, if_false, if_true]
            rw [ih_te, if_neg (by omega), if_neg (by omega), if_neg (by omega)]
            omega
          · simp only [ih_up_eq, ih_u1x, reduceIte, Int.reduceEq, if_false, if_true]
            exact a3
          · simp only [ih_up_eq, ih_u1x, reduceIte, Int.reduceEq, if_false, if_true]
            rw [ih_kk, if_neg (by omega), if_neg (by omega), if_neg (by omega), if_neg (by omega)]
          · simp only [ih_up_eq, ih_u1x, reduceIte, Int.reduceEq, if_false, if_true]
            rw [ih_num, if_neg (by omega)]
            rw [a5, show (ih_de f n (ih_sp f n (t 80 1)) - ih_sp f n (t 80 1)).toNat = 0 by omega]
            rfl
          · simp only [ih_up_ne (show (81 : Nat) ≠ 80 by decide)]
            rw [f3 81 (by decide), f2 81 (by decide)]
            simp only [ih_up_ne (show (81 : Nat) ≠ 80 by decide)]
            rw [f1 81 (by decide), ih_up_ne (by decide)]
            exact T.2 k k0 k1
        · refine ih_seg (i1 := 124) 2 rfl ?_
          refine ih_putI rfl rfl rfl ?_
          refine ih_seg (i1 := 127) 2 rfl ?_
          refine ih_getI rfl rfl ?_
          simp only [ih_up_eq, ih_u1_ne (show (3 : Int) ≠ 4 by decide)]
          refine ih_seg (i1 := 130) 2 rfl ?_
          try dsimp only
          refine ih_putI rfl rfl rfl ?_
          refine ih_retv rfl ?_
          refine K _ (fun j hj => ?_) ⟨⟨?_, ?_, ?_, ?_, ?_⟩, ⟨by omega, hsb.2, T.1.2⟩, fun k k0 k1 => ?_⟩
          · simp only [ih_up_ne hj]
            rw [f3 j hj, f2 j hj]
            simp only [ih_up_ne hj]
            rw [f1 j hj]
            simp only [ih_up_ne hj]
          · simp only [ih_up_eq, ih_u1x, reduceIte, Int.reduceEq, if_false, if_true]
            exact a2
          · simp only [ih_up_eq, ih_u1x, reduceIte, Int.reduceEq, if_false, if_true]
            rw [ih_te, if_neg (by omega), if_neg (by omega), if_neg (by omega)]
            omega
          · simp only [ih_up_eq, ih_u1x, reduceIte, Int.reduceEq, if_false, if_true]
            exact a3
          · simp only [ih_up_eq, ih_u1x, reduceIte, Int.reduceEq, if_false, if_true]
            rw [ih_kk, if_neg (by omega), if_neg (by omega), if_neg (by omega), if_pos (by omega)]
          · simp only [ih_up_eq, ih_u1x, reduceIte, Int.reduceEq, if_false, if_true]
            rw [ih_num, if_neg (by omega)]
            rw [a5, show (ih_de f n (ih_sp f n (t 80 1)) - ih_sp f n (t 80 1)).toNat = 0 by omega]
            rfl
          · simp only [ih_up_ne (show (81 : Nat) ≠ 80 by decide)]
            rw [f3 81 (by decide), f2 81 (by decide)]
            simp only [ih_up_ne (show (81 : Nat) ≠ 80 by decide)]
            rw [f1 81 (by decide), ih_up_ne (by decide)]
            exact T.2 k k0 k1
      · refine ih_seg (i1 := 111) 2 rfl ?_
        refine ih_putI rfl rfl rfl ?_
        refine ih_seg (i1 := 131) 1 rfl ?_
        refine ih_retv rfl ?_
        refine K _ (fun j hj => ?_) ⟨⟨?_, ?_, ?_, ?_, ?_⟩, ⟨by omega, hsb.2, T.1.2⟩, fun k k0 k1 => ?_⟩
        · simp only [ih_up_ne hj]
          rw [f3 j hj, f2 j hj]
          simp only [ih_up_ne hj]
          rw [f1 j hj]
          simp only [ih_up_ne hj]
        · simp only [ih_up_eq, ih_u1x, reduceIte, Int.reduceEq, if_false, if_true]
          exact a2
        · simp only [ih_up_eq, ih_u1x, reduceIte, Int.reduceEq, if_false, if_true]
          rw [ih_te, if_pos (by omega)]
          omega
        · simp only [ih_up_eq, ih_u1x, reduceIte, Int.reduceEq, if_false, if_true]
          exact a3
        · simp only [ih_up_eq, ih_u1x, reduceIte, Int.reduceEq, if_false, if_true]
          rw [ih_kk, if_pos (by omega)]
        · simp only [ih_up_eq, ih_u1x, reduceIte, Int.reduceEq, if_false, if_true]
          rw [ih_num, if_neg (by omega)]
          rw [a5, show (ih_de f n (ih_sp f n (t 80 1)) - ih_sp f n (t 80 1)).toNat = 0 by omega]
          rfl
        · simp only [ih_up_ne (show (81 : Nat) ≠ 80 by decide)]
          rw [f3 81 (by decide), f2 81 (by decide)]
          simp only [ih_up_ne (show (81 : Nat) ≠ 80 by decide)]
          rw [f1 81 (by decide), ih_up_ne (by decide)]
          exact T.2 k k0 k1
    · refine ih_seg (i1 := 102) 2 rfl ?_
      refine ih_putI rfl rfl rfl ?_
      refine ih_seg (i1 := 131) 1 rfl ?_
      refine ih_retv rfl ?_
      refine K _ (fun j hj => ?_) ⟨⟨?_, ?_, ?_, ?_, ?_⟩, ⟨by omega, hsb.2, T.1.2⟩, fun k k0 k1 => ?_⟩
      · simp only [ih_up_ne hj]
        rw [f3 j hj, f2 j hj]
        simp only [ih_up_ne hj]
        rw [f1 j hj]
        simp only [ih_up_ne hj]
      · simp only [ih_up_eq, ih_u1x, reduceIte, Int.reduceEq, if_false, if_true]
        exact a2
      · simp only [ih_up_eq, ih_u1x, reduceIte, Int.reduceEq, if_false, if_true]
        rw [ih_te, if_neg (by omega), if_neg (by omega), if_pos (by omega)]
        exact a1
      · simp only [ih_up_eq, ih_u1x, reduceIte, Int.reduceEq, if_false, if_true]
        exact a3
      · simp only [ih_up_eq, ih_u1x, reduceIte, Int.reduceEq, if_false, if_true]
        rw [ih_kk, if_neg (by omega), if_neg (by omega), if_pos (by omega)]
      · simp only [ih_up_eq, ih_u1x, reduceIte, Int.reduceEq, if_false, if_true]
        rw [ih_num, if_pos (by omega)]
        exact a5
      · simp only [ih_up_ne (show (81 : Nat) ≠ 80 by decide)]
        rw [f3 81 (by decide), f2 81 (by decide)]
        simp only [ih_up_ne (show (81 : Nat) ≠ 80 by decide)]
        rw [f1 81 (by decide), ih_up_ne (by decide)]
        exact T.2 k k0 k1
  · refine ih_seg (i1 := 56) 2 rfl ?_
    refine ih_putI rfl rfl rfl ?_
    refine ih_retv rfl ?_
    refine K _ (fun j hj => ?_) ⟨⟨?_, ?_, ?_, ?_, ?_⟩, ⟨by omega, hsb.2, T.1.2⟩, fun k k0 k1 => ?_⟩
    · rw [ih_up_ne hj, f2 j hj]
      simp only [ih_up_ne hj]
      rw [f1 j hj, ih_up_ne hj]
    · simp only [ih_up_eq, ih_u1x, reduceIte, Int.reduceEq, if_false, if_true]
      exact c2
    · simp only [ih_up_eq, ih_u1x, reduceIte, Int.reduceEq, if_false, if_true]
      rw [ih_te, if_neg (by omega), if_pos (by omega)]
      exact c1
    · simp only [ih_up_eq, ih_u1x, reduceIte, Int.reduceEq, if_false, if_true]
      exact c3
    · simp only [ih_up_eq, ih_u1x, reduceIte, Int.reduceEq, if_false, if_true]
      rw [ih_kk, if_neg (by omega), if_pos (by omega)]
    · simp only [ih_up_eq, ih_u1x, reduceIte, Int.reduceEq, if_false, if_true]
      rw [ih_num, if_neg (by omega)]
      exact c5
    · rw [ih_up_ne (by decide), f2 81 (by decide), ih_up_ne (by decide), ih_up_ne (by decide), f1 81 (by decide), ih_up_ne (by decide)]
      exact T.2 k k0 k1

