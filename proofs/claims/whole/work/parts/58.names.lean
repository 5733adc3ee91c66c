/-! texts: the words that are asked for; names, letters and numbers of the class's tape -/
theorem ih_aldc {X : List Int} {mi i : Nat} {ls st : List xa_V} {t : ih_S} {Q : Option xa_V → ih_S → Prop} {pc ln c : Nat} {k : Fin 4} {x : List Int} (hf : (xb_G.1 mi)[i]? = some (pc, .aload_n k, ln, x)) (hl : ls[k.val]? = some (xC c)) (hc : 4 ≤ c) (kk : ih_Wp X mi (i + 1) ls (xC c :: st) t Q) : ih_Wp X mi i ls st t Q := by
  refine ih_step hf ?_ kk
  show xa_aload i ls st (ih_mk t) k.val = _
  unfold xa_aload
  rw [hl]
  exact if_pos (Or.inr hc)
theorem ih_ca_no {X : List Int} {n : Nat} (h : 8 ≤ n) : xa_ca X n = none := by
  unfold xa_ca
  split <;> first | omega | rfl
theorem ih_fit4 {z : Int} (h : 97 ≤ z ∧ z ≤ 122) : xa_fit 4 (xI z) = true := by
  have e : decide (0 ≤ z ∧ z ≤ 65535) = true := decide_eq_true (by omega)
  unfold xa_fit
  dsimp only
  rw [e]
  simp
/-- the text c holds the small letters xs -/
def ih_txt (c : Nat) (xs : List Int) : Prop := (20 ≤ c ∧ c < 33) ∧ xa_cb (c + 20) = some xs ∧ (2 ≤ xs.length ∧ xs.length ≤ 5) ∧ ∀ k : Nat, k < xs.length → 97 ≤ xs.getD k 0 ∧ xs.getD k 0 ≤ 122

abbrev ih_x_ink : List Int := [105, 110, 107]
theorem ih_t_ink : ih_txt 20 ih_x_ink := ⟨⟨by decide, by decide⟩, rfl, ⟨by decide, by decide⟩, by decide⟩
abbrev ih_x_paper : List Int := [112, 97, 112, 101, 114]
theorem ih_t_paper : ih_txt 21 ih_x_paper := ⟨⟨by decide, by decide⟩, rfl, ⟨by decide, by decide⟩, by decide⟩
abbrev ih_x_on : List Int := [111, 110]
theorem ih_t_on : ih_txt 22 ih_x_on := ⟨⟨by decide, by decide⟩, rfl, ⟨by decide, by decide⟩, by decide⟩
abbrev ih_x_lasts : List Int := [108, 97, 115, 116, 115]
theorem ih_t_lasts : ih_txt 23 ih_x_lasts := ⟨⟨by decide, by decide⟩, rfl, ⟨by decide, by decide⟩, by decide⟩
abbrev ih_x_price : List Int := [112, 114, 105, 99, 101]
theorem ih_t_price : ih_txt 24 ih_x_price := ⟨⟨by decide, by decide⟩, rfl, ⟨by decide, by decide⟩, by decide⟩
abbrev ih_x_light : List Int := [108, 105, 103, 104, 116]
theorem ih_t_light : ih_txt 25 ih_x_light := ⟨⟨by decide, by decide⟩, rfl, ⟨by decide, by decide⟩, by decide⟩
abbrev ih_x_dark : List Int := [100, 97, 114, 107]
theorem ih_t_dark : ih_txt 26 ih_x_dark := ⟨⟨by decide, by decide⟩, rfl, ⟨by decide, by decide⟩, by decide⟩
abbrev ih_x_not : List Int := [110, 111, 116]
theorem ih_t_not : ih_txt 27 ih_x_not := ⟨⟨by decide, by decide⟩, rfl, ⟨by decide, by decide⟩, by decide⟩
abbrev ih_x_and : List Int := [97, 110, 100]
theorem ih_t_and : ih_txt 28 ih_x_and := ⟨⟨by decide, by decide⟩, rfl, ⟨by decide, by decide⟩, by decide⟩
abbrev ih_x_or : List Int := [111, 114]
theorem ih_t_or : ih_txt 29 ih_x_or := ⟨⟨by decide, by decide⟩, rfl, ⟨by decide, by decide⟩, by decide⟩
abbrev ih_x_bold : List Int := [98, 111, 108, 100]
theorem ih_t_bold : ih_txt 30 ih_x_bold := ⟨⟨by decide, by decide⟩, rfl, ⟨by decide, by decide⟩, by decide⟩
abbrev ih_x_faint : List Int := [102, 97, 105, 110, 116]
theorem ih_t_faint : ih_txt 31 ih_x_faint := ⟨⟨by decide, by decide⟩, rfl, ⟨by decide, by decide⟩, by decide⟩
abbrev ih_x_blot : List Int := [98, 108, 111, 116]
theorem ih_t_blot : ih_txt 32 ih_x_blot := ⟨⟨by decide, by decide⟩, rfl, ⟨by decide, by decide⟩, by decide⟩
theorem ih_xshr {n : Nat} (h : 2 ≤ n ∧ n ≤ 5) : xa_shr (n : Int) 0 = n := by
  rcases (by omega : n = 2 ∨ n = 3 ∨ n = 4 ∨ n = 5) with rfl | rfl | rfl | rfl <;> decide +kernel
theorem ih_x255 {z : Int} (h : 97 ≤ z ∧ z ≤ 122) : xa_and z 255 = z := by
  obtain ⟨n, rfl⟩ := Int.eq_ofNat_of_zero_le (show 0 ≤ z by omega)
  have e : ∀ n : Nat, n < 123 → xa_and ((n : Nat) : Int) 255 = n := by decide +kernel
  exact e n (by omega)
def ih_isb (f : Int → Int) (n st : Int) (xs : List Int) : Bool := decide (ih_kk f n st = 1) && (decide (ih_te f n st - st = (xs.length : Int)) && (List.range xs.length).all (fun k : Nat => decide (f (st + k) = xs.getD k 0)))
/-- the token at st is the name xs -/
abbrev ih_is (f : Int → Int) (n st : Int) (xs : List Int) : Prop := ih_isb f n st xs = true
theorem ih_is_iff {f : Int → Int} {n st : Int} {xs : List Int} : ih_is f n st xs ↔ ih_kk f n st = 1 ∧ ih_te f n st - st = (xs.length : Int) ∧ ∀ k : Nat, k < xs.length → f (st + k) = xs.getD k 0 := by
  unfold ih_is ih_isb
  simp only [Bool.and_eq_true, decide_eq_true_eq, List.all_eq_true, List.mem_range]
def ih_ltr (f : Int → Int) (n st : Int) : Int := if ih_kk f n st = 1 ∧ ih_te f n st - st = 1 ∧ f st ≤ 100 then f st - 97 else -1
theorem ih_kk1 {f : Int → Int} {n st : Int} : ih_kk f n st = 1 ↔ st < n ∧ 97 ≤ f st ∧ f st ≤ 122 := by
  unfold ih_kk
  constructor
  · intro h
    split at h
    · omega
    · split at h
      · omega
      · split at h
        · omega
        · split at h <;> omega
  · intro h
    rw [if_neg (by omega), if_pos (by omega)]
theorem ih_kk2 {f : Int → Int} {n st : Int} : ih_kk f n st = 2 ↔ st < n ∧ 48 ≤ f st ∧ f st ≤ 57 := by
  unfold ih_kk
  constructor
  · intro h
    split at h
    · omega
    · split at h
      · omega
      · split at h
        · omega
        · split at h <;> omega
  · intro h
    rw [if_neg (by omega), if_neg (by omega), if_pos (by omega)]
theorem ih_kk3 {f : Int → Int} {n st : Int} : ih_kk f n st = 3 ↔ st < n ∧ f st = 59 := by
  unfold ih_kk
  constructor
  · intro h
    split at h
    · omega
    · split at h
      · omega
      · split at h
        · omega
        · split at h <;> omega
  · intro h
    rw [if_neg (by omega), if_neg (by omega), if_neg (by omega), if_pos (by omega)]
theorem ih_kk0 {f : Int → Int} {n st : Int} : ih_kk f n st = 0 ↔ n ≤ st := by
  unfold ih_kk
  constructor
  · intro h
    split at h
    · omega
    · split at h
      · omega
      · split at h
        · omega
        · split at h <;> omega
  · intro h
    rw [if_pos (by omega)]
theorem ih_kk_rg {f : Int → Int} {n st : Int} : 0 ≤ ih_kk f n st ∧ ih_kk f n st ≤ 4 := by
  unfold ih_kk
  split
  · omega
  · split
    · omega
    · split
      · omega
      · split <;> omega
theorem ih_ltr_rg {f : Int → Int} {n st : Int} : ih_ltr f n st = -1 ∨ (0 ≤ ih_ltr f n st ∧ ih_ltr f n st < 4) := by
  unfold ih_ltr
  split
  · next q =>
    have := ih_kk1.1 q.1
    omega
  · exact Or.inl rfl

theorem c_scoder {X : List Int} {t : ih_S} {Q : Option xa_V → ih_S → Prop} {c : Nat} (hc : 20 ≤ c ∧ c < 33) (k : Q (some (xI 0)) t) : ih_Wp X 214 0 [xC c] [] t Q := by
  refine ih_seg (i1 := 1) 1 rfl ?_
  refine ih_ifc_eq rfl (by omega) (fun w1 => ?_) (fun w1 => ?_)
  · exact absurd w1 (by decide)
  · refine ih_aldc rfl rfl (by omega) ?_
    refine ih_getS rfl (by omega) (Or.inl ⟨rfl, rfl⟩) ?_
    refine ih_seg (i1 := 6) 1 rfl ?_
    refine ih_ret rfl rfl ?_
    exact k


theorem c_slatin {X : List Int} {t : ih_S} {Q : Option xa_V → ih_S → Prop} {c : Nat} (hc : 20 ≤ c ∧ c < 33) (k : Q (some (xI 1)) t) : ih_Wp X 215 0 [xC c] [] t Q := by
  refine ih_seg (i1 := 1) 1 rfl ?_
  refine ih_ifc_eq rfl (by omega) (fun w1 => ?_) (fun w1 => ?_)
  · first | exact absurd w1 (by decide) | exact absurd w2 (by decide) | exact absurd rfl w2
  · refine ih_aldc rfl rfl (by omega) ?_
    refine ih_getS rfl (by omega) (Or.inl ⟨rfl, rfl⟩) ?_
    refine ih_ifc_ne rfl (by omega) (fun w2 => ?_) (fun w2 => ?_)
    · first | exact absurd w1 (by decide) | exact absurd w2 (by decide) | exact absurd rfl w2
    · refine ih_seg (i1 := 8) 2 rfl ?_
      refine ih_ret rfl rfl ?_
      exact k


theorem c_slen {X : List Int} {t : ih_S} {Q : Option xa_V → ih_S → Prop} {c : Nat} {xs : List Int} (T : ih_txt c xs) (k : Q (some (xI (xs.length : Int))) t) : ih_Wp X 212 0 [xC c] [] t Q := by
  have hc := T.1
  refine ih_aldc rfl rfl (by omega) ?_
  refine ih_getS rfl (by omega) (Or.inr ⟨rfl, rfl⟩) ?_
  refine ih_blen rfl (ih_ca_no (by omega)) T.2.1 ?_
  refine ih_aldc rfl rfl (by omega) ?_
  refine ih_it0 214 rfl rfl (by omega) (Nat.le_of_ble_eq_true rfl) (Nat.le_of_ble_eq_true rfl) rfl ?_
  refine c_scoder hc ?_
  refine ih_seg (i1 := 6) 1 rfl ?_
  try dsimp only
  refine ih_ret rfl rfl ?_
  rw [ih_xshr T.2.2.1]
  exact k


theorem c_sprec {X : List Int} {t : ih_S} {Q : Option xa_V → ih_S → Prop} {j n : Int} (hj : 0 ≤ j ∧ j < n) (hn : xa_rI n) (k : ∀ v, Q (some (xI v)) t) : ih_Wp X 218 0 [xI j, xI n, xC 3] [] t Q := by
  refine ih_seg (i1 := 1) 1 rfl ?_
  refine ih_ifc_lt rfl (by omega) (fun w1 => ?_) (fun w1 => ?_)
  · exfalso
    omega
  · refine ih_seg (i1 := 4) 2 rfl ?_
    refine ih_icmp_lt rfl (by omega) (by omega) (fun w2 => ?_) (fun w2 => ?_)
    · refine ih_seg (i1 := 11) 1 rfl ?_
      refine ih_ret rfl rfl ?_
      exact k _
    · exfalso
      omega


theorem c_schk {X : List Int} {t : ih_S} {Q : Option xa_V → ih_S → Prop} {j n : Int} (hj : 0 ≤ j ∧ j < n) (hn : xa_rI n) (k : Q none t) : ih_Wp X 216 0 [xI j, xI n] [] t Q := by
  refine ih_seg (i1 := 3) 3 rfl ?_
  refine ih_is3 218 rfl rfl (Nat.le_of_ble_eq_true rfl) (Nat.le_of_ble_eq_true rfl) rfl ?_
  refine c_sprec hj hn (fun v => ?_)
  refine ih_seg (i1 := 5) 1 rfl ?_
  refine ih_retv rfl ?_
  exact k


theorem c_slat1 {X : List Int} {t : ih_S} {Q : Option xa_V → ih_S → Prop} {c : Nat} {xs : List Int} (T : ih_txt c xs) {j : Int} (hj : 0 ≤ j ∧ j < (xs.length : Int)) (k : Q (some (xI (xs.getD j.toNat 0))) t) : ih_Wp X 217 0 [xC (c + 20), xI j] [] t Q := by
  have hc := T.1
  have hn := T.2.2.1
  have hz := T.2.2.2 j.toNat (by omega)
  have hg : xs[j.toNat]? = some (xs.getD j.toNat 0) := by
    rw [List.getD_eq_getElem?_getD, List.getElem?_eq_getElem (show j.toNat < xs.length by omega)]
    rfl
  refine ih_seg (i1 := 1) 1 rfl ?_
  refine ih_aldc rfl rfl (by omega) ?_
  refine ih_blen rfl (ih_ca_no (by omega)) T.2.1 ?_
  refine ih_is2 216 rfl rfl (Nat.le_of_ble_eq_true rfl) (Nat.le_of_ble_eq_true rfl) rfl ?_
  refine c_schk hj (by omega) ?_
  refine ih_aldc rfl rfl (by omega) ?_
  refine ih_seg (i1 := 6) 1 rfl ?_
  refine ih_bald rfl T.2.1 (by omega) (by omega) (by omega) hg ?_
  refine ih_seg (i1 := 9) 2 rfl ?_
  try dsimp only
  rw [ih_x255 hz]
  refine ih_i2c rfl (by omega) ?_
  refine ih_ret rfl (ih_fit4 hz) ?_
  exact k


theorem c_schar {X : List Int} {t : ih_S} {Q : Option xa_V → ih_S → Prop} {c : Nat} {xs : List Int} (T : ih_txt c xs) {j : Int} (hj : 0 ≤ j ∧ j < (xs.length : Int)) (k : Q (some (xI (xs.getD j.toNat 0))) t) : ih_Wp X 213 0 [xC c, xI j] [] t Q := by
  have hc := T.1
  have hn := T.2.2.1
  have hz := T.2.2.2 j.toNat (by omega)
  refine ih_aldc rfl rfl (by omega) ?_
  refine ih_it0 215 rfl rfl (by omega) (Nat.le_of_ble_eq_true rfl) (Nat.le_of_ble_eq_true rfl) rfl ?_
  refine c_slatin hc ?_
  refine ih_seg (i1 := 3) 1 rfl ?_
  refine ih_aldc rfl rfl (by omega) ?_
  refine ih_getS rfl (by omega) (Or.inr ⟨rfl, rfl⟩) ?_
  refine ih_seg (i1 := 6) 1 rfl ?_
  refine ih_is2 217 rfl rfl (Nat.le_of_ble_eq_true rfl) (Nat.le_of_ble_eq_true rfl) rfl ?_
  refine c_slat1 T hj ?_
  refine ih_ret rfl (ih_fit4 hz) ?_
  exact k


theorem c_isName_l {X : List Int} {t : ih_S} {Q : Option xa_V → ih_S → Prop} {f : Int → Int} {n st : Int} (C : ih_TC t f n st) {c : Nat} {xs : List Int} (T : ih_txt c xs) (kt : ih_is f n st xs → Q (some (xI 1)) t) (kf : ¬ ih_is f n st xs → Q (some (xI 0)) t) (h1 : ih_kk f n st = 1) (h2 : ih_te f n st - st = (xs.length : Int))  : ∀ (d : Nat) (j : Int) (hd : j + d = (xs.length : Int)) (hj : 0 ≤ j) (hs : ∀ k : Nat, (k : Int) < j → f (st + k) = xs.getD k 0), ih_Wp X 41 16 [xR 80, xC c, xI j] [] t Q := by
  intro d
  induction d with
  | zero =>
    intro j hd hj hs
    obtain ⟨⟨e2, e1, e3, e4, e5⟩, hr, hb⟩ := C
    have ht := ih_te_b (f := f) (n := n) (st := st) hr.2.1
    have hkk := ih_kk_rg (f := f) (n := n) (st := st)
    have hc := T.1
    have hn := T.2.2.1
    refine ih_seg (i1 := 17) 1 rfl ?_
    refine ih_aldc rfl rfl (by omega) ?_
    refine ih_it0 212 rfl rfl (by omega) (Nat.le_of_ble_eq_true rfl) (Nat.le_of_ble_eq_true rfl) rfl ?_
    refine c_slen T ?_
    refine ih_icmp_ge rfl (by omega) (by omega) (fun w1 => ?_) (fun w1 => ?_)
    · refine ih_seg (i1 := 36) 1 rfl ?_
      refine ih_ret rfl rfl ?_
      exact kt (ih_is_iff.2 ⟨h1, h2, fun k hk => hs k (by omega)⟩)
    · exfalso
      omega

  | succ d ih =>
    intro j hd hj hs
    obtain ⟨⟨e2, e1, e3, e4, e5⟩, hr, hb⟩ := C
    have ht := ih_te_b (f := f) (n := n) (st := st) hr.2.1
    have hkk := ih_kk_rg (f := f) (n := n) (st := st)
    have hc := T.1
    have hn := T.2.2.1
    have hx := T.2.2.2 j.toNat (by omega)
    have hbj := hb (st + j) (by omega) (by omega)
    have ejn : ((j.toNat : Nat) : Int) = j := by omega
    refine ih_seg (i1 := 17) 1 rfl ?_
    refine ih_aldc rfl rfl (by omega) ?_
    refine ih_it0 212 rfl rfl (by omega) (Nat.le_of_ble_eq_true rfl) (Nat.le_of_ble_eq_true rfl) rfl ?_
    refine c_slen T ?_
    refine ih_icmp_ge rfl (by omega) (by omega) (fun w1 => ?_) (fun w1 => ?_)
    · exfalso
      omega
    · refine ih_seg (i1 := 21) 1 rfl ?_
      refine ih_getR rfl rfl ?_
      refine ih_seg (i1 := 23) 1 rfl ?_
      refine ih_getI rfl rfl ?_
      refine ih_seg (i1 := 26) 2 rfl ?_
      try dsimp only
      rw [e3]
      refine ih_iald rfl (by first | rfl | exact ih_lP1 (ih_P_w0 hc) | exact ih_lP2 (ih_P_w0 hc) | exact ih_lP3 (ih_P_w0 hc) | exact ih_lP4 (ih_P_w0 hc) |  exact ih_lP1 (by assumption) | exact ih_lP2 (by assumption) | exact ih_lP3 (by assumption) | exact ih_lP4 (by assumption) | exact ih_lC1 (by assumption) | exact ih_lS1 (by assumption) | exact ih_lW1 (by assumption) | exact ih_lW2 (by assumption) | exact ih_lW4 (by assumption) | exact ih_lW5 (by assumption)) (by omega) (by omega) (k := ?_)
      rw [hbj.1]
      refine ih_aldc rfl rfl (by omega) ?_
      refine ih_seg (i1 := 29) 1 rfl ?_
      refine ih_it1 213 rfl rfl (by omega) (Nat.le_of_ble_eq_true rfl) (Nat.le_of_ble_eq_true rfl) rfl ?_
      refine c_schar T (by omega) ?_
      refine ih_icmp_eq rfl (by omega) (by omega) (fun w2 => ?_) (fun w2 => ?_)
      · refine ih_seg (i1 := 16) 2 rfl ?_
        try simp only [xa_set, List.set_cons_zero, List.set_cons_succ, List.getElem?_cons_zero, List.getElem?_cons_succ]
        refine ih (j + 1) (by omega) (by omega) (fun k hk => ?_)
        by_cases e : (k : Int) = j
        · have ek : k = j.toNat := by omega
          subst ek
          rw [ejn]
          omega
        · exact hs k (by omega)
      · refine ih_seg (i1 := 32) 1 rfl ?_
        refine ih_ret rfl rfl ?_
        refine kf (fun q0 => ?_)
        have q := ih_is_iff.1 q0
        have := q.2.2 j.toNat (by omega)
        rw [ejn] at this
        omega


theorem c_isName {X : List Int} {t : ih_S} {Q : Option xa_V → ih_S → Prop} {f : Int → Int} {n st : Int} (C : ih_TC t f n st) {c : Nat} {xs : List Int} (T : ih_txt c xs) (kt : ih_is f n st xs → Q (some (xI 1)) t) (kf : ¬ ih_is f n st xs → Q (some (xI 0)) t)  : ih_Wp X 41 0 [xR 80, xC c, xC 1] [] t Q := by
  have C0 := C
  obtain ⟨⟨e2, e1, e3, e4, e5⟩, hr, hb⟩ := C
  have ht := ih_te_b (f := f) (n := n) (st := st) hr.2.1
  have hkk := ih_kk_rg (f := f) (n := n) (st := st)
  have hc := T.1
  have hn := T.2.2.1
  refine ih_seg (i1 := 1) 1 rfl ?_
  refine ih_getI rfl rfl ?_
  refine ih_seg (i1 := 3) 1 rfl ?_
  refine ih_icmp_ne rfl (by omega) (by omega) (fun w1 => ?_) (fun w1 => ?_)
  · refine ih_seg (i1 := 13) 1 rfl ?_
    refine ih_ret rfl rfl ?_
    refine kf (fun q0 => ?_)
    have q := ih_is_iff.1 q0
    have q1 := q.1
    have q2 := q.2.1
    omega
  · refine ih_seg (i1 := 5) 1 rfl ?_
    refine ih_getI rfl rfl ?_
    refine ih_seg (i1 := 7) 1 rfl ?_
    refine ih_getI rfl rfl ?_
    refine ih_seg (i1 := 9) 1 rfl ?_
    try dsimp only
    refine ih_aldc rfl rfl (by omega) ?_
    refine ih_it0 212 rfl rfl (by omega) (Nat.le_of_ble_eq_true rfl) (Nat.le_of_ble_eq_true rfl) rfl ?_
    refine c_slen T ?_
    refine ih_icmp_eq rfl (by omega) (by omega) (fun w2 => ?_) (fun w2 => ?_)
    · refine ih_seg (i1 := 16) 2 rfl ?_
      try simp only [xa_set, List.set_cons_zero, List.set_cons_succ, List.getElem?_cons_zero, List.getElem?_cons_succ]
      exact c_isName_l C0 T kt kf (by omega) (by omega) xs.length 0 (by omega) (by omega) (fun k hk => by omega)
    · refine ih_seg (i1 := 13) 1 rfl ?_
      refine ih_ret rfl rfl ?_
      refine kf (fun q0 => ?_)
      have q := ih_is_iff.1 q0
      have q1 := q.1
      have q2 := q.2.1
      omega


theorem c_letter {X : List Int} {t : ih_S} {Q : Option xa_V → ih_S → Prop} {f : Int → Int} {n st : Int} (C : ih_TC t f n st) (K : Q (some (xI (ih_ltr f n st))) t) : ih_Wp X 42 0 [xR 80] [] t Q := by
  obtain ⟨⟨e2, e1, e3, e4, e5⟩, hr, hb⟩ := C
  have ht := ih_te_b (f := f) (n := n) (st := st) hr.2.1
  have hkk := ih_kk_rg (f := f) (n := n) (st := st)
  have hk := ih_kk1 (f := f) (n := n) (st := st)
  refine ih_seg (i1 := 1) 1 rfl ?_
  refine ih_getI rfl rfl ?_
  refine ih_seg (i1 := 3) 1 rfl ?_
  refine ih_icmp_ne rfl (by omega) (by omega) (fun w1 => ?_) (fun w1 => ?_)
  · refine ih_seg (i1 := 19) 1 rfl ?_
    refine ih_ret rfl rfl ?_
    first
      | (rw [ih_ltr, if_neg (by omega)] at K
         exact K)
      | (rw [ih_ltr, if_pos (by omega)] at K
         exact K)
  · refine ih_seg (i1 := 5) 1 rfl ?_
    refine ih_getI rfl rfl ?_
    refine ih_seg (i1 := 7) 1 rfl ?_
    refine ih_getI rfl rfl ?_
    refine ih_seg (i1 := 10) 2 rfl ?_
    try dsimp only
    refine ih_icmp_ne rfl (by omega) (by omega) (fun w2 => ?_) (fun w2 => ?_)
    · refine ih_seg (i1 := 19) 1 rfl ?_
      refine ih_ret rfl rfl ?_
      first
        | (rw [ih_ltr, if_neg (by omega)] at K
           exact K)
        | (rw [ih_ltr, if_pos (by omega)] at K
           exact K)
    · refine ih_seg (i1 := 12) 1 rfl ?_
      refine ih_getR rfl rfl ?_
      refine ih_seg (i1 := 14) 1 rfl ?_
      refine ih_getI rfl rfl ?_
      have hbj := hb st (by omega) (by omega)
      rw [e3]
      refine ih_iald rfl (by first | rfl | exact ih_lP1 (ih_P_w0 hc) | exact ih_lP2 (ih_P_w0 hc) | exact ih_lP3 (ih_P_w0 hc) | exact ih_lP4 (ih_P_w0 hc) |  exact ih_lP1 (by assumption) | exact ih_lP2 (by assumption) | exact ih_lP3 (by assumption) | exact ih_lP4 (by assumption) | exact ih_lC1 (by assumption) | exact ih_lS1 (by assumption) | exact ih_lW1 (by assumption) | exact ih_lW2 (by assumption) | exact ih_lW4 (by assumption) | exact ih_lW5 (by assumption)) (by omega) (by omega) (k := ?_)
      rw [hbj.1]
      refine ih_seg (i1 := 17) 1 rfl ?_
      refine ih_icmp_le rfl (by omega) (by omega) (fun w3 => ?_) (fun w3 => ?_)
      · refine ih_seg (i1 := 21) 1 rfl ?_
        refine ih_getR rfl rfl ?_
        refine ih_seg (i1 := 23) 1 rfl ?_
        refine ih_getI rfl rfl ?_
        rw [e3]
        refine ih_iald rfl (by first | rfl | exact ih_lP1 (ih_P_w0 hc) | exact ih_lP2 (ih_P_w0 hc) | exact ih_lP3 (ih_P_w0 hc) | exact ih_lP4 (ih_P_w0 hc) |  exact ih_lP1 (by assumption) | exact ih_lP2 (by assumption) | exact ih_lP3 (by assumption) | exact ih_lP4 (by assumption) | exact ih_lC1 (by assumption) | exact ih_lS1 (by assumption) | exact ih_lW1 (by assumption) | exact ih_lW2 (by assumption) | exact ih_lW4 (by assumption) | exact ih_lW5 (by assumption)) (by omega) (by omega) (k := ?_)
        rw [hbj.1]
        refine ih_seg (i1 := 27) 2 rfl ?_
        try dsimp only
        refine ih_ret rfl rfl ?_
        first
          | (rw [ih_ltr, if_neg (by omega)] at K
             exact K)
          | (rw [ih_ltr, if_pos (by omega)] at K
             exact K)
      · refine ih_seg (i1 := 19) 1 rfl ?_
        refine ih_ret rfl rfl ?_
        first
          | (rw [ih_ltr, if_neg (by omega)] at K
             exact K)
          | (rw [ih_ltr, if_pos (by omega)] at K
             exact K)


theorem c_passName {X : List Int} {t : ih_S} {Q : Option xa_V → ih_S → Prop} {f : Int → Int} {n st : Int} (C : ih_TC t f n st) {c : Nat} {xs : List Int} (T : ih_txt c xs) (kt : ih_is f n st xs → ∀ t1, (∀ j, j ≠ 80 → t1 j = t j) → ih_TC t1 f n (ih_adv f n st) → Q (some (xI 1)) t1) (kf : ¬ ih_is f n st xs → Q (some (xI 0)) t)  : ih_Wp X 51 0 [xR 82, xC c, xC 1] [] t Q := by
  have C0 := C
  obtain ⟨⟨e2, e1, e3, e4, e5⟩, hr, hb⟩ := C
  have ht := ih_te_b (f := f) (n := n) (st := st) hr.2.1
  have hkk := ih_kk_rg (f := f) (n := n) (st := st)
  have hc := T.1
  refine ih_seg (i1 := 1) 1 rfl ?_
  refine ih_getR rfl rfl ?_
  refine ih_aldc rfl rfl (by omega) ?_
  refine ih_iv1 41 rfl rfl (by first | rfl | exact ih_kP (ih_P_w0 hc) |  exact ih_kP (by assumption) | exact ih_kC (by assumption) | exact ih_kN (by assumption) | exact ih_kS (by assumption) | exact ih_kW (by assumption)) (Nat.le_of_ble_eq_true rfl) (Nat.le_of_ble_eq_true rfl) rfl ?_
  refine c_isName C0 T (fun hq => ?_) (fun hq => ?_)
  · refine ih_seg (i1 := 6) 2 rfl ?_
    try simp only [xa_set, List.set_cons_zero, List.set_cons_succ, List.getElem?_cons_zero, List.getElem?_cons_succ]
    refine ih_ifc_eq rfl (by omega) (fun w1 => ?_) (fun w1 => ?_)
    · refine ih_seg (i1 := 11) 1 rfl ?_
      refine ih_ret rfl rfl ?_
      exfalso
      omega
    · refine ih_seg (i1 := 8) 1 rfl ?_
      refine ih_getR rfl rfl ?_
      refine ih_iv0 38 rfl rfl (by first | rfl | exact ih_kP (ih_P_w0 hc) |  exact ih_kP (by assumption) | exact ih_kC (by assumption) | exact ih_kN (by assumption) | exact ih_kS (by assumption) | exact ih_kW (by assumption)) (Nat.le_of_ble_eq_true rfl) (Nat.le_of_ble_eq_true rfl) rfl ?_
      refine c_toNext (f := f) (n := n) ⟨⟨by omega, by omega⟩, hb⟩ e2 (by omega) (fun t1 f1 C1 => ?_)
      rw [e1] at C1
      refine ih_seg (i1 := 11) 1 rfl ?_
      refine ih_ret rfl rfl ?_
      exact kt hq t1 f1 C1
  · refine ih_seg (i1 := 6) 2 rfl ?_
    try simp only [xa_set, List.set_cons_zero, List.set_cons_succ, List.getElem?_cons_zero, List.getElem?_cons_succ]
    refine ih_ifc_eq rfl (by omega) (fun w2 => ?_) (fun w2 => ?_)
    · refine ih_seg (i1 := 11) 1 rfl ?_
      refine ih_ret rfl rfl ?_
      exact kf hq
    · refine ih_seg (i1 := 8) 1 rfl ?_
      refine ih_getR rfl rfl ?_
      refine ih_iv0 38 rfl rfl (by first | rfl | exact ih_kP (ih_P_w0 hc) |  exact ih_kP (by assumption) | exact ih_kC (by assumption) | exact ih_kN (by assumption) | exact ih_kS (by assumption) | exact ih_kW (by assumption)) (Nat.le_of_ble_eq_true rfl) (Nat.le_of_ble_eq_true rfl) rfl ?_
      refine c_toNext (f := f) (n := n) ⟨⟨by omega, by omega⟩, hb⟩ e2 (by omega) (fun t1 f1 C1 => ?_)
      rw [e1] at C1
      refine ih_seg (i1 := 11) 1 rfl ?_
      refine ih_ret rfl rfl ?_
      exfalso
      omega


theorem c_passNumber {X : List Int} {t : ih_S} {Q : Option xa_V → ih_S → Prop} {f : Int → Int} {n st : Int} (C : ih_TC t f n st) {lo hi : Int} (hlo : xa_rI lo) (hhi : xa_rI hi) (kt : ih_kk f n st = 2 → lo ≤ ih_num f n st ∧ ih_num f n st ≤ hi → ∀ t1, (∀ j, j ≠ 80 → j ≠ 82 → t1 j = t j) → t1 82 2 = ih_num f n st → ih_TC t1 f n (ih_adv f n st) → Q (some (xI 1)) t1) (kf : ¬ (ih_kk f n st = 2 ∧ lo ≤ ih_num f n st ∧ ih_num f n st ≤ hi) → Q (some (xI 0)) t)  : ih_Wp X 52 0 [xR 82, xI lo, xI hi, xC 1] [] t Q := by
  obtain ⟨⟨e2, e1, e3, e4, e5⟩, hr, hb⟩ := C
  have ht := ih_te_b (f := f) (n := n) (st := st) hr.2.1
  have hkk := ih_kk_rg (f := f) (n := n) (st := st)
  have hk := ih_kk_rg (f := f) (n := n) (st := st)
  have hm := ih_num_rg (f := f) (n := n) (st := st)
  refine ih_seg (i1 := 1) 1 rfl ?_
  refine ih_getR rfl rfl ?_
  refine ih_getI rfl rfl ?_
  refine ih_seg (i1 := 4) 1 rfl ?_
  refine ih_icmp_ne rfl (by omega) (by omega) (fun w1 => ?_) (fun w1 => ?_)
  · refine ih_seg (i1 := 17) 3 rfl ?_
    try simp only [xa_set, List.set_cons_zero, List.set_cons_succ, List.getElem?_cons_zero, List.getElem?_cons_succ]
    refine ih_ifc_eq rfl (by omega) (fun w2 => ?_) (fun w2 => ?_)
    · refine ih_seg (i1 := 27) 1 rfl ?_
      refine ih_ret rfl rfl ?_
      first
        | (exfalso
           omega)
        | exact kf (by omega)
    · refine ih_seg (i1 := 20) 2 rfl ?_
      refine ih_getR rfl rfl ?_
      refine ih_getI rfl rfl ?_
      refine ih_putI rfl rfl rfl ?_
      refine ih_seg (i1 := 24) 1 rfl ?_
      refine ih_getR rfl rfl ?_
      refine ih_iv0 38 rfl rfl (by first | rfl | exact ih_kP (ih_P_w0 hc) |  exact ih_kP (by assumption) | exact ih_kC (by assumption) | exact ih_kN (by assumption) | exact ih_kS (by assumption) | exact ih_kW (by assumption)) (Nat.le_of_ble_eq_true rfl) (Nat.le_of_ble_eq_true rfl) rfl ?_
      refine c_toNext (f := f) (n := n) ⟨⟨by omega, by omega⟩, fun k k0 k1 => by rw [ih_up_ne (by decide)]; exact hb k k0 k1⟩ (by rw [ih_up_ne (by decide)]; exact e2) (by rw [ih_up_ne (by decide)]; omega) (fun t1 f1 C1 => ?_)
      rw [ih_up_ne (by decide), e1] at C1
      refine ih_seg (i1 := 27) 1 rfl ?_
      refine ih_ret rfl rfl ?_
      first
        | (exfalso
           omega)
        | (refine kt (by omega) (by omega) t1 (fun j h1 h2 => (f1 j h1).trans (ih_up_ne h2)) ?_ C1
           rw [f1 82 (by decide), ih_up_eq, ih_u1_eq]
           exact e5)
  · refine ih_seg (i1 := 6) 1 rfl ?_
    refine ih_getR rfl rfl ?_
    refine ih_getI rfl rfl ?_
    refine ih_seg (i1 := 10) 2 rfl ?_
    refine ih_in3 103 rfl rfl (Nat.le_of_ble_eq_true rfl) (Nat.le_of_ble_eq_true rfl) rfl ?_
    refine c_within (by omega) (by omega) (by omega) (fun w3 => ?_) (fun w4 => ?_)
    · refine ih_seg (i1 := 17) 5 rfl ?_
      try simp only [xa_set, List.set_cons_zero, List.set_cons_succ, List.getElem?_cons_zero, List.getElem?_cons_succ]
      refine ih_ifc_eq rfl (by omega) (fun w5 => ?_) (fun w5 => ?_)
      · refine ih_seg (i1 := 27) 1 rfl ?_
        refine ih_ret rfl rfl ?_
        first
          | (exfalso
             omega)
          | exact kf (by omega)
      · refine ih_seg (i1 := 20) 2 rfl ?_
        refine ih_getR rfl rfl ?_
        refine ih_getI rfl rfl ?_
        refine ih_putI rfl rfl rfl ?_
        refine ih_seg (i1 := 24) 1 rfl ?_
        refine ih_getR rfl rfl ?_
        refine ih_iv0 38 rfl rfl (by first | rfl | exact ih_kP (ih_P_w0 hc) |  exact ih_kP (by assumption) | exact ih_kC (by assumption) | exact ih_kN (by assumption) | exact ih_kS (by assumption) | exact ih_kW (by assumption)) (Nat.le_of_ble_eq_true rfl) (Nat.le_of_ble_eq_true rfl) rfl ?_
        refine c_toNext (f := f) (n := n) ⟨⟨by omega, by omega⟩, fun k k0 k1 => by rw [ih_up_ne (by decide)]; exact hb k k0 k1⟩ (by rw [ih_up_ne (by decide)]; exact e2) (by rw [ih_up_ne (by decide)]; omega) (fun t1 f1 C1 => ?_)
        rw [ih_up_ne (by decide), e1] at C1
        refine ih_seg (i1 := 27) 1 rfl ?_
        refine ih_ret rfl rfl ?_
        first
          | (exfalso
             omega)
          | (refine kt (by omega) (by omega) t1 (fun j h1 h2 => (f1 j h1).trans (ih_up_ne h2)) ?_ C1
             rw [f1 82 (by decide), ih_up_eq, ih_u1_eq]
             exact e5)
    · refine ih_seg (i1 := 17) 4 rfl ?_
      try simp only [xa_set, List.set_cons_zero, List.set_cons_succ, List.getElem?_cons_zero, List.getElem?_cons_succ]
      refine ih_ifc_eq rfl (by omega) (fun w6 => ?_) (fun w6 => ?_)
      · refine ih_seg (i1 := 27) 1 rfl ?_
        refine ih_ret rfl rfl ?_
        first
          | (exfalso
             omega)
          | exact kf (by omega)
      · refine ih_seg (i1 := 20) 2 rfl ?_
        refine ih_getR rfl rfl ?_
        refine ih_getI rfl rfl ?_
        refine ih_putI rfl rfl rfl ?_
        refine ih_seg (i1 := 24) 1 rfl ?_
        refine ih_getR rfl rfl ?_
        refine ih_iv0 38 rfl rfl (by first | rfl | exact ih_kP (ih_P_w0 hc) |  exact ih_kP (by assumption) | exact ih_kC (by assumption) | exact ih_kN (by assumption) | exact ih_kS (by assumption) | exact ih_kW (by assumption)) (Nat.le_of_ble_eq_true rfl) (Nat.le_of_ble_eq_true rfl) rfl ?_
        refine c_toNext (f := f) (n := n) ⟨⟨by omega, by omega⟩, fun k k0 k1 => by rw [ih_up_ne (by decide)]; exact hb k k0 k1⟩ (by rw [ih_up_ne (by decide)]; exact e2) (by rw [ih_up_ne (by decide)]; omega) (fun t1 f1 C1 => ?_)
        rw [ih_up_ne (by decide), e1] at C1
        refine ih_seg (i1 := 27) 1 rfl ?_
        refine ih_ret rfl rfl ?_
        first
          | (exfalso
             omega)
          | (refine kt (by omega) (by omega) t1 (fun j h1 h2 => (f1 j h1).trans (ih_up_ne h2)) ?_ C1
             rw [f1 82 (by decide), ih_up_eq, ih_u1_eq]
             exact e5)

