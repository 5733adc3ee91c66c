/-! forged -/
def ih_Lr (g : Int → Int) (L : List Int) : Prop := ∀ (k : Nat) (h : k < L.length), g k = L[k]
theorem ih_Lr_add {g : Int → Int} {L : List Int} {v : Int} (h : ih_Lr g L) : ih_Lr (ih_u1 g L.length v) (L ++ [v]) := by
  intro k hk
  rw [ih_u1x]
  rw [List.length_append] at hk
  simp only [List.length_cons, List.length_nil] at hk
  by_cases e : k = L.length
  · subst e
    rw [if_pos rfl, List.getElem_append_right (Nat.le_refl _)]
    simp
  · rw [if_neg (by omega), List.getElem_append_left (by omega)]
    exact h k (by omega)
theorem ih_Lr_0 (g : Int → Int) : ih_Lr g [] := fun k h => absurd h (by simp)
def ih_add (L : List Int) (v : Int) : List Int := if 0 ≤ v ∧ ¬ v ∈ L then L ++ [v] else L
def ih_all (s : Int → Int) (p : Nat) : Nat → Int → List Int → List Int
  | 0, _, L => L
  | n + 1, i, L => ih_all s p n (i + 1) (ih_add L (ih_fI s p i))
def ih_al (s : Int → Int) (p : Nat) (i : Int) (L : List Int) : List Int := ih_all s p (7 * (s (22 + p) + 1) - i).toNat i L
theorem ih_al_n {s : Int → Int} {p : Nat} {i : Int} {L : List Int} (h : i < 7 * (s (22 + p) + 1)) : ih_al s p i L = ih_al s p (i + 1) (ih_add L (ih_fI s p i)) := by
  unfold ih_al
  rw [show (7 * (s (22 + p) + 1) - i).toNat = (7 * (s (22 + p) + 1) - (i + 1)).toNat + 1 by omega]
  rfl
theorem ih_al_e {s : Int → Int} {p : Nat} {i : Int} {L : List Int} (h : i = 7 * (s (22 + p) + 1)) : ih_al s p i L = L := by
  unfold ih_al
  rw [show (7 * (s (22 + p) + 1) - i).toNat = 0 by omega]
  rfl
theorem ih_add_len (L : List Int) (v : Int) : (ih_add L v).length ≤ L.length + 1 := by
  unfold ih_add
  split
  · simp
  · omega
theorem ih_add_rg {L : List Int} {v : Int} (h : ∀ x ∈ L, 0 ≤ x ∧ x < 65536) (hv : v < 65536) : ∀ x ∈ ih_add L v, 0 ≤ x ∧ x < 65536 := by
  intro x hx
  unfold ih_add at hx
  split at hx
  · next q =>
    rcases List.mem_append.mp hx with hx | hx
    · exact h x hx
    · have : x = v := by simpa using hx
      omega
  · exact h x hx
def f_forged (s : Int → Int) (a : Int) : ih_An := if 0 ≤ a ∧ a < 4 then ih_ok1 ((ih_al s a.toNat 0 []).length : Int) else ih_no 0

theorem c_isAmong_l {X : List Int} {t : ih_S} {Q : Option xa_V → ih_S → Prop} {a N : Nat} {v : Int} {L : List Int} (hl : ih_len a = some N) (hN : N < 1000) (hn : L.length ≤ N) (hL : ∀ x ∈ L, xa_rI x) (hv : xa_rI v) (hg : ih_Lr (t a) L) (kt : v ∈ L → Q (some (xI 1)) t) (kf : ¬ v ∈ L → Q (some (xI 0)) t) : ∀ (d : Nat) (k : Nat) (hd : k + d = L.length) (h : ∀ (j : Nat) (hj : j < L.length), j < k → L[j] ≠ v), ih_Wp X 114 2 [xR a, xI L.length, xI v, xI k] [] t Q := by
  intro d
  induction d with
  | zero =>
    intro k hd h
    have no : ¬ v ∈ L := fun q => by
      obtain ⟨i, hi, e⟩ := List.mem_iff_getElem.mp q
      exact h i hi (by omega) e
    refine ih_seg (i1 := 4) 2 rfl ?_
    refine ih_icmp_ge rfl (by omega) (by omega) (fun w1 => ?_) (fun w1 => ?_)
    · refine ih_seg (i1 := 15) 1 rfl ?_
      refine ih_ret rfl rfl ?_
      exact kf no
    · exfalso
      omega

  | succ d ih =>
    intro k hd h
    have hk : k < L.length := by omega
    have eg := hg k hk
    have er := hL _ (List.getElem_mem hk)
    rw [← eg] at er
    refine ih_seg (i1 := 4) 2 rfl ?_
    refine ih_icmp_ge rfl (by omega) (by omega) (fun w1 => ?_) (fun w1 => ?_)
    · refine ih_seg (i1 := 15) 1 rfl ?_
      refine ih_ret rfl rfl ?_
      first
        | exact kt (List.mem_iff_getElem.mpr ⟨k, hk, by rw [← eg]; omega⟩)
        | (exfalso
           omega)
    · refine ih_seg (i1 := 7) 2 rfl ?_
      refine ih_iald rfl hl (by omega) (by omega) hN ?_
      refine ih_seg (i1 := 9) 1 rfl ?_
      refine ih_icmp_ne rfl (by omega) (by omega) (fun w2 => ?_) (fun w2 => ?_)
      · refine ih_seg (i1 := 2) 2 rfl ?_
        try simp only [xa_set, List.set_cons_zero, List.set_cons_succ, List.getElem?_cons_zero, List.getElem?_cons_succ]
        refine ih (k + 1) (by omega) (fun j hj h1 => ?_)
        by_cases e : j = k
        · subst e
          rw [← eg]
          omega
        · exact h j hj (by omega)
      · refine ih_seg (i1 := 11) 1 rfl ?_
        refine ih_ret rfl rfl ?_
        first
          | exact kt (List.mem_iff_getElem.mpr ⟨k, hk, by rw [← eg]; omega⟩)
          | (exfalso
             omega)


theorem c_isAmong {X : List Int} {t : ih_S} {Q : Option xa_V → ih_S → Prop} {a N : Nat} {v : Int} {L : List Int} (hl : ih_len a = some N) (hN : N < 1000) (hn : L.length ≤ N) (hL : ∀ x ∈ L, xa_rI x) (hv : xa_rI v) (hg : ih_Lr (t a) L) (kt : v ∈ L → Q (some (xI 1)) t) (kf : ¬ v ∈ L → Q (some (xI 0)) t) : ih_Wp X 114 0 [xR a, xI L.length, xI v, xC 1] [] t Q := by
  refine ih_seg (i1 := 2) 2 rfl ?_
  try simp only [xa_set, List.set_cons_zero, List.set_cons_succ, List.getElem?_cons_zero, List.getElem?_cons_succ]
  exact c_isAmong_l hl hN hn hL hv hg kt kf L.length 0 (by omega) (fun j hj h => by omega)


theorem c_forged_l {X : List Int} {t : ih_S} {Q : Option xa_V → ih_S → Prop} {s : Int → Int} {c : Nat} (hc : c < 4) (G : ih_Gd s) (W0 : ih_Wr t 1 s)  : ∀ (d : Nat) (pl ch : Nat) (L : List Int) (x : xa_V) (t1 : ih_S) (hd : 8 * pl + ch + d = 8 * (s (22 + c)).toNat + 8) (hpl : (pl : Int) ≤ s (22 + c)) (hch : ch ≤ 7) (hn : L.length ≤ 7 * pl + ch) (hL : ∀ x ∈ L, 0 ≤ x ∧ x < 65536) (hg : ih_Lr (t1 85) L) (hf : ih_sc t t1) (K : ∀ t2, ih_sc t t2 → Q (some (xI (ih_al s c (7 * pl + ch) L).length)) t2), ih_Wp X 81 31 [xR 0, xI c, xR (91 + 3 * c), xI (ih_set (ih_rs s c (s 0)) (s (22 + c)).toNat : Nat), xI L.length, xI pl, xI ch, x] [] t1 Q := by
  intro d
  induction d with
  | zero =>
    intro pl ch L x t1 hd hpl hch hn hL hg hf K
    have z := (G.pap c hc).sz
    exfalso
    omega

  | succ d ih =>
    intro pl ch L x t1 hd hpl hch hn hL hg hf K
    have W := ih_W_sc W0 hf
    have P := ih_PG_W W G hc
    have z := P.sz
    have ez := ih_W_sz W hc
    have hLr : ∀ x ∈ L, xa_rI x := fun x hx => by have := hL x hx; omega
    refine ih_seg (i1 := 33) 2 rfl ?_
    refine ih_icmp_ge rfl (by omega) (by omega) (fun w1 => ?_) (fun w1 => ?_)
    · refine ih_seg (i1 := 23) 4 rfl ?_
      try simp only [xa_set, List.set_cons_zero, List.set_cons_succ, List.getElem?_cons_zero, List.getElem?_cons_succ]
      refine ih_getR rfl rfl ?_
      refine ih_getR rfl (by first | rfl | exact ih_fW2 (by assumption)) ?_
      refine ih_seg (i1 := 26) 1 rfl ?_
      refine ih_aald rfl (ih_eP hc) ?_
      refine ih_getI rfl (by first | rfl | exact ih_fP4 (ih_P_w0 hc) | exact ih_fP4 (by assumption)) ?_
      refine ih_icmp_gt rfl (by omega) (by omega) (fun w2 => ?_) (fun w2 => ?_)
      · refine ih_seg (i1 := 63) 1 rfl ?_
        refine ih_ret rfl rfl ?_
        first
          | (rw [ih_al_e (by omega)] at K
             exact K t1 hf)
          | (exfalso
             omega)
      · refine ih_seg (i1 := 31) 2 rfl ?_
        try simp only [xa_set, List.set_cons_zero, List.set_cons_succ, List.getElem?_cons_zero, List.getElem?_cons_succ]
        refine ih (pl + 1) 0 L _ _ (by omega) (by omega) (by omega) (by omega) hL hg hf ?_
        rw [show 7 * (pl : Int) + ch = 7 * ((pl + 1 : Nat) : Int) + (0 : Nat) by omega] at K
        exact K
    · refine ih_seg (i1 := 38) 4 rfl ?_
      refine ih_iv3 12 rfl rfl (by first | rfl | exact ih_kP (ih_P_w0 hc) |  exact ih_kP (by assumption) | exact ih_kC (by assumption) | exact ih_kN (by assumption) | exact ih_kS (by assumption) | exact ih_kW (by assumption)) (Nat.le_of_ble_eq_true rfl) (Nat.le_of_ble_eq_true rfl) rfl ?_
      have mr := ih_fM_rg s c pl (ih_ckd ch) (ih_clt ch)
      have ei := ih_fI_at s c pl ch (by omega)
      refine c_mWithW hc (by omega) (by omega) W G (fun t2 h2 => ?_)
      rw [← ei] at mr ⊢
      have hg2 : ih_Lr (t2 85) L := by rw [h2 85 (by omega)]; exact hg
      have f2 : ih_sc t t2 := ih_sc_t hf (ih_sc_f hc h2)
      refine ih_seg (i1 := 42) 3 rfl ?_
      try simp only [xa_set, List.set_cons_zero, List.set_cons_succ, List.getElem?_cons_zero, List.getElem?_cons_succ]
      refine ih_icmp_eq rfl (by omega) (by omega) (fun w3 => ?_) (fun w3 => ?_)
      · refine ih_seg (i1 := 31) 2 rfl ?_
        try simp only [xa_set, List.set_cons_zero, List.set_cons_succ, List.getElem?_cons_zero, List.getElem?_cons_succ]
        rw [ih_al_n (by omega)] at K
        have ea : ih_add L (ih_fI s c (7 * pl + ch)) = L := if_neg (fun q => by have := q.1; omega)
        rw [ea] at K
        exact ih pl (ch + 1) L _ _ (by omega) (by omega) (by omega) (by omega) hL hg2 f2 K
      · refine ih_seg (i1 := 45) 2 rfl ?_
        refine ih_icmp_ge rfl (by omega) (by omega) (fun w4 => ?_) (fun w4 => ?_)
        · refine ih_seg (i1 := 31) 2 rfl ?_
          try simp only [xa_set, List.set_cons_zero, List.set_cons_succ, List.getElem?_cons_zero, List.getElem?_cons_succ]
          exfalso
          omega
        · refine ih_seg (i1 := 47) 1 rfl ?_
          refine ih_getR rfl rfl ?_
          refine ih_seg (i1 := 50) 2 rfl ?_
          refine ih_is3 114 rfl rfl (Nat.le_of_ble_eq_true rfl) (Nat.le_of_ble_eq_true rfl) rfl ?_
          refine c_isAmong (N := 91) rfl (by decide) (by omega) hLr (by omega) hg2 (fun hq => ?_) (fun hq => ?_)
          · refine ih_seg (i1 := 31) 3 rfl ?_
            try simp only [xa_set, List.set_cons_zero, List.set_cons_succ, List.getElem?_cons_zero, List.getElem?_cons_succ]
            rw [ih_al_n (by omega)] at K
            have ea : ih_add L (ih_fI s c (7 * pl + ch)) = L := if_neg (fun q => q.2 hq)
            rw [ea] at K
            exact ih pl (ch + 1) L _ _ (by omega) (by omega) (by omega) (by omega) hL hg2 f2 K
          · refine ih_seg (i1 := 53) 2 rfl ?_
            refine ih_getR rfl rfl ?_
            refine ih_seg (i1 := 56) 2 rfl ?_
            refine ih_iast rfl (by first | rfl | exact ih_lP1 (ih_P_w0 hc) | exact ih_lP2 (ih_P_w0 hc) | exact ih_lP3 (ih_P_w0 hc) | exact ih_lP4 (ih_P_w0 hc) |  exact ih_lP1 (by assumption) | exact ih_lP2 (by assumption) | exact ih_lP3 (by assumption) | exact ih_lP4 (by assumption) | exact ih_lC1 (by assumption) | exact ih_lS1 (by assumption) | exact ih_lW1 (by assumption) | exact ih_lW2 (by assumption) | exact ih_lW4 (by assumption) | exact ih_lW5 (by assumption)) (by omega) (by omega) (k := ?_)
            refine ih_seg (i1 := 31) 3 rfl ?_
            try simp only [xa_set, List.set_cons_zero, List.set_cons_succ, List.getElem?_cons_zero, List.getElem?_cons_succ]
            have ea : ih_add L (ih_fI s c (7 * pl + ch)) = L ++ [ih_fI s c (7 * pl + ch)] := if_pos ⟨by omega, hq⟩
            have rg := ih_add_rg (L := L) (v := ih_fI s c (7 * pl + ch)) hL (by omega)
            rw [ih_al_n (by omega), ea] at K
            rw [ea] at rg
            have el : (L ++ [ih_fI s c (7 * pl + ch)]).length = L.length + 1 := by simp
            refine ih_ls ?_ (ih pl (ch + 1) (L ++ [ih_fI s c (7 * pl + ch)]) (xI (ih_fI s c (7 * pl + ch))) _ (by omega) (by omega) (by omega) (by rw [el]; omega) rg (by rw [ih_up_eq]; exact ih_Lr_add hg2) (fun j hj => (ih_up_ne (by omega)).trans (f2 j hj)) K)
            rw [el]
            rfl


theorem c_op_forged {X : List Int} {t : ih_S} {Q : Option xa_V → ih_S → Prop} {s : Int → Int} {a : Int} (ha : xa_rI a) (W : ih_Wr t 1 s) (G : ih_Gd s) (K : ih_roC t (f_forged s a) Q) : ih_Wp X 81 0 [xR 0, xI a, xC 1, xC 1, xC 1, xC 1, xC 1, xC 1] [] t Q := by
  refine ih_seg (i1 := 1) 1 rfl ?_
  refine ih_is1 106 rfl rfl (Nat.le_of_ble_eq_true rfl) (Nat.le_of_ble_eq_true rfl) rfl ?_
  refine c_isPaper (by omega) (fun w1 => ?_) (fun w2 => ?_)
  · refine ih_seg (i1 := 9) 3 rfl ?_
    refine ih_iv1 116 rfl rfl (by first | rfl | exact ih_kP (ih_P_w0 hc) |  exact ih_kP (by assumption) | exact ih_kC (by assumption) | exact ih_kN (by assumption) | exact ih_kS (by assumption) | exact ih_kW (by assumption)) (Nat.le_of_ble_eq_true rfl) (Nat.le_of_ble_eq_true rfl) rfl ?_
    obtain ⟨c, rfl⟩ := Int.eq_ofNat_of_zero_le (show 0 ≤ a by omega)
    have hc : c < 4 := by omega
    have P := ih_PG_W W G hc
    have gn := G.now
    refine c_reckoned hc P (fun t1 hf he => ?_)
    have E1 := ih_EG_en hc P hf he
    have P1 := P.of hc (fun j hj => hf j (by omega))
    have nw : t1 1 5 = s 0 := (congrFun (hf 1 (by omega)) 5).trans W.now
    refine ih_seg (i1 := 13) 3 rfl ?_
    try simp only [xa_set, List.set_cons_zero, List.set_cons_succ, List.getElem?_cons_zero, List.getElem?_cons_succ]
    refine ih_getR rfl rfl ?_
    refine ih_getI rfl (by first | rfl | exact ih_fW5 (by assumption)) ?_
    refine ih_iv1 10 rfl rfl (by first | rfl | exact ih_kP (ih_P_w0 hc) |  exact ih_kP (by assumption) | exact ih_kC (by assumption) | exact ih_kN (by assumption) | exact ih_kS (by assumption) | exact ih_kW (by assumption)) (Nat.le_of_ble_eq_true rfl) (Nat.le_of_ble_eq_true rfl) rfl ?_
    rw [nw]
    refine c_seenAt hc P1 E1 (by omega) ?_
    have z := (G.pap c hc).sz
    have ez := ih_W_sz W hc
    have e : ih_set (ih_sf t1 c (s 0)) (t1 (7 + 5 * c) 4).toNat = ih_set (ih_rs s c (s 0)) (s (22 + c)).toNat := by
      rw [hf (7 + 5 * c) (by omega), ez]
      exact ih_set_congr (fun j hj => (ih_sf_cs hc P hf he (by omega) (by rw [ez]; omega)).trans (ih_cs_rs W G hc (by omega)))
    rw [e]
    have ez1 : t1 (7 + 5 * c) 4 = s (22 + c) := by rw [hf (7 + 5 * c) (by omega), ez]
    refine ih_seg (i1 := 23) 7 rfl ?_
    try simp only [xa_set, List.set_cons_zero, List.set_cons_succ, List.getElem?_cons_zero, List.getElem?_cons_succ]
    refine ih_getR rfl rfl ?_
    refine ih_getR rfl (by first | rfl | exact ih_fW2 (by assumption)) ?_
    refine ih_seg (i1 := 26) 1 rfl ?_
    refine ih_aald rfl (ih_eP hc) ?_
    refine ih_getI rfl (by first | rfl | exact ih_fP4 (ih_P_w0 hc) | exact ih_fP4 (by assumption)) ?_
    refine ih_icmp_gt rfl (by omega) (by omega) (fun w3 => ?_) (fun w3 => ?_)
    · refine ih_seg (i1 := 63) 1 rfl ?_
      refine ih_ret rfl rfl ?_
      first
        | exact ih_roC_no K (by rw [f_forged, if_neg (by omega)]) (ih_sc_r _)
        | (exfalso
           omega)
    · refine ih_seg (i1 := 31) 2 rfl ?_
      try simp only [xa_set, List.set_cons_zero, List.set_cons_succ, List.getElem?_cons_zero, List.getElem?_cons_succ]
      rw [f_forged, if_pos (by omega), Int.toNat_natCast] at K
      refine c_forged_l hc G W (8 * (s (22 + c)).toNat + 8) 0 0 [] _ t1 (by omega) (by omega) (by omega) (by simp) (fun x hx => absurd hx (by simp)) (ih_Lr_0 _) (ih_sc_e hc hf) (fun t2 h2 => ?_)
      exact ih_roC_ok K rfl h2
  · refine ih_seg (i1 := 5) 3 rfl ?_
    refine ih_iv1 102 rfl rfl (by first | rfl | exact ih_kP (ih_P_w0 hc) |  exact ih_kP (by assumption) | exact ih_kC (by assumption) | exact ih_kN (by assumption) | exact ih_kS (by assumption) | exact ih_kW (by assumption)) (Nat.le_of_ble_eq_true rfl) (Nat.le_of_ble_eq_true rfl) rfl ?_
    refine c_finding (by omega) ?_
    refine ih_ret rfl rfl ?_
    first
      | exact ih_roC_no K (by rw [f_forged, if_neg (by omega)]) (ih_sc_r _)
      | (exfalso
         omega)


theorem r_new_l {X : List Int} {t : ih_S} {Q : Option xa_V → ih_S → Prop} {L : List Int} {p pl k l : Nat} {v : Int} (hn : L.length ≤ 91) (hL : ∀ x ∈ L, 0 ≤ x ∧ x < 65536) (hv : -1 ≤ v ∧ v < 65536) (hg : ih_Lr (t 116) L) (Ky : 0 ≤ v → ¬ v ∈ L → ih_Wp X 174 67 [xR 111, xI p, xI L.length, xI pl, xI k, xI l, xI v, xI 1, xI L.length] [] t Q) (Kn : ¬ (0 ≤ v ∧ ¬ v ∈ L) → ih_Wp X 174 67 [xR 111, xI p, xI L.length, xI pl, xI k, xI l, xI v, xI 0, xI L.length] [] t Q)  : ∀ (d : Nat) (j : Nat) (b : Int) (hd : j + d = L.length) (hb : (b = 1 ∧ 0 ≤ v ∧ ∀ (i : Nat) (hi : i < L.length), i < j → L[i] ≠ v) ∨ (b = 0 ∧ ¬ (0 ≤ v ∧ ¬ v ∈ L))), ih_Wp X 174 50 [xR 111, xI p, xI L.length, xI pl, xI k, xI l, xI v, xI b, xI j] [] t Q := by
  intro d
  induction d with
  | zero =>
    intro j b hd hb
    obtain rfl : j = L.length := by omega
    refine ih_seg (i1 := 52) 2 rfl ?_
    refine ih_icmp_ge rfl (by omega) (by omega) (fun w1 => ?_) (fun w1 => ?_)
    · rcases hb with ⟨rfl, h0, h1⟩ | ⟨rfl, h0⟩
      · exact Ky h0 (fun q => by
          obtain ⟨i, hi, e⟩ := List.mem_iff_getElem.mp q
          exact h1 i hi hi e)
      · exact Kn h0
    · exfalso
      omega

  | succ d ih =>
    intro j b hd hb
    have hj : j < L.length := by omega
    have eg := hg j hj
    have er := hL _ (List.getElem_mem hj)
    rw [← eg] at er
    refine ih_seg (i1 := 52) 2 rfl ?_
    refine ih_icmp_ge rfl (by omega) (by omega) (fun w1 => ?_) (fun w1 => ?_)
    · exfalso
      omega
    · skip
      refine ih_seg (i1 := 54) 1 rfl ?_
      refine ih_ifc_eq rfl (by omega) (fun w2 => ?_) (fun w2 => ?_)
      · refine ih_seg (i1 := 50) 4 rfl ?_
        try simp only [xa_set, List.set_cons_zero, List.set_cons_succ, List.getElem?_cons_zero, List.getElem?_cons_succ]
        first
          | (refine ih (j + 1) 1 (by omega) (Or.inl ⟨rfl, by omega, fun i hi h1 => ?_⟩)
             rcases hb with ⟨hb1, h0, h2⟩ | ⟨hb1, h0⟩
             · by_cases e : i = j
               · subst e
                 rw [← eg]
                 omega
               · exact h2 i hi (by omega)
             · exfalso
               omega)
          | (refine ih (j + 1) 0 (by omega) (Or.inr ⟨rfl, ?_⟩)
             rcases hb with ⟨hb1, h0, h2⟩ | ⟨hb1, h0⟩
             · exact fun q => q.2 (List.mem_iff_getElem.mpr ⟨j, hj, by rw [← eg]; omega⟩)
             · exact h0)
      · refine ih_seg (i1 := 56) 1 rfl ?_
        refine ih_getR rfl rfl ?_
        refine ih_seg (i1 := 58) 1 rfl ?_
        refine ih_iald rfl (by first | rfl | exact ih_lP1 (ih_P_w0 hc) | exact ih_lP2 (ih_P_w0 hc) | exact ih_lP3 (ih_P_w0 hc) | exact ih_lP4 (ih_P_w0 hc) |  exact ih_lP1 (by assumption) | exact ih_lP2 (by assumption) | exact ih_lP3 (by assumption) | exact ih_lP4 (by assumption) | exact ih_lC1 (by assumption) | exact ih_lS1 (by assumption) | exact ih_lW1 (by assumption) | exact ih_lW2 (by assumption) | exact ih_lW4 (by assumption) | exact ih_lW5 (by assumption)) (by omega) (by omega) (k := ?_)
        refine ih_seg (i1 := 60) 1 rfl ?_
        refine ih_icmp_eq rfl (by omega) (by omega) (fun w3 => ?_) (fun w3 => ?_)
        · refine ih_seg (i1 := 50) 4 rfl ?_
          try simp only [xa_set, List.set_cons_zero, List.set_cons_succ, List.getElem?_cons_zero, List.getElem?_cons_succ]
          first
            | (refine ih (j + 1) 1 (by omega) (Or.inl ⟨rfl, by omega, fun i hi h1 => ?_⟩)
               rcases hb with ⟨hb1, h0, h2⟩ | ⟨hb1, h0⟩
               · by_cases e : i = j
                 · subst e
                   rw [← eg]
                   omega
                 · exact h2 i hi (by omega)
               · exfalso
                 omega)
            | (refine ih (j + 1) 0 (by omega) (Or.inr ⟨rfl, ?_⟩)
               rcases hb with ⟨hb1, h0, h2⟩ | ⟨hb1, h0⟩
               · exact fun q => q.2 (List.mem_iff_getElem.mpr ⟨j, hj, by rw [← eg]; omega⟩)
               · exact h0)
        · refine ih_seg (i1 := 50) 5 rfl ?_
          try simp only [xa_set, List.set_cons_zero, List.set_cons_succ, List.getElem?_cons_zero, List.getElem?_cons_succ]
          first
            | (refine ih (j + 1) 1 (by omega) (Or.inl ⟨rfl, by omega, fun i hi h1 => ?_⟩)
               rcases hb with ⟨hb1, h0, h2⟩ | ⟨hb1, h0⟩
               · by_cases e : i = j
                 · subst e
                   rw [← eg]
                   omega
                 · exact h2 i hi (by omega)
               · exfalso
                 omega)
            | (refine ih (j + 1) 0 (by omega) (Or.inr ⟨rfl, ?_⟩)
               rcases hb with ⟨hb1, h0, h2⟩ | ⟨hb1, h0⟩
               · exact fun q => q.2 (List.mem_iff_getElem.mpr ⟨j, hj, by rw [← eg]; omega⟩)
               · exact h0)


theorem r_forged_l {X : List Int} {t : ih_S} {Q : Option xa_V → ih_S → Prop} {s : Int → Int} {p : Nat} (hp : p < 4) (G : ih_Gd s)  : ∀ (d : Nat) (pl k l : Nat) (L : List Int) (x y u : xa_V) (t1 : ih_S) (hd : 25 * pl + 5 * k + l + d = 25 * (s (22 + p)).toNat + 30) (hpl : (pl : Int) ≤ s (22 + p)) (hk : 1 ≤ k ∧ k < 6) (hl : l ≤ 4) (hn : (L.length : Int) ≤ 7 * pl + ih_nx k l) (hL : ∀ x ∈ L, 0 ≤ x ∧ x < 65536) (hg : ih_Lr (t1 116) L) (es : t1 112 = s) (hf : ih_rr t t1) (K : ∀ t2, ih_rr t t2 → Q (some (xI (ih_al s p (7 * pl + ih_nx k l) L).length)) t2), ih_Wp X 174 26 [xR 111, xI p, xI L.length, xI pl, xI k, xI l, x, y, u] [] t1 Q := by
  intro d
  induction d with
  | zero =>
    intro pl k l L x y u t1 hd hpl hk hl hn hL hg es hf K
    have z := (G.pap p hp).sz
    exfalso
    omega

  | succ d ih =>
    intro pl k l L x y u t1 hd hpl hk hl hn hL hg es hf K
    have P := G.pap p hp
    have z := P.sz
    have gn := G.now
    have nr := ih_nx_rg (k := k) (l := l) (by omega) (by omega)
    have P1 : ih_RG (t1 112) p := by rw [es]; exact P
    have gn1 : 0 ≤ t1 112 0 ∧ t1 112 0 < 10000 := by rw [es]; exact gn
    have e22 : t1 112 (22 + p) = s (22 + p) := by rw [es]
    refine ih_seg (i1 := 28) 2 rfl ?_
    refine ih_icmp_ge rfl (by omega) (by omega) (fun w1 => ?_) (fun w1 => ?_)
    · refine ih_seg (i1 := 21) 2 rfl ?_
      try simp only [xa_set, List.set_cons_zero, List.set_cons_succ, List.getElem?_cons_zero, List.getElem?_cons_succ]
      refine ih_seg (i1 := 23) 2 rfl ?_
      refine ih_icmp_ge rfl (by omega) (by omega) (fun w1 => ?_) (fun w1 => ?_)
      · refine ih_seg (i1 := 11) 2 rfl ?_
        try simp only [xa_set, List.set_cons_zero, List.set_cons_succ, List.getElem?_cons_zero, List.getElem?_cons_succ]
        refine ih_seg (i1 := 13) 2 rfl ?_
        refine ih_getR rfl rfl ?_
        refine ih_seg (i1 := 17) 3 rfl ?_
        try dsimp only
        refine ih_iald rfl (by first | rfl | exact ih_lP1 (ih_P_w0 hc) | exact ih_lP2 (ih_P_w0 hc) | exact ih_lP3 (ih_P_w0 hc) | exact ih_lP4 (ih_P_w0 hc) |  exact ih_lP1 (by assumption) | exact ih_lP2 (by assumption) | exact ih_lP3 (by assumption) | exact ih_lP4 (by assumption) | exact ih_lC1 (by assumption) | exact ih_lS1 (by assumption) | exact ih_lW1 (by assumption) | exact ih_lW2 (by assumption) | exact ih_lW4 (by assumption) | exact ih_lW5 (by assumption)) (by omega) (by omega) (k := ?_)
        refine ih_icmp_gt rfl (by omega) (by omega) (fun w1 => ?_) (fun w1 => ?_)
        · refine ih_seg (i1 := 82) 1 rfl ?_
          refine ih_ret rfl rfl ?_
          obtain rfl : l = 4 := by omega
          obtain rfl : k = 5 := by omega
          have e1 : ih_nx ((5 : Nat) : Int) ((4 : Nat) : Int) = 7 := ih_nx_e
          rw [e1, ih_al_e (by omega)] at K
          exact K t1 hf
        · refine ih_seg (i1 := 21) 2 rfl ?_
          try simp only [xa_set, List.set_cons_zero, List.set_cons_succ, List.getElem?_cons_zero, List.getElem?_cons_succ]
          refine ih_seg (i1 := 23) 2 rfl ?_
          refine ih_icmp_ge rfl (by omega) (by omega) (fun w1 => ?_) (fun w1 => ?_)
          · exfalso
            omega
          · refine ih_seg (i1 := 26) 2 rfl ?_
            try simp only [xa_set, List.set_cons_zero, List.set_cons_succ, List.getElem?_cons_zero, List.getElem?_cons_succ]
            obtain rfl : l = 4 := by omega
            obtain rfl : k = 5 := by omega
            have e1 : 7 * (pl : Int) + ih_nx ((5 : Nat) : Int) ((4 : Nat) : Int) = 7 * ((pl + 1 : Nat) : Int) + ih_nx ((1 : Nat) : Int) ((0 : Nat) : Int) := by
              rw [show ih_nx ((5 : Nat) : Int) ((4 : Nat) : Int) = 7 from ih_nx_e, show ih_nx ((1 : Nat) : Int) ((0 : Nat) : Int) = 0 from ih_nx_0]
              omega
            rw [e1] at K hn
            exact ih (pl + 1) 1 0 L _ _ _ _ (by omega) (by omega) (by omega) (by omega) hn hL hg es hf K
      · refine ih_seg (i1 := 26) 2 rfl ?_
        try simp only [xa_set, List.set_cons_zero, List.set_cons_succ, List.getElem?_cons_zero, List.getElem?_cons_succ]
        obtain rfl : l = 4 := by omega
        have e1 : ih_nx (k : Int) ((4 : Nat) : Int) = ih_nx ((k + 1 : Nat) : Int) ((0 : Nat) : Int) := ih_nx_k (by omega)
        rw [e1] at K hn
        exact ih pl (k + 1) 0 L _ _ _ _ (by omega) (by omega) (by omega) (by omega) hn hL hg es hf K
    · refine ih_seg (i1 := 31) 2 rfl ?_
      refine ih_is2 173 rfl rfl (Nat.le_of_ble_eq_true rfl) (Nat.le_of_ble_eq_true rfl) rfl ?_
      refine r_isForging (by omega) (by omega) (fun hv => ?_) (fun hv => ?_)
      · refine ih_seg (i1 := 38) 6 rfl ?_
        refine ih_iv4 172 rfl rfl (by first | rfl | exact ih_kP (ih_P_w0 hc) |  exact ih_kP (by assumption) | exact ih_kC (by assumption) | exact ih_kN (by assumption) | exact ih_kS (by assumption) | exact ih_kW (by assumption)) (Nat.le_of_ble_eq_true rfl) (Nat.le_of_ble_eq_true rfl) rfl ?_
        have nv := ih_nx_v (k := k) (l := l) (by omega) (by omega) hv
        have ei : ih_fI s p (7 * pl + ih_nx k l) = ih_fM s p pl k l := by
          obtain ⟨ch, ech⟩ := Int.eq_ofNat_of_zero_le nr.1
          have := ih_fI_at s p pl ch (by omega)
          rw [← ech, nv.2.1, nv.2.2.1] at this
          exact this
        have mr := ih_fM_rg s p pl k l
        refine r_forgedBy (t := t1) hp P1 gn1 (by omega) (by omega) (by omega) (ih_rf_r t1) (fun t2 h2 => ?_)
        rw [es]
        have hg2 : ih_Lr (t2 116) L := by rw [h2.1 116 (by decide)]; exact hg
        have f2 : ih_rr t t2 := ih_rr_t hf (ih_rr_f h2)
        have es2 : t2 112 = s := (h2.1 112 (by decide)).trans es
        refine ih_seg (i1 := 43) 3 rfl ?_
        try simp only [xa_set, List.set_cons_zero, List.set_cons_succ, List.getElem?_cons_zero, List.getElem?_cons_succ]
        refine ih_ifc_lt rfl (by omega) (fun w2 => ?_) (fun w2 => ?_)
        · refine ih_seg (i1 := 50) 4 rfl ?_
          try simp only [xa_set, List.set_cons_zero, List.set_cons_succ, List.getElem?_cons_zero, List.getElem?_cons_succ]
          refine r_new_l (L := L) (by omega) hL (by omega) hg2 (fun q1 q2 => ?_) (fun q => ?_) L.length 0 0 (by omega) (Or.inr ⟨rfl, fun q => by omega⟩)
          · exfalso
            omega
          · refine ih_seg (i1 := 68) 1 rfl ?_
            refine ih_ifc_eq rfl (by omega) (fun w1 => ?_) (fun w1 => ?_)
            · refine ih_seg (i1 := 26) 2 rfl ?_
              try simp only [xa_set, List.set_cons_zero, List.set_cons_succ, List.getElem?_cons_zero, List.getElem?_cons_succ]
              have ea : ih_add L (ih_fI s p (7 * (pl : Int) + ih_nx k l)) = L := by rw [ei]; exact if_neg q
              rw [ih_al_n (by omega), ea] at K
              refine ih pl k (l + 1) L _ _ _ _ (by omega) (by omega) (by omega) (by omega) (by rw [show ((l + 1 : Nat) : Int) = (l : Int) + 1 from rfl, nv.2.2.2]; omega) hL hg2 es2 f2 ?_
              rw [show ((l + 1 : Nat) : Int) = (l : Int) + 1 from rfl, nv.2.2.2, show 7 * (pl : Int) + (ih_nx k l + 1) = 7 * (pl : Int) + ih_nx k l + 1 by omega]
              exact K
            · refine ih_seg (i1 := 70) 1 rfl ?_
              refine ih_getR rfl rfl ?_
              refine ih_seg (i1 := 73) 2 rfl ?_
              refine ih_iast rfl (by first | rfl | exact ih_lP1 (ih_P_w0 hc) | exact ih_lP2 (ih_P_w0 hc) | exact ih_lP3 (ih_P_w0 hc) | exact ih_lP4 (ih_P_w0 hc) |  exact ih_lP1 (by assumption) | exact ih_lP2 (by assumption) | exact ih_lP3 (by assumption) | exact ih_lP4 (by assumption) | exact ih_lC1 (by assumption) | exact ih_lS1 (by assumption) | exact ih_lW1 (by assumption) | exact ih_lW2 (by assumption) | exact ih_lW4 (by assumption) | exact ih_lW5 (by assumption)) (by omega) (by omega) (k := ?_)
              refine ih_seg (i1 := 26) 3 rfl ?_
              try simp only [xa_set, List.set_cons_zero, List.set_cons_succ, List.getElem?_cons_zero, List.getElem?_cons_succ]
              exfalso
              omega
        · refine ih_seg (i1 := 50) 5 rfl ?_
          try simp only [xa_set, List.set_cons_zero, List.set_cons_succ, List.getElem?_cons_zero, List.getElem?_cons_succ]
          refine r_new_l (L := L) (by omega) hL (by omega) hg2 (fun q1 q2 => ?_) (fun q => ?_) L.length 0 1 (by omega) (Or.inl ⟨rfl, by omega, fun i hi h1 => absurd h1 (Nat.not_lt_zero i)⟩)
          · refine ih_seg (i1 := 68) 1 rfl ?_
            refine ih_ifc_eq rfl (by omega) (fun w1 => ?_) (fun w1 => ?_)
            · refine ih_seg (i1 := 26) 2 rfl ?_
              try simp only [xa_set, List.set_cons_zero, List.set_cons_succ, List.getElem?_cons_zero, List.getElem?_cons_succ]
              exfalso
              omega
            · refine ih_seg (i1 := 70) 1 rfl ?_
              refine ih_getR rfl rfl ?_
              refine ih_seg (i1 := 73) 2 rfl ?_
              refine ih_iast rfl (by first | rfl | exact ih_lP1 (ih_P_w0 hc) | exact ih_lP2 (ih_P_w0 hc) | exact ih_lP3 (ih_P_w0 hc) | exact ih_lP4 (ih_P_w0 hc) |  exact ih_lP1 (by assumption) | exact ih_lP2 (by assumption) | exact ih_lP3 (by assumption) | exact ih_lP4 (by assumption) | exact ih_lC1 (by assumption) | exact ih_lS1 (by assumption) | exact ih_lW1 (by assumption) | exact ih_lW2 (by assumption) | exact ih_lW4 (by assumption) | exact ih_lW5 (by assumption)) (by omega) (by omega) (k := ?_)
              refine ih_seg (i1 := 26) 3 rfl ?_
              try simp only [xa_set, List.set_cons_zero, List.set_cons_succ, List.getElem?_cons_zero, List.getElem?_cons_succ]
              have ea : ih_add L (ih_fI s p (7 * (pl : Int) + ih_nx k l)) = L ++ [ih_fM s p pl k l] := by rw [ei]; exact if_pos ⟨q1, q2⟩
              have rg := ih_add_rg (L := L) (v := ih_fI s p (7 * (pl : Int) + ih_nx k l)) hL (by rw [ei]; omega)
              rw [ea] at rg
              rw [ih_al_n (by omega), ea] at K
              have el : (L ++ [ih_fM s p pl k l]).length = L.length + 1 := by simp
              refine ih_ls ?_ (ih pl k (l + 1) (L ++ [ih_fM s p pl k l]) (xI (ih_fM s p pl k l)) (xI 1) (xI L.length) _ (by omega) (by omega) (by omega) (by omega) (by rw [el, show ((l + 1 : Nat) : Int) = (l : Int) + 1 from rfl, nv.2.2.2]; omega) rg (by rw [ih_up_eq]; exact ih_Lr_add hg2) (by rw [ih_up_ne (by decide)]; exact es2) (ih_rr_t f2 ⟨fun j hj => ih_up_ne (by omega), fun f _ => by rw [ih_up_ne (by decide)]⟩) ?_)
              · rw [el]
                rfl
              · rw [show ((l + 1 : Nat) : Int) = (l : Int) + 1 from rfl, nv.2.2.2, show 7 * (pl : Int) + (ih_nx k l + 1) = 7 * (pl : Int) + ih_nx k l + 1 by omega]
                exact K
          · refine ih_seg (i1 := 68) 1 rfl ?_
            refine ih_ifc_eq rfl (by omega) (fun w1 => ?_) (fun w1 => ?_)
            · refine ih_seg (i1 := 26) 2 rfl ?_
              try simp only [xa_set, List.set_cons_zero, List.set_cons_succ, List.getElem?_cons_zero, List.getElem?_cons_succ]
              have ea : ih_add L (ih_fI s p (7 * (pl : Int) + ih_nx k l)) = L := by rw [ei]; exact if_neg q
              rw [ih_al_n (by omega), ea] at K
              refine ih pl k (l + 1) L _ _ _ _ (by omega) (by omega) (by omega) (by omega) (by rw [show ((l + 1 : Nat) : Int) = (l : Int) + 1 from rfl, nv.2.2.2]; omega) hL hg2 es2 f2 ?_
              rw [show ((l + 1 : Nat) : Int) = (l : Int) + 1 from rfl, nv.2.2.2, show 7 * (pl : Int) + (ih_nx k l + 1) = 7 * (pl : Int) + ih_nx k l + 1 by omega]
              exact K
            · refine ih_seg (i1 := 70) 1 rfl ?_
              refine ih_getR rfl rfl ?_
              refine ih_seg (i1 := 73) 2 rfl ?_
              refine ih_iast rfl (by first | rfl | exact ih_lP1 (ih_P_w0 hc) | exact ih_lP2 (ih_P_w0 hc) | exact ih_lP3 (ih_P_w0 hc) | exact ih_lP4 (ih_P_w0 hc) |  exact ih_lP1 (by assumption) | exact ih_lP2 (by assumption) | exact ih_lP3 (by assumption) | exact ih_lP4 (by assumption) | exact ih_lC1 (by assumption) | exact ih_lS1 (by assumption) | exact ih_lW1 (by assumption) | exact ih_lW2 (by assumption) | exact ih_lW4 (by assumption) | exact ih_lW5 (by assumption)) (by omega) (by omega) (k := ?_)
              refine ih_seg (i1 := 26) 3 rfl ?_
              try simp only [xa_set, List.set_cons_zero, List.set_cons_succ, List.getElem?_cons_zero, List.getElem?_cons_succ]
              exfalso
              omega
      · refine ih_seg (i1 := 43) 4 rfl ?_
        try simp only [xa_set, List.set_cons_zero, List.set_cons_succ, List.getElem?_cons_zero, List.getElem?_cons_succ]
        refine ih_ifc_lt rfl (by omega) (fun w3 => ?_) (fun w3 => ?_)
        · refine ih_seg (i1 := 50) 4 rfl ?_
          try simp only [xa_set, List.set_cons_zero, List.set_cons_succ, List.getElem?_cons_zero, List.getElem?_cons_succ]
          refine r_new_l (L := L) (v := -1) (by omega) hL (by omega) hg (fun q1 q2 => ?_) (fun q => ?_) L.length 0 0 (by omega) (Or.inr ⟨rfl, fun q => by omega⟩)
          · exfalso
            omega
          · refine ih_seg (i1 := 68) 1 rfl ?_
            refine ih_ifc_eq rfl (by omega) (fun w1 => ?_) (fun w1 => ?_)
            · refine ih_seg (i1 := 26) 2 rfl ?_
              try simp only [xa_set, List.set_cons_zero, List.set_cons_succ, List.getElem?_cons_zero, List.getElem?_cons_succ]
              refine ih pl k (l + 1) L _ _ _ _ (by omega) (by omega) (by omega) (by omega) (by rw [show ((l + 1 : Nat) : Int) = (l : Int) + 1 from rfl, ih_nx_w (by omega) (by omega) hv]; omega) hL hg es hf ?_
              rw [show ((l + 1 : Nat) : Int) = (l : Int) + 1 from rfl, ih_nx_w (by omega) (by omega) hv]
              exact K
            · refine ih_seg (i1 := 70) 1 rfl ?_
              refine ih_getR rfl rfl ?_
              refine ih_seg (i1 := 73) 2 rfl ?_
              refine ih_iast rfl (by first | rfl | exact ih_lP1 (ih_P_w0 hc) | exact ih_lP2 (ih_P_w0 hc) | exact ih_lP3 (ih_P_w0 hc) | exact ih_lP4 (ih_P_w0 hc) |  exact ih_lP1 (by assumption) | exact ih_lP2 (by assumption) | exact ih_lP3 (by assumption) | exact ih_lP4 (by assumption) | exact ih_lC1 (by assumption) | exact ih_lS1 (by assumption) | exact ih_lW1 (by assumption) | exact ih_lW2 (by assumption) | exact ih_lW4 (by assumption) | exact ih_lW5 (by assumption)) (by omega) (by omega) (k := ?_)
              refine ih_seg (i1 := 26) 3 rfl ?_
              try simp only [xa_set, List.set_cons_zero, List.set_cons_succ, List.getElem?_cons_zero, List.getElem?_cons_succ]
              exfalso
              omega
        · refine ih_seg (i1 := 50) 5 rfl ?_
          try simp only [xa_set, List.set_cons_zero, List.set_cons_succ, List.getElem?_cons_zero, List.getElem?_cons_succ]
          exfalso
          omega


theorem r_op_forged {X : List Int} {t : ih_S} {Q : Option xa_V → ih_S → Prop} {a : Int} (ha : xa_rI a) (G : ih_Gd (t 112)) (K : ih_roR t (f_forged (t 112) a) Q) : ih_Wp X 174 0 [xR 111, xI a, xC 1, xC 1, xC 1, xC 1, xC 1, xC 1, xC 1] [] t Q := by
  refine ih_seg (i1 := 1) 1 rfl ?_
  refine ih_is1 128 rfl rfl (Nat.le_of_ble_eq_true rfl) (Nat.le_of_ble_eq_true rfl) rfl ?_
  refine r_isPaper (by omega) (fun w1 => ?_) (fun w2 => ?_)
  · refine ih_seg (i1 := 7) 1 rfl ?_
    obtain ⟨p, rfl⟩ := Int.eq_ofNat_of_zero_le (show 0 ≤ a by omega)
    have hp : p < 4 := by omega
    have z := (G.pap p hp).sz
    refine ih_seg (i1 := 11) 4 rfl ?_
    try simp only [xa_set, List.set_cons_zero, List.set_cons_succ, List.getElem?_cons_zero, List.getElem?_cons_succ]
    refine ih_seg (i1 := 13) 2 rfl ?_
    refine ih_getR rfl rfl ?_
    refine ih_seg (i1 := 17) 3 rfl ?_
    try dsimp only
    refine ih_iald rfl (by first | rfl | exact ih_lP1 (ih_P_w0 hc) | exact ih_lP2 (ih_P_w0 hc) | exact ih_lP3 (ih_P_w0 hc) | exact ih_lP4 (ih_P_w0 hc) |  exact ih_lP1 (by assumption) | exact ih_lP2 (by assumption) | exact ih_lP3 (by assumption) | exact ih_lP4 (by assumption) | exact ih_lC1 (by assumption) | exact ih_lS1 (by assumption) | exact ih_lW1 (by assumption) | exact ih_lW2 (by assumption) | exact ih_lW4 (by assumption) | exact ih_lW5 (by assumption)) (by omega) (by omega) (k := ?_)
    refine ih_icmp_gt rfl (by omega) (by omega) (fun w1 => ?_) (fun w1 => ?_)
    · exfalso
      omega
    · refine ih_seg (i1 := 21) 2 rfl ?_
      try simp only [xa_set, List.set_cons_zero, List.set_cons_succ, List.getElem?_cons_zero, List.getElem?_cons_succ]
      refine ih_seg (i1 := 23) 2 rfl ?_
      refine ih_icmp_ge rfl (by omega) (by omega) (fun w1 => ?_) (fun w1 => ?_)
      · exfalso
        omega
      · refine ih_seg (i1 := 26) 2 rfl ?_
        try simp only [xa_set, List.set_cons_zero, List.set_cons_succ, List.getElem?_cons_zero, List.getElem?_cons_succ]
        rw [f_forged, if_pos (by omega), Int.toNat_natCast] at K
        refine r_forged_l (s := t 112) hp G (25 * (t 112 (22 + p)).toNat + 25) 0 1 0 [] _ _ _ t (by omega) (by omega) (by omega) (by omega) (by decide) (fun x hx => absurd hx (by simp)) (ih_Lr_0 _) rfl (ih_rr_r t) (fun t2 h2 => ?_)
        exact ih_roR_ok K rfl h2
  · refine ih_seg (i1 := 5) 3 rfl ?_
    refine ih_iv1 127 rfl rfl (by first | rfl | exact ih_kP (ih_P_w0 hc) |  exact ih_kP (by assumption) | exact ih_kC (by assumption) | exact ih_kN (by assumption) | exact ih_kS (by assumption) | exact ih_kW (by assumption)) (Nat.le_of_ble_eq_true rfl) (Nat.le_of_ble_eq_true rfl) rfl ?_
    refine r_finds 0 rfl (by omega) ?_
    refine ih_ret rfl rfl ?_
    exact ih_roR_no 0 K (by rw [f_forged, if_neg (by omega)]) rfl (ih_rr_r _)

