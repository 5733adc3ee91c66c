/-! one mark more: forge, forged -/
def ih_fw (kd lt : Nat → Int) (f : Nat → Bool) (sz pl : Nat) (k1 l1 : Int) : Nat → ih_Se
  | 0 => ih_s0
  | j + 1 => if j < sz ∧ f j = true then ih_tk (kd j) (lt j) (if j = pl then ih_tk k1 l1 (ih_fw kd lt f sz pl k1 l1 j) else ih_fw kd lt f sz pl k1 l1 j) else (if j = pl then ih_tk k1 l1 (ih_fw kd lt f sz pl k1 l1 j) else ih_fw kd lt f sz pl k1 l1 j)
theorem ih_ok_ite {p : Prop} [Decidable p] {a b : ih_Se} (h1 : ih_ok a) (h2 : ih_ok b) : ih_ok (if p then a else b) := by split <;> assumption
theorem ih_ok_fw (kd lt : Nat → Int) (f : Nat → Bool) (sz pl : Nat) (k1 l1 : Int) : ∀ j, ih_ok (ih_fw kd lt f sz pl k1 l1 j)
  | 0 => ih_ok_s0
  | j + 1 => by
    have h := ih_ok_fw kd lt f sz pl k1 l1 j
    unfold ih_fw
    exact ih_ok_ite (ih_ok_tk (ih_ok_ite (ih_ok_tk h) h)) (ih_ok_ite (ih_ok_tk h) h)
theorem ih_fw_congr {kd lt kd' lt' : Nat → Int} {f f' : Nat → Bool} {sz pl : Nat} {k1 l1 : Int} (h : ∀ k, k < sz → kd k = kd' k ∧ lt k = lt' k ∧ f k = f' k) : ∀ j, ih_fw kd lt f sz pl k1 l1 j = ih_fw kd' lt' f' sz pl k1 l1 j
  | 0 => rfl
  | j + 1 => by
    rw [ih_fw, ih_fw, ih_fw_congr h j]
    by_cases q : j < sz
    · rw [(h j q).1, (h j q).2.1, (h j q).2.2]
    · rw [if_neg (show ¬ (j < sz ∧ f j = true) from fun k => q k.1), if_neg (show ¬ (j < sz ∧ f' j = true) from fun k => q k.1)]
/-- what a paper means now with one mark more -/
def ih_fM (s : Int → Int) (p pl : Nat) (k1 l1 : Int) : Int := ih_val (ih_fw (fun k => s (26 + 48 * p + 4 * k)) (fun k => s (26 + 48 * p + 4 * k + 1)) (ih_rs s p (s 0)) (s (22 + p)).toNat pl k1 l1 ((s (22 + p)).toNat + 1))
theorem ih_fM_rg (s : Int → Int) (p pl : Nat) (k1 l1 : Int) : -1 ≤ ih_fM s p pl k1 l1 ∧ ih_fM s p pl k1 l1 < 65536 := ih_val_rg (ih_ok_fw _ _ _ _ _ _ _ _)
def ih_ckd (i : Int) : Int := if i < 4 then 1 else if i = 4 then 2 else if i = 5 then 3 else 5
def ih_clt (i : Int) : Int := if i < 4 then i else 0
theorem ih_ckd_get {i : Nat} (h : i < 7) : [1, 1, 1, 1, 2, 3, 5][((i : Int)).toNat]? = some (ih_ckd i) := (by decide +kernel : ∀ i : Nat, i < 7 → ([1, 1, 1, 1, 2, 3, 5] : List Int)[((i : Int)).toNat]? = some (ih_ckd i)) i h
theorem ih_clt_get {i : Nat} (h : i < 7) : [0, 1, 2, 3, 0, 0, 0][((i : Int)).toNat]? = some (ih_clt i) := (by decide +kernel : ∀ i : Nat, i < 7 → ([0, 1, 2, 3, 0, 0, 0] : List Int)[((i : Int)).toNat]? = some (ih_clt i)) i h
theorem ih_ckl_rg {i : Int} (h0 : 0 ≤ i) (h : i < 7) : (0 ≤ ih_ckd i ∧ ih_ckd i < 7) ∧ 0 ≤ ih_clt i ∧ ih_clt i < 4 := by
  unfold ih_ckd ih_clt
  (repeat' split) <;> omega
def ih_fI (s : Int → Int) (p : Nat) (i : Int) : Int := ih_fM s p (i / 7).toNat (ih_ckd (i % 7)) (ih_clt (i % 7))
theorem ih_fI_at (s : Int → Int) (p pl ch : Nat) (h : ch < 7) : ih_fI s p (7 * pl + ch) = ih_fM s p pl (ih_ckd ch) (ih_clt ch) := by
  unfold ih_fI
  rw [show ((7 * (pl : Int) + ch) / 7).toNat = pl by omega, show (7 * (pl : Int) + ch) % 7 = ch by omega]

theorem c_mw2 {X : List Int} {t : ih_S} {Q : Option xa_V → ih_S → Prop} {c v pl ch : Nat} (hc : c < 4) (G : ih_PG t c) (hv : v < 65536) (hch : ch < 7) (hpl : pl < 13) {t1 : ih_S} {k : Nat} {e : ih_Se} (hf : ih_fr c t t1) (ho : ih_ok e) (hr : ih_SR t1 (93 + 3 * c) e) (hk : (k : Int) ≤ t (7 + 5 * c) 4) (K : ∀ t2, ih_fr c t t2 → ih_SR t2 (93 + 3 * c) (if k < (t (7 + 5 * c) 4).toNat ∧ v.testBit k = true then ih_tk (t (8 + 5 * c) k) (t (9 + 5 * c) k) e else e) → ih_Wp X 12 46 [xR (91 + 3 * c), xI v, xI pl, xI ch, xI k] [] t2 Q) : ih_Wp X 12 22 [xR (91 + 3 * c), xI v, xI pl, xI ch, xI k] [] t1 Q := by
  have g1 := G.sz
  have hs : t1 (7 + 5 * c) = t (7 + 5 * c) := hf _ (by omega)
  have hs1 : t1 (7 + 5 * c + 1) = t (7 + 5 * c + 1) := hf _ (by omega)
  have hs2 : t1 (7 + 5 * c + 2) = t (7 + 5 * c + 2) := hf _ (by omega)
  rw [← hs] at hk g1
  refine ih_seg (i1 := 24) 2 rfl ?_
  refine ih_getR rfl (by first | rfl | exact ih_fC0 (by assumption)) ?_
  refine ih_getI rfl (by first | rfl | exact ih_fP4 (ih_P_w0 hc) | exact ih_fP4 (by assumption)) ?_
  refine ih_icmp_ge rfl (by (first | omega | (rw [gb]; split <;> omega))) (by (first | omega | (rw [gb]; split <;> omega))) (fun w1 => ?_) (fun w1 => ?_)
  · refine K t1 hf ?_
    rw [if_neg (by rw [← hs]; omega)]
    exact hr
  · have gb := ih_bit (v := v) (k := k) hv (by omega)
    have hk1 : (k : Int) < t (7 + 5 * c) 4 := by rw [← hs]; omega
    have g2 := G.kd k hk1
    have g3 := G.lt k hk1
    simp only [← ih_a1, ← ih_a2] at g2 g3
    rw [← hs1] at g2
    rw [← hs2] at g3
    refine ih_seg (i1 := 32) 5 rfl ?_
    try dsimp only
    refine ih_ifc_eq rfl (by (first | omega | (rw [gb]; split <;> omega))) (fun w2 => ?_) (fun w2 => ?_)
    · refine K t1 hf ?_
      rw [if_neg (by intro q; rw [gb, if_pos q.2] at *; omega)]
      exact hr
    · refine ih_seg (i1 := 34) 1 rfl ?_
      refine ih_getR rfl (by first | rfl | exact ih_fC3 (by assumption)) ?_
      refine ih_seg (i1 := 36) 1 rfl ?_
      refine ih_getR rfl (by first | rfl | exact ih_fC0 (by assumption)) ?_
      refine ih_getR rfl (by first | rfl | exact ih_fP0 (ih_P_w0 hc) | exact ih_fP0 (by assumption)) ?_
      refine ih_seg (i1 := 39) 1 rfl ?_
      refine ih_iald rfl (by first | rfl | exact ih_lP1 (ih_P_w0 hc) | exact ih_lP2 (ih_P_w0 hc) | exact ih_lP3 (ih_P_w0 hc) | exact ih_lP4 (ih_P_w0 hc) |  exact ih_lP1 (by assumption) | exact ih_lP2 (by assumption) | exact ih_lP3 (by assumption) | exact ih_lP4 (by assumption) | exact ih_lC1 (by assumption) | exact ih_lS1 (by assumption) | exact ih_lW1 (by assumption) | exact ih_lW2 (by assumption) | exact ih_lW4 (by assumption) | exact ih_lW5 (by assumption)) (by (first | omega | (rw [gb]; split <;> omega))) (by (first | omega | (rw [gb]; split <;> omega))) (k := ?_)
      refine ih_seg (i1 := 41) 1 rfl ?_
      refine ih_getR rfl (by first | rfl | exact ih_fC0 (by assumption)) ?_
      refine ih_getR rfl (by first | rfl | exact ih_fP1 (ih_P_w0 hc) | exact ih_fP1 (by assumption)) ?_
      refine ih_seg (i1 := 44) 1 rfl ?_
      refine ih_iald rfl (by first | rfl | exact ih_lP1 (ih_P_w0 hc) | exact ih_lP2 (ih_P_w0 hc) | exact ih_lP3 (ih_P_w0 hc) | exact ih_lP4 (ih_P_w0 hc) |  exact ih_lP1 (by assumption) | exact ih_lP2 (by assumption) | exact ih_lP3 (by assumption) | exact ih_lP4 (by assumption) | exact ih_lC1 (by assumption) | exact ih_lS1 (by assumption) | exact ih_lW1 (by assumption) | exact ih_lW2 (by assumption) | exact ih_lW4 (by assumption) | exact ih_lW5 (by assumption)) (by (first | omega | (rw [gb]; split <;> omega))) (by (first | omega | (rw [gb]; split <;> omega))) (k := ?_)
      refine ih_iv2 28 rfl rfl (by first | rfl | exact ih_kP (ih_P_w0 hc) |  exact ih_kP (by assumption) | exact ih_kC (by assumption) | exact ih_kN (by assumption) | exact ih_kS (by assumption) | exact ih_kW (by assumption)) (Nat.le_of_ble_eq_true rfl) (Nat.le_of_ble_eq_true rfl) rfl ?_
      refine c_take hc (by omega) (by omega) ho hr (fun t2 hf2 hr2 => ?_)
      refine K t2 (ih_fr_t hf hf2) ?_
      rw [if_pos ⟨by rw [← hs]; omega, by cases q : v.testBit k <;> simp [gb, q] at *⟩]
      have e1 : t1 (7 + 5 * c + 1) k = t (8 + 5 * c) k := by rw [hs1, ih_a1]
      have e2 : t1 (7 + 5 * c + 2) k = t (9 + 5 * c) k := by rw [hs2, ih_a2]
      rw [e1, e2] at hr2
      exact hr2


theorem c_mWith_l {X : List Int} {t : ih_S} {Q : Option xa_V → ih_S → Prop} {c v pl ch : Nat} (hc : c < 4) (G : ih_PG t c) (hv : v < 65536) (hch : ch < 7) (hpl : pl < 13) (K : ∀ t1, ih_fr c t t1 → Q (some (xI (ih_val (ih_fw (fun k => t (8 + 5 * c) k) (fun k => t (9 + 5 * c) k) v.testBit (t (7 + 5 * c) 4).toNat pl (ih_ckd ch) (ih_clt ch) ((t (7 + 5 * c) 4).toNat + 1))))) t1) : ∀ (d : Nat) (k : Nat) (t1 : ih_S) (hd : (k : Int) + d = t (7 + 5 * c) 4 + 1) (hf : ih_fr c t t1) (hr : ih_SR t1 (93 + 3 * c) (ih_fw (fun k => t (8 + 5 * c) k) (fun k => t (9 + 5 * c) k) v.testBit (t (7 + 5 * c) 4).toNat pl (ih_ckd ch) (ih_clt ch) k)), ih_Wp X 12 5 [xR (91 + 3 * c), xI v, xI pl, xI ch, xI k] [] t1 Q := by
  intro d
  induction d with
  | zero =>
    intro k t1 hd hf hr
    have g1 := G.sz
    have hs : t1 (7 + 5 * c) = t (7 + 5 * c) := hf _ (by omega)
    have hs1 : t1 (7 + 5 * c + 1) = t (7 + 5 * c + 1) := hf _ (by omega)
    have hs2 : t1 (7 + 5 * c + 2) = t (7 + 5 * c + 2) := hf _ (by omega)
    rw [← hs] at hd g1
    refine ih_seg (i1 := 7) 2 rfl ?_
    refine ih_getR rfl (by first | rfl | exact ih_fC0 (by assumption)) ?_
    refine ih_getI rfl (by first | rfl | exact ih_fP4 (ih_P_w0 hc) | exact ih_fP4 (by assumption)) ?_
    refine ih_icmp_gt rfl (by omega) (by omega) (fun w1 => ?_) (fun w1 => ?_)
    · refine ih_seg (i1 := 49) 1 rfl ?_
      refine ih_getR rfl (by first | rfl | exact ih_fC3 (by assumption)) ?_
      refine ih_iv0 29 rfl rfl (by first | rfl | exact ih_kP (ih_P_w0 hc) |  exact ih_kP (by assumption) | exact ih_kC (by assumption) | exact ih_kN (by assumption) | exact ih_kS (by assumption) | exact ih_kW (by assumption)) (Nat.le_of_ble_eq_true rfl) (Nat.le_of_ble_eq_true rfl) rfl ?_
      refine c_meaning hc (ih_ok_fw _ _ _ _ _ _ _ _) hr ?_
      refine ih_ret rfl rfl ?_
      have := K t1 hf
      rw [show (t (7 + 5 * c) 4).toNat + 1 = k by rw [← hs]; omega] at this
      exact this
    · exfalso
      omega

  | succ d ih =>
    intro k t1 hd hf hr
    have g1 := G.sz
    have hs : t1 (7 + 5 * c) = t (7 + 5 * c) := hf _ (by omega)
    have hs1 : t1 (7 + 5 * c + 1) = t (7 + 5 * c + 1) := hf _ (by omega)
    have hs2 : t1 (7 + 5 * c + 2) = t (7 + 5 * c + 2) := hf _ (by omega)
    rw [← hs] at hd g1
    refine ih_seg (i1 := 7) 2 rfl ?_
    refine ih_getR rfl (by first | rfl | exact ih_fC0 (by assumption)) ?_
    refine ih_getI rfl (by first | rfl | exact ih_fP4 (ih_P_w0 hc) | exact ih_fP4 (by assumption)) ?_
    refine ih_icmp_gt rfl (by omega) (by omega) (fun w1 => ?_) (fun w1 => ?_)
    · refine ih_seg (i1 := 49) 1 rfl ?_
      refine ih_getR rfl (by first | rfl | exact ih_fC3 (by assumption)) ?_
      refine ih_iv0 29 rfl rfl (by first | rfl | exact ih_kP (ih_P_w0 hc) |  exact ih_kP (by assumption) | exact ih_kC (by assumption) | exact ih_kN (by assumption) | exact ih_kS (by assumption) | exact ih_kW (by assumption)) (Nat.le_of_ble_eq_true rfl) (Nat.le_of_ble_eq_true rfl) rfl ?_
      exfalso
      omega
    · refine ih_seg (i1 := 12) 2 rfl ?_
      refine ih_icmp_ne rfl (by omega) (by omega) (fun w2 => ?_) (fun w2 => ?_)
      · refine c_mw2 hc G hv hch hpl hf (ih_ok_fw _ _ _ _ _ _ _ _) hr (by rw [← hs]; omega) (fun t3 f3 r3 => ?_)
        refine ih_seg (i1 := 5) 2 rfl ?_
        try simp only [xa_set, List.set_cons_zero, List.set_cons_succ, List.getElem?_cons_zero, List.getElem?_cons_succ]
        refine ih (k + 1) t3 (by rw [← hs]; omega) f3 ?_
        rw [ih_fw, if_neg (show ¬ k = pl by omega)]
        exact r3
      · refine ih_seg (i1 := 14) 1 rfl ?_
        refine ih_getR rfl (by first | rfl | exact ih_fC3 (by assumption)) ?_
        refine ih_seg (i1 := 17) 2 rfl ?_
        refine ih_cald rfl rfl (by omega) (by show _ < (7 : Int); omega) (by omega) (ih_ckd_get hch) ?_
        refine ih_seg (i1 := 20) 2 rfl ?_
        refine ih_cald rfl rfl (by omega) (by show _ < (7 : Int); omega) (by omega) (ih_clt_get hch) ?_
        refine ih_iv2 28 rfl rfl (by first | rfl | exact ih_kP (ih_P_w0 hc) |  exact ih_kP (by assumption) | exact ih_kC (by assumption) | exact ih_kN (by assumption) | exact ih_kS (by assumption) | exact ih_kW (by assumption)) (Nat.le_of_ble_eq_true rfl) (Nat.le_of_ble_eq_true rfl) rfl ?_
        have rg := ih_ckl_rg (i := ch) (by omega) (by omega)
        refine c_take hc rg.1 rg.2 (ih_ok_fw _ _ _ _ _ _ _ _) hr (fun t2 hf2 hr2 => ?_)
        refine c_mw2 hc G hv hch hpl (ih_fr_t hf hf2) (ih_ok_tk (ih_ok_fw _ _ _ _ _ _ _ _)) hr2 (by rw [← hs]; omega) (fun t3 f3 r3 => ?_)
        refine ih_seg (i1 := 5) 2 rfl ?_
        try simp only [xa_set, List.set_cons_zero, List.set_cons_succ, List.getElem?_cons_zero, List.getElem?_cons_succ]
        refine ih (k + 1) t3 (by rw [← hs]; omega) f3 ?_
        rw [ih_fw, if_pos (show k = pl by omega)]
        exact r3


theorem c_mWith {X : List Int} {t : ih_S} {Q : Option xa_V → ih_S → Prop} {c v pl ch : Nat} (hc : c < 4) (G : ih_PG t c) (hv : v < 65536) (hch : ch < 7) (hpl : pl < 13) (K : ∀ t1, ih_fr c t t1 → Q (some (xI (ih_val (ih_fw (fun k => t (8 + 5 * c) k) (fun k => t (9 + 5 * c) k) v.testBit (t (7 + 5 * c) 4).toNat pl (ih_ckd ch) (ih_clt ch) ((t (7 + 5 * c) 4).toNat + 1))))) t1) : ih_Wp X 12 0 [xR (91 + 3 * c), xI v, xI pl, xI ch, xC 1] [] t Q := by
  have g1 := G.sz
  refine ih_seg (i1 := 1) 1 rfl ?_
  refine ih_getR rfl (by first | rfl | exact ih_fC3 (by assumption)) ?_
  refine ih_iv0 27 rfl rfl (by first | rfl | exact ih_kP (ih_P_w0 hc) |  exact ih_kP (by assumption) | exact ih_kC (by assumption) | exact ih_kN (by assumption) | exact ih_kS (by assumption) | exact ih_kW (by assumption)) (Nat.le_of_ble_eq_true rfl) (Nat.le_of_ble_eq_true rfl) rfl ?_
  refine c_begin hc (fun t1 hf hr => ?_)
  refine ih_seg (i1 := 5) 2 rfl ?_
  try simp only [xa_set, List.set_cons_zero, List.set_cons_succ, List.getElem?_cons_zero, List.getElem?_cons_succ]
  exact c_mWith_l hc G hv hch hpl K ((t (7 + 5 * c) 4).toNat + 1) 0 t1 (by omega) hf hr


theorem c_mWithW {X : List Int} {t : ih_S} {Q : Option xa_V → ih_S → Prop} {s : Int → Int} {c pl ch : Nat} (hc : c < 4) (hch : ch < 7) (hpl : pl < 13) (W : ih_Wr t 1 s) (G : ih_Gd s) (K : ∀ t1, ih_fr c t t1 → Q (some (xI (ih_fM s c pl (ih_ckd ch) (ih_clt ch)))) t1) : ih_Wp X 12 0 [xR (91 + 3 * c), xI (ih_set (ih_rs s c (s 0)) (s (22 + c)).toNat : Nat), xI pl, xI ch, xC 1] [] t Q := by
  have P := ih_PG_W W G hc
  have z := P.sz
  have ez := ih_W_sz W hc
  refine c_mWith hc P (ih_set_lt12 _ (by omega)) hch hpl (fun t1 h1 => ?_)
  have e : ih_val (ih_fw (fun k => t (8 + 5 * c) k) (fun k => t (9 + 5 * c) k) (ih_set (ih_rs s c (s 0)) (s (22 + c)).toNat).testBit (t (7 + 5 * c) 4).toNat pl (ih_ckd ch) (ih_clt ch) ((t (7 + 5 * c) 4).toNat + 1)) = ih_fM s c pl (ih_ckd ch) (ih_clt ch) := by
    unfold ih_fM
    rw [ez]
    refine congrArg ih_val (ih_fw_congr (fun k hk => ⟨ih_W_kd W hc (by omega), ih_W_lt W hc (by omega), ?_⟩) _)
    rw [ih_set_bit]
    simp [hk]
  rw [e]
  exact K t1 h1

theorem r_fb2 {X : List Int} {t : ih_S} {Q : Option xa_V → ih_S → Prop} {p pl : Nat} {k1 l1 : Int} (hp : p < 4) (G : ih_RG (t 112) p) (hn : 0 ≤ t 112 0 ∧ t 112 0 < 10000) (hk1 : 0 ≤ k1 ∧ k1 < 7) (hl1 : 0 ≤ l1 ∧ l1 < 4) (hpl : pl < 13) {t1 : ih_S} {k : Nat} {e : ih_Se} (hf : ih_rf t t1) (ho : ih_ok e) (hr : ih_RS t1 e) (hk : (k : Int) ≤ t 112 (22 + p)) (K : ∀ t2, ih_rf t t2 → ih_RS t2 (if k < (t 112 (22 + p)).toNat ∧ ih_rs (t 112) p (t 112 0) k = true then ih_tk (t 112 (26 + 48 * p + 4 * k)) (t 112 (26 + 48 * p + 4 * k + 1)) e else e) → ih_Wp X 172 52 [xR 111, xI p, xI pl, xI k1, xI l1, xI k] [] t2 Q) : ih_Wp X 172 19 [xR 111, xI p, xI pl, xI k1, xI l1, xI k] [] t1 Q := by
  have g1 := G.sz
  have es := ih_rf_s hf
  have G1 : ih_RG (t1 112) p := by rw [es]; exact G
  rw [← es] at hk g1 hn
  refine ih_seg (i1 := 21) 2 rfl ?_
  refine ih_getR rfl rfl ?_
  refine ih_seg (i1 := 25) 3 rfl ?_
  try dsimp only
  refine ih_iald rfl (by first | rfl | exact ih_lP1 (ih_P_w0 hc) | exact ih_lP2 (ih_P_w0 hc) | exact ih_lP3 (ih_P_w0 hc) | exact ih_lP4 (ih_P_w0 hc) |  exact ih_lP1 (by assumption) | exact ih_lP2 (by assumption) | exact ih_lP3 (by assumption) | exact ih_lP4 (by assumption) | exact ih_lC1 (by assumption) | exact ih_lS1 (by assumption) | exact ih_lW1 (by assumption) | exact ih_lW2 (by assumption) | exact ih_lW4 (by assumption) | exact ih_lW5 (by assumption)) (by omega) (by omega) (k := ?_)
  refine ih_icmp_ge rfl (by omega) (by omega) (fun w1 => ?_) (fun w1 => ?_)
  · refine K t1 hf ?_
    rw [if_neg (by rw [← es]; omega)]
    exact hr
  · have g2 := G1.kd k (by omega)
    have g3 := G1.lt k (by omega)
    refine ih_seg (i1 := 31) 4 rfl ?_
    refine ih_getR rfl rfl ?_
    refine ih_seg (i1 := 33) 1 rfl ?_
    refine ih_iald rfl (by first | rfl | exact ih_lP1 (ih_P_w0 hc) | exact ih_lP2 (ih_P_w0 hc) | exact ih_lP3 (ih_P_w0 hc) | exact ih_lP4 (ih_P_w0 hc) |  exact ih_lP1 (by assumption) | exact ih_lP2 (by assumption) | exact ih_lP3 (by assumption) | exact ih_lP4 (by assumption) | exact ih_lC1 (by assumption) | exact ih_lS1 (by assumption) | exact ih_lW1 (by assumption) | exact ih_lW2 (by assumption) | exact ih_lW4 (by assumption) | exact ih_lW5 (by assumption)) (by omega) (by omega) (k := ?_)
    refine ih_iv3 148 rfl rfl (by first | rfl | exact ih_kP (ih_P_w0 hc) |  exact ih_kP (by assumption) | exact ih_kC (by assumption) | exact ih_kN (by assumption) | exact ih_kS (by assumption) | exact ih_kW (by assumption)) (Nat.le_of_ble_eq_true rfl) (Nat.le_of_ble_eq_true rfl) rfl ?_
    refine r_isSeen hp G1 (by omega) (by omega) (fun q => ?_) (fun q => ?_)
    · refine ih_seg (i1 := 38) 3 rfl ?_
      refine ih_getR rfl rfl ?_
      refine ih_seg (i1 := 41) 2 rfl ?_
      refine ih_is2 132 rfl rfl (Nat.le_of_ble_eq_true rfl) (Nat.le_of_ble_eq_true rfl) rfl ?_
      refine r_at ?_
      refine ih_iald rfl (by first | rfl | exact ih_lP1 (ih_P_w0 hc) | exact ih_lP2 (ih_P_w0 hc) | exact ih_lP3 (ih_P_w0 hc) | exact ih_lP4 (ih_P_w0 hc) |  exact ih_lP1 (by assumption) | exact ih_lP2 (by assumption) | exact ih_lP3 (by assumption) | exact ih_lP4 (by assumption) | exact ih_lC1 (by assumption) | exact ih_lS1 (by assumption) | exact ih_lW1 (by assumption) | exact ih_lW2 (by assumption) | exact ih_lW4 (by assumption) | exact ih_lW5 (by assumption)) (by omega) (by omega) (k := ?_)
      refine ih_seg (i1 := 44) 1 rfl ?_
      refine ih_getR rfl rfl ?_
      refine ih_seg (i1 := 47) 2 rfl ?_
      refine ih_is2 132 rfl rfl (Nat.le_of_ble_eq_true rfl) (Nat.le_of_ble_eq_true rfl) rfl ?_
      refine r_at ?_
      refine ih_seg (i1 := 50) 2 rfl ?_
      try dsimp only
      refine ih_iald rfl (by first | rfl | exact ih_lP1 (ih_P_w0 hc) | exact ih_lP2 (ih_P_w0 hc) | exact ih_lP3 (ih_P_w0 hc) | exact ih_lP4 (ih_P_w0 hc) |  exact ih_lP1 (by assumption) | exact ih_lP2 (by assumption) | exact ih_lP3 (by assumption) | exact ih_lP4 (by assumption) | exact ih_lC1 (by assumption) | exact ih_lS1 (by assumption) | exact ih_lW1 (by assumption) | exact ih_lW2 (by assumption) | exact ih_lW4 (by assumption) | exact ih_lW5 (by assumption)) (by omega) (by omega) (k := ?_)
      refine ih_iv2 155 rfl rfl (by first | rfl | exact ih_kP (ih_P_w0 hc) |  exact ih_kP (by assumption) | exact ih_kC (by assumption) | exact ih_kN (by assumption) | exact ih_kS (by assumption) | exact ih_kW (by assumption)) (Nat.le_of_ble_eq_true rfl) (Nat.le_of_ble_eq_true rfl) rfl ?_
      refine r_reads (by omega) (by omega) ho hr (fun t2 hf2 hr2 => ?_)
      refine K t2 (ih_rf_t hf hf2) ?_
      rw [es] at q hr2
      rw [if_pos ⟨by rw [← es]; omega, q⟩]
      exact hr2
    · refine ih_seg (i1 := 52) 1 rfl ?_
      refine K t1 hf ?_
      rw [es] at q
      rw [if_neg (fun k => by rw [q] at k; exact absurd k.2 (by decide))]
      exact hr


theorem r_forgedBy_l {X : List Int} {t : ih_S} {Q : Option xa_V → ih_S → Prop} {p pl : Nat} {k1 l1 : Int} (hp : p < 4) (G : ih_RG (t 112) p) (hn : 0 ≤ t 112 0 ∧ t 112 0 < 10000) (hk1 : 0 ≤ k1 ∧ k1 < 7) (hl1 : 0 ≤ l1 ∧ l1 < 4) (hpl : pl < 13) (K : ∀ t1, ih_rf t t1 → Q (some (xI (ih_fM (t 112) p pl k1 l1))) t1) : ∀ (d : Nat) (k : Nat) (t1 : ih_S) (hd : (k : Int) + d = t 112 (22 + p) + 1) (hf : ih_rf t t1) (hr : ih_RS t1 (ih_fw (fun k => t 112 (26 + 48 * p + 4 * k)) (fun k => t 112 (26 + 48 * p + 4 * k + 1)) (ih_rs (t 112) p (t 112 0)) (t 112 (22 + p)).toNat pl k1 l1 k)), ih_Wp X 172 4 [xR 111, xI p, xI pl, xI k1, xI l1, xI k] [] t1 Q := by
  intro d
  induction d with
  | zero =>
    intro k t1 hd hf hr
    have g1 := G.sz
    have es := ih_rf_s hf
    rw [← es] at hd g1
    refine ih_seg (i1 := 6) 2 rfl ?_
    refine ih_getR rfl rfl ?_
    refine ih_seg (i1 := 10) 3 rfl ?_
    try dsimp only
    refine ih_iald rfl (by first | rfl | exact ih_lP1 (ih_P_w0 hc) | exact ih_lP2 (ih_P_w0 hc) | exact ih_lP3 (ih_P_w0 hc) | exact ih_lP4 (ih_P_w0 hc) |  exact ih_lP1 (by assumption) | exact ih_lP2 (by assumption) | exact ih_lP3 (by assumption) | exact ih_lP4 (by assumption) | exact ih_lC1 (by assumption) | exact ih_lS1 (by assumption) | exact ih_lW1 (by assumption) | exact ih_lW2 (by assumption) | exact ih_lW4 (by assumption) | exact ih_lW5 (by assumption)) (by omega) (by omega) (k := ?_)
    refine ih_icmp_gt rfl (by omega) (by omega) (fun w1 => ?_) (fun w1 => ?_)
    · refine ih_seg (i1 := 55) 1 rfl ?_
      refine ih_iv0 156 rfl rfl (by first | rfl | exact ih_kP (ih_P_w0 hc) |  exact ih_kP (by assumption) | exact ih_kC (by assumption) | exact ih_kN (by assumption) | exact ih_kS (by assumption) | exact ih_kW (by assumption)) (Nat.le_of_ble_eq_true rfl) (Nat.le_of_ble_eq_true rfl) rfl ?_
      refine r_meaning (ih_ok_fw _ _ _ _ _ _ _ _) hr ?_
      refine ih_ret rfl rfl ?_
      have := K t1 hf
      unfold ih_fM at this
      rw [show (t 112 (22 + p)).toNat + 1 = k by rw [← es]; omega] at this
      exact this
    · exfalso
      omega

  | succ d ih =>
    intro k t1 hd hf hr
    have g1 := G.sz
    have es := ih_rf_s hf
    rw [← es] at hd g1
    refine ih_seg (i1 := 6) 2 rfl ?_
    refine ih_getR rfl rfl ?_
    refine ih_seg (i1 := 10) 3 rfl ?_
    try dsimp only
    refine ih_iald rfl (by first | rfl | exact ih_lP1 (ih_P_w0 hc) | exact ih_lP2 (ih_P_w0 hc) | exact ih_lP3 (ih_P_w0 hc) | exact ih_lP4 (ih_P_w0 hc) |  exact ih_lP1 (by assumption) | exact ih_lP2 (by assumption) | exact ih_lP3 (by assumption) | exact ih_lP4 (by assumption) | exact ih_lC1 (by assumption) | exact ih_lS1 (by assumption) | exact ih_lW1 (by assumption) | exact ih_lW2 (by assumption) | exact ih_lW4 (by assumption) | exact ih_lW5 (by assumption)) (by omega) (by omega) (k := ?_)
    refine ih_icmp_gt rfl (by omega) (by omega) (fun w1 => ?_) (fun w1 => ?_)
    · refine ih_seg (i1 := 55) 1 rfl ?_
      refine ih_iv0 156 rfl rfl (by first | rfl | exact ih_kP (ih_P_w0 hc) |  exact ih_kP (by assumption) | exact ih_kC (by assumption) | exact ih_kN (by assumption) | exact ih_kS (by assumption) | exact ih_kW (by assumption)) (Nat.le_of_ble_eq_true rfl) (Nat.le_of_ble_eq_true rfl) rfl ?_
      exfalso
      omega
    · refine ih_seg (i1 := 14) 2 rfl ?_
      refine ih_icmp_ne rfl (by omega) (by omega) (fun w2 => ?_) (fun w2 => ?_)
      · refine r_fb2 hp G hn hk1 hl1 hpl hf (ih_ok_fw _ _ _ _ _ _ _ _) hr (by rw [← es]; omega) (fun t3 f3 r3 => ?_)
        refine ih_seg (i1 := 4) 2 rfl ?_
        try simp only [xa_set, List.set_cons_zero, List.set_cons_succ, List.getElem?_cons_zero, List.getElem?_cons_succ]
        refine ih (k + 1) t3 (by rw [← es]; omega) f3 ?_
        rw [ih_fw, if_neg (show ¬ k = pl by omega)]
        exact r3
      · refine ih_seg (i1 := 18) 3 rfl ?_
        refine ih_iv2 155 rfl rfl (by first | rfl | exact ih_kP (ih_P_w0 hc) |  exact ih_kP (by assumption) | exact ih_kC (by assumption) | exact ih_kN (by assumption) | exact ih_kS (by assumption) | exact ih_kW (by assumption)) (Nat.le_of_ble_eq_true rfl) (Nat.le_of_ble_eq_true rfl) rfl ?_
        refine r_reads (by omega) (by omega) (ih_ok_fw _ _ _ _ _ _ _ _) hr (fun t2 hf2 hr2 => ?_)
        refine r_fb2 hp G hn hk1 hl1 hpl (ih_rf_t hf hf2) (ih_ok_tk (ih_ok_fw _ _ _ _ _ _ _ _)) hr2 (by rw [← es]; omega) (fun t3 f3 r3 => ?_)
        refine ih_seg (i1 := 4) 2 rfl ?_
        try simp only [xa_set, List.set_cons_zero, List.set_cons_succ, List.getElem?_cons_zero, List.getElem?_cons_succ]
        refine ih (k + 1) t3 (by rw [← es]; omega) f3 ?_
        rw [ih_fw, if_pos (show k = pl by omega)]
        exact r3


theorem r_forgedBy {X : List Int} {t : ih_S} {Q : Option xa_V → ih_S → Prop} {p pl : Nat} {k1 l1 : Int} (hp : p < 4) (G : ih_RG (t 112) p) (hn : 0 ≤ t 112 0 ∧ t 112 0 < 10000) (hk1 : 0 ≤ k1 ∧ k1 < 7) (hl1 : 0 ≤ l1 ∧ l1 < 4) (hpl : pl < 13) {t1 : ih_S} (hf : ih_rf t t1) (K : ∀ t1, ih_rf t t1 → Q (some (xI (ih_fM (t 112) p pl k1 l1))) t1) : ih_Wp X 172 0 [xR 111, xI p, xI pl, xI k1, xI l1, xC 1] [] t1 Q := by
  have g1 := G.sz
  refine ih_seg (i1 := 1) 1 rfl ?_
  refine ih_iv0 154 rfl rfl (by first | rfl | exact ih_kP (ih_P_w0 hc) |  exact ih_kP (by assumption) | exact ih_kC (by assumption) | exact ih_kN (by assumption) | exact ih_kS (by assumption) | exact ih_kW (by assumption)) (Nat.le_of_ble_eq_true rfl) (Nat.le_of_ble_eq_true rfl) rfl ?_
  refine r_begins (fun t2 hf2 hr => ?_)
  refine ih_seg (i1 := 4) 2 rfl ?_
  try simp only [xa_set, List.set_cons_zero, List.set_cons_succ, List.getElem?_cons_zero, List.getElem?_cons_succ]
  exact r_forgedBy_l hp G hn hk1 hl1 hpl K ((t 112 (22 + p)).toNat + 1) 0 t2 (by omega) (ih_rf_t hf hf2) hr


def ih_fo (s : Int → Int) (p : Nat) (m i : Int) : Int := ih_fst (fun i => decide (ih_fI s p i = m)) i (7 * (s (22 + p) + 1) - i).toNat
def ih_fa (i : Int) : Int := 100 * (i / 7) + 10 * ih_ckd (i % 7) + ih_clt (i % 7)
def f_forge (s : Int → Int) (a m : Int) : ih_An := if (0 ≤ a ∧ a < 4) ∧ 0 ≤ m ∧ m < 65536 then (if ih_fo s a.toNat m 0 < 7 * (s (22 + a.toNat) + 1) then ih_ok1 (ih_fa (ih_fo s a.toNat m 0)) else ih_no 3) else ih_no 0
def ih_fr1 (s : Int → Int) (p : Nat) (m i : Int) : ih_An := if ih_fo s p m i < 7 * (s (22 + p) + 1) then ih_ok1 (ih_fa (ih_fo s p m i)) else ih_no 3
theorem ih_fr1_y {s : Int → Int} {p : Nat} {m i : Int} (h : i < 7 * (s (22 + p) + 1)) (q : ih_fI s p i = m) : ih_fr1 s p m i = ih_ok1 (ih_fa i) := by
  have e : ih_fo s p m i = i := by
    unfold ih_fo
    rw [show (7 * (s (22 + p) + 1) - i).toNat = (7 * (s (22 + p) + 1) - i - 1).toNat + 1 by omega]
    exact ih_fst_y (f := fun i => decide (ih_fI s p i = m)) (by rw [decide_eq_true_eq]; exact q)
  unfold ih_fr1
  rw [e, if_pos h]
theorem ih_fr1_n {s : Int → Int} {p : Nat} {m i : Int} (h : i < 7 * (s (22 + p) + 1)) (q : ih_fI s p i ≠ m) : ih_fr1 s p m i = ih_fr1 s p m (i + 1) := by
  have e : ih_fo s p m i = ih_fo s p m (i + 1) := by
    unfold ih_fo
    rw [show (7 * (s (22 + p) + 1) - i).toNat = (7 * (s (22 + p) + 1) - (i + 1)).toNat + 1 by omega]
    exact ih_fst_n (f := fun i => decide (ih_fI s p i = m)) (by rw [decide_eq_false_iff_not]; exact q)
  unfold ih_fr1
  rw [e]
theorem ih_fr1_e {s : Int → Int} {p : Nat} {m i : Int} (h : i = 7 * (s (22 + p) + 1)) : ih_fr1 s p m i = ih_no 3 := by
  have e : ih_fo s p m i = i := by
    unfold ih_fo
    rw [show (7 * (s (22 + p) + 1) - i).toNat = 0 by omega]
    rfl
  unfold ih_fr1
  rw [e, if_neg (by omega)]

theorem c_forge_l {X : List Int} {t : ih_S} {Q : Option xa_V → ih_S → Prop} {s : Int → Int} {c : Nat} {m : Int} (hc : c < 4) (hm : 0 ≤ m ∧ m < 65536) (G : ih_Gd s) (W0 : ih_Wr t 1 s)  : ∀ (d : Nat) (pl ch : Nat) (t1 : ih_S) (hd : 8 * pl + ch + d = 8 * (s (22 + c)).toNat + 8) (hpl : (pl : Int) ≤ s (22 + c)) (hch : ch ≤ 7) (hf : ih_sc t t1) (K : ih_roC t (ih_fr1 s c m (7 * pl + ch)) Q), ih_Wp X 82 34 [xR 0, xI c, xI m, xR (91 + 3 * c), xI (ih_set (ih_rs s c (s 0)) (s (22 + c)).toNat : Nat), xI pl, xI ch] [] t1 Q := by
  intro d
  induction d with
  | zero =>
    intro pl ch t1 hd hpl hch hf K
    have z := (G.pap c hc).sz
    exfalso
    omega

  | succ d ih =>
    intro pl ch t1 hd hpl hch hf K
    have W := ih_W_sc W0 hf
    have P := ih_PG_W W G hc
    have z := P.sz
    have ez := ih_W_sz W hc
    refine ih_seg (i1 := 36) 2 rfl ?_
    refine ih_icmp_ge rfl (by omega) (by omega) (fun w1 => ?_) (fun w1 => ?_)
    · refine ih_seg (i1 := 26) 4 rfl ?_
      try simp only [xa_set, List.set_cons_zero, List.set_cons_succ, List.getElem?_cons_zero, List.getElem?_cons_succ]
      refine ih_getR rfl rfl ?_
      refine ih_getR rfl (by first | rfl | exact ih_fW2 (by assumption)) ?_
      refine ih_seg (i1 := 29) 1 rfl ?_
      refine ih_aald rfl (ih_eP hc) ?_
      refine ih_getI rfl (by first | rfl | exact ih_fP4 (ih_P_w0 hc) | exact ih_fP4 (by assumption)) ?_
      refine ih_icmp_gt rfl (by omega) (by omega) (fun w2 => ?_) (fun w2 => ?_)
      · refine ih_seg (i1 := 64) 2 rfl ?_
        refine ih_iv1 102 rfl rfl (by first | rfl | exact ih_kP (ih_P_w0 hc) |  exact ih_kP (by assumption) | exact ih_kC (by assumption) | exact ih_kN (by assumption) | exact ih_kS (by assumption) | exact ih_kW (by assumption)) (Nat.le_of_ble_eq_true rfl) (Nat.le_of_ble_eq_true rfl) rfl ?_
        refine c_finding (by omega) ?_
        refine ih_ret rfl rfl ?_
        first
          | (refine ih_roC_ok K ?_ (ih_sc_t hf (ih_sc_f hc h2))
             rw [ih_fr1_y (by omega) (by rw [ei]; omega)]
             unfold ih_fa
             rw [show (7 * (pl : Int) + ch) / 7 = pl by omega, show (7 * (pl : Int) + ch) % 7 = ch by omega])
          | exact ih_roC_no K (ih_fr1_e (by omega)) hf
          | (exfalso
             omega)
      · refine ih_seg (i1 := 34) 2 rfl ?_
        try simp only [xa_set, List.set_cons_zero, List.set_cons_succ, List.getElem?_cons_zero, List.getElem?_cons_succ]
        refine ih (pl + 1) 0 _ (by omega) (by omega) (by omega) hf ?_
        rw [show 7 * (pl : Int) + ch = 7 * ((pl + 1 : Nat) : Int) + (0 : Nat) by omega] at K
        exact K
    · refine ih_seg (i1 := 41) 4 rfl ?_
      refine ih_iv3 12 rfl rfl (by first | rfl | exact ih_kP (ih_P_w0 hc) |  exact ih_kP (by assumption) | exact ih_kC (by assumption) | exact ih_kN (by assumption) | exact ih_kS (by assumption) | exact ih_kW (by assumption)) (Nat.le_of_ble_eq_true rfl) (Nat.le_of_ble_eq_true rfl) rfl ?_
      have mr := ih_fM_rg s c pl (ih_ckd ch) (ih_clt ch)
      have ei := ih_fI_at s c pl ch (by omega)
      refine c_mWithW hc (by omega) (by omega) W G (fun t2 h2 => ?_)
      refine ih_seg (i1 := 43) 1 rfl ?_
      refine ih_icmp_ne rfl (by omega) (by omega) (fun w3 => ?_) (fun w3 => ?_)
      · refine ih_seg (i1 := 34) 2 rfl ?_
        try simp only [xa_set, List.set_cons_zero, List.set_cons_succ, List.getElem?_cons_zero, List.getElem?_cons_succ]
        first
          | (rw [ih_fr1_n (by omega) (by rw [ei]; omega)] at K
             exact ih pl (ch + 1) _ (by omega) (by omega) (by omega) (ih_sc_t hf (ih_sc_f hc h2)) K)
          | (exfalso
             omega)
      · refine ih_seg (i1 := 50) 6 rfl ?_
        try dsimp only
        have hch : ch < 7 := by omega
        refine ih_cald rfl rfl (by omega) (by show _ < (7 : Int); omega) (by omega) (ih_ckd_get hch) ?_
        refine ih_seg (i1 := 55) 4 rfl ?_
        try dsimp only
        refine ih_cald rfl rfl (by omega) (by show _ < (7 : Int); omega) (by omega) (ih_clt_get hch) ?_
        refine ih_seg (i1 := 57) 1 rfl ?_
        try dsimp only
        refine ih_ret rfl rfl ?_
        first
          | (refine ih_roC_ok K ?_ (ih_sc_t hf (ih_sc_f hc h2))
             rw [ih_fr1_y (by omega) (by rw [ei]; omega)]
             unfold ih_fa
             rw [show (7 * (pl : Int) + ch) / 7 = pl by omega, show (7 * (pl : Int) + ch) % 7 = ch by omega])
          | exact ih_roC_no K (ih_fr1_e (by omega)) hf
          | (exfalso
             omega)


theorem c_op_forge {X : List Int} {t : ih_S} {Q : Option xa_V → ih_S → Prop} {s : Int → Int} {a m : Int} (ha : xa_rI a) (hm : xa_rI m) (W : ih_Wr t 1 s) (G : ih_Gd s) (K : ih_roC t (f_forge s a m) Q) : ih_Wp X 82 0 [xR 0, xI a, xI m, xC 1, xC 1, xC 1, xC 1] [] t Q := by
  refine ih_seg (i1 := 1) 1 rfl ?_
  refine ih_is1 106 rfl rfl (Nat.le_of_ble_eq_true rfl) (Nat.le_of_ble_eq_true rfl) rfl ?_
  refine c_isPaper (by omega) (fun w1 => ?_) (fun w2 => ?_)
  · refine ih_seg (i1 := 6) 4 rfl ?_
    refine ih_is3 103 rfl rfl (Nat.le_of_ble_eq_true rfl) (Nat.le_of_ble_eq_true rfl) rfl ?_
    refine c_within (by omega) (by omega) (by omega) (fun w3 => ?_) (fun w4 => ?_)
    · refine ih_seg (i1 := 14) 3 rfl ?_
      refine ih_iv1 116 rfl rfl (by first | rfl | exact ih_kP (ih_P_w0 hc) |  exact ih_kP (by assumption) | exact ih_kC (by assumption) | exact ih_kN (by assumption) | exact ih_kS (by assumption) | exact ih_kW (by assumption)) (Nat.le_of_ble_eq_true rfl) (Nat.le_of_ble_eq_true rfl) rfl ?_
      obtain ⟨c, rfl⟩ := Int.eq_ofNat_of_zero_le (show 0 ≤ a by omega)
      have hc : c < 4 := by omega
      have P := ih_PG_W W G hc
      have gn := G.now
      refine c_reckoned hc P (fun t1 hf he => ?_)
      have E1 := ih_EG_en hc P hf he
      have P1 := P.of hc (fun j hj => hf j (by omega))
      have nw : t1 1 5 = s 0 := (congrFun (hf 1 (by omega)) 5).trans W.now
      refine ih_seg (i1 := 18) 3 rfl ?_
      try simp only [xa_set, List.set_cons_zero, List.set_cons_succ, List.getElem?_cons_zero, List.getElem?_cons_succ]
      refine ih_getR rfl rfl ?_
      refine ih_getI rfl (by first | rfl | exact ih_fW5 (by assumption)) ?_
      refine ih_iv1 10 rfl rfl (by first | rfl | exact ih_kP (ih_P_w0 hc) |  exact ih_kP (by assumption) | exact ih_kC (by assumption) | exact ih_kN (by assumption) | exact ih_kS (by assumption) | exact ih_kW (by assumption)) (Nat.le_of_ble_eq_true rfl) (Nat.le_of_ble_eq_true rfl) rfl ?_
      rw [nw]
      refine c_seenAt hc P1 E1 (by omega) ?_
      have z := (G.pap c hc).sz
      have ez := ih_W_sz W hc
      have e : ih_set (ih_sf t1 c (s 0)) (t1 (7 + 5 * c) 4).toNat = ih_set (ih_rs s c (s 0)) (s (22 + c)).toNat := by
        rw [hf (7 + 5 * c) (by omega), ez]
        exact ih_set_congr (fun j hj => (ih_sf_cs hc P hf he (by omega) (by rw [ez]; omega)).trans (ih_cs_rs W G hc (by omega)))
      rw [e]
      have ez1 : t1 (7 + 5 * c) 4 = s (22 + c) := by rw [hf (7 + 5 * c) (by omega), ez]
      refine ih_seg (i1 := 26) 5 rfl ?_
      try simp only [xa_set, List.set_cons_zero, List.set_cons_succ, List.getElem?_cons_zero, List.getElem?_cons_succ]
      refine ih_getR rfl rfl ?_
      refine ih_getR rfl (by first | rfl | exact ih_fW2 (by assumption)) ?_
      refine ih_seg (i1 := 29) 1 rfl ?_
      refine ih_aald rfl (ih_eP hc) ?_
      refine ih_getI rfl (by first | rfl | exact ih_fP4 (ih_P_w0 hc) | exact ih_fP4 (by assumption)) ?_
      refine ih_icmp_gt rfl (by omega) (by omega) (fun w5 => ?_) (fun w5 => ?_)
      · refine ih_seg (i1 := 64) 2 rfl ?_
        refine ih_iv1 102 rfl rfl (by first | rfl | exact ih_kP (ih_P_w0 hc) |  exact ih_kP (by assumption) | exact ih_kC (by assumption) | exact ih_kN (by assumption) | exact ih_kS (by assumption) | exact ih_kW (by assumption)) (Nat.le_of_ble_eq_true rfl) (Nat.le_of_ble_eq_true rfl) rfl ?_
        refine c_finding (by omega) ?_
        refine ih_ret rfl rfl ?_
        first
          | exact ih_roC_no K (by rw [f_forge, if_neg (by omega)]) (ih_sc_r _)
          | (exfalso
             omega)
      · refine ih_seg (i1 := 34) 2 rfl ?_
        try simp only [xa_set, List.set_cons_zero, List.set_cons_succ, List.getElem?_cons_zero, List.getElem?_cons_succ]
        rw [f_forge, if_pos (by omega), Int.toNat_natCast] at K
        refine c_forge_l hc (by omega) G W (8 * (s (22 + c)).toNat + 8) 0 0 t1 (by omega) (by omega) (by omega) (ih_sc_e hc hf) ?_
        exact K
    · refine ih_seg (i1 := 10) 3 rfl ?_
      refine ih_iv1 102 rfl rfl (by first | rfl | exact ih_kP (ih_P_w0 hc) |  exact ih_kP (by assumption) | exact ih_kC (by assumption) | exact ih_kN (by assumption) | exact ih_kS (by assumption) | exact ih_kW (by assumption)) (Nat.le_of_ble_eq_true rfl) (Nat.le_of_ble_eq_true rfl) rfl ?_
      refine c_finding (by omega) ?_
      refine ih_ret rfl rfl ?_
      first
        | exact ih_roC_no K (by rw [f_forge, if_neg (by omega)]) (ih_sc_r _)
        | (exfalso
           omega)
  · refine ih_seg (i1 := 10) 3 rfl ?_
    refine ih_iv1 102 rfl rfl (by first | rfl | exact ih_kP (ih_P_w0 hc) |  exact ih_kP (by assumption) | exact ih_kC (by assumption) | exact ih_kN (by assumption) | exact ih_kS (by assumption) | exact ih_kW (by assumption)) (Nat.le_of_ble_eq_true rfl) (Nat.le_of_ble_eq_true rfl) rfl ?_
    refine c_finding (by omega) ?_
    refine ih_ret rfl rfl ?_
    first
      | exact ih_roC_no K (by rw [f_forge, if_neg (by omega)]) (ih_sc_r _)
      | (exfalso
         omega)


theorem r_isForging {X : List Int} {t : ih_S} {Q : Option xa_V → ih_S → Prop} {k1 l1 : Int} (hk1 : 0 ≤ k1 ∧ k1 < 7) (hl1 : 0 ≤ l1 ∧ l1 < 4) (kt : (k1 = 1 ∨ (l1 = 0 ∧ (k1 = 2 ∨ k1 = 3 ∨ k1 = 5))) → Q (some (xI 1)) t) (kf : ¬ (k1 = 1 ∨ (l1 = 0 ∧ (k1 = 2 ∨ k1 = 3 ∨ k1 = 5))) → Q (some (xI 0)) t) : ih_Wp X 173 0 [xI k1, xI l1] [] t Q := by
  refine ih_seg (i1 := 2) 2 rfl ?_
  refine ih_icmp_eq rfl (by omega) (by omega) (fun w1 => ?_) (fun w1 => ?_)
  · refine ih_seg (i1 := 17) 2 rfl ?_
    refine ih_ret rfl rfl ?_
    first | exact kt (by omega) | exact kf (by omega)
  · refine ih_seg (i1 := 4) 1 rfl ?_
    refine ih_ifc_ne rfl (by omega) (fun w2 => ?_) (fun w2 => ?_)
    · refine ih_seg (i1 := 17) 1 rfl ?_
      refine ih_ret rfl rfl ?_
      first | exact kt (by omega) | exact kf (by omega)
    · refine ih_seg (i1 := 7) 2 rfl ?_
      refine ih_icmp_eq rfl (by omega) (by omega) (fun w3 => ?_) (fun w3 => ?_)
      · refine ih_seg (i1 := 17) 2 rfl ?_
        refine ih_ret rfl rfl ?_
        first | exact kt (by omega) | exact kf (by omega)
      · refine ih_seg (i1 := 10) 2 rfl ?_
        refine ih_icmp_eq rfl (by omega) (by omega) (fun w4 => ?_) (fun w4 => ?_)
        · refine ih_seg (i1 := 17) 2 rfl ?_
          refine ih_ret rfl rfl ?_
          first | exact kt (by omega) | exact kf (by omega)
        · refine ih_seg (i1 := 13) 2 rfl ?_
          refine ih_icmp_ne rfl (by omega) (by omega) (fun w5 => ?_) (fun w5 => ?_)
          · refine ih_seg (i1 := 17) 1 rfl ?_
            refine ih_ret rfl rfl ?_
            first | exact kt (by omega) | exact kf (by omega)
          · refine ih_seg (i1 := 17) 2 rfl ?_
            refine ih_ret rfl rfl ?_
            first | exact kt (by omega) | exact kf (by omega)


def ih_nx (k l : Int) : Int := if k = 1 then l else if k = 2 then (if l = 0 then 4 else 5) else if k = 3 then (if l = 0 then 5 else 6) else if k = 4 then 6 else (if l = 0 then 6 else 7)
theorem ih_nx_rg {k l : Int} (hk : 1 ≤ k ∧ k < 6) (hl : 0 ≤ l ∧ l ≤ 4) : 0 ≤ ih_nx k l ∧ ih_nx k l ≤ 7 := by
  unfold ih_nx
  (repeat' split) <;> omega
theorem ih_nx_v {k l : Int} (hk : 1 ≤ k ∧ k < 6) (hl : 0 ≤ l ∧ l < 4) (h : k = 1 ∨ (l = 0 ∧ (k = 2 ∨ k = 3 ∨ k = 5))) : ih_nx k l < 7 ∧ ih_ckd (ih_nx k l) = k ∧ ih_clt (ih_nx k l) = l ∧ ih_nx k (l + 1) = ih_nx k l + 1 := by
  unfold ih_nx ih_ckd ih_clt
  (repeat' split) <;> omega
theorem ih_nx_w {k l : Int} (hk : 1 ≤ k ∧ k < 6) (hl : 0 ≤ l ∧ l < 4) (h : ¬ (k = 1 ∨ (l = 0 ∧ (k = 2 ∨ k = 3 ∨ k = 5)))) : ih_nx k (l + 1) = ih_nx k l := by
  unfold ih_nx
  (repeat' split) <;> omega
theorem ih_nx_k {k : Int} (hk : 1 ≤ k ∧ k < 5) : ih_nx k 4 = ih_nx (k + 1) 0 := by
  unfold ih_nx
  (repeat' split) <;> omega
theorem ih_nx_e : ih_nx 5 4 = 7 := by decide
theorem ih_nx_0 : ih_nx 1 0 = 0 := by decide

theorem r_forge_l {X : List Int} {t : ih_S} {Q : Option xa_V → ih_S → Prop} {p : Nat} {m : Int} (hp : p < 4) (hm : 0 ≤ m ∧ m < 65536) (G : ih_Gd (t 112))  : ∀ (d : Nat) (pl k l : Nat) (t1 : ih_S) (hd : 25 * pl + 5 * k + l + d = 25 * (t 112 (22 + p)).toNat + 30) (hpl : (pl : Int) ≤ t 112 (22 + p)) (hk : 1 ≤ k ∧ k < 6) (hl : l ≤ 4) (hf : ih_rf t t1) (K : ih_roR t (ih_fr1 (t 112) p m (7 * pl + ih_nx k l)) Q), ih_Wp X 175 30 [xR 111, xI p, xI m, xI pl, xI k, xI l] [] t1 Q := by
  intro d
  induction d with
  | zero =>
    intro pl k l t1 hd hpl hk hl hf K
    have z := (G.pap p hp).sz
    exfalso
    omega

  | succ d ih =>
    intro pl k l t1 hd hpl hk hl hf K
    have es := ih_rf_s hf
    have P := G.pap p hp
    have z := P.sz
    have gn := G.now
    have nr := ih_nx_rg (k := k) (l := l) (by omega) (by omega)
    rw [← es] at z
    rw [← es] at hpl
    refine ih_seg (i1 := 32) 2 rfl ?_
    refine ih_icmp_ge rfl (by omega) (by omega) (fun w1 => ?_) (fun w1 => ?_)
    · refine ih_seg (i1 := 25) 2 rfl ?_
      try simp only [xa_set, List.set_cons_zero, List.set_cons_succ, List.getElem?_cons_zero, List.getElem?_cons_succ]
      refine ih_seg (i1 := 27) 2 rfl ?_
      refine ih_icmp_ge rfl (by omega) (by omega) (fun w1 => ?_) (fun w1 => ?_)
      · refine ih_seg (i1 := 15) 2 rfl ?_
        try simp only [xa_set, List.set_cons_zero, List.set_cons_succ, List.getElem?_cons_zero, List.getElem?_cons_succ]
        refine ih_seg (i1 := 17) 2 rfl ?_
        refine ih_getR rfl rfl ?_
        refine ih_seg (i1 := 21) 3 rfl ?_
        try dsimp only
        refine ih_iald rfl (by first | rfl | exact ih_lP1 (ih_P_w0 hc) | exact ih_lP2 (ih_P_w0 hc) | exact ih_lP3 (ih_P_w0 hc) | exact ih_lP4 (ih_P_w0 hc) |  exact ih_lP1 (by assumption) | exact ih_lP2 (by assumption) | exact ih_lP3 (by assumption) | exact ih_lP4 (by assumption) | exact ih_lC1 (by assumption) | exact ih_lS1 (by assumption) | exact ih_lW1 (by assumption) | exact ih_lW2 (by assumption) | exact ih_lW4 (by assumption) | exact ih_lW5 (by assumption)) (by omega) (by omega) (k := ?_)
        refine ih_icmp_gt rfl (by omega) (by omega) (fun w1 => ?_) (fun w1 => ?_)
        · refine ih_seg (i1 := 63) 2 rfl ?_
          refine ih_iv1 127 rfl rfl (by first | rfl | exact ih_kP (ih_P_w0 hc) |  exact ih_kP (by assumption) | exact ih_kC (by assumption) | exact ih_kN (by assumption) | exact ih_kS (by assumption) | exact ih_kW (by assumption)) (Nat.le_of_ble_eq_true rfl) (Nat.le_of_ble_eq_true rfl) rfl ?_
          refine r_finds 3 rfl (by omega) ?_
          refine ih_ret rfl rfl ?_
          obtain rfl : l = 4 := by omega
          obtain rfl : k = 5 := by omega
          have e1 : ih_nx ((5 : Nat) : Int) ((4 : Nat) : Int) = 7 := ih_nx_e
          rw [e1] at K
          exact ih_roR_no 3 K (ih_fr1_e (by rw [← es]; omega)) rfl (ih_rr_f hf)
        · refine ih_seg (i1 := 25) 2 rfl ?_
          try simp only [xa_set, List.set_cons_zero, List.set_cons_succ, List.getElem?_cons_zero, List.getElem?_cons_succ]
          refine ih_seg (i1 := 27) 2 rfl ?_
          refine ih_icmp_ge rfl (by omega) (by omega) (fun w1 => ?_) (fun w1 => ?_)
          · exfalso
            omega
          · refine ih_seg (i1 := 30) 2 rfl ?_
            try simp only [xa_set, List.set_cons_zero, List.set_cons_succ, List.getElem?_cons_zero, List.getElem?_cons_succ]
            obtain rfl : l = 4 := by omega
            obtain rfl : k = 5 := by omega
            refine ih (pl + 1) 1 0 _ (by omega) (by rw [← es]; omega) (by omega) (by omega) hf ?_
            have e1 : 7 * (pl : Int) + ih_nx ((5 : Nat) : Int) ((4 : Nat) : Int) = 7 * ((pl + 1 : Nat) : Int) + ih_nx ((1 : Nat) : Int) ((0 : Nat) : Int) := by
              rw [show ih_nx ((5 : Nat) : Int) ((4 : Nat) : Int) = 7 from ih_nx_e, show ih_nx ((1 : Nat) : Int) ((0 : Nat) : Int) = 0 from ih_nx_0]
              omega
            rw [← e1]
            exact K
      · refine ih_seg (i1 := 30) 2 rfl ?_
        try simp only [xa_set, List.set_cons_zero, List.set_cons_succ, List.getElem?_cons_zero, List.getElem?_cons_succ]
        obtain rfl : l = 4 := by omega
        refine ih pl (k + 1) 0 _ (by omega) (by rw [← es]; omega) (by omega) (by omega) hf ?_
        have e1 : ih_nx (k : Int) ((4 : Nat) : Int) = ih_nx ((k + 1 : Nat) : Int) ((0 : Nat) : Int) := ih_nx_k (by omega)
        rw [← e1]
        exact K
    · refine ih_seg (i1 := 35) 2 rfl ?_
      refine ih_is2 173 rfl rfl (Nat.le_of_ble_eq_true rfl) (Nat.le_of_ble_eq_true rfl) rfl ?_
      refine r_isForging (by omega) (by omega) (fun hv => ?_) (fun hv => ?_)
      · refine ih_seg (i1 := 42) 6 rfl ?_
        refine ih_iv4 172 rfl rfl (by first | rfl | exact ih_kP (ih_P_w0 hc) |  exact ih_kP (by assumption) | exact ih_kC (by assumption) | exact ih_kN (by assumption) | exact ih_kS (by assumption) | exact ih_kW (by assumption)) (Nat.le_of_ble_eq_true rfl) (Nat.le_of_ble_eq_true rfl) rfl ?_
        have nv := ih_nx_v (k := k) (l := l) (by omega) (by omega) hv
        have mr := ih_fM_rg (t 112) p pl k l
        have ei : ih_fI (t 112) p (7 * pl + ih_nx k l) = ih_fM (t 112) p pl k l := by
          obtain ⟨ch, ech⟩ := Int.eq_ofNat_of_zero_le nr.1
          have := ih_fI_at (t 112) p pl ch (by omega)
          rw [← ech, nv.2.1, nv.2.2.1] at this
          exact this
        refine r_forgedBy hp P gn (by omega) (by omega) (by omega) hf (fun t2 h2 => ?_)
        refine ih_seg (i1 := 44) 1 rfl ?_
        refine ih_icmp_ne rfl (by omega) (by omega) (fun w2 => ?_) (fun w2 => ?_)
        · refine ih_seg (i1 := 30) 2 rfl ?_
          try simp only [xa_set, List.set_cons_zero, List.set_cons_succ, List.getElem?_cons_zero, List.getElem?_cons_succ]
          first
            | (rw [ih_fr1_n (by rw [← es]; omega) (by rw [ei]; omega)] at K
               refine ih pl k (l + 1) _ (by omega) (by rw [← es]; omega) (by omega) (by omega) h2 ?_
               rw [show ((l + 1 : Nat) : Int) = (l : Int) + 1 from rfl, nv.2.2.2]
               rw [show 7 * (pl : Int) + ih_nx k l + 1 = 7 * pl + (ih_nx k l + 1) by omega] at K
               exact K)
            | (refine ih pl k (l + 1) _ (by omega) (by rw [← es]; omega) (by omega) (by omega) hf ?_
               rw [show ((l + 1 : Nat) : Int) = (l : Int) + 1 from rfl, ih_nx_w (by omega) (by omega) hv]
               exact K)
            | (exfalso
               omega)
        · refine ih_seg (i1 := 54) 9 rfl ?_
          try dsimp only
          refine ih_ret rfl rfl ?_
          refine ih_roR_ok K ?_ (ih_rr_f h2)
          rw [ih_fr1_y (by rw [← es]; omega) (by rw [ei]; omega)]
          unfold ih_fa
          rw [show (7 * (pl : Int) + ih_nx k l) / 7 = pl by omega, show (7 * (pl : Int) + ih_nx k l) % 7 = ih_nx k l by omega, nv.2.1, nv.2.2.1]
      · refine ih_seg (i1 := 30) 3 rfl ?_
        try simp only [xa_set, List.set_cons_zero, List.set_cons_succ, List.getElem?_cons_zero, List.getElem?_cons_succ]
        first
          | (rw [ih_fr1_n (by rw [← es]; omega) (by rw [ei]; omega)] at K
             refine ih pl k (l + 1) _ (by omega) (by rw [← es]; omega) (by omega) (by omega) h2 ?_
             rw [show ((l + 1 : Nat) : Int) = (l : Int) + 1 from rfl, nv.2.2.2]
             rw [show 7 * (pl : Int) + ih_nx k l + 1 = 7 * pl + (ih_nx k l + 1) by omega] at K
             exact K)
          | (refine ih pl k (l + 1) _ (by omega) (by rw [← es]; omega) (by omega) (by omega) hf ?_
             rw [show ((l + 1 : Nat) : Int) = (l : Int) + 1 from rfl, ih_nx_w (by omega) (by omega) hv]
             exact K)
          | (exfalso
             omega)


theorem r_op_forge {X : List Int} {t : ih_S} {Q : Option xa_V → ih_S → Prop} {a m : Int} (ha : xa_rI a) (hm : xa_rI m) (G : ih_Gd (t 112)) (K : ih_roR t (f_forge (t 112) a m) Q) : ih_Wp X 175 0 [xR 111, xI a, xI m, xC 1, xC 1, xC 1] [] t Q := by
  refine ih_seg (i1 := 1) 1 rfl ?_
  refine ih_is1 128 rfl rfl (Nat.le_of_ble_eq_true rfl) (Nat.le_of_ble_eq_true rfl) rfl ?_
  refine r_isPaper (by omega) (fun w1 => ?_) (fun w2 => ?_)
  · refine ih_seg (i1 := 4) 2 rfl ?_
    refine ih_i2l rfl (by omega) ?_
    refine ih_seg (i1 := 7) 2 rfl ?_
    refine ih_is3 126 rfl rfl (Nat.le_of_ble_eq_true rfl) (Nat.le_of_ble_eq_true rfl) rfl ?_
    refine r_in (by omega) (by omega) (by omega) (fun w3 => ?_) (fun w4 => ?_)
    · refine ih_seg (i1 := 13) 1 rfl ?_
      obtain ⟨p, rfl⟩ := Int.eq_ofNat_of_zero_le (show 0 ≤ a by omega)
      have hp : p < 4 := by omega
      have z := (G.pap p hp).sz
      refine ih_seg (i1 := 15) 2 rfl ?_
      try simp only [xa_set, List.set_cons_zero, List.set_cons_succ, List.getElem?_cons_zero, List.getElem?_cons_succ]
      refine ih_seg (i1 := 17) 2 rfl ?_
      refine ih_getR rfl rfl ?_
      refine ih_seg (i1 := 21) 3 rfl ?_
      try dsimp only
      refine ih_iald rfl (by first | rfl | exact ih_lP1 (ih_P_w0 hc) | exact ih_lP2 (ih_P_w0 hc) | exact ih_lP3 (ih_P_w0 hc) | exact ih_lP4 (ih_P_w0 hc) |  exact ih_lP1 (by assumption) | exact ih_lP2 (by assumption) | exact ih_lP3 (by assumption) | exact ih_lP4 (by assumption) | exact ih_lC1 (by assumption) | exact ih_lS1 (by assumption) | exact ih_lW1 (by assumption) | exact ih_lW2 (by assumption) | exact ih_lW4 (by assumption) | exact ih_lW5 (by assumption)) (by omega) (by omega) (k := ?_)
      refine ih_icmp_gt rfl (by omega) (by omega) (fun w1 => ?_) (fun w1 => ?_)
      · exfalso
        omega
      · refine ih_seg (i1 := 25) 2 rfl ?_
        try simp only [xa_set, List.set_cons_zero, List.set_cons_succ, List.getElem?_cons_zero, List.getElem?_cons_succ]
        refine ih_seg (i1 := 27) 2 rfl ?_
        refine ih_icmp_ge rfl (by omega) (by omega) (fun w1 => ?_) (fun w1 => ?_)
        · exfalso
          omega
        · refine ih_seg (i1 := 30) 2 rfl ?_
          try simp only [xa_set, List.set_cons_zero, List.set_cons_succ, List.getElem?_cons_zero, List.getElem?_cons_succ]
          rw [f_forge, if_pos (by omega), Int.toNat_natCast] at K
          refine r_forge_l hp (by omega) G (25 * (t 112 (22 + p)).toNat + 25) 0 1 0 t (by omega) (by omega) (by omega) (by omega) (ih_rf_r t) ?_
          exact K
    · refine ih_seg (i1 := 11) 3 rfl ?_
      refine ih_iv1 127 rfl rfl (by first | rfl | exact ih_kP (ih_P_w0 hc) |  exact ih_kP (by assumption) | exact ih_kC (by assumption) | exact ih_kN (by assumption) | exact ih_kS (by assumption) | exact ih_kW (by assumption)) (Nat.le_of_ble_eq_true rfl) (Nat.le_of_ble_eq_true rfl) rfl ?_
      refine r_finds 0 rfl (by omega) ?_
      refine ih_ret rfl rfl ?_
      exact ih_roR_no 0 K (by rw [f_forge, if_neg (by omega)]) rfl (ih_rr_r _)
  · refine ih_seg (i1 := 11) 3 rfl ?_
    refine ih_iv1 127 rfl rfl (by first | rfl | exact ih_kP (ih_P_w0 hc) |  exact ih_kP (by assumption) | exact ih_kC (by assumption) | exact ih_kN (by assumption) | exact ih_kS (by assumption) | exact ih_kW (by assumption)) (Nat.le_of_ble_eq_true rfl) (Nat.le_of_ble_eq_true rfl) rfl ?_
    refine r_finds 0 rfl (by omega) ?_
    refine ih_ret rfl rfl ?_
    exact ih_roR_no 0 K (by rw [f_forge, if_neg (by omega)]) rfl (ih_rr_r _)

