/-! A paper's course -/
theorem c_take {X : List Int} {t : ih_S} {Q : Option xa_V → ih_S → Prop} {c : Nat} {kd l : Int} {e : ih_Se} (hc : c < 4) (hk : 0 ≤ kd ∧ kd < 7) (hl : 0 ≤ l ∧ l < 4) (ho : ih_ok e) (hr : ih_SR t (93 + 3 * c) e) (k : ∀ t1, (∀ j, j ≠ 93 + 3 * c → t1 j = t j) → ih_SR t1 (93 + 3 * c) (ih_tk kd l e) → Q none t1) : ih_Wp X 28 0 [xR (93 + 3 * c), xI kd, xI l, xC 1, xC 1] [] t Q := by
  match e, ho, hr, k with
  | none, ho, hr, k => exact c_take_n hc hk hl ho hr k
  | some (o, a, tu, wa), ho, hr, k => exact c_take_s hc hk hl ho hr k

theorem c_meaning {X : List Int} {t : ih_S} {Q : Option xa_V → ih_S → Prop} {c : Nat} {e : ih_Se} (hc : c < 4) (ho : ih_ok e) (hr : ih_SR t (93 + 3 * c) e) (k : Q (some (xI (ih_val e))) t) : ih_Wp X 29 0 [xR (93 + 3 * c)] [] t Q := by
  have g2 := hr.1
  have g3 := hr.2.1
  have g4 : t (93 + 3 * c) 4 = 0 ∨ t (93 + 3 * c) 4 = 1 := by
    match e, hr with
    | none, hr => exact Or.inr hr.2.2
    | some (o, a, tu, wa), hr => exact Or.inl hr.2.2.1
  refine ih_seg (i1 := 1) 1 rfl ?_
  refine ih_getI rfl (by first | rfl | exact ih_fN4 (by assumption)) ?_
  refine ih_ifc_ne rfl (by omega) (fun w1 => ?_) (fun w1 => ?_)
  · refine ih_seg (i1 := 13) 2 rfl ?_
    refine ih_ret rfl rfl ?_
    refine ih_Qe ?_ k
    match e, ho, hr with
    | none, ho, hr =>
      have g5 : t (93 + 3 * c) 4 = 1 := hr.2.2
      first | rfl | omega
    | some (o, a, tu, wa), ho, hr =>
      obtain ⟨h4, e0, e1, e2, e3⟩ : t (93 + 3 * c) 4 = 0 ∧ t (93 + 3 * c) 0 = (o : Int) ∧ t (93 + 3 * c) 1 = (a : Int) ∧ t (93 + 3 * c) 2 = ih_b tu ∧ t (93 + 3 * c) 3 = ih_b wa := hr.2.2
      obtain ⟨ho1, ho2⟩ : o < 65536 ∧ a < 65536 := ho
      cases wa <;> simp only [ih_b, if_true, if_false, Bool.false_eq_true] at e3 <;> first | omega | rfl | (rw [e0, e1]; exact ih_or_n (by omega) (by omega))
  · refine ih_seg (i1 := 4) 1 rfl ?_
    refine ih_getI rfl (by first | rfl | exact ih_fN3 (by assumption)) ?_
    refine ih_ifc_eq rfl (by omega) (fun w2 => ?_) (fun w2 => ?_)
    · refine ih_seg (i1 := 9) 1 rfl ?_
      refine ih_getI rfl (by first | rfl | exact ih_fN0 (by assumption)) ?_
      refine ih_seg (i1 := 11) 1 rfl ?_
      refine ih_getI rfl (by first | rfl | exact ih_fN1 (by assumption)) ?_
      refine ih_seg (i1 := 13) 1 rfl ?_
      try dsimp only
      refine ih_ret rfl rfl ?_
      refine ih_Qe ?_ k
      match e, ho, hr with
      | none, ho, hr =>
        have g5 : t (93 + 3 * c) 4 = 1 := hr.2.2
        first | rfl | omega
      | some (o, a, tu, wa), ho, hr =>
        obtain ⟨h4, e0, e1, e2, e3⟩ : t (93 + 3 * c) 4 = 0 ∧ t (93 + 3 * c) 0 = (o : Int) ∧ t (93 + 3 * c) 1 = (a : Int) ∧ t (93 + 3 * c) 2 = ih_b tu ∧ t (93 + 3 * c) 3 = ih_b wa := hr.2.2
        obtain ⟨ho1, ho2⟩ : o < 65536 ∧ a < 65536 := ho
        cases wa <;> simp only [ih_b, if_true, if_false, Bool.false_eq_true] at e3 <;> first | omega | rfl | (rw [e0, e1]; exact ih_or_n (by omega) (by omega))
    · refine ih_seg (i1 := 13) 2 rfl ?_
      refine ih_ret rfl rfl ?_
      refine ih_Qe ?_ k
      match e, ho, hr with
      | none, ho, hr =>
        have g5 : t (93 + 3 * c) 4 = 1 := hr.2.2
        first | rfl | omega
      | some (o, a, tu, wa), ho, hr =>
        obtain ⟨h4, e0, e1, e2, e3⟩ : t (93 + 3 * c) 4 = 0 ∧ t (93 + 3 * c) 0 = (o : Int) ∧ t (93 + 3 * c) 1 = (a : Int) ∧ t (93 + 3 * c) 2 = ih_b tu ∧ t (93 + 3 * c) 3 = ih_b wa := hr.2.2
        obtain ⟨ho1, ho2⟩ : o < 65536 ∧ a < 65536 := ho
        cases wa <;> simp only [ih_b, if_true, if_false, Bool.false_eq_true] at e3 <;> first | omega | rfl | (rw [e0, e1]; exact ih_or_n (by omega) (by omega))


/-- the paper c of the first world, and its inks -/
def ih_PG (t : ih_S) (c : Nat) : Prop := (0 ≤ t (7 + 5 * c) 4 ∧ t (7 + 5 * c) 4 ≤ 12) ∧ (t (7 + 5 * c) 5 = 0 ∨ t (7 + 5 * c) 5 = 1) ∧ (∀ k : Nat, (k : Int) < t (7 + 5 * c) 4 → 0 ≤ t (8 + 5 * c) k ∧ t (8 + 5 * c) k < 7) ∧ (∀ k : Nat, (k : Int) < t (7 + 5 * c) 4 → 0 ≤ t (9 + 5 * c) k ∧ t (9 + 5 * c) k < 4) ∧ (∀ k : Nat, (k : Int) < t (7 + 5 * c) 4 → 0 ≤ t (10 + 5 * c) k ∧ t (10 + 5 * c) k < 8) ∧ (∀ k : Nat, (k : Int) < t (7 + 5 * c) 4 → 0 ≤ t (11 + 5 * c) k ∧ t (11 + 5 * c) k < 10000) ∧ (∀ j : Int, 0 ≤ j → j < 8 → 1 ≤ t 2 j ∧ t 2 j ≤ 999)
theorem ih_PG.sz {t : ih_S} {c : Nat} (h : ih_PG t c) : 0 ≤ t (7 + 5 * c) 4 ∧ t (7 + 5 * c) 4 ≤ 12 := h.1
theorem ih_PG.lit {t : ih_S} {c : Nat} (h : ih_PG t c) : t (7 + 5 * c) 5 = 0 ∨ t (7 + 5 * c) 5 = 1 := h.2.1
theorem ih_PG.kd {t : ih_S} {c : Nat} (h : ih_PG t c) : ∀ k : Nat, (k : Int) < t (7 + 5 * c) 4 → 0 ≤ t (8 + 5 * c) k ∧ t (8 + 5 * c) k < 7 := h.2.2.1
theorem ih_PG.lt {t : ih_S} {c : Nat} (h : ih_PG t c) : ∀ k : Nat, (k : Int) < t (7 + 5 * c) 4 → 0 ≤ t (9 + 5 * c) k ∧ t (9 + 5 * c) k < 4 := h.2.2.2.1
theorem ih_PG.ink {t : ih_S} {c : Nat} (h : ih_PG t c) : ∀ k : Nat, (k : Int) < t (7 + 5 * c) 4 → 0 ≤ t (10 + 5 * c) k ∧ t (10 + 5 * c) k < 8 := h.2.2.2.2.1
theorem ih_PG.at_ {t : ih_S} {c : Nat} (h : ih_PG t c) : ∀ k : Nat, (k : Int) < t (7 + 5 * c) 4 → 0 ≤ t (11 + 5 * c) k ∧ t (11 + 5 * c) k < 10000 := h.2.2.2.2.2.1
theorem ih_PG.las {t : ih_S} {c : Nat} (h : ih_PG t c) : ∀ j : Int, 0 ≤ j → j < 8 → 1 ≤ t 2 j ∧ t 2 j ≤ 999 := h.2.2.2.2.2.2
theorem ih_PG.of {t t1 : ih_S} {c : Nat} (hc : c < 4) (h : ih_PG t c) (e : ∀ j, j < 85 → t1 j = t j) : ih_PG t1 c := by
  obtain ⟨a1, a2, a3, a4, a5, a6, a7⟩ := h
  refine ⟨?_, ?_, ?_, ?_, ?_, ?_, ?_⟩
  all_goals simp only [e (7 + 5 * c) (by omega), e (8 + 5 * c) (by omega), e (9 + 5 * c) (by omega), e (10 + 5 * c) (by omega), e (11 + 5 * c) (by omega), e 2 (by omega)]
  all_goals assumption
/-- only what the class writes while it reckons has changed -/
def ih_sc (t t1 : ih_S) : Prop := ∀ j, j < 85 ∨ 102 < j → t1 j = t j
theorem ih_sc_r (t : ih_S) : ih_sc t t := fun _ _ => rfl
theorem ih_sc_t {t t1 t2 : ih_S} (a : ih_sc t t1) (b : ih_sc t1 t2) : ih_sc t t2 := fun j h => (b j h).trans (a j h)

theorem ih_a1 (c : Nat) : 7 + 5 * c + 1 = 8 + 5 * c := by omega
theorem ih_a2 (c : Nat) : 7 + 5 * c + 2 = 9 + 5 * c := by omega
theorem ih_a3 (c : Nat) : 7 + 5 * c + 3 = 10 + 5 * c := by omega
theorem ih_a4 (c : Nat) : 7 + 5 * c + 4 = 11 + 5 * c := by omega
def ih_eo (t : ih_S) (c m : Nat) (l f : Int) : Int := ih_how (t (7 + 5 * c) 5) (ih_w (t (7 + 5 * c) 5) f + ih_span (t (8 + 5 * c) m) l)
theorem ih_eo_rg {t : ih_S} {c m : Nat} {l f : Int} (hl : 1 ≤ l ∧ l ≤ 999) (hf : 0 ≤ f ∧ f < 10000) : 0 ≤ ih_eo t c m l f ∧ ih_eo t c m l f ≤ 50000 := by
  have h1 := ih_span_rg (k := t (8 + 5 * c) m) hl.1 hl.2
  have h2 := ih_w_rg (lit := t (7 + 5 * c) 5) hf.1 (by omega)
  exact ih_how_rg (by omega) (by omega)

theorem c_endOf {X : List Int} {t : ih_S} {Q : Option xa_V → ih_S → Prop} {c m : Nat} {l f : Int} (hc : c < 4) (G : ih_PG t c) (hm : (m : Int) < t (7 + 5 * c) 4) (hl : 1 ≤ l ∧ l ≤ 999) (hf : 0 ≤ f ∧ f < 10000) (k : Q (some (xI (ih_eo t c m l f))) t) : ih_Wp X 9 0 [xR (91 + 3 * c), xI m, xI l, xI f, xC 1] [] t Q := by
  have g1 := G.sz
  have g2 := G.lit
  have g3 := G.kd m hm
  rw [← ih_a1] at g3
  have g4 := ih_span_rg (k := t (7 + 5 * c + 1) m) hl.1 hl.2
  have g5 := ih_w_rg (lit := t (7 + 5 * c) 5) hf.1 (by omega)
  refine ih_seg (i1 := 1) 1 rfl ?_
  refine ih_getR rfl (by first | rfl | exact ih_fC0 (by assumption)) ?_
  refine ih_getI rfl (by first | rfl | exact ih_fP5 (ih_P_w0 hc) | exact ih_fP5 (by assumption)) ?_
  refine ih_seg (i1 := 4) 1 rfl ?_
  refine ih_in2 123 rfl rfl (Nat.le_of_ble_eq_true rfl) (Nat.le_of_ble_eq_true rfl) rfl ?_
  refine c_wear (by omega) (by omega) ?_
  refine ih_seg (i1 := 6) 1 rfl ?_
  refine ih_getR rfl (by first | rfl | exact ih_fC0 (by assumption)) ?_
  refine ih_getR rfl (by first | rfl | exact ih_fP0 (ih_P_w0 hc) | exact ih_fP0 (by assumption)) ?_
  refine ih_seg (i1 := 9) 1 rfl ?_
  refine ih_iald rfl (by first | rfl | exact ih_lP1 (ih_P_w0 hc) | exact ih_lP2 (ih_P_w0 hc) | exact ih_lP3 (ih_P_w0 hc) | exact ih_lP4 (ih_P_w0 hc) |  exact ih_lP1 (by assumption) | exact ih_lP2 (by assumption) | exact ih_lP3 (by assumption) | exact ih_lP4 (by assumption) | exact ih_lC1 (by assumption) | exact ih_lS1 (by assumption) | exact ih_lW1 (by assumption) | exact ih_lW2 (by assumption) | exact ih_lW4 (by assumption) | exact ih_lW5 (by assumption)) (by omega) (by omega) (k := ?_)
  refine ih_seg (i1 := 11) 1 rfl ?_
  refine ih_in2 122 rfl rfl (Nat.le_of_ble_eq_true rfl) (Nat.le_of_ble_eq_true rfl) rfl ?_
  refine c_span (by omega) (by omega) ?_
  refine ih_seg (i1 := 15) 3 rfl ?_
  try simp only [xa_set, List.set_cons_zero, List.set_cons_succ, List.getElem?_cons_zero, List.getElem?_cons_succ]
  refine ih_getR rfl (by first | rfl | exact ih_fC0 (by assumption)) ?_
  refine ih_getI rfl (by first | rfl | exact ih_fP5 (ih_P_w0 hc) | exact ih_fP5 (by assumption)) ?_
  refine ih_seg (i1 := 18) 1 rfl ?_
  refine ih_in2 124 rfl rfl (Nat.le_of_ble_eq_true rfl) (Nat.le_of_ble_eq_true rfl) rfl ?_
  refine c_how (by omega) (by omega) ?_
  refine ih_ret rfl rfl ?_
  rw [ih_a1]
  exact k


/-- when the mark k of the paper c goes -/
def ih_en (t : ih_S) (c k : Nat) : Int := ih_eo t c k (t 2 (t (10 + 5 * c) k)) (t (11 + 5 * c) k)
theorem ih_en_of {t t1 : ih_S} {c k : Nat} (hc : c < 4) (e : ∀ j, j < 85 → t1 j = t j) : ih_en t1 c k = ih_en t c k := by
  unfold ih_en ih_eo
  simp only [e (7 + 5 * c) (by omega), e (8 + 5 * c) (by omega), e (10 + 5 * c) (by omega), e (11 + 5 * c) (by omega), e 2 (by omega)]
theorem ih_en_rg {t : ih_S} {c k : Nat} (G : ih_PG t c) (hk : (k : Int) < t (7 + 5 * c) 4) : 0 ≤ ih_en t c k ∧ ih_en t c k ≤ 50000 :=
  ih_eo_rg (G.las _ (G.ink k hk).1 (G.ink k hk).2) (G.at_ k hk)
theorem ih_up_lo {t : ih_S} {a : Nat} {j z : Int} (ha : 85 ≤ a) : ∀ i, i < 85 → ih_up t a j z i = t i := fun i hi => ih_up_ne (by omega)

theorem c_reckon_l {X : List Int} {Q : Option xa_V → ih_S → Prop} {c : Nat} (hc : c < 4) : ∀ (d k : Nat) (t : ih_S) (G : ih_PG t c) (hd : (k : Int) + d = t (7 + 5 * c) 4) (he : ∀ j : Nat, j < k → t (92 + 3 * c) j = ih_en t c j) (K : ∀ t1, (∀ i, i ≠ 92 + 3 * c → t1 i = t i) → (∀ j : Nat, (j : Int) < t (7 + 5 * c) 4 → t1 (92 + 3 * c) j = ih_en t c j) → Q none t1), ih_Wp X 8 2 [xR (91 + 3 * c), xI k] [] t Q := by
  intro d
  induction d with
  | zero =>
    intro k t G hd he K
    have g1 := G.sz
    refine ih_seg (i1 := 4) 2 rfl ?_
    refine ih_getR rfl (by first | rfl | exact ih_fC0 (by assumption)) ?_
    refine ih_getI rfl (by first | rfl | exact ih_fP4 (ih_P_w0 hc) | exact ih_fP4 (by assumption)) ?_
    refine ih_icmp_ge rfl (by omega) (by omega) (fun w1 => ?_) (fun w1 => ?_)
    · refine ih_retv rfl ?_
      exact K t (fun _ _ => rfl) (fun j hj => he j (by omega))
    · refine ih_seg (i1 := 8) 1 rfl ?_
      refine ih_getR rfl (by first | rfl | exact ih_fC2 (by assumption)) ?_
      refine ih_seg (i1 := 13) 4 rfl ?_
      refine ih_getR rfl (by first | rfl | exact ih_fC1 (by assumption)) ?_
      refine ih_seg (i1 := 15) 1 rfl ?_
      refine ih_getR rfl (by first | rfl | exact ih_fC0 (by assumption)) ?_
      refine ih_getR rfl (by first | rfl | exact ih_fP2 (ih_P_w0 hc) | exact ih_fP2 (by assumption)) ?_
      refine ih_seg (i1 := 18) 1 rfl ?_
      refine ih_iald rfl (by first | rfl | exact ih_lP1 (ih_P_w0 hc) | exact ih_lP2 (ih_P_w0 hc) | exact ih_lP3 (ih_P_w0 hc) | exact ih_lP4 (ih_P_w0 hc) |  exact ih_lP1 (by assumption) | exact ih_lP2 (by assumption) | exact ih_lP3 (by assumption) | exact ih_lP4 (by assumption) | exact ih_lC1 (by assumption) | exact ih_lS1 (by assumption) | exact ih_lW1 (by assumption) | exact ih_lW2 (by assumption) | exact ih_lW4 (by assumption) | exact ih_lW5 (by assumption)) (by omega) (by omega) (k := ?_)
      refine ih_iald rfl (by first | rfl | exact ih_lP1 (ih_P_w0 hc) | exact ih_lP2 (ih_P_w0 hc) | exact ih_lP3 (ih_P_w0 hc) | exact ih_lP4 (ih_P_w0 hc) |  exact ih_lP1 (by assumption) | exact ih_lP2 (by assumption) | exact ih_lP3 (by assumption) | exact ih_lP4 (by assumption) | exact ih_lC1 (by assumption) | exact ih_lS1 (by assumption) | exact ih_lW1 (by assumption) | exact ih_lW2 (by assumption) | exact ih_lW4 (by assumption) | exact ih_lW5 (by assumption)) (by omega) (by omega) (k := ?_)
      refine ih_seg (i1 := 21) 1 rfl ?_
      refine ih_getR rfl (by first | rfl | exact ih_fC0 (by assumption)) ?_
      refine ih_getR rfl (by first | rfl | exact ih_fP3 (ih_P_w0 hc) | exact ih_fP3 (by assumption)) ?_
      refine ih_seg (i1 := 24) 1 rfl ?_
      refine ih_iald rfl (by first | rfl | exact ih_lP1 (ih_P_w0 hc) | exact ih_lP2 (ih_P_w0 hc) | exact ih_lP3 (ih_P_w0 hc) | exact ih_lP4 (ih_P_w0 hc) |  exact ih_lP1 (by assumption) | exact ih_lP2 (by assumption) | exact ih_lP3 (by assumption) | exact ih_lP4 (by assumption) | exact ih_lC1 (by assumption) | exact ih_lS1 (by assumption) | exact ih_lW1 (by assumption) | exact ih_lW2 (by assumption) | exact ih_lW4 (by assumption) | exact ih_lW5 (by assumption)) (by omega) (by omega) (k := ?_)
      refine ih_iv3 9 rfl rfl (by first | rfl | exact ih_kP (by assumption) | exact ih_kC (by assumption) | exact ih_kN (by assumption) | exact ih_kS (by assumption) | exact ih_kW (by assumption)) (Nat.le_of_ble_eq_true rfl) (Nat.le_of_ble_eq_true rfl) rfl ?_
      exfalso
      omega

  | succ d ih =>
    intro k t G hd he K
    have g1 := G.sz
    have hk : (k : Int) < t (7 + 5 * c) 4 := by omega
    have g2 := G.ink k hk
    have g3 := G.las _ g2.1 g2.2
    have g4 := G.at_ k hk
    simp only [← ih_a3] at g2 g3
    simp only [← ih_a4] at g4
    refine ih_seg (i1 := 4) 2 rfl ?_
    refine ih_getR rfl (by first | rfl | exact ih_fC0 (by assumption)) ?_
    refine ih_getI rfl (by first | rfl | exact ih_fP4 (ih_P_w0 hc) | exact ih_fP4 (by assumption)) ?_
    refine ih_icmp_ge rfl (by omega) (by omega) (fun w1 => ?_) (fun w1 => ?_)
    · refine ih_retv rfl ?_
      omega
    · refine ih_seg (i1 := 8) 1 rfl ?_
      refine ih_getR rfl (by first | rfl | exact ih_fC2 (by assumption)) ?_
      refine ih_seg (i1 := 13) 4 rfl ?_
      refine ih_getR rfl (by first | rfl | exact ih_fC1 (by assumption)) ?_
      refine ih_seg (i1 := 15) 1 rfl ?_
      refine ih_getR rfl (by first | rfl | exact ih_fC0 (by assumption)) ?_
      refine ih_getR rfl (by first | rfl | exact ih_fP2 (ih_P_w0 hc) | exact ih_fP2 (by assumption)) ?_
      refine ih_seg (i1 := 18) 1 rfl ?_
      refine ih_iald rfl (by first | rfl | exact ih_lP1 (ih_P_w0 hc) | exact ih_lP2 (ih_P_w0 hc) | exact ih_lP3 (ih_P_w0 hc) | exact ih_lP4 (ih_P_w0 hc) |  exact ih_lP1 (by assumption) | exact ih_lP2 (by assumption) | exact ih_lP3 (by assumption) | exact ih_lP4 (by assumption) | exact ih_lC1 (by assumption) | exact ih_lS1 (by assumption) | exact ih_lW1 (by assumption) | exact ih_lW2 (by assumption) | exact ih_lW4 (by assumption) | exact ih_lW5 (by assumption)) (by omega) (by omega) (k := ?_)
      refine ih_iald rfl (by first | rfl | exact ih_lP1 (ih_P_w0 hc) | exact ih_lP2 (ih_P_w0 hc) | exact ih_lP3 (ih_P_w0 hc) | exact ih_lP4 (ih_P_w0 hc) |  exact ih_lP1 (by assumption) | exact ih_lP2 (by assumption) | exact ih_lP3 (by assumption) | exact ih_lP4 (by assumption) | exact ih_lC1 (by assumption) | exact ih_lS1 (by assumption) | exact ih_lW1 (by assumption) | exact ih_lW2 (by assumption) | exact ih_lW4 (by assumption) | exact ih_lW5 (by assumption)) (by omega) (by omega) (k := ?_)
      refine ih_seg (i1 := 21) 1 rfl ?_
      refine ih_getR rfl (by first | rfl | exact ih_fC0 (by assumption)) ?_
      refine ih_getR rfl (by first | rfl | exact ih_fP3 (ih_P_w0 hc) | exact ih_fP3 (by assumption)) ?_
      refine ih_seg (i1 := 24) 1 rfl ?_
      refine ih_iald rfl (by first | rfl | exact ih_lP1 (ih_P_w0 hc) | exact ih_lP2 (ih_P_w0 hc) | exact ih_lP3 (ih_P_w0 hc) | exact ih_lP4 (ih_P_w0 hc) |  exact ih_lP1 (by assumption) | exact ih_lP2 (by assumption) | exact ih_lP3 (by assumption) | exact ih_lP4 (by assumption) | exact ih_lC1 (by assumption) | exact ih_lS1 (by assumption) | exact ih_lW1 (by assumption) | exact ih_lW2 (by assumption) | exact ih_lW4 (by assumption) | exact ih_lW5 (by assumption)) (by omega) (by omega) (k := ?_)
      refine ih_iv3 9 rfl rfl (by first | rfl | exact ih_kP (by assumption) | exact ih_kC (by assumption) | exact ih_kN (by assumption) | exact ih_kS (by assumption) | exact ih_kW (by assumption)) (Nat.le_of_ble_eq_true rfl) (Nat.le_of_ble_eq_true rfl) rfl ?_
      refine c_endOf hc G hk (by omega) (by omega) ?_
      refine ih_iast rfl (by first | rfl | exact ih_lP1 (ih_P_w0 hc) | exact ih_lP2 (ih_P_w0 hc) | exact ih_lP3 (ih_P_w0 hc) | exact ih_lP4 (ih_P_w0 hc) |  exact ih_lP1 (by assumption) | exact ih_lP2 (by assumption) | exact ih_lP3 (by assumption) | exact ih_lP4 (by assumption) | exact ih_lC1 (by assumption) | exact ih_lS1 (by assumption) | exact ih_lW1 (by assumption) | exact ih_lW2 (by assumption) | exact ih_lW4 (by assumption) | exact ih_lW5 (by assumption)) (by omega) (by omega) (k := ?_)
      refine ih_seg (i1 := 2) 2 rfl ?_
      try simp only [xa_set, List.set_cons_zero, List.set_cons_succ, List.getElem?_cons_zero, List.getElem?_cons_succ]
      refine ih (k + 1) _ (G.of hc (ih_up_lo (by omega))) (by rw [ih_up_lo (by omega) _ (by omega)]; omega) ?_ ?_
      · intro j hj
        rw [ih_en_of hc (ih_up_lo (by omega)), ih_up_eq]
        by_cases e : j = k
        · subst e
          rw [ih_u1_eq]
          unfold ih_en
          rw [ih_a3, ih_a4]
        · rw [ih_u1_ne (by omega)]
          exact he j (by omega)
      · intro t1 h1 h2
        refine K t1 (fun i hi => (h1 i hi).trans (ih_up_ne hi)) (fun j hj => ?_)
        rw [h2 j (by rw [ih_up_lo (by omega) _ (by omega)]; exact hj), ih_en_of hc (ih_up_lo (by omega))]

theorem c_reckon {X : List Int} {t : ih_S} {Q : Option xa_V → ih_S → Prop} {c : Nat} (hc : c < 4) (G : ih_PG t c) (K : ∀ t1, (∀ i, i ≠ 92 + 3 * c → t1 i = t i) → (∀ j : Nat, (j : Int) < t (7 + 5 * c) 4 → t1 (92 + 3 * c) j = ih_en t c j) → Q none t1) : ih_Wp X 8 0 [xR (91 + 3 * c), xC 1] [] t Q := by
  have g1 := G.sz
  refine ih_seg (i1 := 2) 2 rfl ?_
  try simp only [xa_set, List.set_cons_zero, List.set_cons_succ, List.getElem?_cons_zero, List.getElem?_cons_succ]
  exact c_reckon_l hc (t (7 + 5 * c) 4).toNat 0 t G (by omega) (fun j hj => by omega) K


def ih_sf (t : ih_S) (c : Nat) (h : Int) (k : Nat) : Bool := decide (t (11 + 5 * c) k ≤ h ∧ h < t (92 + 3 * c) k)
/-- the ends are hours -/
def ih_EG (t : ih_S) (c : Nat) : Prop := ∀ j : Nat, (j : Int) < t (7 + 5 * c) 4 → 0 ≤ t (92 + 3 * c) j ∧ t (92 + 3 * c) j ≤ 50000

theorem c_seenAt_l {X : List Int} {t : ih_S} {Q : Option xa_V → ih_S → Prop} {c : Nat} {h : Int} (hc : c < 4) (G : ih_PG t c) (E : ih_EG t c) (hh : 0 ≤ h ∧ h < 30000) (K : Q (some (xI ((ih_set (ih_sf t c h) (t (7 + 5 * c) 4).toNat : Nat) : Int))) t) : ∀ (d k : Nat) (hd : (k : Int) + d = t (7 + 5 * c) 4), ih_Wp X 10 4 [xR (91 + 3 * c), xI h, xI ((ih_set (ih_sf t c h) k : Nat) : Int), xI k] [] t Q := by
  intro d
  induction d with
  | zero =>
    intro k hd
    have g1 := G.sz
    refine ih_seg (i1 := 6) 2 rfl ?_
    refine ih_getR rfl (by first | rfl | exact ih_fC0 (by assumption)) ?_
    refine ih_getI rfl (by first | rfl | exact ih_fP4 (ih_P_w0 hc) | exact ih_fP4 (by assumption)) ?_
    refine ih_icmp_ge rfl (by omega) (by omega) (fun w1 => ?_) (fun w1 => ?_)
    · refine ih_seg (i1 := 31) 1 rfl ?_
      refine ih_ret rfl rfl ?_
      rw [show (t (7 + 5 * c) 4).toNat = k by omega] at K
      exact K
    · refine ih_seg (i1 := 10) 1 rfl ?_
      refine ih_getR rfl (by first | rfl | exact ih_fC0 (by assumption)) ?_
      refine ih_getR rfl (by first | rfl | exact ih_fP3 (ih_P_w0 hc) | exact ih_fP3 (by assumption)) ?_
      refine ih_seg (i1 := 13) 1 rfl ?_
      refine ih_iald rfl (by first | rfl | exact ih_lP1 (ih_P_w0 hc) | exact ih_lP2 (ih_P_w0 hc) | exact ih_lP3 (ih_P_w0 hc) | exact ih_lP4 (ih_P_w0 hc) |  exact ih_lP1 (by assumption) | exact ih_lP2 (by assumption) | exact ih_lP3 (by assumption) | exact ih_lP4 (by assumption) | exact ih_lC1 (by assumption) | exact ih_lS1 (by assumption) | exact ih_lW1 (by assumption) | exact ih_lW2 (by assumption) | exact ih_lW4 (by assumption) | exact ih_lW5 (by assumption)) (by omega) (by omega) (k := ?_)
      refine ih_seg (i1 := 15) 1 rfl ?_
      refine ih_icmp_gt rfl (by omega) (by omega) (fun w2 => ?_) (fun w2 => ?_)
      · refine ih_seg (i1 := 4) 2 rfl ?_
        try simp only [xa_set, List.set_cons_zero, List.set_cons_succ, List.getElem?_cons_zero, List.getElem?_cons_succ]
        exfalso
        omega
      · refine ih_seg (i1 := 18) 2 rfl ?_
        refine ih_getR rfl (by first | rfl | exact ih_fC2 (by assumption)) ?_
        refine ih_seg (i1 := 20) 1 rfl ?_
        refine ih_iald rfl (by first | rfl | exact ih_lP1 (ih_P_w0 hc) | exact ih_lP2 (ih_P_w0 hc) | exact ih_lP3 (ih_P_w0 hc) | exact ih_lP4 (ih_P_w0 hc) |  exact ih_lP1 (by assumption) | exact ih_lP2 (by assumption) | exact ih_lP3 (by assumption) | exact ih_lP4 (by assumption) | exact ih_lC1 (by assumption) | exact ih_lS1 (by assumption) | exact ih_lW1 (by assumption) | exact ih_lW2 (by assumption) | exact ih_lW4 (by assumption) | exact ih_lW5 (by assumption)) (by omega) (by omega) (k := ?_)
        refine ih_icmp_ge rfl (by omega) (by omega) (fun w3 => ?_) (fun w3 => ?_)
        · refine ih_seg (i1 := 4) 2 rfl ?_
          try simp only [xa_set, List.set_cons_zero, List.set_cons_succ, List.getElem?_cons_zero, List.getElem?_cons_succ]
          exfalso
          omega
        · refine ih_seg (i1 := 4) 8 rfl ?_
          try simp only [xa_set, List.set_cons_zero, List.set_cons_succ, List.getElem?_cons_zero, List.getElem?_cons_succ]
          exfalso
          omega
  | succ d ih =>
    intro k hd
    have g1 := G.sz
    have hk : (k : Int) < t (7 + 5 * c) 4 := by omega
    have g2 := G.at_ k hk
    have g3 := E k hk
    simp only [← ih_a4] at g2
    refine ih_seg (i1 := 6) 2 rfl ?_
    refine ih_getR rfl (by first | rfl | exact ih_fC0 (by assumption)) ?_
    refine ih_getI rfl (by first | rfl | exact ih_fP4 (ih_P_w0 hc) | exact ih_fP4 (by assumption)) ?_
    refine ih_icmp_ge rfl (by omega) (by omega) (fun w1 => ?_) (fun w1 => ?_)
    · refine ih_seg (i1 := 31) 1 rfl ?_
      refine ih_ret rfl rfl ?_
      exfalso
      omega
    · refine ih_seg (i1 := 10) 1 rfl ?_
      refine ih_getR rfl (by first | rfl | exact ih_fC0 (by assumption)) ?_
      refine ih_getR rfl (by first | rfl | exact ih_fP3 (ih_P_w0 hc) | exact ih_fP3 (by assumption)) ?_
      refine ih_seg (i1 := 13) 1 rfl ?_
      refine ih_iald rfl (by first | rfl | exact ih_lP1 (ih_P_w0 hc) | exact ih_lP2 (ih_P_w0 hc) | exact ih_lP3 (ih_P_w0 hc) | exact ih_lP4 (ih_P_w0 hc) |  exact ih_lP1 (by assumption) | exact ih_lP2 (by assumption) | exact ih_lP3 (by assumption) | exact ih_lP4 (by assumption) | exact ih_lC1 (by assumption) | exact ih_lS1 (by assumption) | exact ih_lW1 (by assumption) | exact ih_lW2 (by assumption) | exact ih_lW4 (by assumption) | exact ih_lW5 (by assumption)) (by omega) (by omega) (k := ?_)
      refine ih_seg (i1 := 15) 1 rfl ?_
      refine ih_icmp_gt rfl (by omega) (by omega) (fun w2 => ?_) (fun w2 => ?_)
      · refine ih_seg (i1 := 4) 2 rfl ?_
        try simp only [xa_set, List.set_cons_zero, List.set_cons_succ, List.getElem?_cons_zero, List.getElem?_cons_succ]
        simp only [ih_a4] at *
        refine ih_ls ?_ (ih (k + 1) (by omega))
        first
          | rw [ih_set_step _ (by omega) (by unfold ih_sf; simp only [decide_eq_true_eq]; omega)]; rfl
          | rw [← ih_set_skip _ (by unfold ih_sf; simp only [decide_eq_false_iff_not]; omega)]; rfl
      · refine ih_seg (i1 := 18) 2 rfl ?_
        refine ih_getR rfl (by first | rfl | exact ih_fC2 (by assumption)) ?_
        refine ih_seg (i1 := 20) 1 rfl ?_
        refine ih_iald rfl (by first | rfl | exact ih_lP1 (ih_P_w0 hc) | exact ih_lP2 (ih_P_w0 hc) | exact ih_lP3 (ih_P_w0 hc) | exact ih_lP4 (ih_P_w0 hc) |  exact ih_lP1 (by assumption) | exact ih_lP2 (by assumption) | exact ih_lP3 (by assumption) | exact ih_lP4 (by assumption) | exact ih_lC1 (by assumption) | exact ih_lS1 (by assumption) | exact ih_lW1 (by assumption) | exact ih_lW2 (by assumption) | exact ih_lW4 (by assumption) | exact ih_lW5 (by assumption)) (by omega) (by omega) (k := ?_)
        refine ih_icmp_ge rfl (by omega) (by omega) (fun w3 => ?_) (fun w3 => ?_)
        · refine ih_seg (i1 := 4) 2 rfl ?_
          try simp only [xa_set, List.set_cons_zero, List.set_cons_succ, List.getElem?_cons_zero, List.getElem?_cons_succ]
          simp only [ih_a4] at *
          refine ih_ls ?_ (ih (k + 1) (by omega))
          first
            | rw [ih_set_step _ (by omega) (by unfold ih_sf; simp only [decide_eq_true_eq]; omega)]; rfl
            | rw [← ih_set_skip _ (by unfold ih_sf; simp only [decide_eq_false_iff_not]; omega)]; rfl
        · refine ih_seg (i1 := 4) 8 rfl ?_
          try simp only [xa_set, List.set_cons_zero, List.set_cons_succ, List.getElem?_cons_zero, List.getElem?_cons_succ]
          simp only [ih_a4] at *
          refine ih_ls ?_ (ih (k + 1) (by omega))
          first
            | rw [ih_set_step _ (by omega) (by unfold ih_sf; simp only [decide_eq_true_eq]; omega)]; rfl
            | rw [← ih_set_skip _ (by unfold ih_sf; simp only [decide_eq_false_iff_not]; omega)]; rfl

theorem c_seenAt {X : List Int} {t : ih_S} {Q : Option xa_V → ih_S → Prop} {c : Nat} {h : Int} (hc : c < 4) (G : ih_PG t c) (E : ih_EG t c) (hh : 0 ≤ h ∧ h < 30000) (K : Q (some (xI ((ih_set (ih_sf t c h) (t (7 + 5 * c) 4).toNat : Nat) : Int))) t) : ih_Wp X 10 0 [xR (91 + 3 * c), xI h, xC 1, xC 1] [] t Q := by
  have g1 := G.sz
  refine ih_seg (i1 := 4) 4 rfl ?_
  try simp only [xa_set, List.set_cons_zero, List.set_cons_succ, List.getElem?_cons_zero, List.getElem?_cons_succ]
  exact c_seenAt_l hc G E hh K (t (7 + 5 * c) 4).toNat 0 (by omega)


/-- what a set of the paper's marks means -/
def ih_mo (t : ih_S) (c : Nat) (f : Nat → Bool) : Int := ih_val (ih_fd (fun k => t (8 + 5 * c) k) (fun k => t (9 + 5 * c) k) f (t (7 + 5 * c) 4).toNat)

theorem c_meaningOf_l {X : List Int} {t : ih_S} {Q : Option xa_V → ih_S → Prop} {c v : Nat} (hc : c < 4) (G : ih_PG t c) (hv : v < 65536) (K : ∀ t1, (∀ i, i ≠ 93 + 3 * c → t1 i = t i) → Q (some (xI (ih_mo t c v.testBit))) t1) : ∀ (d k : Nat) (t1 : ih_S) (hd : (k : Int) + d = t (7 + 5 * c) 4) (hf : ∀ i, i ≠ 93 + 3 * c → t1 i = t i) (hr : ih_SR t1 (93 + 3 * c) (ih_fd (fun k => t (8 + 5 * c) k) (fun k => t (9 + 5 * c) k) v.testBit k)), ih_Wp X 11 5 [xR (91 + 3 * c), xI v, xI k] [] t1 Q := by
  intro d
  induction d with
  | zero =>
    intro k t1 hd hf hr
    have g1 := G.sz
    have hs : t1 (7 + 5 * c) = t (7 + 5 * c) := hf _ (by omega)
    have hs1 : t1 (7 + 5 * c + 1) = t (7 + 5 * c + 1) := hf _ (by omega)
    have hs2 : t1 (7 + 5 * c + 2) = t (7 + 5 * c + 2) := hf _ (by omega)
    rw [← hs] at hd g1
    refine ih_seg (i1 := 7) 2 rfl ?_
    refine ih_getR rfl (by first | rfl | exact ih_fC0 (by assumption)) ?_
    refine ih_getI rfl (by first | rfl | exact ih_fP4 (ih_P_w0 hc) | exact ih_fP4 (by assumption)) ?_
    refine ih_icmp_ge rfl (by (first | omega | (exfalso; omega))) (by (first | omega | (exfalso; omega))) (fun w1 => ?_) (fun w1 => ?_)
    · refine ih_seg (i1 := 32) 1 rfl ?_
      refine ih_getR rfl (by first | rfl | exact ih_fC3 (by assumption)) ?_
      refine ih_iv0 29 rfl rfl (by first | rfl | exact ih_kP (by assumption) | exact ih_kC (by assumption) | exact ih_kN (by assumption) | exact ih_kS (by assumption) | exact ih_kW (by assumption)) (Nat.le_of_ble_eq_true rfl) (Nat.le_of_ble_eq_true rfl) rfl ?_
      refine c_meaning hc (ih_ok_fd _ _ _ _) hr ?_
      refine ih_ret rfl rfl ?_
      have := K t1 hf
      unfold ih_mo at this
      rw [← hs, show (t1 (7 + 5 * c) 4).toNat = k by omega] at this
      exact this
    · refine ih_seg (i1 := 15) 5 rfl ?_
      try dsimp only
      refine ih_ifc_eq rfl (by exfalso; omega) (fun w2 => ?_) (fun w2 => ?_)
      · refine ih_seg (i1 := 5) 2 rfl ?_
        try simp only [xa_set, List.set_cons_zero, List.set_cons_succ, List.getElem?_cons_zero, List.getElem?_cons_succ]
        exfalso
        omega
      · refine ih_seg (i1 := 17) 1 rfl ?_
        refine ih_getR rfl (by first | rfl | exact ih_fC3 (by assumption)) ?_
        refine ih_seg (i1 := 19) 1 rfl ?_
        refine ih_getR rfl (by first | rfl | exact ih_fC0 (by assumption)) ?_
        refine ih_getR rfl (by first | rfl | exact ih_fP0 (ih_P_w0 hc) | exact ih_fP0 (by assumption)) ?_
        refine ih_seg (i1 := 22) 1 rfl ?_
        refine ih_iald rfl (by first | rfl | exact ih_lP1 (ih_P_w0 hc) | exact ih_lP2 (ih_P_w0 hc) | exact ih_lP3 (ih_P_w0 hc) | exact ih_lP4 (ih_P_w0 hc) |  exact ih_lP1 (by assumption) | exact ih_lP2 (by assumption) | exact ih_lP3 (by assumption) | exact ih_lP4 (by assumption) | exact ih_lC1 (by assumption) | exact ih_lS1 (by assumption) | exact ih_lW1 (by assumption) | exact ih_lW2 (by assumption) | exact ih_lW4 (by assumption) | exact ih_lW5 (by assumption)) (by (first | omega | (exfalso; omega))) (by (first | omega | (exfalso; omega))) (k := ?_)
        refine ih_seg (i1 := 24) 1 rfl ?_
        refine ih_getR rfl (by first | rfl | exact ih_fC0 (by assumption)) ?_
        refine ih_getR rfl (by first | rfl | exact ih_fP1 (ih_P_w0 hc) | exact ih_fP1 (by assumption)) ?_
        refine ih_seg (i1 := 27) 1 rfl ?_
        refine ih_iald rfl (by first | rfl | exact ih_lP1 (ih_P_w0 hc) | exact ih_lP2 (ih_P_w0 hc) | exact ih_lP3 (ih_P_w0 hc) | exact ih_lP4 (ih_P_w0 hc) |  exact ih_lP1 (by assumption) | exact ih_lP2 (by assumption) | exact ih_lP3 (by assumption) | exact ih_lP4 (by assumption) | exact ih_lC1 (by assumption) | exact ih_lS1 (by assumption) | exact ih_lW1 (by assumption) | exact ih_lW2 (by assumption) | exact ih_lW4 (by assumption) | exact ih_lW5 (by assumption)) (by (first | omega | (exfalso; omega))) (by (first | omega | (exfalso; omega))) (k := ?_)
        refine ih_iv2 28 rfl rfl (by first | rfl | exact ih_kP (by assumption) | exact ih_kC (by assumption) | exact ih_kN (by assumption) | exact ih_kS (by assumption) | exact ih_kW (by assumption)) (Nat.le_of_ble_eq_true rfl) (Nat.le_of_ble_eq_true rfl) rfl ?_
        exfalso
        omega
  | succ d ih =>
    intro k t1 hd hf hr
    have g1 := G.sz
    have hs : t1 (7 + 5 * c) = t (7 + 5 * c) := hf _ (by omega)
    have hs1 : t1 (7 + 5 * c + 1) = t (7 + 5 * c + 1) := hf _ (by omega)
    have hs2 : t1 (7 + 5 * c + 2) = t (7 + 5 * c + 2) := hf _ (by omega)
    rw [← hs] at hd g1
    have hk : (k : Int) < t (7 + 5 * c) 4 := by rw [← hs]; omega
    have g2 := G.kd k hk
    have g3 := G.lt k hk
    simp only [← ih_a1, ← ih_a2] at g2 g3
    rw [← hs1] at g2
    rw [← hs2] at g3
    have gb := ih_bit (v := v) (k := k) hv (by omega)
    refine ih_seg (i1 := 7) 2 rfl ?_
    refine ih_getR rfl (by first | rfl | exact ih_fC0 (by assumption)) ?_
    refine ih_getI rfl (by first | rfl | exact ih_fP4 (ih_P_w0 hc) | exact ih_fP4 (by assumption)) ?_
    refine ih_icmp_ge rfl (by (first | omega | (rw [gb]; split <;> omega))) (by (first | omega | (rw [gb]; split <;> omega))) (fun w1 => ?_) (fun w1 => ?_)
    · refine ih_seg (i1 := 32) 1 rfl ?_
      refine ih_getR rfl (by first | rfl | exact ih_fC3 (by assumption)) ?_
      refine ih_iv0 29 rfl rfl (by first | rfl | exact ih_kP (by assumption) | exact ih_kC (by assumption) | exact ih_kN (by assumption) | exact ih_kS (by assumption) | exact ih_kW (by assumption)) (Nat.le_of_ble_eq_true rfl) (Nat.le_of_ble_eq_true rfl) rfl ?_
      exfalso
      omega
    · refine ih_seg (i1 := 15) 5 rfl ?_
      try dsimp only
      refine ih_ifc_eq rfl (by (first | omega | (rw [gb]; split <;> omega))) (fun w2 => ?_) (fun w2 => ?_)
      · refine ih_seg (i1 := 5) 2 rfl ?_
        try simp only [xa_set, List.set_cons_zero, List.set_cons_succ, List.getElem?_cons_zero, List.getElem?_cons_succ]
        refine ih (k + 1) t1 (by rw [← hs]; omega) hf ?_
        rw [ih_fd, if_neg (by intro q; rw [gb, if_pos q] at *; omega)]
        exact hr
      · refine ih_seg (i1 := 17) 1 rfl ?_
        refine ih_getR rfl (by first | rfl | exact ih_fC3 (by assumption)) ?_
        refine ih_seg (i1 := 19) 1 rfl ?_
        refine ih_getR rfl (by first | rfl | exact ih_fC0 (by assumption)) ?_
        refine ih_getR rfl (by first | rfl | exact ih_fP0 (ih_P_w0 hc) | exact ih_fP0 (by assumption)) ?_
        refine ih_seg (i1 := 22) 1 rfl ?_
        refine ih_iald rfl (by first | rfl | exact ih_lP1 (ih_P_w0 hc) | exact ih_lP2 (ih_P_w0 hc) | exact ih_lP3 (ih_P_w0 hc) | exact ih_lP4 (ih_P_w0 hc) |  exact ih_lP1 (by assumption) | exact ih_lP2 (by assumption) | exact ih_lP3 (by assumption) | exact ih_lP4 (by assumption) | exact ih_lC1 (by assumption) | exact ih_lS1 (by assumption) | exact ih_lW1 (by assumption) | exact ih_lW2 (by assumption) | exact ih_lW4 (by assumption) | exact ih_lW5 (by assumption)) (by (first | omega | (rw [gb]; split <;> omega))) (by (first | omega | (rw [gb]; split <;> omega))) (k := ?_)
        refine ih_seg (i1 := 24) 1 rfl ?_
        refine ih_getR rfl (by first | rfl | exact ih_fC0 (by assumption)) ?_
        refine ih_getR rfl (by first | rfl | exact ih_fP1 (ih_P_w0 hc) | exact ih_fP1 (by assumption)) ?_
        refine ih_seg (i1 := 27) 1 rfl ?_
        refine ih_iald rfl (by first | rfl | exact ih_lP1 (ih_P_w0 hc) | exact ih_lP2 (ih_P_w0 hc) | exact ih_lP3 (ih_P_w0 hc) | exact ih_lP4 (ih_P_w0 hc) |  exact ih_lP1 (by assumption) | exact ih_lP2 (by assumption) | exact ih_lP3 (by assumption) | exact ih_lP4 (by assumption) | exact ih_lC1 (by assumption) | exact ih_lS1 (by assumption) | exact ih_lW1 (by assumption) | exact ih_lW2 (by assumption) | exact ih_lW4 (by assumption) | exact ih_lW5 (by assumption)) (by (first | omega | (rw [gb]; split <;> omega))) (by (first | omega | (rw [gb]; split <;> omega))) (k := ?_)
        refine ih_iv2 28 rfl rfl (by first | rfl | exact ih_kP (by assumption) | exact ih_kC (by assumption) | exact ih_kN (by assumption) | exact ih_kS (by assumption) | exact ih_kW (by assumption)) (Nat.le_of_ble_eq_true rfl) (Nat.le_of_ble_eq_true rfl) rfl ?_
        refine c_take hc (by omega) (by omega) (ih_ok_fd _ _ _ _) hr (fun t2 hf2 hr2 => ?_)
        refine ih_seg (i1 := 5) 2 rfl ?_
        try simp only [xa_set, List.set_cons_zero, List.set_cons_succ, List.getElem?_cons_zero, List.getElem?_cons_succ]
        refine ih (k + 1) t2 (by rw [← hs]; omega) (fun i hi => (hf2 i hi).trans (hf i hi)) ?_
        rw [ih_fd, if_pos (by cases q : v.testBit k <;> simp [gb, q] at * )]
        have e1 : t1 (7 + 5 * c + 1) k = t (8 + 5 * c) k := by rw [hs1, ih_a1]
        have e2 : t1 (7 + 5 * c + 2) k = t (9 + 5 * c) k := by rw [hs2, ih_a2]
        rw [e1, e2] at hr2
        exact hr2

theorem c_meaningOf {X : List Int} {t : ih_S} {Q : Option xa_V → ih_S → Prop} {c v : Nat} (hc : c < 4) (G : ih_PG t c) (hv : v < 65536) (K : ∀ t1, (∀ i, i ≠ 93 + 3 * c → t1 i = t i) → Q (some (xI (ih_mo t c v.testBit))) t1) : ih_Wp X 11 0 [xR (91 + 3 * c), xI v, xC 1] [] t Q := by
  have g1 := G.sz
  refine ih_seg (i1 := 1) 1 rfl ?_
  refine ih_getR rfl (by first | rfl | exact ih_fC3 (by assumption)) ?_
  refine ih_iv0 27 rfl rfl (by first | rfl | exact ih_kP (by assumption) | exact ih_kC (by assumption) | exact ih_kN (by assumption) | exact ih_kS (by assumption) | exact ih_kW (by assumption)) (Nat.le_of_ble_eq_true rfl) (Nat.le_of_ble_eq_true rfl) rfl ?_
  refine c_begin hc (fun t1 hf hr => ?_)
  refine ih_seg (i1 := 5) 2 rfl ?_
  try simp only [xa_set, List.set_cons_zero, List.set_cons_succ, List.getElem?_cons_zero, List.getElem?_cons_succ]
  exact c_meaningOf_l hc G hv K (t (7 + 5 * c) 4).toNat 0 t1 (by omega) hf hr


theorem c_meaningAt {X : List Int} {t : ih_S} {Q : Option xa_V → ih_S → Prop} {c : Nat} {h : Int} (hc : c < 4) (G : ih_PG t c) (E : ih_EG t c) (hh : 0 ≤ h ∧ h < 30000) (K : ∀ t1, (∀ i, i ≠ 93 + 3 * c → t1 i = t i) → Q (some (xI (ih_mo t c (ih_sf t c h)))) t1) : ih_Wp X 13 0 [xR (91 + 3 * c), xI h] [] t Q := by
  have g1 := G.sz
  have ev : ih_mo t c (ih_set (ih_sf t c h) (t (7 + 5 * c) 4).toNat).testBit = ih_mo t c (ih_sf t c h) := by
    exact congrArg ih_val (ih_fd_congr (fun k hk => ⟨rfl, rfl, by rw [ih_set_bit]; simp [hk]⟩))
  refine ih_seg (i1 := 3) 3 rfl ?_
  refine ih_iv1 10 rfl rfl (by first | rfl | exact ih_kP (by assumption) | exact ih_kC (by assumption) | exact ih_kN (by assumption) | exact ih_kS (by assumption) | exact ih_kW (by assumption)) (Nat.le_of_ble_eq_true rfl) (Nat.le_of_ble_eq_true rfl) rfl ?_
  refine c_seenAt hc G E hh ?_
  refine ih_iv1 11 rfl rfl (by first | rfl | exact ih_kP (by assumption) | exact ih_kC (by assumption) | exact ih_kN (by assumption) | exact ih_kS (by assumption) | exact ih_kW (by assumption)) (Nat.le_of_ble_eq_true rfl) (Nat.le_of_ble_eq_true rfl) rfl ?_
  refine c_meaningOf hc G (ih_set_lt12 _ (by omega)) (fun t1 hf => ?_)
  refine ih_ret rfl rfl ?_
  have := K t1 hf
  rw [← ev] at this
  exact this

