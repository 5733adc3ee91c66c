/-! worlds that become others; image, undo, tear; scratch, hold, clerk; feed, wipe -/
theorem ih_P_dj {P R : Nat} (hP : ih_isP P) (hR : ih_isP R) (h : P ≠ R) : P + 5 ≤ R ∨ R + 5 ≤ P := (by decide +kernel : ∀ P ∈ ih_Ps, ∀ R ∈ ih_Ps, P ≠ R → P + 5 ≤ R ∨ R + 5 ≤ P) P hP R hR h
theorem ih_W_dj {P R : Nat} (hP : ih_isW P) (hR : ih_isW R) (h : P ≠ R) : P + 26 ≤ R ∨ R + 26 ≤ P := (by decide +kernel : ∀ P ∈ [1, 27, 53], ∀ R ∈ [1, 27, 53], P ≠ R → P + 26 ≤ R ∨ R + 26 ≤ P) P hP R hR h
/-- the paper P holds at t2 what R held at t -/
def ih_pe (t t2 : ih_S) (P R : Nat) : Prop := t2 P 4 = t R 4 ∧ t2 P 5 = t R 5 ∧ ∀ k : Nat, (k : Int) < t R 4 → t2 (P + 1) k = t (R + 1) k ∧ t2 (P + 2) k = t (R + 2) k ∧ t2 (P + 3) k = t (R + 3) k ∧ t2 (P + 4) k = t (R + 4) k

theorem c_pbecome_l {X : List Int} {t : ih_S} {Q : Option xa_V → ih_S → Prop} {P R : Nat} (hP : ih_isP P) (hR : ih_isP R) (hj : P + 5 ≤ R ∨ R + 5 ≤ P) (hz : 0 ≤ t R 4 ∧ t R 4 ≤ 12) (hl : t R 5 = 0 ∨ t R 5 = 1) (K : ∀ t1, (∀ j, ¬ (P ≤ j ∧ j ≤ P + 4) → t1 j = t j) → ih_pe t t1 P R → Q none t1)  : ∀ (d : Nat) (k : Nat) (t1 : ih_S) (hd : (k : Int) + d = t R 4) (hf : ∀ j, ¬ (P + 1 ≤ j ∧ j ≤ P + 4) → t1 j = t j) (hr : ∀ i : Nat, i < k → t1 (P + 1) i = t (R + 1) i ∧ t1 (P + 2) i = t (R + 2) i ∧ t1 (P + 3) i = t (R + 3) i ∧ t1 (P + 4) i = t (R + 4) i), ih_Wp X 25 2 [xR P, xR R, xI k] [] t1 Q := by
  intro d
  induction d with
  | zero =>
    intro k t1 hd hf hr
    have es : t1 R = t R := hf _ (by omega)
    rw [← es] at hd hz hl
    have hfit : xa_fit 1 (xI (t1 R 5)) = true := by rcases hl with q | q <;> rw [q] <;> rfl
    refine ih_seg (i1 := 4) 2 rfl ?_
    refine ih_getI rfl (by first | rfl | exact ih_fP4 (ih_P_w0 hc) | exact ih_fP4 (by assumption)) ?_
    refine ih_icmp_ge rfl (by omega) (by omega) (fun w1 => ?_) (fun w1 => ?_)
    · refine ih_seg (i1 := 42) 2 rfl ?_
      refine ih_getI rfl (by first | rfl | exact ih_fP4 (ih_P_w0 hc) | exact ih_fP4 (by assumption)) ?_
      skip
      refine ih_putI rfl (by first | rfl | exact ih_fP4 (ih_P_w0 hc) | exact ih_fP4 (by assumption)) rfl ?_
      refine ih_seg (i1 := 46) 2 rfl ?_
      refine ih_getI rfl (by first | rfl | exact ih_fP5 (ih_P_w0 hc) | exact ih_fP5 (by assumption)) ?_
      refine ih_putI rfl (by first | rfl | exact ih_fP5 (ih_P_w0 hc) | exact ih_fP5 (by assumption)) (by rw [ih_up_ne (by omega)]; exact hfit) ?_
      refine ih_retv rfl ?_
      refine K _ (fun j hj => ?_) ⟨?_, ?_, fun i hi => ?_⟩
      · rw [ih_up_ne (by omega), ih_up_ne (by omega)]
        exact hf j (by omega)
      · rw [ih_up_eq, ih_u1_ne (by decide), ih_up_eq, ih_u1_eq, es]
      · rw [ih_up_eq, ih_u1_eq, ih_up_ne (by omega), es]
      · rw [← es] at hi
        rw [ih_up_ne (by omega), ih_up_ne (by omega), ih_up_ne (by omega), ih_up_ne (by omega), ih_up_ne (by omega), ih_up_ne (by omega), ih_up_ne (by omega), ih_up_ne (by omega)]
        exact hr i (by omega)
    · exfalso
      omega

  | succ d ih =>
    intro k t1 hd hf hr
    have es : t1 R = t R := hf _ (by omega)
    rw [← es] at hd hz hl
    have hfit : xa_fit 1 (xI (t1 R 5)) = true := by rcases hl with q | q <;> rw [q] <;> rfl
    refine ih_seg (i1 := 4) 2 rfl ?_
    refine ih_getI rfl (by first | rfl | exact ih_fP4 (ih_P_w0 hc) | exact ih_fP4 (by assumption)) ?_
    refine ih_icmp_ge rfl (by omega) (by omega) (fun w1 => ?_) (fun w1 => ?_)
    · refine ih_seg (i1 := 42) 2 rfl ?_
      refine ih_getI rfl (by first | rfl | exact ih_fP4 (ih_P_w0 hc) | exact ih_fP4 (by assumption)) ?_
      refine ih_putI rfl (by first | rfl | exact ih_fP4 (ih_P_w0 hc) | exact ih_fP4 (by assumption)) rfl ?_
      refine ih_seg (i1 := 46) 2 rfl ?_
      refine ih_getI rfl (by first | rfl | exact ih_fP5 (ih_P_w0 hc) | exact ih_fP5 (by assumption)) ?_
      refine ih_putI rfl (by first | rfl | exact ih_fP5 (ih_P_w0 hc) | exact ih_fP5 (by assumption)) (by rw [ih_up_ne (by omega)]; exact hfit) ?_
      refine ih_retv rfl ?_
      exfalso
      omega
    · refine ih_seg (i1 := 7) 1 rfl ?_
      refine ih_getR rfl (by first | rfl | exact ih_fP0 (ih_P_w0 hc) | exact ih_fP0 (by assumption)) ?_
      refine ih_seg (i1 := 10) 2 rfl ?_
      refine ih_getR rfl (by first | rfl | exact ih_fP0 (ih_P_w0 hc) | exact ih_fP0 (by assumption)) ?_
      refine ih_seg (i1 := 12) 1 rfl ?_
      refine ih_iald rfl (by first | rfl | exact ih_lP1 (ih_P_w0 hc) | exact ih_lP2 (ih_P_w0 hc) | exact ih_lP3 (ih_P_w0 hc) | exact ih_lP4 (ih_P_w0 hc) |  exact ih_lP1 (by assumption) | exact ih_lP2 (by assumption) | exact ih_lP3 (by assumption) | exact ih_lP4 (by assumption) | exact ih_lC1 (by assumption) | exact ih_lS1 (by assumption) | exact ih_lW1 (by assumption) | exact ih_lW2 (by assumption) | exact ih_lW4 (by assumption) | exact ih_lW5 (by assumption)) (by omega) (by omega) (k := ?_)
      refine ih_iast rfl (by first | rfl | exact ih_lP1 (ih_P_w0 hc) | exact ih_lP2 (ih_P_w0 hc) | exact ih_lP3 (ih_P_w0 hc) | exact ih_lP4 (ih_P_w0 hc) |  exact ih_lP1 (by assumption) | exact ih_lP2 (by assumption) | exact ih_lP3 (by assumption) | exact ih_lP4 (by assumption) | exact ih_lC1 (by assumption) | exact ih_lS1 (by assumption) | exact ih_lW1 (by assumption) | exact ih_lW2 (by assumption) | exact ih_lW4 (by assumption) | exact ih_lW5 (by assumption)) (by omega) (by omega) (k := ?_)
      refine ih_seg (i1 := 15) 1 rfl ?_
      refine ih_getR rfl (by first | rfl | exact ih_fP1 (ih_P_w0 hc) | exact ih_fP1 (by assumption)) ?_
      refine ih_seg (i1 := 18) 2 rfl ?_
      refine ih_getR rfl (by first | rfl | exact ih_fP1 (ih_P_w0 hc) | exact ih_fP1 (by assumption)) ?_
      refine ih_seg (i1 := 20) 1 rfl ?_
      refine ih_iald rfl (by first | rfl | exact ih_lP1 (ih_P_w0 hc) | exact ih_lP2 (ih_P_w0 hc) | exact ih_lP3 (ih_P_w0 hc) | exact ih_lP4 (ih_P_w0 hc) |  exact ih_lP1 (by assumption) | exact ih_lP2 (by assumption) | exact ih_lP3 (by assumption) | exact ih_lP4 (by assumption) | exact ih_lC1 (by assumption) | exact ih_lS1 (by assumption) | exact ih_lW1 (by assumption) | exact ih_lW2 (by assumption) | exact ih_lW4 (by assumption) | exact ih_lW5 (by assumption)) (by omega) (by omega) (k := ?_)
      refine ih_iast rfl (by first | rfl | exact ih_lP1 (ih_P_w0 hc) | exact ih_lP2 (ih_P_w0 hc) | exact ih_lP3 (ih_P_w0 hc) | exact ih_lP4 (ih_P_w0 hc) |  exact ih_lP1 (by assumption) | exact ih_lP2 (by assumption) | exact ih_lP3 (by assumption) | exact ih_lP4 (by assumption) | exact ih_lC1 (by assumption) | exact ih_lS1 (by assumption) | exact ih_lW1 (by assumption) | exact ih_lW2 (by assumption) | exact ih_lW4 (by assumption) | exact ih_lW5 (by assumption)) (by omega) (by omega) (k := ?_)
      refine ih_seg (i1 := 23) 1 rfl ?_
      refine ih_getR rfl (by first | rfl | exact ih_fP2 (ih_P_w0 hc) | exact ih_fP2 (by assumption)) ?_
      refine ih_seg (i1 := 26) 2 rfl ?_
      refine ih_getR rfl (by first | rfl | exact ih_fP2 (ih_P_w0 hc) | exact ih_fP2 (by assumption)) ?_
      refine ih_seg (i1 := 28) 1 rfl ?_
      refine ih_iald rfl (by first | rfl | exact ih_lP1 (ih_P_w0 hc) | exact ih_lP2 (ih_P_w0 hc) | exact ih_lP3 (ih_P_w0 hc) | exact ih_lP4 (ih_P_w0 hc) |  exact ih_lP1 (by assumption) | exact ih_lP2 (by assumption) | exact ih_lP3 (by assumption) | exact ih_lP4 (by assumption) | exact ih_lC1 (by assumption) | exact ih_lS1 (by assumption) | exact ih_lW1 (by assumption) | exact ih_lW2 (by assumption) | exact ih_lW4 (by assumption) | exact ih_lW5 (by assumption)) (by omega) (by omega) (k := ?_)
      refine ih_iast rfl (by first | rfl | exact ih_lP1 (ih_P_w0 hc) | exact ih_lP2 (ih_P_w0 hc) | exact ih_lP3 (ih_P_w0 hc) | exact ih_lP4 (ih_P_w0 hc) |  exact ih_lP1 (by assumption) | exact ih_lP2 (by assumption) | exact ih_lP3 (by assumption) | exact ih_lP4 (by assumption) | exact ih_lC1 (by assumption) | exact ih_lS1 (by assumption) | exact ih_lW1 (by assumption) | exact ih_lW2 (by assumption) | exact ih_lW4 (by assumption) | exact ih_lW5 (by assumption)) (by omega) (by omega) (k := ?_)
      refine ih_seg (i1 := 31) 1 rfl ?_
      refine ih_getR rfl (by first | rfl | exact ih_fP3 (ih_P_w0 hc) | exact ih_fP3 (by assumption)) ?_
      refine ih_seg (i1 := 34) 2 rfl ?_
      refine ih_getR rfl (by first | rfl | exact ih_fP3 (ih_P_w0 hc) | exact ih_fP3 (by assumption)) ?_
      refine ih_seg (i1 := 36) 1 rfl ?_
      refine ih_iald rfl (by first | rfl | exact ih_lP1 (ih_P_w0 hc) | exact ih_lP2 (ih_P_w0 hc) | exact ih_lP3 (ih_P_w0 hc) | exact ih_lP4 (ih_P_w0 hc) |  exact ih_lP1 (by assumption) | exact ih_lP2 (by assumption) | exact ih_lP3 (by assumption) | exact ih_lP4 (by assumption) | exact ih_lC1 (by assumption) | exact ih_lS1 (by assumption) | exact ih_lW1 (by assumption) | exact ih_lW2 (by assumption) | exact ih_lW4 (by assumption) | exact ih_lW5 (by assumption)) (by omega) (by omega) (k := ?_)
      refine ih_iast rfl (by first | rfl | exact ih_lP1 (ih_P_w0 hc) | exact ih_lP2 (ih_P_w0 hc) | exact ih_lP3 (ih_P_w0 hc) | exact ih_lP4 (ih_P_w0 hc) |  exact ih_lP1 (by assumption) | exact ih_lP2 (by assumption) | exact ih_lP3 (by assumption) | exact ih_lP4 (by assumption) | exact ih_lC1 (by assumption) | exact ih_lS1 (by assumption) | exact ih_lW1 (by assumption) | exact ih_lW2 (by assumption) | exact ih_lW4 (by assumption) | exact ih_lW5 (by assumption)) (by omega) (by omega) (k := ?_)
      refine ih_seg (i1 := 2) 2 rfl ?_
      try simp only [xa_set, List.set_cons_zero, List.set_cons_succ, List.getElem?_cons_zero, List.getElem?_cons_succ]
      refine ih (k + 1) _ (by rw [← es]; omega) (fun j hj => ?_) (fun i hi => ?_)
      · rw [ih_up_ne (by omega), ih_up_ne (by omega), ih_up_ne (by omega), ih_up_ne (by omega)]
        exact hf j hj
      · simp only [ih_up_eq, ih_up_ne (show P + 1 ≠ P + 2 by omega), ih_up_ne (show P + 1 ≠ P + 3 by omega), ih_up_ne (show P + 1 ≠ P + 4 by omega), ih_up_ne (show P + 2 ≠ P + 1 by omega), ih_up_ne (show P + 2 ≠ P + 3 by omega), ih_up_ne (show P + 2 ≠ P + 4 by omega), ih_up_ne (show P + 3 ≠ P + 1 by omega), ih_up_ne (show P + 3 ≠ P + 2 by omega), ih_up_ne (show P + 3 ≠ P + 4 by omega), ih_up_ne (show P + 4 ≠ P + 1 by omega), ih_up_ne (show P + 4 ≠ P + 2 by omega), ih_up_ne (show P + 4 ≠ P + 3 by omega), ih_up_ne (show R + 1 ≠ P + 1 by omega), ih_up_ne (show R + 1 ≠ P + 2 by omega), ih_up_ne (show R + 1 ≠ P + 3 by omega), ih_up_ne (show R + 1 ≠ P + 4 by omega), ih_up_ne (show R + 2 ≠ P + 1 by omega), ih_up_ne (show R + 2 ≠ P + 2 by omega), ih_up_ne (show R + 2 ≠ P + 3 by omega), ih_up_ne (show R + 2 ≠ P + 4 by omega), ih_up_ne (show R + 3 ≠ P + 1 by omega), ih_up_ne (show R + 3 ≠ P + 2 by omega), ih_up_ne (show R + 3 ≠ P + 3 by omega), ih_up_ne (show R + 3 ≠ P + 4 by omega), ih_up_ne (show R + 4 ≠ P + 1 by omega), ih_up_ne (show R + 4 ≠ P + 2 by omega), ih_up_ne (show R + 4 ≠ P + 3 by omega), ih_up_ne (show R + 4 ≠ P + 4 by omega)]
        by_cases e : i = k
        · subst e
          simp only [ih_u1_eq]
          rw [hf (R + 1) (by omega), hf (R + 2) (by omega), hf (R + 3) (by omega), hf (R + 4) (by omega)]
          exact ⟨rfl, rfl, rfl, rfl⟩
        · rw [ih_u1_ne (by omega), ih_u1_ne (by omega), ih_u1_ne (by omega), ih_u1_ne (by omega)]
          exact hr i (by omega)


theorem c_pbecome {X : List Int} {t : ih_S} {Q : Option xa_V → ih_S → Prop} {P R : Nat} (hP : ih_isP P) (hR : ih_isP R) (hj : P + 5 ≤ R ∨ R + 5 ≤ P) (hz : 0 ≤ t R 4 ∧ t R 4 ≤ 12) (hl : t R 5 = 0 ∨ t R 5 = 1) (K : ∀ t1, (∀ j, ¬ (P ≤ j ∧ j ≤ P + 4) → t1 j = t j) → ih_pe t t1 P R → Q none t1)  : ih_Wp X 25 0 [xR P, xR R, xC 1] [] t Q := by
  refine ih_seg (i1 := 2) 2 rfl ?_
  try simp only [xa_set, List.set_cons_zero, List.set_cons_succ, List.getElem?_cons_zero, List.getElem?_cons_succ]
  exact c_pbecome_l hP hR hj hz hl K (t R 4).toNat 0 t (by omega) (fun _ _ => rfl) (fun i hi => by omega)


theorem c_wbecome_l {X : List Int} {t : ih_S} {Q : Option xa_V → ih_S → Prop} {B D : Nat} (hB : ih_isW B) (hD : ih_isW D) (hj : B + 26 ≤ D ∨ D + 26 ≤ B) (hz : ∀ p : Nat, p < 4 → (0 ≤ t (D + 6 + 5 * p) 4 ∧ t (D + 6 + 5 * p) 4 ≤ 12) ∧ (t (D + 6 + 5 * p) 5 = 0 ∨ t (D + 6 + 5 * p) 5 = 1)) (K : ∀ t1, (∀ j, ¬ (B = j ∨ (B + 6 ≤ j ∧ j ≤ B + 25)) → t1 j = t j) → t1 B 5 = t D 5 → t1 B 6 = t D 6 → (∀ p : Nat, p < 4 → ih_pe t t1 (B + 6 + 5 * p) (D + 6 + 5 * p)) → Q none t1)  : ∀ (d : Nat) (k : Nat) (t1 : ih_S) (hd : k + d = 4) (hf : ∀ j, ¬ (B + 6 ≤ j ∧ j < B + 6 + 5 * k) → t1 j = t j) (hr : ∀ p : Nat, p < k → ih_pe t t1 (B + 6 + 5 * p) (D + 6 + 5 * p)), ih_Wp X 54 34 [xR B, xR D, xI k] [] t1 Q := by
  intro d
  induction d with
  | zero =>
    intro k t1 hd hf hr
    obtain rfl : k = 4 := by omega
    refine ih_seg (i1 := 36) 2 rfl ?_
    refine ih_icmp_ge rfl (by omega) (by omega) (fun w1 => ?_) (fun w1 => ?_)
    · refine ih_seg (i1 := 50) 2 rfl ?_
      refine ih_getI rfl (by first | rfl | exact ih_fW5 (by assumption)) ?_
      refine ih_putI rfl (by first | rfl | exact ih_fW5 (by assumption)) rfl ?_
      refine ih_seg (i1 := 54) 2 rfl ?_
      refine ih_getI rfl (by first | rfl | exact ih_fW6 (by assumption)) ?_
      refine ih_putI rfl (by first | rfl | exact ih_fW6 (by assumption)) rfl ?_
      refine ih_retv rfl ?_
      refine K _ (fun j hj => ?_) ?_ ?_ (fun p hp => ?_)
      · rw [ih_up_ne (by omega), ih_up_ne (by omega)]
        exact hf j (by omega)
      · rw [ih_up_eq, ih_u1_ne (by decide), ih_up_eq, ih_u1_eq, hf D (by omega)]
      · rw [ih_up_eq, ih_u1_eq, ih_up_ne (by omega), hf D (by omega)]
      · obtain ⟨a1, a2, a3⟩ := hr p (by omega)
        refine ⟨?_, ?_, fun i hi => ?_⟩
        · rw [ih_up_ne (by omega), ih_up_ne (by omega)]
          exact a1
        · rw [ih_up_ne (by omega), ih_up_ne (by omega)]
          exact a2
        · rw [ih_up_ne (by omega), ih_up_ne (by omega), ih_up_ne (by omega), ih_up_ne (by omega), ih_up_ne (by omega), ih_up_ne (by omega), ih_up_ne (by omega), ih_up_ne (by omega)]
          exact a3 i hi
    · exfalso
      omega

  | succ d ih =>
    intro k t1 hd hf hr
    have hc : k < 4 := by omega
    have hP1 := ih_P_of hB hc
    have hP2 := ih_P_of hD hc
    have zk := hz k hc
    rw [← hf (D + 6 + 5 * k) (by omega)] at zk
    refine ih_seg (i1 := 36) 2 rfl ?_
    refine ih_icmp_ge rfl (by omega) (by omega) (fun w1 => ?_) (fun w1 => ?_)
    · refine ih_seg (i1 := 50) 2 rfl ?_
      refine ih_getI rfl (by first | rfl | exact ih_fW5 (by assumption)) ?_
      refine ih_putI rfl (by first | rfl | exact ih_fW5 (by assumption)) rfl ?_
      refine ih_seg (i1 := 54) 2 rfl ?_
      refine ih_getI rfl (by first | rfl | exact ih_fW6 (by assumption)) ?_
      refine ih_putI rfl (by first | rfl | exact ih_fW6 (by assumption)) rfl ?_
      refine ih_retv rfl ?_
      exfalso
      omega
    · refine ih_seg (i1 := 38) 1 rfl ?_
      refine ih_getR rfl (by first | rfl | exact ih_fW2 (by assumption)) ?_
      refine ih_seg (i1 := 40) 1 rfl ?_
      refine ih_aald rfl (ih_eW hB hc) ?_
      refine ih_seg (i1 := 42) 1 rfl ?_
      refine ih_getR rfl (by first | rfl | exact ih_fW2 (by assumption)) ?_
      refine ih_seg (i1 := 44) 1 rfl ?_
      refine ih_aald rfl (ih_eW hD hc) ?_
      refine ih_iv1 25 rfl rfl (by first | rfl | exact ih_kP (ih_P_w0 hc) |  exact ih_kP (by assumption) | exact ih_kC (by assumption) | exact ih_kN (by assumption) | exact ih_kS (by assumption) | exact ih_kW (by assumption)) (Nat.le_of_ble_eq_true rfl) (Nat.le_of_ble_eq_true rfl) rfl ?_
      refine c_pbecome hP1 hP2 (by omega) zk.1 zk.2 (fun t2 f2 q2 => ?_)
      refine ih_seg (i1 := 34) 2 rfl ?_
      try simp only [xa_set, List.set_cons_zero, List.set_cons_succ, List.getElem?_cons_zero, List.getElem?_cons_succ]
      refine ih (k + 1) t2 (by omega) (fun j hj => (f2 j (by omega)).trans (hf j (by omega))) (fun p hp => ?_)
      by_cases e : p = k
      · subst e
        obtain ⟨a1, a2, a3⟩ := q2
        rw [hf (D + 6 + 5 * p) (by omega)] at a1 a2 a3
        refine ⟨a1, a2, fun i hi => ?_⟩
        have := a3 i hi
        rw [hf (D + 6 + 5 * p + 1) (by omega), hf (D + 6 + 5 * p + 2) (by omega), hf (D + 6 + 5 * p + 3) (by omega), hf (D + 6 + 5 * p + 4) (by omega)] at this
        exact this
      · obtain ⟨a1, a2, a3⟩ := hr p (by omega)
        refine ⟨?_, ?_, fun i hi => ?_⟩
        · rw [f2 _ (by omega)]
          exact a1
        · rw [f2 _ (by omega)]
          exact a2
        · rw [f2 _ (by omega), f2 _ (by omega), f2 _ (by omega), f2 _ (by omega)]
          exact a3 i hi


theorem c_become {X : List Int} {t : ih_S} {Q : Option xa_V → ih_S → Prop} {s : Int → Int} {B D : Nat} (hB : ih_isW B) (hD : ih_isW D) (hj : B + 26 ≤ D ∨ D + 26 ≤ B) (W : ih_Wr t D s) (G : ih_Gd s) (K : ∀ t1, (∀ j, ¬ (B ≤ j ∧ j < B + 26) → t1 j = t j) → ih_Wr t1 B s → Q none t1) : ih_Wp X 54 0 [xR B, xR D, xC 1] [] t Q := by
  have cp : ∀ (f g : Int → Int) (n x : Int), 0 ≤ x → x < n → ih_cp f g 0 0 n x = f x := by
    intro f g n x h0 h1
    unfold ih_cp
    rw [if_pos (by omega)]
    exact congrArg f (by omega)
  refine ih_seg (i1 := 1) 1 rfl ?_
  refine ih_getR rfl (by first | rfl | exact ih_fW0 (by assumption)) ?_
  refine ih_seg (i1 := 4) 2 rfl ?_
  refine ih_getR rfl (by first | rfl | exact ih_fW0 (by assumption)) ?_
  refine ih_seg (i1 := 7) 2 rfl ?_
  refine ih_acp rfl (by first | rfl | exact ih_lP1 (ih_P_w0 hc) | exact ih_lP2 (ih_P_w0 hc) | exact ih_lP3 (ih_P_w0 hc) | exact ih_lP4 (ih_P_w0 hc) |  exact ih_lP1 (by assumption) | exact ih_lP2 (by assumption) | exact ih_lP3 (by assumption) | exact ih_lP4 (by assumption) | exact ih_lC1 (by assumption) | exact ih_lS1 (by assumption) | exact ih_lW1 (by assumption) | exact ih_lW2 (by assumption) | exact ih_lW4 (by assumption) | exact ih_lW5 (by assumption)) (by first | rfl | exact ih_lP1 (ih_P_w0 hc) | exact ih_lP2 (ih_P_w0 hc) | exact ih_lP3 (ih_P_w0 hc) | exact ih_lP4 (ih_P_w0 hc) |  exact ih_lP1 (by assumption) | exact ih_lP2 (by assumption) | exact ih_lP3 (by assumption) | exact ih_lP4 (by assumption) | exact ih_lC1 (by assumption) | exact ih_lS1 (by assumption) | exact ih_lW1 (by assumption) | exact ih_lW2 (by assumption) | exact ih_lW4 (by assumption) | exact ih_lW5 (by assumption)) (by omega) (by omega) (by omega) (by omega) (by omega) (Nat.le_of_ble_eq_true rfl) (k := ?_)
  refine ih_seg (i1 := 9) 1 rfl ?_
  refine ih_getR rfl (by first | rfl | exact ih_fW1 (by assumption)) ?_
  refine ih_seg (i1 := 12) 2 rfl ?_
  refine ih_getR rfl (by first | rfl | exact ih_fW1 (by assumption)) ?_
  refine ih_seg (i1 := 15) 2 rfl ?_
  refine ih_acp rfl (by first | rfl | exact ih_lP1 (ih_P_w0 hc) | exact ih_lP2 (ih_P_w0 hc) | exact ih_lP3 (ih_P_w0 hc) | exact ih_lP4 (ih_P_w0 hc) |  exact ih_lP1 (by assumption) | exact ih_lP2 (by assumption) | exact ih_lP3 (by assumption) | exact ih_lP4 (by assumption) | exact ih_lC1 (by assumption) | exact ih_lS1 (by assumption) | exact ih_lW1 (by assumption) | exact ih_lW2 (by assumption) | exact ih_lW4 (by assumption) | exact ih_lW5 (by assumption)) (by first | rfl | exact ih_lP1 (ih_P_w0 hc) | exact ih_lP2 (ih_P_w0 hc) | exact ih_lP3 (ih_P_w0 hc) | exact ih_lP4 (ih_P_w0 hc) |  exact ih_lP1 (by assumption) | exact ih_lP2 (by assumption) | exact ih_lP3 (by assumption) | exact ih_lP4 (by assumption) | exact ih_lC1 (by assumption) | exact ih_lS1 (by assumption) | exact ih_lW1 (by assumption) | exact ih_lW2 (by assumption) | exact ih_lW4 (by assumption) | exact ih_lW5 (by assumption)) (by omega) (by omega) (by omega) (by omega) (by omega) (Nat.le_of_ble_eq_true rfl) (k := ?_)
  refine ih_seg (i1 := 17) 1 rfl ?_
  refine ih_getR rfl (by first | rfl | exact ih_fW3 (by assumption)) ?_
  refine ih_seg (i1 := 20) 2 rfl ?_
  refine ih_getR rfl (by first | rfl | exact ih_fW3 (by assumption)) ?_
  refine ih_seg (i1 := 23) 2 rfl ?_
  refine ih_acp rfl (by first | rfl | exact ih_lP1 (ih_P_w0 hc) | exact ih_lP2 (ih_P_w0 hc) | exact ih_lP3 (ih_P_w0 hc) | exact ih_lP4 (ih_P_w0 hc) |  exact ih_lP1 (by assumption) | exact ih_lP2 (by assumption) | exact ih_lP3 (by assumption) | exact ih_lP4 (by assumption) | exact ih_lC1 (by assumption) | exact ih_lS1 (by assumption) | exact ih_lW1 (by assumption) | exact ih_lW2 (by assumption) | exact ih_lW4 (by assumption) | exact ih_lW5 (by assumption)) (by first | rfl | exact ih_lP1 (ih_P_w0 hc) | exact ih_lP2 (ih_P_w0 hc) | exact ih_lP3 (ih_P_w0 hc) | exact ih_lP4 (ih_P_w0 hc) |  exact ih_lP1 (by assumption) | exact ih_lP2 (by assumption) | exact ih_lP3 (by assumption) | exact ih_lP4 (by assumption) | exact ih_lC1 (by assumption) | exact ih_lS1 (by assumption) | exact ih_lW1 (by assumption) | exact ih_lW2 (by assumption) | exact ih_lW4 (by assumption) | exact ih_lW5 (by assumption)) (by omega) (by omega) (by omega) (by omega) (by omega) (Nat.le_of_ble_eq_true rfl) (k := ?_)
  refine ih_seg (i1 := 25) 1 rfl ?_
  refine ih_getR rfl (by first | rfl | exact ih_fW4 (by assumption)) ?_
  refine ih_seg (i1 := 28) 2 rfl ?_
  refine ih_getR rfl (by first | rfl | exact ih_fW4 (by assumption)) ?_
  refine ih_seg (i1 := 31) 2 rfl ?_
  refine ih_acp rfl (by first | rfl | exact ih_lP1 (ih_P_w0 hc) | exact ih_lP2 (ih_P_w0 hc) | exact ih_lP3 (ih_P_w0 hc) | exact ih_lP4 (ih_P_w0 hc) |  exact ih_lP1 (by assumption) | exact ih_lP2 (by assumption) | exact ih_lP3 (by assumption) | exact ih_lP4 (by assumption) | exact ih_lC1 (by assumption) | exact ih_lS1 (by assumption) | exact ih_lW1 (by assumption) | exact ih_lW2 (by assumption) | exact ih_lW4 (by assumption) | exact ih_lW5 (by assumption)) (by first | rfl | exact ih_lP1 (ih_P_w0 hc) | exact ih_lP2 (ih_P_w0 hc) | exact ih_lP3 (ih_P_w0 hc) | exact ih_lP4 (ih_P_w0 hc) |  exact ih_lP1 (by assumption) | exact ih_lP2 (by assumption) | exact ih_lP3 (by assumption) | exact ih_lP4 (by assumption) | exact ih_lC1 (by assumption) | exact ih_lS1 (by assumption) | exact ih_lW1 (by assumption) | exact ih_lW2 (by assumption) | exact ih_lW4 (by assumption) | exact ih_lW5 (by assumption)) (by omega) (by omega) (by omega) (by omega) (by omega) (Nat.le_of_ble_eq_true rfl) (k := ?_)
  refine ih_seg (i1 := 34) 2 rfl ?_
  try simp only [xa_set, List.set_cons_zero, List.set_cons_succ, List.getElem?_cons_zero, List.getElem?_cons_succ]
  simp only [ih_uf_ne (show D + 1 ≠ B + 1 by omega), ih_uf_ne (show D + 1 ≠ B + 2 by omega), ih_uf_ne (show D + 1 ≠ B + 4 by omega), ih_uf_ne (show D + 1 ≠ B + 5 by omega), ih_uf_ne (show D + 2 ≠ B + 1 by omega), ih_uf_ne (show D + 2 ≠ B + 2 by omega), ih_uf_ne (show D + 2 ≠ B + 4 by omega), ih_uf_ne (show D + 2 ≠ B + 5 by omega), ih_uf_ne (show D + 4 ≠ B + 1 by omega), ih_uf_ne (show D + 4 ≠ B + 2 by omega), ih_uf_ne (show D + 4 ≠ B + 4 by omega), ih_uf_ne (show D + 4 ≠ B + 5 by omega), ih_uf_ne (show D + 5 ≠ B + 1 by omega), ih_uf_ne (show D + 5 ≠ B + 2 by omega), ih_uf_ne (show D + 5 ≠ B + 4 by omega), ih_uf_ne (show D + 5 ≠ B + 5 by omega)]
  refine c_wbecome_l hB hD hj (fun p hp => ?_) (fun t1 f1 n1 n2 q1 => ?_) 4 0 _ (by omega) (fun _ _ => rfl) (fun p hp => by omega)
  · rw [ih_uf_ne (by omega), ih_uf_ne (by omega), ih_uf_ne (by omega), ih_uf_ne (by omega), W.sz p hp, W.lit p hp]
    exact ⟨(G.pap p hp).sz, (G.pap p hp).lit⟩
  · refine K t1 (fun j hj => ?_) ⟨?_, ?_, fun j h0 h1 => ?_, fun j h0 h1 => ?_, fun p hp => ?_, fun p hp => ?_, fun p k hp hk => ?_, fun p k hp hk => ?_, fun p k hp hk => ?_, fun p k hp hk => ?_, fun i h0 h1 => ?_⟩
    · rw [f1 j (by omega), ih_uf_ne (by omega), ih_uf_ne (by omega), ih_uf_ne (by omega), ih_uf_ne (by omega)]
    · rw [n1, ih_uf_ne (by omega), ih_uf_ne (by omega), ih_uf_ne (by omega), ih_uf_ne (by omega)]
      exact W.now
    · rw [n2, ih_uf_ne (by omega), ih_uf_ne (by omega), ih_uf_ne (by omega), ih_uf_ne (by omega)]
      exact W.z
    · rw [f1 _ (by omega), ih_uf_ne (by omega), ih_uf_ne (by omega), ih_uf_ne (by omega), ih_uf_eq, cp _ _ _ _ h0 h1]
      exact W.las j h0 h1
    · rw [f1 _ (by omega), ih_uf_ne (by omega), ih_uf_ne (by omega), ih_uf_eq, cp _ _ _ _ h0 h1]
      exact W.pri j h0 h1
    · rw [(q1 p hp).2.1, ih_uf_ne (by omega), ih_uf_ne (by omega), ih_uf_ne (by omega), ih_uf_ne (by omega)]
      exact W.lit p hp
    · rw [(q1 p hp).1, ih_uf_ne (by omega), ih_uf_ne (by omega), ih_uf_ne (by omega), ih_uf_ne (by omega)]
      exact W.sz p hp
    · have := ((q1 p hp).2.2 k (by rw [ih_uf_ne (by omega), ih_uf_ne (by omega), ih_uf_ne (by omega), ih_uf_ne (by omega), W.sz p hp]; exact hk)).1
      rw [ih_uf_ne (by omega), ih_uf_ne (by omega), ih_uf_ne (by omega), ih_uf_ne (by omega)] at this
      rw [show B + 7 + 5 * p = B + 6 + 5 * p + 1 by omega, this, show D + 6 + 5 * p + 1 = D + 7 + 5 * p by omega]
      exact W.kd p k hp hk
    · have := ((q1 p hp).2.2 k (by rw [ih_uf_ne (by omega), ih_uf_ne (by omega), ih_uf_ne (by omega), ih_uf_ne (by omega), W.sz p hp]; exact hk)).2.1
      rw [ih_uf_ne (by omega), ih_uf_ne (by omega), ih_uf_ne (by omega), ih_uf_ne (by omega)] at this
      rw [show B + 8 + 5 * p = B + 6 + 5 * p + 2 by omega, this, show D + 6 + 5 * p + 2 = D + 8 + 5 * p by omega]
      exact W.lt p k hp hk
    · have := ((q1 p hp).2.2 k (by rw [ih_uf_ne (by omega), ih_uf_ne (by omega), ih_uf_ne (by omega), ih_uf_ne (by omega), W.sz p hp]; exact hk)).2.2.1
      rw [ih_uf_ne (by omega), ih_uf_ne (by omega), ih_uf_ne (by omega), ih_uf_ne (by omega)] at this
      rw [show B + 9 + 5 * p = B + 6 + 5 * p + 3 by omega, this, show D + 6 + 5 * p + 3 = D + 9 + 5 * p by omega]
      exact W.ink p k hp hk
    · have := ((q1 p hp).2.2 k (by rw [ih_uf_ne (by omega), ih_uf_ne (by omega), ih_uf_ne (by omega), ih_uf_ne (by omega), W.sz p hp]; exact hk)).2.2.2
      rw [ih_uf_ne (by omega), ih_uf_ne (by omega), ih_uf_ne (by omega), ih_uf_ne (by omega)] at this
      rw [show B + 10 + 5 * p = B + 6 + 5 * p + 4 by omega, this, show D + 6 + 5 * p + 4 = D + 10 + 5 * p by omega]
      exact W.at_ p k hp hk
    · rw [f1 (B + 4) (by omega), f1 (B + 5) (by omega), ih_uf_ne (show B + 4 ≠ B + 5 by omega), ih_uf_eq, ih_uf_eq, cp _ _ _ _ h0 h1, cp _ _ _ _ h0 h1]
      exact W.spot i h0 h1


theorem c_op_image {X : List Int} {t : ih_S} {Q : Option xa_V → ih_S → Prop} {s : Int → Int} (W : ih_Wr t 1 s) (G : ih_Gd s) (K : ∀ t1, (∀ j, j ≠ 0 → ¬ (27 ≤ j ∧ j < 53) → t1 j = t j) → t1 0 10 = 1 → ih_Wr t1 27 s → Q (some (xI 1)) t1) : ih_Wp X 97 0 [xR 0] [] t Q := by
  refine ih_seg (i1 := 1) 1 rfl ?_
  refine ih_getR rfl rfl ?_
  refine ih_seg (i1 := 3) 1 rfl ?_
  refine ih_getR rfl rfl ?_
  refine ih_iv1 54 rfl rfl (by first | rfl | exact ih_kP (ih_P_w0 hc) |  exact ih_kP (by assumption) | exact ih_kC (by assumption) | exact ih_kN (by assumption) | exact ih_kS (by assumption) | exact ih_kW (by assumption)) (Nat.le_of_ble_eq_true rfl) (Nat.le_of_ble_eq_true rfl) rfl ?_
  refine c_become (B := 27) (D := 1) (by unfold ih_isW; decide) (by unfold ih_isW; decide) (by omega) W G (fun t1 f1 W1 => ?_)
  refine ih_seg (i1 := 7) 2 rfl ?_
  refine ih_putI rfl rfl rfl ?_
  refine ih_seg (i1 := 9) 1 rfl ?_
  refine ih_ret rfl rfl ?_
  refine K _ (fun j j1 j2 => ?_) ?_ ?_
  · rw [ih_up_ne j1]
    exact f1 j (by omega)
  · rw [ih_up_eq, ih_u1_eq]
  · exact ih_Wr_of W1 (fun j h0 h1 => ih_up_ne (by omega))


theorem c_op_undo {X : List Int} {t : ih_S} {Q : Option xa_V → ih_S → Prop} {s : Int → Int} (h : t 0 10 = 1) (W : ih_Wr t 27 s) (G : ih_Gd s) (K : ∀ t1, (∀ j, ¬ (1 ≤ j ∧ j < 27) → t1 j = t j) → ih_Wr t1 1 s → Q (some (xI (s 0))) t1) : ih_Wp X 98 0 [xR 0] [] t Q := by
  refine ih_seg (i1 := 1) 1 rfl ?_
  refine ih_getI rfl rfl ?_
  refine ih_ifc_ne rfl (by omega) (fun w1 => ?_) (fun w1 => ?_)
  · refine ih_seg (i1 := 8) 1 rfl ?_
    refine ih_getR rfl rfl ?_
    refine ih_seg (i1 := 10) 1 rfl ?_
    refine ih_getR rfl rfl ?_
    refine ih_iv1 54 rfl rfl (by first | rfl | exact ih_kP (ih_P_w0 hc) |  exact ih_kP (by assumption) | exact ih_kC (by assumption) | exact ih_kN (by assumption) | exact ih_kS (by assumption) | exact ih_kW (by assumption)) (Nat.le_of_ble_eq_true rfl) (Nat.le_of_ble_eq_true rfl) rfl ?_
    refine c_become (B := 1) (D := 27) (by unfold ih_isW; decide) (by unfold ih_isW; decide) (by omega) W G (fun t1 f1 W1 => ?_)
    refine ih_seg (i1 := 13) 1 rfl ?_
    refine ih_getR rfl rfl ?_
    refine ih_getI rfl (by first | rfl | exact ih_fW5 (by assumption)) ?_
    refine ih_ret rfl rfl ?_
    first
      | exact ih_Qe W1.now (K t1 f1 W1)
      | (exfalso
         omega)
  · refine ih_seg (i1 := 5) 2 rfl ?_
    refine ih_iv1 102 rfl rfl (by first | rfl | exact ih_kP (ih_P_w0 hc) |  exact ih_kP (by assumption) | exact ih_kC (by assumption) | exact ih_kN (by assumption) | exact ih_kS (by assumption) | exact ih_kW (by assumption)) (Nat.le_of_ble_eq_true rfl) (Nat.le_of_ble_eq_true rfl) rfl ?_
    refine c_finding (by omega) ?_
    refine ih_ret rfl rfl ?_
    first
      | exact ih_Qe W1.now (K t1 f1 W1)
      | (exfalso
         omega)


theorem c_op_undo0 {X : List Int} {t : ih_S} {Q : Option xa_V → ih_S → Prop} (h : t 0 10 = 0) (k : Q (some (xI (-1000004))) (ih_up t 84 3 (t 84 3 + 1))) : ih_Wp X 98 0 [xR 0] [] t Q := by
  refine ih_seg (i1 := 1) 1 rfl ?_
  refine ih_getI rfl rfl ?_
  refine ih_ifc_ne rfl (by omega) (fun w1 => ?_) (fun w1 => ?_)
  · exfalso
    omega
  · refine ih_seg (i1 := 5) 2 rfl ?_
    refine ih_iv1 102 rfl rfl (by first | rfl | exact ih_kP (ih_P_w0 hc) |  exact ih_kP (by assumption) | exact ih_kC (by assumption) | exact ih_kN (by assumption) | exact ih_kS (by assumption) | exact ih_kW (by assumption)) (Nat.le_of_ble_eq_true rfl) (Nat.le_of_ble_eq_true rfl) rfl ?_
    refine c_finding (by omega) ?_
    refine ih_ret rfl rfl ?_
    exact k


theorem c_op_tear {X : List Int} {t : ih_S} {Q : Option xa_V → ih_S → Prop} (h : t 0 10 = 0 ∨ t 0 10 = 1) (k : Q (some (xI (t 0 10))) (ih_up t 0 10 0)) : ih_Wp X 99 0 [xR 0, xC 1] [] t Q := by
  refine ih_seg (i1 := 1) 1 rfl ?_
  refine ih_getI rfl rfl ?_
  refine ih_seg (i1 := 5) 3 rfl ?_
  try simp only [xa_set, List.set_cons_zero, List.set_cons_succ, List.getElem?_cons_zero, List.getElem?_cons_succ]
  refine ih_putI rfl rfl rfl ?_
  refine ih_seg (i1 := 7) 1 rfl ?_
  refine ih_ifc_eq rfl (by omega) (fun w1 => ?_) (fun w1 => ?_)
  · refine ih_seg (i1 := 11) 1 rfl ?_
    refine ih_ret rfl rfl ?_
    exact ih_Qe (by omega) k
  · refine ih_seg (i1 := 11) 2 rfl ?_
    refine ih_ret rfl rfl ?_
    exact ih_Qe (by omega) k


theorem r_puts_l {X : List Int} {t : ih_S} {Q : Option xa_V → ih_S → Prop} (K : ∀ t1, (∀ j, j ≠ 114 → t1 j = t j) → t1 114 = (fun x : Int => if 0 ≤ x ∧ x < 228 then t 112 x else t 114 x) → Q none t1) : ∀ (d : Nat) (k : Nat) (t1 : ih_S) (hd : k + d = 228) (hf : ∀ j, j ≠ 114 → t1 j = t j) (h0 : t1 114 = fun x : Int => if 0 ≤ x ∧ x < k then t 112 x else t 114 x), ih_Wp X 167 2 [xR 111, xI k] [] t1 Q := by
  intro d
  induction d with
  | zero =>
    intro k t1 hd hf h0
    obtain rfl : k = 228 := by omega
    refine ih_seg (i1 := 4) 2 rfl ?_
    refine ih_icmp_ge rfl (by omega) (by omega) (fun w1 => ?_) (fun w1 => ?_)
    · refine ih_retv rfl ?_
      exact K t1 hf h0
    · exfalso
      omega

  | succ d ih =>
    intro k t1 hd hf h0
    refine ih_seg (i1 := 4) 2 rfl ?_
    refine ih_icmp_ge rfl (by omega) (by omega) (fun w1 => ?_) (fun w1 => ?_)
    · refine ih_retv rfl ?_
      exfalso
      omega
    · refine ih_seg (i1 := 6) 1 rfl ?_
      refine ih_getR rfl rfl ?_
      refine ih_seg (i1 := 9) 2 rfl ?_
      refine ih_getR rfl rfl ?_
      refine ih_seg (i1 := 11) 1 rfl ?_
      refine ih_iald rfl (by first | rfl | exact ih_lP1 (ih_P_w0 hc) | exact ih_lP2 (ih_P_w0 hc) | exact ih_lP3 (ih_P_w0 hc) | exact ih_lP4 (ih_P_w0 hc) |  exact ih_lP1 (by assumption) | exact ih_lP2 (by assumption) | exact ih_lP3 (by assumption) | exact ih_lP4 (by assumption) | exact ih_lC1 (by assumption) | exact ih_lS1 (by assumption) | exact ih_lW1 (by assumption) | exact ih_lW2 (by assumption) | exact ih_lW4 (by assumption) | exact ih_lW5 (by assumption)) (by omega) (by omega) (k := ?_)
      refine ih_iast rfl (by first | rfl | exact ih_lP1 (ih_P_w0 hc) | exact ih_lP2 (ih_P_w0 hc) | exact ih_lP3 (ih_P_w0 hc) | exact ih_lP4 (ih_P_w0 hc) |  exact ih_lP1 (by assumption) | exact ih_lP2 (by assumption) | exact ih_lP3 (by assumption) | exact ih_lP4 (by assumption) | exact ih_lC1 (by assumption) | exact ih_lS1 (by assumption) | exact ih_lW1 (by assumption) | exact ih_lW2 (by assumption) | exact ih_lW4 (by assumption) | exact ih_lW5 (by assumption)) (by omega) (by omega) (k := ?_)
      refine ih_seg (i1 := 2) 2 rfl ?_
      try simp only [xa_set, List.set_cons_zero, List.set_cons_succ, List.getElem?_cons_zero, List.getElem?_cons_succ]
      refine ih (k + 1) _ (by omega) (fun j hj => (ih_up_ne hj).trans (hf j hj)) ?_
      rw [ih_up_eq, h0, hf 112 (by decide)]
      funext x
      simp only [ih_u1x]
      (repeat' split) <;> first | rfl | omega | exact congrArg (t 112) (by omega)


theorem r_putsBack_l {X : List Int} {t : ih_S} {Q : Option xa_V → ih_S → Prop} (K : ∀ t1, (∀ j, j ≠ 112 → t1 j = t j) → t1 112 = (fun x : Int => if 0 ≤ x ∧ x < 228 then t 114 x else t 112 x) → Q none t1) : ∀ (d : Nat) (k : Nat) (t1 : ih_S) (hd : k + d = 228) (hf : ∀ j, j ≠ 112 → t1 j = t j) (h0 : t1 112 = fun x : Int => if 0 ≤ x ∧ x < k then t 114 x else t 112 x), ih_Wp X 168 2 [xR 111, xI k] [] t1 Q := by
  intro d
  induction d with
  | zero =>
    intro k t1 hd hf h0
    obtain rfl : k = 228 := by omega
    refine ih_seg (i1 := 4) 2 rfl ?_
    refine ih_icmp_ge rfl (by omega) (by omega) (fun w1 => ?_) (fun w1 => ?_)
    · refine ih_retv rfl ?_
      exact K t1 hf h0
    · exfalso
      omega

  | succ d ih =>
    intro k t1 hd hf h0
    refine ih_seg (i1 := 4) 2 rfl ?_
    refine ih_icmp_ge rfl (by omega) (by omega) (fun w1 => ?_) (fun w1 => ?_)
    · refine ih_retv rfl ?_
      exfalso
      omega
    · refine ih_seg (i1 := 6) 1 rfl ?_
      refine ih_getR rfl rfl ?_
      refine ih_seg (i1 := 9) 2 rfl ?_
      refine ih_getR rfl rfl ?_
      refine ih_seg (i1 := 11) 1 rfl ?_
      refine ih_iald rfl (by first | rfl | exact ih_lP1 (ih_P_w0 hc) | exact ih_lP2 (ih_P_w0 hc) | exact ih_lP3 (ih_P_w0 hc) | exact ih_lP4 (ih_P_w0 hc) |  exact ih_lP1 (by assumption) | exact ih_lP2 (by assumption) | exact ih_lP3 (by assumption) | exact ih_lP4 (by assumption) | exact ih_lC1 (by assumption) | exact ih_lS1 (by assumption) | exact ih_lW1 (by assumption) | exact ih_lW2 (by assumption) | exact ih_lW4 (by assumption) | exact ih_lW5 (by assumption)) (by omega) (by omega) (k := ?_)
      refine ih_iast rfl (by first | rfl | exact ih_lP1 (ih_P_w0 hc) | exact ih_lP2 (ih_P_w0 hc) | exact ih_lP3 (ih_P_w0 hc) | exact ih_lP4 (ih_P_w0 hc) |  exact ih_lP1 (by assumption) | exact ih_lP2 (by assumption) | exact ih_lP3 (by assumption) | exact ih_lP4 (by assumption) | exact ih_lC1 (by assumption) | exact ih_lS1 (by assumption) | exact ih_lW1 (by assumption) | exact ih_lW2 (by assumption) | exact ih_lW4 (by assumption) | exact ih_lW5 (by assumption)) (by omega) (by omega) (k := ?_)
      refine ih_seg (i1 := 2) 2 rfl ?_
      try simp only [xa_set, List.set_cons_zero, List.set_cons_succ, List.getElem?_cons_zero, List.getElem?_cons_succ]
      refine ih (k + 1) _ (by omega) (fun j hj => (ih_up_ne hj).trans (hf j hj)) ?_
      rw [ih_up_eq, h0, hf 114 (by decide)]
      funext x
      simp only [ih_u1x]
      (repeat' split) <;> first | rfl | omega | exact congrArg (t 114) (by omega)


theorem r_puts {X : List Int} {t : ih_S} {Q : Option xa_V → ih_S → Prop} (K : ∀ t1, (∀ j, j ≠ 114 → t1 j = t j) → t1 114 = (fun x : Int => if 0 ≤ x ∧ x < 228 then t 112 x else t 114 x) → Q none t1) : ih_Wp X 167 0 [xR 111, xC 1] [] t Q := by
  refine ih_seg (i1 := 2) 2 rfl ?_
  try simp only [xa_set, List.set_cons_zero, List.set_cons_succ, List.getElem?_cons_zero, List.getElem?_cons_succ]
  exact r_puts_l K 228 0 t (by omega) (fun _ _ => rfl) (by funext x; rw [if_neg (by omega)])


theorem r_putsBack {X : List Int} {t : ih_S} {Q : Option xa_V → ih_S → Prop} (K : ∀ t1, (∀ j, j ≠ 112 → t1 j = t j) → t1 112 = (fun x : Int => if 0 ≤ x ∧ x < 228 then t 114 x else t 112 x) → Q none t1) : ih_Wp X 168 0 [xR 111, xC 1] [] t Q := by
  refine ih_seg (i1 := 2) 2 rfl ?_
  try simp only [xa_set, List.set_cons_zero, List.set_cons_succ, List.getElem?_cons_zero, List.getElem?_cons_succ]
  exact r_putsBack_l K 228 0 t (by omega) (fun _ _ => rfl) (by funext x; rw [if_neg (by omega)])


theorem r_image_l {X : List Int} {t : ih_S} {Q : Option xa_V → ih_S → Prop} (K : ∀ t1, (∀ j, j ≠ 113 → j ≠ 111 → t1 j = t j) → t1 113 = (fun x : Int => if 0 ≤ x ∧ x < 228 then t 112 x else t 113 x) → (t1 111 4 = 1 ∧ ∀ f : Int, f ≠ 4 → t1 111 f = t 111 f) → Q (some (xI 1)) t1) : ∀ (d : Nat) (k : Nat) (t1 : ih_S) (hd : k + d = 228) (hf : ∀ j, j ≠ 113 → t1 j = t j) (h0 : t1 113 = fun x : Int => if 0 ≤ x ∧ x < k then t 112 x else t 113 x), ih_Wp X 206 2 [xR 111, xI k] [] t1 Q := by
  intro d
  induction d with
  | zero =>
    intro k t1 hd hf h0
    obtain rfl : k = 228 := by omega
    refine ih_seg (i1 := 4) 2 rfl ?_
    refine ih_icmp_ge rfl (by omega) (by omega) (fun w1 => ?_) (fun w1 => ?_)
    · refine ih_seg (i1 := 17) 2 rfl ?_
      refine ih_putI rfl rfl rfl ?_
      refine ih_seg (i1 := 19) 1 rfl ?_
      refine ih_ret rfl rfl ?_
      refine K _ ?_ ?_ ?_
      · exact fun j j1 j2 => (ih_up_ne j2).trans (hf j j1)
      · rw [ih_up_ne (by decide)]
        exact h0
      · exact ⟨by rw [ih_up_eq, ih_u1_eq], fun f hf2 => by rw [ih_up_eq, ih_u1_ne hf2, hf 111 (by decide)]⟩
    · exfalso
      omega

  | succ d ih =>
    intro k t1 hd hf h0
    refine ih_seg (i1 := 4) 2 rfl ?_
    refine ih_icmp_ge rfl (by omega) (by omega) (fun w1 => ?_) (fun w1 => ?_)
    · refine ih_seg (i1 := 17) 2 rfl ?_
      refine ih_putI rfl rfl rfl ?_
      refine ih_seg (i1 := 19) 1 rfl ?_
      refine ih_ret rfl rfl ?_
      exfalso
      omega
    · refine ih_seg (i1 := 6) 1 rfl ?_
      refine ih_getR rfl rfl ?_
      refine ih_seg (i1 := 9) 2 rfl ?_
      refine ih_getR rfl rfl ?_
      refine ih_seg (i1 := 11) 1 rfl ?_
      refine ih_iald rfl (by first | rfl | exact ih_lP1 (ih_P_w0 hc) | exact ih_lP2 (ih_P_w0 hc) | exact ih_lP3 (ih_P_w0 hc) | exact ih_lP4 (ih_P_w0 hc) |  exact ih_lP1 (by assumption) | exact ih_lP2 (by assumption) | exact ih_lP3 (by assumption) | exact ih_lP4 (by assumption) | exact ih_lC1 (by assumption) | exact ih_lS1 (by assumption) | exact ih_lW1 (by assumption) | exact ih_lW2 (by assumption) | exact ih_lW4 (by assumption) | exact ih_lW5 (by assumption)) (by omega) (by omega) (k := ?_)
      refine ih_iast rfl (by first | rfl | exact ih_lP1 (ih_P_w0 hc) | exact ih_lP2 (ih_P_w0 hc) | exact ih_lP3 (ih_P_w0 hc) | exact ih_lP4 (ih_P_w0 hc) |  exact ih_lP1 (by assumption) | exact ih_lP2 (by assumption) | exact ih_lP3 (by assumption) | exact ih_lP4 (by assumption) | exact ih_lC1 (by assumption) | exact ih_lS1 (by assumption) | exact ih_lW1 (by assumption) | exact ih_lW2 (by assumption) | exact ih_lW4 (by assumption) | exact ih_lW5 (by assumption)) (by omega) (by omega) (k := ?_)
      refine ih_seg (i1 := 2) 2 rfl ?_
      try simp only [xa_set, List.set_cons_zero, List.set_cons_succ, List.getElem?_cons_zero, List.getElem?_cons_succ]
      refine ih (k + 1) _ (by omega) (fun j hj => (ih_up_ne hj).trans (hf j hj)) ?_
      rw [ih_up_eq, h0, hf 112 (by decide)]
      funext x
      simp only [ih_u1x]
      (repeat' split) <;> first | rfl | omega | exact congrArg (t 112) (by omega)


theorem r_op_image {X : List Int} {t : ih_S} {Q : Option xa_V → ih_S → Prop} (K : ∀ t1, (∀ j, j ≠ 113 → j ≠ 111 → t1 j = t j) → t1 113 = (fun x : Int => if 0 ≤ x ∧ x < 228 then t 112 x else t 113 x) → (t1 111 4 = 1 ∧ ∀ f : Int, f ≠ 4 → t1 111 f = t 111 f) → Q (some (xI 1)) t1) : ih_Wp X 206 0 [xR 111, xC 1] [] t Q := by
  refine ih_seg (i1 := 2) 2 rfl ?_
  try simp only [xa_set, List.set_cons_zero, List.set_cons_succ, List.getElem?_cons_zero, List.getElem?_cons_succ]
  exact r_image_l K 228 0 t (by omega) (fun _ _ => rfl) (by funext x; rw [if_neg (by omega)])


theorem r_undo_l {X : List Int} {t : ih_S} {Q : Option xa_V → ih_S → Prop} (K : ∀ t1, (∀ j, j ≠ 112 → t1 j = t j) → t1 112 = (fun x : Int => if 0 ≤ x ∧ x < 228 then t 113 x else t 112 x) → Q (some (xI (t1 112 0))) t1) : ∀ (d : Nat) (k : Nat) (t1 : ih_S) (hd : k + d = 228) (hf : ∀ j, j ≠ 112 → t1 j = t j) (h0 : t1 112 = fun x : Int => if 0 ≤ x ∧ x < k then t 113 x else t 112 x), ih_Wp X 207 9 [xR 111, xI k] [] t1 Q := by
  intro d
  induction d with
  | zero =>
    intro k t1 hd hf h0
    obtain rfl : k = 228 := by omega
    refine ih_seg (i1 := 11) 2 rfl ?_
    refine ih_icmp_ge rfl (by omega) (by omega) (fun w1 => ?_) (fun w1 => ?_)
    · refine ih_seg (i1 := 23) 1 rfl ?_
      refine ih_getR rfl rfl ?_
      refine ih_seg (i1 := 25) 1 rfl ?_
      refine ih_iald rfl (by first | rfl | exact ih_lP1 (ih_P_w0 hc) | exact ih_lP2 (ih_P_w0 hc) | exact ih_lP3 (ih_P_w0 hc) | exact ih_lP4 (ih_P_w0 hc) |  exact ih_lP1 (by assumption) | exact ih_lP2 (by assumption) | exact ih_lP3 (by assumption) | exact ih_lP4 (by assumption) | exact ih_lC1 (by assumption) | exact ih_lS1 (by assumption) | exact ih_lW1 (by assumption) | exact ih_lW2 (by assumption) | exact ih_lW4 (by assumption) | exact ih_lW5 (by assumption)) (by omega) (by omega) (k := ?_)
      refine ih_ret rfl rfl ?_
      exact K t1 hf h0
    · exfalso
      omega

  | succ d ih =>
    intro k t1 hd hf h0
    refine ih_seg (i1 := 11) 2 rfl ?_
    refine ih_icmp_ge rfl (by omega) (by omega) (fun w1 => ?_) (fun w1 => ?_)
    · refine ih_seg (i1 := 23) 1 rfl ?_
      refine ih_getR rfl rfl ?_
      refine ih_seg (i1 := 25) 1 rfl ?_
      refine ih_iald rfl (by first | rfl | exact ih_lP1 (ih_P_w0 hc) | exact ih_lP2 (ih_P_w0 hc) | exact ih_lP3 (ih_P_w0 hc) | exact ih_lP4 (ih_P_w0 hc) |  exact ih_lP1 (by assumption) | exact ih_lP2 (by assumption) | exact ih_lP3 (by assumption) | exact ih_lP4 (by assumption) | exact ih_lC1 (by assumption) | exact ih_lS1 (by assumption) | exact ih_lW1 (by assumption) | exact ih_lW2 (by assumption) | exact ih_lW4 (by assumption) | exact ih_lW5 (by assumption)) (by omega) (by omega) (k := ?_)
      refine ih_ret rfl rfl ?_
      exfalso
      omega
    · refine ih_seg (i1 := 13) 1 rfl ?_
      refine ih_getR rfl rfl ?_
      refine ih_seg (i1 := 16) 2 rfl ?_
      refine ih_getR rfl rfl ?_
      refine ih_seg (i1 := 18) 1 rfl ?_
      refine ih_iald rfl (by first | rfl | exact ih_lP1 (ih_P_w0 hc) | exact ih_lP2 (ih_P_w0 hc) | exact ih_lP3 (ih_P_w0 hc) | exact ih_lP4 (ih_P_w0 hc) |  exact ih_lP1 (by assumption) | exact ih_lP2 (by assumption) | exact ih_lP3 (by assumption) | exact ih_lP4 (by assumption) | exact ih_lC1 (by assumption) | exact ih_lS1 (by assumption) | exact ih_lW1 (by assumption) | exact ih_lW2 (by assumption) | exact ih_lW4 (by assumption) | exact ih_lW5 (by assumption)) (by omega) (by omega) (k := ?_)
      refine ih_iast rfl (by first | rfl | exact ih_lP1 (ih_P_w0 hc) | exact ih_lP2 (ih_P_w0 hc) | exact ih_lP3 (ih_P_w0 hc) | exact ih_lP4 (ih_P_w0 hc) |  exact ih_lP1 (by assumption) | exact ih_lP2 (by assumption) | exact ih_lP3 (by assumption) | exact ih_lP4 (by assumption) | exact ih_lC1 (by assumption) | exact ih_lS1 (by assumption) | exact ih_lW1 (by assumption) | exact ih_lW2 (by assumption) | exact ih_lW4 (by assumption) | exact ih_lW5 (by assumption)) (by omega) (by omega) (k := ?_)
      refine ih_seg (i1 := 9) 2 rfl ?_
      try simp only [xa_set, List.set_cons_zero, List.set_cons_succ, List.getElem?_cons_zero, List.getElem?_cons_succ]
      refine ih (k + 1) _ (by omega) (fun j hj => (ih_up_ne hj).trans (hf j hj)) ?_
      rw [ih_up_eq, h0, hf 113 (by decide)]
      funext x
      simp only [ih_u1x]
      (repeat' split) <;> first | rfl | omega | exact congrArg (t 113) (by omega)


theorem r_op_undo {X : List Int} {t : ih_S} {Q : Option xa_V → ih_S → Prop} (h : t 111 4 = 1) (K : ∀ t1, (∀ j, j ≠ 112 → t1 j = t j) → t1 112 = (fun x : Int => if 0 ≤ x ∧ x < 228 then t 113 x else t 112 x) → Q (some (xI (t1 112 0))) t1) : ih_Wp X 207 0 [xR 111, xC 1] [] t Q := by
  refine ih_seg (i1 := 1) 1 rfl ?_
  refine ih_getI rfl rfl ?_
  refine ih_ifc_ne rfl (by omega) (fun w1 => ?_) (fun w1 => ?_)
  · refine ih_seg (i1 := 9) 2 rfl ?_
    try simp only [xa_set, List.set_cons_zero, List.set_cons_succ, List.getElem?_cons_zero, List.getElem?_cons_succ]
    exact r_undo_l K 228 0 t (by omega) (fun _ _ => rfl) (by funext x; rw [if_neg (by omega)])
  · exfalso
    omega


theorem r_op_undo0 {X : List Int} {t : ih_S} {Q : Option xa_V → ih_S → Prop} (h : t 111 4 = 0) (k : Q (some (xI (-1000004))) (ih_up t 115 3 (t 115 3 + 1))) : ih_Wp X 207 0 [xR 111, xC 1] [] t Q := by
  refine ih_seg (i1 := 1) 1 rfl ?_
  refine ih_getI rfl rfl ?_
  refine ih_ifc_ne rfl (by omega) (fun w1 => ?_) (fun w1 => ?_)
  · exfalso
    omega
  · refine ih_seg (i1 := 5) 2 rfl ?_
    refine ih_iv1 127 rfl rfl (by first | rfl | exact ih_kP (ih_P_w0 hc) |  exact ih_kP (by assumption) | exact ih_kC (by assumption) | exact ih_kN (by assumption) | exact ih_kS (by assumption) | exact ih_kW (by assumption)) (Nat.le_of_ble_eq_true rfl) (Nat.le_of_ble_eq_true rfl) rfl ?_
    refine r_finds 3 rfl (by omega) ?_
    refine ih_ret rfl rfl ?_
    exact k


theorem r_op_tear {X : List Int} {t : ih_S} {Q : Option xa_V → ih_S → Prop} (h : t 111 4 = 0 ∨ t 111 4 = 1) (k : Q (some (xI (t 111 4))) (ih_up t 111 4 0)) : ih_Wp X 208 0 [xR 111, xC 1] [] t Q := by
  refine ih_seg (i1 := 1) 1 rfl ?_
  refine ih_getI rfl rfl ?_
  refine ih_ifc_eq rfl (by omega) (fun w1 => ?_) (fun w1 => ?_)
  · refine ih_seg (i1 := 9) 4 rfl ?_
    try simp only [xa_set, List.set_cons_zero, List.set_cons_succ, List.getElem?_cons_zero, List.getElem?_cons_succ]
    refine ih_putI rfl rfl rfl ?_
    refine ih_seg (i1 := 11) 1 rfl ?_
    refine ih_ret rfl rfl ?_
    exact ih_Qe (by omega) k
  · refine ih_seg (i1 := 9) 5 rfl ?_
    try simp only [xa_set, List.set_cons_zero, List.set_cons_succ, List.getElem?_cons_zero, List.getElem?_cons_succ]
    refine ih_putI rfl rfl rfl ?_
    refine ih_seg (i1 := 11) 1 rfl ?_
    refine ih_ret rfl rfl ?_
    exact ih_Qe (by omega) k


theorem c_op_wipe {X : List Int} {t : ih_S} {Q : Option xa_V → ih_S → Prop} (k : Q (some (xI (t 80 2))) (ih_up t 80 2 0)) : ih_Wp X 88 0 [xR 0, xC 1] [] t Q := by
  refine ih_seg (i1 := 1) 1 rfl ?_
  refine ih_getR rfl rfl ?_
  refine ih_getI rfl rfl ?_
  refine ih_seg (i1 := 5) 2 rfl ?_
  try simp only [xa_set, List.set_cons_zero, List.set_cons_succ, List.getElem?_cons_zero, List.getElem?_cons_succ]
  refine ih_getR rfl rfl ?_
  refine ih_seg (i1 := 7) 1 rfl ?_
  refine ih_putI rfl rfl rfl ?_
  refine ih_seg (i1 := 9) 1 rfl ?_
  refine ih_ret rfl rfl ?_
  exact k


theorem r_op_wipe {X : List Int} {t : ih_S} {Q : Option xa_V → ih_S → Prop} (k : Q (some (xI (t 111 12))) (ih_up t 111 12 0)) : ih_Wp X 181 0 [xR 111, xC 1] [] t Q := by
  refine ih_seg (i1 := 1) 1 rfl ?_
  refine ih_getI rfl rfl ?_
  refine ih_seg (i1 := 5) 3 rfl ?_
  try simp only [xa_set, List.set_cons_zero, List.set_cons_succ, List.getElem?_cons_zero, List.getElem?_cons_succ]
  refine ih_putI rfl rfl rfl ?_
  refine ih_seg (i1 := 7) 1 rfl ?_
  refine ih_ret rfl rfl ?_
  exact k

