/-! The reference: what a paper means -/
def ih_rM (s : Int → Int) (p : Nat) (h : Int) : Int := ih_val (ih_fd (fun k => s (26 + 48 * p + 4 * k)) (fun k => s (26 + 48 * p + 4 * k + 1)) (ih_rs s p h) (s (22 + p)).toNat)
theorem ih_rM_rg (s : Int → Int) (p : Nat) (h : Int) : -1 ≤ ih_rM s p h ∧ ih_rM s p h < 65536 := ih_val_rg (ih_ok_fd _ _ _ _)
theorem ih_rf_s {t t1 : ih_S} (a : ih_rf t t1) : t1 112 = t 112 := a.1 112 (by decide)

theorem r_meansAt_l {X : List Int} {t : ih_S} {Q : Option xa_V → ih_S → Prop} {p : Nat} {h : Int} (hp : p < 4) (G : ih_RG (t 112) p) (hh : 0 ≤ h ∧ h ≤ 20000) (K : ∀ t1, ih_rf t t1 → Q (some (xI (ih_rM (t 112) p h))) t1) : ∀ (d k : Nat) (t1 : ih_S) (hd : (k : Int) + d = t 112 (22 + p)) (hf : ih_rf t t1) (hr : ih_RS t1 (ih_fd (fun k => t 112 (26 + 48 * p + 4 * k)) (fun k => t 112 (26 + 48 * p + 4 * k + 1)) (ih_rs (t 112) p h) k)), ih_Wp X 157 4 [xR 111, xI p, xI h, xI k] [] t1 Q := by
  intro d
  induction d with
  | zero =>
    intro k t1 hd hf hr
    have g1 := G.sz
    have es := ih_rf_s hf
    rw [← es] at hd g1
    refine ih_seg (i1 := 6) 2 rfl ?_
    refine ih_getR rfl rfl ?_
    refine ih_seg (i1 := 10) 3 rfl ?_
    try dsimp only
    refine ih_iald rfl (by first | rfl | exact ih_lP1 (by assumption) | exact ih_lP2 (by assumption) | exact ih_lP3 (by assumption) | exact ih_lP4 (by assumption) | exact ih_lC1 (by assumption) | exact ih_lS1 (by assumption) | exact ih_lW1 (by assumption) | exact ih_lW2 (by assumption) | exact ih_lW4 (by assumption) | exact ih_lW5 (by assumption)) (by omega) (by omega) (k := ?_)
    refine ih_icmp_ge rfl (by omega) (by omega) (fun w1 => ?_) (fun w1 => ?_)
    · refine ih_seg (i1 := 37) 1 rfl ?_
      refine ih_iv0 156 rfl rfl (by first | rfl | exact ih_kP (by assumption) | exact ih_kC (by assumption) | exact ih_kN (by assumption) | exact ih_kS (by assumption) | exact ih_kW (by assumption)) (Nat.le_of_ble_eq_true rfl) (Nat.le_of_ble_eq_true rfl) rfl ?_
      refine r_meaning (ih_ok_fd _ _ _ _) hr ?_
      refine ih_ret rfl rfl ?_
      have := K t1 hf
      unfold ih_rM at this
      rw [← es, show (t1 112 (22 + p)).toNat = k by omega, es] at this
      exact this
    · refine ih_seg (i1 := 16) 4 rfl ?_
      refine ih_iv3 148 rfl rfl (by first | rfl | exact ih_kP (by assumption) | exact ih_kC (by assumption) | exact ih_kN (by assumption) | exact ih_kS (by assumption) | exact ih_kW (by assumption)) (Nat.le_of_ble_eq_true rfl) (Nat.le_of_ble_eq_true rfl) rfl ?_
      exfalso
      omega
  | succ d ih =>
    intro k t1 hd hf hr
    have g1 := G.sz
    have es := ih_rf_s hf
    rw [← es] at hd g1
    have hk : (k : Int) < t1 112 (22 + p) := by omega
    have G1 : ih_RG (t1 112) p := by rw [es]; exact G
    have g2 := G1.kd k hk
    have g3 := G1.lt k hk
    refine ih_seg (i1 := 6) 2 rfl ?_
    refine ih_getR rfl rfl ?_
    refine ih_seg (i1 := 10) 3 rfl ?_
    try dsimp only
    refine ih_iald rfl (by first | rfl | exact ih_lP1 (by assumption) | exact ih_lP2 (by assumption) | exact ih_lP3 (by assumption) | exact ih_lP4 (by assumption) | exact ih_lC1 (by assumption) | exact ih_lS1 (by assumption) | exact ih_lW1 (by assumption) | exact ih_lW2 (by assumption) | exact ih_lW4 (by assumption) | exact ih_lW5 (by assumption)) (by omega) (by omega) (k := ?_)
    refine ih_icmp_ge rfl (by omega) (by omega) (fun w1 => ?_) (fun w1 => ?_)
    · refine ih_seg (i1 := 37) 1 rfl ?_
      refine ih_iv0 156 rfl rfl (by first | rfl | exact ih_kP (by assumption) | exact ih_kC (by assumption) | exact ih_kN (by assumption) | exact ih_kS (by assumption) | exact ih_kW (by assumption)) (Nat.le_of_ble_eq_true rfl) (Nat.le_of_ble_eq_true rfl) rfl ?_
      exfalso
      omega
    · refine ih_seg (i1 := 16) 4 rfl ?_
      refine ih_iv3 148 rfl rfl (by first | rfl | exact ih_kP (by assumption) | exact ih_kC (by assumption) | exact ih_kN (by assumption) | exact ih_kS (by assumption) | exact ih_kW (by assumption)) (Nat.le_of_ble_eq_true rfl) (Nat.le_of_ble_eq_true rfl) rfl ?_
      refine r_isSeen hp G1 hk hh (fun q => ?_) (fun q => ?_)
      · refine ih_seg (i1 := 20) 3 rfl ?_
        refine ih_getR rfl rfl ?_
        refine ih_seg (i1 := 23) 2 rfl ?_
        refine ih_is2 132 rfl rfl (Nat.le_of_ble_eq_true rfl) (Nat.le_of_ble_eq_true rfl) rfl ?_
        refine r_at ?_
        refine ih_iald rfl (by first | rfl | exact ih_lP1 (by assumption) | exact ih_lP2 (by assumption) | exact ih_lP3 (by assumption) | exact ih_lP4 (by assumption) | exact ih_lC1 (by assumption) | exact ih_lS1 (by assumption) | exact ih_lW1 (by assumption) | exact ih_lW2 (by assumption) | exact ih_lW4 (by assumption) | exact ih_lW5 (by assumption)) (by omega) (by omega) (k := ?_)
        refine ih_seg (i1 := 26) 1 rfl ?_
        refine ih_getR rfl rfl ?_
        refine ih_seg (i1 := 29) 2 rfl ?_
        refine ih_is2 132 rfl rfl (Nat.le_of_ble_eq_true rfl) (Nat.le_of_ble_eq_true rfl) rfl ?_
        refine r_at ?_
        refine ih_seg (i1 := 32) 2 rfl ?_
        try dsimp only
        refine ih_iald rfl (by first | rfl | exact ih_lP1 (by assumption) | exact ih_lP2 (by assumption) | exact ih_lP3 (by assumption) | exact ih_lP4 (by assumption) | exact ih_lC1 (by assumption) | exact ih_lS1 (by assumption) | exact ih_lW1 (by assumption) | exact ih_lW2 (by assumption) | exact ih_lW4 (by assumption) | exact ih_lW5 (by assumption)) (by omega) (by omega) (k := ?_)
        refine ih_iv2 155 rfl rfl (by first | rfl | exact ih_kP (by assumption) | exact ih_kC (by assumption) | exact ih_kN (by assumption) | exact ih_kS (by assumption) | exact ih_kW (by assumption)) (Nat.le_of_ble_eq_true rfl) (Nat.le_of_ble_eq_true rfl) rfl ?_
        refine r_reads (by omega) (by omega) (ih_ok_fd _ _ _ _) hr (fun t2 hf2 hr2 => ?_)
        refine ih_seg (i1 := 4) 2 rfl ?_
        try simp only [xa_set, List.set_cons_zero, List.set_cons_succ, List.getElem?_cons_zero, List.getElem?_cons_succ]
        refine ih (k + 1) t2 (by rw [← es]; omega) (ih_rf_t hf hf2) ?_
        rw [es] at q hr2
        rw [ih_fd, if_pos q]
        exact hr2
      · refine ih_seg (i1 := 4) 3 rfl ?_
        try simp only [xa_set, List.set_cons_zero, List.set_cons_succ, List.getElem?_cons_zero, List.getElem?_cons_succ]
        refine ih (k + 1) t1 (by rw [← es]; omega) hf ?_
        rw [es] at q
        rw [ih_fd, if_neg (by rw [q]; decide)]
        exact hr

theorem r_meansAt {X : List Int} {t : ih_S} {Q : Option xa_V → ih_S → Prop} {t1 : ih_S} {p : Nat} {h : Int} (hp : p < 4) (G : ih_RG (t 112) p) (hf : ih_rf t t1) (hh : 0 ≤ h ∧ h ≤ 20000) (K : ∀ t2, ih_rf t t2 → Q (some (xI (ih_rM (t 112) p h))) t2) : ih_Wp X 157 0 [xR 111, xI p, xI h, xC 1] [] t1 Q := by
  have g1 := G.sz
  refine ih_seg (i1 := 1) 1 rfl ?_
  refine ih_iv0 154 rfl rfl (by first | rfl | exact ih_kP (by assumption) | exact ih_kC (by assumption) | exact ih_kN (by assumption) | exact ih_kS (by assumption) | exact ih_kW (by assumption)) (Nat.le_of_ble_eq_true rfl) (Nat.le_of_ble_eq_true rfl) rfl ?_
  refine r_begins (fun t2 hf2 hr => ?_)
  refine ih_seg (i1 := 4) 2 rfl ?_
  try simp only [xa_set, List.set_cons_zero, List.set_cons_succ, List.getElem?_cons_zero, List.getElem?_cons_succ]
  exact r_meansAt_l hp G hh K (t 112 (22 + p)).toNat 0 t2 (by omega) (ih_rf_t hf hf2) hr


theorem r_stay_l {X : List Int} {t : ih_S} {Q : Option xa_V → ih_S → Prop} {p : Nat} {m h : Int} (hp : p < 4) (G : ih_RG (t 112) p) (hm : -1 ≤ m ∧ m < 65536) (hh : 0 ≤ h ∧ h ≤ 20000) (hn : 0 ≤ t 112 0) (kt : ∀ t1, ih_rf t t1 → (∀ e, t 112 0 ≤ e → e ≤ h → ih_rM (t 112) p e = m) → Q (some (xI 1)) t1) (kf : ∀ t1, ih_rf t t1 → ¬ (∀ e, t 112 0 ≤ e → e ≤ h → ih_rM (t 112) p e = m) → Q (some (xI 0)) t1) : ∀ (d : Nat) (e : Int) (t1 : ih_S) (b : Int) (hd : h + 1 - e ≤ d) (hf : ih_rf t t1) (hb : b = 0 ∨ b = 1) (h0 : t 112 0 ≤ e ∧ e ≤ 20001) (h1 : (b = 1 → ∀ x, t 112 0 ≤ x → x < e → ih_rM (t 112) p x = m) ∧ (b = 0 → ¬ (∀ x, t 112 0 ≤ x → x ≤ h → ih_rM (t 112) p x = m))), ih_Wp X 165 7 [xR 111, xI p, xI m, xI h, xI b, xI e] [] t1 Q := by
  intro d
  induction d with
  | zero =>
    intro e t1 b hd hf hb h0 h1
    have mr := ih_rM_rg (t 112) p e
    have hfit : xa_fit 1 (xI b) = true := by rcases hb with rfl | rfl <;> rfl
    refine ih_seg (i1 := 9) 2 rfl ?_
    refine ih_icmp_gt rfl (by omega) (by omega) (fun w1 => ?_) (fun w1 => ?_)
    · refine ih_seg (i1 := 25) 1 rfl ?_
      refine ih_ret rfl (by assumption) ?_
      rcases hb with rfl | rfl
      · exact kf _ hf (h1.2 rfl)
      · exact kt _ hf (fun x x0 x1 => h1.1 rfl x x0 (by omega))
    · refine ih_seg (i1 := 11) 1 rfl ?_
      refine ih_ifc_eq rfl (by omega) (fun w2 => ?_) (fun w2 => ?_)
      · refine ih_seg (i1 := 25) 1 rfl ?_
        refine ih_ret rfl (by assumption) ?_
        rcases hb with rfl | rfl
        · exact kf _ hf (h1.2 rfl)
        · exact kt _ hf (fun x x0 x1 => h1.1 rfl x x0 (by omega))
      · refine ih_seg (i1 := 15) 3 rfl ?_
        refine ih_iv2 157 rfl rfl (by first | rfl | exact ih_kP (by assumption) | exact ih_kC (by assumption) | exact ih_kN (by assumption) | exact ih_kS (by assumption) | exact ih_kW (by assumption)) (Nat.le_of_ble_eq_true rfl) (Nat.le_of_ble_eq_true rfl) rfl ?_
        exfalso
        omega
  | succ d ih =>
    intro e t1 b hd hf hb h0 h1
    have mr := ih_rM_rg (t 112) p e
    have hfit : xa_fit 1 (xI b) = true := by rcases hb with rfl | rfl <;> rfl
    refine ih_seg (i1 := 9) 2 rfl ?_
    refine ih_icmp_gt rfl (by omega) (by omega) (fun w1 => ?_) (fun w1 => ?_)
    · refine ih_seg (i1 := 25) 1 rfl ?_
      refine ih_ret rfl (by assumption) ?_
      rcases hb with rfl | rfl
      · exact kf _ hf (h1.2 rfl)
      · exact kt _ hf (fun x x0 x1 => h1.1 rfl x x0 (by omega))
    · refine ih_seg (i1 := 11) 1 rfl ?_
      refine ih_ifc_eq rfl (by omega) (fun w2 => ?_) (fun w2 => ?_)
      · refine ih_seg (i1 := 25) 1 rfl ?_
        refine ih_ret rfl (by assumption) ?_
        rcases hb with rfl | rfl
        · exact kf _ hf (h1.2 rfl)
        · exact kt _ hf (fun x x0 x1 => h1.1 rfl x x0 (by omega))
      · refine ih_seg (i1 := 15) 3 rfl ?_
        refine ih_iv2 157 rfl rfl (by first | rfl | exact ih_kP (by assumption) | exact ih_kC (by assumption) | exact ih_kN (by assumption) | exact ih_kS (by assumption) | exact ih_kW (by assumption)) (Nat.le_of_ble_eq_true rfl) (Nat.le_of_ble_eq_true rfl) rfl ?_
        refine r_meansAt hp G hf (by omega) (fun t2 hf => ?_)
        refine ih_seg (i1 := 17) 1 rfl ?_
        refine ih_icmp_ne rfl (by omega) (by omega) (fun w3 => ?_) (fun w3 => ?_)
        · refine ih_seg (i1 := 7) 4 rfl ?_
          try simp only [xa_set, List.set_cons_zero, List.set_cons_succ, List.getElem?_cons_zero, List.getElem?_cons_succ]
          first
            | (have q : ih_rM (t 112) p e ≠ m := by assumption
               exact ih (e + 1) _ 0 (by omega) hf (by omega) (by omega) ⟨fun q => by omega, fun _ a => q (a e h0.1 (by omega))⟩)
            | (refine ih (e + 1) _ 1 (by omega) hf (by omega) (by omega) ⟨fun _ x x0 x1 => ?_, fun q => by omega⟩
               by_cases q : x = e
               · subst q; omega
               · exact h1.1 (by omega) x x0 (by omega))
        · refine ih_seg (i1 := 7) 5 rfl ?_
          try simp only [xa_set, List.set_cons_zero, List.set_cons_succ, List.getElem?_cons_zero, List.getElem?_cons_succ]
          first
            | (have q : ih_rM (t 112) p e ≠ m := by assumption
               exact ih (e + 1) _ 0 (by omega) hf (by omega) (by omega) ⟨fun q => by omega, fun _ a => q (a e h0.1 (by omega))⟩)
            | (refine ih (e + 1) _ 1 (by omega) hf (by omega) (by omega) ⟨fun _ x x0 x1 => ?_, fun q => by omega⟩
               by_cases q : x = e
               · subst q; omega
               · exact h1.1 (by omega) x x0 (by omega))

theorem r_stay {X : List Int} {t : ih_S} {Q : Option xa_V → ih_S → Prop} {t1 : ih_S} {p : Nat} {m h : Int} (hp : p < 4) (G : ih_RG (t 112) p) (hf : ih_rf t t1) (hm : -1 ≤ m ∧ m < 65536) (hh : 0 ≤ h ∧ h ≤ 20000) (hn : 0 ≤ t 112 0 ∧ t 112 0 < 10000) (kt : ∀ t1, ih_rf t t1 → (∀ e, t 112 0 ≤ e → e ≤ h → ih_rM (t 112) p e = m) → Q (some (xI 1)) t1) (kf : ∀ t1, ih_rf t t1 → ¬ (∀ e, t 112 0 ≤ e → e ≤ h → ih_rM (t 112) p e = m) → Q (some (xI 0)) t1) : ih_Wp X 165 0 [xR 111, xI p, xI m, xI h, xC 1, xC 1] [] t1 Q := by
  have es := ih_rf_s hf
  refine ih_seg (i1 := 3) 3 rfl ?_
  try simp only [xa_set, List.set_cons_zero, List.set_cons_succ, List.getElem?_cons_zero, List.getElem?_cons_succ]
  refine ih_getR rfl rfl ?_
  refine ih_seg (i1 := 5) 1 rfl ?_
  refine ih_iald rfl (by first | rfl | exact ih_lP1 (by assumption) | exact ih_lP2 (by assumption) | exact ih_lP3 (by assumption) | exact ih_lP4 (by assumption) | exact ih_lC1 (by assumption) | exact ih_lS1 (by assumption) | exact ih_lW1 (by assumption) | exact ih_lW2 (by assumption) | exact ih_lW4 (by assumption) | exact ih_lW5 (by assumption)) (by omega) (by omega) (k := ?_)
  refine ih_seg (i1 := 7) 1 rfl ?_
  try simp only [xa_set, List.set_cons_zero, List.set_cons_succ, List.getElem?_cons_zero, List.getElem?_cons_succ]
  rw [es]
  exact r_stay_l hp G hm hh hn.1 kt kf (h + 1).toNat _ _ 1 (by omega) hf (by omega) (by omega) ⟨fun _ x x0 x1 => by omega, fun q => by omega⟩

