/-! The class: marks, papers reckoned -/
/-- seen, by the marks alone -/
def ih_cs (t : ih_S) (c : Nat) (h : Int) (k : Nat) : Bool := decide (t (11 + 5 * c) k ≤ h ∧ ih_w (t (7 + 5 * c) 5) h - ih_w (t (7 + 5 * c) 5) (t (11 + 5 * c) k) < ih_span (t (8 + 5 * c) k) (t 2 (t (10 + 5 * c) k)))
def ih_cM (t : ih_S) (c : Nat) (h : Int) : Int := ih_mo t c (ih_cs t c h)
theorem ih_sf_cs {t t1 : ih_S} {c k : Nat} {h : Int} (hc : c < 4) (G : ih_PG t c) (hf : ∀ i, i ≠ 92 + 3 * c → t1 i = t i) (he : ∀ j : Nat, (j : Int) < t (7 + 5 * c) 4 → t1 (92 + 3 * c) j = ih_en t c j) (hh : 0 ≤ h) (hk : (k : Int) < t (7 + 5 * c) 4) : ih_sf t1 c h k = ih_cs t c h k := by
  unfold ih_sf ih_cs
  rw [he k hk, hf (11 + 5 * c) (by omega), decide_eq_decide]
  unfold ih_en ih_eo
  have a := G.at_ k hk
  have i := G.ink k hk
  have l := G.las _ i.1 i.2
  have b := ih_w_rg (lit := t (7 + 5 * c) 5) a.1 (by omega)
  have s := ih_span_rg (k := t (8 + 5 * c) k) l.1 l.2
  rw [ih_gal hh (by omega)]
  omega
theorem ih_EG_en {t t1 : ih_S} {c : Nat} (hc : c < 4) (G : ih_PG t c) (hf : ∀ i, i ≠ 92 + 3 * c → t1 i = t i) (he : ∀ j : Nat, (j : Int) < t (7 + 5 * c) 4 → t1 (92 + 3 * c) j = ih_en t c j) : ih_EG t1 c := by
  intro j hj
  rw [hf (7 + 5 * c) (by omega)] at hj
  rw [he j hj]
  exact ih_en_rg G hj
theorem ih_M_cM {t t1 : ih_S} {c : Nat} {h : Int} (hc : c < 4) (G : ih_PG t c) (hf : ∀ i, i ≠ 92 + 3 * c → t1 i = t i) (he : ∀ j : Nat, (j : Int) < t (7 + 5 * c) 4 → t1 (92 + 3 * c) j = ih_en t c j) (hh : 0 ≤ h) : ih_M t1 c h = ih_cM t c h := by
  unfold ih_M ih_cM
  rw [ih_mo_of hc (fun j hj => hf j (by omega))]
  exact ih_mo_congr (fun k hk => ih_sf_cs hc G hf he hh hk)

theorem c_isMark {X : List Int} {t : ih_S} {Q : Option xa_V → ih_S → Prop} {a b : Int} (ha : xa_rI a) (hb : xa_rI b) (hs : ∀ p : Nat, p < 4 → 0 ≤ t (7 + 5 * p) 4 ∧ t (7 + 5 * p) 4 ≤ 12) (kt : ∀ p m : Nat, a = p → b = m → p < 4 → (m : Int) < t (7 + 5 * p) 4 → Q (some (xI 1)) t) (kf : (∀ p m : Nat, a = p → b = m → p < 4 → ¬ ((m : Int) < t (7 + 5 * p) 4)) → Q (some (xI 0)) t) : ih_Wp X 111 0 [xR 0, xI a, xI b] [] t Q := by
  refine ih_seg (i1 := 1) 1 rfl ?_
  refine ih_is1 106 rfl rfl (Nat.le_of_ble_eq_true rfl) (Nat.le_of_ble_eq_true rfl) rfl ?_
  refine c_isPaper (by omega) (fun hq => ?_) (fun hq => ?_)
  rotate_left
  · refine ih_seg (i1 := 18) 2 rfl ?_
    refine ih_ret rfl rfl ?_
    exact kf (fun p m e _ hp => by omega)
  obtain ⟨p, rfl⟩ := Int.eq_ofNat_of_zero_le hq.1
  have hc : p < 4 := by omega
  have gs := hs p hc
  refine ih_seg (i1 := 6) 4 rfl ?_
  refine ih_getR rfl rfl ?_
  refine ih_getR rfl (by first | rfl | exact ih_fW2 (by assumption)) ?_
  refine ih_seg (i1 := 9) 1 rfl ?_
  refine ih_aald rfl (ih_eP hc) ?_
  refine ih_getI rfl (by first | rfl | exact ih_fP4 (ih_P_w0 hc) | exact ih_fP4 (by assumption)) ?_
  refine ih_seg (i1 := 13) 2 rfl ?_
  try dsimp only
  refine ih_is3 103 rfl rfl (Nat.le_of_ble_eq_true rfl) (Nat.le_of_ble_eq_true rfl) rfl ?_
  refine c_within (by omega) (by omega) (by omega) (fun w1 => ?_) (fun w2 => ?_)
  · refine ih_seg (i1 := 18) 3 rfl ?_
    refine ih_ret rfl rfl ?_
    first
      | (obtain ⟨m, rfl⟩ := Int.eq_ofNat_of_zero_le (show 0 ≤ b by omega)
         exact kt p m rfl rfl hc (by omega))
      | exact kf (fun p1 m e1 e2 h1 h2 => by
          obtain rfl : p = p1 := by omega
          omega)
  · refine ih_seg (i1 := 18) 2 rfl ?_
    refine ih_ret rfl rfl ?_
    first
      | (obtain ⟨m, rfl⟩ := Int.eq_ofNat_of_zero_le (show 0 ≤ b by omega)
         exact kt p m rfl rfl hc (by omega))
      | exact kf (fun p1 m e1 e2 h1 h2 => by
          obtain rfl : p = p1 := by omega
          omega)


theorem c_reckoned {X : List Int} {t : ih_S} {Q : Option xa_V → ih_S → Prop} {c : Nat} (hc : c < 4) (G : ih_PG t c) (K : ∀ t1, (∀ i, i ≠ 92 + 3 * c → t1 i = t i) → (∀ j : Nat, (j : Int) < t (7 + 5 * c) 4 → t1 (92 + 3 * c) j = ih_en t c j) → Q (some (xR (91 + 3 * c))) t1) : ih_Wp X 116 0 [xR 0, xI c] [] t Q := by
  refine ih_seg (i1 := 1) 1 rfl ?_
  refine ih_getR rfl rfl ?_
  refine ih_seg (i1 := 3) 1 rfl ?_
  refine ih_aald rfl (ih_eC hc) ?_
  refine ih_iv0 8 rfl rfl (by first | rfl | exact ih_kP (by assumption) | exact ih_kC (by assumption) | exact ih_kN (by assumption) | exact ih_kS (by assumption) | exact ih_kW (by assumption)) (Nat.le_of_ble_eq_true rfl) (Nat.le_of_ble_eq_true rfl) rfl ?_
  refine c_reckon hc G (fun t1 hf he => ?_)
  refine ih_seg (i1 := 6) 1 rfl ?_
  refine ih_getR rfl rfl ?_
  refine ih_seg (i1 := 8) 1 rfl ?_
  refine ih_aald rfl (ih_eC hc) ?_
  refine ih_reta rfl ?_
  exact K t1 hf he

