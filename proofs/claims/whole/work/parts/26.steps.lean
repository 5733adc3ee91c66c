/-! Steps of a paper's course -/
/-- only the sentence of the paper c has changed -/
def ih_fr (c : Nat) (t t1 : ih_S) : Prop := ∀ i, i ≠ 93 + 3 * c → t1 i = t i
theorem ih_fr_t {c : Nat} {t t1 t2 : ih_S} (a : ih_fr c t t1) (b : ih_fr c t1 t2) : ih_fr c t t2 := fun i h => (b i h).trans (a i h)
theorem ih_fr_r (c : Nat) (t : ih_S) : ih_fr c t t := fun _ _ => rfl
theorem ih_mo_of {t t1 : ih_S} {c : Nat} (hc : c < 4) (e : ∀ j, j < 85 → t1 j = t j) : ih_mo t1 c = ih_mo t c := by
  funext f
  unfold ih_mo
  rw [e (7 + 5 * c) (by omega), e (8 + 5 * c) (by omega), e (9 + 5 * c) (by omega)]
theorem ih_fr_lo {c : Nat} {t t1 : ih_S} (hc : c < 4) (a : ih_fr c t t1) : ∀ j, j < 85 → t1 j = t j := fun j h => a j (by omega)
theorem ih_sf_fr {t t1 : ih_S} {c : Nat} (hc : c < 4) (a : ih_fr c t t1) : ih_sf t1 c = ih_sf t c := by
  funext h k
  unfold ih_sf
  rw [a (11 + 5 * c) (by omega), a (92 + 3 * c) (by omega)]
theorem ih_EG_fr {t t1 : ih_S} {c : Nat} (hc : c < 4) (E : ih_EG t c) (a : ih_fr c t t1) : ih_EG t1 c := by
  intro j hj
  rw [a (7 + 5 * c) (by omega)] at hj
  rw [a (92 + 3 * c) (by omega)]
  exact E j hj
theorem ih_PG_fr {t t1 : ih_S} {c : Nat} (hc : c < 4) (G : ih_PG t c) (a : ih_fr c t t1) : ih_PG t1 c := G.of hc (ih_fr_lo hc a)
/-- what the paper means at an hour -/
def ih_M (t : ih_S) (c : Nat) (h : Int) : Int := ih_mo t c (ih_sf t c h)
theorem ih_M_rg (t : ih_S) (c : Nat) (h : Int) : -1 ≤ ih_M t c h ∧ ih_M t c h < 65536 := ih_val_rg (ih_ok_fd _ _ _ _)
theorem ih_M_fr {t t1 : ih_S} {c : Nat} (hc : c < 4) (a : ih_fr c t t1) : ih_M t1 c = ih_M t c := by
  funext h
  unfold ih_M
  rw [ih_mo_of hc (ih_fr_lo hc a), ih_sf_fr hc a]
theorem c_mean {X : List Int} {t t1 : ih_S} {Q : Option xa_V → ih_S → Prop} {c : Nat} {h : Int} (hc : c < 4) (G : ih_PG t c) (E : ih_EG t c) (hf : ih_fr c t t1) (hh : 0 ≤ h ∧ h < 30000) (K : ∀ t2, ih_fr c t t2 → Q (some (xI (ih_M t c h))) t2) : ih_Wp X 13 0 [xR (91 + 3 * c), xI h] [] t1 Q := by
  refine c_meaningAt hc (ih_PG_fr hc G hf) (ih_EG_fr hc E hf) hh (fun t2 h2 => ?_)
  have := K t2 (ih_fr_t hf h2)
  rw [← ih_M_fr hc hf] at this
  exact this
/-- an hour at which a mark comes or goes -/
def ih_ev (t : ih_S) (c : Nat) (e : Int) : Prop := ∃ k : Nat, (k : Int) < t (7 + 5 * c) 4 ∧ (e = t (11 + 5 * c) k ∨ e = t (92 + 3 * c) k)
def ih_SI (t : ih_S) (c : Nat) (h : Int) (ka ke : Nat) (v : Int) : Prop := (h < v ∧ v ≤ 10000) ∧ (v = 10000 ∨ ih_ev t c v) ∧ (∀ j : Nat, j < ka → h < t (11 + 5 * c) j → v ≤ t (11 + 5 * c) j) ∧ (∀ j : Nat, j < ke → h < t (92 + 3 * c) j → v ≤ t (92 + 3 * c) j)
theorem ih_SI_a {t : ih_S} {c : Nat} {h v : Int} {k : Nat} (I : ih_SI t c h k k v) (hk : (k : Int) < t (7 + 5 * c) 4) (hh : h < t (11 + 5 * c) k) : ih_SI t c h (k + 1) k (if t (11 + 5 * c) k < v then t (11 + 5 * c) k else v) := by
  obtain ⟨i1, i2, i3, i4⟩ := I
  refine ⟨by split <;> omega, ?_, ?_, ?_⟩
  · split
    · exact Or.inr ⟨k, hk, Or.inl rfl⟩
    · exact i2
  · intro j hj hq
    by_cases e : j = k
    · subst e; split <;> omega
    · have := i3 j (by omega) hq
      split <;> omega
  · intro j hj hq
    have := i4 j hj hq
    split <;> omega
theorem ih_SI_b {t : ih_S} {c : Nat} {h v : Int} {k : Nat} (I : ih_SI t c h k k v) (hh : ¬ h < t (11 + 5 * c) k) : ih_SI t c h (k + 1) k v := by
  obtain ⟨i1, i2, i3, i4⟩ := I
  refine ⟨i1, i2, ?_, i4⟩
  intro j hj hq
  by_cases e : j = k
  · subst e; omega
  · exact i3 j (by omega) hq
theorem ih_SI_c {t : ih_S} {c : Nat} {h v : Int} {k : Nat} (I : ih_SI t c h (k + 1) k v) (hk : (k : Int) < t (7 + 5 * c) 4) (hh : h < t (92 + 3 * c) k) : ih_SI t c h (k + 1) (k + 1) (if t (92 + 3 * c) k < v then t (92 + 3 * c) k else v) := by
  obtain ⟨i1, i2, i3, i4⟩ := I
  refine ⟨by split <;> omega, ?_, ?_, ?_⟩
  · split
    · exact Or.inr ⟨k, hk, Or.inr rfl⟩
    · exact i2
  · intro j hj hq
    have := i3 j hj hq
    split <;> omega
  · intro j hj hq
    by_cases e : j = k
    · subst e; split <;> omega
    · have := i4 j (by omega) hq
      split <;> omega
theorem ih_SI_d {t : ih_S} {c : Nat} {h v : Int} {k : Nat} (I : ih_SI t c h (k + 1) k v) (hh : ¬ h < t (92 + 3 * c) k) : ih_SI t c h (k + 1) (k + 1) v := by
  obtain ⟨i1, i2, i3, i4⟩ := I
  refine ⟨i1, i2, i3, ?_⟩
  intro j hj hq
  by_cases e : j = k
  · subst e; omega
  · exact i4 j (by omega) hq

theorem c_step_l {X : List Int} {t : ih_S} {Q : Option xa_V → ih_S → Prop} {c : Nat} {h : Int} (hc : c < 4) (G : ih_PG t c) (E : ih_EG t c) (hh : 0 ≤ h ∧ h < 10000) (K : ∀ v, ih_SI t c h (t (7 + 5 * c) 4).toNat (t (7 + 5 * c) 4).toNat v → Q (some (xI v)) t) : ∀ (d k : Nat) (v : Int) (hd : (k : Int) + d = t (7 + 5 * c) 4) (I : ih_SI t c h k k v), ih_Wp X 14 4 [xR (91 + 3 * c), xI h, xI v, xI k] [] t Q := by
  intro d
  induction d with
  | zero =>
    intro k v hd I
    have g1 := G.sz
    have i1 := I.1
    refine ih_seg (i1 := 6) 2 rfl ?_
    refine ih_getR rfl (by first | rfl | exact ih_fC0 (by assumption)) ?_
    refine ih_getI rfl (by first | rfl | exact ih_fP4 (ih_P_w0 hc) | exact ih_fP4 (by assumption)) ?_
    refine ih_icmp_ge rfl (by (first | omega | (split <;> omega))) (by (first | omega | (split <;> omega))) (fun w1 => ?_) (fun w1 => ?_)
    · refine ih_seg (i1 := 40) 1 rfl ?_
      refine ih_ret rfl rfl ?_
      rw [show (t (7 + 5 * c) 4).toNat = k by omega] at K
      exact K _ I
    · refine ih_seg (i1 := 10) 1 rfl ?_
      refine ih_getR rfl (by first | rfl | exact ih_fC0 (by assumption)) ?_
      refine ih_getR rfl (by first | rfl | exact ih_fP3 (ih_P_w0 hc) | exact ih_fP3 (by assumption)) ?_
      refine ih_seg (i1 := 13) 1 rfl ?_
      refine ih_iald rfl (by first | rfl | exact ih_lP1 (ih_P_w0 hc) | exact ih_lP2 (ih_P_w0 hc) | exact ih_lP3 (ih_P_w0 hc) | exact ih_lP4 (ih_P_w0 hc) |  exact ih_lP1 (by assumption) | exact ih_lP2 (by assumption) | exact ih_lP3 (by assumption) | exact ih_lP4 (by assumption) | exact ih_lC1 (by assumption) | exact ih_lS1 (by assumption) | exact ih_lW1 (by assumption) | exact ih_lW2 (by assumption) | exact ih_lW4 (by assumption) | exact ih_lW5 (by assumption)) (by (first | omega | (split <;> omega))) (by (first | omega | (split <;> omega))) (k := ?_)
      refine ih_seg (i1 := 15) 1 rfl ?_
      refine ih_icmp_le rfl (by (first | omega | (split <;> omega))) (by (first | omega | (split <;> omega))) (fun w2 => ?_) (fun w2 => ?_)
      · refine ih_seg (i1 := 25) 1 rfl ?_
        refine ih_getR rfl (by first | rfl | exact ih_fC2 (by assumption)) ?_
        refine ih_seg (i1 := 27) 1 rfl ?_
        refine ih_iald rfl (by first | rfl | exact ih_lP1 (ih_P_w0 hc) | exact ih_lP2 (ih_P_w0 hc) | exact ih_lP3 (ih_P_w0 hc) | exact ih_lP4 (ih_P_w0 hc) |  exact ih_lP1 (by assumption) | exact ih_lP2 (by assumption) | exact ih_lP3 (by assumption) | exact ih_lP4 (by assumption) | exact ih_lC1 (by assumption) | exact ih_lS1 (by assumption) | exact ih_lW1 (by assumption) | exact ih_lW2 (by assumption) | exact ih_lW4 (by assumption) | exact ih_lW5 (by assumption)) (by (first | omega | (split <;> omega))) (by (first | omega | (split <;> omega))) (k := ?_)
        refine ih_seg (i1 := 29) 1 rfl ?_
        refine ih_icmp_le rfl (by (first | omega | (split <;> omega))) (by (first | omega | (split <;> omega))) (fun w3 => ?_) (fun w3 => ?_)
        · refine ih_seg (i1 := 4) 2 rfl ?_
          try simp only [xa_set, List.set_cons_zero, List.set_cons_succ, List.getElem?_cons_zero, List.getElem?_cons_succ]
          exfalso
          omega
        · refine ih_seg (i1 := 32) 2 rfl ?_
          refine ih_getR rfl (by first | rfl | exact ih_fC2 (by assumption)) ?_
          refine ih_seg (i1 := 34) 1 rfl ?_
          refine ih_iald rfl (by first | rfl | exact ih_lP1 (ih_P_w0 hc) | exact ih_lP2 (ih_P_w0 hc) | exact ih_lP3 (ih_P_w0 hc) | exact ih_lP4 (ih_P_w0 hc) |  exact ih_lP1 (by assumption) | exact ih_lP2 (by assumption) | exact ih_lP3 (by assumption) | exact ih_lP4 (by assumption) | exact ih_lC1 (by assumption) | exact ih_lS1 (by assumption) | exact ih_lW1 (by assumption) | exact ih_lW2 (by assumption) | exact ih_lW4 (by assumption) | exact ih_lW5 (by assumption)) (by (first | omega | (split <;> omega))) (by (first | omega | (split <;> omega))) (k := ?_)
          refine ih_min rfl (by (first | omega | (split <;> omega))) (by (first | omega | (split <;> omega))) (Nat.le_of_ble_eq_true rfl) ?_
          refine ih_seg (i1 := 4) 3 rfl ?_
          try simp only [xa_set, List.set_cons_zero, List.set_cons_succ, List.getElem?_cons_zero, List.getElem?_cons_succ]
          exfalso
          omega
      · refine ih_seg (i1 := 18) 2 rfl ?_
        refine ih_getR rfl (by first | rfl | exact ih_fC0 (by assumption)) ?_
        refine ih_getR rfl (by first | rfl | exact ih_fP3 (ih_P_w0 hc) | exact ih_fP3 (by assumption)) ?_
        refine ih_seg (i1 := 21) 1 rfl ?_
        refine ih_iald rfl (by first | rfl | exact ih_lP1 (ih_P_w0 hc) | exact ih_lP2 (ih_P_w0 hc) | exact ih_lP3 (ih_P_w0 hc) | exact ih_lP4 (ih_P_w0 hc) |  exact ih_lP1 (by assumption) | exact ih_lP2 (by assumption) | exact ih_lP3 (by assumption) | exact ih_lP4 (by assumption) | exact ih_lC1 (by assumption) | exact ih_lS1 (by assumption) | exact ih_lW1 (by assumption) | exact ih_lW2 (by assumption) | exact ih_lW4 (by assumption) | exact ih_lW5 (by assumption)) (by (first | omega | (split <;> omega))) (by (first | omega | (split <;> omega))) (k := ?_)
        refine ih_min rfl (by (first | omega | (split <;> omega))) (by (first | omega | (split <;> omega))) (Nat.le_of_ble_eq_true rfl) ?_
        refine ih_seg (i1 := 25) 2 rfl ?_
        try simp only [xa_set, List.set_cons_zero, List.set_cons_succ, List.getElem?_cons_zero, List.getElem?_cons_succ]
        refine ih_getR rfl (by first | rfl | exact ih_fC2 (by assumption)) ?_
        refine ih_seg (i1 := 27) 1 rfl ?_
        refine ih_iald rfl (by first | rfl | exact ih_lP1 (ih_P_w0 hc) | exact ih_lP2 (ih_P_w0 hc) | exact ih_lP3 (ih_P_w0 hc) | exact ih_lP4 (ih_P_w0 hc) |  exact ih_lP1 (by assumption) | exact ih_lP2 (by assumption) | exact ih_lP3 (by assumption) | exact ih_lP4 (by assumption) | exact ih_lC1 (by assumption) | exact ih_lS1 (by assumption) | exact ih_lW1 (by assumption) | exact ih_lW2 (by assumption) | exact ih_lW4 (by assumption) | exact ih_lW5 (by assumption)) (by (first | omega | (split <;> omega))) (by (first | omega | (split <;> omega))) (k := ?_)
        refine ih_seg (i1 := 29) 1 rfl ?_
        refine ih_icmp_le rfl (by (first | omega | (split <;> omega))) (by (first | omega | (split <;> omega))) (fun w4 => ?_) (fun w4 => ?_)
        · refine ih_seg (i1 := 4) 2 rfl ?_
          try simp only [xa_set, List.set_cons_zero, List.set_cons_succ, List.getElem?_cons_zero, List.getElem?_cons_succ]
          exfalso
          omega
        · refine ih_seg (i1 := 32) 2 rfl ?_
          refine ih_getR rfl (by first | rfl | exact ih_fC2 (by assumption)) ?_
          refine ih_seg (i1 := 34) 1 rfl ?_
          refine ih_iald rfl (by first | rfl | exact ih_lP1 (ih_P_w0 hc) | exact ih_lP2 (ih_P_w0 hc) | exact ih_lP3 (ih_P_w0 hc) | exact ih_lP4 (ih_P_w0 hc) |  exact ih_lP1 (by assumption) | exact ih_lP2 (by assumption) | exact ih_lP3 (by assumption) | exact ih_lP4 (by assumption) | exact ih_lC1 (by assumption) | exact ih_lS1 (by assumption) | exact ih_lW1 (by assumption) | exact ih_lW2 (by assumption) | exact ih_lW4 (by assumption) | exact ih_lW5 (by assumption)) (by (first | omega | (split <;> omega))) (by (first | omega | (split <;> omega))) (k := ?_)
          refine ih_min rfl (by (first | omega | (split <;> omega))) (by (first | omega | (split <;> omega))) (Nat.le_of_ble_eq_true rfl) ?_
          refine ih_seg (i1 := 4) 3 rfl ?_
          try simp only [xa_set, List.set_cons_zero, List.set_cons_succ, List.getElem?_cons_zero, List.getElem?_cons_succ]
          exfalso
          omega
  | succ d ih =>
    intro k v hd I
    have g1 := G.sz
    have i1 := I.1
    have hk : (k : Int) < t (7 + 5 * c) 4 := by omega
    have g2 := G.at_ k hk
    have g3 := E k hk
    simp only [← ih_a4] at g2
    refine ih_seg (i1 := 6) 2 rfl ?_
    refine ih_getR rfl (by first | rfl | exact ih_fC0 (by assumption)) ?_
    refine ih_getI rfl (by first | rfl | exact ih_fP4 (ih_P_w0 hc) | exact ih_fP4 (by assumption)) ?_
    refine ih_icmp_ge rfl (by (first | omega | (split <;> omega))) (by (first | omega | (split <;> omega))) (fun w1 => ?_) (fun w1 => ?_)
    · refine ih_seg (i1 := 40) 1 rfl ?_
      refine ih_ret rfl rfl ?_
      exfalso
      omega
    · refine ih_seg (i1 := 10) 1 rfl ?_
      refine ih_getR rfl (by first | rfl | exact ih_fC0 (by assumption)) ?_
      refine ih_getR rfl (by first | rfl | exact ih_fP3 (ih_P_w0 hc) | exact ih_fP3 (by assumption)) ?_
      refine ih_seg (i1 := 13) 1 rfl ?_
      refine ih_iald rfl (by first | rfl | exact ih_lP1 (ih_P_w0 hc) | exact ih_lP2 (ih_P_w0 hc) | exact ih_lP3 (ih_P_w0 hc) | exact ih_lP4 (ih_P_w0 hc) |  exact ih_lP1 (by assumption) | exact ih_lP2 (by assumption) | exact ih_lP3 (by assumption) | exact ih_lP4 (by assumption) | exact ih_lC1 (by assumption) | exact ih_lS1 (by assumption) | exact ih_lW1 (by assumption) | exact ih_lW2 (by assumption) | exact ih_lW4 (by assumption) | exact ih_lW5 (by assumption)) (by (first | omega | (split <;> omega))) (by (first | omega | (split <;> omega))) (k := ?_)
      refine ih_seg (i1 := 15) 1 rfl ?_
      refine ih_icmp_le rfl (by (first | omega | (split <;> omega))) (by (first | omega | (split <;> omega))) (fun w2 => ?_) (fun w2 => ?_)
      · refine ih_seg (i1 := 25) 1 rfl ?_
        refine ih_getR rfl (by first | rfl | exact ih_fC2 (by assumption)) ?_
        refine ih_seg (i1 := 27) 1 rfl ?_
        refine ih_iald rfl (by first | rfl | exact ih_lP1 (ih_P_w0 hc) | exact ih_lP2 (ih_P_w0 hc) | exact ih_lP3 (ih_P_w0 hc) | exact ih_lP4 (ih_P_w0 hc) |  exact ih_lP1 (by assumption) | exact ih_lP2 (by assumption) | exact ih_lP3 (by assumption) | exact ih_lP4 (by assumption) | exact ih_lC1 (by assumption) | exact ih_lS1 (by assumption) | exact ih_lW1 (by assumption) | exact ih_lW2 (by assumption) | exact ih_lW4 (by assumption) | exact ih_lW5 (by assumption)) (by (first | omega | (split <;> omega))) (by (first | omega | (split <;> omega))) (k := ?_)
        refine ih_seg (i1 := 29) 1 rfl ?_
        refine ih_icmp_le rfl (by (first | omega | (split <;> omega))) (by (first | omega | (split <;> omega))) (fun w3 => ?_) (fun w3 => ?_)
        · refine ih_seg (i1 := 4) 2 rfl ?_
          try simp only [xa_set, List.set_cons_zero, List.set_cons_succ, List.getElem?_cons_zero, List.getElem?_cons_succ]
          simp only [ih_a4] at *
          refine ih (k + 1) _ (by omega) ?_
          first
            | exact ih_SI_c (ih_SI_a I (by omega) (by omega)) (by omega) (by omega)
            | exact ih_SI_d (ih_SI_a I (by omega) (by omega)) (by omega)
            | exact ih_SI_c (ih_SI_b I (by omega)) (by omega) (by omega)
            | exact ih_SI_d (ih_SI_b I (by omega)) (by omega)
        · refine ih_seg (i1 := 32) 2 rfl ?_
          refine ih_getR rfl (by first | rfl | exact ih_fC2 (by assumption)) ?_
          refine ih_seg (i1 := 34) 1 rfl ?_
          refine ih_iald rfl (by first | rfl | exact ih_lP1 (ih_P_w0 hc) | exact ih_lP2 (ih_P_w0 hc) | exact ih_lP3 (ih_P_w0 hc) | exact ih_lP4 (ih_P_w0 hc) |  exact ih_lP1 (by assumption) | exact ih_lP2 (by assumption) | exact ih_lP3 (by assumption) | exact ih_lP4 (by assumption) | exact ih_lC1 (by assumption) | exact ih_lS1 (by assumption) | exact ih_lW1 (by assumption) | exact ih_lW2 (by assumption) | exact ih_lW4 (by assumption) | exact ih_lW5 (by assumption)) (by (first | omega | (split <;> omega))) (by (first | omega | (split <;> omega))) (k := ?_)
          refine ih_min rfl (by (first | omega | (split <;> omega))) (by (first | omega | (split <;> omega))) (Nat.le_of_ble_eq_true rfl) ?_
          refine ih_seg (i1 := 4) 3 rfl ?_
          try simp only [xa_set, List.set_cons_zero, List.set_cons_succ, List.getElem?_cons_zero, List.getElem?_cons_succ]
          simp only [ih_a4] at *
          refine ih (k + 1) _ (by omega) ?_
          first
            | exact ih_SI_c (ih_SI_a I (by omega) (by omega)) (by omega) (by omega)
            | exact ih_SI_d (ih_SI_a I (by omega) (by omega)) (by omega)
            | exact ih_SI_c (ih_SI_b I (by omega)) (by omega) (by omega)
            | exact ih_SI_d (ih_SI_b I (by omega)) (by omega)
      · refine ih_seg (i1 := 18) 2 rfl ?_
        refine ih_getR rfl (by first | rfl | exact ih_fC0 (by assumption)) ?_
        refine ih_getR rfl (by first | rfl | exact ih_fP3 (ih_P_w0 hc) | exact ih_fP3 (by assumption)) ?_
        refine ih_seg (i1 := 21) 1 rfl ?_
        refine ih_iald rfl (by first | rfl | exact ih_lP1 (ih_P_w0 hc) | exact ih_lP2 (ih_P_w0 hc) | exact ih_lP3 (ih_P_w0 hc) | exact ih_lP4 (ih_P_w0 hc) |  exact ih_lP1 (by assumption) | exact ih_lP2 (by assumption) | exact ih_lP3 (by assumption) | exact ih_lP4 (by assumption) | exact ih_lC1 (by assumption) | exact ih_lS1 (by assumption) | exact ih_lW1 (by assumption) | exact ih_lW2 (by assumption) | exact ih_lW4 (by assumption) | exact ih_lW5 (by assumption)) (by (first | omega | (split <;> omega))) (by (first | omega | (split <;> omega))) (k := ?_)
        refine ih_min rfl (by (first | omega | (split <;> omega))) (by (first | omega | (split <;> omega))) (Nat.le_of_ble_eq_true rfl) ?_
        refine ih_seg (i1 := 25) 2 rfl ?_
        try simp only [xa_set, List.set_cons_zero, List.set_cons_succ, List.getElem?_cons_zero, List.getElem?_cons_succ]
        refine ih_getR rfl (by first | rfl | exact ih_fC2 (by assumption)) ?_
        refine ih_seg (i1 := 27) 1 rfl ?_
        refine ih_iald rfl (by first | rfl | exact ih_lP1 (ih_P_w0 hc) | exact ih_lP2 (ih_P_w0 hc) | exact ih_lP3 (ih_P_w0 hc) | exact ih_lP4 (ih_P_w0 hc) |  exact ih_lP1 (by assumption) | exact ih_lP2 (by assumption) | exact ih_lP3 (by assumption) | exact ih_lP4 (by assumption) | exact ih_lC1 (by assumption) | exact ih_lS1 (by assumption) | exact ih_lW1 (by assumption) | exact ih_lW2 (by assumption) | exact ih_lW4 (by assumption) | exact ih_lW5 (by assumption)) (by (first | omega | (split <;> omega))) (by (first | omega | (split <;> omega))) (k := ?_)
        refine ih_seg (i1 := 29) 1 rfl ?_
        refine ih_icmp_le rfl (by (first | omega | (split <;> omega))) (by (first | omega | (split <;> omega))) (fun w4 => ?_) (fun w4 => ?_)
        · refine ih_seg (i1 := 4) 2 rfl ?_
          try simp only [xa_set, List.set_cons_zero, List.set_cons_succ, List.getElem?_cons_zero, List.getElem?_cons_succ]
          simp only [ih_a4] at *
          refine ih (k + 1) _ (by omega) ?_
          first
            | exact ih_SI_c (ih_SI_a I (by omega) (by omega)) (by omega) (by omega)
            | exact ih_SI_d (ih_SI_a I (by omega) (by omega)) (by omega)
            | exact ih_SI_c (ih_SI_b I (by omega)) (by omega) (by omega)
            | exact ih_SI_d (ih_SI_b I (by omega)) (by omega)
        · refine ih_seg (i1 := 32) 2 rfl ?_
          refine ih_getR rfl (by first | rfl | exact ih_fC2 (by assumption)) ?_
          refine ih_seg (i1 := 34) 1 rfl ?_
          refine ih_iald rfl (by first | rfl | exact ih_lP1 (ih_P_w0 hc) | exact ih_lP2 (ih_P_w0 hc) | exact ih_lP3 (ih_P_w0 hc) | exact ih_lP4 (ih_P_w0 hc) |  exact ih_lP1 (by assumption) | exact ih_lP2 (by assumption) | exact ih_lP3 (by assumption) | exact ih_lP4 (by assumption) | exact ih_lC1 (by assumption) | exact ih_lS1 (by assumption) | exact ih_lW1 (by assumption) | exact ih_lW2 (by assumption) | exact ih_lW4 (by assumption) | exact ih_lW5 (by assumption)) (by (first | omega | (split <;> omega))) (by (first | omega | (split <;> omega))) (k := ?_)
          refine ih_min rfl (by (first | omega | (split <;> omega))) (by (first | omega | (split <;> omega))) (Nat.le_of_ble_eq_true rfl) ?_
          refine ih_seg (i1 := 4) 3 rfl ?_
          try simp only [xa_set, List.set_cons_zero, List.set_cons_succ, List.getElem?_cons_zero, List.getElem?_cons_succ]
          simp only [ih_a4] at *
          refine ih (k + 1) _ (by omega) ?_
          first
            | exact ih_SI_c (ih_SI_a I (by omega) (by omega)) (by omega) (by omega)
            | exact ih_SI_d (ih_SI_a I (by omega) (by omega)) (by omega)
            | exact ih_SI_c (ih_SI_b I (by omega)) (by omega) (by omega)
            | exact ih_SI_d (ih_SI_b I (by omega)) (by omega)

theorem c_step {X : List Int} {t : ih_S} {Q : Option xa_V → ih_S → Prop} {t1 : ih_S} {c : Nat} {h : Int} (hc : c < 4) (G : ih_PG t c) (E : ih_EG t c) (hf : ih_fr c t t1) (hh : 0 ≤ h ∧ h < 10000) (K : ∀ v, h < v ∧ v ≤ 10000 → (v = 10000 ∨ ih_ev t c v) → (∀ e, ih_ev t c e → h < e → v ≤ e) → Q (some (xI v)) t1) : ih_Wp X 14 0 [xR (91 + 3 * c), xI h, xC 1, xC 1] [] t1 Q := by
  have E1 := ih_EG_fr hc E hf
  have G1 := ih_PG_fr hc G hf
  have g1 := G1.sz
  refine ih_seg (i1 := 4) 4 rfl ?_
  try simp only [xa_set, List.set_cons_zero, List.set_cons_succ, List.getElem?_cons_zero, List.getElem?_cons_succ]
  refine c_step_l hc G1 E1 hh (fun v I => ?_) (t1 (7 + 5 * c) 4).toNat 0 10000 (by omega) ⟨by omega, Or.inl rfl, fun j hj => by omega, fun j hj => by omega⟩
  obtain ⟨i1, i2, i3, i4⟩ := I
  rw [hf (11 + 5 * c) (by omega)] at i3
  rw [hf (92 + 3 * c) (by omega)] at i4
  refine K v i1 ?_ ?_
  · rcases i2 with i2 | ⟨k, k1, k2⟩
    · exact Or.inl i2
    · rw [hf (7 + 5 * c) (by omega)] at k1
      rw [hf (11 + 5 * c) (by omega), hf (92 + 3 * c) (by omega)] at k2
      exact Or.inr ⟨k, k1, k2⟩
  · rintro e ⟨k, k1, rfl | rfl⟩ he
    · exact i3 k (by rw [hf (7 + 5 * c) (by omega)]; omega) he
    · exact i4 k (by rw [hf (7 + 5 * c) (by omega)]; omega) he

