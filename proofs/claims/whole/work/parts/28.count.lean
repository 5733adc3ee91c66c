/-! Counting over the hours -/
def ih_chg (M : Int → Int) (a : Int) : Nat → Int
  | 0 => 0
  | n + 1 => ih_chg M a n + (if M (a + n + 1) = M (a + n) then 0 else 1)
def ih_cnt (M : Int → Int) (m a : Int) : Nat → Int
  | 0 => 0
  | n + 1 => ih_cnt M m a n + (if M (a + n) = m then 1 else 0)
theorem ih_chg_flat {M : Int → Int} {a : Int} {n : Nat} : ∀ (d : Nat), (∀ j : Nat, n ≤ j → j < n + d → M (a + j + 1) = M (a + j)) → ih_chg M a (n + d) = ih_chg M a n
  | 0, _ => rfl
  | d + 1, h => by
    rw [← Nat.add_assoc, ih_chg, ih_chg_flat d (fun j h1 h2 => h j h1 (by omega)), h (n + d) (by omega) (by omega), if_pos rfl]
    omega
theorem ih_cnt_flat {M : Int → Int} {m a : Int} {n : Nat} {b : Bool} : ∀ (d : Nat), (∀ j : Nat, n ≤ j → j < n + d → (M (a + j) = m ↔ b = true)) → ih_cnt M m a (n + d) = ih_cnt M m a n + (if b = true then (d : Int) else 0)
  | 0, _ => by cases b <;> simp
  | d + 1, h => by
    have h1 := h (n + d) (by omega) (by omega)
    rw [← Nat.add_assoc, ih_cnt, ih_cnt_flat d (fun j h1 h2 => h j h1 (by omega))]
    cases b
    · rw [if_neg (fun q => absurd (h1.1 q) (by decide)), if_neg (by decide), if_neg (by decide), Int.add_zero]
    · rw [if_pos (h1.2 rfl), if_pos rfl, if_pos rfl]
      omega
theorem ih_chg_rg (M : Int → Int) (a : Int) : ∀ n, 0 ≤ ih_chg M a n ∧ ih_chg M a n ≤ n
  | 0 => ⟨Int.le_refl 0, Int.le_refl 0⟩
  | n + 1 => by
    have := ih_chg_rg M a n
    rw [ih_chg]
    split <;> omega
theorem ih_cnt_rg (M : Int → Int) (m a : Int) : ∀ n, 0 ≤ ih_cnt M m a n ∧ ih_cnt M m a n ≤ n
  | 0 => ⟨Int.le_refl 0, Int.le_refl 0⟩
  | n + 1 => by
    have := ih_cnt_rg M m a n
    rw [ih_cnt]
    split <;> omega

theorem c_first_l {X : List Int} {t : ih_S} {Q : Option xa_V → ih_S → Prop} {c : Nat} {m h : Int} (hc : c < 4) (G : ih_PG t c) (E : ih_EG t c) (hh : 0 ≤ h ∧ h < 10000) (hm : -1 ≤ m ∧ m < 65536) (K : ∀ t2 v, ih_fr c t t2 → h ≤ v ∧ v ≤ 10000 → (∀ e, h ≤ e → e < v → ih_M t c e ≠ m) → (v < 10000 → ih_M t c v = m) → Q (some (xI v)) t2) : ∀ (d i : Nat) (t1 : ih_S) (hour : Int) (hi : i + d = 25) (hf : ih_fr c t t1) (s1 : h ≤ hour ∧ hour ≤ 10000) (s3 : ∀ e, h ≤ e → e < hour → ih_M t c e ≠ m) (s4 : 9999 < hour ∨ i + ih_nev t c hour ≤ 24), ih_Wp X 18 4 [xR (91 + 3 * c), xI m, xI h, xI hour, xI i] [] t1 Q := by
  intro d
  induction d with
  | zero =>
    intro i t1 hour hi hf s1 s3 s4
    have m2 := ih_M_rg t c hour
    refine ih_seg (i1 := 6) 2 rfl ?_
    refine ih_icmp_gt rfl (by omega) (by omega) (fun w1 => ?_) (fun w1 => ?_)
    · refine ih_seg (i1 := 24) 1 rfl ?_
      refine ih_ret rfl rfl ?_
      refine K t1 _ hf (by omega) (fun e e0 e1 => s3 e e0 (by omega)) (fun q => by omega)
    · refine ih_seg (i1 := 9) 2 rfl ?_
      refine ih_icmp_gt rfl (by omega) (by omega) (fun w2 => ?_) (fun w2 => ?_)
      · refine ih_seg (i1 := 24) 1 rfl ?_
        refine ih_ret rfl rfl ?_
        refine K t1 _ hf (by omega) (fun e e0 e1 => s3 e e0 (by omega)) (fun q => by omega)
      · refine ih_seg (i1 := 12) 2 rfl ?_
        refine ih_iv1 13 rfl rfl (by first | rfl | exact ih_kP (by assumption) | exact ih_kC (by assumption) | exact ih_kN (by assumption) | exact ih_kS (by assumption) | exact ih_kW (by assumption)) (Nat.le_of_ble_eq_true rfl) (Nat.le_of_ble_eq_true rfl) rfl ?_
        exfalso
        omega
  | succ d ih =>
    intro i t1 hour hi hf s1 s3 s4
    have m2 := ih_M_rg t c hour
    refine ih_seg (i1 := 6) 2 rfl ?_
    refine ih_icmp_gt rfl (by omega) (by omega) (fun w1 => ?_) (fun w1 => ?_)
    · refine ih_seg (i1 := 24) 1 rfl ?_
      refine ih_ret rfl rfl ?_
      first
        | exact K _ _ hf (by omega) s3 (fun _ => by omega)
        | exact K _ _ hf (by omega) (fun e e0 e1 => s3 e e0 (by omega)) (fun q => by omega)
    · refine ih_seg (i1 := 9) 2 rfl ?_
      refine ih_icmp_gt rfl (by omega) (by omega) (fun w2 => ?_) (fun w2 => ?_)
      · refine ih_seg (i1 := 24) 1 rfl ?_
        refine ih_ret rfl rfl ?_
        first
          | exact K _ _ hf (by omega) s3 (fun _ => by omega)
          | exact K _ _ hf (by omega) (fun e e0 e1 => s3 e e0 (by omega)) (fun q => by omega)
      · refine ih_seg (i1 := 12) 2 rfl ?_
        refine ih_iv1 13 rfl rfl (by first | rfl | exact ih_kP (by assumption) | exact ih_kC (by assumption) | exact ih_kN (by assumption) | exact ih_kS (by assumption) | exact ih_kW (by assumption)) (Nat.le_of_ble_eq_true rfl) (Nat.le_of_ble_eq_true rfl) rfl ?_
        refine c_mean hc G E hf (by omega) (fun t2 hf => ?_)
        refine ih_seg (i1 := 14) 1 rfl ?_
        refine ih_icmp_ne rfl (by omega) (by omega) (fun w3 => ?_) (fun w3 => ?_)
        · refine ih_seg (i1 := 19) 2 rfl ?_
          refine ih_iv1 14 rfl rfl (by first | rfl | exact ih_kP (by assumption) | exact ih_kC (by assumption) | exact ih_kN (by assumption) | exact ih_kS (by assumption) | exact ih_kW (by assumption)) (Nat.le_of_ble_eq_true rfl) (Nat.le_of_ble_eq_true rfl) rfl ?_
          refine c_step hc G E hf (by omega) (fun v v1 v2 v3 => ?_)
          refine ih_seg (i1 := 4) 3 rfl ?_
          try simp only [xa_set, List.set_cons_zero, List.set_cons_succ, List.getElem?_cons_zero, List.getElem?_cons_succ]
          refine ih (i + 1) _ v (by omega) hf (by omega) (fun e e0 e1 => ?_) ?_
          · by_cases q : e < hour
            · exact s3 e e0 q
            · rw [ih_M_held v3 (by omega) e1]
              omega
          · rcases v2 with v2 | v2
            · omega
            · have := ih_nev_lt v1.1 v2
              omega
        · refine ih_seg (i1 := 16) 1 rfl ?_
          refine ih_ret rfl rfl ?_
          first
            | exact K _ _ hf (by omega) s3 (fun _ => by omega)
            | exact K _ _ hf (by omega) (fun e e0 e1 => s3 e e0 (by omega)) (fun q => by omega)

theorem c_first {X : List Int} {t : ih_S} {Q : Option xa_V → ih_S → Prop} {t1 : ih_S} {c : Nat} {m h : Int} (hc : c < 4) (G : ih_PG t c) (E : ih_EG t c) (hf : ih_fr c t t1) (hh : 0 ≤ h ∧ h < 10000) (hm : -1 ≤ m ∧ m < 65536) (K : ∀ t2 v, ih_fr c t t2 → h ≤ v ∧ v ≤ 10000 → (∀ e, h ≤ e → e < v → ih_M t c e ≠ m) → (v < 10000 → ih_M t c v = m) → Q (some (xI v)) t2) : ih_Wp X 18 0 [xR (91 + 3 * c), xI m, xI h, xC 1, xC 1] [] t1 Q := by
  refine ih_seg (i1 := 4) 4 rfl ?_
  try simp only [xa_set, List.set_cons_zero, List.set_cons_succ, List.getElem?_cons_zero, List.getElem?_cons_succ]
  have := ih_nev_le G h
  exact c_first_l hc G E hh hm K 25 0 _ h rfl hf (by omega) (fun e e0 e1 => by omega) (by omega)


theorem c_hours_l {X : List Int} {t : ih_S} {Q : Option xa_V → ih_S → Prop} {c : Nat} {m h : Int} (hc : c < 4) (G : ih_PG t c) (E : ih_EG t c) (hh : 0 ≤ h ∧ h < 10000) (hm : -1 ≤ m ∧ m < 65536) (K : ∀ t2, ih_fr c t t2 → Q (some (xI (ih_cnt (ih_M t c) m h (10000 - h).toNat))) t2) : ∀ (d i : Nat) (t1 : ih_S) (hour : Int) (x : xa_V) (hi : i + d = 25) (hf : ih_fr c t t1) (s1 : h ≤ hour ∧ hour ≤ 10000) (s4 : 9999 < hour ∨ i + ih_nev t c hour ≤ 24), ih_Wp X 19 6 [xR (91 + 3 * c), xI m, xI h, xI (ih_cnt (ih_M t c) m h (hour - h).toNat), xI hour, xI i, x] [] t1 Q := by
  intro d
  induction d with
  | zero =>
    intro i t1 hour x hi hf s1 s4
    have m2 := ih_M_rg t c hour
    have m3 := ih_cnt_rg (ih_M t c) m h (hour - h).toNat
    refine ih_seg (i1 := 8) 2 rfl ?_
    refine ih_icmp_gt rfl (by omega) (by omega) (fun w1 => ?_) (fun w1 => ?_)
    · refine ih_seg (i1 := 32) 1 rfl ?_
      refine ih_ret rfl rfl ?_
      rw [show hour = 10000 by omega]
      exact K t1 hf
    · refine ih_seg (i1 := 11) 2 rfl ?_
      refine ih_icmp_gt rfl (by omega) (by omega) (fun w2 => ?_) (fun w2 => ?_)
      · refine ih_seg (i1 := 32) 1 rfl ?_
        refine ih_ret rfl rfl ?_
        rw [show hour = 10000 by omega]
        exact K t1 hf
      · refine ih_seg (i1 := 14) 2 rfl ?_
        refine ih_iv1 14 rfl rfl (by first | rfl | exact ih_kP (by assumption) | exact ih_kC (by assumption) | exact ih_kN (by assumption) | exact ih_kS (by assumption) | exact ih_kW (by assumption)) (Nat.le_of_ble_eq_true rfl) (Nat.le_of_ble_eq_true rfl) rfl ?_
        exfalso
        omega
  | succ d ih =>
    intro i t1 hour x hi hf s1 s4
    have m2 := ih_M_rg t c hour
    have m3 := ih_cnt_rg (ih_M t c) m h (hour - h).toNat
    refine ih_seg (i1 := 8) 2 rfl ?_
    refine ih_icmp_gt rfl (by omega) (by omega) (fun w1 => ?_) (fun w1 => ?_)
    · refine ih_seg (i1 := 32) 1 rfl ?_
      refine ih_ret rfl rfl ?_
      rw [show hour = 10000 by omega]
      exact K _ hf
    · refine ih_seg (i1 := 11) 2 rfl ?_
      refine ih_icmp_gt rfl (by omega) (by omega) (fun w2 => ?_) (fun w2 => ?_)
      · refine ih_seg (i1 := 32) 1 rfl ?_
        refine ih_ret rfl rfl ?_
        rw [show hour = 10000 by omega]
        exact K _ hf
      · refine ih_seg (i1 := 14) 2 rfl ?_
        refine ih_iv1 14 rfl rfl (by first | rfl | exact ih_kP (by assumption) | exact ih_kC (by assumption) | exact ih_kN (by assumption) | exact ih_kS (by assumption) | exact ih_kW (by assumption)) (Nat.le_of_ble_eq_true rfl) (Nat.le_of_ble_eq_true rfl) rfl ?_
        refine c_step hc G E hf (by omega) (fun v v1 v2 v3 => ?_)
        refine ih_seg (i1 := 18) 3 rfl ?_
        try simp only [xa_set, List.set_cons_zero, List.set_cons_succ, List.getElem?_cons_zero, List.getElem?_cons_succ]
        refine ih_iv1 13 rfl rfl (by first | rfl | exact ih_kP (by assumption) | exact ih_kC (by assumption) | exact ih_kN (by assumption) | exact ih_kS (by assumption) | exact ih_kW (by assumption)) (Nat.le_of_ble_eq_true rfl) (Nat.le_of_ble_eq_true rfl) rfl ?_
        refine c_mean hc G E hf (by omega) (fun t2 hf => ?_)
        refine ih_seg (i1 := 20) 1 rfl ?_
        refine ih_icmp_ne rfl (by omega) (by omega) (fun w3 => ?_) (fun w3 => ?_)
        · refine ih_seg (i1 := 6) 4 rfl ?_
          try simp only [xa_set, List.set_cons_zero, List.set_cons_succ, List.getElem?_cons_zero, List.getElem?_cons_succ]
          have fl := ih_cnt_flat (M := ih_M t c) (m := m) (a := h) (n := (hour - h).toNat) (b := false) (v - hour).toNat (fun j j0 j1 => by
            rw [ih_M_held v3 (by omega) (by omega)]
            simp only [reduceCtorEq, iff_true, iff_false]
            omega)
          rw [show (hour - h).toNat + (v - hour).toNat = (v - h).toNat by omega] at fl
          refine ih_ls ?_ (ih (i + 1) _ v (xI v) (by omega) hf (by omega) ?_)
          · rw [fl]
            rw [if_neg (by decide), Int.add_zero]; rfl
          · rcases v2 with v2 | v2
            · omega
            · have := ih_nev_lt v1.1 v2
              omega
        · refine ih_seg (i1 := 6) 10 rfl ?_
          try simp only [xa_set, List.set_cons_zero, List.set_cons_succ, List.getElem?_cons_zero, List.getElem?_cons_succ]
          have fl := ih_cnt_flat (M := ih_M t c) (m := m) (a := h) (n := (hour - h).toNat) (b := true) (v - hour).toNat (fun j j0 j1 => by
            rw [ih_M_held v3 (by omega) (by omega)]
            simp only [reduceCtorEq, iff_true, iff_false]
            omega)
          rw [show (hour - h).toNat + (v - hour).toNat = (v - h).toNat by omega] at fl
          refine ih_ls ?_ (ih (i + 1) _ v (xI v) (by omega) hf (by omega) ?_)
          · rw [fl]
            rw [if_pos rfl, Int.toNat_of_nonneg (by omega)]; rfl
          · rcases v2 with v2 | v2
            · omega
            · have := ih_nev_lt v1.1 v2
              omega

theorem c_hours {X : List Int} {t : ih_S} {Q : Option xa_V → ih_S → Prop} {t1 : ih_S} {c : Nat} {m h : Int} (hc : c < 4) (G : ih_PG t c) (E : ih_EG t c) (hf : ih_fr c t t1) (hh : 0 ≤ h ∧ h < 10000) (hm : -1 ≤ m ∧ m < 65536) (K : ∀ t2, ih_fr c t t2 → Q (some (xI (ih_cnt (ih_M t c) m h (10000 - h).toNat))) t2) : ih_Wp X 19 0 [xR (91 + 3 * c), xI m, xI h, xC 1, xC 1, xC 1, xC 1] [] t1 Q := by
  refine ih_seg (i1 := 6) 6 rfl ?_
  try simp only [xa_set, List.set_cons_zero, List.set_cons_succ, List.getElem?_cons_zero, List.getElem?_cons_succ]
  have := ih_nev_le G h
  refine ih_ls ?_ (c_hours_l hc G E hh hm K 25 0 _ h (xC 1) rfl hf (by omega) (by omega))
  rw [show (h - h).toNat = 0 by omega]
  rfl


theorem c_changes_l {X : List Int} {t : ih_S} {Q : Option xa_V → ih_S → Prop} {c : Nat} {a b f : Int} (hc : c < 4) (G : ih_PG t c) (E : ih_EG t c) (hh : 0 ≤ a ∧ a ≤ b) (hb : b < 10000) (K : ∀ t2, ih_fr c t t2 → Q (some (xI (ih_chg (ih_M t c) a (b - a).toNat))) t2) : ∀ (d i : Nat) (t1 : ih_S) (hour : Int) (hi : i + d = 24) (hf : ih_fr c t t1) (s1 : a < hour ∧ hour ≤ b + 1) (s2 : hour ≤ b → ih_M t c hour ≠ ih_M t c (hour - 1)) (s4 : b < hour ∨ i + ih_nev t c hour ≤ 23), ih_Wp X 17 13 [xR (91 + 3 * c), xI f, xI b, xI (ih_chg (ih_M t c) a (hour - 1 - a).toNat), xI hour, xI i] [] t1 Q := by
  intro d
  induction d with
  | zero =>
    intro i t1 hour hi hf s1 s2 s4
    have m3 := ih_chg_rg (ih_M t c) a (hour - 1 - a).toNat
    refine ih_seg (i1 := 15) 2 rfl ?_
    refine ih_icmp_ge rfl (by omega) (by omega) (fun w1 => ?_) (fun w1 => ?_)
    · refine ih_seg (i1 := 28) 1 rfl ?_
      refine ih_ret rfl rfl ?_
      rw [show hour - 1 = b by omega]
      exact K t1 hf
    · refine ih_seg (i1 := 18) 2 rfl ?_
      refine ih_icmp_gt rfl (by omega) (by omega) (fun w2 => ?_) (fun w2 => ?_)
      · refine ih_seg (i1 := 28) 1 rfl ?_
        refine ih_ret rfl rfl ?_
        rw [show hour - 1 = b by omega]
        exact K t1 hf
      · refine ih_seg (i1 := 23) 4 rfl ?_
        try simp only [xa_set, List.set_cons_zero, List.set_cons_succ, List.getElem?_cons_zero, List.getElem?_cons_succ]
        refine ih_iv2 15 rfl rfl (by first | rfl | exact ih_kP (by assumption) | exact ih_kC (by assumption) | exact ih_kN (by assumption) | exact ih_kS (by assumption) | exact ih_kW (by assumption)) (Nat.le_of_ble_eq_true rfl) (Nat.le_of_ble_eq_true rfl) rfl ?_
        exfalso
        omega
  | succ d ih =>
    intro i t1 hour hi hf s1 s2 s4
    have m3 := ih_chg_rg (ih_M t c) a (hour - 1 - a).toNat
    refine ih_seg (i1 := 15) 2 rfl ?_
    refine ih_icmp_ge rfl (by omega) (by omega) (fun w1 => ?_) (fun w1 => ?_)
    · refine ih_seg (i1 := 28) 1 rfl ?_
      refine ih_ret rfl rfl ?_
      rw [show hour - 1 = b by omega]
      exact K _ hf
    · refine ih_seg (i1 := 18) 2 rfl ?_
      refine ih_icmp_gt rfl (by omega) (by omega) (fun w2 => ?_) (fun w2 => ?_)
      · refine ih_seg (i1 := 28) 1 rfl ?_
        refine ih_ret rfl rfl ?_
        rw [show hour - 1 = b by omega]
        exact K _ hf
      · refine ih_seg (i1 := 23) 4 rfl ?_
        try simp only [xa_set, List.set_cons_zero, List.set_cons_succ, List.getElem?_cons_zero, List.getElem?_cons_succ]
        refine ih_iv2 15 rfl rfl (by first | rfl | exact ih_kP (by assumption) | exact ih_kC (by assumption) | exact ih_kN (by assumption) | exact ih_kS (by assumption) | exact ih_kW (by assumption)) (Nat.le_of_ble_eq_true rfl) (Nat.le_of_ble_eq_true rfl) rfl ?_
        refine c_change hc G E hf (by omega) hb (fun t2 v hf v1 v2 v3 => ?_)
        refine ih_seg (i1 := 13) 3 rfl ?_
        try simp only [xa_set, List.set_cons_zero, List.set_cons_succ, List.getElem?_cons_zero, List.getElem?_cons_succ]
        have fl := ih_chg_flat (M := ih_M t c) (a := a) (n := (hour - a).toNat) (v - 1 - hour).toNat (fun j j0 j1 => by
          rw [v2 (a + j + 1) (by omega) (by omega), v2 (a + j) (by omega) (by omega)])
        rw [show (hour - a).toNat + (v - 1 - hour).toNat = (v - 1 - a).toNat by omega] at fl
        have f2 : ih_chg (ih_M t c) a (hour - a).toNat = ih_chg (ih_M t c) a (hour - 1 - a).toNat + 1 := by
          rw [show (hour - a).toNat = (hour - 1 - a).toNat + 1 by omega, ih_chg, if_neg]
          have := s2 (by omega)
          rw [show a + ((hour - 1 - a).toNat : Int) + 1 = hour by omega, show a + ((hour - 1 - a).toNat : Int) = hour - 1 by omega]
          exact this
        refine ih_ls ?_ (ih (i + 1) _ v (by omega) hf (by omega) (fun q => ?_) ?_)
        · rw [fl, f2]; rfl
        · rw [v2 (v - 1) (by omega) (by omega)]
          exact v3 q
        · by_cases q : v ≤ b
          · refine Or.inr ?_
            have e := ih_M_ev (v := v) (by rw [v2 (v - 1) (by omega) (by omega)]; exact v3 q)
            have := ih_nev_lt v1.1 e
            omega
          · omega

theorem c_changes {X : List Int} {t : ih_S} {Q : Option xa_V → ih_S → Prop} {t1 : ih_S} {c : Nat} {f b : Int} (hc : c < 4) (G : ih_PG t c) (E : ih_EG t c) (hf : ih_fr c t t1) (hh : 0 ≤ f ∧ f < b) (hb : b < 10000) (K : ∀ t2, ih_fr c t t2 → Q (some (xI (ih_chg (ih_M t c) (if f = 0 then 0 else f - 1) (b - (if f = 0 then 0 else f - 1)).toNat))) t2) : ih_Wp X 17 0 [xR (91 + 3 * c), xI f, xI b, xC 1, xC 1, xC 1] [] t1 Q := by
  have ea : (if 0 < f - 1 then f - 1 else 0) = (if f = 0 then 0 else f - 1) := by (repeat' split) <;> omega
  have ra : 0 ≤ (if f = 0 then 0 else f - 1) ∧ (if f = 0 then 0 else f - 1) ≤ b := by split <;> omega
  generalize (if f = 0 then 0 else f - 1) = a at ea ra K
  refine ih_seg (i1 := 7) 7 rfl ?_
  try simp only [xa_set, List.set_cons_zero, List.set_cons_succ, List.getElem?_cons_zero, List.getElem?_cons_succ]
  refine ih_max rfl (by omega) (by omega) (Nat.le_of_ble_eq_true rfl) ?_
  refine ih_seg (i1 := 9) 1 rfl ?_
  refine ih_iv2 15 rfl rfl (by first | rfl | exact ih_kP (by assumption) | exact ih_kC (by assumption) | exact ih_kN (by assumption) | exact ih_kS (by assumption) | exact ih_kW (by assumption)) (Nat.le_of_ble_eq_true rfl) (Nat.le_of_ble_eq_true rfl) rfl ?_
  rw [ea]
  refine c_change hc G E hf (by omega) hb (fun t2 v hf v1 v2 v3 => ?_)
  refine ih_seg (i1 := 13) 3 rfl ?_
  try simp only [xa_set, List.set_cons_zero, List.set_cons_succ, List.getElem?_cons_zero, List.getElem?_cons_succ]
  have fl := ih_chg_flat (M := ih_M t c) (a := a) (n := 0) (v - 1 - a).toNat (fun j j0 j1 => by
    rw [v2 (a + j + 1) (by omega) (by omega), v2 (a + j) (by omega) (by omega)])
  rw [Nat.zero_add] at fl
  refine ih_ls ?_ (c_changes_l (f := f) hc G E ra hb K 24 0 _ v rfl hf (by omega) (fun q => ?_) ?_)
  · rw [fl]; rfl
  · rw [v2 (v - 1) (by omega) (by omega)]
    exact v3 q
  · by_cases q : v ≤ b
    · refine Or.inr ?_
      have e := ih_M_ev (v := v) (by rw [v2 (v - 1) (by omega) (by omega)]; exact v3 q)
      have := ih_nev_lt v1.1 e
      have := ih_nev_le G a
      omega
    · omega

