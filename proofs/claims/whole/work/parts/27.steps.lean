/-! From step to step -/
def ih_cn (t : ih_S) (c : Nat) (h : Int) : Nat → Nat
  | 0 => 0
  | k + 1 => ih_cn t c h k + (if h < t (11 + 5 * c) k then 1 else 0) + (if h < t (92 + 3 * c) k then 1 else 0)
theorem ih_cn_le (t : ih_S) (c : Nat) (h : Int) : ∀ k, ih_cn t c h k ≤ 2 * k
  | 0 => Nat.le_refl 0
  | k + 1 => by
    have := ih_cn_le t c h k
    rw [ih_cn]
    split <;> split <;> omega
theorem ih_cn_mono (t : ih_S) (c : Nat) {h v : Int} (hv : h ≤ v) : ∀ k, ih_cn t c v k ≤ ih_cn t c h k
  | 0 => Nat.le_refl 0
  | k + 1 => by
    have := ih_cn_mono t c hv k
    rw [ih_cn, ih_cn]
    repeat' split
    all_goals omega
theorem ih_cn_lt (t : ih_S) (c : Nat) {h v : Int} (hv : h < v) (j : Nat) (e : v = t (11 + 5 * c) j ∨ v = t (92 + 3 * c) j) : ∀ k, j < k → ih_cn t c v k < ih_cn t c h k
  | 0, hj => by omega
  | k + 1, hj => by
    rw [ih_cn, ih_cn]
    by_cases q : j = k
    · subst q
      have := ih_cn_mono t c (Int.le_of_lt hv) j
      repeat' split
      all_goals omega
    · have := ih_cn_lt t c hv j e k (by omega)
      repeat' split
      all_goals omega
def ih_nev (t : ih_S) (c : Nat) (h : Int) : Nat := ih_cn t c h (t (7 + 5 * c) 4).toNat
theorem ih_nev_le {t : ih_S} {c : Nat} (G : ih_PG t c) (h : Int) : ih_nev t c h ≤ 24 := by
  have := ih_cn_le t c h (t (7 + 5 * c) 4).toNat
  have g := G.sz
  unfold ih_nev
  omega
theorem ih_nev_lt {t : ih_S} {c : Nat} {h v : Int} (hv : h < v) (e : ih_ev t c v) : ih_nev t c v < ih_nev t c h := by
  obtain ⟨j, hj, e⟩ := e
  exact ih_cn_lt t c hv j e _ (by omega)
theorem ih_mo_congr {t : ih_S} {c : Nat} {f g : Nat → Bool} (h : ∀ k : Nat, (k : Int) < t (7 + 5 * c) 4 → f k = g k) : ih_mo t c f = ih_mo t c g := congrArg ih_val (ih_fd_congr (fun k hk => ⟨rfl, rfl, h k (by omega)⟩))
/-- where no mark comes or goes the meaning is held -/
theorem ih_M_held {t : ih_S} {c : Nat} {h v : Int} (hn : ∀ e, ih_ev t c e → h < e → v ≤ e) {x : Int} (h0 : h ≤ x) (h1 : x < v) : ih_M t c x = ih_M t c h := by
  refine ih_mo_congr (fun k hk => ?_)
  have a := hn _ ⟨k, hk, Or.inl rfl⟩
  have b := hn _ ⟨k, hk, Or.inr rfl⟩
  unfold ih_sf
  rw [decide_eq_decide]
  omega
theorem ih_M_ev {t : ih_S} {c : Nat} {v : Int} (h : ih_M t c v ≠ ih_M t c (v - 1)) : ih_ev t c v := by
  refine Classical.byContradiction (fun q => h ?_)
  refine ih_M_held (h := v - 1) (v := v + 1) (fun e he h1 => ?_) (by omega) (by omega)
  by_cases k : e = v
  · exact absurd (k ▸ he) q
  · omega

theorem c_change_l {X : List Int} {t : ih_S} {Q : Option xa_V → ih_S → Prop} {c : Nat} {h last : Int} (hc : c < 4) (G : ih_PG t c) (E : ih_EG t c) (hh : 0 ≤ h ∧ h ≤ last) (hl : last < 10000) (K : ∀ t2 v, ih_fr c t t2 → h < v ∧ v ≤ last + 1 → (∀ e, h ≤ e → e < v → ih_M t c e = ih_M t c h) → (v ≤ last → ih_M t c v ≠ ih_M t c h) → Q (some (xI v)) t2) : ∀ (d i : Nat) (t1 : ih_S) (step : Int) (hi : i + d = 24) (hf : ih_fr c t t1) (s1 : h < step ∧ step ≤ 10000) (s2 : step = 10000 ∨ ih_ev t c step) (s3 : ∀ e, h ≤ e → e < step → ih_M t c e = ih_M t c h) (s4 : 9999 < step ∨ i + ih_nev t c step ≤ 23), ih_Wp X 15 10 [xR (91 + 3 * c), xI h, xI last, xI (ih_M t c h), xI step, xI i] [] t1 Q := by
  intro d
  induction d with
  | zero =>
    intro i t1 step hi hf s1 s2 s3 s4
    have m1 := ih_M_rg t c h
    have m2 := ih_M_rg t c step
    refine ih_seg (i1 := 12) 2 rfl ?_
    refine ih_icmp_ge rfl (by omega) (by omega) (fun w1 => ?_) (fun w1 => ?_)
    · refine ih_seg (i1 := 32) 3 rfl ?_
      try dsimp only
      refine ih_ret rfl rfl ?_
      refine K t1 _ hf (by omega) (fun e e0 e1 => s3 e e0 (by omega)) (fun q => by omega)
    · refine ih_seg (i1 := 15) 2 rfl ?_
      refine ih_icmp_gt rfl (by omega) (by omega) (fun w2 => ?_) (fun w2 => ?_)
      · refine ih_seg (i1 := 32) 3 rfl ?_
        try dsimp only
        refine ih_ret rfl rfl ?_
        refine K t1 _ hf (by omega) (fun e e0 e1 => s3 e e0 (by omega)) (fun q => by omega)
      · refine ih_seg (i1 := 18) 2 rfl ?_
        refine ih_iv1 13 rfl rfl (by first | rfl | exact ih_kP (by assumption) | exact ih_kC (by assumption) | exact ih_kN (by assumption) | exact ih_kS (by assumption) | exact ih_kW (by assumption)) (Nat.le_of_ble_eq_true rfl) (Nat.le_of_ble_eq_true rfl) rfl ?_
        exfalso
        omega
  | succ d ih =>
    intro i t1 step hi hf s1 s2 s3 s4
    have m1 := ih_M_rg t c h
    have m2 := ih_M_rg t c step
    refine ih_seg (i1 := 12) 2 rfl ?_
    refine ih_icmp_ge rfl (by omega) (by omega) (fun w1 => ?_) (fun w1 => ?_)
    · refine ih_seg (i1 := 32) 3 rfl ?_
      try dsimp only
      refine ih_ret rfl rfl ?_
      first
        | exact K _ _ hf (by omega) s3 (fun _ => by omega)
        | exact K _ _ hf (by omega) (fun e e0 e1 => s3 e e0 (by omega)) (fun q => by omega)
    · refine ih_seg (i1 := 15) 2 rfl ?_
      refine ih_icmp_gt rfl (by omega) (by omega) (fun w2 => ?_) (fun w2 => ?_)
      · refine ih_seg (i1 := 32) 3 rfl ?_
        try dsimp only
        refine ih_ret rfl rfl ?_
        first
          | exact K _ _ hf (by omega) s3 (fun _ => by omega)
          | exact K _ _ hf (by omega) (fun e e0 e1 => s3 e e0 (by omega)) (fun q => by omega)
      · refine ih_seg (i1 := 18) 2 rfl ?_
        refine ih_iv1 13 rfl rfl (by first | rfl | exact ih_kP (by assumption) | exact ih_kC (by assumption) | exact ih_kN (by assumption) | exact ih_kS (by assumption) | exact ih_kW (by assumption)) (Nat.le_of_ble_eq_true rfl) (Nat.le_of_ble_eq_true rfl) rfl ?_
        refine c_mean hc G E hf (by omega) (fun t2 hf => ?_)
        refine ih_seg (i1 := 20) 1 rfl ?_
        refine ih_icmp_eq rfl (by omega) (by omega) (fun w3 => ?_) (fun w3 => ?_)
        · refine ih_seg (i1 := 25) 2 rfl ?_
          refine ih_iv1 14 rfl rfl (by first | rfl | exact ih_kP (by assumption) | exact ih_kC (by assumption) | exact ih_kN (by assumption) | exact ih_kS (by assumption) | exact ih_kW (by assumption)) (Nat.le_of_ble_eq_true rfl) (Nat.le_of_ble_eq_true rfl) rfl ?_
          refine c_step hc G E hf (by omega) (fun v v1 v2 v3 => ?_)
          refine ih_seg (i1 := 10) 3 rfl ?_
          try simp only [xa_set, List.set_cons_zero, List.set_cons_succ, List.getElem?_cons_zero, List.getElem?_cons_succ]
          refine ih (i + 1) _ v (by omega) hf (by omega) v2 (fun e e0 e1 => ?_) ?_
          · by_cases q : e < step
            · exact s3 e e0 q
            · rw [ih_M_held v3 (by omega) e1]
              omega
          · rcases v2 with v2 | v2
            · omega
            · have := ih_nev_lt v1.1 v2
              omega
        · refine ih_seg (i1 := 22) 1 rfl ?_
          refine ih_ret rfl rfl ?_
          first
            | exact K _ _ hf (by omega) s3 (fun _ => by omega)
            | exact K _ _ hf (by omega) (fun e e0 e1 => s3 e e0 (by omega)) (fun q => by omega)

theorem c_change {X : List Int} {t : ih_S} {Q : Option xa_V → ih_S → Prop} {t1 : ih_S} {c : Nat} {h last : Int} (hc : c < 4) (G : ih_PG t c) (E : ih_EG t c) (hf : ih_fr c t t1) (hh : 0 ≤ h ∧ h ≤ last) (hl : last < 10000) (K : ∀ t2 v, ih_fr c t t2 → h < v ∧ v ≤ last + 1 → (∀ e, h ≤ e → e < v → ih_M t c e = ih_M t c h) → (v ≤ last → ih_M t c v ≠ ih_M t c h) → Q (some (xI v)) t2) : ih_Wp X 15 0 [xR (91 + 3 * c), xI h, xI last, xC 1, xC 1, xC 1] [] t1 Q := by
  refine ih_seg (i1 := 2) 2 rfl ?_
  refine ih_iv1 13 rfl rfl (by first | rfl | exact ih_kP (by assumption) | exact ih_kC (by assumption) | exact ih_kN (by assumption) | exact ih_kS (by assumption) | exact ih_kW (by assumption)) (Nat.le_of_ble_eq_true rfl) (Nat.le_of_ble_eq_true rfl) rfl ?_
  refine c_mean hc G E hf (by omega) (fun t2 hf => ?_)
  refine ih_seg (i1 := 6) 3 rfl ?_
  try simp only [xa_set, List.set_cons_zero, List.set_cons_succ, List.getElem?_cons_zero, List.getElem?_cons_succ]
  refine ih_iv1 14 rfl rfl (by first | rfl | exact ih_kP (by assumption) | exact ih_kC (by assumption) | exact ih_kN (by assumption) | exact ih_kS (by assumption) | exact ih_kW (by assumption)) (Nat.le_of_ble_eq_true rfl) (Nat.le_of_ble_eq_true rfl) rfl ?_
  refine c_step hc G E hf (by omega) (fun v v1 v2 v3 => ?_)
  refine ih_seg (i1 := 10) 3 rfl ?_
  try simp only [xa_set, List.set_cons_zero, List.set_cons_succ, List.getElem?_cons_zero, List.getElem?_cons_succ]
  refine c_change_l hc G E hh hl K 24 0 _ v rfl hf v1 v2 (fun e e0 e1 => ih_M_held v3 e0 e1) ?_
  rcases v2 with v2 | v2
  · omega
  · have := ih_nev_lt v1.1 v2
    have := ih_nev_le G h
    omega


theorem c_keeps {X : List Int} {t : ih_S} {Q : Option xa_V → ih_S → Prop} {t1 : ih_S} {c : Nat} {h last : Int} (hc : c < 4) (G : ih_PG t c) (E : ih_EG t c) (hf : ih_fr c t t1) (hh : 0 ≤ h ∧ h ≤ last) (hl : last < 10000) (kt : ∀ t2, ih_fr c t t2 → (∀ e, h ≤ e → e ≤ last → ih_M t c e = ih_M t c h) → Q (some (xI 1)) t2) (kf : ∀ t2, ih_fr c t t2 → ¬ (∀ e, h ≤ e → e ≤ last → ih_M t c e = ih_M t c h) → Q (some (xI 0)) t2) : ih_Wp X 16 0 [xR (91 + 3 * c), xI h, xI last] [] t1 Q := by
  refine ih_seg (i1 := 3) 3 rfl ?_
  refine ih_iv2 15 rfl rfl (by first | rfl | exact ih_kP (by assumption) | exact ih_kC (by assumption) | exact ih_kN (by assumption) | exact ih_kS (by assumption) | exact ih_kW (by assumption)) (Nat.le_of_ble_eq_true rfl) (Nat.le_of_ble_eq_true rfl) rfl ?_
  refine c_change hc G E hf hh hl (fun t2 v hf v1 v2 v3 => ?_)
  refine ih_seg (i1 := 5) 1 rfl ?_
  refine ih_icmp_le rfl (by omega) (by omega) (fun w1 => ?_) (fun w1 => ?_)
  · refine ih_seg (i1 := 9) 1 rfl ?_
    refine ih_ret rfl rfl ?_
    first
      | exact kf t2 hf (fun q => v3 (by omega) (q v (by omega) (by omega)))
      | exact kt t2 hf (fun e e0 e1 => v2 e e0 (by omega))
  · refine ih_seg (i1 := 9) 2 rfl ?_
    refine ih_ret rfl rfl ?_
    first
      | exact kf t2 hf (fun q => v3 (by omega) (q v (by omega) (by omega)))
      | exact kt t2 hf (fun e e0 e1 => v2 e e0 (by omega))

