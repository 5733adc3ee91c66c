/-! the law: its cases, those that only answer -/
def ih_xs (X : List Int) (j : Int) : Int := X.getD j.toNat 0
theorem ih_xg {X : List Int} {j : Int} (h0 : 0 ≤ j) (h1 : j < (X.length : Int)) : X[j.toNat]? = some (ih_xs X j) := by
  unfold ih_xs
  rw [List.getD_eq_getElem?_getD, List.getElem?_eq_getElem (by omega)]
  rfl
theorem ih_xr {X : List Int} (h : ∀ x ∈ X, xa_rI x) (j : Int) : xa_rI (ih_xs X j) := by
  unfold ih_xs
  rw [List.getD_eq_getElem?_getD]
  cases e : X[j.toNat]? with
  | none => exact ⟨by decide, by decide⟩
  | some x => exact h x (List.mem_of_getElem? e)

set_option maxRecDepth 40000 in
theorem law_markOf {X : List Int} {t : ih_S} {i : Int} {Q : Option xa_V → ih_S → Prop} (I : ih_I t) (hx : ∀ j, xa_rI (ih_xs X j)) (h0 : 0 ≤ i) (h1 : i + 6 ≤ (X.length : Int)) (h2 : X.length ≤ 3072) (K : ∀ t2, ih_I t2 → ih_Wp X 219 1281 [xC 2, xR 0, xR 111, xI i] [] t2 Q) : ih_Wp X 219 158 [xC 2, xR 0, xR 111, xI i] [] t Q := by
  refine ih_seg (i1 := 163) 5 rfl ?_
  try dsimp only
  refine ih_cald rfl rfl (by omega) (by omega) (by omega) (ih_xg (by omega) (by omega)) ?_
  refine ih_seg (i1 := 168) 4 rfl ?_
  try dsimp only
  refine ih_cald rfl rfl (by omega) (by omega) (by omega) (ih_xg (by omega) (by omega)) ?_
  refine ih_seg (i1 := 173) 4 rfl ?_
  try dsimp only
  refine ih_cald rfl rfl (by omega) (by omega) (by omega) (ih_xg (by omega) (by omega)) ?_
  refine ih_iv3 63 rfl rfl (by first | rfl | exact ih_kP (ih_P_w0 hc) |  exact ih_kP (by assumption) | exact ih_kC (by assumption) | exact ih_kN (by assumption) | exact ih_kS (by assumption) | exact ih_kW (by assumption)) (Nat.le_of_ble_eq_true rfl) (Nat.le_of_ble_eq_true rfl) rfl ?_
  refine c_op_markOf (hx _) (hx _) (hx _) I.1.1 I.1.2 ?_
  refine ih_roC_i (fun v1 t1 H1 => ?_)
  have E := ih_hC_112 H1
  refine ih_seg (i1 := 180) 5 rfl ?_
  try dsimp only
  refine ih_cald rfl rfl (by omega) (by omega) (by omega) (ih_xg (by omega) (by omega)) ?_
  refine ih_seg (i1 := 185) 4 rfl ?_
  try dsimp only
  refine ih_cald rfl rfl (by omega) (by omega) (by omega) (ih_xg (by omega) (by omega)) ?_
  refine ih_seg (i1 := 190) 4 rfl ?_
  try dsimp only
  refine ih_cald rfl rfl (by omega) (by omega) (by omega) (ih_xg (by omega) (by omega)) ?_
  refine ih_iv3 141 rfl rfl (by first | rfl | exact ih_kP (ih_P_w0 hc) |  exact ih_kP (by assumption) | exact ih_kC (by assumption) | exact ih_kN (by assumption) | exact ih_kS (by assumption) | exact ih_kW (by assumption)) (Nat.le_of_ble_eq_true rfl) (Nat.le_of_ble_eq_true rfl) rfl ?_
  refine r_op_markOf (hx _) (hx _) (hx _) (by rw [E]; exact I.1.2) ?_
  rw [E]
  refine ih_roR_i (fun v2 t2 H2 => ?_)
  obtain ⟨ev, I2⟩ := ih_ro2 I H1 H2
  subst ev
  exact ih_same rfl (K _ I2)

set_option maxRecDepth 40000 in
theorem law_seen {X : List Int} {t : ih_S} {i : Int} {Q : Option xa_V → ih_S → Prop} (I : ih_I t) (hx : ∀ j, xa_rI (ih_xs X j)) (h0 : 0 ≤ i) (h1 : i + 6 ≤ (X.length : Int)) (h2 : X.length ≤ 3072) (K : ∀ t2, ih_I t2 → ih_Wp X 219 1281 [xC 2, xR 0, xR 111, xI i] [] t2 Q) : ih_Wp X 219 296 [xC 2, xR 0, xR 111, xI i] [] t Q := by
  refine ih_seg (i1 := 301) 5 rfl ?_
  try dsimp only
  refine ih_cald rfl rfl (by omega) (by omega) (by omega) (ih_xg (by omega) (by omega)) ?_
  refine ih_seg (i1 := 306) 4 rfl ?_
  try dsimp only
  refine ih_cald rfl rfl (by omega) (by omega) (by omega) (ih_xg (by omega) (by omega)) ?_
  refine ih_iv2 67 rfl rfl (by first | rfl | exact ih_kP (ih_P_w0 hc) |  exact ih_kP (by assumption) | exact ih_kC (by assumption) | exact ih_kN (by assumption) | exact ih_kS (by assumption) | exact ih_kW (by assumption)) (Nat.le_of_ble_eq_true rfl) (Nat.le_of_ble_eq_true rfl) rfl ?_
  refine c_seen (hx _) (hx _) I.1.1 I.1.2 ?_
  refine ih_roC_i (fun v1 t1 H1 => ?_)
  have E := ih_hC_112 H1
  refine ih_seg (i1 := 313) 5 rfl ?_
  try dsimp only
  refine ih_cald rfl rfl (by omega) (by omega) (by omega) (ih_xg (by omega) (by omega)) ?_
  refine ih_seg (i1 := 318) 4 rfl ?_
  try dsimp only
  refine ih_cald rfl rfl (by omega) (by omega) (by omega) (ih_xg (by omega) (by omega)) ?_
  refine ih_iv2 150 rfl rfl (by first | rfl | exact ih_kP (ih_P_w0 hc) |  exact ih_kP (by assumption) | exact ih_kC (by assumption) | exact ih_kN (by assumption) | exact ih_kS (by assumption) | exact ih_kW (by assumption)) (Nat.le_of_ble_eq_true rfl) (Nat.le_of_ble_eq_true rfl) rfl ?_
  refine r_seen (hx _) (hx _) (by rw [E]; exact I.1.2) ?_
  rw [E]
  refine ih_roR_i (fun v2 t2 H2 => ?_)
  obtain ⟨ev, I2⟩ := ih_ro2 I H1 H2
  subst ev
  exact ih_same rfl (K _ I2)

set_option maxRecDepth 40000 in
theorem law_age {X : List Int} {t : ih_S} {i : Int} {Q : Option xa_V → ih_S → Prop} (I : ih_I t) (hx : ∀ j, xa_rI (ih_xs X j)) (h0 : 0 ≤ i) (h1 : i + 6 ≤ (X.length : Int)) (h2 : X.length ≤ 3072) (K : ∀ t2, ih_I t2 → ih_Wp X 219 1281 [xC 2, xR 0, xR 111, xI i] [] t2 Q) : ih_Wp X 219 323 [xC 2, xR 0, xR 111, xI i] [] t Q := by
  refine ih_seg (i1 := 328) 5 rfl ?_
  try dsimp only
  refine ih_cald rfl rfl (by omega) (by omega) (by omega) (ih_xg (by omega) (by omega)) ?_
  refine ih_seg (i1 := 333) 4 rfl ?_
  try dsimp only
  refine ih_cald rfl rfl (by omega) (by omega) (by omega) (ih_xg (by omega) (by omega)) ?_
  refine ih_seg (i1 := 338) 4 rfl ?_
  try dsimp only
  refine ih_cald rfl rfl (by omega) (by omega) (by omega) (ih_xg (by omega) (by omega)) ?_
  refine ih_iv3 68 rfl rfl (by first | rfl | exact ih_kP (ih_P_w0 hc) |  exact ih_kP (by assumption) | exact ih_kC (by assumption) | exact ih_kN (by assumption) | exact ih_kS (by assumption) | exact ih_kW (by assumption)) (Nat.le_of_ble_eq_true rfl) (Nat.le_of_ble_eq_true rfl) rfl ?_
  refine c_age (hx _) (hx _) (hx _) I.1.1 I.1.2 ?_
  refine ih_roC_i (fun v1 t1 H1 => ?_)
  have E := ih_hC_112 H1
  refine ih_seg (i1 := 345) 5 rfl ?_
  try dsimp only
  refine ih_cald rfl rfl (by omega) (by omega) (by omega) (ih_xg (by omega) (by omega)) ?_
  refine ih_seg (i1 := 350) 4 rfl ?_
  try dsimp only
  refine ih_cald rfl rfl (by omega) (by omega) (by omega) (ih_xg (by omega) (by omega)) ?_
  refine ih_seg (i1 := 355) 4 rfl ?_
  try dsimp only
  refine ih_cald rfl rfl (by omega) (by omega) (by omega) (ih_xg (by omega) (by omega)) ?_
  refine ih_iv3 151 rfl rfl (by first | rfl | exact ih_kP (ih_P_w0 hc) |  exact ih_kP (by assumption) | exact ih_kC (by assumption) | exact ih_kN (by assumption) | exact ih_kS (by assumption) | exact ih_kW (by assumption)) (Nat.le_of_ble_eq_true rfl) (Nat.le_of_ble_eq_true rfl) rfl ?_
  refine r_age (hx _) (hx _) (hx _) (by rw [E]; exact I.1.2) ?_
  rw [E]
  refine ih_roR_i (fun v2 t2 H2 => ?_)
  obtain ⟨ev, I2⟩ := ih_ro2 I H1 H2
  subst ev
  exact ih_same rfl (K _ I2)

set_option maxRecDepth 40000 in
theorem law_gone {X : List Int} {t : ih_S} {i : Int} {Q : Option xa_V → ih_S → Prop} (I : ih_I t) (hx : ∀ j, xa_rI (ih_xs X j)) (h0 : 0 ≤ i) (h1 : i + 6 ≤ (X.length : Int)) (h2 : X.length ≤ 3072) (K : ∀ t2, ih_I t2 → ih_Wp X 219 1281 [xC 2, xR 0, xR 111, xI i] [] t2 Q) : ih_Wp X 219 360 [xC 2, xR 0, xR 111, xI i] [] t Q := by
  refine ih_seg (i1 := 365) 5 rfl ?_
  try dsimp only
  refine ih_cald rfl rfl (by omega) (by omega) (by omega) (ih_xg (by omega) (by omega)) ?_
  refine ih_seg (i1 := 370) 4 rfl ?_
  try dsimp only
  refine ih_cald rfl rfl (by omega) (by omega) (by omega) (ih_xg (by omega) (by omega)) ?_
  refine ih_iv2 69 rfl rfl (by first | rfl | exact ih_kP (ih_P_w0 hc) |  exact ih_kP (by assumption) | exact ih_kC (by assumption) | exact ih_kN (by assumption) | exact ih_kS (by assumption) | exact ih_kW (by assumption)) (Nat.le_of_ble_eq_true rfl) (Nat.le_of_ble_eq_true rfl) rfl ?_
  refine c_gone (hx _) (hx _) I.1.1 I.1.2 ?_
  refine ih_roC_i (fun v1 t1 H1 => ?_)
  have E := ih_hC_112 H1
  refine ih_seg (i1 := 377) 5 rfl ?_
  try dsimp only
  refine ih_cald rfl rfl (by omega) (by omega) (by omega) (ih_xg (by omega) (by omega)) ?_
  refine ih_seg (i1 := 382) 4 rfl ?_
  try dsimp only
  refine ih_cald rfl rfl (by omega) (by omega) (by omega) (ih_xg (by omega) (by omega)) ?_
  refine ih_iv2 152 rfl rfl (by first | rfl | exact ih_kP (ih_P_w0 hc) |  exact ih_kP (by assumption) | exact ih_kC (by assumption) | exact ih_kN (by assumption) | exact ih_kS (by assumption) | exact ih_kW (by assumption)) (Nat.le_of_ble_eq_true rfl) (Nat.le_of_ble_eq_true rfl) rfl ?_
  refine r_op_gone (hx _) (hx _) (by rw [E]; exact I.1.2) ?_
  rw [E]
  refine ih_roR_i (fun v2 t2 H2 => ?_)
  obtain ⟨ev, I2⟩ := ih_ro2 I H1 H2
  subst ev
  exact ih_same rfl (K _ I2)

set_option maxRecDepth 40000 in
theorem law_means {X : List Int} {t : ih_S} {i : Int} {Q : Option xa_V → ih_S → Prop} (I : ih_I t) (hx : ∀ j, xa_rI (ih_xs X j)) (h0 : 0 ≤ i) (h1 : i + 6 ≤ (X.length : Int)) (h2 : X.length ≤ 3072) (K : ∀ t2, ih_I t2 → ih_Wp X 219 1281 [xC 2, xR 0, xR 111, xI i] [] t2 Q) : ih_Wp X 219 387 [xC 2, xR 0, xR 111, xI i] [] t Q := by
  refine ih_seg (i1 := 392) 5 rfl ?_
  try dsimp only
  refine ih_cald rfl rfl (by omega) (by omega) (by omega) (ih_xg (by omega) (by omega)) ?_
  refine ih_seg (i1 := 397) 4 rfl ?_
  try dsimp only
  refine ih_cald rfl rfl (by omega) (by omega) (by omega) (ih_xg (by omega) (by omega)) ?_
  refine ih_iv2 70 rfl rfl (by first | rfl | exact ih_kP (ih_P_w0 hc) |  exact ih_kP (by assumption) | exact ih_kC (by assumption) | exact ih_kN (by assumption) | exact ih_kS (by assumption) | exact ih_kW (by assumption)) (Nat.le_of_ble_eq_true rfl) (Nat.le_of_ble_eq_true rfl) rfl ?_
  refine c_means (hx _) (hx _) I.1.1 I.1.2 ?_
  refine ih_roC_i (fun v1 t1 H1 => ?_)
  have E := ih_hC_112 H1
  refine ih_seg (i1 := 404) 5 rfl ?_
  try dsimp only
  refine ih_cald rfl rfl (by omega) (by omega) (by omega) (ih_xg (by omega) (by omega)) ?_
  refine ih_seg (i1 := 409) 4 rfl ?_
  try dsimp only
  refine ih_cald rfl rfl (by omega) (by omega) (by omega) (ih_xg (by omega) (by omega)) ?_
  refine ih_iv2 158 rfl rfl (by first | rfl | exact ih_kP (ih_P_w0 hc) |  exact ih_kP (by assumption) | exact ih_kC (by assumption) | exact ih_kN (by assumption) | exact ih_kS (by assumption) | exact ih_kW (by assumption)) (Nat.le_of_ble_eq_true rfl) (Nat.le_of_ble_eq_true rfl) rfl ?_
  refine r_means (hx _) (hx _) (by rw [E]; exact I.1.2) ?_
  rw [E]
  refine ih_roR_i (fun v2 t2 H2 => ?_)
  obtain ⟨ev, I2⟩ := ih_ro2 I H1 H2
  subst ev
  exact ih_same rfl (K _ I2)

set_option maxRecDepth 40000 in
theorem law_says {X : List Int} {t : ih_S} {i : Int} {Q : Option xa_V → ih_S → Prop} (I : ih_I t) (hx : ∀ j, xa_rI (ih_xs X j)) (h0 : 0 ≤ i) (h1 : i + 6 ≤ (X.length : Int)) (h2 : X.length ≤ 3072) (K : ∀ t2, ih_I t2 → ih_Wp X 219 1281 [xC 2, xR 0, xR 111, xI i] [] t2 Q) : ih_Wp X 219 414 [xC 2, xR 0, xR 111, xI i] [] t Q := by
  refine ih_seg (i1 := 419) 5 rfl ?_
  try dsimp only
  refine ih_cald rfl rfl (by omega) (by omega) (by omega) (ih_xg (by omega) (by omega)) ?_
  refine ih_seg (i1 := 424) 4 rfl ?_
  try dsimp only
  refine ih_cald rfl rfl (by omega) (by omega) (by omega) (ih_xg (by omega) (by omega)) ?_
  refine ih_seg (i1 := 429) 4 rfl ?_
  try dsimp only
  refine ih_cald rfl rfl (by omega) (by omega) (by omega) (ih_xg (by omega) (by omega)) ?_
  refine ih_iv3 71 rfl rfl (by first | rfl | exact ih_kP (ih_P_w0 hc) |  exact ih_kP (by assumption) | exact ih_kC (by assumption) | exact ih_kN (by assumption) | exact ih_kS (by assumption) | exact ih_kW (by assumption)) (Nat.le_of_ble_eq_true rfl) (Nat.le_of_ble_eq_true rfl) rfl ?_
  refine c_says (hx _) (hx _) (hx _) I.1.1 I.1.2 ?_
  refine ih_roC_i (fun v1 t1 H1 => ?_)
  have E := ih_hC_112 H1
  refine ih_seg (i1 := 436) 5 rfl ?_
  try dsimp only
  refine ih_cald rfl rfl (by omega) (by omega) (by omega) (ih_xg (by omega) (by omega)) ?_
  refine ih_seg (i1 := 441) 4 rfl ?_
  try dsimp only
  refine ih_cald rfl rfl (by omega) (by omega) (by omega) (ih_xg (by omega) (by omega)) ?_
  refine ih_seg (i1 := 446) 4 rfl ?_
  try dsimp only
  refine ih_cald rfl rfl (by omega) (by omega) (by omega) (ih_xg (by omega) (by omega)) ?_
  refine ih_iv3 159 rfl rfl (by first | rfl | exact ih_kP (ih_P_w0 hc) |  exact ih_kP (by assumption) | exact ih_kC (by assumption) | exact ih_kN (by assumption) | exact ih_kS (by assumption) | exact ih_kW (by assumption)) (Nat.le_of_ble_eq_true rfl) (Nat.le_of_ble_eq_true rfl) rfl ?_
  refine r_says (hx _) (hx _) (hx _) (by rw [E]; exact I.1.2) ?_
  rw [E]
  refine ih_roR_i (fun v2 t2 H2 => ?_)
  obtain ⟨ev, I2⟩ := ih_ro2 I H1 H2
  subst ev
  exact ih_same rfl (K _ I2)

set_option maxRecDepth 40000 in
theorem law_until {X : List Int} {t : ih_S} {i : Int} {Q : Option xa_V → ih_S → Prop} (I : ih_I t) (hx : ∀ j, xa_rI (ih_xs X j)) (h0 : 0 ≤ i) (h1 : i + 6 ≤ (X.length : Int)) (h2 : X.length ≤ 3072) (K : ∀ t2, ih_I t2 → ih_Wp X 219 1281 [xC 2, xR 0, xR 111, xI i] [] t2 Q) : ih_Wp X 219 451 [xC 2, xR 0, xR 111, xI i] [] t Q := by
  refine ih_seg (i1 := 456) 5 rfl ?_
  try dsimp only
  refine ih_cald rfl rfl (by omega) (by omega) (by omega) (ih_xg (by omega) (by omega)) ?_
  refine ih_iv1 72 rfl rfl (by first | rfl | exact ih_kP (ih_P_w0 hc) |  exact ih_kP (by assumption) | exact ih_kC (by assumption) | exact ih_kN (by assumption) | exact ih_kS (by assumption) | exact ih_kW (by assumption)) (Nat.le_of_ble_eq_true rfl) (Nat.le_of_ble_eq_true rfl) rfl ?_
  refine c_until (hx _) I.1.1 I.1.2 ?_
  refine ih_roC_i (fun v1 t1 H1 => ?_)
  have E := ih_hC_112 H1
  refine ih_seg (i1 := 463) 5 rfl ?_
  try dsimp only
  refine ih_cald rfl rfl (by omega) (by omega) (by omega) (ih_xg (by omega) (by omega)) ?_
  refine ih_iv1 160 rfl rfl (by first | rfl | exact ih_kP (ih_P_w0 hc) |  exact ih_kP (by assumption) | exact ih_kC (by assumption) | exact ih_kN (by assumption) | exact ih_kS (by assumption) | exact ih_kW (by assumption)) (Nat.le_of_ble_eq_true rfl) (Nat.le_of_ble_eq_true rfl) rfl ?_
  refine r_until (hx _) (by rw [E]; exact I.1.2) ?_
  rw [E]
  refine ih_roR_i (fun v2 t2 H2 => ?_)
  obtain ⟨ev, I2⟩ := ih_ro2 I H1 H2
  subst ev
  exact ih_same rfl (K _ I2)

set_option maxRecDepth 40000 in
theorem law_changes {X : List Int} {t : ih_S} {i : Int} {Q : Option xa_V → ih_S → Prop} (I : ih_I t) (hx : ∀ j, xa_rI (ih_xs X j)) (h0 : 0 ≤ i) (h1 : i + 6 ≤ (X.length : Int)) (h2 : X.length ≤ 3072) (K : ∀ t2, ih_I t2 → ih_Wp X 219 1281 [xC 2, xR 0, xR 111, xI i] [] t2 Q) : ih_Wp X 219 468 [xC 2, xR 0, xR 111, xI i] [] t Q := by
  refine ih_seg (i1 := 473) 5 rfl ?_
  try dsimp only
  refine ih_cald rfl rfl (by omega) (by omega) (by omega) (ih_xg (by omega) (by omega)) ?_
  refine ih_seg (i1 := 478) 4 rfl ?_
  try dsimp only
  refine ih_cald rfl rfl (by omega) (by omega) (by omega) (ih_xg (by omega) (by omega)) ?_
  refine ih_seg (i1 := 483) 4 rfl ?_
  try dsimp only
  refine ih_cald rfl rfl (by omega) (by omega) (by omega) (ih_xg (by omega) (by omega)) ?_
  refine ih_iv3 73 rfl rfl (by first | rfl | exact ih_kP (ih_P_w0 hc) |  exact ih_kP (by assumption) | exact ih_kC (by assumption) | exact ih_kN (by assumption) | exact ih_kS (by assumption) | exact ih_kW (by assumption)) (Nat.le_of_ble_eq_true rfl) (Nat.le_of_ble_eq_true rfl) rfl ?_
  refine c_op_changes (hx _) (hx _) (hx _) I.1.1 I.1.2 ?_
  refine ih_roC_i (fun v1 t1 H1 => ?_)
  have E := ih_hC_112 H1
  refine ih_seg (i1 := 490) 5 rfl ?_
  try dsimp only
  refine ih_cald rfl rfl (by omega) (by omega) (by omega) (ih_xg (by omega) (by omega)) ?_
  refine ih_seg (i1 := 495) 4 rfl ?_
  try dsimp only
  refine ih_cald rfl rfl (by omega) (by omega) (by omega) (ih_xg (by omega) (by omega)) ?_
  refine ih_seg (i1 := 500) 4 rfl ?_
  try dsimp only
  refine ih_cald rfl rfl (by omega) (by omega) (by omega) (ih_xg (by omega) (by omega)) ?_
  refine ih_iv3 161 rfl rfl (by first | rfl | exact ih_kP (ih_P_w0 hc) |  exact ih_kP (by assumption) | exact ih_kC (by assumption) | exact ih_kN (by assumption) | exact ih_kS (by assumption) | exact ih_kW (by assumption)) (Nat.le_of_ble_eq_true rfl) (Nat.le_of_ble_eq_true rfl) rfl ?_
  refine r_op_changes (hx _) (hx _) (hx _) (by rw [E]; exact I.1.2) ?_
  rw [E]
  refine ih_roR_i (fun v2 t2 H2 => ?_)
  obtain ⟨ev, I2⟩ := ih_ro2 I H1 H2
  subst ev
  exact ih_same rfl (K _ I2)

set_option maxRecDepth 40000 in
theorem law_shows {X : List Int} {t : ih_S} {i : Int} {Q : Option xa_V → ih_S → Prop} (I : ih_I t) (hx : ∀ j, xa_rI (ih_xs X j)) (h0 : 0 ≤ i) (h1 : i + 6 ≤ (X.length : Int)) (h2 : X.length ≤ 3072) (K : ∀ t2, ih_I t2 → ih_Wp X 219 1281 [xC 2, xR 0, xR 111, xI i] [] t2 Q) : ih_Wp X 219 505 [xC 2, xR 0, xR 111, xI i] [] t Q := by
  refine ih_seg (i1 := 510) 5 rfl ?_
  try dsimp only
  refine ih_cald rfl rfl (by omega) (by omega) (by omega) (ih_xg (by omega) (by omega)) ?_
  refine ih_seg (i1 := 515) 4 rfl ?_
  try dsimp only
  refine ih_cald rfl rfl (by omega) (by omega) (by omega) (ih_xg (by omega) (by omega)) ?_
  refine ih_iv2 74 rfl rfl (by first | rfl | exact ih_kP (ih_P_w0 hc) |  exact ih_kP (by assumption) | exact ih_kC (by assumption) | exact ih_kN (by assumption) | exact ih_kS (by assumption) | exact ih_kW (by assumption)) (Nat.le_of_ble_eq_true rfl) (Nat.le_of_ble_eq_true rfl) rfl ?_
  refine c_shows (hx _) (hx _) I.1.1 I.1.2 ?_
  refine ih_roC_i (fun v1 t1 H1 => ?_)
  have E := ih_hC_112 H1
  refine ih_seg (i1 := 522) 5 rfl ?_
  try dsimp only
  refine ih_cald rfl rfl (by omega) (by omega) (by omega) (ih_xg (by omega) (by omega)) ?_
  refine ih_seg (i1 := 527) 4 rfl ?_
  try dsimp only
  refine ih_cald rfl rfl (by omega) (by omega) (by omega) (ih_xg (by omega) (by omega)) ?_
  refine ih_iv2 162 rfl rfl (by first | rfl | exact ih_kP (ih_P_w0 hc) |  exact ih_kP (by assumption) | exact ih_kC (by assumption) | exact ih_kN (by assumption) | exact ih_kS (by assumption) | exact ih_kW (by assumption)) (Nat.le_of_ble_eq_true rfl) (Nat.le_of_ble_eq_true rfl) rfl ?_
  refine r_shows (hx _) (hx _) (by rw [E]; exact I.1.2) ?_
  rw [E]
  refine ih_roR_i (fun v2 t2 H2 => ?_)
  obtain ⟨ev, I2⟩ := ih_ro2 I H1 H2
  subst ev
  exact ih_same rfl (K _ I2)

set_option maxRecDepth 40000 in
theorem law_often {X : List Int} {t : ih_S} {i : Int} {Q : Option xa_V → ih_S → Prop} (I : ih_I t) (hx : ∀ j, xa_rI (ih_xs X j)) (h0 : 0 ≤ i) (h1 : i + 6 ≤ (X.length : Int)) (h2 : X.length ≤ 3072) (K : ∀ t2, ih_I t2 → ih_Wp X 219 1281 [xC 2, xR 0, xR 111, xI i] [] t2 Q) : ih_Wp X 219 532 [xC 2, xR 0, xR 111, xI i] [] t Q := by
  refine ih_seg (i1 := 537) 5 rfl ?_
  try dsimp only
  refine ih_cald rfl rfl (by omega) (by omega) (by omega) (ih_xg (by omega) (by omega)) ?_
  refine ih_seg (i1 := 542) 4 rfl ?_
  try dsimp only
  refine ih_cald rfl rfl (by omega) (by omega) (by omega) (ih_xg (by omega) (by omega)) ?_
  refine ih_iv2 75 rfl rfl (by first | rfl | exact ih_kP (ih_P_w0 hc) |  exact ih_kP (by assumption) | exact ih_kC (by assumption) | exact ih_kN (by assumption) | exact ih_kS (by assumption) | exact ih_kW (by assumption)) (Nat.le_of_ble_eq_true rfl) (Nat.le_of_ble_eq_true rfl) rfl ?_
  refine c_often (hx _) (hx _) I.1.1 I.1.2 ?_
  refine ih_roC_i (fun v1 t1 H1 => ?_)
  have E := ih_hC_112 H1
  refine ih_seg (i1 := 549) 5 rfl ?_
  try dsimp only
  refine ih_cald rfl rfl (by omega) (by omega) (by omega) (ih_xg (by omega) (by omega)) ?_
  refine ih_seg (i1 := 554) 4 rfl ?_
  try dsimp only
  refine ih_cald rfl rfl (by omega) (by omega) (by omega) (ih_xg (by omega) (by omega)) ?_
  refine ih_iv2 163 rfl rfl (by first | rfl | exact ih_kP (ih_P_w0 hc) |  exact ih_kP (by assumption) | exact ih_kC (by assumption) | exact ih_kN (by assumption) | exact ih_kS (by assumption) | exact ih_kW (by assumption)) (Nat.le_of_ble_eq_true rfl) (Nat.le_of_ble_eq_true rfl) rfl ?_
  refine r_often (hx _) (hx _) (by rw [E]; exact I.1.2) ?_
  rw [E]
  refine ih_roR_i (fun v2 t2 H2 => ?_)
  obtain ⟨ev, I2⟩ := ih_ro2 I H1 H2
  subst ev
  exact ih_same rfl (K _ I2)

set_option maxRecDepth 40000 in
theorem law_same {X : List Int} {t : ih_S} {i : Int} {Q : Option xa_V → ih_S → Prop} (I : ih_I t) (hx : ∀ j, xa_rI (ih_xs X j)) (h0 : 0 ≤ i) (h1 : i + 6 ≤ (X.length : Int)) (h2 : X.length ≤ 3072) (K : ∀ t2, ih_I t2 → ih_Wp X 219 1281 [xC 2, xR 0, xR 111, xI i] [] t2 Q) : ih_Wp X 219 559 [xC 2, xR 0, xR 111, xI i] [] t Q := by
  refine ih_seg (i1 := 564) 5 rfl ?_
  try dsimp only
  refine ih_cald rfl rfl (by omega) (by omega) (by omega) (ih_xg (by omega) (by omega)) ?_
  refine ih_seg (i1 := 569) 4 rfl ?_
  try dsimp only
  refine ih_cald rfl rfl (by omega) (by omega) (by omega) (ih_xg (by omega) (by omega)) ?_
  refine ih_seg (i1 := 574) 4 rfl ?_
  try dsimp only
  refine ih_cald rfl rfl (by omega) (by omega) (by omega) (ih_xg (by omega) (by omega)) ?_
  refine ih_iv3 76 rfl rfl (by first | rfl | exact ih_kP (ih_P_w0 hc) |  exact ih_kP (by assumption) | exact ih_kC (by assumption) | exact ih_kN (by assumption) | exact ih_kS (by assumption) | exact ih_kW (by assumption)) (Nat.le_of_ble_eq_true rfl) (Nat.le_of_ble_eq_true rfl) rfl ?_
  refine c_same (hx _) (hx _) (hx _) I.1.1 I.1.2 ?_
  refine ih_roC_i (fun v1 t1 H1 => ?_)
  have E := ih_hC_112 H1
  refine ih_seg (i1 := 581) 5 rfl ?_
  try dsimp only
  refine ih_cald rfl rfl (by omega) (by omega) (by omega) (ih_xg (by omega) (by omega)) ?_
  refine ih_seg (i1 := 586) 4 rfl ?_
  try dsimp only
  refine ih_cald rfl rfl (by omega) (by omega) (by omega) (ih_xg (by omega) (by omega)) ?_
  refine ih_seg (i1 := 591) 4 rfl ?_
  try dsimp only
  refine ih_cald rfl rfl (by omega) (by omega) (by omega) (ih_xg (by omega) (by omega)) ?_
  refine ih_iv3 164 rfl rfl (by first | rfl | exact ih_kP (ih_P_w0 hc) |  exact ih_kP (by assumption) | exact ih_kC (by assumption) | exact ih_kN (by assumption) | exact ih_kS (by assumption) | exact ih_kW (by assumption)) (Nat.le_of_ble_eq_true rfl) (Nat.le_of_ble_eq_true rfl) rfl ?_
  refine r_same (hx _) (hx _) (hx _) (by rw [E]; exact I.1.2) ?_
  rw [E]
  refine ih_roR_i (fun v2 t2 H2 => ?_)
  obtain ⟨ev, I2⟩ := ih_ro2 I H1 H2
  subst ev
  exact ih_same rfl (K _ I2)

set_option maxRecDepth 40000 in
theorem law_stays {X : List Int} {t : ih_S} {i : Int} {Q : Option xa_V → ih_S → Prop} (I : ih_I t) (hx : ∀ j, xa_rI (ih_xs X j)) (h0 : 0 ≤ i) (h1 : i + 6 ≤ (X.length : Int)) (h2 : X.length ≤ 3072) (K : ∀ t2, ih_I t2 → ih_Wp X 219 1281 [xC 2, xR 0, xR 111, xI i] [] t2 Q) : ih_Wp X 219 596 [xC 2, xR 0, xR 111, xI i] [] t Q := by
  refine ih_seg (i1 := 601) 5 rfl ?_
  try dsimp only
  refine ih_cald rfl rfl (by omega) (by omega) (by omega) (ih_xg (by omega) (by omega)) ?_
  refine ih_seg (i1 := 606) 4 rfl ?_
  try dsimp only
  refine ih_cald rfl rfl (by omega) (by omega) (by omega) (ih_xg (by omega) (by omega)) ?_
  refine ih_iv2 77 rfl rfl (by first | rfl | exact ih_kP (ih_P_w0 hc) |  exact ih_kP (by assumption) | exact ih_kC (by assumption) | exact ih_kN (by assumption) | exact ih_kS (by assumption) | exact ih_kW (by assumption)) (Nat.le_of_ble_eq_true rfl) (Nat.le_of_ble_eq_true rfl) rfl ?_
  refine c_stays (hx _) (hx _) I.1.1 I.1.2 ?_
  refine ih_roC_i (fun v1 t1 H1 => ?_)
  have E := ih_hC_112 H1
  refine ih_seg (i1 := 613) 5 rfl ?_
  try dsimp only
  refine ih_cald rfl rfl (by omega) (by omega) (by omega) (ih_xg (by omega) (by omega)) ?_
  refine ih_seg (i1 := 618) 4 rfl ?_
  try dsimp only
  refine ih_cald rfl rfl (by omega) (by omega) (by omega) (ih_xg (by omega) (by omega)) ?_
  refine ih_iv2 166 rfl rfl (by first | rfl | exact ih_kP (ih_P_w0 hc) |  exact ih_kP (by assumption) | exact ih_kC (by assumption) | exact ih_kN (by assumption) | exact ih_kS (by assumption) | exact ih_kW (by assumption)) (Nat.le_of_ble_eq_true rfl) (Nat.le_of_ble_eq_true rfl) rfl ?_
  refine r_op_stays (hx _) (hx _) (by rw [E]; exact I.1.2) ?_
  rw [E]
  refine ih_roR_i (fun v2 t2 H2 => ?_)
  obtain ⟨ev, I2⟩ := ih_ro2 I H1 H2
  subst ev
  exact ih_same rfl (K _ I2)

set_option maxRecDepth 40000 in
theorem law_cheapest {X : List Int} {t : ih_S} {i : Int} {Q : Option xa_V → ih_S → Prop} (I : ih_I t) (hx : ∀ j, xa_rI (ih_xs X j)) (h0 : 0 ≤ i) (h1 : i + 6 ≤ (X.length : Int)) (h2 : X.length ≤ 3072) (K : ∀ t2, ih_I t2 → ih_Wp X 219 1281 [xC 2, xR 0, xR 111, xI i] [] t2 Q) : ih_Wp X 219 623 [xC 2, xR 0, xR 111, xI i] [] t Q := by
  refine ih_seg (i1 := 628) 5 rfl ?_
  try dsimp only
  refine ih_cald rfl rfl (by omega) (by omega) (by omega) (ih_xg (by omega) (by omega)) ?_
  refine ih_seg (i1 := 633) 4 rfl ?_
  try dsimp only
  refine ih_cald rfl rfl (by omega) (by omega) (by omega) (ih_xg (by omega) (by omega)) ?_
  refine ih_seg (i1 := 638) 4 rfl ?_
  try dsimp only
  refine ih_cald rfl rfl (by omega) (by omega) (by omega) (ih_xg (by omega) (by omega)) ?_
  refine ih_seg (i1 := 643) 4 rfl ?_
  try dsimp only
  refine ih_cald rfl rfl (by omega) (by omega) (by omega) (ih_xg (by omega) (by omega)) ?_
  refine ih_iv4 78 rfl rfl (by first | rfl | exact ih_kP (ih_P_w0 hc) |  exact ih_kP (by assumption) | exact ih_kC (by assumption) | exact ih_kN (by assumption) | exact ih_kS (by assumption) | exact ih_kW (by assumption)) (Nat.le_of_ble_eq_true rfl) (Nat.le_of_ble_eq_true rfl) rfl ?_
  refine c_op_cheapest (hx _) (hx _) (hx _) (hx _) I.1.1 I.1.2 ?_
  refine ih_roC_i (fun v1 t1 H1 => ?_)
  have E := ih_hC_112 H1
  refine ih_seg (i1 := 650) 5 rfl ?_
  try dsimp only
  refine ih_cald rfl rfl (by omega) (by omega) (by omega) (ih_xg (by omega) (by omega)) ?_
  refine ih_seg (i1 := 655) 4 rfl ?_
  try dsimp only
  refine ih_cald rfl rfl (by omega) (by omega) (by omega) (ih_xg (by omega) (by omega)) ?_
  refine ih_seg (i1 := 660) 4 rfl ?_
  try dsimp only
  refine ih_cald rfl rfl (by omega) (by omega) (by omega) (ih_xg (by omega) (by omega)) ?_
  refine ih_seg (i1 := 665) 4 rfl ?_
  try dsimp only
  refine ih_cald rfl rfl (by omega) (by omega) (by omega) (ih_xg (by omega) (by omega)) ?_
  refine ih_iv4 169 rfl rfl (by first | rfl | exact ih_kP (ih_P_w0 hc) |  exact ih_kP (by assumption) | exact ih_kC (by assumption) | exact ih_kN (by assumption) | exact ih_kS (by assumption) | exact ih_kW (by assumption)) (Nat.le_of_ble_eq_true rfl) (Nat.le_of_ble_eq_true rfl) rfl ?_
  refine r_op_cheapest (hx _) (hx _) (hx _) (hx _) (by rw [E]; exact I.1.2) ?_
  rw [E]
  refine ih_roR_i (fun v2 t2 H2 => ?_)
  obtain ⟨ev, I2⟩ := ih_ro2 I H1 H2
  subst ev
  exact ih_same rfl (K _ I2)

set_option maxRecDepth 40000 in
theorem law_fewest {X : List Int} {t : ih_S} {i : Int} {Q : Option xa_V → ih_S → Prop} (I : ih_I t) (hx : ∀ j, xa_rI (ih_xs X j)) (h0 : 0 ≤ i) (h1 : i + 6 ≤ (X.length : Int)) (h2 : X.length ≤ 3072) (K : ∀ t2, ih_I t2 → ih_Wp X 219 1281 [xC 2, xR 0, xR 111, xI i] [] t2 Q) : ih_Wp X 219 670 [xC 2, xR 0, xR 111, xI i] [] t Q := by
  refine ih_seg (i1 := 675) 5 rfl ?_
  try dsimp only
  refine ih_cald rfl rfl (by omega) (by omega) (by omega) (ih_xg (by omega) (by omega)) ?_
  refine ih_seg (i1 := 680) 4 rfl ?_
  try dsimp only
  refine ih_cald rfl rfl (by omega) (by omega) (by omega) (ih_xg (by omega) (by omega)) ?_
  refine ih_seg (i1 := 685) 4 rfl ?_
  try dsimp only
  refine ih_cald rfl rfl (by omega) (by omega) (by omega) (ih_xg (by omega) (by omega)) ?_
  refine ih_iv3 79 rfl rfl (by first | rfl | exact ih_kP (ih_P_w0 hc) |  exact ih_kP (by assumption) | exact ih_kC (by assumption) | exact ih_kN (by assumption) | exact ih_kS (by assumption) | exact ih_kW (by assumption)) (Nat.le_of_ble_eq_true rfl) (Nat.le_of_ble_eq_true rfl) rfl ?_
  refine c_op_fewest (hx _) (hx _) (hx _) I.1.1 I.1.2 ?_
  refine ih_roC_i (fun v1 t1 H1 => ?_)
  have E := ih_hC_112 H1
  refine ih_seg (i1 := 692) 5 rfl ?_
  try dsimp only
  refine ih_cald rfl rfl (by omega) (by omega) (by omega) (ih_xg (by omega) (by omega)) ?_
  refine ih_seg (i1 := 697) 4 rfl ?_
  try dsimp only
  refine ih_cald rfl rfl (by omega) (by omega) (by omega) (ih_xg (by omega) (by omega)) ?_
  refine ih_seg (i1 := 702) 4 rfl ?_
  try dsimp only
  refine ih_cald rfl rfl (by omega) (by omega) (by omega) (ih_xg (by omega) (by omega)) ?_
  refine ih_iv3 170 rfl rfl (by first | rfl | exact ih_kP (ih_P_w0 hc) |  exact ih_kP (by assumption) | exact ih_kC (by assumption) | exact ih_kN (by assumption) | exact ih_kS (by assumption) | exact ih_kW (by assumption)) (Nat.le_of_ble_eq_true rfl) (Nat.le_of_ble_eq_true rfl) rfl ?_
  refine r_op_fewest (hx _) (hx _) (hx _) (by rw [E]; exact I.1.2) ?_
  rw [E]
  refine ih_roR_i (fun v2 t2 H2 => ?_)
  obtain ⟨ev, I2⟩ := ih_ro2 I H1 H2
  subst ev
  exact ih_same rfl (K _ I2)

set_option maxRecDepth 40000 in
theorem law_lasting {X : List Int} {t : ih_S} {i : Int} {Q : Option xa_V → ih_S → Prop} (I : ih_I t) (hx : ∀ j, xa_rI (ih_xs X j)) (h0 : 0 ≤ i) (h1 : i + 6 ≤ (X.length : Int)) (h2 : X.length ≤ 3072) (K : ∀ t2, ih_I t2 → ih_Wp X 219 1281 [xC 2, xR 0, xR 111, xI i] [] t2 Q) : ih_Wp X 219 707 [xC 2, xR 0, xR 111, xI i] [] t Q := by
  refine ih_seg (i1 := 712) 5 rfl ?_
  try dsimp only
  refine ih_cald rfl rfl (by omega) (by omega) (by omega) (ih_xg (by omega) (by omega)) ?_
  refine ih_seg (i1 := 717) 4 rfl ?_
  try dsimp only
  refine ih_cald rfl rfl (by omega) (by omega) (by omega) (ih_xg (by omega) (by omega)) ?_
  refine ih_seg (i1 := 722) 4 rfl ?_
  try dsimp only
  refine ih_cald rfl rfl (by omega) (by omega) (by omega) (ih_xg (by omega) (by omega)) ?_
  refine ih_iv3 80 rfl rfl (by first | rfl | exact ih_kP (ih_P_w0 hc) |  exact ih_kP (by assumption) | exact ih_kC (by assumption) | exact ih_kN (by assumption) | exact ih_kS (by assumption) | exact ih_kW (by assumption)) (Nat.le_of_ble_eq_true rfl) (Nat.le_of_ble_eq_true rfl) rfl ?_
  refine c_op_lasting (hx _) (hx _) (hx _) I.1.1 I.1.2 ?_
  refine ih_roC_i (fun v1 t1 H1 => ?_)
  have E := ih_hC_112 H1
  refine ih_seg (i1 := 729) 5 rfl ?_
  try dsimp only
  refine ih_cald rfl rfl (by omega) (by omega) (by omega) (ih_xg (by omega) (by omega)) ?_
  refine ih_seg (i1 := 734) 4 rfl ?_
  try dsimp only
  refine ih_cald rfl rfl (by omega) (by omega) (by omega) (ih_xg (by omega) (by omega)) ?_
  refine ih_seg (i1 := 739) 4 rfl ?_
  try dsimp only
  refine ih_cald rfl rfl (by omega) (by omega) (by omega) (ih_xg (by omega) (by omega)) ?_
  refine ih_iv3 171 rfl rfl (by first | rfl | exact ih_kP (ih_P_w0 hc) |  exact ih_kP (by assumption) | exact ih_kC (by assumption) | exact ih_kN (by assumption) | exact ih_kS (by assumption) | exact ih_kW (by assumption)) (Nat.le_of_ble_eq_true rfl) (Nat.le_of_ble_eq_true rfl) rfl ?_
  refine r_op_lasting (hx _) (hx _) (hx _) (by rw [E]; exact I.1.2) ?_
  rw [E]
  refine ih_roR_i (fun v2 t2 H2 => ?_)
  obtain ⟨ev, I2⟩ := ih_ro2 I H1 H2
  subst ev
  exact ih_same rfl (K _ I2)

set_option maxRecDepth 40000 in
theorem law_forged {X : List Int} {t : ih_S} {i : Int} {Q : Option xa_V → ih_S → Prop} (I : ih_I t) (hx : ∀ j, xa_rI (ih_xs X j)) (h0 : 0 ≤ i) (h1 : i + 6 ≤ (X.length : Int)) (h2 : X.length ≤ 3072) (K : ∀ t2, ih_I t2 → ih_Wp X 219 1281 [xC 2, xR 0, xR 111, xI i] [] t2 Q) : ih_Wp X 219 744 [xC 2, xR 0, xR 111, xI i] [] t Q := by
  refine ih_seg (i1 := 749) 5 rfl ?_
  try dsimp only
  refine ih_cald rfl rfl (by omega) (by omega) (by omega) (ih_xg (by omega) (by omega)) ?_
  refine ih_iv1 81 rfl rfl (by first | rfl | exact ih_kP (ih_P_w0 hc) |  exact ih_kP (by assumption) | exact ih_kC (by assumption) | exact ih_kN (by assumption) | exact ih_kS (by assumption) | exact ih_kW (by assumption)) (Nat.le_of_ble_eq_true rfl) (Nat.le_of_ble_eq_true rfl) rfl ?_
  refine c_op_forged (hx _) I.1.1 I.1.2 ?_
  refine ih_roC_i (fun v1 t1 H1 => ?_)
  have E := ih_hC_112 H1
  refine ih_seg (i1 := 756) 5 rfl ?_
  try dsimp only
  refine ih_cald rfl rfl (by omega) (by omega) (by omega) (ih_xg (by omega) (by omega)) ?_
  refine ih_iv1 174 rfl rfl (by first | rfl | exact ih_kP (ih_P_w0 hc) |  exact ih_kP (by assumption) | exact ih_kC (by assumption) | exact ih_kN (by assumption) | exact ih_kS (by assumption) | exact ih_kW (by assumption)) (Nat.le_of_ble_eq_true rfl) (Nat.le_of_ble_eq_true rfl) rfl ?_
  refine r_op_forged (hx _) (by rw [E]; exact I.1.2) ?_
  rw [E]
  refine ih_roR_i (fun v2 t2 H2 => ?_)
  obtain ⟨ev, I2⟩ := ih_ro2 I H1 H2
  subst ev
  exact ih_same rfl (K _ I2)

set_option maxRecDepth 40000 in
theorem law_forge {X : List Int} {t : ih_S} {i : Int} {Q : Option xa_V → ih_S → Prop} (I : ih_I t) (hx : ∀ j, xa_rI (ih_xs X j)) (h0 : 0 ≤ i) (h1 : i + 6 ≤ (X.length : Int)) (h2 : X.length ≤ 3072) (K : ∀ t2, ih_I t2 → ih_Wp X 219 1281 [xC 2, xR 0, xR 111, xI i] [] t2 Q) : ih_Wp X 219 761 [xC 2, xR 0, xR 111, xI i] [] t Q := by
  refine ih_seg (i1 := 766) 5 rfl ?_
  try dsimp only
  refine ih_cald rfl rfl (by omega) (by omega) (by omega) (ih_xg (by omega) (by omega)) ?_
  refine ih_seg (i1 := 771) 4 rfl ?_
  try dsimp only
  refine ih_cald rfl rfl (by omega) (by omega) (by omega) (ih_xg (by omega) (by omega)) ?_
  refine ih_iv2 82 rfl rfl (by first | rfl | exact ih_kP (ih_P_w0 hc) |  exact ih_kP (by assumption) | exact ih_kC (by assumption) | exact ih_kN (by assumption) | exact ih_kS (by assumption) | exact ih_kW (by assumption)) (Nat.le_of_ble_eq_true rfl) (Nat.le_of_ble_eq_true rfl) rfl ?_
  refine c_op_forge (hx _) (hx _) I.1.1 I.1.2 ?_
  refine ih_roC_i (fun v1 t1 H1 => ?_)
  have E := ih_hC_112 H1
  refine ih_seg (i1 := 778) 5 rfl ?_
  try dsimp only
  refine ih_cald rfl rfl (by omega) (by omega) (by omega) (ih_xg (by omega) (by omega)) ?_
  refine ih_seg (i1 := 783) 4 rfl ?_
  try dsimp only
  refine ih_cald rfl rfl (by omega) (by omega) (by omega) (ih_xg (by omega) (by omega)) ?_
  refine ih_iv2 175 rfl rfl (by first | rfl | exact ih_kP (ih_P_w0 hc) |  exact ih_kP (by assumption) | exact ih_kC (by assumption) | exact ih_kN (by assumption) | exact ih_kS (by assumption) | exact ih_kW (by assumption)) (Nat.le_of_ble_eq_true rfl) (Nat.le_of_ble_eq_true rfl) rfl ?_
  refine r_op_forge (hx _) (hx _) (by rw [E]; exact I.1.2) ?_
  rw [E]
  refine ih_roR_i (fun v2 t2 H2 => ?_)
  obtain ⟨ev, I2⟩ := ih_ro2 I H1 H2
  subst ev
  exact ih_same rfl (K _ I2)

set_option maxRecDepth 40000 in
theorem law_earliest {X : List Int} {t : ih_S} {i : Int} {Q : Option xa_V → ih_S → Prop} (I : ih_I t) (hx : ∀ j, xa_rI (ih_xs X j)) (h0 : 0 ≤ i) (h1 : i + 6 ≤ (X.length : Int)) (h2 : X.length ≤ 3072) (K : ∀ t2, ih_I t2 → ih_Wp X 219 1281 [xC 2, xR 0, xR 111, xI i] [] t2 Q) : ih_Wp X 219 788 [xC 2, xR 0, xR 111, xI i] [] t Q := by
  refine ih_seg (i1 := 793) 5 rfl ?_
  try dsimp only
  refine ih_cald rfl rfl (by omega) (by omega) (by omega) (ih_xg (by omega) (by omega)) ?_
  refine ih_seg (i1 := 798) 4 rfl ?_
  try dsimp only
  refine ih_cald rfl rfl (by omega) (by omega) (by omega) (ih_xg (by omega) (by omega)) ?_
  refine ih_seg (i1 := 803) 4 rfl ?_
  try dsimp only
  refine ih_cald rfl rfl (by omega) (by omega) (by omega) (ih_xg (by omega) (by omega)) ?_
  refine ih_iv3 83 rfl rfl (by first | rfl | exact ih_kP (ih_P_w0 hc) |  exact ih_kP (by assumption) | exact ih_kC (by assumption) | exact ih_kN (by assumption) | exact ih_kS (by assumption) | exact ih_kW (by assumption)) (Nat.le_of_ble_eq_true rfl) (Nat.le_of_ble_eq_true rfl) rfl ?_
  refine c_op_earliest (hx _) (hx _) (hx _) I.1.1 I.1.2 ?_
  refine ih_roC_i (fun v1 t1 H1 => ?_)
  have E := ih_hC_112 H1
  refine ih_seg (i1 := 810) 5 rfl ?_
  try dsimp only
  refine ih_cald rfl rfl (by omega) (by omega) (by omega) (ih_xg (by omega) (by omega)) ?_
  refine ih_seg (i1 := 815) 4 rfl ?_
  try dsimp only
  refine ih_cald rfl rfl (by omega) (by omega) (by omega) (ih_xg (by omega) (by omega)) ?_
  refine ih_seg (i1 := 820) 4 rfl ?_
  try dsimp only
  refine ih_cald rfl rfl (by omega) (by omega) (by omega) (ih_xg (by omega) (by omega)) ?_
  refine ih_iv3 176 rfl rfl (by first | rfl | exact ih_kP (ih_P_w0 hc) |  exact ih_kP (by assumption) | exact ih_kC (by assumption) | exact ih_kN (by assumption) | exact ih_kS (by assumption) | exact ih_kW (by assumption)) (Nat.le_of_ble_eq_true rfl) (Nat.le_of_ble_eq_true rfl) rfl ?_
  refine r_op_earliest (hx _) (hx _) (hx _) (by rw [E]; exact I.1.2) ?_
  rw [E]
  refine ih_roR_i (fun v2 t2 H2 => ?_)
  obtain ⟨ev, I2⟩ := ih_ro2 I H1 H2
  subst ev
  exact ih_same rfl (K _ I2)

set_option maxRecDepth 40000 in
theorem law_latest {X : List Int} {t : ih_S} {i : Int} {Q : Option xa_V → ih_S → Prop} (I : ih_I t) (hx : ∀ j, xa_rI (ih_xs X j)) (h0 : 0 ≤ i) (h1 : i + 6 ≤ (X.length : Int)) (h2 : X.length ≤ 3072) (K : ∀ t2, ih_I t2 → ih_Wp X 219 1281 [xC 2, xR 0, xR 111, xI i] [] t2 Q) : ih_Wp X 219 825 [xC 2, xR 0, xR 111, xI i] [] t Q := by
  refine ih_seg (i1 := 830) 5 rfl ?_
  try dsimp only
  refine ih_cald rfl rfl (by omega) (by omega) (by omega) (ih_xg (by omega) (by omega)) ?_
  refine ih_seg (i1 := 835) 4 rfl ?_
  try dsimp only
  refine ih_cald rfl rfl (by omega) (by omega) (by omega) (ih_xg (by omega) (by omega)) ?_
  refine ih_seg (i1 := 840) 4 rfl ?_
  try dsimp only
  refine ih_cald rfl rfl (by omega) (by omega) (by omega) (ih_xg (by omega) (by omega)) ?_
  refine ih_iv3 84 rfl rfl (by first | rfl | exact ih_kP (ih_P_w0 hc) |  exact ih_kP (by assumption) | exact ih_kC (by assumption) | exact ih_kN (by assumption) | exact ih_kS (by assumption) | exact ih_kW (by assumption)) (Nat.le_of_ble_eq_true rfl) (Nat.le_of_ble_eq_true rfl) rfl ?_
  refine c_op_latest (hx _) (hx _) (hx _) I.1.1 I.1.2 ?_
  refine ih_roC_i (fun v1 t1 H1 => ?_)
  have E := ih_hC_112 H1
  refine ih_seg (i1 := 847) 5 rfl ?_
  try dsimp only
  refine ih_cald rfl rfl (by omega) (by omega) (by omega) (ih_xg (by omega) (by omega)) ?_
  refine ih_seg (i1 := 852) 4 rfl ?_
  try dsimp only
  refine ih_cald rfl rfl (by omega) (by omega) (by omega) (ih_xg (by omega) (by omega)) ?_
  refine ih_seg (i1 := 857) 4 rfl ?_
  try dsimp only
  refine ih_cald rfl rfl (by omega) (by omega) (by omega) (ih_xg (by omega) (by omega)) ?_
  refine ih_iv3 177 rfl rfl (by first | rfl | exact ih_kP (ih_P_w0 hc) |  exact ih_kP (by assumption) | exact ih_kC (by assumption) | exact ih_kN (by assumption) | exact ih_kS (by assumption) | exact ih_kW (by assumption)) (Nat.le_of_ble_eq_true rfl) (Nat.le_of_ble_eq_true rfl) rfl ?_
  refine r_op_latest (hx _) (hx _) (hx _) (by rw [E]; exact I.1.2) ?_
  rw [E]
  refine ih_roR_i (fun v2 t2 H2 => ?_)
  obtain ⟨ev, I2⟩ := ih_ro2 I H1 H2
  subst ev
  exact ih_same rfl (K _ I2)

set_option maxRecDepth 40000 in
theorem law_as {X : List Int} {t : ih_S} {i : Int} {Q : Option xa_V → ih_S → Prop} (I : ih_I t) (hx : ∀ j, xa_rI (ih_xs X j)) (h0 : 0 ≤ i) (h1 : i + 6 ≤ (X.length : Int)) (h2 : X.length ≤ 3072) (K : ∀ t2, ih_I t2 → ih_Wp X 219 1281 [xC 2, xR 0, xR 111, xI i] [] t2 Q) : ih_Wp X 219 994 [xC 2, xR 0, xR 111, xI i] [] t Q := by
  refine ih_seg (i1 := 999) 5 rfl ?_
  try dsimp only
  refine ih_cald rfl rfl (by omega) (by omega) (by omega) (ih_xg (by omega) (by omega)) ?_
  refine ih_seg (i1 := 1004) 4 rfl ?_
  try dsimp only
  refine ih_cald rfl rfl (by omega) (by omega) (by omega) (ih_xg (by omega) (by omega)) ?_
  refine ih_iv2 91 rfl rfl (by first | rfl | exact ih_kP (ih_P_w0 hc) |  exact ih_kP (by assumption) | exact ih_kC (by assumption) | exact ih_kN (by assumption) | exact ih_kS (by assumption) | exact ih_kW (by assumption)) (Nat.le_of_ble_eq_true rfl) (Nat.le_of_ble_eq_true rfl) rfl ?_
  refine c_op_as (hx _) (hx _) I.1.1 I.1.2 ?_
  refine ih_roC_i (fun v1 t1 H1 => ?_)
  have E := ih_hC_112 H1
  refine ih_seg (i1 := 1011) 5 rfl ?_
  try dsimp only
  refine ih_cald rfl rfl (by omega) (by omega) (by omega) (ih_xg (by omega) (by omega)) ?_
  refine ih_seg (i1 := 1016) 4 rfl ?_
  try dsimp only
  refine ih_cald rfl rfl (by omega) (by omega) (by omega) (ih_xg (by omega) (by omega)) ?_
  refine ih_iv2 197 rfl rfl (by first | rfl | exact ih_kP (ih_P_w0 hc) |  exact ih_kP (by assumption) | exact ih_kC (by assumption) | exact ih_kN (by assumption) | exact ih_kS (by assumption) | exact ih_kW (by assumption)) (Nat.le_of_ble_eq_true rfl) (Nat.le_of_ble_eq_true rfl) rfl ?_
  refine r_op_as (hx _) (hx _) (by rw [E]; exact I.1.2) ?_
  rw [E]
  refine ih_roR_i (fun v2 t2 H2 => ?_)
  obtain ⟨ev, I2⟩ := ih_ro2 I H1 H2
  subst ev
  exact ih_same rfl (K _ I2)
