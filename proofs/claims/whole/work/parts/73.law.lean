/-! the law: its cases, those that change the world -/

set_option maxRecDepth 40000 in
theorem law_hours {X : List Int} {t : ih_S} {i : Int} {Q : Option xa_V → ih_S → Prop} (I : ih_I t) (hx : ∀ j, xa_rI (ih_xs X j)) (h0 : 0 ≤ i) (h1 : i + 6 ≤ (X.length : Int)) (h2 : X.length ≤ 3072) (K : ∀ t2, ih_I t2 → ih_Wp X 219 1281 [xC 2, xR 0, xR 111, xI i] [] t2 Q) : ih_Wp X 219 22 [xC 2, xR 0, xR 111, xI i] [] t Q := by
  refine ih_seg (i1 := 27) 5 rfl ?_
  try dsimp only
  refine ih_cald rfl rfl (by omega) (by omega) (by omega) (ih_xg (by omega) (by omega)) ?_
  refine ih_iv1 59 rfl rfl (by first | rfl | exact ih_kP (ih_P_w0 hc) |  exact ih_kP (by assumption) | exact ih_kC (by assumption) | exact ih_kN (by assumption) | exact ih_kS (by assumption) | exact ih_kW (by assumption)) (Nat.le_of_ble_eq_true rfl) (Nat.le_of_ble_eq_true rfl) rfl ?_
  refine c_op_hours (hx _) I.1.1 I.1.2 ?_
  refine ih_chC_i (fun v1 t1 H1 => ?_)
  have E := ih_qC_ge H1 112 (by omega)
  refine ih_seg (i1 := 34) 5 rfl ?_
  try dsimp only
  refine ih_cald rfl rfl (by omega) (by omega) (by omega) (ih_xg (by omega) (by omega)) ?_
  refine ih_iv1 135 rfl rfl (by first | rfl | exact ih_kP (ih_P_w0 hc) |  exact ih_kP (by assumption) | exact ih_kC (by assumption) | exact ih_kN (by assumption) | exact ih_kS (by assumption) | exact ih_kW (by assumption)) (Nat.le_of_ble_eq_true rfl) (Nat.le_of_ble_eq_true rfl) rfl ?_
  refine r_op_hours (hx _) (by rw [E]; exact I.1.2) ?_
  rw [E]
  refine ih_chR_i (fun v2 t2 H2 => ?_)
  obtain ⟨ev, I2⟩ := ih_ch2 I (ih_g_hours I.1.2) H1 H2
  subst ev
  exact ih_same rfl (K _ I2)

set_option maxRecDepth 40000 in
theorem law_ink {X : List Int} {t : ih_S} {i : Int} {Q : Option xa_V → ih_S → Prop} (I : ih_I t) (hx : ∀ j, xa_rI (ih_xs X j)) (h0 : 0 ≤ i) (h1 : i + 6 ≤ (X.length : Int)) (h2 : X.length ≤ 3072) (K : ∀ t2, ih_I t2 → ih_Wp X 219 1281 [xC 2, xR 0, xR 111, xI i] [] t2 Q) : ih_Wp X 219 39 [xC 2, xR 0, xR 111, xI i] [] t Q := by
  refine ih_seg (i1 := 44) 5 rfl ?_
  try dsimp only
  refine ih_cald rfl rfl (by omega) (by omega) (by omega) (ih_xg (by omega) (by omega)) ?_
  refine ih_seg (i1 := 49) 4 rfl ?_
  try dsimp only
  refine ih_cald rfl rfl (by omega) (by omega) (by omega) (ih_xg (by omega) (by omega)) ?_
  refine ih_seg (i1 := 54) 4 rfl ?_
  try dsimp only
  refine ih_cald rfl rfl (by omega) (by omega) (by omega) (ih_xg (by omega) (by omega)) ?_
  refine ih_iv3 60 rfl rfl (by first | rfl | exact ih_kP (ih_P_w0 hc) |  exact ih_kP (by assumption) | exact ih_kC (by assumption) | exact ih_kN (by assumption) | exact ih_kS (by assumption) | exact ih_kW (by assumption)) (Nat.le_of_ble_eq_true rfl) (Nat.le_of_ble_eq_true rfl) rfl ?_
  refine c_op_ink (hx _) (hx _) (hx _) I.1.1 I.1.2 ?_
  refine ih_chC_i (fun v1 t1 H1 => ?_)
  have E := ih_qC_ge H1 112 (by omega)
  refine ih_seg (i1 := 61) 5 rfl ?_
  try dsimp only
  refine ih_cald rfl rfl (by omega) (by omega) (by omega) (ih_xg (by omega) (by omega)) ?_
  refine ih_seg (i1 := 66) 4 rfl ?_
  try dsimp only
  refine ih_cald rfl rfl (by omega) (by omega) (by omega) (ih_xg (by omega) (by omega)) ?_
  refine ih_seg (i1 := 71) 4 rfl ?_
  try dsimp only
  refine ih_cald rfl rfl (by omega) (by omega) (by omega) (ih_xg (by omega) (by omega)) ?_
  refine ih_iv3 136 rfl rfl (by first | rfl | exact ih_kP (ih_P_w0 hc) |  exact ih_kP (by assumption) | exact ih_kC (by assumption) | exact ih_kN (by assumption) | exact ih_kS (by assumption) | exact ih_kW (by assumption)) (Nat.le_of_ble_eq_true rfl) (Nat.le_of_ble_eq_true rfl) rfl ?_
  refine r_op_ink (hx _) (hx _) (hx _) (by rw [E]; exact I.1.2) ?_
  rw [E]
  refine ih_chR_i (fun v2 t2 H2 => ?_)
  obtain ⟨ev, I2⟩ := ih_ch2 I (ih_g_ink I.1.2) H1 H2
  subst ev
  exact ih_same rfl (K _ I2)

set_option maxRecDepth 40000 in
theorem law_light {X : List Int} {t : ih_S} {i : Int} {Q : Option xa_V → ih_S → Prop} (I : ih_I t) (hx : ∀ j, xa_rI (ih_xs X j)) (h0 : 0 ≤ i) (h1 : i + 6 ≤ (X.length : Int)) (h2 : X.length ≤ 3072) (K : ∀ t2, ih_I t2 → ih_Wp X 219 1281 [xC 2, xR 0, xR 111, xI i] [] t2 Q) : ih_Wp X 219 76 [xC 2, xR 0, xR 111, xI i] [] t Q := by
  have hv2 := hx (i + 2)
  refine ih_seg (i1 := 81) 5 rfl ?_
  try dsimp only
  refine ih_cald rfl rfl (by omega) (by omega) (by omega) (ih_xg (by omega) (by omega)) ?_
  refine ih_seg (i1 := 86) 4 rfl ?_
  try dsimp only
  refine ih_cald rfl rfl (by omega) (by omega) (by omega) (ih_xg (by omega) (by omega)) ?_
  refine ih_ifc_eq rfl (by omega) (fun w1 => ?_) (fun w1 => ?_)
  · refine ih_seg (i1 := 91) 1 rfl ?_
    refine ih_iv2 61 rfl rfl (by first | rfl | exact ih_kP (ih_P_w0 hc) |  exact ih_kP (by assumption) | exact ih_kC (by assumption) | exact ih_kN (by assumption) | exact ih_kS (by assumption) | exact ih_kW (by assumption)) (Nat.le_of_ble_eq_true rfl) (Nat.le_of_ble_eq_true rfl) rfl ?_
    refine c_op_light (hx _) (by omega) I.1.1 I.1.2 ?_
    refine ih_chC_i (fun v1 t1 H1 => ?_)
    have E := ih_qC_ge H1 112 (by omega)
    refine ih_seg (i1 := 97) 5 rfl ?_
    try dsimp only
    refine ih_cald rfl rfl (by omega) (by omega) (by omega) (ih_xg (by omega) (by omega)) ?_
    refine ih_seg (i1 := 102) 4 rfl ?_
    try dsimp only
    refine ih_cald rfl rfl (by omega) (by omega) (by omega) (ih_xg (by omega) (by omega)) ?_
    refine ih_ifc_eq rfl (by omega) (fun w2 => ?_) (fun w2 => ?_)
    · refine ih_seg (i1 := 107) 1 rfl ?_
      refine ih_iv2 137 rfl rfl (by first | rfl | exact ih_kP (ih_P_w0 hc) |  exact ih_kP (by assumption) | exact ih_kC (by assumption) | exact ih_kN (by assumption) | exact ih_kS (by assumption) | exact ih_kW (by assumption)) (Nat.le_of_ble_eq_true rfl) (Nat.le_of_ble_eq_true rfl) rfl ?_
      refine r_op_light (hx _) (by omega) (by rw [E]; exact I.1.2) ?_
      rw [E]
      refine ih_chR_i (fun v2 t2 H2 => ?_)
      first
        | (exfalso
           omega)
        | (obtain ⟨ev, I2⟩ := ih_ch2 I (ih_g_light (by omega) I.1.2) H1 H2
           subst ev
           exact ih_same rfl (K _ I2))
    · refine ih_seg (i1 := 107) 2 rfl ?_
      refine ih_iv2 137 rfl rfl (by first | rfl | exact ih_kP (ih_P_w0 hc) |  exact ih_kP (by assumption) | exact ih_kC (by assumption) | exact ih_kN (by assumption) | exact ih_kS (by assumption) | exact ih_kW (by assumption)) (Nat.le_of_ble_eq_true rfl) (Nat.le_of_ble_eq_true rfl) rfl ?_
      refine r_op_light (hx _) (by omega) (by rw [E]; exact I.1.2) ?_
      rw [E]
      refine ih_chR_i (fun v2 t2 H2 => ?_)
      first
        | (exfalso
           omega)
        | (obtain ⟨ev, I2⟩ := ih_ch2 I (ih_g_light (by omega) I.1.2) H1 H2
           subst ev
           exact ih_same rfl (K _ I2))
  · refine ih_seg (i1 := 91) 2 rfl ?_
    refine ih_iv2 61 rfl rfl (by first | rfl | exact ih_kP (ih_P_w0 hc) |  exact ih_kP (by assumption) | exact ih_kC (by assumption) | exact ih_kN (by assumption) | exact ih_kS (by assumption) | exact ih_kW (by assumption)) (Nat.le_of_ble_eq_true rfl) (Nat.le_of_ble_eq_true rfl) rfl ?_
    refine c_op_light (hx _) (by omega) I.1.1 I.1.2 ?_
    refine ih_chC_i (fun v1 t1 H1 => ?_)
    have E := ih_qC_ge H1 112 (by omega)
    refine ih_seg (i1 := 97) 5 rfl ?_
    try dsimp only
    refine ih_cald rfl rfl (by omega) (by omega) (by omega) (ih_xg (by omega) (by omega)) ?_
    refine ih_seg (i1 := 102) 4 rfl ?_
    try dsimp only
    refine ih_cald rfl rfl (by omega) (by omega) (by omega) (ih_xg (by omega) (by omega)) ?_
    refine ih_ifc_eq rfl (by omega) (fun w3 => ?_) (fun w3 => ?_)
    · refine ih_seg (i1 := 107) 1 rfl ?_
      refine ih_iv2 137 rfl rfl (by first | rfl | exact ih_kP (ih_P_w0 hc) |  exact ih_kP (by assumption) | exact ih_kC (by assumption) | exact ih_kN (by assumption) | exact ih_kS (by assumption) | exact ih_kW (by assumption)) (Nat.le_of_ble_eq_true rfl) (Nat.le_of_ble_eq_true rfl) rfl ?_
      refine r_op_light (hx _) (by omega) (by rw [E]; exact I.1.2) ?_
      rw [E]
      refine ih_chR_i (fun v2 t2 H2 => ?_)
      first
        | (exfalso
           omega)
        | (obtain ⟨ev, I2⟩ := ih_ch2 I (ih_g_light (by omega) I.1.2) H1 H2
           subst ev
           exact ih_same rfl (K _ I2))
    · refine ih_seg (i1 := 107) 2 rfl ?_
      refine ih_iv2 137 rfl rfl (by first | rfl | exact ih_kP (ih_P_w0 hc) |  exact ih_kP (by assumption) | exact ih_kC (by assumption) | exact ih_kN (by assumption) | exact ih_kS (by assumption) | exact ih_kW (by assumption)) (Nat.le_of_ble_eq_true rfl) (Nat.le_of_ble_eq_true rfl) rfl ?_
      refine r_op_light (hx _) (by omega) (by rw [E]; exact I.1.2) ?_
      rw [E]
      refine ih_chR_i (fun v2 t2 H2 => ?_)
      first
        | (exfalso
           omega)
        | (obtain ⟨ev, I2⟩ := ih_ch2 I (ih_g_light (by omega) I.1.2) H1 H2
           subst ev
           exact ih_same rfl (K _ I2))

set_option maxRecDepth 40000 in
theorem law_write {X : List Int} {t : ih_S} {i : Int} {Q : Option xa_V → ih_S → Prop} (I : ih_I t) (hx : ∀ j, xa_rI (ih_xs X j)) (h0 : 0 ≤ i) (h1 : i + 6 ≤ (X.length : Int)) (h2 : X.length ≤ 3072) (K : ∀ t2, ih_I t2 → ih_Wp X 219 1281 [xC 2, xR 0, xR 111, xI i] [] t2 Q) : ih_Wp X 219 111 [xC 2, xR 0, xR 111, xI i] [] t Q := by
  refine ih_seg (i1 := 116) 5 rfl ?_
  try dsimp only
  refine ih_cald rfl rfl (by omega) (by omega) (by omega) (ih_xg (by omega) (by omega)) ?_
  refine ih_seg (i1 := 121) 4 rfl ?_
  try dsimp only
  refine ih_cald rfl rfl (by omega) (by omega) (by omega) (ih_xg (by omega) (by omega)) ?_
  refine ih_seg (i1 := 126) 4 rfl ?_
  try dsimp only
  refine ih_cald rfl rfl (by omega) (by omega) (by omega) (ih_xg (by omega) (by omega)) ?_
  refine ih_seg (i1 := 131) 4 rfl ?_
  try dsimp only
  refine ih_cald rfl rfl (by omega) (by omega) (by omega) (ih_xg (by omega) (by omega)) ?_
  refine ih_iv4 62 rfl rfl (by first | rfl | exact ih_kP (ih_P_w0 hc) |  exact ih_kP (by assumption) | exact ih_kC (by assumption) | exact ih_kN (by assumption) | exact ih_kS (by assumption) | exact ih_kW (by assumption)) (Nat.le_of_ble_eq_true rfl) (Nat.le_of_ble_eq_true rfl) rfl ?_
  refine c_op_write (hx _) (hx _) (hx _) (hx _) I.1.1 I.1.2 ?_
  refine ih_chC_i (fun v1 t1 H1 => ?_)
  have E := ih_qC_ge H1 112 (by omega)
  refine ih_seg (i1 := 138) 5 rfl ?_
  try dsimp only
  refine ih_cald rfl rfl (by omega) (by omega) (by omega) (ih_xg (by omega) (by omega)) ?_
  refine ih_seg (i1 := 143) 4 rfl ?_
  try dsimp only
  refine ih_cald rfl rfl (by omega) (by omega) (by omega) (ih_xg (by omega) (by omega)) ?_
  refine ih_seg (i1 := 148) 4 rfl ?_
  try dsimp only
  refine ih_cald rfl rfl (by omega) (by omega) (by omega) (ih_xg (by omega) (by omega)) ?_
  refine ih_seg (i1 := 153) 4 rfl ?_
  try dsimp only
  refine ih_cald rfl rfl (by omega) (by omega) (by omega) (ih_xg (by omega) (by omega)) ?_
  refine ih_iv4 139 rfl rfl (by first | rfl | exact ih_kP (ih_P_w0 hc) |  exact ih_kP (by assumption) | exact ih_kC (by assumption) | exact ih_kN (by assumption) | exact ih_kS (by assumption) | exact ih_kW (by assumption)) (Nat.le_of_ble_eq_true rfl) (Nat.le_of_ble_eq_true rfl) rfl ?_
  refine r_op_write (hx _) (hx _) (hx _) (hx _) (by rw [E]; exact I.1.2) ?_
  rw [E]
  refine ih_chR_i (fun v2 t2 H2 => ?_)
  obtain ⟨ev, I2⟩ := ih_ch2 I (ih_g_write I.1.2) H1 H2
  subst ev
  exact ih_same rfl (K _ I2)

set_option maxRecDepth 40000 in
theorem law_turn {X : List Int} {t : ih_S} {i : Int} {Q : Option xa_V → ih_S → Prop} (I : ih_I t) (hx : ∀ j, xa_rI (ih_xs X j)) (h0 : 0 ≤ i) (h1 : i + 6 ≤ (X.length : Int)) (h2 : X.length ≤ 3072) (K : ∀ t2, ih_I t2 → ih_Wp X 219 1281 [xC 2, xR 0, xR 111, xI i] [] t2 Q) : ih_Wp X 219 195 [xC 2, xR 0, xR 111, xI i] [] t Q := by
  refine ih_seg (i1 := 200) 5 rfl ?_
  try dsimp only
  refine ih_cald rfl rfl (by omega) (by omega) (by omega) (ih_xg (by omega) (by omega)) ?_
  refine ih_seg (i1 := 205) 4 rfl ?_
  try dsimp only
  refine ih_cald rfl rfl (by omega) (by omega) (by omega) (ih_xg (by omega) (by omega)) ?_
  refine ih_seg (i1 := 210) 4 rfl ?_
  try dsimp only
  refine ih_cald rfl rfl (by omega) (by omega) (by omega) (ih_xg (by omega) (by omega)) ?_
  refine ih_iv3 64 rfl rfl (by first | rfl | exact ih_kP (ih_P_w0 hc) |  exact ih_kP (by assumption) | exact ih_kC (by assumption) | exact ih_kN (by assumption) | exact ih_kS (by assumption) | exact ih_kW (by assumption)) (Nat.le_of_ble_eq_true rfl) (Nat.le_of_ble_eq_true rfl) rfl ?_
  refine c_op_turn (hx _) (hx _) (hx _) I.1.1 I.1.2 ?_
  refine ih_chC_i (fun v1 t1 H1 => ?_)
  have E := ih_qC_ge H1 112 (by omega)
  refine ih_seg (i1 := 217) 5 rfl ?_
  try dsimp only
  refine ih_cald rfl rfl (by omega) (by omega) (by omega) (ih_xg (by omega) (by omega)) ?_
  refine ih_seg (i1 := 222) 4 rfl ?_
  try dsimp only
  refine ih_cald rfl rfl (by omega) (by omega) (by omega) (ih_xg (by omega) (by omega)) ?_
  refine ih_seg (i1 := 227) 4 rfl ?_
  try dsimp only
  refine ih_cald rfl rfl (by omega) (by omega) (by omega) (ih_xg (by omega) (by omega)) ?_
  refine ih_iv3 142 rfl rfl (by first | rfl | exact ih_kP (ih_P_w0 hc) |  exact ih_kP (by assumption) | exact ih_kC (by assumption) | exact ih_kN (by assumption) | exact ih_kS (by assumption) | exact ih_kW (by assumption)) (Nat.le_of_ble_eq_true rfl) (Nat.le_of_ble_eq_true rfl) rfl ?_
  refine r_op_turn (hx _) (hx _) (hx _) (by rw [E]; exact I.1.2) ?_
  rw [E]
  refine ih_chR_i (fun v2 t2 H2 => ?_)
  obtain ⟨ev, I2⟩ := ih_ch2 I (ih_g_turn I.1.2) H1 H2
  subst ev
  exact ih_same rfl (K _ I2)

set_option maxRecDepth 40000 in
theorem law_scratch {X : List Int} {t : ih_S} {i : Int} {Q : Option xa_V → ih_S → Prop} (I : ih_I t) (hx : ∀ j, xa_rI (ih_xs X j)) (h0 : 0 ≤ i) (h1 : i + 6 ≤ (X.length : Int)) (h2 : X.length ≤ 3072) (K : ∀ t2, ih_I t2 → ih_Wp X 219 1281 [xC 2, xR 0, xR 111, xI i] [] t2 Q) : ih_Wp X 219 232 [xC 2, xR 0, xR 111, xI i] [] t Q := by
  refine ih_seg (i1 := 237) 5 rfl ?_
  try dsimp only
  refine ih_cald rfl rfl (by omega) (by omega) (by omega) (ih_xg (by omega) (by omega)) ?_
  refine ih_seg (i1 := 242) 4 rfl ?_
  try dsimp only
  refine ih_cald rfl rfl (by omega) (by omega) (by omega) (ih_xg (by omega) (by omega)) ?_
  refine ih_iv2 65 rfl rfl (by first | rfl | exact ih_kP (ih_P_w0 hc) |  exact ih_kP (by assumption) | exact ih_kC (by assumption) | exact ih_kN (by assumption) | exact ih_kS (by assumption) | exact ih_kW (by assumption)) (Nat.le_of_ble_eq_true rfl) (Nat.le_of_ble_eq_true rfl) rfl ?_
  refine c_op_scratch (hx _) (hx _) I.1.1 I.1.2 ?_
  refine ih_chC_i (fun v1 t1 H1 => ?_)
  have E := ih_qC_ge H1 112 (by omega)
  refine ih_seg (i1 := 249) 5 rfl ?_
  try dsimp only
  refine ih_cald rfl rfl (by omega) (by omega) (by omega) (ih_xg (by omega) (by omega)) ?_
  refine ih_seg (i1 := 254) 4 rfl ?_
  try dsimp only
  refine ih_cald rfl rfl (by omega) (by omega) (by omega) (ih_xg (by omega) (by omega)) ?_
  refine ih_iv2 143 rfl rfl (by first | rfl | exact ih_kP (ih_P_w0 hc) |  exact ih_kP (by assumption) | exact ih_kC (by assumption) | exact ih_kN (by assumption) | exact ih_kS (by assumption) | exact ih_kW (by assumption)) (Nat.le_of_ble_eq_true rfl) (Nat.le_of_ble_eq_true rfl) rfl ?_
  refine r_op_scratch (hx _) (hx _) (by rw [E]; exact I.1.2) ?_
  rw [E]
  refine ih_chR_i (fun v2 t2 H2 => ?_)
  obtain ⟨ev, I2⟩ := ih_ch2 I (ih_g_scratch I.1.2) H1 H2
  subst ev
  exact ih_same rfl (K _ I2)

set_option maxRecDepth 40000 in
theorem law_copied {X : List Int} {t : ih_S} {i : Int} {Q : Option xa_V → ih_S → Prop} (I : ih_I t) (hx : ∀ j, xa_rI (ih_xs X j)) (h0 : 0 ≤ i) (h1 : i + 6 ≤ (X.length : Int)) (h2 : X.length ≤ 3072) (K : ∀ t2, ih_I t2 → ih_Wp X 219 1281 [xC 2, xR 0, xR 111, xI i] [] t2 Q) : ih_Wp X 219 259 [xC 2, xR 0, xR 111, xI i] [] t Q := by
  refine ih_seg (i1 := 264) 5 rfl ?_
  try dsimp only
  refine ih_cald rfl rfl (by omega) (by omega) (by omega) (ih_xg (by omega) (by omega)) ?_
  refine ih_seg (i1 := 269) 4 rfl ?_
  try dsimp only
  refine ih_cald rfl rfl (by omega) (by omega) (by omega) (ih_xg (by omega) (by omega)) ?_
  refine ih_seg (i1 := 274) 4 rfl ?_
  try dsimp only
  refine ih_cald rfl rfl (by omega) (by omega) (by omega) (ih_xg (by omega) (by omega)) ?_
  refine ih_iv3 66 rfl rfl (by first | rfl | exact ih_kP (ih_P_w0 hc) |  exact ih_kP (by assumption) | exact ih_kC (by assumption) | exact ih_kN (by assumption) | exact ih_kS (by assumption) | exact ih_kW (by assumption)) (Nat.le_of_ble_eq_true rfl) (Nat.le_of_ble_eq_true rfl) rfl ?_
  refine c_op_copied (hx _) (hx _) (hx _) I.1.1 I.1.2 ?_
  refine ih_chC_i (fun v1 t1 H1 => ?_)
  have E := ih_qC_ge H1 112 (by omega)
  refine ih_seg (i1 := 281) 5 rfl ?_
  try dsimp only
  refine ih_cald rfl rfl (by omega) (by omega) (by omega) (ih_xg (by omega) (by omega)) ?_
  refine ih_seg (i1 := 286) 4 rfl ?_
  try dsimp only
  refine ih_cald rfl rfl (by omega) (by omega) (by omega) (ih_xg (by omega) (by omega)) ?_
  refine ih_seg (i1 := 291) 4 rfl ?_
  try dsimp only
  refine ih_cald rfl rfl (by omega) (by omega) (by omega) (ih_xg (by omega) (by omega)) ?_
  refine ih_iv3 145 rfl rfl (by first | rfl | exact ih_kP (ih_P_w0 hc) |  exact ih_kP (by assumption) | exact ih_kC (by assumption) | exact ih_kN (by assumption) | exact ih_kS (by assumption) | exact ih_kW (by assumption)) (Nat.le_of_ble_eq_true rfl) (Nat.le_of_ble_eq_true rfl) rfl ?_
  refine r_op_copied (hx _) (hx _) (hx _) (by rw [E]; exact I.1.2) ?_
  rw [E]
  refine ih_chR_i (fun v2 t2 H2 => ?_)
  obtain ⟨ev, I2⟩ := ih_ch2 I (ih_g_copied I.1.2) H1 H2
  subst ev
  exact ih_same rfl (K _ I2)

set_option maxRecDepth 40000 in
theorem law_clerk {X : List Int} {t : ih_S} {i : Int} {Q : Option xa_V → ih_S → Prop} (I : ih_I t) (hx : ∀ j, xa_rI (ih_xs X j)) (h0 : 0 ≤ i) (h1 : i + 6 ≤ (X.length : Int)) (h2 : X.length ≤ 3072) (K : ∀ t2, ih_I t2 → ih_Wp X 219 1281 [xC 2, xR 0, xR 111, xI i] [] t2 Q) : ih_Wp X 219 862 [xC 2, xR 0, xR 111, xI i] [] t Q := by
  refine ih_seg (i1 := 867) 5 rfl ?_
  try dsimp only
  refine ih_cald rfl rfl (by omega) (by omega) (by omega) (ih_xg (by omega) (by omega)) ?_
  refine ih_seg (i1 := 872) 4 rfl ?_
  try dsimp only
  refine ih_cald rfl rfl (by omega) (by omega) (by omega) (ih_xg (by omega) (by omega)) ?_
  refine ih_seg (i1 := 877) 4 rfl ?_
  try dsimp only
  refine ih_cald rfl rfl (by omega) (by omega) (by omega) (ih_xg (by omega) (by omega)) ?_
  refine ih_iv3 85 rfl rfl (by first | rfl | exact ih_kP (ih_P_w0 hc) |  exact ih_kP (by assumption) | exact ih_kC (by assumption) | exact ih_kN (by assumption) | exact ih_kS (by assumption) | exact ih_kW (by assumption)) (Nat.le_of_ble_eq_true rfl) (Nat.le_of_ble_eq_true rfl) rfl ?_
  refine c_op_clerk (hx _) (hx _) (hx _) I.1.1 I.1.2 ?_
  refine ih_chC_i (fun v1 t1 H1 => ?_)
  have E := ih_qC_ge H1 112 (by omega)
  refine ih_seg (i1 := 884) 5 rfl ?_
  try dsimp only
  refine ih_cald rfl rfl (by omega) (by omega) (by omega) (ih_xg (by omega) (by omega)) ?_
  refine ih_seg (i1 := 889) 4 rfl ?_
  try dsimp only
  refine ih_cald rfl rfl (by omega) (by omega) (by omega) (ih_xg (by omega) (by omega)) ?_
  refine ih_seg (i1 := 894) 4 rfl ?_
  try dsimp only
  refine ih_cald rfl rfl (by omega) (by omega) (by omega) (ih_xg (by omega) (by omega)) ?_
  refine ih_iv3 178 rfl rfl (by first | rfl | exact ih_kP (ih_P_w0 hc) |  exact ih_kP (by assumption) | exact ih_kC (by assumption) | exact ih_kN (by assumption) | exact ih_kS (by assumption) | exact ih_kW (by assumption)) (Nat.le_of_ble_eq_true rfl) (Nat.le_of_ble_eq_true rfl) rfl ?_
  refine r_op_clerk (hx _) (hx _) (hx _) (by rw [E]; exact I.1.2) ?_
  rw [E]
  refine ih_chR_i (fun v2 t2 H2 => ?_)
  obtain ⟨ev, I2⟩ := ih_ch2 I (ih_g_clerk I.1.2) H1 H2
  subst ev
  exact ih_same rfl (K _ I2)

set_option maxRecDepth 40000 in
theorem law_seed {X : List Int} {t : ih_S} {i : Int} {Q : Option xa_V → ih_S → Prop} (I : ih_I t) (hx : ∀ j, xa_rI (ih_xs X j)) (h0 : 0 ≤ i) (h1 : i + 6 ≤ (X.length : Int)) (h2 : X.length ≤ 3072) (K : ∀ t2, ih_I t2 → ih_Wp X 219 1281 [xC 2, xR 0, xR 111, xI i] [] t2 Q) : ih_Wp X 219 899 [xC 2, xR 0, xR 111, xI i] [] t Q := by
  refine ih_seg (i1 := 904) 5 rfl ?_
  try dsimp only
  refine ih_cald rfl rfl (by omega) (by omega) (by omega) (ih_xg (by omega) (by omega)) ?_
  refine ih_iv1 86 rfl rfl (by first | rfl | exact ih_kP (ih_P_w0 hc) |  exact ih_kP (by assumption) | exact ih_kC (by assumption) | exact ih_kN (by assumption) | exact ih_kS (by assumption) | exact ih_kW (by assumption)) (Nat.le_of_ble_eq_true rfl) (Nat.le_of_ble_eq_true rfl) rfl ?_
  refine c_op_seed I.1.1 I.1.2 ?_
  refine ih_chC_i (fun v1 t1 H1 => ?_)
  have E := ih_qC_ge H1 112 (by omega)
  refine ih_seg (i1 := 911) 5 rfl ?_
  try dsimp only
  refine ih_cald rfl rfl (by omega) (by omega) (by omega) (ih_xg (by omega) (by omega)) ?_
  refine ih_iv1 179 rfl rfl (by first | rfl | exact ih_kP (ih_P_w0 hc) |  exact ih_kP (by assumption) | exact ih_kC (by assumption) | exact ih_kN (by assumption) | exact ih_kS (by assumption) | exact ih_kW (by assumption)) (Nat.le_of_ble_eq_true rfl) (Nat.le_of_ble_eq_true rfl) rfl ?_
  refine r_op_seed ?_
  rw [E]
  refine ih_chR_i (fun v2 t2 H2 => ?_)
  obtain ⟨ev, I2⟩ := ih_ch2 I (fun _ _ => ih_Gu_z I.1.2) H1 H2
  subst ev
  exact ih_same rfl (K _ I2)

set_option maxRecDepth 40000 in
theorem law_hold {X : List Int} {t : ih_S} {i : Int} {Q : Option xa_V → ih_S → Prop} (I : ih_I t) (hx : ∀ j, xa_rI (ih_xs X j)) (h0 : 0 ≤ i) (h1 : i + 6 ≤ (X.length : Int)) (h2 : X.length ≤ 3072) (K : ∀ t2, ih_I t2 → ih_Wp X 219 1281 [xC 2, xR 0, xR 111, xI i] [] t2 Q) : ih_Wp X 219 957 [xC 2, xR 0, xR 111, xI i] [] t Q := by
  refine ih_seg (i1 := 962) 5 rfl ?_
  try dsimp only
  refine ih_cald rfl rfl (by omega) (by omega) (by omega) (ih_xg (by omega) (by omega)) ?_
  refine ih_seg (i1 := 967) 4 rfl ?_
  try dsimp only
  refine ih_cald rfl rfl (by omega) (by omega) (by omega) (ih_xg (by omega) (by omega)) ?_
  refine ih_seg (i1 := 972) 4 rfl ?_
  try dsimp only
  refine ih_cald rfl rfl (by omega) (by omega) (by omega) (ih_xg (by omega) (by omega)) ?_
  refine ih_iv3 90 rfl rfl (by first | rfl | exact ih_kP (ih_P_w0 hc) |  exact ih_kP (by assumption) | exact ih_kC (by assumption) | exact ih_kN (by assumption) | exact ih_kS (by assumption) | exact ih_kW (by assumption)) (Nat.le_of_ble_eq_true rfl) (Nat.le_of_ble_eq_true rfl) rfl ?_
  refine c_op_hold (hx _) (hx _) (hx _) I.1.1 I.1.2 ?_
  refine ih_chC_i (fun v1 t1 H1 => ?_)
  have E := ih_qC_ge H1 112 (by omega)
  refine ih_seg (i1 := 979) 5 rfl ?_
  try dsimp only
  refine ih_cald rfl rfl (by omega) (by omega) (by omega) (ih_xg (by omega) (by omega)) ?_
  refine ih_seg (i1 := 984) 4 rfl ?_
  try dsimp only
  refine ih_cald rfl rfl (by omega) (by omega) (by omega) (ih_xg (by omega) (by omega)) ?_
  refine ih_seg (i1 := 989) 4 rfl ?_
  try dsimp only
  refine ih_cald rfl rfl (by omega) (by omega) (by omega) (ih_xg (by omega) (by omega)) ?_
  refine ih_iv3 196 rfl rfl (by first | rfl | exact ih_kP (ih_P_w0 hc) |  exact ih_kP (by assumption) | exact ih_kC (by assumption) | exact ih_kN (by assumption) | exact ih_kS (by assumption) | exact ih_kW (by assumption)) (Nat.le_of_ble_eq_true rfl) (Nat.le_of_ble_eq_true rfl) rfl ?_
  refine r_op_hold (hx _) (hx _) (hx _) (by rw [E]; exact I.1.2) ?_
  rw [E]
  refine ih_chR_i (fun v2 t2 H2 => ?_)
  obtain ⟨ev, I2⟩ := ih_ch2 I (ih_g_hold I.1.2) H1 H2
  subst ev
  exact ih_same rfl (K _ I2)

set_option maxRecDepth 40000 in
theorem law_load {X : List Int} {t : ih_S} {i : Int} {Q : Option xa_V → ih_S → Prop} (I : ih_I t) (hx : ∀ j, xa_rI (ih_xs X j)) (h0 : 0 ≤ i) (h1 : i + 6 ≤ (X.length : Int)) (h2 : X.length ≤ 3072) (K : ∀ t2, ih_I t2 → ih_Wp X 219 1281 [xC 2, xR 0, xR 111, xI i] [] t2 Q) : ih_Wp X 219 1152 [xC 2, xR 0, xR 111, xI i] [] t Q := by
  refine ih_seg (i1 := 1157) 5 rfl ?_
  try dsimp only
  refine ih_cald rfl rfl (by omega) (by omega) (by omega) (ih_xg (by omega) (by omega)) ?_
  refine ih_seg (i1 := 1162) 4 rfl ?_
  try dsimp only
  refine ih_cald rfl rfl (by omega) (by omega) (by omega) (ih_xg (by omega) (by omega)) ?_
  refine ih_seg (i1 := 1167) 4 rfl ?_
  try dsimp only
  refine ih_cald rfl rfl (by omega) (by omega) (by omega) (ih_xg (by omega) (by omega)) ?_
  refine ih_iv3 95 rfl rfl (by first | rfl | exact ih_kP (ih_P_w0 hc) |  exact ih_kP (by assumption) | exact ih_kC (by assumption) | exact ih_kN (by assumption) | exact ih_kS (by assumption) | exact ih_kW (by assumption)) (Nat.le_of_ble_eq_true rfl) (Nat.le_of_ble_eq_true rfl) rfl ?_
  refine c_op_load (hx _) (hx _) (hx _) I.s.1 I.s.2 I.1.1 I.1.2 ?_
  refine ih_chC_i (fun v1 t1 H1 => ?_)
  have E := ih_qC_ge H1 112 (by omega)
  have E1 := ih_qC_ge H1 118 (by omega)
  have E2 := ih_qC_ge H1 119 (by omega)
  have E3 := ih_qC_ge H1 120 (by omega)
  refine ih_seg (i1 := 1174) 5 rfl ?_
  try dsimp only
  refine ih_cald rfl rfl (by omega) (by omega) (by omega) (ih_xg (by omega) (by omega)) ?_
  refine ih_seg (i1 := 1179) 4 rfl ?_
  try dsimp only
  refine ih_cald rfl rfl (by omega) (by omega) (by omega) (ih_xg (by omega) (by omega)) ?_
  refine ih_seg (i1 := 1184) 4 rfl ?_
  try dsimp only
  refine ih_cald rfl rfl (by omega) (by omega) (by omega) (ih_xg (by omega) (by omega)) ?_
  refine ih_iv3 204 rfl rfl (by first | rfl | exact ih_kP (ih_P_w0 hc) |  exact ih_kP (by assumption) | exact ih_kC (by assumption) | exact ih_kN (by assumption) | exact ih_kS (by assumption) | exact ih_kW (by assumption)) (Nat.le_of_ble_eq_true rfl) (Nat.le_of_ble_eq_true rfl) rfl ?_
  refine r_op_load (hx _) (hx _) (hx _) (by rw [E]; exact I.1.2) (by rw [E1, E2, E3]; exact I.s.2) ?_
  rw [E, E1, E2, E3]
  refine ih_chR_i (fun v2 t2 H2 => ?_)
  obtain ⟨ev, I2⟩ := ih_ch2 I (ih_g_load I.1.2) H1 H2
  subst ev
  exact ih_same rfl (K _ I2)
