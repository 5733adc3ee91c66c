/-! the law: its cases, the others -/

theorem ih_2_feed {t t1 t2 : ih_S} {a b w : Int} (I : ih_I t) (hk : f_feed (t 80 2) b = ih_ok1 w) (a1 : ∀ j, j ≠ 80 → j ≠ 81 → t1 j = t j) (a2 : t1 80 = ih_u1 (t 80) 2 (t 80 2 + b)) (a3 : t1 81 = g_tp (t 81) (t 80 2) a b) (b1 : ∀ j, j ≠ 111 → j ≠ 117 → t2 j = t1 j) (b2 : t2 111 = ih_u1 (t1 111) 12 (t1 111 12 + b)) (b3 : t2 117 = g_tp (t1 117) (t1 111 12) a b) : ih_I t2 := by
  obtain ⟨T1, T2, T3⟩ := I.t
  have q : (1 ≤ b ∧ b ≤ 4) ∧ t 80 2 + b ≤ 120 := by
    unfold f_feed at hk
    split at hk
    · next q =>
      split at hk
      · cases hk
      · exact ⟨q, by omega⟩
    · cases hk
  have e80 : t2 80 2 = t 80 2 + b := by rw [b1 80 (by omega) (by omega), a2, ih_u1_eq]
  have e111 : t2 111 12 = t 80 2 + b := by rw [b2, ih_u1_eq, a1 111 (by omega) (by omega), T1]
  have e81 : t2 81 = g_tp (t 81) (t 80 2) a b := by rw [b1 81 (by omega) (by omega), a3]
  have e117 : t2 117 = g_tp (t 117) (t 80 2) a b := by rw [b3, a1 117 (by omega) (by omega), a1 111 (by omega) (by omega), T1]
  refine ih_I_of (ih_Iw_eq I.w (fun j h => ?_)) (ih_Ik_eq I.k (fun j h => ?_) ?_) (ih_If_eq I.f ?_ ?_) ⟨?_, ?_, fun k k0 k1 => ?_⟩ (ih_Is_eq I.s (fun j h => ?_))
  · rw [b1 j (by omega) (by omega), a1 j (by omega) (by omega)]
  · rw [b1 j (by omega) (by omega), a1 j (by omega) (by omega)]
  · rw [b2, ih_u1_ne (by omega), a1 111 (by omega) (by omega)]
  · rw [b1 84 (by omega) (by omega), a1 84 (by omega) (by omega)]
  · rw [b1 115 (by omega) (by omega), a1 115 (by omega) (by omega)]
  · rw [e80, e111]
  · rw [e80]
    exact ⟨by omega, by omega⟩
  · rw [e80] at k1
    rw [e81, e117]
    unfold g_tp
    try dsimp only
    split
    · exact ⟨rfl, ih_by_w⟩
    · exact T3 k k0 (by omega)
  · rw [b1 j (by omega) (by omega), a1 j (by omega) (by omega)]

set_option maxRecDepth 40000 in
theorem law_feed {X : List Int} {t : ih_S} {i : Int} {Q : Option xa_V → ih_S → Prop} (I : ih_I t) (hx : ∀ j, xa_rI (ih_xs X j)) (h0 : 0 ≤ i) (h1 : i + 6 ≤ (X.length : Int)) (h2 : X.length ≤ 3072) (K : ∀ t2, ih_I t2 → ih_Wp X 219 1281 [xC 2, xR 0, xR 111, xI i] [] t2 Q) : ih_Wp X 219 916 [xC 2, xR 0, xR 111, xI i] [] t Q := by
  refine ih_seg (i1 := 921) 5 rfl ?_
  try dsimp only
  refine ih_cald rfl rfl (by omega) (by omega) (by omega) (ih_xg (by omega) (by omega)) ?_
  refine ih_seg (i1 := 926) 4 rfl ?_
  try dsimp only
  refine ih_cald rfl rfl (by omega) (by omega) (by omega) (ih_xg (by omega) (by omega)) ?_
  refine ih_iv2 87 rfl rfl (by first | rfl | exact ih_kP (ih_P_w0 hc) |  exact ih_kP (by assumption) | exact ih_kC (by assumption) | exact ih_kN (by assumption) | exact ih_kS (by assumption) | exact ih_kW (by assumption)) (Nat.le_of_ble_eq_true rfl) (Nat.le_of_ble_eq_true rfl) rfl ?_
  refine c_op_feed (hx _) (hx _) I.t.2.1 (fun j hj => ?_) (fun hk t1 a1 a2 a3 => ?_)
  · refine ih_seg (i1 := 933) 5 rfl ?_
    try dsimp only
    refine ih_cald rfl rfl (by omega) (by omega) (by omega) (ih_xg (by omega) (by omega)) ?_
    refine ih_seg (i1 := 938) 4 rfl ?_
    try dsimp only
    refine ih_cald rfl rfl (by omega) (by omega) (by omega) (ih_xg (by omega) (by omega)) ?_
    refine ih_iv2 180 rfl rfl (by first | rfl | exact ih_kP (ih_P_w0 hc) |  exact ih_kP (by assumption) | exact ih_kC (by assumption) | exact ih_kN (by assumption) | exact ih_kS (by assumption) | exact ih_kW (by assumption)) (Nat.le_of_ble_eq_true rfl) (Nat.le_of_ble_eq_true rfl) rfl ?_
    refine r_op_feed (hx _) (hx _) (by rw [ih_up_ne (by omega), ← I.t.1]; exact I.t.2.1) (fun j2 hj2 => ?_) (fun hk2 t2 b1 b2 b3 => ?_)
    · rw [ih_up_ne (by omega), ← I.t.1, hj] at hj2
      cases hj2
      exact ih_same rfl (K _ (ih_ro2 (r := .inr _) I ⟨rfl, ih_sc_r _⟩ ⟨rfl, ih_rr_r _⟩).2)
    · exfalso
      rw [ih_up_ne (by omega), ← I.t.1, hj] at hk2
      cases hk2
  · refine ih_seg (i1 := 933) 5 rfl ?_
    try dsimp only
    refine ih_cald rfl rfl (by omega) (by omega) (by omega) (ih_xg (by omega) (by omega)) ?_
    refine ih_seg (i1 := 938) 4 rfl ?_
    try dsimp only
    refine ih_cald rfl rfl (by omega) (by omega) (by omega) (ih_xg (by omega) (by omega)) ?_
    refine ih_iv2 180 rfl rfl (by first | rfl | exact ih_kP (ih_P_w0 hc) |  exact ih_kP (by assumption) | exact ih_kC (by assumption) | exact ih_kN (by assumption) | exact ih_kS (by assumption) | exact ih_kW (by assumption)) (Nat.le_of_ble_eq_true rfl) (Nat.le_of_ble_eq_true rfl) rfl ?_
    refine r_op_feed (hx _) (hx _) (by rw [a1 111 (by omega) (by omega), ← I.t.1]; exact I.t.2.1) (fun j2 hj2 => ?_) (fun hk2 t2 b1 b2 b3 => ?_)
    · exfalso
      rw [a1 111 (by omega) (by omega), ← I.t.1, hk] at hj2
      cases hj2
    · have J := ih_2_feed I hk a1 a2 a3 b1 b2 b3
      rw [a1 111 (by omega) (by omega), ← I.t.1]
      exact ih_same rfl (K _ J)

theorem ih_2_tape {t t2 : ih_S} (I : ih_I t) (h0 : ∀ j, j ≠ 80 → j ≠ 111 → t2 j = t j) (h1 : ∀ g : Int, g ≠ 12 → t2 111 g = t 111 g) (h2 : t2 80 2 = 0) (h3 : t2 111 12 = 0) : ih_I t2 := by
  refine ih_I_of (ih_Iw_eq I.w (fun j h => ?_)) (ih_Ik_eq I.k (fun j h => ?_) ?_) (ih_If_eq I.f ?_ ?_) ⟨?_, ?_, fun k k0 k1 => ?_⟩ (ih_Is_eq I.s (fun j h => ?_))
  · exact h0 j (by omega) (by omega)
  · exact h0 j (by omega) (by omega)
  · exact h1 4 (by omega)
  · exact h0 84 (by omega) (by omega)
  · exact h0 115 (by omega) (by omega)
  · rw [h2, h3]
  · rw [h2]
    exact ⟨by omega, by omega⟩
  · exfalso
    omega
  · exact h0 j (by omega) (by omega)

set_option maxRecDepth 40000 in
theorem law_wipe {X : List Int} {t : ih_S} {i : Int} {Q : Option xa_V → ih_S → Prop} (I : ih_I t) (hx : ∀ j, xa_rI (ih_xs X j)) (h0 : 0 ≤ i) (h1 : i + 6 ≤ (X.length : Int)) (h2 : X.length ≤ 3072) (K : ∀ t2, ih_I t2 → ih_Wp X 219 1281 [xC 2, xR 0, xR 111, xI i] [] t2 Q) : ih_Wp X 219 943 [xC 2, xR 0, xR 111, xI i] [] t Q := by
  refine ih_seg (i1 := 944) 1 rfl ?_
  refine ih_iv0 88 rfl rfl (by first | rfl | exact ih_kP (ih_P_w0 hc) |  exact ih_kP (by assumption) | exact ih_kC (by assumption) | exact ih_kN (by assumption) | exact ih_kS (by assumption) | exact ih_kW (by assumption)) (Nat.le_of_ble_eq_true rfl) (Nat.le_of_ble_eq_true rfl) rfl ?_
  refine c_op_wipe ?_
  refine ih_seg (i1 := 946) 1 rfl ?_
  refine ih_iv0 181 rfl rfl (by first | rfl | exact ih_kP (ih_P_w0 hc) |  exact ih_kP (by assumption) | exact ih_kC (by assumption) | exact ih_kN (by assumption) | exact ih_kS (by assumption) | exact ih_kW (by assumption)) (Nat.le_of_ble_eq_true rfl) (Nat.le_of_ble_eq_true rfl) rfl ?_
  refine r_op_wipe ?_
  rw [ih_up_ne (by omega), ← I.t.1]
  refine ih_same rfl (K _ (ih_2_tape I (fun j a b => ?_) (fun g a => ?_) ?_ ?_))
  · rw [ih_up_ne b, ih_up_ne a]
  · rw [ih_up_eq, ih_u1_ne a, ih_up_ne (by omega)]
  · rw [ih_up_ne (by omega), ih_up_eq, ih_u1_eq]
  · rw [ih_up_eq, ih_u1_eq]

theorem ih_2_text {t t1 t2 : ih_S} (I : ih_I t) (a1 : ih_tf t t1) (a2 : t1 80 2 = 0) (a3 : ih_Wr t1 1 (g_text (t 81) (t 80 2) (t 112))) (a4 : ih_Gd (g_text (t 81) (t 80 2) (t 112))) (b1 : ∀ j, j ≠ 111 → j ≠ 112 → j ≠ 114 → t2 j = t1 j) (b2 : ∀ g : Int, g < 12 ∨ 16 < g → t2 111 g = t1 111 g) (b3 : t2 111 12 = 0) (b4 : ∀ x : Int, 0 ≤ x → x < 228 → t2 112 x = g_text (t 81) (t 80 2) (t 112) x) : ih_I t2 := by
  refine ih_I_of ⟨?_, ?_⟩ (ih_Ik_eq I.k (fun j h => ?_) ?_) (ih_If_eq I.f ?_ ?_) ⟨?_, ?_, fun k k0 k1 => ?_⟩ (ih_Is_eq I.s (fun j h => ?_))
  · exact ih_Wr_of (ih_Wr_cg a4 a3 b4) (fun j x y => b1 j (by omega) (by omega) (by omega))
  · exact ih_Gd_cg a4 b4
  · rw [b1 j (by omega) (by omega) (by omega), a1 j (by omega)]
  · rw [b2 4 (by omega), a1 111 (by omega)]
  · rw [b1 84 (by omega) (by omega) (by omega), a1 84 (by omega)]
  · rw [b1 115 (by omega) (by omega) (by omega), a1 115 (by omega)]
  · rw [b1 80 (by omega) (by omega) (by omega), a2, b3]
  · rw [b1 80 (by omega) (by omega) (by omega), a2]
    exact ⟨by omega, by omega⟩
  · exfalso
    rw [b1 80 (by omega) (by omega) (by omega)] at k1
    omega
  · rw [b1 j (by omega) (by omega) (by omega), a1 j (by omega)]
theorem ih_BT_I {t : ih_S} (I : ih_I t) : ih_BT t (t 81) (t 80 2) := ⟨I.t.2.1, fun k k0 k1 => ⟨rfl, (I.t.2.2 k k0 k1).2⟩⟩
theorem ih_BR_I {t t1 : ih_S} (I : ih_I t) (a : ih_tf t t1) : ih_BR t1 (t 81) (t 80 2) := ⟨by rw [a 111 (by omega)]; exact I.t.1.symm, I.t.2.1, fun k k0 k1 => ⟨by rw [a 117 (by omega)]; exact (I.t.2.2 k k0 k1).1.symm, (I.t.2.2 k k0 k1).2⟩⟩

set_option maxRecDepth 40000 in
theorem law_text {X : List Int} {t : ih_S} {i : Int} {Q : Option xa_V → ih_S → Prop} (I : ih_I t) (hx : ∀ j, xa_rI (ih_xs X j)) (h0 : 0 ≤ i) (h1 : i + 6 ≤ (X.length : Int)) (h2 : X.length ≤ 3072) (K : ∀ t2, ih_I t2 → ih_Wp X 219 1281 [xC 2, xR 0, xR 111, xI i] [] t2 Q) : ih_Wp X 219 950 [xC 2, xR 0, xR 111, xI i] [] t Q := by
  refine ih_seg (i1 := 951) 1 rfl ?_
  refine ih_iv0 89 rfl rfl (by first | rfl | exact ih_kP (ih_P_w0 hc) |  exact ih_kP (by assumption) | exact ih_kC (by assumption) | exact ih_kN (by assumption) | exact ih_kS (by assumption) | exact ih_kW (by assumption)) (Nat.le_of_ble_eq_true rfl) (Nat.le_of_ble_eq_true rfl) rfl ?_
  refine c_op_text (ih_BT_I I) rfl I.1.1 I.1.2 (fun t1 a1 a2 a3 a4 => ?_)
  have E := a1 112 (by omega)
  refine ih_seg (i1 := 953) 1 rfl ?_
  refine ih_iv0 194 rfl rfl (by first | rfl | exact ih_kP (ih_P_w0 hc) |  exact ih_kP (by assumption) | exact ih_kC (by assumption) | exact ih_kN (by assumption) | exact ih_kS (by assumption) | exact ih_kW (by assumption)) (Nat.le_of_ble_eq_true rfl) (Nat.le_of_ble_eq_true rfl) rfl ?_
  refine r_op_text (ih_BR_I I a1) (by rw [E]; exact I.1.2) ?_
  rw [E]
  refine fun t2 b1 b2 b3 b4 => ?_
  exact ih_same rfl (K _ (ih_2_text I a1 a2 a3 a4 b1 b2 b3 b4))

set_option maxRecDepth 40000 in
theorem law_sheet {X : List Int} {t : ih_S} {i : Int} {Q : Option xa_V → ih_S → Prop} (I : ih_I t) (hx : ∀ j, xa_rI (ih_xs X j)) (h0 : 0 ≤ i) (h1 : i + 6 ≤ (X.length : Int)) (h2 : X.length ≤ 3072) (K : ∀ t2, ih_I t2 → ih_Wp X 219 1281 [xC 2, xR 0, xR 111, xI i] [] t2 Q) : ih_Wp X 219 1021 [xC 2, xR 0, xR 111, xI i] [] t Q := by
  refine ih_seg (i1 := 1026) 5 rfl ?_
  try dsimp only
  refine ih_cald rfl rfl (by omega) (by omega) (by omega) (ih_xg (by omega) (by omega)) ?_
  refine ih_seg (i1 := 1031) 4 rfl ?_
  try dsimp only
  refine ih_cald rfl rfl (by omega) (by omega) (by omega) (ih_xg (by omega) (by omega)) ?_
  refine ih_seg (i1 := 1036) 4 rfl ?_
  try dsimp only
  refine ih_cald rfl rfl (by omega) (by omega) (by omega) (ih_xg (by omega) (by omega)) ?_
  refine ih_iv3 92 rfl rfl (by first | rfl | exact ih_kP (ih_P_w0 hc) |  exact ih_kP (by assumption) | exact ih_kC (by assumption) | exact ih_kN (by assumption) | exact ih_kS (by assumption) | exact ih_kW (by assumption)) (Nat.le_of_ble_eq_true rfl) (Nat.le_of_ble_eq_true rfl) rfl ?_
  refine c_op_sheet (hx _) (hx _) (hx _) I.s.1 I.s.2 ?_
  refine ih_shC_i (fun v1 t1 H1 => ?_)
  have E1 := ih_xC_ge H1 118 (by omega)
  have E2 := ih_xC_ge H1 119 (by omega)
  have E3 := ih_xC_ge H1 120 (by omega)
  refine ih_seg (i1 := 1043) 5 rfl ?_
  try dsimp only
  refine ih_cald rfl rfl (by omega) (by omega) (by omega) (ih_xg (by omega) (by omega)) ?_
  refine ih_seg (i1 := 1048) 4 rfl ?_
  try dsimp only
  refine ih_cald rfl rfl (by omega) (by omega) (by omega) (ih_xg (by omega) (by omega)) ?_
  refine ih_seg (i1 := 1053) 4 rfl ?_
  try dsimp only
  refine ih_cald rfl rfl (by omega) (by omega) (by omega) (ih_xg (by omega) (by omega)) ?_
  refine ih_iv3 199 rfl rfl (by first | rfl | exact ih_kP (ih_P_w0 hc) |  exact ih_kP (by assumption) | exact ih_kC (by assumption) | exact ih_kN (by assumption) | exact ih_kS (by assumption) | exact ih_kW (by assumption)) (Nat.le_of_ble_eq_true rfl) (Nat.le_of_ble_eq_true rfl) rfl ?_
  refine r_op_sheet (hx _) (hx _) (hx _) ?_
  rw [E1, E2, E3]
  refine ih_shR_i (fun v2 t2 H2 => ?_)
  obtain ⟨ev, I2⟩ := ih_sh2 I (ih_g_sheet I.s.2) H1 H2
  subst ev
  exact ih_same rfl (K _ I2)

set_option maxRecDepth 40000 in
theorem law_put {X : List Int} {t : ih_S} {i : Int} {Q : Option xa_V → ih_S → Prop} (I : ih_I t) (hx : ∀ j, xa_rI (ih_xs X j)) (h0 : 0 ≤ i) (h1 : i + 6 ≤ (X.length : Int)) (h2 : X.length ≤ 3072) (K : ∀ t2, ih_I t2 → ih_Wp X 219 1281 [xC 2, xR 0, xR 111, xI i] [] t2 Q) : ih_Wp X 219 1058 [xC 2, xR 0, xR 111, xI i] [] t Q := by
  refine ih_seg (i1 := 1063) 5 rfl ?_
  try dsimp only
  refine ih_cald rfl rfl (by omega) (by omega) (by omega) (ih_xg (by omega) (by omega)) ?_
  refine ih_seg (i1 := 1068) 4 rfl ?_
  try dsimp only
  refine ih_cald rfl rfl (by omega) (by omega) (by omega) (ih_xg (by omega) (by omega)) ?_
  refine ih_seg (i1 := 1073) 4 rfl ?_
  try dsimp only
  refine ih_cald rfl rfl (by omega) (by omega) (by omega) (ih_xg (by omega) (by omega)) ?_
  refine ih_iv3 93 rfl rfl (by first | rfl | exact ih_kP (ih_P_w0 hc) |  exact ih_kP (by assumption) | exact ih_kC (by assumption) | exact ih_kN (by assumption) | exact ih_kS (by assumption) | exact ih_kW (by assumption)) (Nat.le_of_ble_eq_true rfl) (Nat.le_of_ble_eq_true rfl) rfl ?_
  refine c_op_put (hx _) (hx _) (hx _) I.s.1 I.s.2 ?_
  refine ih_shC_i (fun v1 t1 H1 => ?_)
  have E1 := ih_xC_ge H1 118 (by omega)
  have E2 := ih_xC_ge H1 119 (by omega)
  have E3 := ih_xC_ge H1 120 (by omega)
  refine ih_seg (i1 := 1080) 5 rfl ?_
  try dsimp only
  refine ih_cald rfl rfl (by omega) (by omega) (by omega) (ih_xg (by omega) (by omega)) ?_
  refine ih_seg (i1 := 1085) 4 rfl ?_
  try dsimp only
  refine ih_cald rfl rfl (by omega) (by omega) (by omega) (ih_xg (by omega) (by omega)) ?_
  refine ih_seg (i1 := 1090) 4 rfl ?_
  try dsimp only
  refine ih_cald rfl rfl (by omega) (by omega) (by omega) (ih_xg (by omega) (by omega)) ?_
  refine ih_iv3 202 rfl rfl (by first | rfl | exact ih_kP (ih_P_w0 hc) |  exact ih_kP (by assumption) | exact ih_kC (by assumption) | exact ih_kN (by assumption) | exact ih_kS (by assumption) | exact ih_kW (by assumption)) (Nat.le_of_ble_eq_true rfl) (Nat.le_of_ble_eq_true rfl) rfl ?_
  refine r_op_put (hx _) (hx _) (hx _) (by rw [E1, E2, E3]; exact I.s.2) ?_
  rw [E1, E2, E3]
  refine ih_shR_i (fun v2 t2 H2 => ?_)
  obtain ⟨ev, I2⟩ := ih_sh2 I (fun _ _ => ih_g_put (hx _) I.s.2) H1 H2
  subst ev
  exact ih_same rfl (K _ I2)

set_option maxRecDepth 40000 in
theorem law_copy {X : List Int} {t : ih_S} {i : Int} {Q : Option xa_V → ih_S → Prop} (I : ih_I t) (hx : ∀ j, xa_rI (ih_xs X j)) (h0 : 0 ≤ i) (h1 : i + 6 ≤ (X.length : Int)) (h2 : X.length ≤ 3072) (K : ∀ t2, ih_I t2 → ih_Wp X 219 1281 [xC 2, xR 0, xR 111, xI i] [] t2 Q) : ih_Wp X 219 1095 [xC 2, xR 0, xR 111, xI i] [] t Q := by
  refine ih_seg (i1 := 1100) 5 rfl ?_
  try dsimp only
  refine ih_cald rfl rfl (by omega) (by omega) (by omega) (ih_xg (by omega) (by omega)) ?_
  refine ih_seg (i1 := 1105) 4 rfl ?_
  try dsimp only
  refine ih_cald rfl rfl (by omega) (by omega) (by omega) (ih_xg (by omega) (by omega)) ?_
  refine ih_seg (i1 := 1110) 4 rfl ?_
  try dsimp only
  refine ih_cald rfl rfl (by omega) (by omega) (by omega) (ih_xg (by omega) (by omega)) ?_
  refine ih_seg (i1 := 1115) 4 rfl ?_
  try dsimp only
  refine ih_cald rfl rfl (by omega) (by omega) (by omega) (ih_xg (by omega) (by omega)) ?_
  refine ih_seg (i1 := 1120) 4 rfl ?_
  try dsimp only
  refine ih_cald rfl rfl (by omega) (by omega) (by omega) (ih_xg (by omega) (by omega)) ?_
  refine ih_iv5 94 rfl rfl (by first | rfl | exact ih_kP (ih_P_w0 hc) |  exact ih_kP (by assumption) | exact ih_kC (by assumption) | exact ih_kN (by assumption) | exact ih_kS (by assumption) | exact ih_kW (by assumption)) (Nat.le_of_ble_eq_true rfl) (Nat.le_of_ble_eq_true rfl) rfl ?_
  refine c_op_copy (hx _) (hx _) (hx _) (hx _) (hx _) I.s.1 I.s.2 ?_
  refine ih_shC_i (fun v1 t1 H1 => ?_)
  have E1 := ih_xC_ge H1 118 (by omega)
  have E2 := ih_xC_ge H1 119 (by omega)
  have E3 := ih_xC_ge H1 120 (by omega)
  refine ih_seg (i1 := 1127) 5 rfl ?_
  try dsimp only
  refine ih_cald rfl rfl (by omega) (by omega) (by omega) (ih_xg (by omega) (by omega)) ?_
  refine ih_seg (i1 := 1132) 4 rfl ?_
  try dsimp only
  refine ih_cald rfl rfl (by omega) (by omega) (by omega) (ih_xg (by omega) (by omega)) ?_
  refine ih_seg (i1 := 1137) 4 rfl ?_
  try dsimp only
  refine ih_cald rfl rfl (by omega) (by omega) (by omega) (ih_xg (by omega) (by omega)) ?_
  refine ih_seg (i1 := 1142) 4 rfl ?_
  try dsimp only
  refine ih_cald rfl rfl (by omega) (by omega) (by omega) (ih_xg (by omega) (by omega)) ?_
  refine ih_seg (i1 := 1147) 4 rfl ?_
  try dsimp only
  refine ih_cald rfl rfl (by omega) (by omega) (by omega) (ih_xg (by omega) (by omega)) ?_
  refine ih_iv5 203 rfl rfl (by first | rfl | exact ih_kP (ih_P_w0 hc) |  exact ih_kP (by assumption) | exact ih_kC (by assumption) | exact ih_kN (by assumption) | exact ih_kS (by assumption) | exact ih_kW (by assumption)) (Nat.le_of_ble_eq_true rfl) (Nat.le_of_ble_eq_true rfl) rfl ?_
  refine r_op_copy (hx _) (hx _) (hx _) (hx _) (hx _) (by rw [E1, E2, E3]; exact I.s.2) ?_
  rw [E1, E2, E3]
  refine ih_shR_i (fun v2 t2 H2 => ?_)
  obtain ⟨ev, I2⟩ := ih_sh2 I (ih_g_copy I.s.2) H1 H2
  subst ev
  exact ih_same rfl (K _ I2)

set_option maxRecDepth 40000 in
theorem law_judge {X : List Int} {t : ih_S} {i : Int} {Q : Option xa_V → ih_S → Prop} (I : ih_I t) (hx : ∀ j, xa_rI (ih_xs X j)) (h0 : 0 ≤ i) (h1 : i + 6 ≤ (X.length : Int)) (h2 : X.length ≤ 3072) (K : ∀ t2, ih_I t2 → ih_Wp X 219 1281 [xC 2, xR 0, xR 111, xI i] [] t2 Q) : ih_Wp X 219 1189 [xC 2, xR 0, xR 111, xI i] [] t Q := by
  refine ih_seg (i1 := 1194) 5 rfl ?_
  try dsimp only
  refine ih_cald rfl rfl (by omega) (by omega) (by omega) (ih_xg (by omega) (by omega)) ?_
  refine ih_seg (i1 := 1199) 4 rfl ?_
  try dsimp only
  refine ih_cald rfl rfl (by omega) (by omega) (by omega) (ih_xg (by omega) (by omega)) ?_
  refine ih_seg (i1 := 1204) 4 rfl ?_
  try dsimp only
  refine ih_cald rfl rfl (by omega) (by omega) (by omega) (ih_xg (by omega) (by omega)) ?_
  refine ih_iv3 96 rfl rfl (by first | rfl | exact ih_kP (ih_P_w0 hc) |  exact ih_kP (by assumption) | exact ih_kC (by assumption) | exact ih_kN (by assumption) | exact ih_kS (by assumption) | exact ih_kW (by assumption)) (Nat.le_of_ble_eq_true rfl) (Nat.le_of_ble_eq_true rfl) rfl ?_
  refine c_op_judge (hx _) (hx _) (hx _) I.s.1 I.s.2 I.1.1 I.1.2 ?_
  refine ih_roC_i (fun v1 t1 H1 => ?_)
  have E := ih_hC_112 H1
  have E1 := ih_hC_ge H1 118 (by omega)
  have E2 := ih_hC_ge H1 119 (by omega)
  have E3 := ih_hC_ge H1 120 (by omega)
  refine ih_seg (i1 := 1211) 5 rfl ?_
  try dsimp only
  refine ih_cald rfl rfl (by omega) (by omega) (by omega) (ih_xg (by omega) (by omega)) ?_
  refine ih_seg (i1 := 1216) 4 rfl ?_
  try dsimp only
  refine ih_cald rfl rfl (by omega) (by omega) (by omega) (ih_xg (by omega) (by omega)) ?_
  refine ih_seg (i1 := 1221) 4 rfl ?_
  try dsimp only
  refine ih_cald rfl rfl (by omega) (by omega) (by omega) (ih_xg (by omega) (by omega)) ?_
  refine ih_iv3 205 rfl rfl (by first | rfl | exact ih_kP (ih_P_w0 hc) |  exact ih_kP (by assumption) | exact ih_kC (by assumption) | exact ih_kN (by assumption) | exact ih_kS (by assumption) | exact ih_kW (by assumption)) (Nat.le_of_ble_eq_true rfl) (Nat.le_of_ble_eq_true rfl) rfl ?_
  refine r_op_judge (hx _) (hx _) (hx _) (by rw [E]; exact I.1.2) (by rw [E1, E2, E3]; exact I.s.2) ?_
  rw [E, E1, E2, E3]
  refine ih_roR_i (fun v2 t2 H2 => ?_)
  obtain ⟨ev, I2⟩ := ih_ro2 I H1 H2
  subst ev
  exact ih_same rfl (K _ I2)

theorem ih_2_image {t t1 t2 : ih_S} (I : ih_I t) (a1 : ∀ j, j ≠ 0 → ¬ (27 ≤ j ∧ j < 53) → t1 j = t j) (a2 : t1 0 10 = 1) (a3 : ih_Wr t1 27 (t 112)) (b1 : ∀ j, j ≠ 113 → j ≠ 111 → t2 j = t1 j) (b2 : t2 113 = (fun x : Int => if 0 ≤ x ∧ x < 228 then t1 112 x else t1 113 x)) (b3 : t2 111 4 = 1 ∧ ∀ f : Int, f ≠ 4 → t2 111 f = t1 111 f) : ih_I t2 := by
  have c : ∀ x : Int, 0 ≤ x → x < 228 → t2 113 x = t 112 x := fun x x0 x1 => by
    rw [b2]
    try dsimp only
    rw [if_pos ⟨x0, x1⟩, a1 112 (by omega) (by omega)]
  refine ih_I_of (ih_Iw_eq I.w (fun j h => ?_)) (Or.inr ⟨⟨?_, b3.1⟩, ?_, ?_⟩) (ih_If_eq I.f ?_ ?_) (ih_It_eq I.t (fun j h => ?_) ?_) (ih_Is_eq I.s (fun j h => ?_))
  · rw [b1 j (by omega) (by omega), a1 j (by omega) (by omega)]
  · rw [b1 0 (by omega) (by omega)]
    exact a2
  · exact ih_Wr_of (ih_Wr_cg I.1.2 a3 c) (fun j x y => b1 j (by omega) (by omega))
  · exact ih_Gd_cg I.1.2 c
  · rw [b1 84 (by omega) (by omega), a1 84 (by omega) (by omega)]
  · rw [b1 115 (by omega) (by omega), a1 115 (by omega) (by omega)]
  · rw [b1 j (by omega) (by omega), a1 j (by omega) (by omega)]
  · rw [b3.2 12 (by omega), a1 111 (by omega) (by omega)]
  · rw [b1 j (by omega) (by omega), a1 j (by omega) (by omega)]

set_option maxRecDepth 40000 in
theorem law_image {X : List Int} {t : ih_S} {i : Int} {Q : Option xa_V → ih_S → Prop} (I : ih_I t) (hx : ∀ j, xa_rI (ih_xs X j)) (h0 : 0 ≤ i) (h1 : i + 6 ≤ (X.length : Int)) (h2 : X.length ≤ 3072) (K : ∀ t2, ih_I t2 → ih_Wp X 219 1281 [xC 2, xR 0, xR 111, xI i] [] t2 Q) : ih_Wp X 219 1226 [xC 2, xR 0, xR 111, xI i] [] t Q := by
  refine ih_seg (i1 := 1227) 1 rfl ?_
  refine ih_iv0 97 rfl rfl (by first | rfl | exact ih_kP (ih_P_w0 hc) |  exact ih_kP (by assumption) | exact ih_kC (by assumption) | exact ih_kN (by assumption) | exact ih_kS (by assumption) | exact ih_kW (by assumption)) (Nat.le_of_ble_eq_true rfl) (Nat.le_of_ble_eq_true rfl) rfl ?_
  refine c_op_image I.1.1 I.1.2 (fun t1 a1 a2 a3 => ?_)
  refine ih_seg (i1 := 1229) 1 rfl ?_
  refine ih_iv0 206 rfl rfl (by first | rfl | exact ih_kP (ih_P_w0 hc) |  exact ih_kP (by assumption) | exact ih_kC (by assumption) | exact ih_kN (by assumption) | exact ih_kS (by assumption) | exact ih_kW (by assumption)) (Nat.le_of_ble_eq_true rfl) (Nat.le_of_ble_eq_true rfl) rfl ?_
  refine r_op_image (fun t2 b1 b2 b3 => ?_)
  exact ih_same rfl (K _ (ih_2_image I a1 a2 a3 b1 b2 b3))

theorem ih_2_undo {t t1 t2 : ih_S} (I : ih_I t) (h : t 0 10 = 1) (a1 : ∀ j, ¬ (1 ≤ j ∧ j < 27) → t1 j = t j) (a2 : ih_Wr t1 1 (t 113)) (b1 : ∀ j, j ≠ 112 → t2 j = t1 j) (b2 : t2 112 = (fun x : Int => if 0 ≤ x ∧ x < 228 then t1 113 x else t1 112 x)) : t2 112 0 = t 113 0 ∧ ih_I t2 := by
  have c : ∀ x : Int, 0 ≤ x → x < 228 → t2 112 x = t 113 x := fun x x0 x1 => by
    rw [b2]
    try dsimp only
    rw [if_pos ⟨x0, x1⟩, a1 113 (by omega)]
  have G : ih_Gd (t 113) := by
    rcases I.k with k | ⟨k, W2, G2⟩
    · exfalso
      omega
    · exact G2
  refine ⟨c 0 (by omega) (by omega), ih_I_of ⟨?_, ?_⟩ (ih_Ik_eq I.k (fun j h => ?_) ?_) (ih_If_eq I.f ?_ ?_) (ih_It_eq I.t (fun j h => ?_) ?_) (ih_Is_eq I.s (fun j h => ?_))⟩
  · exact ih_Wr_of (ih_Wr_cg G a2 c) (fun j x y => b1 j (by omega))
  · exact ih_Gd_cg G c
  · rw [b1 j (by omega), a1 j (by omega)]
  · rw [b1 111 (by omega), a1 111 (by omega)]
  · rw [b1 84 (by omega), a1 84 (by omega)]
  · rw [b1 115 (by omega), a1 115 (by omega)]
  · rw [b1 j (by omega), a1 j (by omega)]
  · rw [b1 111 (by omega), a1 111 (by omega)]
  · rw [b1 j (by omega), a1 j (by omega)]

set_option maxRecDepth 40000 in
theorem law_undo {X : List Int} {t : ih_S} {i : Int} {Q : Option xa_V → ih_S → Prop} (I : ih_I t) (hx : ∀ j, xa_rI (ih_xs X j)) (h0 : 0 ≤ i) (h1 : i + 6 ≤ (X.length : Int)) (h2 : X.length ≤ 3072) (K : ∀ t2, ih_I t2 → ih_Wp X 219 1281 [xC 2, xR 0, xR 111, xI i] [] t2 Q) : ih_Wp X 219 1233 [xC 2, xR 0, xR 111, xI i] [] t Q := by
  rcases I.k with k | ⟨k, W2, G2⟩
  · refine ih_seg (i1 := 1234) 1 rfl ?_
    refine ih_iv0 98 rfl rfl (by first | rfl | exact ih_kP (ih_P_w0 hc) |  exact ih_kP (by assumption) | exact ih_kC (by assumption) | exact ih_kN (by assumption) | exact ih_kS (by assumption) | exact ih_kW (by assumption)) (Nat.le_of_ble_eq_true rfl) (Nat.le_of_ble_eq_true rfl) rfl ?_
    refine c_op_undo0 k.1 ?_
    refine ih_seg (i1 := 1236) 1 rfl ?_
    refine ih_iv0 207 rfl rfl (by first | rfl | exact ih_kP (ih_P_w0 hc) |  exact ih_kP (by assumption) | exact ih_kC (by assumption) | exact ih_kN (by assumption) | exact ih_kS (by assumption) | exact ih_kW (by assumption)) (Nat.le_of_ble_eq_true rfl) (Nat.le_of_ble_eq_true rfl) rfl ?_
    refine r_op_undo0 (by rw [ih_up_ne (by omega)]; exact k.2) ?_
    exact ih_same rfl (K _ (ih_ro2 (r := .inr 3) I ⟨rfl, ih_sc_r _⟩ ⟨rfl, ih_rr_r _⟩).2)
  · refine ih_seg (i1 := 1234) 1 rfl ?_
    refine ih_iv0 98 rfl rfl (by first | rfl | exact ih_kP (ih_P_w0 hc) |  exact ih_kP (by assumption) | exact ih_kC (by assumption) | exact ih_kN (by assumption) | exact ih_kS (by assumption) | exact ih_kW (by assumption)) (Nat.le_of_ble_eq_true rfl) (Nat.le_of_ble_eq_true rfl) rfl ?_
    refine c_op_undo k.1 W2 G2 (fun t1 a1 a2 => ?_)
    refine ih_seg (i1 := 1236) 1 rfl ?_
    refine ih_iv0 207 rfl rfl (by first | rfl | exact ih_kP (ih_P_w0 hc) |  exact ih_kP (by assumption) | exact ih_kC (by assumption) | exact ih_kN (by assumption) | exact ih_kS (by assumption) | exact ih_kW (by assumption)) (Nat.le_of_ble_eq_true rfl) (Nat.le_of_ble_eq_true rfl) rfl ?_
    refine r_op_undo (by rw [a1 111 (by omega)]; exact k.2) (fun t2 b1 b2 => ?_)
    obtain ⟨ev, I2⟩ := ih_2_undo I k.1 a1 a2 b1 b2
    rw [ev]
    exact ih_same rfl (K _ I2)

theorem ih_2_tear {t : ih_S} (I : ih_I t) : ih_I (ih_up (ih_up t 0 10 0) 111 4 0) := by
  refine ih_I_of (ih_Iw_eq I.w (fun j h => ?_)) (Or.inl ⟨?_, ?_⟩) (ih_If_eq I.f ?_ ?_) (ih_It_eq I.t (fun j h => ?_) ?_) (ih_Is_eq I.s (fun j h => ?_))
  · rw [ih_up_ne (by omega), ih_up_ne (by omega)]
  · rw [ih_up_ne (by omega), ih_up_eq, ih_u1_eq]
  · rw [ih_up_eq, ih_u1_eq]
  · rw [ih_up_ne (by omega), ih_up_ne (by omega)]
  · rw [ih_up_ne (by omega), ih_up_ne (by omega)]
  · rw [ih_up_ne (by omega), ih_up_ne (by omega)]
  · rw [ih_up_eq, ih_u1_ne (by omega), ih_up_ne (by omega)]
  · rw [ih_up_ne (by omega), ih_up_ne (by omega)]
theorem ih_I.kk {t : ih_S} (I : ih_I t) : t 111 4 = t 0 10 ∧ (t 0 10 = 0 ∨ t 0 10 = 1) := by
  rcases I.k with k | ⟨k, W2, G2⟩
  · exact ⟨by omega, by omega⟩
  · exact ⟨by omega, by omega⟩

set_option maxRecDepth 40000 in
theorem law_tear {X : List Int} {t : ih_S} {i : Int} {Q : Option xa_V → ih_S → Prop} (I : ih_I t) (hx : ∀ j, xa_rI (ih_xs X j)) (h0 : 0 ≤ i) (h1 : i + 6 ≤ (X.length : Int)) (h2 : X.length ≤ 3072) (K : ∀ t2, ih_I t2 → ih_Wp X 219 1281 [xC 2, xR 0, xR 111, xI i] [] t2 Q) : ih_Wp X 219 1240 [xC 2, xR 0, xR 111, xI i] [] t Q := by
  refine ih_seg (i1 := 1241) 1 rfl ?_
  refine ih_iv0 99 rfl rfl (by first | rfl | exact ih_kP (ih_P_w0 hc) |  exact ih_kP (by assumption) | exact ih_kC (by assumption) | exact ih_kN (by assumption) | exact ih_kS (by assumption) | exact ih_kW (by assumption)) (Nat.le_of_ble_eq_true rfl) (Nat.le_of_ble_eq_true rfl) rfl ?_
  refine c_op_tear I.kk.2 ?_
  refine ih_seg (i1 := 1243) 1 rfl ?_
  refine ih_iv0 208 rfl rfl (by first | rfl | exact ih_kP (ih_P_w0 hc) |  exact ih_kP (by assumption) | exact ih_kC (by assumption) | exact ih_kN (by assumption) | exact ih_kS (by assumption) | exact ih_kW (by assumption)) (Nat.le_of_ble_eq_true rfl) (Nat.le_of_ble_eq_true rfl) rfl ?_
  refine r_op_tear (by rw [ih_up_ne (by omega), I.kk.1]; exact I.kk.2) ?_
  rw [ih_up_ne (by omega), I.kk.1]
  exact ih_same rfl (K _ (ih_2_tear I))

set_option maxRecDepth 40000 in
theorem law_count {X : List Int} {t : ih_S} {i : Int} {Q : Option xa_V → ih_S → Prop} (I : ih_I t) (hx : ∀ j, xa_rI (ih_xs X j)) (h0 : 0 ≤ i) (h1 : i + 6 ≤ (X.length : Int)) (h2 : X.length ≤ 3072) (K : ∀ t2, ih_I t2 → ih_Wp X 219 1281 [xC 2, xR 0, xR 111, xI i] [] t2 Q) : ih_Wp X 219 1247 [xC 2, xR 0, xR 111, xI i] [] t Q := by
  refine ih_seg (i1 := 1252) 5 rfl ?_
  try dsimp only
  refine ih_cald rfl rfl (by omega) (by omega) (by omega) (ih_xg (by omega) (by omega)) ?_
  refine ih_iv1 100 rfl rfl (by first | rfl | exact ih_kP (ih_P_w0 hc) |  exact ih_kP (by assumption) | exact ih_kC (by assumption) | exact ih_kN (by assumption) | exact ih_kS (by assumption) | exact ih_kW (by assumption)) (Nat.le_of_ble_eq_true rfl) (Nat.le_of_ble_eq_true rfl) rfl ?_
  refine c_op_count (hx _) I.1.1 I.1.2 ?_
  rw [I.t.1]
  refine ih_roC_i (fun v1 t1 H1 => ?_)
  have E := ih_hC_112 H1
  have E1 := ih_hC_ge H1 111 (by omega)
  refine ih_seg (i1 := 1259) 5 rfl ?_
  try dsimp only
  refine ih_cald rfl rfl (by omega) (by omega) (by omega) (ih_xg (by omega) (by omega)) ?_
  refine ih_iv1 209 rfl rfl (by first | rfl | exact ih_kP (ih_P_w0 hc) |  exact ih_kP (by assumption) | exact ih_kC (by assumption) | exact ih_kN (by assumption) | exact ih_kS (by assumption) | exact ih_kW (by assumption)) (Nat.le_of_ble_eq_true rfl) (Nat.le_of_ble_eq_true rfl) rfl ?_
  refine r_op_count (hx _) (by rw [E]; exact I.1.2) ?_
  rw [E, E1]
  refine ih_roR_i (fun v2 t2 H2 => ?_)
  obtain ⟨ev, I2⟩ := ih_ro2 I H1 H2
  subst ev
  exact ih_same rfl (K _ I2)

theorem ih_status_eq {f g : Int → Int} {a : Int} (h : ∀ j : Int, 0 ≤ j → j < 7 → f j = g j) : f_status f a = f_status g a := by
  unfold f_status
  have e : ih_sum (fun i : Nat => f i) 7 = ih_sum (fun i : Nat => g i) 7 := ih_sum_congr (fun k hk => h k (by omega) (by omega))
  by_cases q : -1 ≤ a ∧ a < 7
  · rw [if_pos q, if_pos q]
    by_cases q2 : a < 0
    · rw [if_pos q2, if_pos q2, e]
    · rw [if_neg q2, if_neg q2, h a (by omega) (by omega)]
  · rw [if_neg q, if_neg q]
theorem ih_hC_115 {t t1 : ih_S} {r : ih_An} {v : Int} (a : ih_hC t t1 r v) : t1 115 = t 115 := ih_hC_ge a 115 (by omega)

set_option maxRecDepth 40000 in
theorem law_status {X : List Int} {t : ih_S} {i : Int} {Q : Option xa_V → ih_S → Prop} (I : ih_I t) (hx : ∀ j, xa_rI (ih_xs X j)) (h0 : 0 ≤ i) (h1 : i + 6 ≤ (X.length : Int)) (h2 : X.length ≤ 3072) (K : ∀ t2, ih_I t2 → ih_Wp X 219 1281 [xC 2, xR 0, xR 111, xI i] [] t2 Q) : ih_Wp X 219 1264 [xC 2, xR 0, xR 111, xI i] [] t Q := by
  refine ih_seg (i1 := 1269) 5 rfl ?_
  try dsimp only
  refine ih_cald rfl rfl (by omega) (by omega) (by omega) (ih_xg (by omega) (by omega)) ?_
  refine ih_iv1 101 rfl rfl (by first | rfl | exact ih_kP (ih_P_w0 hc) |  exact ih_kP (by assumption) | exact ih_kC (by assumption) | exact ih_kN (by assumption) | exact ih_kS (by assumption) | exact ih_kW (by assumption)) (Nat.le_of_ble_eq_true rfl) (Nat.le_of_ble_eq_true rfl) rfl ?_
  refine c_op_status (hx _) ?_
  rw [ih_status_eq I.f]
  refine ih_roC_i (fun v1 t1 H1 => ?_)
  have E := ih_hC_115 H1
  refine ih_seg (i1 := 1276) 5 rfl ?_
  try dsimp only
  refine ih_cald rfl rfl (by omega) (by omega) (by omega) (ih_xg (by omega) (by omega)) ?_
  refine ih_iv1 210 rfl rfl (by first | rfl | exact ih_kP (ih_P_w0 hc) |  exact ih_kP (by assumption) | exact ih_kC (by assumption) | exact ih_kN (by assumption) | exact ih_kS (by assumption) | exact ih_kW (by assumption)) (Nat.le_of_ble_eq_true rfl) (Nat.le_of_ble_eq_true rfl) rfl ?_
  refine r_op_status (hx _) ?_
  rw [E]
  refine ih_roR_i (fun v2 t2 H2 => ?_)
  obtain ⟨ev, I2⟩ := ih_ro2 I H1 H2
  subst ev
  exact ih_same rfl (K _ I2)
