/-! clerk, feed -/
theorem ih_ushr8 (a : Int) : 0 ≤ xa_ushr a 8 ∧ xa_ushr a 8 < 16777216 := by
  have e : xa_ushr a 8 = ((Int32.ofInt a).toBitVec >>> (8 : Nat)).toInt := rfl
  have h1 : ((Int32.ofInt a).toBitVec >>> (8 : Nat)).toNat = (Int32.ofInt a).toBitVec.toNat / 256 := by
    rw [BitVec.toNat_ushiftRight, Nat.shiftRight_eq_div_pow]
  have h2 := (Int32.ofInt a).toBitVec.isLt
  rw [e, BitVec.toInt_eq_toNat_of_lt (by rw [h1]; omega), h1]
  omega
def ih_zn (s : Int → Int) : Int := s 1 * 1103515245 + 12345
def ih_mk1 (s : Int → Int) (p : Nat) : Int := xa_ushr (ih_zn s) 8 % s (22 + p)
def ih_ck (p : Nat) (ink : Int) : Nat → (Int → Int) → Nat → (Int → Int) × Nat
  | 0, s, v => (s, v)
  | n + 1, s, v => ih_ck p ink n (g_cop (ih_u1 s 1 (ih_zn s)) p (ih_mk1 s p) ink) (v ||| 2 ^ (ih_mk1 s p).toNat)
theorem ih_mk1_rg {s : Int → Int} {p : Nat} (h : 0 < s (22 + p)) : 0 ≤ ih_mk1 s p ∧ ih_mk1 s p < s (22 + p) := ⟨Int.emod_nonneg _ (by omega), Int.emod_lt_of_pos _ h⟩
theorem ih_cop_sz {s : Int → Int} {p p2 : Nat} {m d z : Int} (hp : p2 < 4) (hm : 0 ≤ m) : g_cop (ih_u1 s 1 z) p m d (22 + p2) = s (22 + p2) := by
  unfold g_cop
  rw [ih_u1_ne (by omega), ih_u1_ne (by omega), ih_u1_ne (by omega)]
theorem ih_ck_G {p : Nat} {ink : Int} (hp : p < 4) (hi : 0 ≤ ink ∧ ink < 8) : ∀ (n : Nat) (s : Int → Int) (v : Nat), ih_Gd s → 0 < s (22 + p) → ih_Gd (ih_ck p ink n s v).1
  | 0, s, v, G, h => G
  | n + 1, s, v, G, h => by
    have r := ih_mk1_rg h
    obtain ⟨m, em⟩ := Int.eq_ofNat_of_zero_le r.1
    refine ih_ck_G hp hi n _ _ ?_ (by rw [ih_cop_sz hp r.1]; exact h)
    have G1 := ih_Gu_z (v := ih_zn s) G
    rw [em] at r ⊢
    exact ih_Gu_cop hp (by rw [ih_u1_ne (by omega)]; exact r.2) hi G1
theorem ih_ck_v {p : Nat} {ink : Int} (hp : p < 4) : ∀ (n : Nat) (s : Int → Int) (v : Nat), v < 4096 → 0 < s (22 + p) → s (22 + p) ≤ 12 → (ih_ck p ink n s v).2 < 4096
  | 0, s, v, h, h1, h2 => h
  | n + 1, s, v, h, h1, h2 => by
    have r := ih_mk1_rg h1
    refine ih_ck_v hp n _ _ ?_ (by rw [ih_cop_sz hp r.1]; exact h1) (by rw [ih_cop_sz hp r.1]; exact h2)
    exact Nat.or_lt_two_pow (n := 12) h (Nat.pow_lt_pow_right (by decide) (by omega))
theorem ih_orm {v m : Nat} (hv : v < 4096) (hm : m < 12) : xa_or (v : Int) (xa_shl 1 (m : Int)) = ((v ||| 2 ^ m : Nat) : Int) := by
  have h : 2 ^ m < 4096 := Nat.pow_lt_pow_right (by decide) hm
  rw [ih_shl1 (by omega), ih_or_n (by omega) (by omega)]
def f_clerk (s : Int → Int) (a b d : Int) : ih_An := if (0 ≤ a ∧ a < 4) ∧ (1 ≤ b ∧ b ≤ 12) ∧ 0 ≤ d ∧ d < 8 then (if s (22 + a) = 0 then ih_no 4 else ih_ok1 (ih_ones (ih_ck a.toNat d b.toNat s 0).2)) else ih_no 0

theorem c_draw {X : List Int} {t : ih_S} {Q : Option xa_V → ih_S → Prop} (k : Q (some (xI (xa_ushr (t 1 6 * 1103515245 + 12345) 8))) (ih_up t 1 6 (t 1 6 * 1103515245 + 12345))) : ih_Wp X 57 0 [xR 1] [] t Q := by
  refine ih_seg (i1 := 2) 2 rfl ?_
  refine ih_getI rfl (by first | rfl | exact ih_fW6 (by assumption)) ?_
  refine ih_seg (i1 := 7) 4 rfl ?_
  try dsimp only
  refine ih_putI rfl (by first | rfl | exact ih_fW6 (by assumption)) rfl ?_
  refine ih_seg (i1 := 9) 1 rfl ?_
  refine ih_getI rfl (by first | rfl | exact ih_fW6 (by assumption)) ?_
  refine ih_seg (i1 := 12) 2 rfl ?_
  try dsimp only
  refine ih_ret rfl rfl ?_
  exact ih_Qe (by rw [ih_up_eq, ih_u1_eq]) k


theorem c_clerk_l {X : List Int} {t : ih_S} {y : xa_V} {Q : Option xa_V → ih_S → Prop} {c : Nat} {b ink : Int} (hc : c < 4) (hi : 0 ≤ ink ∧ ink < 8) (hb : 1 ≤ b ∧ b ≤ 12)  : ∀ (d : Nat) (i v : Nat) (x : xa_V) (t1 : ih_S) (s : Int → Int) (W : ih_Wr t1 1 s) (G : ih_Gd s) (hs : 0 < s (22 + c)) (hd : (i : Int) + d = b) (hv : v < 4096) (hf : ih_cf t t1) (K : ∀ t2, ih_Wr t2 1 (ih_ck c ink d s v).1 → ih_cf t t2 → Q (some (xI (ih_ones (ih_ck c ink d s v).2))) t2), ih_Wp X 85 32 [xR 0, y, xI b, xI ink, xR (7 + 5 * c), xI v, xI i, x] [] t1 Q := by
  intro d
  induction d with
  | zero =>
    intro i v x t1 s W G hs hd hv hf K
    have P := ih_PG_W W G hc
    have z := P.sz
    have ez := ih_W_sz W hc
    refine ih_seg (i1 := 34) 2 rfl ?_
    refine ih_icmp_ge rfl (by omega) (by omega) (fun w1 => ?_) (fun w1 => ?_)
    · refine ih_seg (i1 := 63) 1 rfl ?_
      refine ih_is1 211 rfl rfl (Nat.le_of_ble_eq_true rfl) (Nat.le_of_ble_eq_true rfl) rfl ?_
      refine c_bitCount hv ?_
      refine ih_ret rfl rfl ?_
      exact K t1 W hf
    · exfalso
      omega

  | succ d ih =>
    intro i v x t1 s W G hs hd hv hf K
    have P := ih_PG_W W G hc
    have z := P.sz
    have ez := ih_W_sz W hc
    refine ih_seg (i1 := 34) 2 rfl ?_
    refine ih_icmp_ge rfl (by omega) (by omega) (fun w1 => ?_) (fun w1 => ?_)
    · refine ih_seg (i1 := 63) 1 rfl ?_
      refine ih_is1 211 rfl rfl (Nat.le_of_ble_eq_true rfl) (Nat.le_of_ble_eq_true rfl) rfl ?_
      refine c_bitCount hv ?_
      refine ih_ret rfl rfl ?_
      exfalso
      omega
    · refine ih_seg (i1 := 36) 1 rfl ?_
      refine ih_getR rfl rfl ?_
      refine ih_iv0 57 rfl rfl (by first | rfl | exact ih_kP (ih_P_w0 hc) |  exact ih_kP (by assumption) | exact ih_kC (by assumption) | exact ih_kN (by assumption) | exact ih_kS (by assumption) | exact ih_kW (by assumption)) (Nat.le_of_ble_eq_true rfl) (Nat.le_of_ble_eq_true rfl) rfl ?_
      refine c_draw ?_
      refine ih_seg (i1 := 39) 1 rfl ?_
      refine ih_getI rfl (by first | rfl | exact ih_fP4 (ih_P_w0 hc) | exact ih_fP4 (by assumption)) ?_
      rw [ih_up_ne (show 7 + 5 * c ≠ 1 by omega)]
      have ur := ih_ushr8 (t1 1 6 * 1103515245 + 12345)
      have emz : t1 1 6 = s 1 := W.z
      have nw : t1 1 5 = s 0 := W.now
      refine ih_irem0 rfl (by omega) (by omega) ?_
      rw [emz, ez, show xa_ushr (s 1 * 1103515245 + 12345) 8 % s (22 + c) = ih_mk1 s c from rfl]
      have r := ih_mk1_rg hs
      obtain ⟨m, em⟩ := Int.eq_ofNat_of_zero_le r.1
      rw [em] at r
      rw [em]
      refine ih_seg (i1 := 43) 2 rfl ?_
      try simp only [xa_set, List.set_cons_zero, List.set_cons_succ, List.getElem?_cons_zero, List.getElem?_cons_succ]
      refine ih_getR rfl (by first | rfl | exact ih_fP3 (ih_P_w0 hc) | exact ih_fP3 (by assumption)) ?_
      refine ih_seg (i1 := 46) 2 rfl ?_
      refine ih_getR rfl rfl ?_
      refine ih_getI rfl (by first | rfl | exact ih_fW5 (by assumption)) ?_
      refine ih_iast rfl (by first | rfl | exact ih_lP1 (ih_P_w0 hc) | exact ih_lP2 (ih_P_w0 hc) | exact ih_lP3 (ih_P_w0 hc) | exact ih_lP4 (ih_P_w0 hc) |  exact ih_lP1 (by assumption) | exact ih_lP2 (by assumption) | exact ih_lP3 (by assumption) | exact ih_lP4 (by assumption) | exact ih_lC1 (by assumption) | exact ih_lS1 (by assumption) | exact ih_lW1 (by assumption) | exact ih_lW2 (by assumption) | exact ih_lW4 (by assumption) | exact ih_lW5 (by assumption)) (by omega) (by omega) (k := ?_)
      refine ih_seg (i1 := 50) 1 rfl ?_
      refine ih_getR rfl (by first | rfl | exact ih_fP2 (ih_P_w0 hc) | exact ih_fP2 (by assumption)) ?_
      refine ih_seg (i1 := 53) 2 rfl ?_
      refine ih_iast rfl (by first | rfl | exact ih_lP1 (ih_P_w0 hc) | exact ih_lP2 (ih_P_w0 hc) | exact ih_lP3 (ih_P_w0 hc) | exact ih_lP4 (ih_P_w0 hc) |  exact ih_lP1 (by assumption) | exact ih_lP2 (by assumption) | exact ih_lP3 (by assumption) | exact ih_lP4 (by assumption) | exact ih_lC1 (by assumption) | exact ih_lS1 (by assumption) | exact ih_lW1 (by assumption) | exact ih_lW2 (by assumption) | exact ih_lW4 (by assumption) | exact ih_lW5 (by assumption)) (by omega) (by omega) (k := ?_)
      refine ih_seg (i1 := 32) 8 rfl ?_
      try simp only [xa_set, List.set_cons_zero, List.set_cons_succ, List.getElem?_cons_zero, List.getElem?_cons_succ]
      have G1 := ih_Gu_z (v := ih_zn s) G
      have W1 := ih_Wu_z (v := ih_zn s) G W
      have W2 := ih_Wu_cop (v := s 0) (u := ink) G1 hc (by rw [ih_u1_ne (by omega)]; exact r.2) W1
      have eg : g_cop (ih_u1 s 1 (ih_zn s)) c (ih_mk1 s c) ink = ih_u1 (ih_u1 (ih_u1 s 1 (ih_zn s)) (26 + 48 * c + 4 * m + 2) ink) (26 + 48 * c + 4 * m + 3) (s 0) := by
        rw [em, g_cop, ih_u1_ne (i := 0) (by omega)]
      rw [ih_orm hv (by omega)]
      rw [show ih_up t1 1 6 (s 1 * 1103515245 + 12345) 1 5 = s 0 by rw [ih_up_eq, ih_u1_ne (by decide), nw]]
      simp only [ih_a3, ih_a4]
      have K2 : ∀ t2, ih_Wr t2 1 (ih_ck c ink d (g_cop (ih_u1 s 1 (ih_zn s)) c (ih_mk1 s c) ink) (v ||| 2 ^ (ih_mk1 s c).toNat)).1 → ih_cf t t2 → Q (some (xI (ih_ones (ih_ck c ink d (g_cop (ih_u1 s 1 (ih_zn s)) c (ih_mk1 s c) ink) (v ||| 2 ^ (ih_mk1 s c).toNat)).2))) t2 := K
      have em2 : (ih_mk1 s c).toNat = m := by rw [em]; exact Int.toNat_natCast m
      rw [em2] at K2
      refine ih (i + 1) (v ||| 2 ^ m) _ _ _ (by rw [eg]; exact W2) (by rw [em]; exact ih_Gu_cop hc (by rw [ih_u1_ne (by omega)]; exact r.2) hi G1) (by rw [ih_cop_sz hc (by omega)]; exact hs) (by omega) (Nat.or_lt_two_pow (n := 12) hv (Nat.pow_lt_pow_right (by decide) (by omega))) ?_ K2
      exact ih_cf_u (ih_cf_u (ih_cf_u hf (by omega)) (by omega)) (by omega)


theorem c_op_clerk {X : List Int} {t : ih_S} {Q : Option xa_V → ih_S → Prop} {s : Int → Int} {a b d : Int} (ha : xa_rI a) (hb : xa_rI b) (hd : xa_rI d) (W : ih_Wr t 1 s) (G : ih_Gd s) (K : ih_chC t (f_clerk s a b d) (ih_ck a.toNat d b.toNat s 0).1 Q) : ih_Wp X 85 0 [xR 0, xI a, xI b, xI d, xC 1, xC 1, xC 1, xC 1] [] t Q := by
  refine ih_seg (i1 := 1) 1 rfl ?_
  refine ih_is1 106 rfl rfl (Nat.le_of_ble_eq_true rfl) (Nat.le_of_ble_eq_true rfl) rfl ?_
  refine c_isPaper (by omega) (fun w1 => ?_) (fun w2 => ?_)
  · refine ih_seg (i1 := 6) 4 rfl ?_
    refine ih_is3 103 rfl rfl (Nat.le_of_ble_eq_true rfl) (Nat.le_of_ble_eq_true rfl) rfl ?_
    refine c_within (by omega) (by omega) (by omega) (fun w3 => ?_) (fun w4 => ?_)
    · refine ih_seg (i1 := 9) 2 rfl ?_
      refine ih_is1 105 rfl rfl (Nat.le_of_ble_eq_true rfl) (Nat.le_of_ble_eq_true rfl) rfl ?_
      refine c_isInk (by omega) (fun w5 => ?_) (fun w6 => ?_)
      · refine ih_seg (i1 := 15) 1 rfl ?_
        obtain ⟨c, rfl⟩ := Int.eq_ofNat_of_zero_le (show 0 ≤ a by omega)
        have hc : c < 4 := by omega
        have P := ih_PG_W W G hc
        have z := P.sz
        have ez := ih_W_sz W hc
        refine ih_seg (i1 := 16) 1 rfl ?_
        refine ih_getR rfl rfl ?_
        refine ih_getR rfl (by first | rfl | exact ih_fW2 (by assumption)) ?_
        refine ih_seg (i1 := 19) 1 rfl ?_
        refine ih_aald rfl (ih_eP hc) ?_
        refine ih_seg (i1 := 22) 2 rfl ?_
        try simp only [xa_set, List.set_cons_zero, List.set_cons_succ, List.getElem?_cons_zero, List.getElem?_cons_succ]
        refine ih_getI rfl (by first | rfl | exact ih_fP4 (ih_P_w0 hc) | exact ih_fP4 (by assumption)) ?_
        refine ih_ifc_ne rfl (by omega) (fun w7 => ?_) (fun w7 => ?_)
        · refine ih_seg (i1 := 32) 4 rfl ?_
          try simp only [xa_set, List.set_cons_zero, List.set_cons_succ, List.getElem?_cons_zero, List.getElem?_cons_succ]
          first
            | exact ih_chC_no K (by rw [f_clerk, if_neg (by omega)]) (ih_sc_r _)
            | exact ih_chC_no K (by rw [f_clerk, if_pos (by omega), if_pos (by omega)]) (ih_sc_r _)
            | (simp only [Int.toNat_natCast] at K
               refine c_clerk_l hc (by omega) (by omega) b.toNat 0 0 _ t s W G (by omega) (by omega) (by decide) (ih_cf_r t) (fun t2 W2 f2 => ?_)
               exact ih_chC_ok K (by rw [f_clerk, if_pos (by omega), if_neg (by omega), Int.toNat_natCast]) W2 f2)
        · refine ih_seg (i1 := 26) 2 rfl ?_
          refine ih_iv1 102 rfl rfl (by first | rfl | exact ih_kP (ih_P_w0 hc) |  exact ih_kP (by assumption) | exact ih_kC (by assumption) | exact ih_kN (by assumption) | exact ih_kS (by assumption) | exact ih_kW (by assumption)) (Nat.le_of_ble_eq_true rfl) (Nat.le_of_ble_eq_true rfl) rfl ?_
          refine c_finding (by omega) ?_
          refine ih_ret rfl rfl ?_
          first
            | exact ih_chC_no K (by rw [f_clerk, if_neg (by omega)]) (ih_sc_r _)
            | exact ih_chC_no K (by rw [f_clerk, if_pos (by omega), if_pos (by omega)]) (ih_sc_r _)
            | (simp only [Int.toNat_natCast] at K
               refine c_clerk_l hc (by omega) (by omega) b.toNat 0 0 _ t s W G (by omega) (by omega) (by decide) (ih_cf_r t) (fun t2 W2 f2 => ?_)
               exact ih_chC_ok K (by rw [f_clerk, if_pos (by omega), if_neg (by omega), Int.toNat_natCast]) W2 f2)
      · refine ih_seg (i1 := 13) 3 rfl ?_
        refine ih_iv1 102 rfl rfl (by first | rfl | exact ih_kP (ih_P_w0 hc) |  exact ih_kP (by assumption) | exact ih_kC (by assumption) | exact ih_kN (by assumption) | exact ih_kS (by assumption) | exact ih_kW (by assumption)) (Nat.le_of_ble_eq_true rfl) (Nat.le_of_ble_eq_true rfl) rfl ?_
        refine c_finding (by omega) ?_
        refine ih_ret rfl rfl ?_
        first
          | exact ih_chC_no K (by rw [f_clerk, if_neg (by omega)]) (ih_sc_r _)
          | exact ih_chC_no K (by rw [f_clerk, if_pos (by omega), if_pos (by omega)]) (ih_sc_r _)
          | (simp only [Int.toNat_natCast] at K
             refine c_clerk_l hc (by omega) (by omega) b.toNat 0 0 _ t s W G (by omega) (by omega) (by decide) (ih_cf_r t) (fun t2 W2 f2 => ?_)
             exact ih_chC_ok K (by rw [f_clerk, if_pos (by omega), if_neg (by omega), Int.toNat_natCast]) W2 f2)
    · refine ih_seg (i1 := 13) 3 rfl ?_
      refine ih_iv1 102 rfl rfl (by first | rfl | exact ih_kP (ih_P_w0 hc) |  exact ih_kP (by assumption) | exact ih_kC (by assumption) | exact ih_kN (by assumption) | exact ih_kS (by assumption) | exact ih_kW (by assumption)) (Nat.le_of_ble_eq_true rfl) (Nat.le_of_ble_eq_true rfl) rfl ?_
      refine c_finding (by omega) ?_
      refine ih_ret rfl rfl ?_
      first
        | exact ih_chC_no K (by rw [f_clerk, if_neg (by omega)]) (ih_sc_r _)
        | exact ih_chC_no K (by rw [f_clerk, if_pos (by omega), if_pos (by omega)]) (ih_sc_r _)
        | (simp only [Int.toNat_natCast] at K
           refine c_clerk_l hc (by omega) (by omega) b.toNat 0 0 _ t s W G (by omega) (by omega) (by decide) (ih_cf_r t) (fun t2 W2 f2 => ?_)
           exact ih_chC_ok K (by rw [f_clerk, if_pos (by omega), if_neg (by omega), Int.toNat_natCast]) W2 f2)
  · refine ih_seg (i1 := 13) 3 rfl ?_
    refine ih_iv1 102 rfl rfl (by first | rfl | exact ih_kP (ih_P_w0 hc) |  exact ih_kP (by assumption) | exact ih_kC (by assumption) | exact ih_kN (by assumption) | exact ih_kS (by assumption) | exact ih_kW (by assumption)) (Nat.le_of_ble_eq_true rfl) (Nat.le_of_ble_eq_true rfl) rfl ?_
    refine c_finding (by omega) ?_
    refine ih_ret rfl rfl ?_
    first
      | exact ih_chC_no K (by rw [f_clerk, if_neg (by omega)]) (ih_sc_r _)
      | exact ih_chC_no K (by rw [f_clerk, if_pos (by omega), if_pos (by omega)]) (ih_sc_r _)
      | (simp only [Int.toNat_natCast] at K
         refine c_clerk_l hc (by omega) (by omega) b.toNat 0 0 _ t s W G (by omega) (by omega) (by decide) (ih_cf_r t) (fun t2 W2 f2 => ?_)
         exact ih_chC_ok K (by rw [f_clerk, if_pos (by omega), if_neg (by omega), Int.toNat_natCast]) W2 f2)


theorem r_clerk_l {X : List Int} {t : ih_S} {Q : Option xa_V → ih_S → Prop} {p : Nat} {b ink : Int} (hp : p < 4) (hi : 0 ≤ ink ∧ ink < 8) (hb : 1 ≤ b ∧ b ≤ 12)  : ∀ (d : Nat) (i v : Nat) (x : xa_V) (t1 : ih_S) (G : ih_Gd (t1 112)) (hs : 0 < t1 112 (22 + p)) (hd : (i : Int) + d = b) (hv : v < 4096) (hf : ∀ j, j ≠ 112 → t1 j = t j) (K : ∀ t2, t2 112 = (ih_ck p ink d (t1 112) v).1 → (∀ j, j ≠ 112 → t2 j = t j) → Q (some (xI (ih_ones (ih_ck p ink d (t1 112) v).2))) t2), ih_Wp X 178 31 [xR 111, xI p, xI b, xI ink, xI v, xI i, x] [] t1 Q := by
  intro d
  induction d with
  | zero =>
    intro i v x t1 G hs hd hv hf K
    refine ih_seg (i1 := 33) 2 rfl ?_
    refine ih_icmp_ge rfl (by omega) (by omega) (fun w1 => ?_) (fun w1 => ?_)
    · refine ih_seg (i1 := 74) 1 rfl ?_
      refine ih_is1 134 rfl rfl (Nat.le_of_ble_eq_true rfl) (Nat.le_of_ble_eq_true rfl) rfl ?_
      refine r_ones hv ?_
      refine ih_ret rfl rfl ?_
      exact K t1 rfl hf
    · exfalso
      omega

  | succ d ih =>
    intro i v x t1 G hs hd hv hf K
    have z := (G.pap p hp).sz
    refine ih_seg (i1 := 33) 2 rfl ?_
    refine ih_icmp_ge rfl (by omega) (by omega) (fun w1 => ?_) (fun w1 => ?_)
    · refine ih_seg (i1 := 74) 1 rfl ?_
      refine ih_is1 134 rfl rfl (Nat.le_of_ble_eq_true rfl) (Nat.le_of_ble_eq_true rfl) rfl ?_
      refine r_ones hv ?_
      refine ih_ret rfl rfl ?_
      exfalso
      omega
    · refine ih_seg (i1 := 35) 1 rfl ?_
      refine ih_getR rfl rfl ?_
      refine ih_seg (i1 := 38) 2 rfl ?_
      refine ih_getR rfl rfl ?_
      refine ih_seg (i1 := 40) 1 rfl ?_
      refine ih_iald rfl (by first | rfl | exact ih_lP1 (ih_P_w0 hc) | exact ih_lP2 (ih_P_w0 hc) | exact ih_lP3 (ih_P_w0 hc) | exact ih_lP4 (ih_P_w0 hc) |  exact ih_lP1 (by assumption) | exact ih_lP2 (by assumption) | exact ih_lP3 (by assumption) | exact ih_lP4 (by assumption) | exact ih_lC1 (by assumption) | exact ih_lS1 (by assumption) | exact ih_lW1 (by assumption) | exact ih_lW2 (by assumption) | exact ih_lW4 (by assumption) | exact ih_lW5 (by assumption)) (by omega) (by omega) (k := ?_)
      refine ih_seg (i1 := 45) 4 rfl ?_
      try dsimp only
      refine ih_iast rfl (by first | rfl | exact ih_lP1 (ih_P_w0 hc) | exact ih_lP2 (ih_P_w0 hc) | exact ih_lP3 (ih_P_w0 hc) | exact ih_lP4 (ih_P_w0 hc) |  exact ih_lP1 (by assumption) | exact ih_lP2 (by assumption) | exact ih_lP3 (by assumption) | exact ih_lP4 (by assumption) | exact ih_lC1 (by assumption) | exact ih_lS1 (by assumption) | exact ih_lW1 (by assumption) | exact ih_lW2 (by assumption) | exact ih_lW4 (by assumption) | exact ih_lW5 (by assumption)) (by omega) (by omega) (k := ?_)
      refine ih_seg (i1 := 47) 1 rfl ?_
      refine ih_getR rfl rfl ?_
      refine ih_seg (i1 := 49) 1 rfl ?_
      refine ih_iald rfl (by first | rfl | exact ih_lP1 (ih_P_w0 hc) | exact ih_lP2 (ih_P_w0 hc) | exact ih_lP3 (ih_P_w0 hc) | exact ih_lP4 (ih_P_w0 hc) |  exact ih_lP1 (by assumption) | exact ih_lP2 (by assumption) | exact ih_lP3 (by assumption) | exact ih_lP4 (by assumption) | exact ih_lC1 (by assumption) | exact ih_lS1 (by assumption) | exact ih_lW1 (by assumption) | exact ih_lW2 (by assumption) | exact ih_lW4 (by assumption) | exact ih_lW5 (by assumption)) (by omega) (by omega) (k := ?_)
      rw [ih_up_eq, ih_u1_eq]
      refine ih_seg (i1 := 53) 3 rfl ?_
      try dsimp only
      refine ih_getR rfl rfl ?_
      refine ih_seg (i1 := 57) 3 rfl ?_
      try dsimp only
      refine ih_iald rfl (by first | rfl | exact ih_lP1 (ih_P_w0 hc) | exact ih_lP2 (ih_P_w0 hc) | exact ih_lP3 (ih_P_w0 hc) | exact ih_lP4 (ih_P_w0 hc) |  exact ih_lP1 (by assumption) | exact ih_lP2 (by assumption) | exact ih_lP3 (by assumption) | exact ih_lP4 (by assumption) | exact ih_lC1 (by assumption) | exact ih_lS1 (by assumption) | exact ih_lW1 (by assumption) | exact ih_lW2 (by assumption) | exact ih_lW4 (by assumption) | exact ih_lW5 (by assumption)) (by omega) (by omega) (k := ?_)
      rw [ih_up_eq, ih_u1_ne (by omega)]
      have ur := ih_ushr8 (t1 112 1 * 1103515245 + 12345)
      refine ih_irem0 rfl (by omega) (by omega) ?_
      rw [show xa_ushr (t1 112 1 * 1103515245 + 12345) 8 % t1 112 (22 + p) = ih_mk1 (t1 112) p from rfl]
      have r := ih_mk1_rg hs
      obtain ⟨m, em⟩ := Int.eq_ofNat_of_zero_le r.1
      rw [em] at r
      rw [em]
      refine ih_seg (i1 := 64) 5 rfl ?_
      try simp only [xa_set, List.set_cons_zero, List.set_cons_succ, List.getElem?_cons_zero, List.getElem?_cons_succ]
      refine ih_iv3 144 rfl rfl (by first | rfl | exact ih_kP (ih_P_w0 hc) |  exact ih_kP (by assumption) | exact ih_kC (by assumption) | exact ih_kN (by assumption) | exact ih_kS (by assumption) | exact ih_kW (by assumption)) (Nat.le_of_ble_eq_true rfl) (Nat.le_of_ble_eq_true rfl) rfl ?_
      refine r_copies hp (by omega) (fun t2 f1 f2 => ?_)
      refine ih_seg (i1 := 31) 8 rfl ?_
      try simp only [xa_set, List.set_cons_zero, List.set_cons_succ, List.getElem?_cons_zero, List.getElem?_cons_succ]
      have G1 := ih_Gu_z (v := ih_zn (t1 112)) G
      have e1 : t2 112 = g_cop (ih_u1 (t1 112) 1 (ih_zn (t1 112))) p (ih_mk1 (t1 112) p) ink := by rw [f1, em, ih_up_eq]; rfl
      rw [ih_orm hv (by omega)]
      have K2 : ∀ t2, t2 112 = (ih_ck p ink d (g_cop (ih_u1 (t1 112) 1 (ih_zn (t1 112))) p (ih_mk1 (t1 112) p) ink) (v ||| 2 ^ (ih_mk1 (t1 112) p).toNat)).1 → (∀ j, j ≠ 112 → t2 j = t j) → Q (some (xI (ih_ones (ih_ck p ink d (g_cop (ih_u1 (t1 112) 1 (ih_zn (t1 112))) p (ih_mk1 (t1 112) p) ink) (v ||| 2 ^ (ih_mk1 (t1 112) p).toNat)).2))) t2 := K
      have em2 : (ih_mk1 (t1 112) p).toNat = m := by rw [em]; exact Int.toNat_natCast m
      rw [em2, ← e1] at K2
      refine ih (i + 1) (v ||| 2 ^ m) _ t2 (by rw [e1, em]; exact ih_Gu_cop hp (by rw [ih_u1_ne (by omega)]; exact r.2) hi G1) (by rw [e1, ih_cop_sz hp (by omega)]; exact hs) (by omega) (Nat.or_lt_two_pow (n := 12) hv (Nat.pow_lt_pow_right (by decide) (by omega))) (fun j hj => ?_) K2
      rw [f2 j hj, ih_up_ne hj]
      exact hf j hj


theorem r_op_clerk {X : List Int} {t : ih_S} {Q : Option xa_V → ih_S → Prop} {a b d : Int} (ha : xa_rI a) (hb : xa_rI b) (hd : xa_rI d) (G : ih_Gd (t 112)) (K : ih_chR t (f_clerk (t 112) a b d) (ih_ck a.toNat d b.toNat (t 112) 0).1 Q) : ih_Wp X 178 0 [xR 111, xI a, xI b, xI d, xC 1, xC 1, xC 1] [] t Q := by
  refine ih_seg (i1 := 1) 1 rfl ?_
  refine ih_is1 128 rfl rfl (Nat.le_of_ble_eq_true rfl) (Nat.le_of_ble_eq_true rfl) rfl ?_
  refine r_isPaper (by omega) (fun w1 => ?_) (fun w2 => ?_)
  · refine ih_seg (i1 := 4) 2 rfl ?_
    refine ih_i2l rfl (by omega) ?_
    refine ih_seg (i1 := 7) 2 rfl ?_
    refine ih_is3 126 rfl rfl (Nat.le_of_ble_eq_true rfl) (Nat.le_of_ble_eq_true rfl) rfl ?_
    refine r_in (by omega) (by omega) (by omega) (fun w3 => ?_) (fun w4 => ?_)
    · refine ih_seg (i1 := 10) 2 rfl ?_
      refine ih_is1 129 rfl rfl (Nat.le_of_ble_eq_true rfl) (Nat.le_of_ble_eq_true rfl) rfl ?_
      refine r_isInk (by omega) (fun w5 => ?_) (fun w6 => ?_)
      · refine ih_seg (i1 := 16) 1 rfl ?_
        obtain ⟨p, rfl⟩ := Int.eq_ofNat_of_zero_le (show 0 ≤ a by omega)
        have hp : p < 4 := by omega
        have z := (G.pap p hp).sz
        refine ih_seg (i1 := 17) 1 rfl ?_
        refine ih_getR rfl rfl ?_
        refine ih_seg (i1 := 21) 3 rfl ?_
        try dsimp only
        refine ih_iald rfl (by first | rfl | exact ih_lP1 (ih_P_w0 hc) | exact ih_lP2 (ih_P_w0 hc) | exact ih_lP3 (ih_P_w0 hc) | exact ih_lP4 (ih_P_w0 hc) |  exact ih_lP1 (by assumption) | exact ih_lP2 (by assumption) | exact ih_lP3 (by assumption) | exact ih_lP4 (by assumption) | exact ih_lC1 (by assumption) | exact ih_lS1 (by assumption) | exact ih_lW1 (by assumption) | exact ih_lW2 (by assumption) | exact ih_lW4 (by assumption) | exact ih_lW5 (by assumption)) (by omega) (by omega) (k := ?_)
        refine ih_ifc_ne rfl (by omega) (fun w7 => ?_) (fun w7 => ?_)
        · refine ih_seg (i1 := 31) 4 rfl ?_
          try simp only [xa_set, List.set_cons_zero, List.set_cons_succ, List.getElem?_cons_zero, List.getElem?_cons_succ]
          first
            | exact ih_chR_no 0 K (by rw [f_clerk, if_neg (by omega)]) rfl (ih_rr_r _)
            | exact ih_chR_no 4 K (by rw [f_clerk, if_pos (by omega), if_pos (by omega)]) rfl (ih_rr_r _)
            | (simp only [Int.toNat_natCast] at K
               refine r_clerk_l hp (by omega) (by omega) b.toNat 0 0 _ t G (by omega) (by omega) (by decide) (fun _ _ => rfl) (fun t2 f1 f2 => ?_)
               exact ih_chR_ok K (by rw [f_clerk, if_pos (by omega), if_neg (by omega), Int.toNat_natCast]) f1 (ih_rg_w f2))
        · refine ih_seg (i1 := 25) 2 rfl ?_
          refine ih_iv1 127 rfl rfl (by first | rfl | exact ih_kP (ih_P_w0 hc) |  exact ih_kP (by assumption) | exact ih_kC (by assumption) | exact ih_kN (by assumption) | exact ih_kS (by assumption) | exact ih_kW (by assumption)) (Nat.le_of_ble_eq_true rfl) (Nat.le_of_ble_eq_true rfl) rfl ?_
          refine r_finds 4 rfl (by omega) ?_
          refine ih_ret rfl rfl ?_
          first
            | exact ih_chR_no 0 K (by rw [f_clerk, if_neg (by omega)]) rfl (ih_rr_r _)
            | exact ih_chR_no 4 K (by rw [f_clerk, if_pos (by omega), if_pos (by omega)]) rfl (ih_rr_r _)
            | (simp only [Int.toNat_natCast] at K
               refine r_clerk_l hp (by omega) (by omega) b.toNat 0 0 _ t G (by omega) (by omega) (by decide) (fun _ _ => rfl) (fun t2 f1 f2 => ?_)
               exact ih_chR_ok K (by rw [f_clerk, if_pos (by omega), if_neg (by omega), Int.toNat_natCast]) f1 (ih_rg_w f2))
      · refine ih_seg (i1 := 14) 3 rfl ?_
        refine ih_iv1 127 rfl rfl (by first | rfl | exact ih_kP (ih_P_w0 hc) |  exact ih_kP (by assumption) | exact ih_kC (by assumption) | exact ih_kN (by assumption) | exact ih_kS (by assumption) | exact ih_kW (by assumption)) (Nat.le_of_ble_eq_true rfl) (Nat.le_of_ble_eq_true rfl) rfl ?_
        refine r_finds 0 rfl (by omega) ?_
        refine ih_ret rfl rfl ?_
        first
          | exact ih_chR_no 0 K (by rw [f_clerk, if_neg (by omega)]) rfl (ih_rr_r _)
          | exact ih_chR_no 4 K (by rw [f_clerk, if_pos (by omega), if_pos (by omega)]) rfl (ih_rr_r _)
          | (simp only [Int.toNat_natCast] at K
             refine r_clerk_l hp (by omega) (by omega) b.toNat 0 0 _ t G (by omega) (by omega) (by decide) (fun _ _ => rfl) (fun t2 f1 f2 => ?_)
             exact ih_chR_ok K (by rw [f_clerk, if_pos (by omega), if_neg (by omega), Int.toNat_natCast]) f1 (ih_rg_w f2))
    · refine ih_seg (i1 := 14) 3 rfl ?_
      refine ih_iv1 127 rfl rfl (by first | rfl | exact ih_kP (ih_P_w0 hc) |  exact ih_kP (by assumption) | exact ih_kC (by assumption) | exact ih_kN (by assumption) | exact ih_kS (by assumption) | exact ih_kW (by assumption)) (Nat.le_of_ble_eq_true rfl) (Nat.le_of_ble_eq_true rfl) rfl ?_
      refine r_finds 0 rfl (by omega) ?_
      refine ih_ret rfl rfl ?_
      first
        | exact ih_chR_no 0 K (by rw [f_clerk, if_neg (by omega)]) rfl (ih_rr_r _)
        | exact ih_chR_no 4 K (by rw [f_clerk, if_pos (by omega), if_pos (by omega)]) rfl (ih_rr_r _)
        | (simp only [Int.toNat_natCast] at K
           refine r_clerk_l hp (by omega) (by omega) b.toNat 0 0 _ t G (by omega) (by omega) (by decide) (fun _ _ => rfl) (fun t2 f1 f2 => ?_)
           exact ih_chR_ok K (by rw [f_clerk, if_pos (by omega), if_neg (by omega), Int.toNat_natCast]) f1 (ih_rg_w f2))
  · refine ih_seg (i1 := 14) 3 rfl ?_
    refine ih_iv1 127 rfl rfl (by first | rfl | exact ih_kP (ih_P_w0 hc) |  exact ih_kP (by assumption) | exact ih_kC (by assumption) | exact ih_kN (by assumption) | exact ih_kS (by assumption) | exact ih_kW (by assumption)) (Nat.le_of_ble_eq_true rfl) (Nat.le_of_ble_eq_true rfl) rfl ?_
    refine r_finds 0 rfl (by omega) ?_
    refine ih_ret rfl rfl ?_
    first
      | exact ih_chR_no 0 K (by rw [f_clerk, if_neg (by omega)]) rfl (ih_rr_r _)
      | exact ih_chR_no 4 K (by rw [f_clerk, if_pos (by omega), if_pos (by omega)]) rfl (ih_rr_r _)
      | (simp only [Int.toNat_natCast] at K
         refine r_clerk_l hp (by omega) (by omega) b.toNat 0 0 _ t G (by omega) (by omega) (by decide) (fun _ _ => rfl) (fun t2 f1 f2 => ?_)
         exact ih_chR_ok K (by rw [f_clerk, if_pos (by omega), if_neg (by omega), Int.toNat_natCast]) f1 (ih_rg_w f2))


def ih_by (v i : Int) : Int := xa_and (xa_shr v (8 * i)) 255
theorem ih_by_w {a : Int} : 0 ≤ xa_and a 255 ∧ xa_and a 255 < 256 := by
  have e : xa_and a 255 = ((Int32.ofInt a).toBitVec &&& 255#32).toInt := rfl
  have h1 : ((Int32.ofInt a).toBitVec &&& 255#32).toNat ≤ 255 := by
    rw [BitVec.toNat_and]
    exact Nat.and_le_right
  rw [e, BitVec.toInt_eq_toNat_of_lt (by omega)]
  omega
theorem ih_by_b (x : BitVec 32) (n : Nat) (hn : n ≤ 24) : (x >>> n) &&& 255#32 = (x.sshiftRight n) &&& 255#32 := by
  apply BitVec.eq_of_getLsbD_eq
  intro i hi
  rw [BitVec.getLsbD_and, BitVec.getLsbD_and, BitVec.getLsbD_ushiftRight, BitVec.getLsbD_sshiftRight]
  by_cases h : i < 8
  · have h1 : decide (32 ≤ i) = false := by simp; omega
    rw [h1, if_pos (by omega)]
    simp
  · have h2 : (255#32).getLsbD i = false := (by decide +kernel : ∀ i : Nat, i < 32 → ¬ i < 8 → (255#32).getLsbD i = false) i hi h
    rw [h2, Bool.and_false, Bool.and_false]
theorem ih_by_u {v i : Int} (hi : i = 0 ∨ i = 1 ∨ i = 2 ∨ i = 3) : xa_and (xa_ushr v (8 * i)) 255 = ih_by v i := by
  have key : ∀ n : Nat, n ≤ 24 → ((((Int32.ofInt v).toBitVec >>> n) &&& 255#32).toInt) = (((Int32.ofInt v).toBitVec.sshiftRight n) &&& 255#32).toInt := fun n hn => by rw [ih_by_b _ n hn]
  have wi : ∀ b : Int32, Int32.ofInt b.toInt = b := fun b => Int32.ofInt_toInt b
  unfold ih_by xa_and xa_ushr xa_shr
  rw [wi, wi]
  rcases hi with rfl | rfl | rfl | rfl
  · exact key 0 (by decide)
  · exact key 8 (by decide)
  · exact key 16 (by decide)
  · exact key 24 (by decide)
def f_feed (tp b : Int) : ih_An := if 1 ≤ b ∧ b ≤ 4 then (if 120 < tp + b then ih_no 1 else ih_ok1 (tp + b)) else ih_no 0
def g_tp (f : Int → Int) (z v n : Int) : Int → Int := fun x => if z ≤ x ∧ x < z + n then ih_by v (n - 1 - (x - z)) else f x

theorem c_tadd {X : List Int} {t : ih_S} {Q : Option xa_V → ih_S → Prop} {v : Int} (hs : 0 ≤ t 80 2 ∧ t 80 2 < 120) (k : Q none (ih_up (ih_up t 81 (t 80 2) v) 80 2 (t 80 2 + 1))) : ih_Wp X 36 0 [xR 80, xI v] [] t Q := by
  refine ih_seg (i1 := 1) 1 rfl ?_
  refine ih_getI rfl rfl ?_
  refine ih_seg (i1 := 3) 1 rfl ?_
  refine ih_icmp_ge rfl (by omega) (by omega) (fun w1 => ?_) (fun w1 => ?_)
  · refine ih_retv rfl ?_
    exfalso
    omega
  · refine ih_seg (i1 := 5) 1 rfl ?_
    refine ih_getR rfl rfl ?_
    refine ih_seg (i1 := 7) 1 rfl ?_
    refine ih_getI rfl rfl ?_
    refine ih_seg (i1 := 9) 1 rfl ?_
    refine ih_iast rfl (by first | rfl | exact ih_lP1 (ih_P_w0 hc) | exact ih_lP2 (ih_P_w0 hc) | exact ih_lP3 (ih_P_w0 hc) | exact ih_lP4 (ih_P_w0 hc) |  exact ih_lP1 (by assumption) | exact ih_lP2 (by assumption) | exact ih_lP3 (by assumption) | exact ih_lP4 (by assumption) | exact ih_lC1 (by assumption) | exact ih_lS1 (by assumption) | exact ih_lW1 (by assumption) | exact ih_lW2 (by assumption) | exact ih_lW4 (by assumption) | exact ih_lW5 (by assumption)) (by omega) (by omega) (k := ?_)
    refine ih_seg (i1 := 12) 2 rfl ?_
    refine ih_getI rfl rfl ?_
    refine ih_seg (i1 := 15) 2 rfl ?_
    try dsimp only
    refine ih_putI rfl rfl rfl ?_
    refine ih_retv rfl ?_
    exact k


theorem c_feed_l {X : List Int} {t : ih_S} {Q : Option xa_V → ih_S → Prop} {v n : Int} (hn : 1 ≤ n ∧ n ≤ 4) (hz : 0 ≤ t 80 2 ∧ t 80 2 + n ≤ 120) (K : ∀ t1, (∀ j, j ≠ 80 → j ≠ 81 → t1 j = t j) → t1 80 = ih_u1 (t 80) 2 (t 80 2 + n) → t1 81 = g_tp (t 81) (t 80 2) v n → Q (some (xI (t 80 2 + n))) t1) : ∀ (d : Nat) (k : Nat) (i : Int) (t1 : ih_S) (hd : (k : Int) + d = n) (hi : i = n - 1 - k) (hf : ∀ j, j ≠ 80 → j ≠ 81 → t1 j = t j) (h0 : t1 80 = ih_u1 (t 80) 2 (t 80 2 + k)) (h1 : t1 81 = fun x => if t 80 2 ≤ x ∧ x < t 80 2 + k then ih_by v (n - 1 - (x - t 80 2)) else t 81 x), ih_Wp X 87 24 [xR 0, xI v, xI n, xI i] [] t1 Q := by
  intro d
  induction d with
  | zero =>
    intro k i t1 hd hi hf h0 h1
    have e2 : t1 80 2 = t 80 2 + k := by rw [h0, ih_u1_eq]
    refine ih_seg (i1 := 25) 1 rfl ?_
    refine ih_ifc_lt rfl (by omega) (fun w1 => ?_) (fun w1 => ?_)
    · refine ih_seg (i1 := 39) 1 rfl ?_
      refine ih_getR rfl rfl ?_
      refine ih_getI rfl rfl ?_
      refine ih_ret rfl rfl ?_
      obtain rfl : n = k := by omega
      rw [e2]
      exact K t1 hf h0 h1
    · exfalso
      omega

  | succ d ih =>
    intro k i t1 hd hi hf h0 h1
    have e2 : t1 80 2 = t 80 2 + k := by rw [h0, ih_u1_eq]
    refine ih_seg (i1 := 25) 1 rfl ?_
    refine ih_ifc_lt rfl (by omega) (fun w1 => ?_) (fun w1 => ?_)
    · refine ih_seg (i1 := 39) 1 rfl ?_
      refine ih_getR rfl rfl ?_
      refine ih_getI rfl rfl ?_
      refine ih_ret rfl rfl ?_
      exfalso
      omega
    · refine ih_seg (i1 := 27) 1 rfl ?_
      refine ih_getR rfl rfl ?_
      refine ih_seg (i1 := 35) 7 rfl ?_
      try dsimp only
      refine ih_iv1 36 rfl rfl (by first | rfl | exact ih_kP (ih_P_w0 hc) |  exact ih_kP (by assumption) | exact ih_kC (by assumption) | exact ih_kN (by assumption) | exact ih_kS (by assumption) | exact ih_kW (by assumption)) (Nat.le_of_ble_eq_true rfl) (Nat.le_of_ble_eq_true rfl) rfl ?_
      rw [ih_by_u (by omega)]
      refine c_tadd (by omega) ?_
      refine ih_seg (i1 := 24) 2 rfl ?_
      try simp only [xa_set, List.set_cons_zero, List.set_cons_succ, List.getElem?_cons_zero, List.getElem?_cons_succ]
      refine ih (k + 1) _ _ (by omega) (by omega) (fun j j0 j1 => ?_) ?_ ?_
      · rw [ih_up_ne j0, ih_up_ne j1]
        exact hf j j0 j1
      · rw [ih_up_eq, ih_up_ne (by decide), e2, h0]
        funext x
        simp only [ih_u1x]
        (repeat' split) <;> first | rfl | omega
      · rw [ih_up_ne (by decide), ih_up_eq, e2, h1]
        funext x
        simp only [ih_u1x]
        (repeat' split) <;> first | rfl | omega | exact congrArg (ih_by v) (by omega)


theorem c_op_feed {X : List Int} {t : ih_S} {Q : Option xa_V → ih_S → Prop} {a b : Int} (ha : xa_rI a) (hb : xa_rI b) (hz : 0 ≤ t 80 2 ∧ t 80 2 ≤ 120) (K0 : ∀ j : Int, f_feed (t 80 2) b = ih_no j → Q (some (xI (-1000001 - j))) (ih_up t 84 j (t 84 j + 1))) (K : f_feed (t 80 2) b = ih_ok1 (t 80 2 + b) → ∀ t1, (∀ j, j ≠ 80 → j ≠ 81 → t1 j = t j) → t1 80 = ih_u1 (t 80) 2 (t 80 2 + b) → t1 81 = g_tp (t 81) (t 80 2) a b → Q (some (xI (t 80 2 + b))) t1) : ih_Wp X 87 0 [xR 0, xI a, xI b, xC 1] [] t Q := by
  refine ih_seg (i1 := 3) 3 rfl ?_
  refine ih_is3 103 rfl rfl (Nat.le_of_ble_eq_true rfl) (Nat.le_of_ble_eq_true rfl) rfl ?_
  refine c_within (by omega) (by omega) (by omega) (fun w1 => ?_) (fun w2 => ?_)
  · refine ih_seg (i1 := 10) 2 rfl ?_
    refine ih_getR rfl rfl ?_
    refine ih_getI rfl rfl ?_
    refine ih_seg (i1 := 15) 3 rfl ?_
    try dsimp only
    refine ih_icmp_le rfl (by omega) (by omega) (fun w3 => ?_) (fun w3 => ?_)
    · refine ih_seg (i1 := 24) 4 rfl ?_
      try simp only [xa_set, List.set_cons_zero, List.set_cons_succ, List.getElem?_cons_zero, List.getElem?_cons_succ]
      first
        | exact K0 0 (by rw [f_feed, if_neg (by omega)])
        | exact K0 1 (by rw [f_feed, if_pos (by omega), if_pos (by omega)])
        | exact c_feed_l (by omega) (by omega) (K (by rw [f_feed, if_pos (by omega), if_neg (by omega)])) b.toNat 0 _ t (by omega) (by omega) (fun _ _ _ => rfl) (by funext x; rw [ih_u1x]; split <;> first | rfl | (next e => subst e; omega)) (by funext x; rw [if_neg (by omega)])
    · refine ih_seg (i1 := 18) 2 rfl ?_
      refine ih_iv1 102 rfl rfl (by first | rfl | exact ih_kP (ih_P_w0 hc) |  exact ih_kP (by assumption) | exact ih_kC (by assumption) | exact ih_kN (by assumption) | exact ih_kS (by assumption) | exact ih_kW (by assumption)) (Nat.le_of_ble_eq_true rfl) (Nat.le_of_ble_eq_true rfl) rfl ?_
      refine c_finding (by omega) ?_
      refine ih_ret rfl rfl ?_
      first
        | exact K0 0 (by rw [f_feed, if_neg (by omega)])
        | exact K0 1 (by rw [f_feed, if_pos (by omega), if_pos (by omega)])
        | exact c_feed_l (by omega) (by omega) (K (by rw [f_feed, if_pos (by omega), if_neg (by omega)])) b.toNat 0 _ t (by omega) (by omega) (fun _ _ _ => rfl) (by funext x; rw [ih_u1x]; split <;> first | rfl | (next e => subst e; omega)) (by funext x; rw [if_neg (by omega)])
  · refine ih_seg (i1 := 7) 3 rfl ?_
    refine ih_iv1 102 rfl rfl (by first | rfl | exact ih_kP (ih_P_w0 hc) |  exact ih_kP (by assumption) | exact ih_kC (by assumption) | exact ih_kN (by assumption) | exact ih_kS (by assumption) | exact ih_kW (by assumption)) (Nat.le_of_ble_eq_true rfl) (Nat.le_of_ble_eq_true rfl) rfl ?_
    refine c_finding (by omega) ?_
    refine ih_ret rfl rfl ?_
    first
      | exact K0 0 (by rw [f_feed, if_neg (by omega)])
      | exact K0 1 (by rw [f_feed, if_pos (by omega), if_pos (by omega)])
      | exact c_feed_l (by omega) (by omega) (K (by rw [f_feed, if_pos (by omega), if_neg (by omega)])) b.toNat 0 _ t (by omega) (by omega) (fun _ _ _ => rfl) (by funext x; rw [ih_u1x]; split <;> first | rfl | (next e => subst e; omega)) (by funext x; rw [if_neg (by omega)])


theorem r_feed_l {X : List Int} {t : ih_S} {Q : Option xa_V → ih_S → Prop} {v n : Int} (hn : 1 ≤ n ∧ n ≤ 4) (hz : 0 ≤ t 111 12 ∧ t 111 12 + n ≤ 120) (K : ∀ t1, (∀ j, j ≠ 111 → j ≠ 117 → t1 j = t j) → t1 111 = ih_u1 (t 111) 12 (t 111 12 + n) → t1 117 = g_tp (t 117) (t 111 12) v n → Q (some (xI (t 111 12 + n))) t1) : ∀ (d : Nat) (k : Nat) (i : Int) (t1 : ih_S) (hd : (k : Int) + d = n) (hi : i = n - 1 - k) (hf : ∀ j, j ≠ 111 → j ≠ 117 → t1 j = t j) (h0 : t1 111 = ih_u1 (t 111) 12 (t 111 12 + k)) (h1 : t1 117 = fun x => if t 111 12 ≤ x ∧ x < t 111 12 + k then ih_by v (n - 1 - (x - t 111 12)) else t 117 x), ih_Wp X 180 24 [xR 111, xI v, xI n, xI i] [] t1 Q := by
  intro d
  induction d with
  | zero =>
    intro k i t1 hd hi hf h0 h1
    have e2 : t1 111 12 = t 111 12 + k := by rw [h0, ih_u1_eq]
    refine ih_seg (i1 := 25) 1 rfl ?_
    refine ih_ifc_lt rfl (by omega) (fun w1 => ?_) (fun w1 => ?_)
    · refine ih_seg (i1 := 47) 1 rfl ?_
      refine ih_getI rfl rfl ?_
      refine ih_ret rfl rfl ?_
      obtain rfl : n = k := by omega
      rw [e2]
      exact K t1 hf h0 h1
    · exfalso
      omega

  | succ d ih =>
    intro k i t1 hd hi hf h0 h1
    have e2 : t1 111 12 = t 111 12 + k := by rw [h0, ih_u1_eq]
    refine ih_seg (i1 := 25) 1 rfl ?_
    refine ih_ifc_lt rfl (by omega) (fun w1 => ?_) (fun w1 => ?_)
    · refine ih_seg (i1 := 47) 1 rfl ?_
      refine ih_getI rfl rfl ?_
      refine ih_ret rfl rfl ?_
      exfalso
      omega
    · refine ih_seg (i1 := 27) 1 rfl ?_
      refine ih_getR rfl rfl ?_
      refine ih_seg (i1 := 29) 1 rfl ?_
      refine ih_getI rfl rfl ?_
      refine ih_seg (i1 := 37) 7 rfl ?_
      try dsimp only
      refine ih_iast rfl (by first | rfl | exact ih_lP1 (ih_P_w0 hc) | exact ih_lP2 (ih_P_w0 hc) | exact ih_lP3 (ih_P_w0 hc) | exact ih_lP4 (ih_P_w0 hc) |  exact ih_lP1 (by assumption) | exact ih_lP2 (by assumption) | exact ih_lP3 (by assumption) | exact ih_lP4 (by assumption) | exact ih_lC1 (by assumption) | exact ih_lS1 (by assumption) | exact ih_lW1 (by assumption) | exact ih_lW2 (by assumption) | exact ih_lW4 (by assumption) | exact ih_lW5 (by assumption)) (by omega) (by omega) (k := ?_)
      refine ih_seg (i1 := 40) 2 rfl ?_
      refine ih_getI rfl rfl ?_
      refine ih_seg (i1 := 43) 2 rfl ?_
      try dsimp only
      refine ih_putI rfl rfl rfl ?_
      refine ih_seg (i1 := 24) 2 rfl ?_
      try simp only [xa_set, List.set_cons_zero, List.set_cons_succ, List.getElem?_cons_zero, List.getElem?_cons_succ]
      refine ih (k + 1) _ _ (by omega) (by omega) (fun j j0 j1 => ?_) ?_ ?_
      · rw [ih_up_ne j0, ih_up_ne j1]
        exact hf j j0 j1
      · rw [ih_up_eq, ih_up_ne (show 111 ≠ 117 by decide), e2, h0]
        funext x
        simp only [ih_u1x]
        (repeat' split) <;> first | rfl | omega
      · rw [ih_up_ne (show 117 ≠ 111 by decide), ih_up_eq, e2, h1]
        funext x
        simp only [ih_u1x]
        (repeat' split) <;> first | rfl | omega | exact congrArg (ih_by v) (by omega) | (rw [show xa_and (xa_shr v (8 * i)) 255 = ih_by v i from rfl]; exact congrArg (ih_by v) (by omega))


theorem r_op_feed {X : List Int} {t : ih_S} {Q : Option xa_V → ih_S → Prop} {a b : Int} (ha : xa_rI a) (hb : xa_rI b) (hz : 0 ≤ t 111 12 ∧ t 111 12 ≤ 120) (K0 : ∀ j : Int, f_feed (t 111 12) b = ih_no j → Q (some (xI (-1000001 - j))) (ih_up t 115 j (t 115 j + 1))) (K : f_feed (t 111 12) b = ih_ok1 (t 111 12 + b) → ∀ t1, (∀ j, j ≠ 111 → j ≠ 117 → t1 j = t j) → t1 111 = ih_u1 (t 111) 12 (t 111 12 + b) → t1 117 = g_tp (t 117) (t 111 12) a b → Q (some (xI (t 111 12 + b))) t1) : ih_Wp X 180 0 [xR 111, xI a, xI b, xC 1] [] t Q := by
  refine ih_seg (i1 := 1) 1 rfl ?_
  refine ih_i2l rfl (by omega) ?_
  refine ih_seg (i1 := 4) 2 rfl ?_
  refine ih_is3 126 rfl rfl (Nat.le_of_ble_eq_true rfl) (Nat.le_of_ble_eq_true rfl) rfl ?_
  refine r_in (by omega) (by omega) (by omega) (fun w1 => ?_) (fun w2 => ?_)
  · refine ih_seg (i1 := 11) 2 rfl ?_
    refine ih_getI rfl rfl ?_
    refine ih_seg (i1 := 15) 3 rfl ?_
    try dsimp only
    refine ih_icmp_le rfl (by omega) (by omega) (fun w3 => ?_) (fun w3 => ?_)
    · refine ih_seg (i1 := 24) 4 rfl ?_
      try simp only [xa_set, List.set_cons_zero, List.set_cons_succ, List.getElem?_cons_zero, List.getElem?_cons_succ]
      first
        | exact K0 0 (by rw [f_feed, if_neg (by omega)])
        | exact K0 1 (by rw [f_feed, if_pos (by omega), if_pos (by omega)])
        | exact r_feed_l (by omega) (by omega) (K (by rw [f_feed, if_pos (by omega), if_neg (by omega)])) b.toNat 0 _ t (by omega) (by omega) (fun _ _ _ => rfl) (by funext x; rw [ih_u1x]; split <;> first | rfl | (next e => subst e; omega)) (by funext x; rw [if_neg (by omega)])
    · refine ih_seg (i1 := 18) 2 rfl ?_
      refine ih_iv1 127 rfl rfl (by first | rfl | exact ih_kP (ih_P_w0 hc) |  exact ih_kP (by assumption) | exact ih_kC (by assumption) | exact ih_kN (by assumption) | exact ih_kS (by assumption) | exact ih_kW (by assumption)) (Nat.le_of_ble_eq_true rfl) (Nat.le_of_ble_eq_true rfl) rfl ?_
      refine r_finds 1 rfl (by omega) ?_
      refine ih_ret rfl rfl ?_
      first
        | exact K0 0 (by rw [f_feed, if_neg (by omega)])
        | exact K0 1 (by rw [f_feed, if_pos (by omega), if_pos (by omega)])
        | exact r_feed_l (by omega) (by omega) (K (by rw [f_feed, if_pos (by omega), if_neg (by omega)])) b.toNat 0 _ t (by omega) (by omega) (fun _ _ _ => rfl) (by funext x; rw [ih_u1x]; split <;> first | rfl | (next e => subst e; omega)) (by funext x; rw [if_neg (by omega)])
  · refine ih_seg (i1 := 8) 3 rfl ?_
    refine ih_iv1 127 rfl rfl (by first | rfl | exact ih_kP (ih_P_w0 hc) |  exact ih_kP (by assumption) | exact ih_kC (by assumption) | exact ih_kN (by assumption) | exact ih_kS (by assumption) | exact ih_kW (by assumption)) (Nat.le_of_ble_eq_true rfl) (Nat.le_of_ble_eq_true rfl) rfl ?_
    refine r_finds 0 rfl (by omega) ?_
    refine ih_ret rfl rfl ?_
    first
      | exact K0 0 (by rw [f_feed, if_neg (by omega)])
      | exact K0 1 (by rw [f_feed, if_pos (by omega), if_pos (by omega)])
      | exact r_feed_l (by omega) (by omega) (K (by rw [f_feed, if_pos (by omega), if_neg (by omega)])) b.toNat 0 _ t (by omega) (by omega) (fun _ _ _ => rfl) (by funext x; rw [ih_u1x]; split <;> first | rfl | (next e => subst e; omega)) (by funext x; rw [if_neg (by omega)])

