/-! Calls that only answer -/
/-- an answer, or a finding -/
abbrev ih_An : Type := Int ⊕ Int
abbrev ih_ok1 (v : Int) : ih_An := Sum.inl v
abbrev ih_no (j : Int) : ih_An := Sum.inr j
/-- the class's half: the answer r, and only what it writes while it reckons has changed (and a finding counted) -/
def ih_roC (t : ih_S) (r : ih_An) (Q : Option xa_V → ih_S → Prop) : Prop := match r with
  | .inl v => ∀ t1, ih_sc t t1 → Q (some (xI v)) t1
  | .inr j => ∀ t1, ih_sc (ih_up t 84 j (t 84 j + 1)) t1 → Q (some (xI (-1000001 - j))) t1
/-- only what the reference writes while it reckons has changed -/
def ih_rr (t t1 : ih_S) : Prop := (∀ j, j < 111 ∨ j = 112 ∨ j = 113 ∨ j = 115 ∨ (117 ≤ j ∧ j ≤ 120) → t1 j = t j) ∧ ∀ f : Int, f < 5 ∨ 9 < f → t1 111 f = t 111 f
theorem ih_rr_r (t : ih_S) : ih_rr t t := ⟨fun _ _ => rfl, fun _ _ => rfl⟩
theorem ih_rr_f {t t1 : ih_S} (a : ih_rf t t1) : ih_rr t t1 := ⟨fun j h => a.1 j (by omega), a.2⟩
theorem ih_rr_t {t t1 t2 : ih_S} (a : ih_rr t t1) (b : ih_rr t1 t2) : ih_rr t t2 := ⟨fun j h => (b.1 j h).trans (a.1 j h), fun f h => (b.2 f h).trans (a.2 f h)⟩
def ih_roR (t : ih_S) (r : ih_An) (Q : Option xa_V → ih_S → Prop) : Prop := match r with
  | .inl v => ∀ t1, ih_rr t t1 → Q (some (xI v)) t1
  | .inr j => ∀ t1, ih_rr (ih_up t 115 j (t 115 j + 1)) t1 → Q (some (xI (-1000001 - j))) t1
theorem ih_sc_up {t t1 : ih_S} {j : Int} (a : ih_sc t t1) : ih_sc (ih_up t 84 j (t 84 j + 1)) (ih_up t1 84 j (t1 84 j + 1)) := by
  intro i hi
  by_cases h : i = 84
  · subst h
    rw [ih_up_eq, ih_up_eq, a 84 (by omega)]
  · rw [ih_up_ne h, ih_up_ne h]
    exact a i hi
theorem ih_rr_up {t t1 : ih_S} {j : Int} (a : ih_rr t t1) : ih_rr (ih_up t 115 j (t 115 j + 1)) (ih_up t1 115 j (t1 115 j + 1)) := by
  refine ⟨fun i hi => ?_, fun f hf => ?_⟩
  · by_cases h : i = 115
    · subst h
      rw [ih_up_eq, ih_up_eq, a.1 115 (by omega)]
    · rw [ih_up_ne h, ih_up_ne h]
      exact a.1 i hi
  · rw [ih_up_ne (by decide), ih_up_ne (by decide)]
    exact a.2 f hf
theorem ih_roC_no {t t1 : ih_S} {r : ih_An} {j : Int} {Q : Option xa_V → ih_S → Prop} (K : ih_roC t r Q) (e : r = ih_no j) (h : ih_sc t t1) : Q (some (xI (-1000001 - j))) (ih_up t1 84 j (t1 84 j + 1)) := by
  subst e
  exact K _ (ih_sc_up h)
theorem ih_roC_ok {t t1 : ih_S} {r : ih_An} {v : Int} {Q : Option xa_V → ih_S → Prop} (K : ih_roC t r Q) (e : r = ih_ok1 v) (h : ih_sc t t1) : Q (some (xI v)) t1 := by
  subst e
  exact K _ h
theorem ih_roR_no {t t1 : ih_S} {r : ih_An} {a : Int} (j : Int) {Q : Option xa_V → ih_S → Prop} (K : ih_roR t r Q) (e : r = ih_no j) (ha : a = -1000001 - j) (h : ih_rr t t1) : Q (some (xI a)) (ih_up t1 115 j (t1 115 j + 1)) := by
  subst e ha
  exact K _ (ih_rr_up h)
theorem ih_roR_ok {t t1 : ih_S} {r : ih_An} {v : Int} {Q : Option xa_V → ih_S → Prop} (K : ih_roR t r Q) (e : r = ih_ok1 v) (h : ih_rr t t1) : Q (some (xI v)) t1 := by
  subst e
  exact K _ h
theorem ih_sc_e {c : Nat} {t t1 : ih_S} (hc : c < 4) (a : ∀ i, i ≠ 92 + 3 * c → t1 i = t i) : ih_sc t t1 := fun j h => a j (by omega)
theorem ih_sc_f {c : Nat} {t t1 : ih_S} (hc : c < 4) (a : ih_fr c t t1) : ih_sc t t1 := fun j h => a j (by omega)
def f_means (s : Int → Int) (a b : Int) : ih_An := if (0 ≤ a ∧ a < 4) ∧ 0 ≤ b ∧ b < 10000 then ih_ok1 (ih_rM s a.toNat b) else ih_no 0

theorem c_means {X : List Int} {t : ih_S} {Q : Option xa_V → ih_S → Prop} {s : Int → Int} {a b : Int} (ha : xa_rI a) (hb : xa_rI b) (W : ih_Wr t 1 s) (G : ih_Gd s) (K : ih_roC t (f_means s a b) Q) : ih_Wp X 70 0 [xR 0, xI a, xI b] [] t Q := by
  refine ih_seg (i1 := 1) 1 rfl ?_
  refine ih_is1 106 rfl rfl (Nat.le_of_ble_eq_true rfl) (Nat.le_of_ble_eq_true rfl) rfl ?_
  refine c_isPaper (by omega) (fun w1 => ?_) (fun w2 => ?_)
  · refine ih_seg (i1 := 4) 2 rfl ?_
    refine ih_is1 104 rfl rfl (Nat.le_of_ble_eq_true rfl) (Nat.le_of_ble_eq_true rfl) rfl ?_
    refine c_isHour (by omega) (fun w3 => ?_) (fun w4 => ?_)
    · refine ih_seg (i1 := 12) 3 rfl ?_
      refine ih_iv1 116 rfl rfl (by first | rfl | exact ih_kP (by assumption) | exact ih_kC (by assumption) | exact ih_kN (by assumption) | exact ih_kS (by assumption) | exact ih_kW (by assumption)) (Nat.le_of_ble_eq_true rfl) (Nat.le_of_ble_eq_true rfl) rfl ?_
      obtain ⟨c, rfl⟩ := Int.eq_ofNat_of_zero_le (show 0 ≤ a by omega)
      have hc : c < 4 := by omega
      have P := ih_PG_W W G hc
      refine c_reckoned hc P (fun t1 hf he => ?_)
      have E1 := ih_EG_en hc P hf he
      have P1 := P.of hc (fun j hj => hf j (by omega))
      refine ih_seg (i1 := 14) 1 rfl ?_
      refine ih_iv1 13 rfl rfl (by first | rfl | exact ih_kP (by assumption) | exact ih_kC (by assumption) | exact ih_kN (by assumption) | exact ih_kS (by assumption) | exact ih_kW (by assumption)) (Nat.le_of_ble_eq_true rfl) (Nat.le_of_ble_eq_true rfl) rfl ?_
      refine c_mean hc P1 E1 (ih_fr_r _ _) (by omega) (fun t2 h2 => ?_)
      refine ih_ret rfl rfl ?_
      refine ih_roC_ok K ?_ (ih_sc_t (ih_sc_e hc hf) (ih_sc_f hc h2))
      rw [f_means, if_pos (by omega), ih_M_cM hc P hf he (by omega), ih_cM_rM W G hc]
      rfl
    · refine ih_seg (i1 := 8) 3 rfl ?_
      refine ih_iv1 102 rfl rfl (by first | rfl | exact ih_kP (by assumption) | exact ih_kC (by assumption) | exact ih_kN (by assumption) | exact ih_kS (by assumption) | exact ih_kW (by assumption)) (Nat.le_of_ble_eq_true rfl) (Nat.le_of_ble_eq_true rfl) rfl ?_
      refine c_finding (by omega) ?_
      refine ih_ret rfl rfl ?_
      exact ih_roC_no K (by rw [f_means, if_neg (by omega)]) (ih_sc_r _)
  · refine ih_seg (i1 := 8) 3 rfl ?_
    refine ih_iv1 102 rfl rfl (by first | rfl | exact ih_kP (by assumption) | exact ih_kC (by assumption) | exact ih_kN (by assumption) | exact ih_kS (by assumption) | exact ih_kW (by assumption)) (Nat.le_of_ble_eq_true rfl) (Nat.le_of_ble_eq_true rfl) rfl ?_
    refine c_finding (by omega) ?_
    refine ih_ret rfl rfl ?_
    exact ih_roC_no K (by rw [f_means, if_neg (by omega)]) (ih_sc_r _)


theorem r_means {X : List Int} {t : ih_S} {Q : Option xa_V → ih_S → Prop} {a b : Int} (ha : xa_rI a) (hb : xa_rI b) (G : ih_Gd (t 112)) (K : ih_roR t (f_means (t 112) a b) Q) : ih_Wp X 158 0 [xR 111, xI a, xI b] [] t Q := by
  refine ih_seg (i1 := 1) 1 rfl ?_
  refine ih_is1 128 rfl rfl (Nat.le_of_ble_eq_true rfl) (Nat.le_of_ble_eq_true rfl) rfl ?_
  refine r_isPaper (by omega) (fun w1 => ?_) (fun w2 => ?_)
  · refine ih_seg (i1 := 4) 2 rfl ?_
    refine ih_is1 130 rfl rfl (Nat.le_of_ble_eq_true rfl) (Nat.le_of_ble_eq_true rfl) rfl ?_
    refine r_isHour (by omega) (fun w3 => ?_) (fun w4 => ?_)
    · refine ih_seg (i1 := 9) 4 rfl ?_
      refine ih_iv2 157 rfl rfl (by first | rfl | exact ih_kP (by assumption) | exact ih_kC (by assumption) | exact ih_kN (by assumption) | exact ih_kS (by assumption) | exact ih_kW (by assumption)) (Nat.le_of_ble_eq_true rfl) (Nat.le_of_ble_eq_true rfl) rfl ?_
      obtain ⟨c, rfl⟩ := Int.eq_ofNat_of_zero_le (show 0 ≤ a by omega)
      have hc : c < 4 := by omega
      refine r_meansAt hc (G.pap c hc) (ih_rf_r _) (by omega) (fun t1 h1 => ?_)
      refine ih_seg (i1 := 14) 1 rfl ?_
      refine ih_ret rfl rfl ?_
      refine ih_roR_ok K ?_ (ih_rr_f h1)
      rw [f_means, if_pos (by omega)]
      rfl
    · refine ih_seg (i1 := 13) 3 rfl ?_
      refine ih_iv1 127 rfl rfl (by first | rfl | exact ih_kP (by assumption) | exact ih_kC (by assumption) | exact ih_kN (by assumption) | exact ih_kS (by assumption) | exact ih_kW (by assumption)) (Nat.le_of_ble_eq_true rfl) (Nat.le_of_ble_eq_true rfl) rfl ?_
      refine r_finds 0 rfl (by omega) ?_
      refine ih_ret rfl rfl ?_
      exact ih_roR_no 0 K (by rw [f_means, if_neg (by omega)]) rfl (ih_rr_r _)
  · refine ih_seg (i1 := 13) 3 rfl ?_
    refine ih_iv1 127 rfl rfl (by first | rfl | exact ih_kP (by assumption) | exact ih_kC (by assumption) | exact ih_kN (by assumption) | exact ih_kS (by assumption) | exact ih_kW (by assumption)) (Nat.le_of_ble_eq_true rfl) (Nat.le_of_ble_eq_true rfl) rfl ?_
    refine r_finds 0 rfl (by omega) ?_
    refine ih_ret rfl rfl ?_
    exact ih_roR_no 0 K (by rw [f_means, if_neg (by omega)]) rfl (ih_rr_r _)


def f_seen (s : Int → Int) (a b : Int) : ih_An := if (0 ≤ a ∧ a < 4) ∧ 0 ≤ b ∧ b < 10000 then ih_ok1 ((ih_set (ih_rs s a.toNat b) (s (22 + a)).toNat : Nat) : Int) else ih_no 0
def f_says (s : Int → Int) (a b d : Int) : ih_An := if (0 ≤ a ∧ a < 4) ∧ (0 ≤ b ∧ b < 10000) ∧ 0 ≤ d ∧ d < 16 then (if ih_rM s a.toNat b < 0 then ih_no 3 else ih_ok1 (xa_and (xa_shr (ih_rM s a.toNat b) d) 1)) else ih_no 0
def f_same (s : Int → Int) (a b d : Int) : ih_An := if (0 ≤ a ∧ a < 4) ∧ (0 ≤ b ∧ b < 4) ∧ 0 ≤ d ∧ d < 10000 then ih_ok1 (if ih_rM s a.toNat d = ih_rM s b.toNat d then 1 else 0) else ih_no 0

theorem c_seen {X : List Int} {t : ih_S} {Q : Option xa_V → ih_S → Prop} {s : Int → Int} {a b : Int} (ha : xa_rI a) (hb : xa_rI b) (W : ih_Wr t 1 s) (G : ih_Gd s) (K : ih_roC t (f_seen s a b) Q) : ih_Wp X 67 0 [xR 0, xI a, xI b] [] t Q := by
  refine ih_seg (i1 := 1) 1 rfl ?_
  refine ih_is1 106 rfl rfl (Nat.le_of_ble_eq_true rfl) (Nat.le_of_ble_eq_true rfl) rfl ?_
  refine c_isPaper (by omega) (fun w1 => ?_) (fun w2 => ?_)
  · refine ih_seg (i1 := 4) 2 rfl ?_
    refine ih_is1 104 rfl rfl (Nat.le_of_ble_eq_true rfl) (Nat.le_of_ble_eq_true rfl) rfl ?_
    refine c_isHour (by omega) (fun w3 => ?_) (fun w4 => ?_)
    · refine ih_seg (i1 := 12) 3 rfl ?_
      refine ih_iv1 116 rfl rfl (by first | rfl | exact ih_kP (by assumption) | exact ih_kC (by assumption) | exact ih_kN (by assumption) | exact ih_kS (by assumption) | exact ih_kW (by assumption)) (Nat.le_of_ble_eq_true rfl) (Nat.le_of_ble_eq_true rfl) rfl ?_
      obtain ⟨c, rfl⟩ := Int.eq_ofNat_of_zero_le (show 0 ≤ a by omega)
      have hc : c < 4 := by omega
      have P := ih_PG_W W G hc
      refine c_reckoned hc P (fun t1 hf he => ?_)
      have E1 := ih_EG_en hc P hf he
      have P1 := P.of hc (fun j hj => hf j (by omega))
      refine ih_seg (i1 := 14) 1 rfl ?_
      refine ih_iv1 10 rfl rfl (by first | rfl | exact ih_kP (by assumption) | exact ih_kC (by assumption) | exact ih_kN (by assumption) | exact ih_kS (by assumption) | exact ih_kW (by assumption)) (Nat.le_of_ble_eq_true rfl) (Nat.le_of_ble_eq_true rfl) rfl ?_
      refine c_seenAt hc P1 E1 (by omega) ?_
      refine ih_ret rfl rfl ?_
      refine ih_roC_ok K ?_ (ih_sc_e hc hf)
      have z := (G.pap c hc).sz
      rw [f_seen, if_pos (by omega), hf (7 + 5 * c) (by omega), ih_W_sz W hc]
      have e : ih_set (ih_sf t1 c b) (s (22 + c)).toNat = ih_set (ih_rs s c b) (s (22 + c)).toNat := ih_set_congr (fun k hk => (ih_sf_cs hc P hf he (by omega) (by rw [ih_W_sz W hc]; omega)).trans (ih_cs_rs W G hc (by omega)))
      rw [e]
      rfl
    · refine ih_seg (i1 := 8) 3 rfl ?_
      refine ih_iv1 102 rfl rfl (by first | rfl | exact ih_kP (by assumption) | exact ih_kC (by assumption) | exact ih_kN (by assumption) | exact ih_kS (by assumption) | exact ih_kW (by assumption)) (Nat.le_of_ble_eq_true rfl) (Nat.le_of_ble_eq_true rfl) rfl ?_
      refine c_finding (by omega) ?_
      refine ih_ret rfl rfl ?_
      exact ih_roC_no K (by rw [f_seen, if_neg (by omega)]) (ih_sc_r _)
  · refine ih_seg (i1 := 8) 3 rfl ?_
    refine ih_iv1 102 rfl rfl (by first | rfl | exact ih_kP (by assumption) | exact ih_kC (by assumption) | exact ih_kN (by assumption) | exact ih_kS (by assumption) | exact ih_kW (by assumption)) (Nat.le_of_ble_eq_true rfl) (Nat.le_of_ble_eq_true rfl) rfl ?_
    refine c_finding (by omega) ?_
    refine ih_ret rfl rfl ?_
    exact ih_roC_no K (by rw [f_seen, if_neg (by omega)]) (ih_sc_r _)


theorem r_seen {X : List Int} {t : ih_S} {Q : Option xa_V → ih_S → Prop} {a b : Int} (ha : xa_rI a) (hb : xa_rI b) (G : ih_Gd (t 112)) (K : ih_roR t (f_seen (t 112) a b) Q) : ih_Wp X 150 0 [xR 111, xI a, xI b] [] t Q := by
  refine ih_seg (i1 := 1) 1 rfl ?_
  refine ih_is1 128 rfl rfl (Nat.le_of_ble_eq_true rfl) (Nat.le_of_ble_eq_true rfl) rfl ?_
  refine r_isPaper (by omega) (fun w1 => ?_) (fun w2 => ?_)
  · refine ih_seg (i1 := 4) 2 rfl ?_
    refine ih_is1 130 rfl rfl (Nat.le_of_ble_eq_true rfl) (Nat.le_of_ble_eq_true rfl) rfl ?_
    refine r_isHour (by omega) (fun w3 => ?_) (fun w4 => ?_)
    · refine ih_seg (i1 := 9) 4 rfl ?_
      refine ih_iv2 149 rfl rfl (by first | rfl | exact ih_kP (by assumption) | exact ih_kC (by assumption) | exact ih_kN (by assumption) | exact ih_kS (by assumption) | exact ih_kW (by assumption)) (Nat.le_of_ble_eq_true rfl) (Nat.le_of_ble_eq_true rfl) rfl ?_
      obtain ⟨c, rfl⟩ := Int.eq_ofNat_of_zero_le (show 0 ≤ a by omega)
      have hc : c < 4 := by omega
      refine r_seenOf hc (G.pap c hc) (by omega) ?_
      refine ih_seg (i1 := 14) 1 rfl ?_
      refine ih_ret rfl rfl ?_
      refine ih_roR_ok K ?_ (ih_rr_r _)
      rw [f_seen, if_pos (by omega)]
      rfl
    · refine ih_seg (i1 := 13) 3 rfl ?_
      refine ih_iv1 127 rfl rfl (by first | rfl | exact ih_kP (by assumption) | exact ih_kC (by assumption) | exact ih_kN (by assumption) | exact ih_kS (by assumption) | exact ih_kW (by assumption)) (Nat.le_of_ble_eq_true rfl) (Nat.le_of_ble_eq_true rfl) rfl ?_
      refine r_finds 0 rfl (by omega) ?_
      refine ih_ret rfl rfl ?_
      exact ih_roR_no 0 K (by rw [f_seen, if_neg (by omega)]) rfl (ih_rr_r _)
  · refine ih_seg (i1 := 13) 3 rfl ?_
    refine ih_iv1 127 rfl rfl (by first | rfl | exact ih_kP (by assumption) | exact ih_kC (by assumption) | exact ih_kN (by assumption) | exact ih_kS (by assumption) | exact ih_kW (by assumption)) (Nat.le_of_ble_eq_true rfl) (Nat.le_of_ble_eq_true rfl) rfl ?_
    refine r_finds 0 rfl (by omega) ?_
    refine ih_ret rfl rfl ?_
    exact ih_roR_no 0 K (by rw [f_seen, if_neg (by omega)]) rfl (ih_rr_r _)


theorem c_says {X : List Int} {t : ih_S} {Q : Option xa_V → ih_S → Prop} {s : Int → Int} {a b d : Int} (ha : xa_rI a) (hb : xa_rI b) (hd : xa_rI d) (W : ih_Wr t 1 s) (G : ih_Gd s) (K : ih_roC t (f_says s a b d) Q) : ih_Wp X 71 0 [xR 0, xI a, xI b, xI d, xC 1] [] t Q := by
  refine ih_seg (i1 := 1) 1 rfl ?_
  refine ih_is1 106 rfl rfl (Nat.le_of_ble_eq_true rfl) (Nat.le_of_ble_eq_true rfl) rfl ?_
  refine c_isPaper (by omega) (fun w1 => ?_) (fun w2 => ?_)
  · refine ih_seg (i1 := 4) 2 rfl ?_
    refine ih_is1 104 rfl rfl (Nat.le_of_ble_eq_true rfl) (Nat.le_of_ble_eq_true rfl) rfl ?_
    refine c_isHour (by omega) (fun w3 => ?_) (fun w4 => ?_)
    · refine ih_seg (i1 := 9) 4 rfl ?_
      refine ih_is3 103 rfl rfl (Nat.le_of_ble_eq_true rfl) (Nat.le_of_ble_eq_true rfl) rfl ?_
      refine c_within (by omega) (by omega) (by omega) (fun w5 => ?_) (fun w6 => ?_)
      · refine ih_seg (i1 := 17) 3 rfl ?_
        refine ih_iv1 116 rfl rfl (by first | rfl | exact ih_kP (by assumption) | exact ih_kC (by assumption) | exact ih_kN (by assumption) | exact ih_kS (by assumption) | exact ih_kW (by assumption)) (Nat.le_of_ble_eq_true rfl) (Nat.le_of_ble_eq_true rfl) rfl ?_
        obtain ⟨c, rfl⟩ := Int.eq_ofNat_of_zero_le (show 0 ≤ a by omega)
        have hc : c < 4 := by omega
        have P := ih_PG_W W G hc
        refine c_reckoned hc P (fun t1 hf he => ?_)
        have E1 := ih_EG_en hc P hf he
        have P1 := P.of hc (fun j hj => hf j (by omega))
        refine ih_seg (i1 := 19) 1 rfl ?_
        refine ih_iv1 13 rfl rfl (by first | rfl | exact ih_kP (by assumption) | exact ih_kC (by assumption) | exact ih_kN (by assumption) | exact ih_kS (by assumption) | exact ih_kW (by assumption)) (Nat.le_of_ble_eq_true rfl) (Nat.le_of_ble_eq_true rfl) rfl ?_
        have em : ih_M t1 c b = ih_rM s c b := (ih_M_cM hc P hf he (by omega)).trans (ih_cM_rM W G hc)
        have mr := ih_rM_rg s c b
        refine c_mean hc P1 E1 (ih_fr_r _ _) (by omega) (fun t2 h2 => ?_)
        rw [em]
        refine ih_seg (i1 := 23) 3 rfl ?_
        try simp only [xa_set, List.set_cons_zero, List.set_cons_succ, List.getElem?_cons_zero, List.getElem?_cons_succ]
        refine ih_icmp_ne rfl (by omega) (by omega) (fun w7 => ?_) (fun w7 => ?_)
        · refine ih_seg (i1 := 33) 5 rfl ?_
          try dsimp only
          refine ih_ret rfl rfl ?_
          first
            | (refine ih_roC_ok K ?_ (ih_sc_t (ih_sc_e hc hf) (ih_sc_f hc h2))
               rw [f_says, if_pos (by omega), if_neg (by show ¬ ih_rM s c b < 0; omega)]
               rfl)
            | exact ih_roC_no K (by rw [f_says, if_pos (by omega), if_pos (by show ih_rM s c b < 0; omega)]) (ih_sc_t (ih_sc_e hc hf) (ih_sc_f hc h2))
            | exact ih_roC_no K (by rw [f_says, if_neg (by omega)]) (ih_sc_r _)
        · refine ih_seg (i1 := 26) 2 rfl ?_
          refine ih_iv1 102 rfl rfl (by first | rfl | exact ih_kP (by assumption) | exact ih_kC (by assumption) | exact ih_kN (by assumption) | exact ih_kS (by assumption) | exact ih_kW (by assumption)) (Nat.le_of_ble_eq_true rfl) (Nat.le_of_ble_eq_true rfl) rfl ?_
          refine c_finding (by omega) ?_
          refine ih_seg (i1 := 33) 1 rfl ?_
          refine ih_ret rfl rfl ?_
          first
            | (refine ih_roC_ok K ?_ (ih_sc_t (ih_sc_e hc hf) (ih_sc_f hc h2))
               rw [f_says, if_pos (by omega), if_neg (by show ¬ ih_rM s c b < 0; omega)]
               rfl)
            | exact ih_roC_no K (by rw [f_says, if_pos (by omega), if_pos (by show ih_rM s c b < 0; omega)]) (ih_sc_t (ih_sc_e hc hf) (ih_sc_f hc h2))
            | exact ih_roC_no K (by rw [f_says, if_neg (by omega)]) (ih_sc_r _)
      · refine ih_seg (i1 := 13) 3 rfl ?_
        refine ih_iv1 102 rfl rfl (by first | rfl | exact ih_kP (by assumption) | exact ih_kC (by assumption) | exact ih_kN (by assumption) | exact ih_kS (by assumption) | exact ih_kW (by assumption)) (Nat.le_of_ble_eq_true rfl) (Nat.le_of_ble_eq_true rfl) rfl ?_
        refine c_finding (by omega) ?_
        refine ih_ret rfl rfl ?_
        first
          | (refine ih_roC_ok K ?_ (ih_sc_t (ih_sc_e hc hf) (ih_sc_f hc h2))
             rw [f_says, if_pos (by omega), if_neg (by show ¬ ih_rM s c b < 0; omega)]
             rfl)
          | exact ih_roC_no K (by rw [f_says, if_pos (by omega), if_pos (by show ih_rM s c b < 0; omega)]) (ih_sc_t (ih_sc_e hc hf) (ih_sc_f hc h2))
          | exact ih_roC_no K (by rw [f_says, if_neg (by omega)]) (ih_sc_r _)
    · refine ih_seg (i1 := 13) 3 rfl ?_
      refine ih_iv1 102 rfl rfl (by first | rfl | exact ih_kP (by assumption) | exact ih_kC (by assumption) | exact ih_kN (by assumption) | exact ih_kS (by assumption) | exact ih_kW (by assumption)) (Nat.le_of_ble_eq_true rfl) (Nat.le_of_ble_eq_true rfl) rfl ?_
      refine c_finding (by omega) ?_
      refine ih_ret rfl rfl ?_
      first
        | (refine ih_roC_ok K ?_ (ih_sc_t (ih_sc_e hc hf) (ih_sc_f hc h2))
           rw [f_says, if_pos (by omega), if_neg (by show ¬ ih_rM s c b < 0; omega)]
           rfl)
        | exact ih_roC_no K (by rw [f_says, if_pos (by omega), if_pos (by show ih_rM s c b < 0; omega)]) (ih_sc_t (ih_sc_e hc hf) (ih_sc_f hc h2))
        | exact ih_roC_no K (by rw [f_says, if_neg (by omega)]) (ih_sc_r _)
  · refine ih_seg (i1 := 13) 3 rfl ?_
    refine ih_iv1 102 rfl rfl (by first | rfl | exact ih_kP (by assumption) | exact ih_kC (by assumption) | exact ih_kN (by assumption) | exact ih_kS (by assumption) | exact ih_kW (by assumption)) (Nat.le_of_ble_eq_true rfl) (Nat.le_of_ble_eq_true rfl) rfl ?_
    refine c_finding (by omega) ?_
    refine ih_ret rfl rfl ?_
    first
      | (refine ih_roC_ok K ?_ (ih_sc_t (ih_sc_e hc hf) (ih_sc_f hc h2))
         rw [f_says, if_pos (by omega), if_neg (by show ¬ ih_rM s c b < 0; omega)]
         rfl)
      | exact ih_roC_no K (by rw [f_says, if_pos (by omega), if_pos (by show ih_rM s c b < 0; omega)]) (ih_sc_t (ih_sc_e hc hf) (ih_sc_f hc h2))
      | exact ih_roC_no K (by rw [f_says, if_neg (by omega)]) (ih_sc_r _)


theorem r_says {X : List Int} {t : ih_S} {Q : Option xa_V → ih_S → Prop} {a b d : Int} (ha : xa_rI a) (hb : xa_rI b) (hd : xa_rI d) (G : ih_Gd (t 112)) (K : ih_roR t (f_says (t 112) a b d) Q) : ih_Wp X 159 0 [xR 111, xI a, xI b, xI d, xC 1] [] t Q := by
  refine ih_seg (i1 := 1) 1 rfl ?_
  refine ih_is1 128 rfl rfl (Nat.le_of_ble_eq_true rfl) (Nat.le_of_ble_eq_true rfl) rfl ?_
  refine r_isPaper (by omega) (fun w1 => ?_) (fun w2 => ?_)
  · refine ih_seg (i1 := 4) 2 rfl ?_
    refine ih_is1 130 rfl rfl (Nat.le_of_ble_eq_true rfl) (Nat.le_of_ble_eq_true rfl) rfl ?_
    refine r_isHour (by omega) (fun w3 => ?_) (fun w4 => ?_)
    · refine ih_seg (i1 := 7) 2 rfl ?_
      refine ih_i2l rfl (by omega) ?_
      refine ih_seg (i1 := 10) 2 rfl ?_
      refine ih_is3 126 rfl rfl (Nat.le_of_ble_eq_true rfl) (Nat.le_of_ble_eq_true rfl) rfl ?_
      refine r_in (by omega) (by omega) (by omega) (fun w5 => ?_) (fun w6 => ?_)
      · refine ih_seg (i1 := 19) 4 rfl ?_
        refine ih_iv2 157 rfl rfl (by first | rfl | exact ih_kP (by assumption) | exact ih_kC (by assumption) | exact ih_kN (by assumption) | exact ih_kS (by assumption) | exact ih_kW (by assumption)) (Nat.le_of_ble_eq_true rfl) (Nat.le_of_ble_eq_true rfl) rfl ?_
        obtain ⟨c, rfl⟩ := Int.eq_ofNat_of_zero_le (show 0 ≤ a by omega)
        have hc : c < 4 := by omega
        refine r_meansAt hc (G.pap c hc) (ih_rf_r _) (by omega) (fun t1 h1 => ?_)
        have mr := ih_rM_rg (t 112) c b
        refine ih_seg (i1 := 22) 2 rfl ?_
        try simp only [xa_set, List.set_cons_zero, List.set_cons_succ, List.getElem?_cons_zero, List.getElem?_cons_succ]
        refine ih_ifc_ge rfl (by omega) (fun w7 => ?_) (fun w7 => ?_)
        · refine ih_seg (i1 := 32) 5 rfl ?_
          try dsimp only
          refine ih_ret rfl rfl ?_
          first
            | (refine ih_roR_ok K ?_ (ih_rr_f h1)
               rw [f_says, if_pos (by omega), if_neg (by show ¬ ih_rM (t 112) c b < 0; omega)]
               rfl)
            | exact ih_roR_no 3 K (by rw [f_says, if_pos (by omega), if_pos (by show ih_rM (t 112) c b < 0; omega)]) rfl (ih_rr_f h1)
            | exact ih_roR_no 0 K (by rw [f_says, if_neg (by omega)]) rfl (ih_rr_r _)
        · refine ih_seg (i1 := 25) 2 rfl ?_
          refine ih_iv1 127 rfl rfl (by first | rfl | exact ih_kP (by assumption) | exact ih_kC (by assumption) | exact ih_kN (by assumption) | exact ih_kS (by assumption) | exact ih_kW (by assumption)) (Nat.le_of_ble_eq_true rfl) (Nat.le_of_ble_eq_true rfl) rfl ?_
          refine r_finds 3 rfl (by omega) ?_
          refine ih_seg (i1 := 32) 1 rfl ?_
          refine ih_ret rfl rfl ?_
          first
            | (refine ih_roR_ok K ?_ (ih_rr_f h1)
               rw [f_says, if_pos (by omega), if_neg (by show ¬ ih_rM (t 112) c b < 0; omega)]
               rfl)
            | exact ih_roR_no 3 K (by rw [f_says, if_pos (by omega), if_pos (by show ih_rM (t 112) c b < 0; omega)]) rfl (ih_rr_f h1)
            | exact ih_roR_no 0 K (by rw [f_says, if_neg (by omega)]) rfl (ih_rr_r _)
      · refine ih_seg (i1 := 14) 3 rfl ?_
        refine ih_iv1 127 rfl rfl (by first | rfl | exact ih_kP (by assumption) | exact ih_kC (by assumption) | exact ih_kN (by assumption) | exact ih_kS (by assumption) | exact ih_kW (by assumption)) (Nat.le_of_ble_eq_true rfl) (Nat.le_of_ble_eq_true rfl) rfl ?_
        refine r_finds 0 rfl (by omega) ?_
        refine ih_ret rfl rfl ?_
        first
          | (refine ih_roR_ok K ?_ (ih_rr_f h1)
             rw [f_says, if_pos (by omega), if_neg (by show ¬ ih_rM (t 112) c b < 0; omega)]
             rfl)
          | exact ih_roR_no 3 K (by rw [f_says, if_pos (by omega), if_pos (by show ih_rM (t 112) c b < 0; omega)]) rfl (ih_rr_f h1)
          | exact ih_roR_no 0 K (by rw [f_says, if_neg (by omega)]) rfl (ih_rr_r _)
    · refine ih_seg (i1 := 14) 3 rfl ?_
      refine ih_iv1 127 rfl rfl (by first | rfl | exact ih_kP (by assumption) | exact ih_kC (by assumption) | exact ih_kN (by assumption) | exact ih_kS (by assumption) | exact ih_kW (by assumption)) (Nat.le_of_ble_eq_true rfl) (Nat.le_of_ble_eq_true rfl) rfl ?_
      refine r_finds 0 rfl (by omega) ?_
      refine ih_ret rfl rfl ?_
      first
        | (refine ih_roR_ok K ?_ (ih_rr_f h1)
           rw [f_says, if_pos (by omega), if_neg (by show ¬ ih_rM (t 112) c b < 0; omega)]
           rfl)
        | exact ih_roR_no 3 K (by rw [f_says, if_pos (by omega), if_pos (by show ih_rM (t 112) c b < 0; omega)]) rfl (ih_rr_f h1)
        | exact ih_roR_no 0 K (by rw [f_says, if_neg (by omega)]) rfl (ih_rr_r _)
  · refine ih_seg (i1 := 14) 3 rfl ?_
    refine ih_iv1 127 rfl rfl (by first | rfl | exact ih_kP (by assumption) | exact ih_kC (by assumption) | exact ih_kN (by assumption) | exact ih_kS (by assumption) | exact ih_kW (by assumption)) (Nat.le_of_ble_eq_true rfl) (Nat.le_of_ble_eq_true rfl) rfl ?_
    refine r_finds 0 rfl (by omega) ?_
    refine ih_ret rfl rfl ?_
    first
      | (refine ih_roR_ok K ?_ (ih_rr_f h1)
         rw [f_says, if_pos (by omega), if_neg (by show ¬ ih_rM (t 112) c b < 0; omega)]
         rfl)
      | exact ih_roR_no 3 K (by rw [f_says, if_pos (by omega), if_pos (by show ih_rM (t 112) c b < 0; omega)]) rfl (ih_rr_f h1)
      | exact ih_roR_no 0 K (by rw [f_says, if_neg (by omega)]) rfl (ih_rr_r _)

