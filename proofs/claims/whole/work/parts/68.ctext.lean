/-! texts: what an item keeps; the class's text -/
theorem ih_pI_G {f : Int → Int} {n st : Int} {s : Int → Int} (G : ih_Gd s) : ih_Gd (ih_pI f n st s).2.2 := by
  unfold ih_pI
  split
  · split
    · split
      · split
        · split
          · exact ih_Gu_pri (by omega) (by omega) (ih_Gu_las (by omega) (by omega) G)
          · exact ih_Gu_las (by omega) (by omega) G
        · exact ih_Gu_las (by omega) (by omega) G
      · exact G
    · exact G
  · exact G
theorem ih_pP_G {f : Int → Int} {n st : Int} {s : Int → Int} (G : ih_Gd s) : ih_Gd (ih_pP f n st s).2.2 := by
  unfold ih_pP
  split
  · next q =>
    obtain ⟨p, hp⟩ := Int.eq_ofNat_of_zero_le q.2.1
    rw [hp]
    split
    · exact ih_Gu_lit (by omega) (by omega) G
    · split
      · exact ih_Gu_lit (by omega) (by omega) G
      · exact G
  · exact G
theorem ih_pM_G {f : Int → Int} {n : Int} {p : Nat} {ink z : Int} (hc : p < 4) (hi : 0 ≤ ink ∧ ink < 8) : ∀ (d : Nat) (st : Int) (s : Int → Int), ih_Gd s → ih_Gd (ih_pM f n p ink z d st s).2.2
  | 0, st, s, G => G
  | d + 1, st, s, G => by
    have g0 := (G.pap p hc).sz
    have hk := ih_knd_rg (f := f) (n := n) (st := st)
    have hk1 := ih_knd_1 (f := f) (n := n) (st := st)
    have hl := ih_ltr_rg (f := f) (n := n) (st := st)
    have hl2 := ih_ltr_rg (f := f) (n := n) (st := ih_adv f n st)
    rw [ih_pM]
    split
    · exact G
    · split
      · exact G
      · split
        · split
          · exact G
          · exact ih_pM_G hc hi d _ _ (ih_Gu_nm hc (by omega) (by omega) (by omega) hi G)
        · exact ih_pM_G hc hi d _ _ (ih_Gu_nm hc (by omega) (by omega) (by split <;> omega) hi G)
theorem ih_pO_G {f : Int → Int} {n st : Int} {s : Int → Int} (G : ih_Gd s) : ih_Gd (ih_pO f n st s).2.2 := by
  unfold ih_pO ih_pMs
  split
  · split
    · split
      · exact ih_pM_G (by omega) (by omega) _ _ _ G
      · exact G
    · exact ih_pM_G (by omega) (by omega) _ _ _ G
  · exact G
theorem ih_pT_G {f : Int → Int} {n st : Int} {s : Int → Int} (G : ih_Gd s) : ih_Gd (ih_pT f n st s).2.2 := by
  unfold ih_pT
  split
  · exact ih_pI_G G
  · split
    · exact ih_pP_G G
    · split
      · exact ih_pO_G G
      · exact G
theorem ih_adv_le {f : Int → Int} {n st : Int} (h : st ≤ n) : st ≤ ih_adv f n st ∧ ih_adv f n st ≤ n := ⟨(ih_adv_b h).1, (ih_adv_b h).2.1⟩
theorem ih_pI_b {f : Int → Int} {n st : Int} {s : Int → Int} (h : st ≤ n) : st ≤ (ih_pI f n st s).2.1 ∧ (ih_pI f n st s).2.1 ≤ n := by
  have h1 := ih_adv_le (f := f) h
  have h2 := ih_adv_le (f := f) h1.2
  have h3 := ih_adv_le (f := f) h2.2
  have h4 := ih_adv_le (f := f) h3.2
  have h5 := ih_adv_le (f := f) h4.2
  unfold ih_pI
  repeat' split
  all_goals
    dsimp only
    omega
theorem ih_pP_b {f : Int → Int} {n st : Int} {s : Int → Int} (h : st ≤ n) : st ≤ (ih_pP f n st s).2.1 ∧ (ih_pP f n st s).2.1 ≤ n := by
  have h1 := ih_adv_le (f := f) h
  have h2 := ih_adv_le (f := f) h1.2
  unfold ih_pP
  repeat' split
  all_goals
    dsimp only
    omega
theorem ih_pM_b {f : Int → Int} {n : Int} {p : Nat} {ink z : Int} : ∀ (d : Nat) (st : Int) (s : Int → Int), st ≤ n → st ≤ (ih_pM f n p ink z d st s).2.1 ∧ (ih_pM f n p ink z d st s).2.1 ≤ n
  | 0, st, s, h => ⟨Int.le_refl _, h⟩
  | d + 1, st, s, h => by
    have h1 := ih_adv_le (f := f) h
    have h2 := ih_adv_le (f := f) h1.2
    rw [ih_pM]
    split
    · exact ⟨Int.le_refl _, h⟩
    · split
      · exact ⟨Int.le_refl _, h⟩
      · split
        · split
          · exact h1
          · have := ih_pM_b (f := f) (p := p) (ink := ink) (z := z) d (ih_adv f n (ih_adv f n st)) (ih_nm s p (ih_knd f n st) (ih_ltr f n (ih_adv f n st)) ink) h2.2
            omega
        · have := ih_pM_b (f := f) (p := p) (ink := ink) (z := z) d (ih_adv f n st) (ih_nm s p (ih_knd f n st) (if ih_knd f n st = 1 then ih_ltr f n st else 0) ink) h1.2
          omega
theorem ih_pO_b {f : Int → Int} {n st : Int} {s : Int → Int} (h : st ≤ n) : st ≤ (ih_pO f n st s).2.1 ∧ (ih_pO f n st s).2.1 ≤ n := by
  have h1 := ih_adv_le (f := f) h
  have h2 := ih_adv_le (f := f) h1.2
  have h3 := ih_adv_le (f := f) h2.2
  unfold ih_pO ih_pMs
  split
  · split
    · split
      · have := ih_pM_b (f := f) (p := (ih_num f n st).toNat) (ink := ih_num f n (ih_adv f n (ih_adv f n st))) (z := s (22 + (ih_num f n st).toNat)) (13 - s (22 + (ih_num f n st).toNat)).toNat (ih_adv f n (ih_adv f n (ih_adv f n st))) s h3.2
        omega
      · dsimp only
        omega
    · have := ih_pM_b (f := f) (p := (ih_num f n st).toNat) (ink := 0) (z := s (22 + (ih_num f n st).toNat)) (13 - s (22 + (ih_num f n st).toNat)).toNat (ih_adv f n st) s h1.2
      omega
  · dsimp only
    omega
theorem ih_pT_b {f : Int → Int} {n st : Int} {s : Int → Int} (h : st ≤ n) : st ≤ (ih_pT f n st s).2.1 ∧ (ih_pT f n st s).2.1 ≤ n := by
  have h1 := ih_adv_le (f := f) h
  unfold ih_pT
  split
  · have := ih_pI_b (f := f) (s := s) h1.2
    omega
  · split
    · have := ih_pP_b (f := f) (s := s) h1.2
      omega
    · split
      · have := ih_pO_b (f := f) (s := s) h1.2
        omega
      · dsimp only
        omega
theorem ih_pT_e {f : Int → Int} {n st : Int} {s : Int → Int} (h : n ≤ st) : ih_pT f n st s = (0, st, s) := by
  have hk : ih_kk f n st = 0 := ih_kk0.2 h
  have hn : ∀ xs, ¬ ih_is f n st xs := fun xs q => by
    have := (ih_is_iff.1 q).1
    omega
  rw [ih_pT, if_neg (hn _), if_neg (hn _), if_neg (hn _)]
theorem ih_v_text_rg {f : Int → Int} {n : Int} {s : Int → Int} (hn : 0 ≤ n ∧ n ≤ 120) : xa_rI (v_text f n s) := by
  have hs := ih_sp_b (f := f) (n := n) (e := 0) hn.1
  exact ih_pL_rg 120 1 _ s (by omega) (fun s st h => by have := ih_pT_b (f := f) (s := s) h.2; omega) (by omega) hn.2
/-- a text has been read: the class -/
def ih_tf (t t1 : ih_S) : Prop := ∀ j, j = 0 ∨ (27 ≤ j ∧ j < 53) ∨ (79 ≤ j ∧ j ≠ 80 ∧ j ≠ 82) → t1 j = t j

theorem c_op_text {X : List Int} {t : ih_S} {Q : Option xa_V → ih_S → Prop} {f : Int → Int} {n : Int} {s : Int → Int} (T : ih_BT t f n) (hn : t 80 2 = n) (W : ih_Wr t 1 s) (G : ih_Gd s) (K : ∀ t1, ih_tf t t1 → t1 80 2 = 0 → ih_Wr t1 1 (g_text f n s) → ih_Gd (g_text f n s) → Q (some (xI (v_text f n s))) t1)  : ih_Wp X 89 0 [xR 0, xC 1] [] t Q := by
  have hrg := ih_v_text_rg (f := f) (n := n) (s := s) T.1
  refine ih_seg (i1 := 1) 1 rfl ?_
  refine ih_getR rfl rfl ?_
  refine ih_seg (i1 := 3) 1 rfl ?_
  refine ih_getR rfl rfl ?_
  refine ih_iv1 54 rfl rfl (by first | rfl | exact ih_kP (ih_P_w0 hc) |  exact ih_kP (by assumption) | exact ih_kC (by assumption) | exact ih_kN (by assumption) | exact ih_kS (by assumption) | exact ih_kW (by assumption)) (Nat.le_of_ble_eq_true rfl) (Nat.le_of_ble_eq_true rfl) rfl ?_
  refine c_become (B := 53) (D := 1) (by unfold ih_isW; decide) (by unfold ih_isW; decide) (by omega) W G (fun t1 f1 W1 => ?_)
  refine ih_seg (i1 := 6) 1 rfl ?_
  refine ih_getR rfl rfl ?_
  refine ih_iv0 44 rfl rfl (by first | rfl | exact ih_kP (ih_P_w0 hc) |  exact ih_kP (by assumption) | exact ih_kC (by assumption) | exact ih_kN (by assumption) | exact ih_kS (by assumption) | exact ih_kW (by assumption)) (Nat.le_of_ble_eq_true rfl) (Nat.le_of_ble_eq_true rfl) rfl ?_
  refine c_readItems (t := t1) (f := f) (n := n) (s := s) ⟨T.1, fun k k0 k1 => by rw [f1 81 (by omega)]; exact T.2 k k0 k1⟩ (by rw [f1 80 (by omega)]; exact hn) (ih_Wr_of W (fun j h0 h1 => f1 j (by omega))) G (fun t2 r2 h2 => ?_)
  have W5 : ih_Wr (ih_up t2 80 2 0) 53 s := ih_Wr_of W1 (fun j h0 h1 => by rw [ih_up_ne (by omega)]; exact r2.2 j (by omega) (by omega) (by omega))
  refine ih_seg (i1 := 10) 2 rfl ?_
  try simp only [xa_set, List.set_cons_zero, List.set_cons_succ, List.getElem?_cons_zero, List.getElem?_cons_succ]
  refine ih_getR rfl rfl ?_
  refine ih_seg (i1 := 12) 1 rfl ?_
  refine ih_putI rfl rfl rfl ?_
  refine ih_seg (i1 := 14) 1 rfl ?_
  refine ih_ifc_ge rfl (by omega) (fun w1 => ?_) (fun w1 => ?_)
  · refine ih_seg (i1 := 21) 1 rfl ?_
    refine ih_ret rfl rfl ?_
    have h4 := h2 (by omega)
    refine K _ (fun j hj => ?_) (by rw [ih_up_eq, ih_u1_eq]) (ih_Wr_of h4.1 (fun j h0 h1 => ih_up_ne (by omega))) h4.2
    rw [ih_up_ne (by omega)]
    rcases (by omega : j = 0 ∨ 27 ≤ j) with e | e
    · rw [e, r2.1]
      exact f1 0 (by omega)
    · rw [r2.2 j e (by omega) (by omega)]
      exact f1 j (by omega)
  · refine ih_seg (i1 := 16) 1 rfl ?_
    refine ih_getR rfl rfl ?_
    refine ih_seg (i1 := 18) 1 rfl ?_
    refine ih_getR rfl rfl ?_
    refine ih_iv1 54 rfl rfl (by first | rfl | exact ih_kP (ih_P_w0 hc) |  exact ih_kP (by assumption) | exact ih_kC (by assumption) | exact ih_kN (by assumption) | exact ih_kS (by assumption) | exact ih_kW (by assumption)) (Nat.le_of_ble_eq_true rfl) (Nat.le_of_ble_eq_true rfl) rfl ?_
    refine c_become (B := 1) (D := 53) (by unfold ih_isW; decide) (by unfold ih_isW; decide) (by omega) W5 G (fun t3 f3 W3 => ?_)
    refine ih_seg (i1 := 21) 1 rfl ?_
    refine ih_ret rfl rfl ?_
    have eg : g_text f n s = s := by rw [g_text, if_neg (by omega)]
    rw [eg] at K
    refine K _ (fun j hj => ?_) (by rw [f3 80 (by omega), ih_up_eq, ih_u1_eq]) W3 G
    rw [f3 j (by omega), ih_up_ne (by omega)]
    rcases (by omega : j = 0 ∨ 27 ≤ j) with e | e
    · rw [e, r2.1]
      exact f1 0 (by omega)
    · rw [r2.2 j e (by omega) (by omega)]
      exact f1 j (by omega)

