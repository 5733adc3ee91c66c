/-! texts: the class's reading of items -/
def ih_pI (f : Int → Int) (n st : Int) (s : Int → Int) : Int × Int × (Int → Int) := if ih_kk f n st = 2 ∧ 0 ≤ ih_num f n st ∧ ih_num f n st ≤ 7 then (if ih_is f n (ih_adv f n st) ih_x_lasts then (if ih_kk f n (ih_adv f n (ih_adv f n st)) = 2 ∧ 1 ≤ ih_num f n (ih_adv f n (ih_adv f n st)) ∧ ih_num f n (ih_adv f n (ih_adv f n st)) ≤ 999 then (if ih_is f n (ih_adv f n (ih_adv f n (ih_adv f n st))) ih_x_price then (if ih_kk f n (ih_adv f n (ih_adv f n (ih_adv f n (ih_adv f n st)))) = 2 ∧ 0 ≤ ih_num f n (ih_adv f n (ih_adv f n (ih_adv f n (ih_adv f n st)))) ∧ ih_num f n (ih_adv f n (ih_adv f n (ih_adv f n (ih_adv f n st)))) ≤ 99 then (1, (ih_adv f n (ih_adv f n (ih_adv f n (ih_adv f n (ih_adv f n st))))), ih_u1 (ih_u1 s (2 + ih_num f n st) (ih_num f n (ih_adv f n (ih_adv f n st)))) (10 + ih_num f n st) (ih_num f n (ih_adv f n (ih_adv f n (ih_adv f n (ih_adv f n st)))))) else (0, (ih_adv f n (ih_adv f n (ih_adv f n (ih_adv f n st)))), ih_u1 s (2 + ih_num f n st) (ih_num f n (ih_adv f n (ih_adv f n st))))) else (1, (ih_adv f n (ih_adv f n (ih_adv f n st))), ih_u1 s (2 + ih_num f n st) (ih_num f n (ih_adv f n (ih_adv f n st))))) else (0, (ih_adv f n (ih_adv f n st)), s)) else (0, (ih_adv f n st), s)) else (0, st, s)
def ih_pP (f : Int → Int) (n st : Int) (s : Int → Int) : Int × Int × (Int → Int) := if ih_kk f n st = 2 ∧ 0 ≤ ih_num f n st ∧ ih_num f n st ≤ 3 then (if ih_is f n (ih_adv f n st) ih_x_light then (1, (ih_adv f n (ih_adv f n st)), ih_u1 s (18 + ih_num f n st) 1) else if ih_is f n (ih_adv f n st) ih_x_dark then (1, (ih_adv f n (ih_adv f n st)), ih_u1 s (18 + ih_num f n st) 0) else (0, (ih_adv f n st), s)) else (0, st, s)
def ih_knd (f : Int → Int) (n st : Int) : Int := if 0 ≤ ih_ltr f n st then 1 else if ih_is f n st ih_x_not then 2 else if ih_is f n st ih_x_and then 3 else if ih_is f n st ih_x_or then 5 else if ih_is f n st ih_x_bold then 4 else if ih_is f n st ih_x_faint then 6 else if ih_is f n st ih_x_blot then 0 else -1
def ih_pM (f : Int → Int) (n : Int) (p : Nat) (ink z : Int) : Nat → Int → (Int → Int) → Int × Int × (Int → Int)
  | 0, st, s => (1, st, s)
  | d + 1, st, s => if ih_knd f n st < 0 then (if z < s (22 + p) then 1 else 0, st, s) else if s (22 + p) = 12 then (0, st, s) else if ih_knd f n st = 4 ∨ ih_knd f n st = 6 then (if ih_ltr f n (ih_adv f n st) < 0 then (0, (ih_adv f n st), s) else ih_pM f n p ink z d (ih_adv f n (ih_adv f n st)) (ih_nm s p (ih_knd f n st) (ih_ltr f n (ih_adv f n st)) ink)) else ih_pM f n p ink z d (ih_adv f n st) (ih_nm s p (ih_knd f n st) (if ih_knd f n st = 1 then ih_ltr f n st else 0) ink)
def ih_pMs (f : Int → Int) (n : Int) (p : Nat) (ink st : Int) (s : Int → Int) : Int × Int × (Int → Int) := ih_pM f n p ink (s (22 + p)) (13 - s (22 + p)).toNat st s
def ih_pO (f : Int → Int) (n st : Int) (s : Int → Int) : Int × Int × (Int → Int) := if ih_kk f n st = 2 ∧ 0 ≤ ih_num f n st ∧ ih_num f n st ≤ 3 then (if ih_is f n (ih_adv f n st) ih_x_ink then (if ih_kk f n (ih_adv f n (ih_adv f n st)) = 2 ∧ 0 ≤ ih_num f n (ih_adv f n (ih_adv f n st)) ∧ ih_num f n (ih_adv f n (ih_adv f n st)) ≤ 7 then ih_pMs f n (ih_num f n st).toNat (ih_num f n (ih_adv f n (ih_adv f n st))) (ih_adv f n (ih_adv f n (ih_adv f n st))) s else (0, (ih_adv f n (ih_adv f n st)), s)) else ih_pMs f n (ih_num f n st).toNat 0 (ih_adv f n st) s) else (0, st, s)
def ih_pT (f : Int → Int) (n st : Int) (s : Int → Int) : Int × Int × (Int → Int) := if ih_is f n st ih_x_ink then ih_pI f n (ih_adv f n st) s else if ih_is f n st ih_x_paper then ih_pP f n (ih_adv f n st) s else if ih_is f n st ih_x_on then ih_pO f n (ih_adv f n st) s else (0, st, s)
def ih_pL (f : Int → Int) (n : Int) : Nat → Int → Int → (Int → Int) → Int × (Int → Int)
  | 0, i, st, s => (-1 - st, s)
  | d + 1, i, st, s => if (ih_pT f n st s).1 = 0 then (-1 - (ih_pT f n st s).2.1, (ih_pT f n st s).2.2) else if ih_kk f n (ih_pT f n st s).2.1 = 0 then (i, (ih_pT f n st s).2.2) else if ih_kk f n (ih_pT f n st s).2.1 = 3 then ih_pL f n d (i + 1) (ih_adv f n (ih_pT f n st s).2.1) (ih_pT f n st s).2.2 else (-1 - (ih_pT f n st s).2.1, (ih_pT f n st s).2.2)
/-- while a text is read, only the world, the tape's token and the number change -/
def ih_rt (t t1 : ih_S) : Prop := t1 0 = t 0 ∧ ∀ j, 27 ≤ j → j ≠ 80 → j ≠ 82 → t1 j = t j
theorem ih_rt_r (t : ih_S) : ih_rt t t := ⟨rfl, fun _ _ _ _ => rfl⟩
theorem ih_rt_t {t t1 t2 : ih_S} (a : ih_rt t t1) (b : ih_rt t1 t2) : ih_rt t t2 := ⟨b.1.trans a.1, fun j h0 h1 h2 => (b.2 j h0 h1 h2).trans (a.2 j h0 h1 h2)⟩
theorem ih_rt_a {t t1 : ih_S} (h : ∀ j, j ≠ 80 → t1 j = t j) : ih_rt t t1 := ⟨h 0 (by decide), fun j _ h1 _ => h j h1⟩
theorem ih_rt_b {t t1 : ih_S} (h : ∀ j, j ≠ 80 → j ≠ 82 → t1 j = t j) : ih_rt t t1 := ⟨h 0 (by decide) (by decide), fun j _ h1 h2 => h j h1 h2⟩
theorem ih_rt_u {t t1 : ih_S} {a : Nat} {i v : Int} (b : ih_rt t t1) (h : 1 ≤ a ∧ a < 27) : ih_rt t (ih_up t1 a i v) := ⟨by rw [ih_up_ne (by omega)]; exact b.1, fun j h0 h1 h2 => by rw [ih_up_ne (by omega)]; exact b.2 j h0 h1 h2⟩
theorem ih_Wr_a {t t1 : ih_S} {s : Int → Int} (W : ih_Wr t 1 s) (h : ∀ j, j ≠ 80 → t1 j = t j) : ih_Wr t1 1 s := ih_Wr_of W (fun j h0 h1 => h j (by omega))
theorem ih_Wr_b {t t1 : ih_S} {s : Int → Int} (W : ih_Wr t 1 s) (h : ∀ j, j ≠ 80 → j ≠ 82 → t1 j = t j) : ih_Wr t1 1 s := ih_Wr_of W (fun j h0 h1 => h j (by omega) (by omega))
theorem ih_TC_of {t t1 : ih_S} {f : Int → Int} {n st : Int} (C : ih_TC t f n st) (h0 : t1 80 = t 80) (h1 : t1 81 = t 81) : ih_TC t1 f n st := by
  unfold ih_TC
  rw [h0, h1]
  exact C
theorem ih_TC_u {t : ih_S} {f : Int → Int} {n st : Int} {a : Nat} {i v : Int} (C : ih_TC t f n st) (h : a < 27) : ih_TC (ih_up t a i v) f n st := ih_TC_of C (ih_up_ne (by omega)) (ih_up_ne (by omega))
theorem ih_knd_rg {f : Int → Int} {n st : Int} : -1 ≤ ih_knd f n st ∧ ih_knd f n st ≤ 6 := by
  unfold ih_knd
  repeat' split
  all_goals omega
theorem ih_knd_1 {f : Int → Int} {n st : Int} : ih_knd f n st = 1 ↔ 0 ≤ ih_ltr f n st := by
  unfold ih_knd
  constructor
  · intro h
    split at h
    · assumption
    · repeat' split at h
      all_goals omega
  · intro h
    rw [if_pos h]
/-- what a reading of r leads to -/
def ih_rk (t : ih_S) (f : Int → Int) (n : Int) (r : Int × Int × (Int → Int)) (Q : Option xa_V → ih_S → Prop) : Prop := ∀ t1, ih_rt t t1 → ih_TC t1 f n r.2.1 → ih_Wr t1 1 r.2.2 → ih_Gd r.2.2 → Q (some (xI r.1)) t1

theorem c_readInk {X : List Int} {t : ih_S} {Q : Option xa_V → ih_S → Prop} {f : Int → Int} {n st : Int} {s : Int → Int} (C : ih_TC t f n st) (W : ih_Wr t 1 s) (G : ih_Gd s) (K : ih_rk t f n (ih_pI f n st s) Q)  : ih_Wp X 46 0 [xR 82, xC 1] [] t Q := by
  refine ih_seg (i1 := 3) 3 rfl ?_
  refine ih_iv2 52 rfl rfl (by first | rfl | exact ih_kP (ih_P_w0 hc) |  exact ih_kP (by assumption) | exact ih_kC (by assumption) | exact ih_kN (by assumption) | exact ih_kS (by assumption) | exact ih_kW (by assumption)) (Nat.le_of_ble_eq_true rfl) (Nat.le_of_ble_eq_true rfl) rfl ?_
  refine c_passNumber C (by omega) (by omega) (fun q1 b1 t1 f1 k1 C1 => ?_) (fun q1 => ?_)
  · refine ih_seg (i1 := 8) 2 rfl ?_
    refine ih_getI rfl rfl ?_
    rw [k1]
    refine ih_seg (i1 := 12) 3 rfl ?_
    try simp only [xa_set, List.set_cons_zero, List.set_cons_succ, List.getElem?_cons_zero, List.getElem?_cons_succ]
    refine ih_iv1 51 rfl rfl (by first | rfl | exact ih_kP (ih_P_w0 hc) |  exact ih_kP (by assumption) | exact ih_kC (by assumption) | exact ih_kN (by assumption) | exact ih_kS (by assumption) | exact ih_kW (by assumption)) (Nat.le_of_ble_eq_true rfl) (Nat.le_of_ble_eq_true rfl) rfl ?_
    refine c_passName C1 ih_t_lasts (fun q2 t2 f2 C2 => ?_) (fun q2 => ?_)
    · refine ih_seg (i1 := 17) 4 rfl ?_
      refine ih_iv2 52 rfl rfl (by first | rfl | exact ih_kP (ih_P_w0 hc) |  exact ih_kP (by assumption) | exact ih_kC (by assumption) | exact ih_kN (by assumption) | exact ih_kS (by assumption) | exact ih_kW (by assumption)) (Nat.le_of_ble_eq_true rfl) (Nat.le_of_ble_eq_true rfl) rfl ?_
      refine c_passNumber C2 (by omega) (by omega) (fun q3 b3 t3 f3 k3 C3 => ?_) (fun q3 => ?_)
      · refine ih_seg (i1 := 22) 2 rfl ?_
        refine ih_getR rfl rfl ?_
        refine ih_getR rfl (by first | rfl | exact ih_fW0 (by assumption)) ?_
        refine ih_seg (i1 := 26) 2 rfl ?_
        refine ih_getI rfl rfl ?_
        rw [k3]
        refine ih_iast rfl (by first | rfl | exact ih_lP1 (ih_P_w0 hc) | exact ih_lP2 (ih_P_w0 hc) | exact ih_lP3 (ih_P_w0 hc) | exact ih_lP4 (ih_P_w0 hc) |  exact ih_lP1 (by assumption) | exact ih_lP2 (by assumption) | exact ih_lP3 (by assumption) | exact ih_lP4 (by assumption) | exact ih_lC1 (by assumption) | exact ih_lS1 (by assumption) | exact ih_lW1 (by assumption) | exact ih_lW2 (by assumption) | exact ih_lW4 (by assumption) | exact ih_lW5 (by assumption)) (by omega) (by omega) (k := ?_)
        refine ih_seg (i1 := 30) 2 rfl ?_
        refine ih_iv1 51 rfl rfl (by first | rfl | exact ih_kP (ih_P_w0 hc) |  exact ih_kP (by assumption) | exact ih_kC (by assumption) | exact ih_kN (by assumption) | exact ih_kS (by assumption) | exact ih_kW (by assumption)) (Nat.le_of_ble_eq_true rfl) (Nat.le_of_ble_eq_true rfl) rfl ?_
        refine c_passName (ih_TC_u C3 (by omega)) ih_t_price (fun q4 t4 f4 C4 => ?_) (fun q4 => ?_)
        · refine ih_seg (i1 := 37) 4 rfl ?_
          refine ih_iv2 52 rfl rfl (by first | rfl | exact ih_kP (ih_P_w0 hc) |  exact ih_kP (by assumption) | exact ih_kC (by assumption) | exact ih_kN (by assumption) | exact ih_kS (by assumption) | exact ih_kW (by assumption)) (Nat.le_of_ble_eq_true rfl) (Nat.le_of_ble_eq_true rfl) rfl ?_
          refine c_passNumber C4 (by omega) (by omega) (fun q5 b5 t5 f5 k5 C5 => ?_) (fun q5 => ?_)
          · refine ih_seg (i1 := 42) 2 rfl ?_
            refine ih_getR rfl rfl ?_
            refine ih_getR rfl (by first | rfl | exact ih_fW1 (by assumption)) ?_
            refine ih_seg (i1 := 46) 2 rfl ?_
            refine ih_getI rfl rfl ?_
            rw [k5]
            refine ih_iast rfl (by first | rfl | exact ih_lP1 (ih_P_w0 hc) | exact ih_lP2 (ih_P_w0 hc) | exact ih_lP3 (ih_P_w0 hc) | exact ih_lP4 (ih_P_w0 hc) |  exact ih_lP1 (by assumption) | exact ih_lP2 (by assumption) | exact ih_lP3 (by assumption) | exact ih_lP4 (by assumption) | exact ih_lC1 (by assumption) | exact ih_lS1 (by assumption) | exact ih_lW1 (by assumption) | exact ih_lW2 (by assumption) | exact ih_lW4 (by assumption) | exact ih_lW5 (by assumption)) (by omega) (by omega) (k := ?_)
            refine ih_seg (i1 := 49) 1 rfl ?_
            refine ih_ret rfl rfl ?_
            rw [ih_pI, if_pos ⟨q1, b1⟩, if_pos q2, if_pos ⟨q3, b3⟩, if_pos q4, if_pos ⟨q5, b5⟩] at K
            exact K _ (ih_rt_u (ih_rt_t (ih_rt_u (ih_rt_t (ih_rt_b f1) (ih_rt_t (ih_rt_a f2) (ih_rt_b f3))) (by omega)) (ih_rt_t (ih_rt_a f4) (ih_rt_b f5))) (by omega)) (ih_TC_u C5 (by omega)) (ih_Wu_pri (ih_Gu_las (by omega) b3 G) (by omega) (ih_Wr_b (ih_Wr_a (ih_Wu_las G (by omega) (ih_Wr_b (ih_Wr_a (ih_Wr_b W f1) f2) f3)) f4) f5)) (ih_Gu_pri (by omega) (by omega) (ih_Gu_las (by omega) b3 G))
          · refine ih_seg (i1 := 40) 2 rfl ?_
            refine ih_ret rfl rfl ?_
            rw [ih_pI, if_pos ⟨q1, b1⟩, if_pos q2, if_pos ⟨q3, b3⟩, if_pos q4, if_neg q5] at K
            exact K _ (ih_rt_t (ih_rt_u (ih_rt_t (ih_rt_b f1) (ih_rt_t (ih_rt_a f2) (ih_rt_b f3))) (by omega)) (ih_rt_a f4)) C4 (ih_Wr_a (ih_Wu_las G (by omega) (ih_Wr_b (ih_Wr_a (ih_Wr_b W f1) f2) f3)) f4) (ih_Gu_las (by omega) b3 G)
        · refine ih_seg (i1 := 33) 2 rfl ?_
          refine ih_ret rfl rfl ?_
          rw [ih_pI, if_pos ⟨q1, b1⟩, if_pos q2, if_pos ⟨q3, b3⟩, if_neg q4] at K
          exact K _ (ih_rt_u (ih_rt_t (ih_rt_b f1) (ih_rt_t (ih_rt_a f2) (ih_rt_b f3))) (by omega)) (ih_TC_u C3 (by omega)) (ih_Wu_las G (by omega) (ih_Wr_b (ih_Wr_a (ih_Wr_b W f1) f2) f3)) (ih_Gu_las (by omega) b3 G)
      · refine ih_seg (i1 := 20) 2 rfl ?_
        refine ih_ret rfl rfl ?_
        rw [ih_pI, if_pos ⟨q1, b1⟩, if_pos q2, if_neg q3] at K
        exact K _ (ih_rt_t (ih_rt_b f1) (ih_rt_a f2)) C2 (ih_Wr_a (ih_Wr_b W f1) f2) G
    · refine ih_seg (i1 := 20) 2 rfl ?_
      refine ih_ret rfl rfl ?_
      rw [ih_pI, if_pos ⟨q1, b1⟩, if_neg q2] at K
      exact K _ (ih_rt_b f1) C1 (ih_Wr_b W f1) G
  · refine ih_seg (i1 := 6) 2 rfl ?_
    refine ih_ret rfl rfl ?_
    rw [ih_pI, if_neg q1] at K
    exact K _ (ih_rt_r t) C W G


theorem c_readPaper {X : List Int} {t : ih_S} {Q : Option xa_V → ih_S → Prop} {f : Int → Int} {n st : Int} {s : Int → Int} (C : ih_TC t f n st) (W : ih_Wr t 1 s) (G : ih_Gd s) (K : ih_rk t f n (ih_pP f n st s) Q)  : ih_Wp X 47 0 [xR 82, xC 1] [] t Q := by
  refine ih_seg (i1 := 3) 3 rfl ?_
  refine ih_iv2 52 rfl rfl (by first | rfl | exact ih_kP (ih_P_w0 hc) |  exact ih_kP (by assumption) | exact ih_kC (by assumption) | exact ih_kN (by assumption) | exact ih_kS (by assumption) | exact ih_kW (by assumption)) (Nat.le_of_ble_eq_true rfl) (Nat.le_of_ble_eq_true rfl) rfl ?_
  refine c_passNumber C (by omega) (by omega) (fun q1 b1 t1 f1 k1 C1 => ?_) (fun q1 => ?_)
  · refine ih_seg (i1 := 8) 2 rfl ?_
    refine ih_getR rfl rfl ?_
    refine ih_getR rfl (by first | rfl | exact ih_fW2 (by assumption)) ?_
    refine ih_seg (i1 := 11) 1 rfl ?_
    refine ih_getI rfl rfl ?_
    obtain ⟨p, hp⟩ := Int.eq_ofNat_of_zero_le (show 0 ≤ ih_num f n st by omega)
    have hc : p < 4 := by omega
    rw [k1, hp]
    refine ih_aald rfl (ih_eP hc) ?_
    refine ih_seg (i1 := 16) 3 rfl ?_
    try simp only [xa_set, List.set_cons_zero, List.set_cons_succ, List.getElem?_cons_zero, List.getElem?_cons_succ]
    refine ih_iv1 51 rfl rfl (by first | rfl | exact ih_kP (ih_P_w0 hc) |  exact ih_kP (by assumption) | exact ih_kC (by assumption) | exact ih_kN (by assumption) | exact ih_kS (by assumption) | exact ih_kW (by assumption)) (Nat.le_of_ble_eq_true rfl) (Nat.le_of_ble_eq_true rfl) rfl ?_
    refine c_passName C1 ih_t_light (fun q2 t2 f2 C2 => ?_) (fun q2 => ?_)
    · refine ih_seg (i1 := 20) 3 rfl ?_
      refine ih_putI rfl (by first | rfl | exact ih_fP5 (ih_P_w0 hc) | exact ih_fP5 (by assumption)) rfl ?_
      refine ih_seg (i1 := 22) 1 rfl ?_
      refine ih_ret rfl rfl ?_
      rw [ih_pP, if_pos ⟨q1, b1⟩, if_pos q2, hp] at K
      exact K _ (ih_rt_u (ih_rt_t (ih_rt_b f1) (ih_rt_a f2)) (by omega)) (ih_TC_u C2 (by omega)) (ih_Wu_lit G hc (ih_Wr_a (ih_Wr_b W f1) f2)) (ih_Gu_lit hc (by omega) G)
    · refine ih_seg (i1 := 25) 3 rfl ?_
      refine ih_iv1 51 rfl rfl (by first | rfl | exact ih_kP (ih_P_w0 hc) |  exact ih_kP (by assumption) | exact ih_kC (by assumption) | exact ih_kN (by assumption) | exact ih_kS (by assumption) | exact ih_kW (by assumption)) (Nat.le_of_ble_eq_true rfl) (Nat.le_of_ble_eq_true rfl) rfl ?_
      refine c_passName C1 ih_t_dark (fun q3 t3 f3 C3 => ?_) (fun q3 => ?_)
      · refine ih_seg (i1 := 29) 3 rfl ?_
        refine ih_putI rfl (by first | rfl | exact ih_fP5 (ih_P_w0 hc) | exact ih_fP5 (by assumption)) rfl ?_
        refine ih_seg (i1 := 31) 1 rfl ?_
        refine ih_ret rfl rfl ?_
        rw [ih_pP, if_pos ⟨q1, b1⟩, if_neg q2, if_pos q3, hp] at K
        exact K _ (ih_rt_u (ih_rt_t (ih_rt_b f1) (ih_rt_a f3)) (by omega)) (ih_TC_u C3 (by omega)) (ih_Wu_lit G hc (ih_Wr_a (ih_Wr_b W f1) f3)) (ih_Gu_lit hc (by omega) G)
      · refine ih_seg (i1 := 33) 2 rfl ?_
        refine ih_ret rfl rfl ?_
        rw [ih_pP, if_pos ⟨q1, b1⟩, if_neg q2, if_neg q3] at K
        exact K _ (ih_rt_b f1) C1 (ih_Wr_b W f1) G
  · refine ih_seg (i1 := 6) 2 rfl ?_
    refine ih_ret rfl rfl ?_
    rw [ih_pP, if_neg q1] at K
    exact K _ (ih_rt_r t) C W G


theorem c_kind {X : List Int} {t : ih_S} {Q : Option xa_V → ih_S → Prop} {f : Int → Int} {n st : Int} (C : ih_TC t f n st) (K : Q (some (xI (ih_knd f n st))) t)  : ih_Wp X 49 0 [xR 82] [] t Q := by
  have hl := ih_ltr_rg (f := f) (n := n) (st := st)
  refine ih_seg (i1 := 1) 1 rfl ?_
  refine ih_getR rfl rfl ?_
  refine ih_iv0 42 rfl rfl (by first | rfl | exact ih_kP (ih_P_w0 hc) |  exact ih_kP (by assumption) | exact ih_kC (by assumption) | exact ih_kN (by assumption) | exact ih_kS (by assumption) | exact ih_kW (by assumption)) (Nat.le_of_ble_eq_true rfl) (Nat.le_of_ble_eq_true rfl) rfl ?_
  refine c_letter C ?_
  refine ih_ifc_lt rfl (by omega) (fun w1 => ?_) (fun w1 => ?_)
  · refine ih_seg (i1 := 7) 1 rfl ?_
    refine ih_getR rfl rfl ?_
    refine ih_seg (i1 := 9) 1 rfl ?_
    refine ih_iv1 41 rfl rfl (by first | rfl | exact ih_kP (ih_P_w0 hc) |  exact ih_kP (by assumption) | exact ih_kC (by assumption) | exact ih_kN (by assumption) | exact ih_kS (by assumption) | exact ih_kW (by assumption)) (Nat.le_of_ble_eq_true rfl) (Nat.le_of_ble_eq_true rfl) rfl ?_
    refine c_isName C ih_t_not (fun w2 => ?_) (fun w3 => ?_)
    · refine ih_seg (i1 := 12) 2 rfl ?_
      refine ih_ret rfl rfl ?_
      rw [ih_knd, if_neg (show ¬ 0 ≤ ih_ltr f n st by omega), if_pos w2] at K
      exact K
    · refine ih_seg (i1 := 14) 2 rfl ?_
      refine ih_getR rfl rfl ?_
      refine ih_seg (i1 := 16) 1 rfl ?_
      refine ih_iv1 41 rfl rfl (by first | rfl | exact ih_kP (ih_P_w0 hc) |  exact ih_kP (by assumption) | exact ih_kC (by assumption) | exact ih_kN (by assumption) | exact ih_kS (by assumption) | exact ih_kW (by assumption)) (Nat.le_of_ble_eq_true rfl) (Nat.le_of_ble_eq_true rfl) rfl ?_
      refine c_isName C ih_t_and (fun w4 => ?_) (fun w5 => ?_)
      · refine ih_seg (i1 := 19) 2 rfl ?_
        refine ih_ret rfl rfl ?_
        rw [ih_knd, if_neg (show ¬ 0 ≤ ih_ltr f n st by omega), if_neg w3, if_pos w4] at K
        exact K
      · refine ih_seg (i1 := 21) 2 rfl ?_
        refine ih_getR rfl rfl ?_
        refine ih_seg (i1 := 23) 1 rfl ?_
        refine ih_iv1 41 rfl rfl (by first | rfl | exact ih_kP (ih_P_w0 hc) |  exact ih_kP (by assumption) | exact ih_kC (by assumption) | exact ih_kN (by assumption) | exact ih_kS (by assumption) | exact ih_kW (by assumption)) (Nat.le_of_ble_eq_true rfl) (Nat.le_of_ble_eq_true rfl) rfl ?_
        refine c_isName C ih_t_or (fun w6 => ?_) (fun w7 => ?_)
        · refine ih_seg (i1 := 26) 2 rfl ?_
          refine ih_ret rfl rfl ?_
          rw [ih_knd, if_neg (show ¬ 0 ≤ ih_ltr f n st by omega), if_neg w3, if_neg w5, if_pos w6] at K
          exact K
        · refine ih_seg (i1 := 28) 2 rfl ?_
          refine ih_getR rfl rfl ?_
          refine ih_seg (i1 := 30) 1 rfl ?_
          refine ih_iv1 41 rfl rfl (by first | rfl | exact ih_kP (ih_P_w0 hc) |  exact ih_kP (by assumption) | exact ih_kC (by assumption) | exact ih_kN (by assumption) | exact ih_kS (by assumption) | exact ih_kW (by assumption)) (Nat.le_of_ble_eq_true rfl) (Nat.le_of_ble_eq_true rfl) rfl ?_
          refine c_isName C ih_t_bold (fun w8 => ?_) (fun w9 => ?_)
          · refine ih_seg (i1 := 33) 2 rfl ?_
            refine ih_ret rfl rfl ?_
            rw [ih_knd, if_neg (show ¬ 0 ≤ ih_ltr f n st by omega), if_neg w3, if_neg w5, if_neg w7, if_pos w8] at K
            exact K
          · refine ih_seg (i1 := 35) 2 rfl ?_
            refine ih_getR rfl rfl ?_
            refine ih_seg (i1 := 37) 1 rfl ?_
            refine ih_iv1 41 rfl rfl (by first | rfl | exact ih_kP (ih_P_w0 hc) |  exact ih_kP (by assumption) | exact ih_kC (by assumption) | exact ih_kN (by assumption) | exact ih_kS (by assumption) | exact ih_kW (by assumption)) (Nat.le_of_ble_eq_true rfl) (Nat.le_of_ble_eq_true rfl) rfl ?_
            refine c_isName C ih_t_faint (fun w10 => ?_) (fun w11 => ?_)
            · refine ih_seg (i1 := 40) 2 rfl ?_
              refine ih_ret rfl rfl ?_
              rw [ih_knd, if_neg (show ¬ 0 ≤ ih_ltr f n st by omega), if_neg w3, if_neg w5, if_neg w7, if_neg w9, if_pos w10] at K
              exact K
            · refine ih_seg (i1 := 42) 2 rfl ?_
              refine ih_getR rfl rfl ?_
              refine ih_seg (i1 := 44) 1 rfl ?_
              refine ih_iv1 41 rfl rfl (by first | rfl | exact ih_kP (ih_P_w0 hc) |  exact ih_kP (by assumption) | exact ih_kC (by assumption) | exact ih_kN (by assumption) | exact ih_kS (by assumption) | exact ih_kW (by assumption)) (Nat.le_of_ble_eq_true rfl) (Nat.le_of_ble_eq_true rfl) rfl ?_
              refine c_isName C ih_t_blot (fun w12 => ?_) (fun w13 => ?_)
              · refine ih_seg (i1 := 49) 3 rfl ?_
                refine ih_ret rfl rfl ?_
                rw [ih_knd, if_neg (show ¬ 0 ≤ ih_ltr f n st by omega), if_neg w3, if_neg w5, if_neg w7, if_neg w9, if_neg w11, if_pos w12] at K
                exact K
              · refine ih_seg (i1 := 49) 2 rfl ?_
                refine ih_ret rfl rfl ?_
                rw [ih_knd, if_neg (show ¬ 0 ≤ ih_ltr f n st by omega), if_neg w3, if_neg w5, if_neg w7, if_neg w9, if_neg w11, if_neg w13] at K
                exact K
  · refine ih_seg (i1 := 5) 1 rfl ?_
    refine ih_ret rfl rfl ?_
    rw [ih_knd, if_pos (show 0 ≤ ih_ltr f n st by omega)] at K
    exact K

