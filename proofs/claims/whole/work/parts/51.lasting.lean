/-! lasting -/
/-- from one hour up to another one a paper means m -/
def ih_st (s : Int → Int) (p : Nat) (m a b : Int) : Bool := decide (ih_fst (fun e => decide (ih_rM s p e ≠ m)) a (b + 1 - a).toNat = b + 1)
theorem ih_st_y {s : Int → Int} {p : Nat} {m a b : Int} (h : a ≤ b) (q : ∀ e, a ≤ e → e ≤ b → ih_rM s p e = m) : ih_st s p m a b = true := by
  unfold ih_st
  rw [ih_fst_all (fun e h0 h1 => by rw [decide_eq_false_iff_not]; exact fun k => k (q e h0 (by omega))), decide_eq_true_eq]
  omega
theorem ih_st_n {s : Int → Int} {p : Nat} {m a b : Int} (h : a ≤ b) (q : ¬ ∀ e, a ≤ e → e ≤ b → ih_rM s p e = m) : ih_st s p m a b = false := by
  unfold ih_st
  rw [decide_eq_false_iff_not]
  intro k
  refine q (fun e h0 h1 => ?_)
  have := ih_fst_some (n := (b + 1 - a).toNat) (a := a) (by rw [k]; omega) e h0 (by omega)
  rw [decide_eq_false_iff_not] at this
  exact Classical.not_not.mp this
/-- a mark whose end is that of another row's mark is seen as that one is -/
theorem ih_sf_gen {t1 : ih_S} {s2 : Int → Int} {c k : Nat} {e : Int} (h0 : 0 ≤ e) (hw : 0 ≤ ih_w (s2 (18 + c)) (s2 (26 + 48 * c + 4 * k + 3))) (hs : 0 ≤ ih_rsp s2 c k) (ha : t1 (11 + 5 * c) k ≤ e ↔ s2 (26 + 48 * c + 4 * k + 3) ≤ e) (he : t1 (92 + 3 * c) k = ih_how (s2 (18 + c)) (ih_w (s2 (18 + c)) (s2 (26 + 48 * c + 4 * k + 3)) + ih_rsp s2 c k)) : ih_sf t1 c e k = ih_rs s2 c e k := by
  unfold ih_sf ih_rs
  rw [he, decide_eq_decide, ih_gal h0 (by omega), ha]
  omega
theorem ih_M_gen {t1 : ih_S} {s2 : Int → Int} {c : Nat} {e : Int} (h4 : t1 (7 + 5 * c) 4 = s2 (22 + c)) (h : ∀ k : Nat, (k : Int) < s2 (22 + c) → t1 (8 + 5 * c) k = s2 (26 + 48 * c + 4 * k) ∧ t1 (9 + 5 * c) k = s2 (26 + 48 * c + 4 * k + 1) ∧ ih_sf t1 c e k = ih_rs s2 c e k) : ih_M t1 c e = ih_rM s2 c e := by
  unfold ih_M ih_mo ih_rM
  rw [h4]
  refine congrArg ih_val (ih_fd_congr (fun k hk => h k (by omega)))
theorem ih_Gu_lst {s : Int → Int} {b v : Int} (hb : 0 ≤ b ∧ b < 8) (hv : 1 ≤ v ∧ v ≤ 999) (G : ih_Gd s) : ih_Gd (ih_u1 s (2 + b) v) := ih_Gu_las hb hv G
def ih_lst (s : Int → Int) (p : Nat) (b n v : Int) : Int := ih_fst (fun v => ih_st (ih_u1 s (2 + b) v) p (ih_rM s p (s 0)) (s 0) (s 0 + n)) v (1000 - v).toNat
def f_lasting (s : Int → Int) (a b n : Int) : ih_An := if (0 ≤ a ∧ a < 4) ∧ (0 ≤ b ∧ b < 8) ∧ 0 ≤ n ∧ n ≤ 100 then (if 9999 < s 0 + n then ih_no 4 else if ih_lst s a.toNat b n 1 < 1000 then ih_ok1 (ih_lst s a.toNat b n 1) else ih_no 3) else ih_no 0
theorem ih_lst_y {s : Int → Int} {p : Nat} {b n v : Int} (h : v < 1000) (q : ih_st (ih_u1 s (2 + b) v) p (ih_rM s p (s 0)) (s 0) (s 0 + n) = true) : ih_lst s p b n v = v := by
  unfold ih_lst
  rw [show (1000 - v).toNat = (1000 - v - 1).toNat + 1 by omega]
  exact ih_fst_y (f := fun v => ih_st (ih_u1 s (2 + b) v) p (ih_rM s p (s 0)) (s 0) (s 0 + n)) q
theorem ih_lst_n {s : Int → Int} {p : Nat} {b n v : Int} (h : v < 1000) (q : ih_st (ih_u1 s (2 + b) v) p (ih_rM s p (s 0)) (s 0) (s 0 + n) = false) : ih_lst s p b n v = ih_lst s p b n (v + 1) := by
  unfold ih_lst
  rw [show (1000 - v).toNat = (1000 - (v + 1)).toNat + 1 by omega]
  exact ih_fst_n (f := fun v => ih_st (ih_u1 s (2 + b) v) p (ih_rM s p (s 0)) (s 0) (s 0 + n)) q
theorem ih_lst_e {s : Int → Int} {p : Nat} {b n v : Int} (h : v = 1000) : ih_lst s p b n v = 1000 := by
  unfold ih_lst
  subst h
  rfl

theorem c_ll_in {X : List Int} {t : ih_S} {Q : Option xa_V → ih_S → Prop} {c : Nat} {b v a2 a3 : Int} {x4 : xa_V} (hc : c < 4) (G : ih_PG t c) (hb : 0 ≤ b ∧ b < 8) (hv : 1 ≤ v ∧ v ≤ 999) (K : ∀ t1, (∀ j, j ≠ 92 + 3 * c → t1 j = t j) → (∀ k : Nat, (k : Int) < t (7 + 5 * c) 4 → t1 (92 + 3 * c) k = (if t (10 + 5 * c) k = b then ih_eo t c k v (t (11 + 5 * c) k) else t (92 + 3 * c) k)) → ih_Wp X 20 38 [xR (91 + 3 * c), xI b, xI a2, xI a3, x4, xI v, xI (t (7 + 5 * c) 4)] [] t1 Q)  : ∀ (d : Nat) (k : Nat) (t1 : ih_S) (hd : (k : Int) + d = t (7 + 5 * c) 4) (hf : ∀ j, j ≠ 92 + 3 * c → t1 j = t j) (h0 : ∀ j : Nat, j < k → t1 (92 + 3 * c) j = (if t (10 + 5 * c) j = b then ih_eo t c j v (t (11 + 5 * c) j) else t (92 + 3 * c) j)) (h1 : ∀ j : Nat, k ≤ j → t1 (92 + 3 * c) j = t (92 + 3 * c) j), ih_Wp X 20 11 [xR (91 + 3 * c), xI b, xI a2, xI a3, x4, xI v, xI k] [] t1 Q := by
  intro d
  induction d with
  | zero =>
    intro k t1 hd hf h0 h1
    have g1 := G.sz
    have es : t1 (7 + 5 * c) = t (7 + 5 * c) := hf _ (by omega)
    rw [← es] at hd g1
    refine ih_seg (i1 := 13) 2 rfl ?_
    refine ih_getR rfl (by first | rfl | exact ih_fC0 (by assumption)) ?_
    refine ih_getI rfl (by first | rfl | exact ih_fP4 (ih_P_w0 hc) | exact ih_fP4 (by assumption)) ?_
    refine ih_icmp_ge rfl (by omega) (by omega) (fun w1 => ?_) (fun w1 => ?_)
    · have ek : (k : Int) = t (7 + 5 * c) 4 := by rw [← es]; omega
      rw [ek]
      exact K t1 hf (fun j hj => h0 j (by omega))
    · exfalso
      omega

  | succ d ih =>
    intro k t1 hd hf h0 h1
    have g1 := G.sz
    have es : t1 (7 + 5 * c) = t (7 + 5 * c) := hf _ (by omega)
    rw [← es] at hd g1
    have hk : (k : Int) < t (7 + 5 * c) 4 := by rw [← es]; omega
    have g2 := G.ink k hk
    have g4 := G.at_ k hk
    have e10 : t1 (7 + 5 * c + 3) k = t (10 + 5 * c) k := by rw [hf _ (by omega), ih_a3]
    have e11 : t1 (7 + 5 * c + 4) k = t (11 + 5 * c) k := by rw [hf _ (by omega), ih_a4]
    have P1 := G.of hc (fun j hj => hf j (by omega))
    refine ih_seg (i1 := 13) 2 rfl ?_
    refine ih_getR rfl (by first | rfl | exact ih_fC0 (by assumption)) ?_
    refine ih_getI rfl (by first | rfl | exact ih_fP4 (ih_P_w0 hc) | exact ih_fP4 (by assumption)) ?_
    refine ih_icmp_ge rfl (by omega) (by omega) (fun w1 => ?_) (fun w1 => ?_)
    · exfalso
      omega
    · refine ih_seg (i1 := 17) 1 rfl ?_
      refine ih_getR rfl (by first | rfl | exact ih_fC0 (by assumption)) ?_
      refine ih_getR rfl (by first | rfl | exact ih_fP2 (ih_P_w0 hc) | exact ih_fP2 (by assumption)) ?_
      refine ih_seg (i1 := 20) 1 rfl ?_
      refine ih_iald rfl (by first | rfl | exact ih_lP1 (ih_P_w0 hc) | exact ih_lP2 (ih_P_w0 hc) | exact ih_lP3 (ih_P_w0 hc) | exact ih_lP4 (ih_P_w0 hc) |  exact ih_lP1 (by assumption) | exact ih_lP2 (by assumption) | exact ih_lP3 (by assumption) | exact ih_lP4 (by assumption) | exact ih_lC1 (by assumption) | exact ih_lS1 (by assumption) | exact ih_lW1 (by assumption) | exact ih_lW2 (by assumption) | exact ih_lW4 (by assumption) | exact ih_lW5 (by assumption)) (by omega) (by omega) (k := ?_)
      rw [e10]
      refine ih_seg (i1 := 22) 1 rfl ?_
      refine ih_icmp_ne rfl (by omega) (by omega) (fun w2 => ?_) (fun w2 => ?_)
      · refine ih_seg (i1 := 11) 2 rfl ?_
        try simp only [xa_set, List.set_cons_zero, List.set_cons_succ, List.getElem?_cons_zero, List.getElem?_cons_succ]
        refine ih (k + 1) _ (by first | (rw [ih_up_ne (by omega), ← es]; omega) | (rw [← es]; omega)) (fun j hj => ?_) (fun j hj => ?_) (fun j hj => ?_)
        · first
            | exact (ih_up_ne hj).trans (hf j hj)
            | exact hf j hj
        · by_cases e : j = k
          · subst e
            first
              | (rw [ih_up_eq, ih_u1_eq, if_pos (by omega)]
                 unfold ih_eo
                 rw [hf (7 + 5 * c) (by omega), hf (8 + 5 * c) (by omega)]
                 done)
              | (rw [if_neg (by omega)]
                 exact h1 j (Nat.le_refl _))
          · first
              | (rw [ih_up_eq, ih_u1_ne (by omega)]
                 exact h0 j (by omega))
              | exact h0 j (by omega)
        · first
            | (rw [ih_up_eq, ih_u1_ne (by omega)]
               exact h1 j (by omega))
            | exact h1 j (by omega)
      · refine ih_seg (i1 := 24) 1 rfl ?_
        refine ih_getR rfl (by first | rfl | exact ih_fC2 (by assumption)) ?_
        refine ih_seg (i1 := 30) 5 rfl ?_
        refine ih_getR rfl (by first | rfl | exact ih_fC0 (by assumption)) ?_
        refine ih_getR rfl (by first | rfl | exact ih_fP3 (ih_P_w0 hc) | exact ih_fP3 (by assumption)) ?_
        refine ih_seg (i1 := 33) 1 rfl ?_
        refine ih_iald rfl (by first | rfl | exact ih_lP1 (ih_P_w0 hc) | exact ih_lP2 (ih_P_w0 hc) | exact ih_lP3 (ih_P_w0 hc) | exact ih_lP4 (ih_P_w0 hc) |  exact ih_lP1 (by assumption) | exact ih_lP2 (by assumption) | exact ih_lP3 (by assumption) | exact ih_lP4 (by assumption) | exact ih_lC1 (by assumption) | exact ih_lS1 (by assumption) | exact ih_lW1 (by assumption) | exact ih_lW2 (by assumption) | exact ih_lW4 (by assumption) | exact ih_lW5 (by assumption)) (by omega) (by omega) (k := ?_)
        rw [e11]
        refine ih_iv3 9 rfl rfl (by first | rfl | exact ih_kP (ih_P_w0 hc) |  exact ih_kP (by assumption) | exact ih_kC (by assumption) | exact ih_kN (by assumption) | exact ih_kS (by assumption) | exact ih_kW (by assumption)) (Nat.le_of_ble_eq_true rfl) (Nat.le_of_ble_eq_true rfl) rfl ?_
        refine c_endOf hc P1 (by omega) (by omega) (by omega) ?_
        refine ih_iast rfl (by first | rfl | exact ih_lP1 (ih_P_w0 hc) | exact ih_lP2 (ih_P_w0 hc) | exact ih_lP3 (ih_P_w0 hc) | exact ih_lP4 (ih_P_w0 hc) |  exact ih_lP1 (by assumption) | exact ih_lP2 (by assumption) | exact ih_lP3 (by assumption) | exact ih_lP4 (by assumption) | exact ih_lC1 (by assumption) | exact ih_lS1 (by assumption) | exact ih_lW1 (by assumption) | exact ih_lW2 (by assumption) | exact ih_lW4 (by assumption) | exact ih_lW5 (by assumption)) (by omega) (by omega) (k := ?_)
        refine ih_seg (i1 := 11) 2 rfl ?_
        try simp only [xa_set, List.set_cons_zero, List.set_cons_succ, List.getElem?_cons_zero, List.getElem?_cons_succ]
        refine ih (k + 1) _ (by first | (rw [ih_up_ne (by omega), ← es]; omega) | (rw [← es]; omega)) (fun j hj => ?_) (fun j hj => ?_) (fun j hj => ?_)
        · first
            | exact (ih_up_ne hj).trans (hf j hj)
            | exact hf j hj
        · by_cases e : j = k
          · subst e
            first
              | (rw [ih_up_eq, ih_u1_eq, if_pos (by omega)]
                 unfold ih_eo
                 rw [hf (7 + 5 * c) (by omega), hf (8 + 5 * c) (by omega)]
                 done)
              | (rw [if_neg (by omega)]
                 exact h1 j (Nat.le_refl _))
          · first
              | (rw [ih_up_eq, ih_u1_ne (by omega)]
                 exact h0 j (by omega))
              | exact h0 j (by omega)
        · first
            | (rw [ih_up_eq, ih_u1_ne (by omega)]
               exact h1 j (by omega))
            | exact h1 j (by omega)


theorem c_ll_l {X : List Int} {t : ih_S} {Q : Option xa_V → ih_S → Prop} {s : Int → Int} {c : Nat} {b n : Int} (hc : c < 4) (hb : 0 ≤ b ∧ b < 8) (hn : 0 ≤ n ∧ s 0 + n < 10000) (W : ih_Wr t 1 s) (G : ih_Gd s)  : ∀ (d : Nat) (v : Int) (y : xa_V) (t1 : ih_S) (hd : v + d = 1000) (hv : 1 ≤ v) (hf : ih_sc t t1) (h3 : ∀ k : Nat, (k : Int) < s (22 + c) → s (26 + 48 * c + 4 * k + 2) ≠ b → t1 (92 + 3 * c) k = ih_how (s (18 + c)) (ih_w (s (18 + c)) (s (26 + 48 * c + 4 * k + 3)) + ih_span (s (26 + 48 * c + 4 * k)) (s (2 + s (26 + 48 * c + 4 * k + 2))))) (K : (ih_lst s c b n v < 1000 → ∀ t2, ih_sc t t2 → Q (some (xI (ih_lst s c b n v))) t2) ∧ (ih_lst s c b n v = 1000 → ∀ t2, ih_sc t t2 → Q (some (xI (-1))) t2)), ih_Wp X 20 6 [xR (91 + 3 * c), xI b, xI (s 0), xI (s 0 + n), xI (ih_rM s c (s 0)), xI v, y] [] t1 Q := by
  intro d
  induction d with
  | zero =>
    intro v y t1 hd hv hf h3 K
    obtain rfl : v = 1000 := by omega
    refine ih_seg (i1 := 8) 2 rfl ?_
    refine ih_icmp_gt rfl (by omega) (by omega) (fun w1 => ?_) (fun w1 => ?_)
    · refine ih_seg (i1 := 53) 1 rfl ?_
      refine ih_ret rfl rfl ?_
      exact K.2 (ih_lst_e rfl) t1 hf
    · exfalso
      omega

  | succ d ih =>
    intro v y t1 hd hv hf h3 K
    have P := ih_PG_W W G hc
    have gn := G.now
    have P1 := P.of hc (fun j hj => hf j (by omega))
    have mr0 := ih_rM_rg s c (s 0)
    have ez := ih_W_sz W hc
    refine ih_seg (i1 := 8) 2 rfl ?_
    refine ih_icmp_gt rfl (by omega) (by omega) (fun w1 => ?_) (fun w1 => ?_)
    · refine ih_seg (i1 := 53) 1 rfl ?_
      refine ih_ret rfl rfl ?_
      exfalso
      omega
    · refine ih_seg (i1 := 11) 2 rfl ?_
      try simp only [xa_set, List.set_cons_zero, List.set_cons_succ, List.getElem?_cons_zero, List.getElem?_cons_succ]
      refine c_ll_in hc P1 hb (by omega) (fun t2 f2 e2 => ?_) (t1 (7 + 5 * c) 4).toNat 0 t1 (by have := P1.sz; omega) (fun _ _ => rfl) (fun j hj => by omega) (fun j hj => rfl)
      have P2 := P1.of hc (fun j hj => f2 j (by omega))
      have hl : ∀ i : Int, 0 ≤ i → i < 8 → 1 ≤ ih_u1 s (2 + b) v (2 + i) ∧ ih_u1 s (2 + b) v (2 + i) ≤ 999 := (ih_Gu_lst hb (by omega) G).pap c hc |>.las
      have E2k : ∀ k : Nat, (k : Int) < s (22 + c) → t2 (92 + 3 * c) k = ih_how (s (18 + c)) (ih_w (s (18 + c)) (s (26 + 48 * c + 4 * k + 3)) + ih_rsp (ih_u1 s (2 + b) v) c k) := by
        intro k hk
        have z := (G.pap c hc).sz
        have hi := (G.pap c hc).ink k hk
        rw [e2 k (by rw [hf _ (by omega), ez]; exact hk), hf (10 + 5 * c) (by omega), hf (11 + 5 * c) (by omega), ih_W_ink W hc hk, ih_W_at W hc hk]
        have er : ih_rsp (ih_u1 s (2 + b) v) c k = ih_span (s (26 + 48 * c + 4 * k)) (ih_u1 s (2 + b) v (2 + s (26 + 48 * c + 4 * k + 2))) := by
          unfold ih_rsp
          rw [ih_u1_ne (i := 26 + 48 * c + 4 * k) (by omega), ih_u1_ne (i := 26 + 48 * c + 4 * k + 2) (by omega)]
        rw [er]
        by_cases q : s (26 + 48 * c + 4 * k + 2) = b
        · rw [if_pos q, q, ih_u1_eq]
          unfold ih_eo
          rw [hf (7 + 5 * c) (by omega), hf (8 + 5 * c) (by omega), ih_W_lit W hc, ih_W_kd W hc hk]
        · rw [if_neg q, ih_u1_ne (by omega), h3 k hk q]
      have sp1 : ∀ k : Nat, (k : Int) < s (22 + c) → 0 ≤ ih_rsp (ih_u1 s (2 + b) v) c k ∧ ih_rsp (ih_u1 s (2 + b) v) c k ≤ 1998 := by
        intro k hk
        have hk2 : (k : Int) < ih_u1 s (2 + b) v (22 + c) := by rw [ih_u1_ne (by omega)]; exact hk
        have hi := ((ih_Gu_lst hb (v := v) (by omega) G).pap c hc).ink k hk2
        have hl2 := hl _ hi.1 hi.2
        have := ih_span_rg (k := ih_u1 s (2 + b) v (26 + 48 * c + 4 * k)) hl2.1 hl2.2
        unfold ih_rsp
        omega
      have E2 : ih_EG t2 c := by
        intro k hk
        rw [f2 _ (by omega), hf _ (by omega), ez] at hk
        have ha := (G.pap c hc).at_ k hk
        have w1 := ih_w_rg (lit := s (18 + c)) ha.1 (by omega)
        have s1 := sp1 k hk
        rw [E2k k hk]
        exact ih_how_rg (by omega) (by omega)
      have em : ∀ e, 0 ≤ e → ih_M t2 c e = ih_rM (ih_u1 s (2 + b) v) c e := by
        intro e h0
        refine ih_M_gen (by rw [f2 _ (by omega), hf _ (by omega), ez, ih_u1_ne (by omega)]) (fun k hk => ?_)
        rw [ih_u1_ne (by omega)] at hk
        have ha := (G.pap c hc).at_ k hk
        have w1 := ih_w_rg (lit := s (18 + c)) ha.1 (by omega)
        refine ⟨by rw [f2 _ (by omega), hf _ (by omega), ih_W_kd W hc hk, ih_u1_ne (by omega)], by rw [f2 _ (by omega), hf _ (by omega), ih_W_lt W hc hk, ih_u1_ne (by omega)], ?_⟩
        have u18 : ih_u1 s (2 + b) v (18 + c) = s (18 + c) := ih_u1_ne (by omega)
        have u3 : ih_u1 s (2 + b) v (26 + 48 * c + 4 * k + 3) = s (26 + 48 * c + 4 * k + 3) := ih_u1_ne (by omega)
        refine ih_sf_gen h0 (by rw [u18, u3]; exact w1.1) (sp1 k hk).1 ?_ ?_
        · rw [u3, f2 _ (by omega), hf _ (by omega), ih_W_at W hc hk]
        · rw [u18, u3]
          exact E2k k hk
      have mr2 := ih_rM_rg (ih_u1 s (2 + b) v) c (s 0)
      have f3 : ih_sc t t2 := fun j hj => (f2 j (by omega)).trans (hf j (by omega))
      refine ih_seg (i1 := 40) 2 rfl ?_
      refine ih_iv1 13 rfl rfl (by first | rfl | exact ih_kP (ih_P_w0 hc) |  exact ih_kP (by assumption) | exact ih_kC (by assumption) | exact ih_kN (by assumption) | exact ih_kS (by assumption) | exact ih_kW (by assumption)) (Nat.le_of_ble_eq_true rfl) (Nat.le_of_ble_eq_true rfl) rfl ?_
      refine c_mean hc P2 E2 (ih_fr_r _ _) (by omega) (fun t3 h3f => ?_)
      rw [em _ (by omega)]
      refine ih_seg (i1 := 42) 1 rfl ?_
      refine ih_icmp_ne rfl (by omega) (by omega) (fun w1 => ?_) (fun w1 => ?_)
      · refine ih_seg (i1 := 6) 2 rfl ?_
        try simp only [xa_set, List.set_cons_zero, List.set_cons_succ, List.getElem?_cons_zero, List.getElem?_cons_succ]
        have hns : ¬ ∀ e, s 0 ≤ e → e ≤ s 0 + n → ih_rM (ih_u1 s (2 + b) v) c e = ih_rM s c (s 0) := by
          intro hal
          first
            | exact hq (fun e e0 e1 => by rw [em e (by omega), em (s 0) (by omega), hal e e0 e1, hal (s 0) (by omega) (by omega)])
            | (have := hal (s 0) (by omega) (by omega)
               omega)
        rw [ih_lst_n (by omega) (ih_st_n (by omega) hns)] at K
        first
          | (refine ih (v + 1) _ t4 (by omega) (by omega) ?_ (fun k hk q => ?_) K
             · exact ih_sc_t f3 (ih_sc_f hc h4)
             · rw [h4 (92 + 3 * c) (by omega), e2 k (by rw [hf _ (by omega), ez]; exact hk), hf (10 + 5 * c) (by omega), ih_W_ink W hc hk, if_neg q]
               exact h3 k hk q)
          | (refine ih (v + 1) _ t3 (by omega) (by omega) ?_ (fun k hk q => ?_) K
             · exact ih_sc_t f3 (ih_sc_f hc h3f)
             · rw [h3f (92 + 3 * c) (by omega), e2 k (by rw [hf _ (by omega), ez]; exact hk), hf (10 + 5 * c) (by omega), ih_W_ink W hc hk, if_neg q]
               exact h3 k hk q)
      · refine ih_seg (i1 := 46) 3 rfl ?_
        refine ih_iv2 16 rfl rfl (by first | rfl | exact ih_kP (ih_P_w0 hc) |  exact ih_kP (by assumption) | exact ih_kC (by assumption) | exact ih_kN (by assumption) | exact ih_kS (by assumption) | exact ih_kW (by assumption)) (Nat.le_of_ble_eq_true rfl) (Nat.le_of_ble_eq_true rfl) rfl ?_
        refine c_keeps hc P2 E2 h3f (by omega) (by omega) (fun t4 h4 hq => ?_) (fun t4 h4 hq => ?_)
        · refine ih_seg (i1 := 49) 2 rfl ?_
          refine ih_ret rfl rfl ?_
          have hal : ∀ e, s 0 ≤ e → e ≤ s 0 + n → ih_rM (ih_u1 s (2 + b) v) c e = ih_rM s c (s 0) := by
            intro e e0 e1
            have := hq e e0 e1
            rw [em e (by omega), em (s 0) (by omega)] at this
            omega
          have ey := ih_lst_y (s := s) (p := c) (b := b) (n := n) (v := v) (by omega) (ih_st_y (by omega) hal)
          rw [ey] at K
          exact (K.1 (by omega)) _ (ih_sc_t f3 (ih_sc_f hc h4))
        · refine ih_seg (i1 := 6) 3 rfl ?_
          try simp only [xa_set, List.set_cons_zero, List.set_cons_succ, List.getElem?_cons_zero, List.getElem?_cons_succ]
          have hns : ¬ ∀ e, s 0 ≤ e → e ≤ s 0 + n → ih_rM (ih_u1 s (2 + b) v) c e = ih_rM s c (s 0) := by
            intro hal
            first
              | exact hq (fun e e0 e1 => by rw [em e (by omega), em (s 0) (by omega), hal e e0 e1, hal (s 0) (by omega) (by omega)])
              | (have := hal (s 0) (by omega) (by omega)
                 omega)
          rw [ih_lst_n (by omega) (ih_st_n (by omega) hns)] at K
          first
            | (refine ih (v + 1) _ t4 (by omega) (by omega) ?_ (fun k hk q => ?_) K
               · exact ih_sc_t f3 (ih_sc_f hc h4)
               · rw [h4 (92 + 3 * c) (by omega), e2 k (by rw [hf _ (by omega), ez]; exact hk), hf (10 + 5 * c) (by omega), ih_W_ink W hc hk, if_neg q]
                 exact h3 k hk q)
            | (refine ih (v + 1) _ t3 (by omega) (by omega) ?_ (fun k hk q => ?_) K
               · exact ih_sc_t f3 (ih_sc_f hc h3f)
               · rw [h3f (92 + 3 * c) (by omega), e2 k (by rw [hf _ (by omega), ez]; exact hk), hf (10 + 5 * c) (by omega), ih_W_ink W hc hk, if_neg q]
                 exact h3 k hk q)


theorem c_leastLasts {X : List Int} {t : ih_S} {Q : Option xa_V → ih_S → Prop} {s : Int → Int} {c : Nat} {b n : Int} {t0 : ih_S} (hc : c < 4) (hb : 0 ≤ b ∧ b < 8) (hn : 0 ≤ n ∧ s 0 + n < 10000) (W : ih_Wr t0 1 s) (G : ih_Gd s) (hf : ∀ i, i ≠ 92 + 3 * c → t i = t0 i) (he : ∀ j : Nat, (j : Int) < t0 (7 + 5 * c) 4 → t (92 + 3 * c) j = ih_en t0 c j) (K : (ih_lst s c b n 1 < 1000 → ∀ t2, ih_sc t t2 → Q (some (xI (ih_lst s c b n 1))) t2) ∧ (ih_lst s c b n 1 = 1000 → ∀ t2, ih_sc t t2 → Q (some (xI (-1))) t2)) : ih_Wp X 20 0 [xR (91 + 3 * c), xI b, xI (s 0), xI (s 0 + n), xC 1, xC 1, xC 1] [] t Q := by
  have P := ih_PG_W W G hc
  have gn := G.now
  have E1 := ih_EG_en hc P hf he
  have P1 := P.of hc (fun j hj => hf j (by omega))
  have W1 : ih_Wr t 1 s := ih_W_sc W (ih_sc_e hc hf)
  have em : ih_M t c (s 0) = ih_rM s c (s 0) := (ih_M_cM hc P hf he (by omega)).trans (ih_cM_rM W G hc)
  refine ih_seg (i1 := 2) 2 rfl ?_
  refine ih_iv1 13 rfl rfl (by first | rfl | exact ih_kP (ih_P_w0 hc) |  exact ih_kP (by assumption) | exact ih_kC (by assumption) | exact ih_kN (by assumption) | exact ih_kS (by assumption) | exact ih_kW (by assumption)) (Nat.le_of_ble_eq_true rfl) (Nat.le_of_ble_eq_true rfl) rfl ?_
  refine c_mean hc P1 E1 (ih_fr_r _ _) (by omega) (fun t3 h3 => ?_)
  rw [em]
  refine ih_seg (i1 := 6) 3 rfl ?_
  try simp only [xa_set, List.set_cons_zero, List.set_cons_succ, List.getElem?_cons_zero, List.getElem?_cons_succ]
  refine c_ll_l hc hb hn W1 G 999 1 _ t3 (by omega) (by omega) (ih_sc_f hc h3) (fun k hk q => ?_) K
  rw [h3 (92 + 3 * c) (by omega), he k (by rw [ih_W_sz W hc]; exact hk)]
  unfold ih_en ih_eo
  have hi := (G.pap c hc).ink k hk
  have hl : t0 2 (s (26 + 48 * c + 4 * k + 2)) = s (2 + s (26 + 48 * c + 4 * k + 2)) := W.las _ hi.1 hi.2
  rw [ih_W_lit W hc, ih_W_kd W hc hk, ih_W_at W hc hk, ih_W_ink W hc hk, hl]


theorem c_op_lasting {X : List Int} {t : ih_S} {Q : Option xa_V → ih_S → Prop} {s : Int → Int} {a b d : Int} (ha : xa_rI a) (hb : xa_rI b) (hd : xa_rI d) (W : ih_Wr t 1 s) (G : ih_Gd s) (K : ih_roC t (f_lasting s a b d) Q) : ih_Wp X 80 0 [xR 0, xI a, xI b, xI d, xC 1] [] t Q := by
  have nw : t 1 5 = s 0 := W.now
  have gn := G.now
  refine ih_seg (i1 := 1) 1 rfl ?_
  refine ih_is1 106 rfl rfl (Nat.le_of_ble_eq_true rfl) (Nat.le_of_ble_eq_true rfl) rfl ?_
  refine c_isPaper (by omega) (fun w1 => ?_) (fun w2 => ?_)
  · refine ih_seg (i1 := 4) 2 rfl ?_
    refine ih_is1 105 rfl rfl (Nat.le_of_ble_eq_true rfl) (Nat.le_of_ble_eq_true rfl) rfl ?_
    refine c_isInk (by omega) (fun w3 => ?_) (fun w4 => ?_)
    · refine ih_seg (i1 := 9) 4 rfl ?_
      refine ih_is3 103 rfl rfl (Nat.le_of_ble_eq_true rfl) (Nat.le_of_ble_eq_true rfl) rfl ?_
      refine c_within (by omega) (by omega) (by omega) (fun w5 => ?_) (fun w6 => ?_)
      · refine ih_seg (i1 := 16) 2 rfl ?_
        refine ih_getR rfl rfl ?_
        refine ih_getI rfl (by first | rfl | exact ih_fW5 (by assumption)) ?_
        refine ih_seg (i1 := 21) 3 rfl ?_
        try dsimp only
        refine ih_icmp_le rfl (by omega) (by omega) (fun w7 => ?_) (fun w7 => ?_)
        · refine ih_seg (i1 := 28) 2 rfl ?_
          refine ih_iv1 116 rfl rfl (by first | rfl | exact ih_kP (ih_P_w0 hc) |  exact ih_kP (by assumption) | exact ih_kC (by assumption) | exact ih_kN (by assumption) | exact ih_kS (by assumption) | exact ih_kW (by assumption)) (Nat.le_of_ble_eq_true rfl) (Nat.le_of_ble_eq_true rfl) rfl ?_
          obtain ⟨c, rfl⟩ := Int.eq_ofNat_of_zero_le (show 0 ≤ a by omega)
          have hc : c < 4 := by omega
          have P := ih_PG_W W G hc
          refine c_reckoned hc P (fun t1 hf he => ?_)
          have nw1 : t1 1 5 = s 0 := (congrFun (hf 1 (by omega)) 5).trans nw
          refine ih_seg (i1 := 31) 2 rfl ?_
          refine ih_getR rfl rfl ?_
          refine ih_getI rfl (by first | rfl | exact ih_fW5 (by assumption)) ?_
          refine ih_seg (i1 := 34) 1 rfl ?_
          refine ih_getR rfl rfl ?_
          refine ih_getI rfl (by first | rfl | exact ih_fW5 (by assumption)) ?_
          refine ih_seg (i1 := 38) 2 rfl ?_
          try dsimp only
          refine ih_iv3 20 rfl rfl (by first | rfl | exact ih_kP (ih_P_w0 hc) |  exact ih_kP (by assumption) | exact ih_kC (by assumption) | exact ih_kN (by assumption) | exact ih_kS (by assumption) | exact ih_kW (by assumption)) (Nat.le_of_ble_eq_true rfl) (Nat.le_of_ble_eq_true rfl) rfl ?_
          rw [nw1]
          have hlr : 1 ≤ ih_lst s c b d 1 ∧ ih_lst s c b d 1 ≤ 1000 := by
            have := ih_fst_rg (f := fun v => ih_st (ih_u1 s (2 + b) v) c (ih_rM s c (s 0)) (s 0) (s 0 + d)) (a := 1) (n := (1000 - 1 : Int).toNat)
            unfold ih_lst
            omega
          refine c_leastLasts hc (by omega) (by omega) W G hf he ⟨fun hq t2 h2 => ?_, fun hq t2 h2 => ?_⟩
          · refine ih_seg (i1 := 41) 2 rfl ?_
            try simp only [xa_set, List.set_cons_zero, List.set_cons_succ, List.getElem?_cons_zero, List.getElem?_cons_succ]
            refine ih_ifc_ge rfl (by omega) (fun w8 => ?_) (fun w8 => ?_)
            · refine ih_seg (i1 := 47) 1 rfl ?_
              refine ih_ret rfl rfl ?_
              first
                | (exfalso
                   omega)
                | exact ih_roC_no K (by rw [f_lasting, if_neg (by omega)]) (ih_sc_r _)
                | exact ih_roC_no K (by rw [f_lasting, if_pos (by omega), if_pos (by omega)]) (ih_sc_r _)
                | exact ih_roC_ok K (by rw [f_lasting, if_pos (by omega), if_neg (by omega), Int.toNat_natCast, if_pos (by omega)]) (ih_sc_t (ih_sc_e hc hf) h2)
                | exact ih_roC_no K (by rw [f_lasting, if_pos (by omega), if_neg (by omega), Int.toNat_natCast, if_neg (by omega)]) (ih_sc_t (ih_sc_e hc hf) h2)
                | (exfalso
                   omega)
            · refine ih_seg (i1 := 44) 2 rfl ?_
              refine ih_iv1 102 rfl rfl (by first | rfl | exact ih_kP (ih_P_w0 hc) |  exact ih_kP (by assumption) | exact ih_kC (by assumption) | exact ih_kN (by assumption) | exact ih_kS (by assumption) | exact ih_kW (by assumption)) (Nat.le_of_ble_eq_true rfl) (Nat.le_of_ble_eq_true rfl) rfl ?_
              refine c_finding (by omega) ?_
              refine ih_seg (i1 := 47) 1 rfl ?_
              refine ih_ret rfl rfl ?_
              first
                | (exfalso
                   omega)
                | exact ih_roC_no K (by rw [f_lasting, if_neg (by omega)]) (ih_sc_r _)
                | exact ih_roC_no K (by rw [f_lasting, if_pos (by omega), if_pos (by omega)]) (ih_sc_r _)
                | exact ih_roC_ok K (by rw [f_lasting, if_pos (by omega), if_neg (by omega), Int.toNat_natCast, if_pos (by omega)]) (ih_sc_t (ih_sc_e hc hf) h2)
                | exact ih_roC_no K (by rw [f_lasting, if_pos (by omega), if_neg (by omega), Int.toNat_natCast, if_neg (by omega)]) (ih_sc_t (ih_sc_e hc hf) h2)
                | (exfalso
                   omega)
          · refine ih_seg (i1 := 41) 2 rfl ?_
            try simp only [xa_set, List.set_cons_zero, List.set_cons_succ, List.getElem?_cons_zero, List.getElem?_cons_succ]
            refine ih_ifc_ge rfl (by omega) (fun w9 => ?_) (fun w9 => ?_)
            · refine ih_seg (i1 := 47) 1 rfl ?_
              refine ih_ret rfl rfl ?_
              first
                | (exfalso
                   omega)
                | exact ih_roC_no K (by rw [f_lasting, if_neg (by omega)]) (ih_sc_r _)
                | exact ih_roC_no K (by rw [f_lasting, if_pos (by omega), if_pos (by omega)]) (ih_sc_r _)
                | exact ih_roC_ok K (by rw [f_lasting, if_pos (by omega), if_neg (by omega), Int.toNat_natCast, if_pos (by omega)]) (ih_sc_t (ih_sc_e hc hf) h2)
                | exact ih_roC_no K (by rw [f_lasting, if_pos (by omega), if_neg (by omega), Int.toNat_natCast, if_neg (by omega)]) (ih_sc_t (ih_sc_e hc hf) h2)
                | (exfalso
                   omega)
            · refine ih_seg (i1 := 44) 2 rfl ?_
              refine ih_iv1 102 rfl rfl (by first | rfl | exact ih_kP (ih_P_w0 hc) |  exact ih_kP (by assumption) | exact ih_kC (by assumption) | exact ih_kN (by assumption) | exact ih_kS (by assumption) | exact ih_kW (by assumption)) (Nat.le_of_ble_eq_true rfl) (Nat.le_of_ble_eq_true rfl) rfl ?_
              refine c_finding (by omega) ?_
              refine ih_seg (i1 := 47) 1 rfl ?_
              refine ih_ret rfl rfl ?_
              first
                | (exfalso
                   omega)
                | exact ih_roC_no K (by rw [f_lasting, if_neg (by omega)]) (ih_sc_r _)
                | exact ih_roC_no K (by rw [f_lasting, if_pos (by omega), if_pos (by omega)]) (ih_sc_r _)
                | exact ih_roC_ok K (by rw [f_lasting, if_pos (by omega), if_neg (by omega), Int.toNat_natCast, if_pos (by omega)]) (ih_sc_t (ih_sc_e hc hf) h2)
                | exact ih_roC_no K (by rw [f_lasting, if_pos (by omega), if_neg (by omega), Int.toNat_natCast, if_neg (by omega)]) (ih_sc_t (ih_sc_e hc hf) h2)
                | (exfalso
                   omega)
        · refine ih_seg (i1 := 24) 2 rfl ?_
          refine ih_iv1 102 rfl rfl (by first | rfl | exact ih_kP (ih_P_w0 hc) |  exact ih_kP (by assumption) | exact ih_kC (by assumption) | exact ih_kN (by assumption) | exact ih_kS (by assumption) | exact ih_kW (by assumption)) (Nat.le_of_ble_eq_true rfl) (Nat.le_of_ble_eq_true rfl) rfl ?_
          refine c_finding (by omega) ?_
          refine ih_ret rfl rfl ?_
          first
            | (exfalso
               omega)
            | exact ih_roC_no K (by rw [f_lasting, if_neg (by omega)]) (ih_sc_r _)
            | exact ih_roC_no K (by rw [f_lasting, if_pos (by omega), if_pos (by omega)]) (ih_sc_r _)
            | exact ih_roC_ok K (by rw [f_lasting, if_pos (by omega), if_neg (by omega), Int.toNat_natCast, if_pos (by omega)]) (ih_sc_t (ih_sc_e hc hf) h2)
            | exact ih_roC_no K (by rw [f_lasting, if_pos (by omega), if_neg (by omega), Int.toNat_natCast, if_neg (by omega)]) (ih_sc_t (ih_sc_e hc hf) h2)
            | (exfalso
               omega)
      · refine ih_seg (i1 := 13) 3 rfl ?_
        refine ih_iv1 102 rfl rfl (by first | rfl | exact ih_kP (ih_P_w0 hc) |  exact ih_kP (by assumption) | exact ih_kC (by assumption) | exact ih_kN (by assumption) | exact ih_kS (by assumption) | exact ih_kW (by assumption)) (Nat.le_of_ble_eq_true rfl) (Nat.le_of_ble_eq_true rfl) rfl ?_
        refine c_finding (by omega) ?_
        refine ih_ret rfl rfl ?_
        first
          | (exfalso
             omega)
          | exact ih_roC_no K (by rw [f_lasting, if_neg (by omega)]) (ih_sc_r _)
          | exact ih_roC_no K (by rw [f_lasting, if_pos (by omega), if_pos (by omega)]) (ih_sc_r _)
          | exact ih_roC_ok K (by rw [f_lasting, if_pos (by omega), if_neg (by omega), Int.toNat_natCast, if_pos (by omega)]) (ih_sc_t (ih_sc_e hc hf) h2)
          | exact ih_roC_no K (by rw [f_lasting, if_pos (by omega), if_neg (by omega), Int.toNat_natCast, if_neg (by omega)]) (ih_sc_t (ih_sc_e hc hf) h2)
          | (exfalso
             omega)
    · refine ih_seg (i1 := 13) 3 rfl ?_
      refine ih_iv1 102 rfl rfl (by first | rfl | exact ih_kP (ih_P_w0 hc) |  exact ih_kP (by assumption) | exact ih_kC (by assumption) | exact ih_kN (by assumption) | exact ih_kS (by assumption) | exact ih_kW (by assumption)) (Nat.le_of_ble_eq_true rfl) (Nat.le_of_ble_eq_true rfl) rfl ?_
      refine c_finding (by omega) ?_
      refine ih_ret rfl rfl ?_
      first
        | (exfalso
           omega)
        | exact ih_roC_no K (by rw [f_lasting, if_neg (by omega)]) (ih_sc_r _)
        | exact ih_roC_no K (by rw [f_lasting, if_pos (by omega), if_pos (by omega)]) (ih_sc_r _)
        | exact ih_roC_ok K (by rw [f_lasting, if_pos (by omega), if_neg (by omega), Int.toNat_natCast, if_pos (by omega)]) (ih_sc_t (ih_sc_e hc hf) h2)
        | exact ih_roC_no K (by rw [f_lasting, if_pos (by omega), if_neg (by omega), Int.toNat_natCast, if_neg (by omega)]) (ih_sc_t (ih_sc_e hc hf) h2)
        | (exfalso
           omega)
  · refine ih_seg (i1 := 13) 3 rfl ?_
    refine ih_iv1 102 rfl rfl (by first | rfl | exact ih_kP (ih_P_w0 hc) |  exact ih_kP (by assumption) | exact ih_kC (by assumption) | exact ih_kN (by assumption) | exact ih_kS (by assumption) | exact ih_kW (by assumption)) (Nat.le_of_ble_eq_true rfl) (Nat.le_of_ble_eq_true rfl) rfl ?_
    refine c_finding (by omega) ?_
    refine ih_ret rfl rfl ?_
    first
      | (exfalso
         omega)
      | exact ih_roC_no K (by rw [f_lasting, if_neg (by omega)]) (ih_sc_r _)
      | exact ih_roC_no K (by rw [f_lasting, if_pos (by omega), if_pos (by omega)]) (ih_sc_r _)
      | exact ih_roC_ok K (by rw [f_lasting, if_pos (by omega), if_neg (by omega), Int.toNat_natCast, if_pos (by omega)]) (ih_sc_t (ih_sc_e hc hf) h2)
      | exact ih_roC_no K (by rw [f_lasting, if_pos (by omega), if_neg (by omega), Int.toNat_natCast, if_neg (by omega)]) (ih_sc_t (ih_sc_e hc hf) h2)
      | (exfalso
         omega)


/-- only what the reference writes while it reckons, and its row, have changed -/
def ih_rq (t t1 : ih_S) : Prop := (∀ j, j < 111 ∨ j = 113 ∨ j = 115 ∨ (117 ≤ j ∧ j ≤ 120) → t1 j = t j) ∧ ∀ f : Int, f < 5 ∨ 9 < f → t1 111 f = t 111 f
theorem ih_rq_r (t : ih_S) : ih_rq t t := ⟨fun _ _ => rfl, fun _ _ => rfl⟩
theorem ih_rq_t {t t1 t2 : ih_S} (a : ih_rq t t1) (b : ih_rq t1 t2) : ih_rq t t2 := ⟨fun j h => (b.1 j h).trans (a.1 j h), fun f h => (b.2 f h).trans (a.2 f h)⟩
theorem ih_rq_f {t t1 : ih_S} (a : ih_rf t t1) : ih_rq t t1 := ⟨fun j h => a.1 j (by omega), a.2⟩
theorem ih_rq_w {t t1 : ih_S} (h : ∀ j, j ≠ 112 → t1 j = t j) : ih_rq t t1 := ⟨fun j hj => h j (by omega), fun f _ => by rw [h 111 (by omega)]⟩
theorem ih_rq_o {t t1 : ih_S} (h : ∀ j, j ≠ 114 → t1 j = t j) : ih_rq t t1 := ⟨fun j hj => h j (by omega), fun f _ => by rw [h 111 (by omega)]⟩
theorem ih_rq_u {t t1 : ih_S} {j z : Int} (a : ih_rq t t1) : ih_rq t (ih_up t1 112 j z) := ih_rq_t a (ih_rq_w (fun j hj => ih_up_ne hj))
theorem ih_rr_q {t t1 : ih_S} (a : ih_rq t t1) (h : t1 112 = t 112) : ih_rr t t1 := by
  refine ⟨fun j hj => ?_, a.2⟩
  by_cases e : j = 112
  · subst e
    exact h
  · exact a.1 j (by omega)

theorem r_lasting_e {X : List Int} {t : ih_S} {Q : Option xa_V → ih_S → Prop} {p : Nat} {b n v w : Int} {s : Int → Int} (hp : p < 4) (hb : 0 ≤ b ∧ b < 8) (hv : 1 ≤ v ∧ v < 1000) (hw : xa_rI w) {t1 : ih_S} (hf : ih_rq t t1) (h3 : ∀ x, x ≠ 2 + b → t1 112 x = s x) (K : ih_roR t (ih_ok1 v) Q) (hs : t 112 = s) : ih_Wp X 171 46 [xR 111, xI p, xI b, xI n, xI (s 0), xI (ih_rM s p (s 0)), xI (s (2 + b)), xI v, xI w] [] t1 Q := by
  have er : ih_up t1 112 (2 + b) (s (2 + b)) 112 = t 112 := by
    rw [ih_up_eq, hs]
    funext x
    rw [ih_u1x]
    split
    · next e => rw [e]
    · next e => exact h3 x e
  refine ih_seg (i1 := 48) 2 rfl ?_
  refine ih_icmp_gt rfl (by omega) (by omega) (fun w1 => ?_) (fun w1 => ?_)
  · refine ih_seg (i1 := 73) 1 rfl ?_
    refine ih_getR rfl rfl ?_
    refine ih_seg (i1 := 78) 4 rfl ?_
    try dsimp only
    refine ih_iast rfl (by first | rfl | exact ih_lP1 (ih_P_w0 hc) | exact ih_lP2 (ih_P_w0 hc) | exact ih_lP3 (ih_P_w0 hc) | exact ih_lP4 (ih_P_w0 hc) |  exact ih_lP1 (by assumption) | exact ih_lP2 (by assumption) | exact ih_lP3 (by assumption) | exact ih_lP4 (by assumption) | exact ih_lC1 (by assumption) | exact ih_lS1 (by assumption) | exact ih_lW1 (by assumption) | exact ih_lW2 (by assumption) | exact ih_lW4 (by assumption) | exact ih_lW5 (by assumption)) (by omega) (by omega) (k := ?_)
    refine ih_seg (i1 := 80) 1 rfl ?_
    refine ih_ifc_ge rfl (by omega) (fun w2 => ?_) (fun w2 => ?_)
    · refine ih_seg (i1 := 86) 1 rfl ?_
      refine ih_ret rfl rfl ?_
      first
        | exact ih_roR_ok K rfl (ih_rr_q (ih_rq_u hf) er)
        | (exfalso
           omega)
    · refine ih_seg (i1 := 83) 2 rfl ?_
      refine ih_iv1 127 rfl rfl (by first | rfl | exact ih_kP (ih_P_w0 hc) |  exact ih_kP (by assumption) | exact ih_kC (by assumption) | exact ih_kN (by assumption) | exact ih_kS (by assumption) | exact ih_kW (by assumption)) (Nat.le_of_ble_eq_true rfl) (Nat.le_of_ble_eq_true rfl) rfl ?_
      refine r_finds 3 rfl (by omega) ?_
      refine ih_seg (i1 := 86) 1 rfl ?_
      refine ih_ret rfl rfl ?_
      first
        | exact ih_roR_ok K rfl (ih_rr_q (ih_rq_u hf) er)
        | (exfalso
           omega)
  · refine ih_seg (i1 := 50) 1 rfl ?_
    refine ih_ifc_ge rfl (by omega) (fun w3 => ?_) (fun w3 => ?_)
    · refine ih_seg (i1 := 73) 1 rfl ?_
      refine ih_getR rfl rfl ?_
      refine ih_seg (i1 := 78) 4 rfl ?_
      try dsimp only
      refine ih_iast rfl (by first | rfl | exact ih_lP1 (ih_P_w0 hc) | exact ih_lP2 (ih_P_w0 hc) | exact ih_lP3 (ih_P_w0 hc) | exact ih_lP4 (ih_P_w0 hc) |  exact ih_lP1 (by assumption) | exact ih_lP2 (by assumption) | exact ih_lP3 (by assumption) | exact ih_lP4 (by assumption) | exact ih_lC1 (by assumption) | exact ih_lS1 (by assumption) | exact ih_lW1 (by assumption) | exact ih_lW2 (by assumption) | exact ih_lW4 (by assumption) | exact ih_lW5 (by assumption)) (by omega) (by omega) (k := ?_)
      refine ih_seg (i1 := 80) 1 rfl ?_
      refine ih_ifc_ge rfl (by omega) (fun w4 => ?_) (fun w4 => ?_)
      · refine ih_seg (i1 := 86) 1 rfl ?_
        refine ih_ret rfl rfl ?_
        first
          | exact ih_roR_ok K rfl (ih_rr_q (ih_rq_u hf) er)
          | (exfalso
             omega)
      · refine ih_seg (i1 := 83) 2 rfl ?_
        refine ih_iv1 127 rfl rfl (by first | rfl | exact ih_kP (ih_P_w0 hc) |  exact ih_kP (by assumption) | exact ih_kC (by assumption) | exact ih_kN (by assumption) | exact ih_kS (by assumption) | exact ih_kW (by assumption)) (Nat.le_of_ble_eq_true rfl) (Nat.le_of_ble_eq_true rfl) rfl ?_
        refine r_finds 3 rfl (by omega) ?_
        refine ih_seg (i1 := 86) 1 rfl ?_
        refine ih_ret rfl rfl ?_
        first
          | exact ih_roR_ok K rfl (ih_rr_q (ih_rq_u hf) er)
          | (exfalso
             omega)
    · exfalso
      omega


theorem r_lasting_l {X : List Int} {t : ih_S} {Q : Option xa_V → ih_S → Prop} {p : Nat} {b n : Int} {s : Int → Int} (hp : p < 4) (hb : 0 ≤ b ∧ b < 8) (hn : 0 ≤ n ∧ s 0 + n < 10000) (G : ih_Gd s)  : ∀ (d : Nat) (v : Int) (t1 : ih_S) (hd : v + d = 1000) (hv : 1 ≤ v) (hf : ih_rq t t1) (h3 : ∀ x, x ≠ 2 + b → t1 112 x = s x) (K : ih_roR t (if ih_lst s p b n v < 1000 then ih_ok1 (ih_lst s p b n v) else ih_no 3) Q) (hs : t 112 = s), ih_Wp X 171 46 [xR 111, xI p, xI b, xI n, xI (s 0), xI (ih_rM s p (s 0)), xI (s (2 + b)), xI (-1), xI v] [] t1 Q := by
  intro d
  induction d with
  | zero =>
    intro v t1 hd hv hf h3 K hs
    obtain rfl : v = 1000 := by omega
    have er : ih_up t1 112 (2 + b) (s (2 + b)) 112 = t 112 := by
      rw [ih_up_eq, hs]
      funext x
      rw [ih_u1x]
      split
      · next e => rw [e]
      · next e => exact h3 x e
    refine ih_seg (i1 := 48) 2 rfl ?_
    refine ih_icmp_gt rfl (by omega) (by omega) (fun w1 => ?_) (fun w1 => ?_)
    · refine ih_seg (i1 := 73) 1 rfl ?_
      refine ih_getR rfl rfl ?_
      refine ih_seg (i1 := 78) 4 rfl ?_
      try dsimp only
      refine ih_iast rfl (by first | rfl | exact ih_lP1 (ih_P_w0 hc) | exact ih_lP2 (ih_P_w0 hc) | exact ih_lP3 (ih_P_w0 hc) | exact ih_lP4 (ih_P_w0 hc) |  exact ih_lP1 (by assumption) | exact ih_lP2 (by assumption) | exact ih_lP3 (by assumption) | exact ih_lP4 (by assumption) | exact ih_lC1 (by assumption) | exact ih_lS1 (by assumption) | exact ih_lW1 (by assumption) | exact ih_lW2 (by assumption) | exact ih_lW4 (by assumption) | exact ih_lW5 (by assumption)) (by omega) (by omega) (k := ?_)
      refine ih_seg (i1 := 80) 1 rfl ?_
      refine ih_ifc_ge rfl (by omega) (fun w2 => ?_) (fun w2 => ?_)
      · refine ih_seg (i1 := 86) 1 rfl ?_
        refine ih_ret rfl rfl ?_
        first
          | exact ih_roR_no 3 K (by rw [ih_lst_e rfl, if_neg (by omega)]) rfl (ih_rr_q (ih_rq_u hf) er)
          | (exfalso
             omega)
      · refine ih_seg (i1 := 83) 2 rfl ?_
        refine ih_iv1 127 rfl rfl (by first | rfl | exact ih_kP (ih_P_w0 hc) |  exact ih_kP (by assumption) | exact ih_kC (by assumption) | exact ih_kN (by assumption) | exact ih_kS (by assumption) | exact ih_kW (by assumption)) (Nat.le_of_ble_eq_true rfl) (Nat.le_of_ble_eq_true rfl) rfl ?_
        refine r_finds 3 rfl (by omega) ?_
        refine ih_seg (i1 := 86) 1 rfl ?_
        refine ih_ret rfl rfl ?_
        first
          | exact ih_roR_no 3 K (by rw [ih_lst_e rfl, if_neg (by omega)]) rfl (ih_rr_q (ih_rq_u hf) er)
          | (exfalso
             omega)
    · exfalso
      omega

  | succ d ih =>
    intro v t1 hd hv hf h3 K hs
    have G2 := ih_Gu_lst (b := b) (v := v) hb (by omega) G
    have P2 := G2.pap p hp
    have gn := G.now
    have mr0 := ih_rM_rg s p (s 0)
    have e2 : ih_up t1 112 (2 + b) v 112 = ih_u1 s (2 + b) v := by
      rw [ih_up_eq]
      funext x
      rw [ih_u1x, ih_u1x]
      split
      · rfl
      · next e => exact h3 x e
    refine ih_seg (i1 := 48) 2 rfl ?_
    refine ih_icmp_gt rfl (by omega) (by omega) (fun w1 => ?_) (fun w1 => ?_)
    · refine ih_seg (i1 := 73) 1 rfl ?_
      refine ih_getR rfl rfl ?_
      refine ih_seg (i1 := 78) 4 rfl ?_
      try dsimp only
      refine ih_iast rfl (by first | rfl | exact ih_lP1 (ih_P_w0 hc) | exact ih_lP2 (ih_P_w0 hc) | exact ih_lP3 (ih_P_w0 hc) | exact ih_lP4 (ih_P_w0 hc) |  exact ih_lP1 (by assumption) | exact ih_lP2 (by assumption) | exact ih_lP3 (by assumption) | exact ih_lP4 (by assumption) | exact ih_lC1 (by assumption) | exact ih_lS1 (by assumption) | exact ih_lW1 (by assumption) | exact ih_lW2 (by assumption) | exact ih_lW4 (by assumption) | exact ih_lW5 (by assumption)) (by omega) (by omega) (k := ?_)
      refine ih_seg (i1 := 80) 1 rfl ?_
      refine ih_ifc_ge rfl (by omega) (fun w2 => ?_) (fun w2 => ?_)
      · refine ih_seg (i1 := 86) 1 rfl ?_
        refine ih_ret rfl rfl ?_
        exfalso
        omega
      · refine ih_seg (i1 := 83) 2 rfl ?_
        refine ih_iv1 127 rfl rfl (by first | rfl | exact ih_kP (ih_P_w0 hc) |  exact ih_kP (by assumption) | exact ih_kC (by assumption) | exact ih_kN (by assumption) | exact ih_kS (by assumption) | exact ih_kW (by assumption)) (Nat.le_of_ble_eq_true rfl) (Nat.le_of_ble_eq_true rfl) rfl ?_
        refine r_finds 3 rfl (by omega) ?_
        refine ih_seg (i1 := 86) 1 rfl ?_
        refine ih_ret rfl rfl ?_
        exfalso
        omega
    · refine ih_seg (i1 := 50) 1 rfl ?_
      refine ih_ifc_ge rfl (by omega) (fun w3 => ?_) (fun w3 => ?_)
      · refine ih_seg (i1 := 73) 1 rfl ?_
        refine ih_getR rfl rfl ?_
        refine ih_seg (i1 := 78) 4 rfl ?_
        try dsimp only
        refine ih_iast rfl (by first | rfl | exact ih_lP1 (ih_P_w0 hc) | exact ih_lP2 (ih_P_w0 hc) | exact ih_lP3 (ih_P_w0 hc) | exact ih_lP4 (ih_P_w0 hc) |  exact ih_lP1 (by assumption) | exact ih_lP2 (by assumption) | exact ih_lP3 (by assumption) | exact ih_lP4 (by assumption) | exact ih_lC1 (by assumption) | exact ih_lS1 (by assumption) | exact ih_lW1 (by assumption) | exact ih_lW2 (by assumption) | exact ih_lW4 (by assumption) | exact ih_lW5 (by assumption)) (by omega) (by omega) (k := ?_)
        refine ih_seg (i1 := 80) 1 rfl ?_
        refine ih_ifc_ge rfl (by omega) (fun w4 => ?_) (fun w4 => ?_)
        · refine ih_seg (i1 := 86) 1 rfl ?_
          refine ih_ret rfl rfl ?_
          exfalso
          omega
        · refine ih_seg (i1 := 83) 2 rfl ?_
          refine ih_iv1 127 rfl rfl (by first | rfl | exact ih_kP (ih_P_w0 hc) |  exact ih_kP (by assumption) | exact ih_kC (by assumption) | exact ih_kN (by assumption) | exact ih_kS (by assumption) | exact ih_kW (by assumption)) (Nat.le_of_ble_eq_true rfl) (Nat.le_of_ble_eq_true rfl) rfl ?_
          refine r_finds 3 rfl (by omega) ?_
          refine ih_seg (i1 := 86) 1 rfl ?_
          refine ih_ret rfl rfl ?_
          exfalso
          omega
      · refine ih_seg (i1 := 52) 1 rfl ?_
        refine ih_getR rfl rfl ?_
        refine ih_seg (i1 := 57) 4 rfl ?_
        try dsimp only
        refine ih_iast rfl (by first | rfl | exact ih_lP1 (ih_P_w0 hc) | exact ih_lP2 (ih_P_w0 hc) | exact ih_lP3 (ih_P_w0 hc) | exact ih_lP4 (ih_P_w0 hc) |  exact ih_lP1 (by assumption) | exact ih_lP2 (by assumption) | exact ih_lP3 (by assumption) | exact ih_lP4 (by assumption) | exact ih_lC1 (by assumption) | exact ih_lS1 (by assumption) | exact ih_lW1 (by assumption) | exact ih_lW2 (by assumption) | exact ih_lW4 (by assumption) | exact ih_lW5 (by assumption)) (by omega) (by omega) (k := ?_)
        refine ih_seg (i1 := 64) 6 rfl ?_
        try dsimp only
        refine ih_iv3 165 rfl rfl (by first | rfl | exact ih_kP (ih_P_w0 hc) |  exact ih_kP (by assumption) | exact ih_kC (by assumption) | exact ih_kN (by assumption) | exact ih_kS (by assumption) | exact ih_kW (by assumption)) (Nat.le_of_ble_eq_true rfl) (Nat.le_of_ble_eq_true rfl) rfl ?_
        have n0 : ih_u1 s (2 + b) v 0 = s 0 := ih_u1_ne (by omega)
        refine r_stay (t := ih_up t1 112 (2 + b) v) hp (by rw [e2]; exact P2) (ih_rf_r _) mr0 (by omega) (by rw [e2, n0]; exact gn) (fun t2 h2 hq => ?_) (fun t2 h2 hq => ?_)
        all_goals rw [e2, n0] at hq
        rotate_left
        · refine ih_seg (i1 := 46) 5 rfl ?_
          try simp only [xa_set, List.set_cons_zero, List.set_cons_succ, List.getElem?_cons_zero, List.getElem?_cons_succ]
          first
            | (refine ih (v + 1) t2 (by omega) (by omega) (ih_rq_t (ih_rq_u hf) (ih_rq_f h2)) (fun x hx => ?_) ?_ hs
               · rw [h2.1 112 (by decide), e2, ih_u1_ne hx]
               · rw [← ih_lst_n (by omega) (ih_st_n (by omega) hq)]
                 exact K)
            | (have ey := ih_lst_y (s := s) (p := p) (b := b) (n := n) (v := v) (by omega) (ih_st_y (by omega) hq)
               rw [ey, if_pos (by omega)] at K
               exact r_lasting_e hp hb (by omega) (by omega) (ih_rq_t (ih_rq_u hf) (ih_rq_f h2)) (fun x hx => by rw [h2.1 112 (by decide), e2, ih_u1_ne hx]) K hs)
            | (exfalso
               omega)
        · refine ih_seg (i1 := 46) 6 rfl ?_
          try simp only [xa_set, List.set_cons_zero, List.set_cons_succ, List.getElem?_cons_zero, List.getElem?_cons_succ]
          first
            | (refine ih (v + 1) t2 (by omega) (by omega) (ih_rq_t (ih_rq_u hf) (ih_rq_f h2)) (fun x hx => ?_) ?_ hs
               · rw [h2.1 112 (by decide), e2, ih_u1_ne hx]
               · rw [← ih_lst_n (by omega) (ih_st_n (by omega) hq)]
                 exact K)
            | (have ey := ih_lst_y (s := s) (p := p) (b := b) (n := n) (v := v) (by omega) (ih_st_y (by omega) hq)
               rw [ey, if_pos (by omega)] at K
               exact r_lasting_e hp hb (by omega) (by omega) (ih_rq_t (ih_rq_u hf) (ih_rq_f h2)) (fun x hx => by rw [h2.1 112 (by decide), e2, ih_u1_ne hx]) K hs)
            | (exfalso
               omega)


theorem r_op_lasting {X : List Int} {t : ih_S} {Q : Option xa_V → ih_S → Prop} {a b d : Int} (ha : xa_rI a) (hb : xa_rI b) (hd : xa_rI d) (G : ih_Gd (t 112)) (K : ih_roR t (f_lasting (t 112) a b d) Q) : ih_Wp X 171 0 [xR 111, xI a, xI b, xI d, xC 1, xC 1, xC 1, xC 1, xC 1] [] t Q := by
  have gn := G.now
  refine ih_seg (i1 := 1) 1 rfl ?_
  refine ih_is1 128 rfl rfl (Nat.le_of_ble_eq_true rfl) (Nat.le_of_ble_eq_true rfl) rfl ?_
  refine r_isPaper (by omega) (fun w1 => ?_) (fun w2 => ?_)
  · refine ih_seg (i1 := 4) 2 rfl ?_
    refine ih_is1 129 rfl rfl (Nat.le_of_ble_eq_true rfl) (Nat.le_of_ble_eq_true rfl) rfl ?_
    refine r_isInk (by omega) (fun w3 => ?_) (fun w4 => ?_)
    · refine ih_seg (i1 := 7) 2 rfl ?_
      refine ih_i2l rfl (by omega) ?_
      refine ih_seg (i1 := 10) 2 rfl ?_
      refine ih_is3 126 rfl rfl (Nat.le_of_ble_eq_true rfl) (Nat.le_of_ble_eq_true rfl) rfl ?_
      refine r_in (by omega) (by omega) (by omega) (fun w5 => ?_) (fun w6 => ?_)
      · refine ih_seg (i1 := 17) 2 rfl ?_
        refine ih_getR rfl rfl ?_
        refine ih_seg (i1 := 19) 1 rfl ?_
        refine ih_iald rfl (by first | rfl | exact ih_lP1 (ih_P_w0 hc) | exact ih_lP2 (ih_P_w0 hc) | exact ih_lP3 (ih_P_w0 hc) | exact ih_lP4 (ih_P_w0 hc) |  exact ih_lP1 (by assumption) | exact ih_lP2 (by assumption) | exact ih_lP3 (by assumption) | exact ih_lP4 (by assumption) | exact ih_lC1 (by assumption) | exact ih_lS1 (by assumption) | exact ih_lW1 (by assumption) | exact ih_lW2 (by assumption) | exact ih_lW4 (by assumption) | exact ih_lW5 (by assumption)) (by omega) (by omega) (k := ?_)
        refine ih_seg (i1 := 25) 5 rfl ?_
        try simp only [xa_set, List.set_cons_zero, List.set_cons_succ, List.getElem?_cons_zero, List.getElem?_cons_succ]
        refine ih_icmp_le rfl (by omega) (by omega) (fun w7 => ?_) (fun w7 => ?_)
        · refine ih_seg (i1 := 33) 3 rfl ?_
          refine ih_iv2 157 rfl rfl (by first | rfl | exact ih_kP (ih_P_w0 hc) |  exact ih_kP (by assumption) | exact ih_kC (by assumption) | exact ih_kN (by assumption) | exact ih_kS (by assumption) | exact ih_kW (by assumption)) (Nat.le_of_ble_eq_true rfl) (Nat.le_of_ble_eq_true rfl) rfl ?_
          obtain ⟨p, rfl⟩ := Int.eq_ofNat_of_zero_le (show 0 ≤ a by omega)
          have hp : p < 4 := by omega
          refine r_meansAt hp (G.pap p hp) (ih_rf_r _) (by omega) (fun t1 h1 => ?_)
          have es := ih_rf_s h1
          refine ih_seg (i1 := 36) 2 rfl ?_
          try simp only [xa_set, List.set_cons_zero, List.set_cons_succ, List.getElem?_cons_zero, List.getElem?_cons_succ]
          refine ih_getR rfl rfl ?_
          refine ih_seg (i1 := 40) 3 rfl ?_
          try dsimp only
          refine ih_iald rfl (by first | rfl | exact ih_lP1 (ih_P_w0 hc) | exact ih_lP2 (ih_P_w0 hc) | exact ih_lP3 (ih_P_w0 hc) | exact ih_lP4 (ih_P_w0 hc) |  exact ih_lP1 (by assumption) | exact ih_lP2 (by assumption) | exact ih_lP3 (by assumption) | exact ih_lP4 (by assumption) | exact ih_lC1 (by assumption) | exact ih_lS1 (by assumption) | exact ih_lW1 (by assumption) | exact ih_lW2 (by assumption) | exact ih_lW4 (by assumption) | exact ih_lW5 (by assumption)) (by omega) (by omega) (k := ?_)
          rw [es]
          refine ih_seg (i1 := 46) 5 rfl ?_
          try simp only [xa_set, List.set_cons_zero, List.set_cons_succ, List.getElem?_cons_zero, List.getElem?_cons_succ]
          rw [f_lasting, if_pos (by omega), if_neg (by omega), Int.toNat_natCast] at K
          exact r_lasting_l hp (by omega) (by omega) G 999 1 t1 (by omega) (by omega) (ih_rq_f h1) (fun x _ => by rw [es]) K rfl
        · refine ih_seg (i1 := 28) 2 rfl ?_
          refine ih_iv1 127 rfl rfl (by first | rfl | exact ih_kP (ih_P_w0 hc) |  exact ih_kP (by assumption) | exact ih_kC (by assumption) | exact ih_kN (by assumption) | exact ih_kS (by assumption) | exact ih_kW (by assumption)) (Nat.le_of_ble_eq_true rfl) (Nat.le_of_ble_eq_true rfl) rfl ?_
          refine r_finds 4 rfl (by omega) ?_
          refine ih_ret rfl rfl ?_
          first
            | exact ih_roR_no 0 K (by rw [f_lasting, if_neg (by omega)]) rfl (ih_rr_r _)
            | exact ih_roR_no 4 K (by rw [f_lasting, if_pos (by omega), if_pos (by omega)]) rfl (ih_rr_r _)
      · refine ih_seg (i1 := 14) 3 rfl ?_
        refine ih_iv1 127 rfl rfl (by first | rfl | exact ih_kP (ih_P_w0 hc) |  exact ih_kP (by assumption) | exact ih_kC (by assumption) | exact ih_kN (by assumption) | exact ih_kS (by assumption) | exact ih_kW (by assumption)) (Nat.le_of_ble_eq_true rfl) (Nat.le_of_ble_eq_true rfl) rfl ?_
        refine r_finds 0 rfl (by omega) ?_
        refine ih_ret rfl rfl ?_
        first
          | exact ih_roR_no 0 K (by rw [f_lasting, if_neg (by omega)]) rfl (ih_rr_r _)
          | exact ih_roR_no 4 K (by rw [f_lasting, if_pos (by omega), if_pos (by omega)]) rfl (ih_rr_r _)
    · refine ih_seg (i1 := 14) 3 rfl ?_
      refine ih_iv1 127 rfl rfl (by first | rfl | exact ih_kP (ih_P_w0 hc) |  exact ih_kP (by assumption) | exact ih_kC (by assumption) | exact ih_kN (by assumption) | exact ih_kS (by assumption) | exact ih_kW (by assumption)) (Nat.le_of_ble_eq_true rfl) (Nat.le_of_ble_eq_true rfl) rfl ?_
      refine r_finds 0 rfl (by omega) ?_
      refine ih_ret rfl rfl ?_
      first
        | exact ih_roR_no 0 K (by rw [f_lasting, if_neg (by omega)]) rfl (ih_rr_r _)
        | exact ih_roR_no 4 K (by rw [f_lasting, if_pos (by omega), if_pos (by omega)]) rfl (ih_rr_r _)
  · refine ih_seg (i1 := 14) 3 rfl ?_
    refine ih_iv1 127 rfl rfl (by first | rfl | exact ih_kP (ih_P_w0 hc) |  exact ih_kP (by assumption) | exact ih_kC (by assumption) | exact ih_kN (by assumption) | exact ih_kS (by assumption) | exact ih_kW (by assumption)) (Nat.le_of_ble_eq_true rfl) (Nat.le_of_ble_eq_true rfl) rfl ?_
    refine r_finds 0 rfl (by omega) ?_
    refine ih_ret rfl rfl ?_
    first
      | exact ih_roR_no 0 K (by rw [f_lasting, if_neg (by omega)]) rfl (ih_rr_r _)
      | exact ih_roR_no 4 K (by rw [f_lasting, if_pos (by omega), if_pos (by omega)]) rfl (ih_rr_r _)

