/-! cheapest -/
def ih_c2 (s : Int → Int) (p m1 m2 : Nat) (a b : Int) : Int → Int := g_cop (g_cop s p m1 a) p m2 b
def ih_cok (s : Int → Int) (p m1 m2 : Nat) (n i : Int) : Bool := ih_st (ih_c2 s p m1 m2 (i / 8) (i % 8)) p (ih_rM s p (s 0)) (s 0) (s 0 + n)
def ih_cco (s : Int → Int) (i : Int) : Int := s (10 + i / 8) + s (10 + i % 8)
def ih_cst (s : Int → Int) (p m1 m2 : Nat) (n i : Int) (x : Int × Int) : Int × Int := if ih_cco s i < x.2 ∧ ih_cok s p m1 m2 n i = true then (10 * (i / 8) + i % 8, ih_cco s i) else x
def ih_crn (s : Int → Int) (p m1 m2 : Nat) (n : Int) : Nat → Int → Int × Int → Int × Int
  | 0, _, x => x
  | k + 1, i, x => ih_crn s p m1 m2 n k (i + 1) (ih_cst s p m1 m2 n i x)
def ih_cl (s : Int → Int) (p m1 m2 : Nat) (n i : Int) (x : Int × Int) : Int × Int := ih_crn s p m1 m2 n (64 - i).toNat i x
theorem ih_cl_n {s : Int → Int} {p m1 m2 : Nat} {n i : Int} {x : Int × Int} (h : i < 64) : ih_cl s p m1 m2 n i x = ih_cl s p m1 m2 n (i + 1) (ih_cst s p m1 m2 n i x) := by
  unfold ih_cl
  rw [show (64 - i).toNat = (64 - (i + 1)).toNat + 1 by omega]
  rfl
theorem ih_cl_e {s : Int → Int} {p m1 m2 : Nat} {n i : Int} {x : Int × Int} (h : i = 64) : ih_cl s p m1 m2 n i x = x := by
  unfold ih_cl
  subst h
  rfl
theorem ih_crn_rg {s : Int → Int} {p m1 m2 : Nat} {n : Int} : ∀ (k : Nat) (i : Int) (x : Int × Int), 0 ≤ i → i + k ≤ 64 → -1 ≤ x.1 ∧ x.1 ≤ 77 → -1 ≤ (ih_crn s p m1 m2 n k i x).1 ∧ (ih_crn s p m1 m2 n k i x).1 ≤ 77
  | 0, i, x, h0, h1, h => h
  | k + 1, i, x, h0, h1, h => by
    refine ih_crn_rg k (i + 1) _ (by omega) (by omega) ?_
    unfold ih_cst
    split
    · dsimp only
      omega
    · exact h
def f_cheapest (s : Int → Int) (a b d n : Int) : ih_An := if ((0 ≤ a ∧ a < 4) ∧ (0 ≤ b ∧ b < s (22 + a)) ∧ 0 ≤ d ∧ d < s (22 + a)) ∧ b ≠ d ∧ 0 ≤ n ∧ n ≤ 200 then (if (ih_rs s a.toNat (s 0) b.toNat = true ∧ ih_rs s a.toNat (s 0) d.toNat = true) ∧ s 0 + n < 10000 then (if (ih_cl s a.toNat b.toNat d.toNat n 0 (-1, 199)).1 < 0 then ih_no 3 else ih_ok1 (ih_cl s a.toNat b.toNat d.toNat n 0 (-1, 199)).1) else ih_no 4) else ih_no 0
theorem ih_eo_of {t t1 : ih_S} {c m : Nat} {l f : Int} (hc : c < 4) (e : ∀ j, j < 85 → t1 j = t j) : ih_eo t1 c m l f = ih_eo t c m l f := by
  unfold ih_eo
  rw [e (7 + 5 * c) (by omega), e (8 + 5 * c) (by omega)]
section IHC
variable {s : Int → Int} {p m1 m2 : Nat} {a b : Int}
theorem ih_c2_x {x : Int} (h1 : x ≠ 26 + 48 * p + 4 * m1 + 2) (h2 : x ≠ 26 + 48 * p + 4 * m1 + 3) (h3 : x ≠ 26 + 48 * p + 4 * m2 + 2) (h4 : x ≠ 26 + 48 * p + 4 * m2 + 3) : ih_c2 s p m1 m2 a b x = s x := by
  unfold ih_c2 g_cop
  rw [ih_u1_ne h4, ih_u1_ne h3, ih_u1_ne h2, ih_u1_ne h1]
theorem ih_c2_1i (h : m1 ≠ m2) : ih_c2 s p m1 m2 a b (26 + 48 * p + 4 * m1 + 2) = a := by
  unfold ih_c2 g_cop
  rw [ih_u1_ne (i := 26 + 48 * (p : Int) + 4 * m1 + 2) (j := 26 + 48 * (p : Int) + 4 * m2 + 3) (by omega), ih_u1_ne (i := 26 + 48 * (p : Int) + 4 * m1 + 2) (j := 26 + 48 * (p : Int) + 4 * m2 + 2) (by omega), ih_u1_ne (i := 26 + 48 * (p : Int) + 4 * m1 + 2) (by omega), ih_u1_eq]
theorem ih_c2_1a (h : m1 ≠ m2) : ih_c2 s p m1 m2 a b (26 + 48 * p + 4 * m1 + 3) = s 0 := by
  unfold ih_c2 g_cop
  rw [ih_u1_ne (i := 26 + 48 * (p : Int) + 4 * m1 + 3) (j := 26 + 48 * (p : Int) + 4 * m2 + 3) (by omega), ih_u1_ne (i := 26 + 48 * (p : Int) + 4 * m1 + 3) (j := 26 + 48 * (p : Int) + 4 * m2 + 2) (by omega), ih_u1_eq]
theorem ih_c2_2i : ih_c2 s p m1 m2 a b (26 + 48 * p + 4 * m2 + 2) = b := by
  unfold ih_c2
  generalize g_cop s p m1 a = s1
  unfold g_cop
  rw [ih_u1_ne (i := 26 + 48 * (p : Int) + 4 * m2 + 2) (by omega), ih_u1_eq]
theorem ih_c2_2a : ih_c2 s p m1 m2 a b (26 + 48 * p + 4 * m2 + 3) = s 0 := by
  unfold ih_c2 g_cop
  rw [ih_u1_eq, ih_u1_ne (by omega), ih_u1_ne (by omega)]
theorem ih_c2_G (hp : p < 4) (h1 : (m1 : Int) < s (22 + p)) (h2 : (m2 : Int) < s (22 + p)) (ha : 0 ≤ a ∧ a < 8) (hb : 0 ≤ b ∧ b < 8) (G : ih_Gd s) : ih_Gd (ih_c2 s p m1 m2 a b) := by
  have G1 : ih_Gd (g_cop s p m1 a) := ih_Gu_cop hp h1 ha G
  refine ih_Gu_cop hp ?_ hb G1
  unfold g_cop
  rw [ih_u1_ne (by omega), ih_u1_ne (by omega)]
  exact h2
theorem ih_c2_same {s1 : Int → Int} (h : ∀ x, x ≠ 26 + 48 * (p : Int) + 4 * m1 + 2 → x ≠ 26 + 48 * (p : Int) + 4 * m1 + 3 → x ≠ 26 + 48 * (p : Int) + 4 * m2 + 2 → x ≠ 26 + 48 * (p : Int) + 4 * m2 + 3 → s1 x = s x) : ih_c2 s1 p m1 m2 a b = ih_c2 s p m1 m2 a b := by
  have e0 : s1 0 = s 0 := h 0 (by omega) (by omega) (by omega) (by omega)
  funext x
  unfold ih_c2 g_cop
  simp only [ih_u1x, and_true, true_and, and_self, if_true, if_false, reduceIte]
  (repeat' split) <;> first | rfl | omega | exact h x (by assumption) (by assumption) (by assumption) (by assumption)
/-- two marks that are seen and copied now: the meaning is held -/
theorem ih_c2_rs (hp : p < 4) (h1 : (m1 : Int) < s (22 + p)) (h2 : (m2 : Int) < s (22 + p)) (hne : m1 ≠ m2) (ha : 0 ≤ a ∧ a < 8) (hb : 0 ≤ b ∧ b < 8) (G : ih_Gd s) (r1 : ih_rs s p (s 0) m1 = true) (r2 : ih_rs s p (s 0) m2 = true) : ih_rM (ih_c2 s p m1 m2 a b) p (s 0) = ih_rM s p (s 0) := by
  have G2 := ih_c2_G hp h1 h2 ha hb G
  have z := (G.pap p hp).sz
  have gn := G.now
  have e22 : ih_c2 s p m1 m2 a b (22 + p) = s (22 + p) := ih_c2_x (by omega) (by omega) (by omega) (by omega)
  have e18 : ih_c2 s p m1 m2 a b (18 + p) = s (18 + p) := ih_c2_x (by omega) (by omega) (by omega) (by omega)
  have sp : ∀ k : Nat, (k : Int) < s (22 + p) → 1 ≤ ih_rsp (ih_c2 s p m1 m2 a b) p k := by
    intro k hk
    have hi := (G2.pap p hp).ink k (by rw [e22]; exact hk)
    have hl := (G2.pap p hp).las _ hi.1 hi.2
    exact (ih_span_rg (k := ih_c2 s p m1 m2 a b (26 + 48 * p + 4 * k)) hl.1 hl.2).1
  unfold ih_rM
  rw [e22]
  refine congrArg ih_val (ih_fd_congr (fun k hk => ⟨ih_c2_x (by omega) (by omega) (by omega) (by omega), ih_c2_x (by omega) (by omega) (by omega) (by omega), ?_⟩))
  by_cases q1 : k = m1
  · subst q1
    rw [r1]
    unfold ih_rs
    have := sp k h1
    rw [ih_c2_1a hne, e18, decide_eq_true_eq]
    omega
  · by_cases q2 : k = m2
    · subst q2
      rw [r2]
      unfold ih_rs
      have := sp k h2
      rw [ih_c2_2a, e18, decide_eq_true_eq]
      omega
    · unfold ih_rs ih_rsp
      rw [e18, ih_c2_x (x := 26 + 48 * (p : Int) + 4 * k + 3) (by omega) (by omega) (by omega) (by omega), ih_c2_x (x := 26 + 48 * (p : Int) + 4 * k) (by omega) (by omega) (by omega) (by omega), ih_c2_x (x := 26 + 48 * (p : Int) + 4 * k + 2) (by omega) (by omega) (by omega) (by omega)]
      have hi := (G.pap p hp).ink k (by omega)
      rw [ih_c2_x (x := 2 + s (26 + 48 * (p : Int) + 4 * k + 2)) (by omega) (by omega) (by omega) (by omega)]
end IHC

theorem c_cp2 {X : List Int} {Q : Option xa_V → ih_S → Prop} {s : Int → Int} {c m1 m2 : Nat} {n : Int} (hc : c < 4) (hm1 : (m1 : Int) < s (22 + c)) (hm2 : (m2 : Int) < s (22 + c)) (hne : m1 ≠ m2) (r1 : ih_rs s c (s 0) m1 = true) (r2 : ih_rs s c (s 0) m2 = true) (hn : 0 ≤ n ∧ s 0 + n < 10000) (G : ih_Gd s) {a b : Nat} {best bp : Int} (ha : a < 8) (hb : b < 8) {t2 : ih_S} (W : ih_Wr t2 1 s) (he1 : t2 (92 + 3 * c) m1 = ih_eo t2 c m1 (s (2 + a)) (s 0)) (he2 : t2 (92 + 3 * c) m2 = ih_eo t2 c m2 (s (2 + b)) (s 0)) (he : ∀ k : Nat, (k : Int) < s (22 + c) → k ≠ m1 → k ≠ m2 → t2 (92 + 3 * c) k = ih_how (s (18 + c)) (ih_w (s (18 + c)) (s (26 + 48 * c + 4 * k + 3)) + ih_rsp s c k)) (Ky : ih_cok s c m1 m2 n (8 * (a : Int) + b) = true → ∀ t3, ih_fr c t2 t3 → ih_Wp X 117 74 [xR 0, xR (91 + 3 * c), xI m1, xI m2, xI (s 0 + n), xI (10 * (a : Int) + b), xI (s (10 + a) + s (10 + b)), xI a, xI b, xI (s (10 + a) + s (10 + b))] [] t3 Q) (Kn : ih_cok s c m1 m2 n (8 * (a : Int) + b) = false → ∀ t3, ih_fr c t2 t3 → ih_Wp X 117 74 [xR 0, xR (91 + 3 * c), xI m1, xI m2, xI (s 0 + n), xI best, xI bp, xI a, xI b, xI (s (10 + a) + s (10 + b))] [] t3 Q) : ih_Wp X 117 59 [xR 0, xR (91 + 3 * c), xI m1, xI m2, xI (s 0 + n), xI best, xI bp, xI a, xI b, xI (s (10 + a) + s (10 + b))] [] t2 Q := by
  have G2 : ih_Gd (ih_c2 s c m1 m2 a b) := ih_c2_G hc hm1 hm2 (by omega) (by omega) G
  have P := ih_PG_W W G hc
  have ez := ih_W_sz W hc
  have z := P.sz
  have gn := G.now
  have nw : t2 1 5 = s 0 := W.now
  have e22 : (ih_c2 s c m1 m2 a b) (22 + c) = s (22 + c) := ih_c2_x (by omega) (by omega) (by omega) (by omega)
  have e18 : (ih_c2 s c m1 m2 a b) (18 + c) = s (18 + c) := ih_c2_x (by omega) (by omega) (by omega) (by omega)
  have ela : (ih_c2 s c m1 m2 a b) (2 + a) = s (2 + a) := ih_c2_x (by omega) (by omega) (by omega) (by omega)
  have elb : (ih_c2 s c m1 m2 a b) (2 + b) = s (2 + b) := ih_c2_x (by omega) (by omega) (by omega) (by omega)
  have sp : ∀ k : Nat, (k : Int) < s (22 + c) → 1 ≤ ih_rsp (ih_c2 s c m1 m2 a b) c k ∧ ih_rsp (ih_c2 s c m1 m2 a b) c k ≤ 1998 := by
    intro k hk
    have hi := (G2.pap c hc).ink k (by rw [e22]; exact hk)
    have hl := (G2.pap c hc).las _ hi.1 hi.2
    exact ih_span_rg (k := (ih_c2 s c m1 m2 a b) (26 + 48 * c + 4 * k)) hl.1 hl.2
  have kd : ∀ k : Nat, (ih_c2 s c m1 m2 a b) (26 + 48 * c + 4 * k) = s (26 + 48 * c + 4 * k) := fun k => ih_c2_x (by omega) (by omega) (by omega) (by omega)
  have lt : ∀ k : Nat, (ih_c2 s c m1 m2 a b) (26 + 48 * c + 4 * k + 1) = s (26 + 48 * c + 4 * k + 1) := fun k => ih_c2_x (by omega) (by omega) (by omega) (by omega)
  have ends : ∀ k : Nat, (k : Int) < s (22 + c) → t2 (92 + 3 * c) k = ih_how ((ih_c2 s c m1 m2 a b) (18 + c)) (ih_w ((ih_c2 s c m1 m2 a b) (18 + c)) ((ih_c2 s c m1 m2 a b) (26 + 48 * c + 4 * k + 3)) + ih_rsp (ih_c2 s c m1 m2 a b) c k) := by
    intro k hk
    rw [e18]
    by_cases q1 : k = m1
    · subst q1
      rw [he1, ih_c2_1a hne]
      unfold ih_eo ih_rsp
      rw [kd k, ih_c2_1i hne, ela, ih_W_lit W hc, ih_W_kd W hc hk]
    · by_cases q2 : k = m2
      · subst q2
        rw [he2, ih_c2_2a]
        unfold ih_eo ih_rsp
        rw [kd k, ih_c2_2i, elb, ih_W_lit W hc, ih_W_kd W hc hk]
      · have hi := (G.pap c hc).ink k hk
        have ea : (ih_c2 s c m1 m2 a b) (26 + 48 * c + 4 * k + 3) = s (26 + 48 * c + 4 * k + 3) := ih_c2_x (by omega) (by omega) (by omega) (by omega)
        have ei : (ih_c2 s c m1 m2 a b) (26 + 48 * c + 4 * k + 2) = s (26 + 48 * c + 4 * k + 2) := ih_c2_x (by omega) (by omega) (by omega) (by omega)
        have el : (ih_c2 s c m1 m2 a b) (2 + s (26 + 48 * c + 4 * k + 2)) = s (2 + s (26 + 48 * c + 4 * k + 2)) := ih_c2_x (by omega) (by omega) (by omega) (by omega)
        have er : ih_rsp (ih_c2 s c m1 m2 a b) c k = ih_rsp s c k := by
          unfold ih_rsp
          rw [kd k, ei, el]
        rw [he k hk q1 q2, ea, er]
  have ats : ∀ k : Nat, (k : Int) < s (22 + c) → 0 ≤ (ih_c2 s c m1 m2 a b) (26 + 48 * c + 4 * k + 3) ∧ (ih_c2 s c m1 m2 a b) (26 + 48 * c + 4 * k + 3) < 10000 := fun k hk => (G2.pap c hc).at_ k (by rw [e22]; exact hk)
  have E2 : ih_EG t2 c := by
    intro k hk
    rw [ez] at hk
    have w1 := ih_w_rg (lit := (ih_c2 s c m1 m2 a b) (18 + c)) (ats k hk).1 (by have := ats k hk; omega)
    have s1 := sp k hk
    rw [ends k hk]
    exact ih_how_rg (by omega) (by omega)
  have em : ∀ e, s 0 ≤ e → ih_M t2 c e = ih_rM (ih_c2 s c m1 m2 a b) c e := by
    intro e h0
    refine ih_M_gen (by rw [ez, e22]) (fun k hk => ?_)
    rw [e22] at hk
    have w1 := ih_w_rg (lit := (ih_c2 s c m1 m2 a b) (18 + c)) (ats k hk).1 (by have := ats k hk; omega)
    refine ⟨by rw [kd k, ih_W_kd W hc hk], by rw [lt k, ih_W_lt W hc hk], ih_sf_gen (by omega) w1.1 (by have := sp k hk; omega) ?_ (ends k hk)⟩
    rw [ih_W_at W hc hk]
    have h9 := G.ats c k hc hk
    by_cases q1 : k = m1
    · subst q1
      rw [ih_c2_1a hne]
      omega
    · by_cases q2 : k = m2
      · subst q2
        rw [ih_c2_2a]
        omega
      · rw [ih_c2_x (by omega) (by omega) (by omega) (by omega)]
  have held := ih_c2_rs hc hm1 hm2 hne (a := a) (b := b) (by omega) (by omega) G r1 r2
  have eix1 : (8 * (a : Int) + b) / 8 = a := by omega
  have eix2 : (8 * (a : Int) + b) % 8 = b := by omega
  have cok : ih_cok s c m1 m2 n (8 * (a : Int) + b) = ih_st (ih_c2 s c m1 m2 a b) c (ih_rM s c (s 0)) (s 0) (s 0 + n) := by
    unfold ih_cok
    rw [eix1, eix2]
  refine ih_seg (i1 := 61) 2 rfl ?_
  refine ih_getR rfl rfl ?_
  refine ih_getI rfl (by first | rfl | exact ih_fW5 (by assumption)) ?_
  rw [nw]
  refine ih_seg (i1 := 64) 1 rfl ?_
  refine ih_iv2 16 rfl rfl (by first | rfl | exact ih_kP (ih_P_w0 hc) |  exact ih_kP (by assumption) | exact ih_kC (by assumption) | exact ih_kN (by assumption) | exact ih_kS (by assumption) | exact ih_kW (by assumption)) (Nat.le_of_ble_eq_true rfl) (Nat.le_of_ble_eq_true rfl) rfl ?_
  refine c_keeps hc P E2 (ih_fr_r _ _) (by omega) (by omega) (fun t3 h3 hq => ?_) (fun t3 h3 hq => ?_)
  · refine ih_seg (i1 := 74) 9 rfl ?_
    try simp only [xa_set, List.set_cons_zero, List.set_cons_succ, List.getElem?_cons_zero, List.getElem?_cons_succ]
    first
      | (refine Ky (by rw [cok]; exact ih_st_y (by omega) (fun e e0 e1 => by have := hq e e0 e1; rw [em e e0, em (s 0) (by omega), held] at this; exact this)) t3 h3)
      | (refine Kn (by rw [cok]; exact ih_st_n (by omega) (fun hal => hq (fun e e0 e1 => by rw [em e e0, em (s 0) (by omega), held]; exact hal e e0 e1))) t3 h3)
  · refine ih_seg (i1 := 74) 1 rfl ?_
    first
      | (refine Ky (by rw [cok]; exact ih_st_y (by omega) (fun e e0 e1 => by have := hq e e0 e1; rw [em e e0, em (s 0) (by omega), held] at this; exact this)) t3 h3)
      | (refine Kn (by rw [cok]; exact ih_st_n (by omega) (fun hal => hq (fun e e0 e1 => by rw [em e e0, em (s 0) (by omega), held]; exact hal e e0 e1))) t3 h3)


theorem c_cp_l {X : List Int} {t : ih_S} {Q : Option xa_V → ih_S → Prop} {s : Int → Int} {c m1 m2 : Nat} {n : Int} (hc : c < 4) (hm1 : (m1 : Int) < s (22 + c)) (hm2 : (m2 : Int) < s (22 + c)) (hne : m1 ≠ m2) (r1 : ih_rs s c (s 0) m1 = true) (r2 : ih_rs s c (s 0) m2 = true) (hn : 0 ≤ n ∧ s 0 + n < 10000) (G : ih_Gd s) (W0 : ih_Wr t 1 s)  : ∀ (d : Nat) (a b : Nat) (best bp : Int) (x : xa_V) (t1 : ih_S) (hd : 9 * a + b + d = 72) (ha : a < 8) (hb : b ≤ 8) (hp : 0 ≤ bp ∧ bp ≤ 199) (hf : ih_sc t t1) (he : ∀ k : Nat, (k : Int) < s (22 + c) → k ≠ m1 → k ≠ m2 → t1 (92 + 3 * c) k = ih_how (s (18 + c)) (ih_w (s (18 + c)) (s (26 + 48 * c + 4 * k + 3)) + ih_rsp s c k)) (K : ∀ t2, ih_sc t t2 → Q (some (xI (ih_cl s c m1 m2 n (8 * (a : Int) + b) (best, bp)).1)) t2), ih_Wp X 117 11 [xR 0, xR (91 + 3 * c), xI m1, xI m2, xI (s 0 + n), xI best, xI bp, xI a, xI b, x] [] t1 Q := by
  intro d
  induction d with
  | zero =>
    intro a b best bp x t1 hd ha hb hp hf he K
    exfalso
    omega

  | succ d ih =>
    intro a b best bp x t1 hd ha hb hp hf he K
    have W := ih_W_sc W0 hf
    have P := ih_PG_W W G hc
    have ez := ih_W_sz W hc
    have z := P.sz
    have gn := G.now
    have nw : t1 1 5 = s 0 := W.now
    refine ih_seg (i1 := 13) 2 rfl ?_
    refine ih_icmp_ge rfl (by omega) (by omega) (fun w1 => ?_) (fun w1 => ?_)
    · refine ih_seg (i1 := 8) 4 rfl ?_
      try simp only [xa_set, List.set_cons_zero, List.set_cons_succ, List.getElem?_cons_zero, List.getElem?_cons_succ]
      refine ih_icmp_ge rfl (by omega) (by omega) (fun w2 => ?_) (fun w2 => ?_)
      · refine ih_seg (i1 := 79) 1 rfl ?_
        refine ih_ret rfl rfl ?_
        first
          | (rw [ih_cl_e (by omega)] at K
             exact K t1 hf)
          | (exfalso
             omega)
      · refine ih_seg (i1 := 11) 2 rfl ?_
        try simp only [xa_set, List.set_cons_zero, List.set_cons_succ, List.getElem?_cons_zero, List.getElem?_cons_succ]
        refine ih (a + 1) 0 best bp _ t1 (by omega) (by omega) (by omega) (by omega) hf he ?_
        rw [show 8 * (a : Int) + b = 8 * ((a + 1 : Nat) : Int) + (0 : Nat) by omega] at K
        exact K
    · have la : t1 2 a = s (2 + a) := W.las a (by omega) (by omega)
      have lb : t1 2 b = s (2 + b) := W.las b (by omega) (by omega)
      have pa : t1 3 a = s (10 + a) := W.pri a (by omega) (by omega)
      have pb : t1 3 b = s (10 + b) := W.pri b (by omega) (by omega)
      have ga := G.pri a (by omega) (by omega)
      have gb := G.pri b (by omega) (by omega)
      have gla := (G.pap c hc).las a (by omega) (by omega)
      have glb := (G.pap c hc).las b (by omega) (by omega)
      have eix1 : (8 * (a : Int) + b) / 8 = a := by omega
      have eix2 : (8 * (a : Int) + b) % 8 = b := by omega
      have cco : ih_cco s (8 * (a : Int) + b) = s (10 + a) + s (10 + b) := by
        unfold ih_cco
        rw [eix1, eix2]
      refine ih_seg (i1 := 15) 1 rfl ?_
      refine ih_getR rfl rfl ?_
      refine ih_getR rfl (by first | rfl | exact ih_fW1 (by assumption)) ?_
      refine ih_seg (i1 := 18) 1 rfl ?_
      refine ih_iald rfl (by first | rfl | exact ih_lP1 (ih_P_w0 hc) | exact ih_lP2 (ih_P_w0 hc) | exact ih_lP3 (ih_P_w0 hc) | exact ih_lP4 (ih_P_w0 hc) |  exact ih_lP1 (by assumption) | exact ih_lP2 (by assumption) | exact ih_lP3 (by assumption) | exact ih_lP4 (by assumption) | exact ih_lC1 (by assumption) | exact ih_lS1 (by assumption) | exact ih_lW1 (by assumption) | exact ih_lW2 (by assumption) | exact ih_lW4 (by assumption) | exact ih_lW5 (by assumption)) (by omega) (by omega) (k := ?_)
      refine ih_seg (i1 := 20) 1 rfl ?_
      refine ih_getR rfl rfl ?_
      refine ih_getR rfl (by first | rfl | exact ih_fW1 (by assumption)) ?_
      refine ih_seg (i1 := 23) 1 rfl ?_
      refine ih_iald rfl (by first | rfl | exact ih_lP1 (ih_P_w0 hc) | exact ih_lP2 (ih_P_w0 hc) | exact ih_lP3 (ih_P_w0 hc) | exact ih_lP4 (ih_P_w0 hc) |  exact ih_lP1 (by assumption) | exact ih_lP2 (by assumption) | exact ih_lP3 (by assumption) | exact ih_lP4 (by assumption) | exact ih_lC1 (by assumption) | exact ih_lS1 (by assumption) | exact ih_lW1 (by assumption) | exact ih_lW2 (by assumption) | exact ih_lW4 (by assumption) | exact ih_lW5 (by assumption)) (by omega) (by omega) (k := ?_)
      refine ih_seg (i1 := 25) 1 rfl ?_
      try dsimp only
      rw [pa, pb]
      refine ih_seg (i1 := 28) 3 rfl ?_
      try simp only [xa_set, List.set_cons_zero, List.set_cons_succ, List.getElem?_cons_zero, List.getElem?_cons_succ]
      refine ih_icmp_ge rfl (by omega) (by omega) (fun w3 => ?_) (fun w3 => ?_)
      · refine ih_seg (i1 := 11) 2 rfl ?_
        try simp only [xa_set, List.set_cons_zero, List.set_cons_succ, List.getElem?_cons_zero, List.getElem?_cons_succ]
        refine ih a (b + 1) best bp _ t1 (by omega) (by omega) (by omega) (by omega) hf he ?_
        rw [ih_cl_n (by omega), show ih_cst s c m1 m2 n (8 * (a : Int) + b) (best, bp) = (best, bp) by rw [ih_cst, if_neg (fun q => by have := q.1; rw [cco] at this; dsimp only at this; omega)]] at K
        exact K
      · refine ih_seg (i1 := 30) 1 rfl ?_
        refine ih_getR rfl (by first | rfl | exact ih_fC2 (by assumption)) ?_
        refine ih_seg (i1 := 35) 4 rfl ?_
        refine ih_getR rfl rfl ?_
        refine ih_getR rfl (by first | rfl | exact ih_fW0 (by assumption)) ?_
        refine ih_seg (i1 := 38) 1 rfl ?_
        refine ih_iald rfl (by first | rfl | exact ih_lP1 (ih_P_w0 hc) | exact ih_lP2 (ih_P_w0 hc) | exact ih_lP3 (ih_P_w0 hc) | exact ih_lP4 (ih_P_w0 hc) |  exact ih_lP1 (by assumption) | exact ih_lP2 (by assumption) | exact ih_lP3 (by assumption) | exact ih_lP4 (by assumption) | exact ih_lC1 (by assumption) | exact ih_lS1 (by assumption) | exact ih_lW1 (by assumption) | exact ih_lW2 (by assumption) | exact ih_lW4 (by assumption) | exact ih_lW5 (by assumption)) (by omega) (by omega) (k := ?_)
        refine ih_seg (i1 := 40) 1 rfl ?_
        refine ih_getR rfl rfl ?_
        refine ih_getI rfl (by first | rfl | exact ih_fW5 (by assumption)) ?_
        refine ih_iv3 9 rfl rfl (by first | rfl | exact ih_kP (ih_P_w0 hc) |  exact ih_kP (by assumption) | exact ih_kC (by assumption) | exact ih_kN (by assumption) | exact ih_kS (by assumption) | exact ih_kW (by assumption)) (Nat.le_of_ble_eq_true rfl) (Nat.le_of_ble_eq_true rfl) rfl ?_
        refine c_endOf hc P (by omega) (by omega) (by omega) ?_
        refine ih_iast rfl (by first | rfl | exact ih_lP1 (ih_P_w0 hc) | exact ih_lP2 (ih_P_w0 hc) | exact ih_lP3 (ih_P_w0 hc) | exact ih_lP4 (ih_P_w0 hc) |  exact ih_lP1 (by assumption) | exact ih_lP2 (by assumption) | exact ih_lP3 (by assumption) | exact ih_lP4 (by assumption) | exact ih_lC1 (by assumption) | exact ih_lS1 (by assumption) | exact ih_lW1 (by assumption) | exact ih_lW2 (by assumption) | exact ih_lW4 (by assumption) | exact ih_lW5 (by assumption)) (by omega) (by omega) (k := ?_)
        refine ih_seg (i1 := 45) 1 rfl ?_
        refine ih_getR rfl (by first | rfl | exact ih_fC2 (by assumption)) ?_
        refine ih_seg (i1 := 50) 4 rfl ?_
        refine ih_getR rfl rfl ?_
        refine ih_getR rfl (by first | rfl | exact ih_fW0 (by assumption)) ?_
        refine ih_seg (i1 := 53) 1 rfl ?_
        refine ih_iald rfl (by first | rfl | exact ih_lP1 (ih_P_w0 hc) | exact ih_lP2 (ih_P_w0 hc) | exact ih_lP3 (ih_P_w0 hc) | exact ih_lP4 (ih_P_w0 hc) |  exact ih_lP1 (by assumption) | exact ih_lP2 (by assumption) | exact ih_lP3 (by assumption) | exact ih_lP4 (by assumption) | exact ih_lC1 (by assumption) | exact ih_lS1 (by assumption) | exact ih_lW1 (by assumption) | exact ih_lW2 (by assumption) | exact ih_lW4 (by assumption) | exact ih_lW5 (by assumption)) (by omega) (by omega) (k := ?_)
        refine ih_seg (i1 := 55) 1 rfl ?_
        refine ih_getR rfl rfl ?_
        refine ih_getI rfl (by first | rfl | exact ih_fW5 (by assumption)) ?_
        refine ih_iv3 9 rfl rfl (by first | rfl | exact ih_kP (ih_P_w0 hc) |  exact ih_kP (by assumption) | exact ih_kC (by assumption) | exact ih_kN (by assumption) | exact ih_kS (by assumption) | exact ih_kW (by assumption)) (Nat.le_of_ble_eq_true rfl) (Nat.le_of_ble_eq_true rfl) rfl ?_
        refine c_endOf hc (P.of hc (fun j hj => ih_up_ne (by omega))) (by rw [ih_up_ne (by omega)]; omega) (by rw [ih_up_ne (by omega)]; omega) (by rw [ih_up_ne (by omega)]; omega) ?_
        refine ih_iast rfl (by first | rfl | exact ih_lP1 (ih_P_w0 hc) | exact ih_lP2 (ih_P_w0 hc) | exact ih_lP3 (ih_P_w0 hc) | exact ih_lP4 (ih_P_w0 hc) |  exact ih_lP1 (by assumption) | exact ih_lP2 (by assumption) | exact ih_lP3 (by assumption) | exact ih_lP4 (by assumption) | exact ih_lC1 (by assumption) | exact ih_lS1 (by assumption) | exact ih_lW1 (by assumption) | exact ih_lW2 (by assumption) | exact ih_lW4 (by assumption) | exact ih_lW5 (by assumption)) (by omega) (by omega) (k := ?_)
        simp only [nw, la, lb, ih_up_ne (show (1 : Nat) ≠ 92 + 3 * c by omega), ih_up_ne (show (2 : Nat) ≠ 92 + 3 * c by omega)]
        have n1 : (m1 : Int) ≠ m2 := by omega
        have hg : ∀ j, j ≠ 92 + 3 * c → ih_up (ih_up t1 (92 + 3 * c) m1 (ih_eo t1 c m1 (s (2 + a)) (s 0))) (92 + 3 * c) m2 (ih_eo (ih_up t1 (92 + 3 * c) m1 (ih_eo t1 c m1 (s (2 + a)) (s 0))) c m2 (s (2 + b)) (s 0)) j = t1 j := fun j hj => by rw [ih_up_ne hj, ih_up_ne hj]
        have W2 := ih_Wr_of W (fun j h0 h1 => hg j (by omega))
        have f2 : ih_sc t1 _ := fun j hj => hg j (by omega)
        refine c_cp2 hc hm1 hm2 hne r1 r2 hn G (by omega) (by omega) W2 ?_ ?_ (fun k hk q1 q2 => ?_) (fun hq t3 h3 => ?_) (fun hq t3 h3 => ?_)
        · rw [ih_up_eq, ih_u1_ne n1, ih_up_eq, ih_u1_eq]
          exact (ih_eo_of hc (fun j hj => hg j (by omega))).symm
        · rw [ih_up_eq, ih_u1_eq]
          exact (ih_eo_of hc (fun j hj => ih_up_ne (by omega))).trans (ih_eo_of hc (fun j hj => hg j (by omega))).symm
        · rw [ih_up_eq, ih_u1_ne (by omega), ih_up_eq, ih_u1_ne (by omega)]
          exact he k hk q1 q2
        · refine ih_seg (i1 := 11) 2 rfl ?_
          try simp only [xa_set, List.set_cons_zero, List.set_cons_succ, List.getElem?_cons_zero, List.getElem?_cons_succ]
        
          refine ih a (b + 1) _ _ _ t3 (by omega) (by omega) (by omega) (by omega) (ih_sc_t hf (ih_sc_t f2 (ih_sc_f hc h3))) (fun k hk q1 q2 => ?_) ?_
          · rw [h3 _ (by omega), ih_up_eq, ih_u1_ne (by omega), ih_up_eq, ih_u1_ne (by omega)]
            exact he k hk q1 q2
          · rw [ih_cl_n (by omega), show ih_cst s c m1 m2 n (8 * (a : Int) + b) (best, bp) = (10 * (a : Int) + b, s (10 + a) + s (10 + b)) by rw [ih_cst, if_pos ⟨by rw [cco]; omega, hq⟩, cco, eix1, eix2]] at K
            exact K
        · refine ih_seg (i1 := 11) 2 rfl ?_
          try simp only [xa_set, List.set_cons_zero, List.set_cons_succ, List.getElem?_cons_zero, List.getElem?_cons_succ]
        
          refine ih a (b + 1) best bp _ t3 (by omega) (by omega) (by omega) (by omega) (ih_sc_t hf (ih_sc_t f2 (ih_sc_f hc h3))) (fun k hk q1 q2 => ?_) ?_
          · rw [h3 _ (by omega), ih_up_eq, ih_u1_ne (by omega), ih_up_eq, ih_u1_ne (by omega)]
            exact he k hk q1 q2
          · rw [ih_cl_n (by omega), show ih_cst s c m1 m2 n (8 * (a : Int) + b) (best, bp) = (best, bp) by rw [ih_cst, if_neg (fun q => by rw [hq] at q; exact absurd q.2 (by decide))]] at K
            exact K


theorem ih_both {v m k : Nat} (hv : v < 65536) (hm : m < 12) (hk : k < 12) : xa_and (v : Int) (xa_or (xa_shl 1 (m : Int)) (xa_shl 1 (k : Int))) = xa_or (xa_shl 1 (m : Int)) (xa_shl 1 (k : Int)) ↔ v.testBit m = true ∧ v.testBit k = true := by
  have l1 : 2 ^ m < 4096 := Nat.pow_lt_pow_right (by decide) hm
  have l2 : 2 ^ k < 4096 := Nat.pow_lt_pow_right (by decide) hk
  have l3 : 2 ^ m ||| 2 ^ k < 4096 := Nat.or_lt_two_pow (n := 12) l1 l2
  rw [ih_shl1 (by omega), ih_shl1 (by omega), ih_or_n (by omega) (by omega), ih_and_n (by omega) (by omega)]
  constructor
  · intro h
    have h' : v &&& (2 ^ m ||| 2 ^ k) = 2 ^ m ||| 2 ^ k := by omega
    constructor
    · have := congrArg (fun x => Nat.testBit x m) h'
      simp only [Nat.testBit_and, Nat.testBit_or, Nat.testBit_two_pow_self, Bool.true_or, Bool.and_true] at this
      exact this
    · have := congrArg (fun x => Nat.testBit x k) h'
      simp only [Nat.testBit_and, Nat.testBit_or, Nat.testBit_two_pow_self, Bool.or_true, Bool.and_true] at this
      exact this
  · rintro ⟨h1, h2⟩
    have h' : v &&& (2 ^ m ||| 2 ^ k) = 2 ^ m ||| 2 ^ k := by
      apply Nat.eq_of_testBit_eq
      intro i
      rw [Nat.testBit_and, Nat.testBit_or, Nat.testBit_two_pow, Nat.testBit_two_pow]
      by_cases e1 : m = i
      · subst e1
        rw [h1, Bool.true_and]
      · by_cases e2 : k = i
        · subst e2
          rw [h2, Bool.true_and]
        · simp [e1, e2]
    rw [h']
theorem ih_roR_w {t t2 : ih_S} {r : ih_An} {Q : Option xa_V → ih_S → Prop} (fr : ih_rr t t2) (K : ih_roR t r Q) : ih_roR t2 r Q := by
  cases r with
  | inl v => exact fun t3 h3 => K t3 (ih_rr_t fr h3)
  | inr j => exact fun t3 h3 => K t3 (ih_rr_t (ih_rr_up fr) h3)
theorem ih_or_rg (a b : Int) : xa_rI (xa_or a b) := xa_rng _
theorem ih_and_rg (a b : Int) : xa_rI (xa_and a b) := xa_rng _

theorem c_op_cheapest {X : List Int} {t : ih_S} {Q : Option xa_V → ih_S → Prop} {s : Int → Int} {a b d u : Int} (ha : xa_rI a) (hb : xa_rI b) (hd : xa_rI d) (hu : xa_rI u) (W : ih_Wr t 1 s) (G : ih_Gd s) (K : ih_roC t (f_cheapest s a b d u) Q) : ih_Wp X 78 0 [xR 0, xI a, xI b, xI d, xI u, xC 1, xC 1, xC 1] [] t Q := by
  refine ih_seg (i1 := 3) 3 rfl ?_
  refine ih_iv2 111 rfl rfl (by first | rfl | exact ih_kP (ih_P_w0 hc) |  exact ih_kP (by assumption) | exact ih_kC (by assumption) | exact ih_kN (by assumption) | exact ih_kS (by assumption) | exact ih_kW (by assumption)) (Nat.le_of_ble_eq_true rfl) (Nat.le_of_ble_eq_true rfl) rfl ?_
  refine c_isMark (by omega) (by omega) (fun p hp => (ih_PG_W W G hp).sz) (fun c m ea eb hc hm => ?_) (fun hn => ?_)
  · refine ih_seg (i1 := 8) 4 rfl ?_
    refine ih_iv2 111 rfl rfl (by first | rfl | exact ih_kP (ih_P_w0 hc) |  exact ih_kP (by assumption) | exact ih_kC (by assumption) | exact ih_kN (by assumption) | exact ih_kS (by assumption) | exact ih_kW (by assumption)) (Nat.le_of_ble_eq_true rfl) (Nat.le_of_ble_eq_true rfl) rfl ?_
    refine c_isMark (by omega) (by omega) (fun p hp => (ih_PG_W W G hp).sz) (fun c2 m2 ea2 eb2 hc2 hm2 => ?_) (fun hn2 => ?_)
    · refine ih_seg (i1 := 10) 1 rfl ?_
      have ec : c = c2 := by omega
      subst ec
      subst ea eb eb2
      have P := ih_PG_W W G hc
      have g0 := P.sz
      have hz := ih_W_sz W hc
      have hmc : (m : Int) < s (22 + c) := by omega
      have hmd : (m2 : Int) < s (22 + c) := by omega
      have gn := G.now
      have nw : t 1 5 = s 0 := W.now
      refine ih_seg (i1 := 12) 2 rfl ?_
      refine ih_icmp_eq rfl (by omega) (by omega) (fun w1 => ?_) (fun w1 => ?_)
      · refine ih_seg (i1 := 20) 2 rfl ?_
        refine ih_iv1 102 rfl rfl (by first | rfl | exact ih_kP (ih_P_w0 hc) |  exact ih_kP (by assumption) | exact ih_kC (by assumption) | exact ih_kN (by assumption) | exact ih_kS (by assumption) | exact ih_kW (by assumption)) (Nat.le_of_ble_eq_true rfl) (Nat.le_of_ble_eq_true rfl) rfl ?_
        refine c_finding (by omega) ?_
        refine ih_ret rfl rfl ?_
        exact ih_roC_no K (by rw [f_cheapest, if_neg (by omega)]) (ih_sc_r _)
      · have hne : m ≠ m2 := by omega
        refine ih_seg (i1 := 16) 3 rfl ?_
        refine ih_is3 103 rfl rfl (Nat.le_of_ble_eq_true rfl) (Nat.le_of_ble_eq_true rfl) rfl ?_
        refine c_within (by omega) (by omega) (by omega) (fun w2 => ?_) (fun w3 => ?_)
        · refine ih_seg (i1 := 24) 3 rfl ?_
          refine ih_iv1 116 rfl rfl (by first | rfl | exact ih_kP (ih_P_w0 hc) |  exact ih_kP (by assumption) | exact ih_kC (by assumption) | exact ih_kN (by assumption) | exact ih_kS (by assumption) | exact ih_kW (by assumption)) (Nat.le_of_ble_eq_true rfl) (Nat.le_of_ble_eq_true rfl) rfl ?_
          refine c_reckoned hc P (fun t1 hf he => ?_)
          have E1 := ih_EG_en hc P hf he
          have P1 := P.of hc (fun j hj => hf j (by omega))
          have nw1 : t1 1 5 = s 0 := (congrFun (hf 1 (by omega)) 5).trans nw
          refine ih_seg (i1 := 36) 11 rfl ?_
          try simp only [xa_set, List.set_cons_zero, List.set_cons_succ, List.getElem?_cons_zero, List.getElem?_cons_succ]
          refine ih_getR rfl rfl ?_
          refine ih_getI rfl (by first | rfl | exact ih_fW5 (by assumption)) ?_
          refine ih_iv1 10 rfl rfl (by first | rfl | exact ih_kP (ih_P_w0 hc) |  exact ih_kP (by assumption) | exact ih_kC (by assumption) | exact ih_kN (by assumption) | exact ih_kS (by assumption) | exact ih_kW (by assumption)) (Nat.le_of_ble_eq_true rfl) (Nat.le_of_ble_eq_true rfl) rfl ?_
          rw [nw1]
          refine c_seenAt hc P1 E1 (by omega) ?_
          have e : ih_set (ih_sf t1 c (s 0)) (t1 (7 + 5 * c) 4).toNat = ih_set (ih_rs s c (s 0)) (s (22 + c)).toNat := by
            rw [hf (7 + 5 * c) (by omega), hz]
            exact ih_set_congr (fun j hj => (ih_sf_cs hc P hf he (by omega) (by rw [hz]; omega)).trans (ih_cs_rs W G hc (by omega)))
          rw [e]
          have both := ih_both (v := ih_set (ih_rs s c (s 0)) (s (22 + c)).toNat) (m := m) (k := m2) (ih_set_lt12 _ (by omega)) (by omega) (by omega)
          rw [ih_set_bit, ih_set_bit] at both
          have dm : decide (m < (s (22 + c)).toNat) = true := by rw [decide_eq_true_eq]; omega
          have dm2 : decide (m2 < (s (22 + c)).toNat) = true := by rw [decide_eq_true_eq]; omega
          rw [dm, dm2, Bool.true_and, Bool.true_and] at both
          have ro := ih_or_rg (xa_shl 1 m) (xa_shl 1 m2)
          have ra := ih_and_rg (ih_set (ih_rs s c (s 0)) (s (22 + c)).toNat : Nat) (xa_or (xa_shl 1 m) (xa_shl 1 m2))
          generalize xa_or (xa_shl 1 m) (xa_shl 1 m2) = bo at *
          refine ih_seg (i1 := 42) 3 rfl ?_
          try dsimp only
          refine ih_icmp_ne rfl (by omega) (by omega) (fun w4 => ?_) (fun w4 => ?_)
          · refine ih_seg (i1 := 52) 2 rfl ?_
            refine ih_iv1 102 rfl rfl (by first | rfl | exact ih_kP (ih_P_w0 hc) |  exact ih_kP (by assumption) | exact ih_kC (by assumption) | exact ih_kN (by assumption) | exact ih_kS (by assumption) | exact ih_kW (by assumption)) (Nat.le_of_ble_eq_true rfl) (Nat.le_of_ble_eq_true rfl) rfl ?_
            refine c_finding (by omega) ?_
            refine ih_ret rfl rfl ?_
            refine ih_roC_no K ?_ (ih_sc_e hc hf)
            rw [f_cheapest, if_pos (by omega)]
            simp only [Int.toNat_natCast]
            rw [if_neg (fun q => by have := both.2 q.1; omega)]
          · refine ih_seg (i1 := 44) 1 rfl ?_
            refine ih_getR rfl rfl ?_
            refine ih_getI rfl (by first | rfl | exact ih_fW5 (by assumption)) ?_
            refine ih_seg (i1 := 47) 1 rfl ?_
            rw [nw1]
            refine ih_seg (i1 := 49) 2 rfl ?_
            try dsimp only
            refine ih_icmp_le rfl (by omega) (by omega) (fun w5 => ?_) (fun w5 => ?_)
            · refine ih_seg (i1 := 59) 5 rfl ?_
              refine ih_getR rfl rfl ?_
              refine ih_getI rfl (by first | rfl | exact ih_fW5 (by assumption)) ?_
              refine ih_seg (i1 := 62) 1 rfl ?_
              rw [nw1]
              refine ih_seg (i1 := 63) 1 rfl ?_
              try dsimp only
              refine ih_iv4 117 rfl rfl (by first | rfl | exact ih_kP (ih_P_w0 hc) |  exact ih_kP (by assumption) | exact ih_kC (by assumption) | exact ih_kN (by assumption) | exact ih_kS (by assumption) | exact ih_kW (by assumption)) (Nat.le_of_ble_eq_true rfl) (Nat.le_of_ble_eq_true rfl) rfl ?_
              have hr := both.1 (by omega)
              have crg := ih_crn_rg (s := s) (p := c) (m1 := m) (m2 := m2) (n := u) 64 0 (-1, 199) (by omega) (by omega) (by constructor <;> decide)
              have W1 := ih_W_sc W (ih_sc_e hc hf)
              refine ih_conseq (Q := fun rv t2 => rv = some (xI (ih_cl s c m m2 u 0 (-1, 199)).1) ∧ ih_sc t t2) ?_ ?_
              · refine ih_seg (i1 := 8) 8 rfl ?_
                try simp only [xa_set, List.set_cons_zero, List.set_cons_succ, List.getElem?_cons_zero, List.getElem?_cons_succ]
                refine ih_icmp_ge rfl (by omega) (by omega) (fun w1 => ?_) (fun w1 => ?_)
                · exfalso
                  omega
                · refine ih_seg (i1 := 11) 2 rfl ?_
                  try simp only [xa_set, List.set_cons_zero, List.set_cons_succ, List.getElem?_cons_zero, List.getElem?_cons_succ]
                  refine c_cp_l hc hmc hmd hne hr.1 hr.2 (by omega) G W1 72 0 0 (-1) 199 _ t1 (by omega) (by omega) (by omega) (by omega) (ih_sc_r _) (fun k hk q1 q2 => ?_) (fun t2 h2 => ⟨by rw [show (8 * ((0 : Nat) : Int) + ((0 : Nat) : Int)) = 0 from rfl], ih_sc_t (ih_sc_e hc hf) h2⟩)
                  rw [he k (by rw [hz]; exact hk)]
                  unfold ih_en ih_eo ih_rsp
                  have hi := (G.pap c hc).ink k hk
                  have hl : t 2 (s (26 + 48 * c + 4 * k + 2)) = s (2 + s (26 + 48 * c + 4 * k + 2)) := W.las _ hi.1 hi.2
                  rw [ih_W_lit W hc, ih_W_kd W hc hk, ih_W_at W hc hk, ih_W_ink W hc hk, hl]
              rintro rv t2 ⟨rfl, sc2⟩
              have crg2 : -1 ≤ (ih_cl s c m m2 u 0 (-1, 199)).1 ∧ (ih_cl s c m m2 u 0 (-1, 199)).1 ≤ 77 := crg
              refine ih_seg (i1 := 66) 2 rfl ?_
              try simp only [xa_set, List.set_cons_zero, List.set_cons_succ, List.getElem?_cons_zero, List.getElem?_cons_succ]
              refine ih_ifc_ge rfl (by omega) (fun w6 => ?_) (fun w6 => ?_)
              · refine ih_seg (i1 := 72) 1 rfl ?_
                refine ih_ret rfl rfl ?_
                refine ih_roC_ok K ?_ sc2
                rw [f_cheapest, if_pos (by omega)]
                simp only [Int.toNat_natCast]
                rw [if_pos ⟨hr, by omega⟩, if_neg (by omega)]
              · refine ih_seg (i1 := 69) 2 rfl ?_
                refine ih_iv1 102 rfl rfl (by first | rfl | exact ih_kP (ih_P_w0 hc) |  exact ih_kP (by assumption) | exact ih_kC (by assumption) | exact ih_kN (by assumption) | exact ih_kS (by assumption) | exact ih_kW (by assumption)) (Nat.le_of_ble_eq_true rfl) (Nat.le_of_ble_eq_true rfl) rfl ?_
                refine c_finding (by omega) ?_
                refine ih_seg (i1 := 72) 1 rfl ?_
                refine ih_ret rfl rfl ?_
                refine ih_roC_no K ?_ sc2
                rw [f_cheapest, if_pos (by omega)]
                simp only [Int.toNat_natCast]
                rw [if_pos ⟨hr, by omega⟩, if_pos (by omega)]
            · refine ih_seg (i1 := 52) 2 rfl ?_
              refine ih_iv1 102 rfl rfl (by first | rfl | exact ih_kP (ih_P_w0 hc) |  exact ih_kP (by assumption) | exact ih_kC (by assumption) | exact ih_kN (by assumption) | exact ih_kS (by assumption) | exact ih_kW (by assumption)) (Nat.le_of_ble_eq_true rfl) (Nat.le_of_ble_eq_true rfl) rfl ?_
              refine c_finding (by omega) ?_
              refine ih_ret rfl rfl ?_
              refine ih_roC_no K ?_ (ih_sc_e hc hf)
              rw [f_cheapest, if_pos (by omega)]
              simp only [Int.toNat_natCast]
              rw [if_neg (fun q => by have := both.2 q.1; omega)]
        · refine ih_seg (i1 := 20) 3 rfl ?_
          refine ih_iv1 102 rfl rfl (by first | rfl | exact ih_kP (ih_P_w0 hc) |  exact ih_kP (by assumption) | exact ih_kC (by assumption) | exact ih_kN (by assumption) | exact ih_kS (by assumption) | exact ih_kW (by assumption)) (Nat.le_of_ble_eq_true rfl) (Nat.le_of_ble_eq_true rfl) rfl ?_
          refine c_finding (by omega) ?_
          refine ih_ret rfl rfl ?_
          exact ih_roC_no K (by rw [f_cheapest, if_neg (by omega)]) (ih_sc_r _)
    · refine ih_seg (i1 := 20) 3 rfl ?_
      refine ih_iv1 102 rfl rfl (by first | rfl | exact ih_kP (ih_P_w0 hc) |  exact ih_kP (by assumption) | exact ih_kC (by assumption) | exact ih_kN (by assumption) | exact ih_kS (by assumption) | exact ih_kW (by assumption)) (Nat.le_of_ble_eq_true rfl) (Nat.le_of_ble_eq_true rfl) rfl ?_
      refine c_finding (by omega) ?_
      refine ih_ret rfl rfl ?_
      have hn2' : ¬ ((0 ≤ a ∧ a < 4) ∧ 0 ≤ d ∧ d < s (22 + a)) := by
        rintro ⟨q1, q2⟩
        refine hn2 a.toNat d.toNat (by omega) (by omega) (by omega) ?_
        rw [ih_W_sz W (by omega), show ((a.toNat : Nat) : Int) = a by omega]
        omega
      exact ih_roC_no K (by rw [f_cheapest, if_neg (fun q => hn2' ⟨q.1.1, q.1.2.2⟩)]) (ih_sc_r _)
  · refine ih_seg (i1 := 20) 3 rfl ?_
    refine ih_iv1 102 rfl rfl (by first | rfl | exact ih_kP (ih_P_w0 hc) |  exact ih_kP (by assumption) | exact ih_kC (by assumption) | exact ih_kN (by assumption) | exact ih_kS (by assumption) | exact ih_kW (by assumption)) (Nat.le_of_ble_eq_true rfl) (Nat.le_of_ble_eq_true rfl) rfl ?_
    refine c_finding (by omega) ?_
    refine ih_ret rfl rfl ?_
    have hn2' : ¬ ((0 ≤ a ∧ a < 4) ∧ (0 ≤ b ∧ b < s (22 + a)) ∧ 0 ≤ d ∧ d < s (22 + a)) := by
      rintro ⟨q1, q2, q3⟩
      refine hn a.toNat b.toNat (by omega) (by omega) (by omega) ?_
      rw [ih_W_sz W (by omega), show ((a.toNat : Nat) : Int) = a by omega]
      omega
    exact ih_roC_no K (by rw [f_cheapest, if_neg (fun q => hn2' q.1)]) (ih_sc_r _)


theorem r_cp_l {X : List Int} {t : ih_S} {Q : Option xa_V → ih_S → Prop} {p m1 m2 : Nat} {n : Int} {s ot : Int → Int} (hp : p < 4) (hm1 : (m1 : Int) < s (22 + p)) (hm2 : (m2 : Int) < s (22 + p)) (hne : m1 ≠ m2) (hn : 0 ≤ n ∧ s 0 + n < 10000) (G : ih_Gd s) (hs : t 112 = s) (ho : t 114 = fun x => if 0 ≤ x ∧ x < 228 then s x else ot x)  : ∀ (d : Nat) (a b : Nat) (best bp least : Int) (x : xa_V) (t1 : ih_S) (hd : 9 * a + b + d = 72) (ha : a < 8) (hb : b ≤ 8) (hb2 : (best = -1 ∧ bp = 199) ∨ (0 ≤ best ∧ least = bp)) (hp2 : (0 ≤ bp ∧ bp ≤ 199) ∧ best ≤ 77) (hf : ih_rq t t1) (h14 : t1 114 = t 114) (hrow : ∀ x, x ≠ 26 + 48 * (p : Int) + 4 * m1 + 2 → x ≠ 26 + 48 * (p : Int) + 4 * m1 + 3 → x ≠ 26 + 48 * (p : Int) + 4 * m2 + 2 → x ≠ 26 + 48 * (p : Int) + 4 * m2 + 3 → t1 112 x = s x) (i : Int) (hi : i = (8 * (a : Int) + b)) (K : ih_roR t (if (ih_cl s p m1 m2 n i (best, bp)).1 < 0 then ih_no 3 else ih_ok1 (ih_cl s p m1 m2 n i (best, bp)).1) Q), ih_Wp X 169 67 [xR 111, xI p, xI m1, xI m2, xI n, xI (s 0), xI (ih_rM s p (s 0)), xI best, xI least, xI a, xI b, x] [] t1 Q := by
  intro d
  induction d with
  | zero =>
    intro a b best bp least x t1 hd ha hb hb2 hp2 hf h14 hrow i hi K
    exfalso
    omega

  | succ d ih =>
    intro a b best bp least x t1 hd ha hb hb2 hp2 hf h14 hrow i hi K
    have z := (G.pap p hp).sz
    have gn := G.now
    have mr0 := ih_rM_rg s p (s 0)
    subst hi
    refine ih_seg (i1 := 69) 2 rfl ?_
    refine ih_icmp_ge rfl (by omega) (by omega) (fun w1 => ?_) (fun w1 => ?_)
    · refine ih_seg (i1 := 64) 4 rfl ?_
      try simp only [xa_set, List.set_cons_zero, List.set_cons_succ, List.getElem?_cons_zero, List.getElem?_cons_succ]
      refine ih_icmp_ge rfl (by omega) (by omega) (fun w2 => ?_) (fun w2 => ?_)
      · refine ih_seg (i1 := 120) 1 rfl ?_
        refine ih_iv0 168 rfl rfl (by first | rfl | exact ih_kP (ih_P_w0 hc) |  exact ih_kP (by assumption) | exact ih_kC (by assumption) | exact ih_kN (by assumption) | exact ih_kS (by assumption) | exact ih_kW (by assumption)) (Nat.le_of_ble_eq_true rfl) (Nat.le_of_ble_eq_true rfl) rfl ?_
        refine r_putsBack (fun t4 f5 f6 => ?_)
        refine ih_seg (i1 := 122) 1 rfl ?_
        refine ih_ifc_ge rfl (by omega) (fun w3 => ?_) (fun w3 => ?_)
        · refine ih_seg (i1 := 128) 1 rfl ?_
          refine ih_ret rfl rfl ?_
          first
            | (exfalso
               omega)
            | (have er : t4 112 = t 112 := by
                 rw [f6, h14, ho, hs]
                 funext x
                 try dsimp only
                 by_cases q : 0 ≤ x ∧ x < 228
                 · rw [if_pos q, if_pos q]
                 · rw [if_neg q]
                   exact hrow x (by omega) (by omega) (by omega) (by omega)
               rw [ih_cl_e (by omega)] at K
               dsimp only at K
               first
                 | exact ih_roR_ok K (by rw [if_neg (by omega)]) (ih_rr_q (ih_rq_t hf (ih_rq_w f5)) er)
                 | exact ih_roR_no 3 K (by rw [if_pos (by omega)]) rfl (ih_rr_q (ih_rq_t hf (ih_rq_w f5)) er))
        · refine ih_seg (i1 := 125) 2 rfl ?_
          refine ih_iv1 127 rfl rfl (by first | rfl | exact ih_kP (ih_P_w0 hc) |  exact ih_kP (by assumption) | exact ih_kC (by assumption) | exact ih_kN (by assumption) | exact ih_kS (by assumption) | exact ih_kW (by assumption)) (Nat.le_of_ble_eq_true rfl) (Nat.le_of_ble_eq_true rfl) rfl ?_
          refine r_finds 3 rfl (by omega) ?_
          refine ih_seg (i1 := 128) 1 rfl ?_
          refine ih_ret rfl rfl ?_
          first
            | (exfalso
               omega)
            | (have er : t4 112 = t 112 := by
                 rw [f6, h14, ho, hs]
                 funext x
                 try dsimp only
                 by_cases q : 0 ≤ x ∧ x < 228
                 · rw [if_pos q, if_pos q]
                 · rw [if_neg q]
                   exact hrow x (by omega) (by omega) (by omega) (by omega)
               rw [ih_cl_e (by omega)] at K
               dsimp only at K
               first
                 | exact ih_roR_ok K (by rw [if_neg (by omega)]) (ih_rr_q (ih_rq_t hf (ih_rq_w f5)) er)
                 | exact ih_roR_no 3 K (by rw [if_pos (by omega)]) rfl (ih_rr_q (ih_rq_t hf (ih_rq_w f5)) er))
      · refine ih_seg (i1 := 67) 2 rfl ?_
        try simp only [xa_set, List.set_cons_zero, List.set_cons_succ, List.getElem?_cons_zero, List.getElem?_cons_succ]
        exact ih (a + 1) 0 best bp least _ t1 (by omega) (by omega) (by omega) hb2 hp2 hf h14 hrow _ (by omega) K
    · have pa : t1 112 (10 + a) = s (10 + a) := hrow _ (by omega) (by omega) (by omega) (by omega)
      have pb : t1 112 (10 + b) = s (10 + b) := hrow _ (by omega) (by omega) (by omega) (by omega)
      have ga := G.pri a (by omega) (by omega)
      have gb := G.pri b (by omega) (by omega)
      have G2 : ih_Gd (ih_c2 s p m1 m2 a b) := ih_c2_G hp hm1 hm2 (by omega) (by omega) G
      have n0 : ih_c2 s p m1 m2 a b 0 = s 0 := ih_c2_x (by omega) (by omega) (by omega) (by omega)
      have eix1 : (8 * (a : Int) + b) / 8 = a := by omega
      have eix2 : (8 * (a : Int) + b) % 8 = b := by omega
      have cok : ih_cok s p m1 m2 n (8 * (a : Int) + b) = ih_st (ih_c2 s p m1 m2 a b) p (ih_rM s p (s 0)) (s 0) (s 0 + n) := by
        unfold ih_cok
        rw [eix1, eix2]
      have cco : ih_cco s (8 * (a : Int) + b) = s (10 + a) + s (10 + b) := by
        unfold ih_cco
        rw [eix1, eix2]
      refine ih_seg (i1 := 71) 1 rfl ?_
      refine ih_getR rfl rfl ?_
      refine ih_seg (i1 := 75) 3 rfl ?_
      try dsimp only
      refine ih_iald rfl (by first | rfl | exact ih_lP1 (ih_P_w0 hc) | exact ih_lP2 (ih_P_w0 hc) | exact ih_lP3 (ih_P_w0 hc) | exact ih_lP4 (ih_P_w0 hc) |  exact ih_lP1 (by assumption) | exact ih_lP2 (by assumption) | exact ih_lP3 (by assumption) | exact ih_lP4 (by assumption) | exact ih_lC1 (by assumption) | exact ih_lS1 (by assumption) | exact ih_lW1 (by assumption) | exact ih_lW2 (by assumption) | exact ih_lW4 (by assumption) | exact ih_lW5 (by assumption)) (by omega) (by omega) (k := ?_)
      refine ih_seg (i1 := 77) 1 rfl ?_
      refine ih_getR rfl rfl ?_
      refine ih_seg (i1 := 81) 3 rfl ?_
      try dsimp only
      refine ih_iald rfl (by first | rfl | exact ih_lP1 (ih_P_w0 hc) | exact ih_lP2 (ih_P_w0 hc) | exact ih_lP3 (ih_P_w0 hc) | exact ih_lP4 (ih_P_w0 hc) |  exact ih_lP1 (by assumption) | exact ih_lP2 (by assumption) | exact ih_lP3 (by assumption) | exact ih_lP4 (by assumption) | exact ih_lC1 (by assumption) | exact ih_lS1 (by assumption) | exact ih_lW1 (by assumption) | exact ih_lW2 (by assumption) | exact ih_lW4 (by assumption) | exact ih_lW5 (by assumption)) (by omega) (by omega) (k := ?_)
      refine ih_seg (i1 := 83) 1 rfl ?_
      try dsimp only
      rw [pa, pb]
      refine ih_seg (i1 := 85) 2 rfl ?_
      try simp only [xa_set, List.set_cons_zero, List.set_cons_succ, List.getElem?_cons_zero, List.getElem?_cons_succ]
      refine ih_ifc_lt rfl (by omega) (fun w4 => ?_) (fun w4 => ?_)
      · refine ih_seg (i1 := 93) 4 rfl ?_
        refine ih_iv3 144 rfl rfl (by first | rfl | exact ih_kP (ih_P_w0 hc) |  exact ih_kP (by assumption) | exact ih_kC (by assumption) | exact ih_kN (by assumption) | exact ih_kS (by assumption) | exact ih_kW (by assumption)) (Nat.le_of_ble_eq_true rfl) (Nat.le_of_ble_eq_true rfl) rfl ?_
        refine r_copies hp (by omega) (fun t2 f1 f2 => ?_)
        refine ih_seg (i1 := 98) 4 rfl ?_
        refine ih_iv3 144 rfl rfl (by first | rfl | exact ih_kP (ih_P_w0 hc) |  exact ih_kP (by assumption) | exact ih_kC (by assumption) | exact ih_kN (by assumption) | exact ih_kS (by assumption) | exact ih_kW (by assumption)) (Nat.le_of_ble_eq_true rfl) (Nat.le_of_ble_eq_true rfl) rfl ?_
        refine r_copies hp (by omega) (fun t3 f3 f4 => ?_)
        have ec2 : t3 112 = ih_c2 s p m1 m2 a b := by
          rw [f3, f1]
          exact ih_c2_same hrow
        refine ih_seg (i1 := 105) 6 rfl ?_
        try dsimp only
        refine ih_iv3 165 rfl rfl (by first | rfl | exact ih_kP (ih_P_w0 hc) |  exact ih_kP (by assumption) | exact ih_kC (by assumption) | exact ih_kN (by assumption) | exact ih_kS (by assumption) | exact ih_kW (by assumption)) (Nat.le_of_ble_eq_true rfl) (Nat.le_of_ble_eq_true rfl) rfl ?_
        refine r_stay (t := t3) hp (by rw [ec2]; exact G2.pap p hp) (ih_rf_r _) mr0 (by omega) (by rw [ec2, n0]; exact gn) (fun t4 h4 hq => ?_) (fun t4 h4 hq => ?_)
        all_goals rw [ec2, n0] at hq
        · refine ih_seg (i1 := 67) 11 rfl ?_
          try simp only [xa_set, List.set_cons_zero, List.set_cons_succ, List.getElem?_cons_zero, List.getElem?_cons_succ]
          have f9 : ih_rq t t4 := ih_rq_t hf (ih_rq_t (ih_rq_w f2) (ih_rq_t (ih_rq_w f4) (ih_rq_f h4)))
          have g14 : t4 114 = t 114 := (h4.1 114 (by decide)).trans ((f4 114 (by decide)).trans ((f2 114 (by decide)).trans h14))
          have hrow4 : ∀ x, x ≠ 26 + 48 * (p : Int) + 4 * m1 + 2 → x ≠ 26 + 48 * (p : Int) + 4 * m1 + 3 → x ≠ 26 + 48 * (p : Int) + 4 * m2 + 2 → x ≠ 26 + 48 * (p : Int) + 4 * m2 + 3 → t4 112 x = s x := fun x x1 x2 x3 x4 => by rw [h4.1 112 (by decide), ec2, ih_c2_x x1 x2 x3 x4]
          rw [ih_cl_n (by omega), show ih_cst s p m1 m2 n (8 * (a : Int) + b) (best, bp) = (10 * (a : Int) + b, s (10 + a) + s (10 + b)) by rw [ih_cst, if_pos ⟨by rw [cco]; dsimp only; omega, by rw [cok]; exact ih_st_y (by omega) hq⟩, cco, eix1, eix2]] at K
          exact ih a (b + 1) _ _ _ _ t4 (by omega) (by omega) (by omega) (Or.inr ⟨by omega, rfl⟩) (by omega) f9 g14 hrow4 _ (by omega) K
        · refine ih_seg (i1 := 67) 3 rfl ?_
          try simp only [xa_set, List.set_cons_zero, List.set_cons_succ, List.getElem?_cons_zero, List.getElem?_cons_succ]
          have f9 : ih_rq t t4 := ih_rq_t hf (ih_rq_t (ih_rq_w f2) (ih_rq_t (ih_rq_w f4) (ih_rq_f h4)))
          have g14 : t4 114 = t 114 := (h4.1 114 (by decide)).trans ((f4 114 (by decide)).trans ((f2 114 (by decide)).trans h14))
          have hrow4 : ∀ x, x ≠ 26 + 48 * (p : Int) + 4 * m1 + 2 → x ≠ 26 + 48 * (p : Int) + 4 * m1 + 3 → x ≠ 26 + 48 * (p : Int) + 4 * m2 + 2 → x ≠ 26 + 48 * (p : Int) + 4 * m2 + 3 → t4 112 x = s x := fun x x1 x2 x3 x4 => by rw [h4.1 112 (by decide), ec2, ih_c2_x x1 x2 x3 x4]
          rw [ih_cl_n (by omega), show ih_cst s p m1 m2 n (8 * (a : Int) + b) (best, bp) = (best, bp) by rw [ih_cst, if_neg (fun q => by rw [cok, ih_st_n (by omega) hq] at q; exact absurd q.2 (by decide))]] at K
          exact ih a (b + 1) best bp least _ t4 (by omega) (by omega) (by omega) hb2 hp2 f9 g14 hrow4 _ (by omega) K
      · refine ih_seg (i1 := 88) 2 rfl ?_
        refine ih_icmp_ge rfl (by omega) (by omega) (fun w5 => ?_) (fun w5 => ?_)
        · refine ih_seg (i1 := 67) 2 rfl ?_
          try simp only [xa_set, List.set_cons_zero, List.set_cons_succ, List.getElem?_cons_zero, List.getElem?_cons_succ]
          rw [ih_cl_n (by omega), show ih_cst s p m1 m2 n (8 * (a : Int) + b) (best, bp) = (best, bp) by rw [ih_cst, if_neg (fun q => by have := q.1; rw [cco] at this; dsimp only at this; omega)]] at K
          exact ih a (b + 1) best bp least _ t1 (by omega) (by omega) (by omega) hb2 hp2 hf h14 hrow _ (by omega) K
        · refine ih_seg (i1 := 93) 4 rfl ?_
          refine ih_iv3 144 rfl rfl (by first | rfl | exact ih_kP (ih_P_w0 hc) |  exact ih_kP (by assumption) | exact ih_kC (by assumption) | exact ih_kN (by assumption) | exact ih_kS (by assumption) | exact ih_kW (by assumption)) (Nat.le_of_ble_eq_true rfl) (Nat.le_of_ble_eq_true rfl) rfl ?_
          refine r_copies hp (by omega) (fun t2 f1 f2 => ?_)
          refine ih_seg (i1 := 98) 4 rfl ?_
          refine ih_iv3 144 rfl rfl (by first | rfl | exact ih_kP (ih_P_w0 hc) |  exact ih_kP (by assumption) | exact ih_kC (by assumption) | exact ih_kN (by assumption) | exact ih_kS (by assumption) | exact ih_kW (by assumption)) (Nat.le_of_ble_eq_true rfl) (Nat.le_of_ble_eq_true rfl) rfl ?_
          refine r_copies hp (by omega) (fun t3 f3 f4 => ?_)
          have ec2 : t3 112 = ih_c2 s p m1 m2 a b := by
            rw [f3, f1]
            exact ih_c2_same hrow
          refine ih_seg (i1 := 105) 6 rfl ?_
          try dsimp only
          refine ih_iv3 165 rfl rfl (by first | rfl | exact ih_kP (ih_P_w0 hc) |  exact ih_kP (by assumption) | exact ih_kC (by assumption) | exact ih_kN (by assumption) | exact ih_kS (by assumption) | exact ih_kW (by assumption)) (Nat.le_of_ble_eq_true rfl) (Nat.le_of_ble_eq_true rfl) rfl ?_
          refine r_stay (t := t3) hp (by rw [ec2]; exact G2.pap p hp) (ih_rf_r _) mr0 (by omega) (by rw [ec2, n0]; exact gn) (fun t4 h4 hq => ?_) (fun t4 h4 hq => ?_)
          all_goals rw [ec2, n0] at hq
          · refine ih_seg (i1 := 67) 11 rfl ?_
            try simp only [xa_set, List.set_cons_zero, List.set_cons_succ, List.getElem?_cons_zero, List.getElem?_cons_succ]
            have f9 : ih_rq t t4 := ih_rq_t hf (ih_rq_t (ih_rq_w f2) (ih_rq_t (ih_rq_w f4) (ih_rq_f h4)))
            have g14 : t4 114 = t 114 := (h4.1 114 (by decide)).trans ((f4 114 (by decide)).trans ((f2 114 (by decide)).trans h14))
            have hrow4 : ∀ x, x ≠ 26 + 48 * (p : Int) + 4 * m1 + 2 → x ≠ 26 + 48 * (p : Int) + 4 * m1 + 3 → x ≠ 26 + 48 * (p : Int) + 4 * m2 + 2 → x ≠ 26 + 48 * (p : Int) + 4 * m2 + 3 → t4 112 x = s x := fun x x1 x2 x3 x4 => by rw [h4.1 112 (by decide), ec2, ih_c2_x x1 x2 x3 x4]
            rw [ih_cl_n (by omega), show ih_cst s p m1 m2 n (8 * (a : Int) + b) (best, bp) = (10 * (a : Int) + b, s (10 + a) + s (10 + b)) by rw [ih_cst, if_pos ⟨by rw [cco]; dsimp only; omega, by rw [cok]; exact ih_st_y (by omega) hq⟩, cco, eix1, eix2]] at K
            exact ih a (b + 1) _ _ _ _ t4 (by omega) (by omega) (by omega) (Or.inr ⟨by omega, rfl⟩) (by omega) f9 g14 hrow4 _ (by omega) K
          · refine ih_seg (i1 := 67) 3 rfl ?_
            try simp only [xa_set, List.set_cons_zero, List.set_cons_succ, List.getElem?_cons_zero, List.getElem?_cons_succ]
            have f9 : ih_rq t t4 := ih_rq_t hf (ih_rq_t (ih_rq_w f2) (ih_rq_t (ih_rq_w f4) (ih_rq_f h4)))
            have g14 : t4 114 = t 114 := (h4.1 114 (by decide)).trans ((f4 114 (by decide)).trans ((f2 114 (by decide)).trans h14))
            have hrow4 : ∀ x, x ≠ 26 + 48 * (p : Int) + 4 * m1 + 2 → x ≠ 26 + 48 * (p : Int) + 4 * m1 + 3 → x ≠ 26 + 48 * (p : Int) + 4 * m2 + 2 → x ≠ 26 + 48 * (p : Int) + 4 * m2 + 3 → t4 112 x = s x := fun x x1 x2 x3 x4 => by rw [h4.1 112 (by decide), ec2, ih_c2_x x1 x2 x3 x4]
            rw [ih_cl_n (by omega), show ih_cst s p m1 m2 n (8 * (a : Int) + b) (best, bp) = (best, bp) by rw [ih_cst, if_neg (fun q => by rw [cok, ih_st_n (by omega) hq] at q; exact absurd q.2 (by decide))]] at K
            exact ih a (b + 1) best bp least _ t4 (by omega) (by omega) (by omega) hb2 hp2 f9 g14 hrow4 _ (by omega) K


set_option maxRecDepth 20000 in
theorem r_op_cheapest {X : List Int} {t : ih_S} {Q : Option xa_V → ih_S → Prop} {a b d u : Int} (ha : xa_rI a) (hb : xa_rI b) (hd : xa_rI d) (hu : xa_rI u) (G : ih_Gd (t 112)) (K : ih_roR t (f_cheapest (t 112) a b d u) Q) : ih_Wp X 169 0 [xR 111, xI a, xI b, xI d, xI u, xC 1, xC 1, xC 1, xC 1, xC 1, xC 1, xC 1] [] t Q := by
  refine ih_seg (i1 := 3) 3 rfl ?_
  refine ih_iv2 131 rfl rfl (by first | rfl | exact ih_kP (ih_P_w0 hc) |  exact ih_kP (by assumption) | exact ih_kC (by assumption) | exact ih_kN (by assumption) | exact ih_kS (by assumption) | exact ih_kW (by assumption)) (Nat.le_of_ble_eq_true rfl) (Nat.le_of_ble_eq_true rfl) rfl ?_
  refine r_isMark (by omega) (by omega) (fun p hp => (G.pap p hp).sz) (fun p m ea eb hp hm => ?_) (fun hn => ?_)
  · refine ih_seg (i1 := 8) 4 rfl ?_
    refine ih_iv2 131 rfl rfl (by first | rfl | exact ih_kP (ih_P_w0 hc) |  exact ih_kP (by assumption) | exact ih_kC (by assumption) | exact ih_kN (by assumption) | exact ih_kS (by assumption) | exact ih_kW (by assumption)) (Nat.le_of_ble_eq_true rfl) (Nat.le_of_ble_eq_true rfl) rfl ?_
    refine r_isMark (by omega) (by omega) (fun p hp => (G.pap p hp).sz) (fun p2 m2 ea2 eb2 hp2 hm2 => ?_) (fun hn2 => ?_)
    · refine ih_seg (i1 := 10) 1 rfl ?_
      have ec : p = p2 := by omega
      subst ec
      subst ea eb eb2
      have P := G.pap p hp
      have g0 := P.sz
      have gn := G.now
      refine ih_seg (i1 := 12) 2 rfl ?_
      refine ih_icmp_eq rfl (by omega) (by omega) (fun w1 => ?_) (fun w1 => ?_)
      · refine ih_seg (i1 := 21) 2 rfl ?_
        refine ih_iv1 127 rfl rfl (by first | rfl | exact ih_kP (ih_P_w0 hc) |  exact ih_kP (by assumption) | exact ih_kC (by assumption) | exact ih_kN (by assumption) | exact ih_kS (by assumption) | exact ih_kW (by assumption)) (Nat.le_of_ble_eq_true rfl) (Nat.le_of_ble_eq_true rfl) rfl ?_
        refine r_finds 0 rfl (by omega) ?_
        refine ih_ret rfl rfl ?_
        exact ih_roR_no 0 K (by rw [f_cheapest, if_neg (by omega)]) rfl (ih_rr_r _)
      · have hne : m ≠ m2 := by omega
        refine ih_seg (i1 := 14) 1 rfl ?_
        refine ih_i2l rfl (by omega) ?_
        refine ih_seg (i1 := 17) 2 rfl ?_
        refine ih_is3 126 rfl rfl (Nat.le_of_ble_eq_true rfl) (Nat.le_of_ble_eq_true rfl) rfl ?_
        refine r_in (by omega) (by omega) (by omega) (fun w2 => ?_) (fun w3 => ?_)
        · refine ih_seg (i1 := 24) 2 rfl ?_
          refine ih_getR rfl rfl ?_
          refine ih_seg (i1 := 26) 1 rfl ?_
          refine ih_iald rfl (by first | rfl | exact ih_lP1 (ih_P_w0 hc) | exact ih_lP2 (ih_P_w0 hc) | exact ih_lP3 (ih_P_w0 hc) | exact ih_lP4 (ih_P_w0 hc) |  exact ih_lP1 (by assumption) | exact ih_lP2 (by assumption) | exact ih_lP3 (by assumption) | exact ih_lP4 (by assumption) | exact ih_lC1 (by assumption) | exact ih_lS1 (by assumption) | exact ih_lW1 (by assumption) | exact ih_lW2 (by assumption) | exact ih_lW4 (by assumption) | exact ih_lW5 (by assumption)) (by omega) (by omega) (k := ?_)
          refine ih_seg (i1 := 32) 5 rfl ?_
          try simp only [xa_set, List.set_cons_zero, List.set_cons_succ, List.getElem?_cons_zero, List.getElem?_cons_succ]
          refine ih_iv3 148 rfl rfl (by first | rfl | exact ih_kP (ih_P_w0 hc) |  exact ih_kP (by assumption) | exact ih_kC (by assumption) | exact ih_kN (by assumption) | exact ih_kS (by assumption) | exact ih_kW (by assumption)) (Nat.le_of_ble_eq_true rfl) (Nat.le_of_ble_eq_true rfl) rfl ?_
          refine r_isSeen hp P hm (by omega) (fun q1 => ?_) (fun q1 => ?_)
          · refine ih_seg (i1 := 38) 5 rfl ?_
            refine ih_iv3 148 rfl rfl (by first | rfl | exact ih_kP (ih_P_w0 hc) |  exact ih_kP (by assumption) | exact ih_kC (by assumption) | exact ih_kN (by assumption) | exact ih_kS (by assumption) | exact ih_kW (by assumption)) (Nat.le_of_ble_eq_true rfl) (Nat.le_of_ble_eq_true rfl) rfl ?_
            refine r_isSeen hp P hm2 (by omega) (fun q2 => ?_) (fun q2 => ?_)
            · refine ih_seg (i1 := 44) 5 rfl ?_
              try dsimp only
              refine ih_icmp_le rfl (by omega) (by omega) (fun w4 => ?_) (fun w4 => ?_)
              · refine ih_seg (i1 := 52) 3 rfl ?_
                refine ih_iv2 157 rfl rfl (by first | rfl | exact ih_kP (ih_P_w0 hc) |  exact ih_kP (by assumption) | exact ih_kC (by assumption) | exact ih_kN (by assumption) | exact ih_kS (by assumption) | exact ih_kW (by assumption)) (Nat.le_of_ble_eq_true rfl) (Nat.le_of_ble_eq_true rfl) rfl ?_
                refine r_meansAt hp P (ih_rf_r _) (by omega) (fun t1 h1 => ?_)
                refine ih_seg (i1 := 55) 2 rfl ?_
                try simp only [xa_set, List.set_cons_zero, List.set_cons_succ, List.getElem?_cons_zero, List.getElem?_cons_succ]
                refine ih_iv0 167 rfl rfl (by first | rfl | exact ih_kP (ih_P_w0 hc) |  exact ih_kP (by assumption) | exact ih_kC (by assumption) | exact ih_kN (by assumption) | exact ih_kS (by assumption) | exact ih_kW (by assumption)) (Nat.le_of_ble_eq_true rfl) (Nat.le_of_ble_eq_true rfl) rfl ?_
                refine r_puts (fun t2 g1 g2 => ?_)
                refine ih_seg (i1 := 64) 8 rfl ?_
                try simp only [xa_set, List.set_cons_zero, List.set_cons_succ, List.getElem?_cons_zero, List.getElem?_cons_succ]
                refine ih_icmp_ge rfl (by omega) (by omega) (fun w5 => ?_) (fun w5 => ?_)
                · refine ih_seg (i1 := 120) 1 rfl ?_
                  refine ih_iv0 168 rfl rfl (by first | rfl | exact ih_kP (ih_P_w0 hc) |  exact ih_kP (by assumption) | exact ih_kC (by assumption) | exact ih_kN (by assumption) | exact ih_kS (by assumption) | exact ih_kW (by assumption)) (Nat.le_of_ble_eq_true rfl) (Nat.le_of_ble_eq_true rfl) rfl ?_
                  exfalso
                  omega
                · refine ih_seg (i1 := 67) 2 rfl ?_
                  try simp only [xa_set, List.set_cons_zero, List.set_cons_succ, List.getElem?_cons_zero, List.getElem?_cons_succ]
                  rw [f_cheapest, if_pos (by omega)] at K
                  simp only [Int.toNat_natCast] at K
                  rw [if_pos ⟨⟨q1, q2⟩, by omega⟩] at K
                  have es : t2 112 = t 112 := (g1 112 (by decide)).trans (ih_rf_s h1)
                  have K2 : ih_roR t2 (if (ih_cl (t 112) p m m2 u 0 (-1, 199)).1 < 0 then ih_no 3 else ih_ok1 (ih_cl (t 112) p m m2 u 0 (-1, 199)).1) Q := by
                    have fr : ih_rr t t2 := ih_rr_t (ih_rr_f h1) (ih_rr_q (ih_rq_o g1) (g1 112 (by decide)))
                    revert K
                    generalize (if (ih_cl (t 112) p m m2 u 0 (-1, 199)).1 < 0 then ih_no 3 else ih_ok1 (ih_cl (t 112) p m m2 u 0 (-1, 199)).1) = r
                    intro K
                    exact ih_roR_w fr K
                  exact r_cp_l hp (by omega) (by omega) hne (by omega) G es (by rw [g2, ih_rf_s h1]) 72 0 0 (-1) 199 0 _ t2 (by omega) (by omega) (by omega) (Or.inl ⟨rfl, rfl⟩) (by omega) (ih_rq_r _) rfl (fun x _ _ _ _ => by rw [es]) 0 (by omega) K2
              · refine ih_seg (i1 := 47) 2 rfl ?_
                refine ih_iv1 127 rfl rfl (by first | rfl | exact ih_kP (ih_P_w0 hc) |  exact ih_kP (by assumption) | exact ih_kC (by assumption) | exact ih_kN (by assumption) | exact ih_kS (by assumption) | exact ih_kW (by assumption)) (Nat.le_of_ble_eq_true rfl) (Nat.le_of_ble_eq_true rfl) rfl ?_
                refine r_finds 4 rfl (by omega) ?_
                refine ih_ret rfl rfl ?_
                refine ih_roR_no 4 K ?_ rfl (ih_rr_r _)
                rw [f_cheapest, if_pos (by omega)]
                simp only [Int.toNat_natCast]
                rw [if_neg (fun q => by omega)]
            · refine ih_seg (i1 := 47) 3 rfl ?_
              refine ih_iv1 127 rfl rfl (by first | rfl | exact ih_kP (ih_P_w0 hc) |  exact ih_kP (by assumption) | exact ih_kC (by assumption) | exact ih_kN (by assumption) | exact ih_kS (by assumption) | exact ih_kW (by assumption)) (Nat.le_of_ble_eq_true rfl) (Nat.le_of_ble_eq_true rfl) rfl ?_
              refine r_finds 4 rfl (by omega) ?_
              refine ih_ret rfl rfl ?_
              refine ih_roR_no 4 K ?_ rfl (ih_rr_r _)
              rw [f_cheapest, if_pos (by omega)]
              simp only [Int.toNat_natCast]
              rw [if_neg (fun q => by rw [q2] at q; exact absurd q.1.2 (by decide))]
          · refine ih_seg (i1 := 47) 3 rfl ?_
            refine ih_iv1 127 rfl rfl (by first | rfl | exact ih_kP (ih_P_w0 hc) |  exact ih_kP (by assumption) | exact ih_kC (by assumption) | exact ih_kN (by assumption) | exact ih_kS (by assumption) | exact ih_kW (by assumption)) (Nat.le_of_ble_eq_true rfl) (Nat.le_of_ble_eq_true rfl) rfl ?_
            refine r_finds 4 rfl (by omega) ?_
            refine ih_ret rfl rfl ?_
            refine ih_roR_no 4 K ?_ rfl (ih_rr_r _)
            rw [f_cheapest, if_pos (by omega)]
            simp only [Int.toNat_natCast]
            rw [if_neg (fun q => by rw [q1] at q; exact absurd q.1.1 (by decide))]
        · refine ih_seg (i1 := 21) 3 rfl ?_
          refine ih_iv1 127 rfl rfl (by first | rfl | exact ih_kP (ih_P_w0 hc) |  exact ih_kP (by assumption) | exact ih_kC (by assumption) | exact ih_kN (by assumption) | exact ih_kS (by assumption) | exact ih_kW (by assumption)) (Nat.le_of_ble_eq_true rfl) (Nat.le_of_ble_eq_true rfl) rfl ?_
          refine r_finds 0 rfl (by omega) ?_
          refine ih_ret rfl rfl ?_
          exact ih_roR_no 0 K (by rw [f_cheapest, if_neg (by omega)]) rfl (ih_rr_r _)
    · refine ih_seg (i1 := 21) 3 rfl ?_
      refine ih_iv1 127 rfl rfl (by first | rfl | exact ih_kP (ih_P_w0 hc) |  exact ih_kP (by assumption) | exact ih_kC (by assumption) | exact ih_kN (by assumption) | exact ih_kS (by assumption) | exact ih_kW (by assumption)) (Nat.le_of_ble_eq_true rfl) (Nat.le_of_ble_eq_true rfl) rfl ?_
      refine r_finds 0 rfl (by omega) ?_
      refine ih_ret rfl rfl ?_
      have hn2' : ¬ ((0 ≤ a ∧ a < 4) ∧ 0 ≤ d ∧ d < t 112 (22 + a)) := by
        rintro ⟨q1, q2⟩
        refine hn2 a.toNat d.toNat (by omega) (by omega) (by omega) ?_
        rw [show ((a.toNat : Nat) : Int) = a by omega]
        omega
      exact ih_roR_no 0 K (by rw [f_cheapest, if_neg (fun q => hn2' ⟨q.1.1, q.1.2.2⟩)]) rfl (ih_rr_r _)
  · refine ih_seg (i1 := 21) 3 rfl ?_
    refine ih_iv1 127 rfl rfl (by first | rfl | exact ih_kP (ih_P_w0 hc) |  exact ih_kP (by assumption) | exact ih_kC (by assumption) | exact ih_kN (by assumption) | exact ih_kS (by assumption) | exact ih_kW (by assumption)) (Nat.le_of_ble_eq_true rfl) (Nat.le_of_ble_eq_true rfl) rfl ?_
    refine r_finds 0 rfl (by omega) ?_
    refine ih_ret rfl rfl ?_
    have hn2' : ¬ ((0 ≤ a ∧ a < 4) ∧ (0 ≤ b ∧ b < t 112 (22 + a)) ∧ 0 ≤ d ∧ d < t 112 (22 + a)) := by
      rintro ⟨q1, q2, q3⟩
      refine hn a.toNat b.toNat (by omega) (by omega) (by omega) ?_
      rw [show ((a.toNat : Nat) : Int) = a by omega]
      omega
    exact ih_roR_no 0 K (by rw [f_cheapest, if_neg (fun q => hn2' q.1)]) rfl (ih_rr_r _)

