/-! count, status, judge: how many bits, sums, sheets -/
def ih_pc : Nat → Nat → Nat
  | 0, _ => 0
  | n + 1, v => v % 2 + ih_pc n (v / 2)
def ih_ones (v : Nat) : Nat := ih_pc 12 v
def ih_bc1 (v : Int) : Int := v - xa_and (xa_ushr v 1) 1431655765
def ih_bc2 (v : Int) : Int := xa_and v 858993459 + xa_and (xa_ushr v 2) 858993459
def ih_bc3 (v : Int) : Int := xa_and (v + xa_ushr v 4) 252645135
def ih_bc4 (v : Int) : Int := v + xa_ushr v 8
def ih_bc5 (v : Int) : Int := v + xa_ushr v 16
def ih_bce (v : Int) : Int := xa_and (ih_bc5 (ih_bc4 (ih_bc3 (ih_bc2 (ih_bc1 v))))) 63
theorem ih_bc_all : ∀ a : Nat, a < 64 → ∀ b : Nat, b < 64 → ih_bce ((64 * a + b : Nat) : Int) = (ih_ones (64 * a + b) : Int) := by decide +kernel
theorem ih_bc {v : Nat} (h : v < 4096) : ih_bce (v : Int) = (ih_ones v : Int) := by
  have := ih_bc_all (v / 64) (by omega) (v % 64) (by omega)
  rwa [show 64 * (v / 64) + v % 64 = v by omega] at this
def ih_low (v : Nat) : Int := xa_and (v : Int) ((v : Int) - 1)
theorem ih_low_all : ∀ a : Nat, a < 64 → ∀ b : Nat, b < 64 → 64 * a + b = 0 ∨ (0 ≤ ih_low (64 * a + b) ∧ ih_low (64 * a + b) < ((64 * a + b : Nat) : Int) ∧ ih_ones (64 * a + b) = ih_ones (ih_low (64 * a + b)).toNat + 1) := by decide +kernel
theorem ih_low_is {v : Nat} (h : v < 4096) (h0 : v ≠ 0) : ∃ r : Nat, xa_and (v : Int) ((v : Int) - 1) = r ∧ r < v ∧ ih_ones v = ih_ones r + 1 := by
  have := ih_low_all (v / 64) (by omega) (v % 64) (by omega)
  rw [show 64 * (v / 64) + v % 64 = v by omega] at this
  rcases this with h | ⟨h1, h2, h3⟩
  · exact absurd h h0
  · obtain ⟨r, e⟩ := Int.eq_ofNat_of_zero_le h1
    rw [e] at h2 h3
    exact ⟨r, e, by omega, h3⟩
theorem ih_ones_rg (v : Nat) : ih_ones v ≤ 12 := by
  have h : ∀ n v : Nat, ih_pc n v ≤ n := by
    intro n
    induction n with
    | zero => intro v; exact Nat.le_refl _
    | succ n ih =>
      intro v
      have := ih (v / 2)
      show v % 2 + ih_pc n (v / 2) ≤ n + 1
      omega
  exact h 12 v
theorem ih_set_12 (f : Nat → Bool) {n : Nat} (h : n ≤ 12) : ih_set f n < 4096 := Nat.lt_of_lt_of_le (ih_set_lt f n) (Nat.le_trans (Nat.pow_le_pow_right (by decide) h) (by decide))
def ih_sum (f : Nat → Int) : Nat → Int
  | 0 => 0
  | n + 1 => ih_sum f n + f n
theorem ih_sum_congr {f g : Nat → Int} : ∀ {n}, (∀ k, k < n → f k = g k) → ih_sum f n = ih_sum g n
  | 0, _ => rfl
  | n + 1, h => by rw [ih_sum, ih_sum, ih_sum_congr (fun k hk => h k (by omega)), h n (by omega)]
theorem ih_fst_congr {f g : Int → Bool} : ∀ {n : Nat} {a : Int}, (∀ e, a ≤ e → e < a + n → f e = g e) → ih_fst f a n = ih_fst g a n
  | 0, a, h => rfl
  | n + 1, a, h => by rw [ih_fst, ih_fst, h a (by omega) (by omega), ih_fst_congr (fun e h0 h1 => h e (by omega) (by omega))]

theorem c_bitCount {X : List Int} {t : ih_S} {Q : Option xa_V → ih_S → Prop} {v : Nat} (hv : v < 4096) (k : Q (some (xI (ih_ones v))) t) : ih_Wp X 211 0 [xI v] [] t Q := by
  refine ih_seg (i1 := 41) 41 rfl ?_
  try simp only [xa_set, List.set_cons_zero, List.set_cons_succ, List.getElem?_cons_zero, List.getElem?_cons_succ]
  refine ih_ret rfl rfl ?_
  refine ih_Qe ?_ k
  exact ih_bc hv


theorem r_ones_l {X : List Int} {t : ih_S} {Q : Option xa_V → ih_S → Prop} {v : Nat} (hv : v < 4096) (K : Q (some (xI (ih_ones v))) t) : ∀ (d : Nat) (r n : Nat) (x : Int) (hr : r ≤ d) (h4 : r < 4096) (h1 : n + ih_ones r = ih_ones v), ih_Wp X 134 4 [xI x, xI n, xI r] [] t Q := by
  intro d
  induction d with
  | zero =>
    intro r n x hr h4 h1
    refine ih_seg (i1 := 5) 1 rfl ?_
    refine ih_ifc_eq rfl (by omega) (fun w1 => ?_) (fun w1 => ?_)
    · refine ih_seg (i1 := 15) 1 rfl ?_
      refine ih_ret rfl rfl ?_
      obtain rfl : r = 0 := by omega
      refine ih_Qe ?_ K
      rw [← h1]
      rfl
    · refine ih_seg (i1 := 4) 8 rfl ?_
      try simp only [xa_set, List.set_cons_zero, List.set_cons_succ, List.getElem?_cons_zero, List.getElem?_cons_succ]
      exfalso
      omega

  | succ d ih =>
    intro r n x hr h4 h1
    refine ih_seg (i1 := 5) 1 rfl ?_
    refine ih_ifc_eq rfl (by omega) (fun w1 => ?_) (fun w1 => ?_)
    · refine ih_seg (i1 := 15) 1 rfl ?_
      refine ih_ret rfl rfl ?_
      obtain rfl : r = 0 := by omega
      refine ih_Qe ?_ K
      rw [← h1]
      rfl
    · refine ih_seg (i1 := 4) 8 rfl ?_
      try simp only [xa_set, List.set_cons_zero, List.set_cons_succ, List.getElem?_cons_zero, List.getElem?_cons_succ]
      obtain ⟨r', e1, e2, e3⟩ := ih_low_is h4 (by omega)
      refine ih_ls ?_ (ih r' (n + 1) x (by omega) (by omega) (by omega))
      rw [e1]
      rfl


theorem r_ones {X : List Int} {t : ih_S} {Q : Option xa_V → ih_S → Prop} {v : Nat} (hv : v < 4096) (k : Q (some (xI (ih_ones v))) t) : ih_Wp X 134 0 [xI v, xC 1, xC 1] [] t Q := by
  refine ih_seg (i1 := 4) 4 rfl ?_
  try simp only [xa_set, List.set_cons_zero, List.set_cons_succ, List.getElem?_cons_zero, List.getElem?_cons_succ]
  exact r_ones_l hv k v v 0 _ (by omega) hv (by omega)


def ih_ct1 (s : Int → Int) : Int := ih_sum (fun p => s (22 + p)) 4
def ih_ct2 (s : Int → Int) : Int := ih_sum (fun p => (ih_ones (ih_set (ih_rs s p (s 0)) (s (22 + p)).toNat) : Int)) 4
def ih_ct3 (s : Int → Int) : Int := ih_sum (fun p => if ih_rM s p (s 0) < 0 then 0 else 1) 4
def ih_ct6 (s : Int → Int) : Int := ih_sum (fun i => if s (218 + i) < 0 then 0 else 1) 10
def f_count (s : Int → Int) (tp a : Int) : ih_An := if a = 0 then ih_ok1 (s 0) else if a = 1 then ih_ok1 (ih_ct1 s) else if a = 2 then ih_ok1 (ih_ct2 s) else if a = 3 then ih_ok1 (ih_ct3 s) else if a = 4 then ih_ok1 tp else if a = 5 then ih_ok1 (s 1) else if a = 6 then ih_ok1 (ih_ct6 s) else ih_no 0

theorem c_marksInAll_l {X : List Int} {t : ih_S} {Q : Option xa_V → ih_S → Prop} {s : Int → Int} (W : ih_Wr t 1 s) (G : ih_Gd s) (K : Q (some (xI (ih_ct1 s))) t) : ∀ (d : Nat) (k : Nat) (hd : k + d = 4), ih_Wp X 119 4 [xR 0, xI (ih_sum (fun p => s (22 + p)) k), xI k] [] t Q := by
  intro d
  induction d with
  | zero =>
    intro k hd
    obtain rfl : k = 4 := by omega
    refine ih_seg (i1 := 6) 2 rfl ?_
    refine ih_icmp_ge rfl (by omega) (by omega) (fun w1 => ?_) (fun w1 => ?_)
    · refine ih_seg (i1 := 19) 1 rfl ?_
      refine ih_ret rfl rfl ?_
      exact K
    · exfalso
      omega

  | succ d ih =>
    intro k hd
    have hc : k < 4 := by omega
    have ez := ih_W_sz W hc
    refine ih_seg (i1 := 6) 2 rfl ?_
    refine ih_icmp_ge rfl (by omega) (by omega) (fun w1 => ?_) (fun w1 => ?_)
    · refine ih_seg (i1 := 19) 1 rfl ?_
      refine ih_ret rfl rfl ?_
      exfalso
      omega
    · refine ih_seg (i1 := 9) 2 rfl ?_
      refine ih_getR rfl rfl ?_
      refine ih_getR rfl (by first | rfl | exact ih_fW2 (by assumption)) ?_
      refine ih_seg (i1 := 12) 1 rfl ?_
      refine ih_aald rfl (ih_eP hc) ?_
      refine ih_getI rfl (by first | rfl | exact ih_fP4 (ih_P_w0 hc) | exact ih_fP4 (by assumption)) ?_
      refine ih_seg (i1 := 4) 4 rfl ?_
      try simp only [xa_set, List.set_cons_zero, List.set_cons_succ, List.getElem?_cons_zero, List.getElem?_cons_succ]
      rw [ez]
      exact ih (k + 1) (by omega)


theorem c_marksInAll {X : List Int} {t : ih_S} {Q : Option xa_V → ih_S → Prop} {s : Int → Int} (W : ih_Wr t 1 s) (G : ih_Gd s) (K : Q (some (xI (ih_ct1 s))) t) : ih_Wp X 119 0 [xR 0, xC 1, xC 1] [] t Q := by
  refine ih_seg (i1 := 4) 4 rfl ?_
  try simp only [xa_set, List.set_cons_zero, List.set_cons_succ, List.getElem?_cons_zero, List.getElem?_cons_succ]
  exact c_marksInAll_l W G K 4 0 (by omega)


theorem c_seenNow_l {X : List Int} {t : ih_S} {Q : Option xa_V → ih_S → Prop} {s : Int → Int} (W : ih_Wr t 1 s) (G : ih_Gd s) (K : ∀ t1, ih_sc t t1 → Q (some (xI (ih_ct2 s))) t1) : ∀ (d : Nat) (k : Nat) (t1 : ih_S) (hd : k + d = 4) (hf : ih_sc t t1), ih_Wp X 120 4 [xR 0, xI (ih_sum (fun p => (ih_ones (ih_set (ih_rs s p (s 0)) (s (22 + p)).toNat) : Int)) k), xI k] [] t1 Q := by
  intro d
  induction d with
  | zero =>
    intro k t1 hd hf
    obtain rfl : k = 4 := by omega
    refine ih_seg (i1 := 6) 2 rfl ?_
    refine ih_icmp_ge rfl (by omega) (by omega) (fun w1 => ?_) (fun w1 => ?_)
    · refine ih_seg (i1 := 21) 1 rfl ?_
      refine ih_ret rfl rfl ?_
      exact K t1 hf
    · exfalso
      omega

  | succ d ih =>
    intro k t1 hd hf
    have hc : k < 4 := by omega
    have W1 := ih_W_sc W hf
    have P := ih_PG_W W1 G hc
    have gn := G.now
    refine ih_seg (i1 := 6) 2 rfl ?_
    refine ih_icmp_ge rfl (by omega) (by omega) (fun w1 => ?_) (fun w1 => ?_)
    · refine ih_seg (i1 := 21) 1 rfl ?_
      refine ih_ret rfl rfl ?_
      exfalso
      omega
    · refine ih_seg (i1 := 10) 3 rfl ?_
      refine ih_iv1 116 rfl rfl (by first | rfl | exact ih_kP (ih_P_w0 hc) |  exact ih_kP (by assumption) | exact ih_kC (by assumption) | exact ih_kN (by assumption) | exact ih_kS (by assumption) | exact ih_kW (by assumption)) (Nat.le_of_ble_eq_true rfl) (Nat.le_of_ble_eq_true rfl) rfl ?_
      refine c_reckoned hc P (fun t2 hf2 he => ?_)
      have E2 := ih_EG_en hc P hf2 he
      have P2 := P.of hc (fun j hj => hf2 j (by omega))
      have sc2 := ih_sc_t hf (ih_sc_e hc hf2)
      have nw : t2 1 5 = s 0 := (congrFun (sc2 1 (by omega)) 5).trans W.now
      refine ih_seg (i1 := 12) 1 rfl ?_
      refine ih_getR rfl rfl ?_
      refine ih_getI rfl (by first | rfl | exact ih_fW5 (by assumption)) ?_
      rw [nw]
      refine ih_iv1 10 rfl rfl (by first | rfl | exact ih_kP (ih_P_w0 hc) |  exact ih_kP (by assumption) | exact ih_kC (by assumption) | exact ih_kN (by assumption) | exact ih_kS (by assumption) | exact ih_kW (by assumption)) (Nat.le_of_ble_eq_true rfl) (Nat.le_of_ble_eq_true rfl) rfl ?_
      refine c_seenAt hc P2 E2 (by omega) ?_
      have z := (G.pap k hc).sz
      have e : ih_set (ih_sf t2 k (s 0)) (t2 (7 + 5 * k) 4).toNat = ih_set (ih_rs s k (s 0)) (s (22 + k)).toNat := by
        rw [hf2 (7 + 5 * k) (by omega), ih_W_sz W1 hc]
        exact ih_set_congr (fun j hj => (ih_sf_cs hc P hf2 he (by omega) (by rw [ih_W_sz W1 hc]; omega)).trans (ih_cs_rs W1 G hc (by omega)))
      rw [e]
      refine ih_is1 211 rfl rfl (Nat.le_of_ble_eq_true rfl) (Nat.le_of_ble_eq_true rfl) rfl ?_
      refine c_bitCount (ih_set_12 _ (by omega)) ?_
      refine ih_seg (i1 := 4) 4 rfl ?_
      try simp only [xa_set, List.set_cons_zero, List.set_cons_succ, List.getElem?_cons_zero, List.getElem?_cons_succ]
      exact ih (k + 1) t2 (by omega) sc2


theorem c_seenNow {X : List Int} {t : ih_S} {Q : Option xa_V → ih_S → Prop} {s : Int → Int} (W : ih_Wr t 1 s) (G : ih_Gd s) (K : ∀ t1, ih_sc t t1 → Q (some (xI (ih_ct2 s))) t1) : ih_Wp X 120 0 [xR 0, xC 1, xC 1] [] t Q := by
  refine ih_seg (i1 := 4) 4 rfl ?_
  try simp only [xa_set, List.set_cons_zero, List.set_cons_succ, List.getElem?_cons_zero, List.getElem?_cons_succ]
  exact c_seenNow_l W G K 4 0 t (by omega) (ih_sc_r t)


theorem c_meanNow_l {X : List Int} {t : ih_S} {Q : Option xa_V → ih_S → Prop} {s : Int → Int} (W : ih_Wr t 1 s) (G : ih_Gd s) (K : ∀ t1, ih_sc t t1 → Q (some (xI (ih_ct3 s))) t1) : ∀ (d : Nat) (k : Nat) (t1 : ih_S) (hd : k + d = 4) (hf : ih_sc t t1), ih_Wp X 121 4 [xR 0, xI (ih_sum (fun p => if ih_rM s p (s 0) < 0 then 0 else 1) k), xI k] [] t1 Q := by
  intro d
  induction d with
  | zero =>
    intro k t1 hd hf
    obtain rfl : k = 4 := by omega
    refine ih_seg (i1 := 6) 2 rfl ?_
    refine ih_icmp_ge rfl (by omega) (by omega) (fun w1 => ?_) (fun w1 => ?_)
    · refine ih_seg (i1 := 20) 1 rfl ?_
      refine ih_ret rfl rfl ?_
      exact K t1 hf
    · exfalso
      omega

  | succ d ih =>
    intro k t1 hd hf
    have hc : k < 4 := by omega
    have W1 := ih_W_sc W hf
    have P := ih_PG_W W1 G hc
    have gn := G.now
    refine ih_seg (i1 := 6) 2 rfl ?_
    refine ih_icmp_ge rfl (by omega) (by omega) (fun w1 => ?_) (fun w1 => ?_)
    · refine ih_seg (i1 := 20) 1 rfl ?_
      refine ih_ret rfl rfl ?_
      exfalso
      omega
    · refine ih_seg (i1 := 9) 2 rfl ?_
      refine ih_iv1 116 rfl rfl (by first | rfl | exact ih_kP (ih_P_w0 hc) |  exact ih_kP (by assumption) | exact ih_kC (by assumption) | exact ih_kN (by assumption) | exact ih_kS (by assumption) | exact ih_kW (by assumption)) (Nat.le_of_ble_eq_true rfl) (Nat.le_of_ble_eq_true rfl) rfl ?_
      refine c_reckoned hc P (fun t2 hf2 he => ?_)
      have E2 := ih_EG_en hc P hf2 he
      have P2 := P.of hc (fun j hj => hf2 j (by omega))
      have sc2 := ih_sc_t hf (ih_sc_e hc hf2)
      have nw : t2 1 5 = s 0 := (congrFun (sc2 1 (by omega)) 5).trans W.now
      refine ih_seg (i1 := 11) 1 rfl ?_
      refine ih_getR rfl rfl ?_
      refine ih_getI rfl (by first | rfl | exact ih_fW5 (by assumption)) ?_
      rw [nw]
      refine ih_iv1 13 rfl rfl (by first | rfl | exact ih_kP (ih_P_w0 hc) |  exact ih_kP (by assumption) | exact ih_kC (by assumption) | exact ih_kN (by assumption) | exact ih_kS (by assumption) | exact ih_kW (by assumption)) (Nat.le_of_ble_eq_true rfl) (Nat.le_of_ble_eq_true rfl) rfl ?_
      have em : ih_M t2 k (s 0) = ih_rM s k (s 0) := (ih_M_cM hc P hf2 he (by omega)).trans (ih_cM_rM W1 G hc)
      have mr := ih_rM_rg s k (s 0)
      refine c_mean hc P2 E2 (ih_fr_r _ _) (by omega) (fun t3 h3 => ?_)
      rw [em]
      refine ih_seg (i1 := 15) 1 rfl ?_
      refine ih_icmp_eq rfl (by omega) (by omega) (fun w2 => ?_) (fun w2 => ?_)
      · refine ih_seg (i1 := 4) 2 rfl ?_
        try simp only [xa_set, List.set_cons_zero, List.set_cons_succ, List.getElem?_cons_zero, List.getElem?_cons_succ]
        refine ih_ls ?_ (ih (k + 1) t3 (by omega) (ih_sc_t sc2 (ih_sc_f hc h3)))
        rw [ih_sum]
        first
          | rw [if_pos (by omega), Int.add_zero]
            rfl
          | rw [if_neg (by omega)]
            rfl
      · refine ih_seg (i1 := 4) 3 rfl ?_
        try simp only [xa_set, List.set_cons_zero, List.set_cons_succ, List.getElem?_cons_zero, List.getElem?_cons_succ]
        refine ih_ls ?_ (ih (k + 1) t3 (by omega) (ih_sc_t sc2 (ih_sc_f hc h3)))
        rw [ih_sum]
        first
          | rw [if_pos (by omega), Int.add_zero]
            rfl
          | rw [if_neg (by omega)]
            rfl


theorem c_meanNow {X : List Int} {t : ih_S} {Q : Option xa_V → ih_S → Prop} {s : Int → Int} (W : ih_Wr t 1 s) (G : ih_Gd s) (K : ∀ t1, ih_sc t t1 → Q (some (xI (ih_ct3 s))) t1) : ih_Wp X 121 0 [xR 0, xC 1, xC 1] [] t Q := by
  refine ih_seg (i1 := 4) 4 rfl ?_
  try simp only [xa_set, List.set_cons_zero, List.set_cons_succ, List.getElem?_cons_zero, List.getElem?_cons_succ]
  exact c_meanNow_l W G K 4 0 t (by omega) (ih_sc_r t)


theorem c_fullSpots_l {X : List Int} {t : ih_S} {Q : Option xa_V → ih_S → Prop} {s : Int → Int} (W : ih_Wr t 1 s) (G : ih_Gd s) (K : Q (some (xI (ih_ct6 s))) t) : ∀ (d : Nat) (k : Nat) (hd : k + d = 10), ih_Wp X 56 4 [xR 1, xI (ih_sum (fun i => if s (218 + i) < 0 then 0 else 1) k), xI k] [] t Q := by
  intro d
  induction d with
  | zero =>
    intro k hd
    obtain rfl : k = 10 := by omega
    refine ih_seg (i1 := 6) 2 rfl ?_
    refine ih_icmp_ge rfl (by omega) (by omega) (fun w1 => ?_) (fun w1 => ?_)
    · refine ih_seg (i1 := 16) 1 rfl ?_
      refine ih_ret rfl rfl ?_
      exact K
    · exfalso
      omega

  | succ d ih =>
    intro k hd
    have hc : k < 10 := by omega
    have sp : (0 ≤ t 5 k ∧ t 5 k < 4) ∧ ((s (218 + k) = -1 ∧ t 6 k = -1) ∨ ((0 ≤ t 6 k ∧ t 6 k < 100) ∧ s (218 + k) = 100 * t 5 k + t 6 k)) := W.spot k (by omega) (by omega)
    refine ih_seg (i1 := 6) 2 rfl ?_
    refine ih_icmp_ge rfl (by omega) (by omega) (fun w1 => ?_) (fun w1 => ?_)
    · refine ih_seg (i1 := 16) 1 rfl ?_
      refine ih_ret rfl rfl ?_
      exfalso
      omega
    · refine ih_seg (i1 := 8) 1 rfl ?_
      refine ih_getR rfl (by first | rfl | exact ih_fW4 (by assumption)) ?_
      refine ih_seg (i1 := 10) 1 rfl ?_
      refine ih_iald rfl (by first | rfl | exact ih_lP1 (ih_P_w0 hc) | exact ih_lP2 (ih_P_w0 hc) | exact ih_lP3 (ih_P_w0 hc) | exact ih_lP4 (ih_P_w0 hc) |  exact ih_lP1 (by assumption) | exact ih_lP2 (by assumption) | exact ih_lP3 (by assumption) | exact ih_lP4 (by assumption) | exact ih_lC1 (by assumption) | exact ih_lS1 (by assumption) | exact ih_lW1 (by assumption) | exact ih_lW2 (by assumption) | exact ih_lW4 (by assumption) | exact ih_lW5 (by assumption)) (by omega) (by omega) (k := ?_)
      refine ih_ifc_lt rfl (by omega) (fun w2 => ?_) (fun w2 => ?_)
      · refine ih_seg (i1 := 4) 2 rfl ?_
        try simp only [xa_set, List.set_cons_zero, List.set_cons_succ, List.getElem?_cons_zero, List.getElem?_cons_succ]
        refine ih_ls ?_ (ih (k + 1) (by omega))
        rw [ih_sum]
        first
          | rw [if_pos (by omega), Int.add_zero]
            rfl
          | rw [if_neg (by omega)]
            rfl
      · refine ih_seg (i1 := 4) 3 rfl ?_
        try simp only [xa_set, List.set_cons_zero, List.set_cons_succ, List.getElem?_cons_zero, List.getElem?_cons_succ]
        refine ih_ls ?_ (ih (k + 1) (by omega))
        rw [ih_sum]
        first
          | rw [if_pos (by omega), Int.add_zero]
            rfl
          | rw [if_neg (by omega)]
            rfl


theorem c_fullSpots {X : List Int} {t : ih_S} {Q : Option xa_V → ih_S → Prop} {s : Int → Int} (W : ih_Wr t 1 s) (G : ih_Gd s) (K : Q (some (xI (ih_ct6 s))) t) : ih_Wp X 56 0 [xR 1, xC 1, xC 1] [] t Q := by
  refine ih_seg (i1 := 4) 4 rfl ?_
  try simp only [xa_set, List.set_cons_zero, List.set_cons_succ, List.getElem?_cons_zero, List.getElem?_cons_succ]
  exact c_fullSpots_l W G K 10 0 (by omega)


theorem c_op_count {X : List Int} {t : ih_S} {Q : Option xa_V → ih_S → Prop} {s : Int → Int} {a : Int} (ha : xa_rI a) (W : ih_Wr t 1 s) (G : ih_Gd s) (K : ih_roC t (f_count s (t 80 2) a) Q) : ih_Wp X 100 0 [xR 0, xI a] [] t Q := by
  have nw : t 1 5 = s 0 := W.now
  have nz : t 1 6 = s 1 := W.z
  refine ih_seg (i1 := 1) 1 rfl ?_
  rcases (by omega : a = 0 ∨ a = 1 ∨ a = 2 ∨ a = 3 ∨ a = 4 ∨ a = 5 ∨ a = 6 ∨ (a < 0 ∨ 6 < a)) with hw | hw | hw | hw | hw | hw | hw | hw
  · rw [hw]
    refine ih_sw rfl (by decide) (by decide) (by decide) rfl ?_
    refine ih_seg (i1 := 3) 1 rfl ?_
    refine ih_getR rfl rfl ?_
    refine ih_getI rfl (by first | rfl | exact ih_fW5 (by assumption)) ?_
    refine ih_ret rfl rfl ?_
    first
      | exact ih_roC_ok K (by rw [f_count, if_neg (by omega), if_pos (by omega)]) (ih_sc_r _)
      | exact ih_roC_ok K (by rw [f_count, if_neg (by omega), if_neg (by omega), if_pos (by omega)]) h1
      | exact ih_roC_ok K (by rw [f_count, if_neg (by omega), if_neg (by omega), if_neg (by omega), if_pos (by omega)]) h1
      | exact ih_roC_ok K (by rw [f_count, if_neg (by omega), if_neg (by omega), if_neg (by omega), if_neg (by omega), if_neg (by omega), if_neg (by omega), if_pos (by omega)]) (ih_sc_r _)
      | exact ih_roC_no K (by rw [f_count, if_neg (by omega), if_neg (by omega), if_neg (by omega), if_neg (by omega), if_neg (by omega), if_neg (by omega), if_neg (by omega)]) (ih_sc_r _)
      | (refine ih_roC_ok K ?_ (ih_sc_r _)
         rw [nw]
         exact (by rw [f_count, if_pos (by omega)]))
      | (refine ih_roC_ok K ?_ (ih_sc_r _)
         rw [nz]
         exact (by rw [f_count, if_neg (by omega), if_neg (by omega), if_neg (by omega), if_neg (by omega), if_neg (by omega), if_pos (by omega)]))
      | exact ih_roC_ok K (by rw [f_count, if_neg (by omega), if_neg (by omega), if_neg (by omega), if_neg (by omega), if_pos (by omega)]) (ih_sc_r _)
  · rw [hw]
    refine ih_sw rfl (by decide) (by decide) (by decide) rfl ?_
    refine ih_seg (i1 := 7) 1 rfl ?_
    refine ih_iv0 119 rfl rfl (by first | rfl | exact ih_kP (ih_P_w0 hc) |  exact ih_kP (by assumption) | exact ih_kC (by assumption) | exact ih_kN (by assumption) | exact ih_kS (by assumption) | exact ih_kW (by assumption)) (Nat.le_of_ble_eq_true rfl) (Nat.le_of_ble_eq_true rfl) rfl ?_
    refine c_marksInAll W G ?_
    refine ih_ret rfl rfl ?_
    first
      | exact ih_roC_ok K (by rw [f_count, if_neg (by omega), if_pos (by omega)]) (ih_sc_r _)
      | exact ih_roC_ok K (by rw [f_count, if_neg (by omega), if_neg (by omega), if_pos (by omega)]) h1
      | exact ih_roC_ok K (by rw [f_count, if_neg (by omega), if_neg (by omega), if_neg (by omega), if_pos (by omega)]) h1
      | exact ih_roC_ok K (by rw [f_count, if_neg (by omega), if_neg (by omega), if_neg (by omega), if_neg (by omega), if_neg (by omega), if_neg (by omega), if_pos (by omega)]) (ih_sc_r _)
      | exact ih_roC_no K (by rw [f_count, if_neg (by omega), if_neg (by omega), if_neg (by omega), if_neg (by omega), if_neg (by omega), if_neg (by omega), if_neg (by omega)]) (ih_sc_r _)
      | (refine ih_roC_ok K ?_ (ih_sc_r _)
         rw [nw]
         exact (by rw [f_count, if_pos (by omega)]))
      | (refine ih_roC_ok K ?_ (ih_sc_r _)
         rw [nz]
         exact (by rw [f_count, if_neg (by omega), if_neg (by omega), if_neg (by omega), if_neg (by omega), if_neg (by omega), if_pos (by omega)]))
      | exact ih_roC_ok K (by rw [f_count, if_neg (by omega), if_neg (by omega), if_neg (by omega), if_neg (by omega), if_pos (by omega)]) (ih_sc_r _)
  · rw [hw]
    refine ih_sw rfl (by decide) (by decide) (by decide) rfl ?_
    refine ih_seg (i1 := 10) 1 rfl ?_
    refine ih_iv0 120 rfl rfl (by first | rfl | exact ih_kP (ih_P_w0 hc) |  exact ih_kP (by assumption) | exact ih_kC (by assumption) | exact ih_kN (by assumption) | exact ih_kS (by assumption) | exact ih_kW (by assumption)) (Nat.le_of_ble_eq_true rfl) (Nat.le_of_ble_eq_true rfl) rfl ?_
    refine c_seenNow W G (fun t1 h1 => ?_)
    refine ih_ret rfl rfl ?_
    first
      | exact ih_roC_ok K (by rw [f_count, if_neg (by omega), if_pos (by omega)]) (ih_sc_r _)
      | exact ih_roC_ok K (by rw [f_count, if_neg (by omega), if_neg (by omega), if_pos (by omega)]) h1
      | exact ih_roC_ok K (by rw [f_count, if_neg (by omega), if_neg (by omega), if_neg (by omega), if_pos (by omega)]) h1
      | exact ih_roC_ok K (by rw [f_count, if_neg (by omega), if_neg (by omega), if_neg (by omega), if_neg (by omega), if_neg (by omega), if_neg (by omega), if_pos (by omega)]) (ih_sc_r _)
      | exact ih_roC_no K (by rw [f_count, if_neg (by omega), if_neg (by omega), if_neg (by omega), if_neg (by omega), if_neg (by omega), if_neg (by omega), if_neg (by omega)]) (ih_sc_r _)
      | (refine ih_roC_ok K ?_ (ih_sc_r _)
         rw [nw]
         exact (by rw [f_count, if_pos (by omega)]))
      | (refine ih_roC_ok K ?_ (ih_sc_r _)
         rw [nz]
         exact (by rw [f_count, if_neg (by omega), if_neg (by omega), if_neg (by omega), if_neg (by omega), if_neg (by omega), if_pos (by omega)]))
      | exact ih_roC_ok K (by rw [f_count, if_neg (by omega), if_neg (by omega), if_neg (by omega), if_neg (by omega), if_pos (by omega)]) (ih_sc_r _)
  · rw [hw]
    refine ih_sw rfl (by decide) (by decide) (by decide) rfl ?_
    refine ih_seg (i1 := 13) 1 rfl ?_
    refine ih_iv0 121 rfl rfl (by first | rfl | exact ih_kP (ih_P_w0 hc) |  exact ih_kP (by assumption) | exact ih_kC (by assumption) | exact ih_kN (by assumption) | exact ih_kS (by assumption) | exact ih_kW (by assumption)) (Nat.le_of_ble_eq_true rfl) (Nat.le_of_ble_eq_true rfl) rfl ?_
    refine c_meanNow W G (fun t1 h1 => ?_)
    refine ih_ret rfl rfl ?_
    first
      | exact ih_roC_ok K (by rw [f_count, if_neg (by omega), if_pos (by omega)]) (ih_sc_r _)
      | exact ih_roC_ok K (by rw [f_count, if_neg (by omega), if_neg (by omega), if_pos (by omega)]) h1
      | exact ih_roC_ok K (by rw [f_count, if_neg (by omega), if_neg (by omega), if_neg (by omega), if_pos (by omega)]) h1
      | exact ih_roC_ok K (by rw [f_count, if_neg (by omega), if_neg (by omega), if_neg (by omega), if_neg (by omega), if_neg (by omega), if_neg (by omega), if_pos (by omega)]) (ih_sc_r _)
      | exact ih_roC_no K (by rw [f_count, if_neg (by omega), if_neg (by omega), if_neg (by omega), if_neg (by omega), if_neg (by omega), if_neg (by omega), if_neg (by omega)]) (ih_sc_r _)
      | (refine ih_roC_ok K ?_ (ih_sc_r _)
         rw [nw]
         exact (by rw [f_count, if_pos (by omega)]))
      | (refine ih_roC_ok K ?_ (ih_sc_r _)
         rw [nz]
         exact (by rw [f_count, if_neg (by omega), if_neg (by omega), if_neg (by omega), if_neg (by omega), if_neg (by omega), if_pos (by omega)]))
      | exact ih_roC_ok K (by rw [f_count, if_neg (by omega), if_neg (by omega), if_neg (by omega), if_neg (by omega), if_pos (by omega)]) (ih_sc_r _)
  · rw [hw]
    refine ih_sw rfl (by decide) (by decide) (by decide) rfl ?_
    refine ih_seg (i1 := 16) 1 rfl ?_
    refine ih_getR rfl rfl ?_
    refine ih_getI rfl rfl ?_
    refine ih_ret rfl rfl ?_
    first
      | exact ih_roC_ok K (by rw [f_count, if_neg (by omega), if_pos (by omega)]) (ih_sc_r _)
      | exact ih_roC_ok K (by rw [f_count, if_neg (by omega), if_neg (by omega), if_pos (by omega)]) h1
      | exact ih_roC_ok K (by rw [f_count, if_neg (by omega), if_neg (by omega), if_neg (by omega), if_pos (by omega)]) h1
      | exact ih_roC_ok K (by rw [f_count, if_neg (by omega), if_neg (by omega), if_neg (by omega), if_neg (by omega), if_neg (by omega), if_neg (by omega), if_pos (by omega)]) (ih_sc_r _)
      | exact ih_roC_no K (by rw [f_count, if_neg (by omega), if_neg (by omega), if_neg (by omega), if_neg (by omega), if_neg (by omega), if_neg (by omega), if_neg (by omega)]) (ih_sc_r _)
      | (refine ih_roC_ok K ?_ (ih_sc_r _)
         rw [nw]
         exact (by rw [f_count, if_pos (by omega)]))
      | (refine ih_roC_ok K ?_ (ih_sc_r _)
         rw [nz]
         exact (by rw [f_count, if_neg (by omega), if_neg (by omega), if_neg (by omega), if_neg (by omega), if_neg (by omega), if_pos (by omega)]))
      | exact ih_roC_ok K (by rw [f_count, if_neg (by omega), if_neg (by omega), if_neg (by omega), if_neg (by omega), if_pos (by omega)]) (ih_sc_r _)
  · rw [hw]
    refine ih_sw rfl (by decide) (by decide) (by decide) rfl ?_
    refine ih_seg (i1 := 20) 1 rfl ?_
    refine ih_getR rfl rfl ?_
    refine ih_getI rfl (by first | rfl | exact ih_fW6 (by assumption)) ?_
    refine ih_ret rfl rfl ?_
    first
      | exact ih_roC_ok K (by rw [f_count, if_neg (by omega), if_pos (by omega)]) (ih_sc_r _)
      | exact ih_roC_ok K (by rw [f_count, if_neg (by omega), if_neg (by omega), if_pos (by omega)]) h1
      | exact ih_roC_ok K (by rw [f_count, if_neg (by omega), if_neg (by omega), if_neg (by omega), if_pos (by omega)]) h1
      | exact ih_roC_ok K (by rw [f_count, if_neg (by omega), if_neg (by omega), if_neg (by omega), if_neg (by omega), if_neg (by omega), if_neg (by omega), if_pos (by omega)]) (ih_sc_r _)
      | exact ih_roC_no K (by rw [f_count, if_neg (by omega), if_neg (by omega), if_neg (by omega), if_neg (by omega), if_neg (by omega), if_neg (by omega), if_neg (by omega)]) (ih_sc_r _)
      | (refine ih_roC_ok K ?_ (ih_sc_r _)
         rw [nw]
         exact (by rw [f_count, if_pos (by omega)]))
      | (refine ih_roC_ok K ?_ (ih_sc_r _)
         rw [nz]
         exact (by rw [f_count, if_neg (by omega), if_neg (by omega), if_neg (by omega), if_neg (by omega), if_neg (by omega), if_pos (by omega)]))
      | exact ih_roC_ok K (by rw [f_count, if_neg (by omega), if_neg (by omega), if_neg (by omega), if_neg (by omega), if_pos (by omega)]) (ih_sc_r _)
  · rw [hw]
    refine ih_sw rfl (by decide) (by decide) (by decide) rfl ?_
    refine ih_seg (i1 := 24) 1 rfl ?_
    refine ih_getR rfl rfl ?_
    refine ih_iv0 56 rfl rfl (by first | rfl | exact ih_kP (ih_P_w0 hc) |  exact ih_kP (by assumption) | exact ih_kC (by assumption) | exact ih_kN (by assumption) | exact ih_kS (by assumption) | exact ih_kW (by assumption)) (Nat.le_of_ble_eq_true rfl) (Nat.le_of_ble_eq_true rfl) rfl ?_
    refine c_fullSpots W G ?_
    refine ih_ret rfl rfl ?_
    first
      | exact ih_roC_ok K (by rw [f_count, if_neg (by omega), if_pos (by omega)]) (ih_sc_r _)
      | exact ih_roC_ok K (by rw [f_count, if_neg (by omega), if_neg (by omega), if_pos (by omega)]) h1
      | exact ih_roC_ok K (by rw [f_count, if_neg (by omega), if_neg (by omega), if_neg (by omega), if_pos (by omega)]) h1
      | exact ih_roC_ok K (by rw [f_count, if_neg (by omega), if_neg (by omega), if_neg (by omega), if_neg (by omega), if_neg (by omega), if_neg (by omega), if_pos (by omega)]) (ih_sc_r _)
      | exact ih_roC_no K (by rw [f_count, if_neg (by omega), if_neg (by omega), if_neg (by omega), if_neg (by omega), if_neg (by omega), if_neg (by omega), if_neg (by omega)]) (ih_sc_r _)
      | (refine ih_roC_ok K ?_ (ih_sc_r _)
         rw [nw]
         exact (by rw [f_count, if_pos (by omega)]))
      | (refine ih_roC_ok K ?_ (ih_sc_r _)
         rw [nz]
         exact (by rw [f_count, if_neg (by omega), if_neg (by omega), if_neg (by omega), if_neg (by omega), if_neg (by omega), if_pos (by omega)]))
      | exact ih_roC_ok K (by rw [f_count, if_neg (by omega), if_neg (by omega), if_neg (by omega), if_neg (by omega), if_pos (by omega)]) (ih_sc_r _)
  · refine ih_swd rfl (by omega) hw ?_
    refine ih_seg (i1 := 29) 2 rfl ?_
    refine ih_iv1 102 rfl rfl (by first | rfl | exact ih_kP (ih_P_w0 hc) |  exact ih_kP (by assumption) | exact ih_kC (by assumption) | exact ih_kN (by assumption) | exact ih_kS (by assumption) | exact ih_kW (by assumption)) (Nat.le_of_ble_eq_true rfl) (Nat.le_of_ble_eq_true rfl) rfl ?_
    refine c_finding (by omega) ?_
    refine ih_ret rfl rfl ?_
    first
      | exact ih_roC_ok K (by rw [f_count, if_neg (by omega), if_pos (by omega)]) (ih_sc_r _)
      | exact ih_roC_ok K (by rw [f_count, if_neg (by omega), if_neg (by omega), if_pos (by omega)]) h1
      | exact ih_roC_ok K (by rw [f_count, if_neg (by omega), if_neg (by omega), if_neg (by omega), if_pos (by omega)]) h1
      | exact ih_roC_ok K (by rw [f_count, if_neg (by omega), if_neg (by omega), if_neg (by omega), if_neg (by omega), if_neg (by omega), if_neg (by omega), if_pos (by omega)]) (ih_sc_r _)
      | exact ih_roC_no K (by rw [f_count, if_neg (by omega), if_neg (by omega), if_neg (by omega), if_neg (by omega), if_neg (by omega), if_neg (by omega), if_neg (by omega)]) (ih_sc_r _)
      | (refine ih_roC_ok K ?_ (ih_sc_r _)
         rw [nw]
         exact (by rw [f_count, if_pos (by omega)]))
      | (refine ih_roC_ok K ?_ (ih_sc_r _)
         rw [nz]
         exact (by rw [f_count, if_neg (by omega), if_neg (by omega), if_neg (by omega), if_neg (by omega), if_neg (by omega), if_pos (by omega)]))
      | exact ih_roC_ok K (by rw [f_count, if_neg (by omega), if_neg (by omega), if_neg (by omega), if_neg (by omega), if_pos (by omega)]) (ih_sc_r _)


theorem r_ct1_l {X : List Int} {t : ih_S} {x : Int} {Q : Option xa_V → ih_S → Prop} (G : ih_Gd (t 112)) (K : Q (some (xI (ih_ct1 (t 112)))) t) : ∀ (d : Nat) (k : Nat) (hd : k + d = 4), ih_Wp X 209 11 [xR 111, xI x, xI (ih_sum (fun p => t 112 (22 + p)) k), xI k] [] t Q := by
  intro d
  induction d with
  | zero =>
    intro k hd
    obtain rfl : k = 4 := by omega
    refine ih_seg (i1 := 13) 2 rfl ?_
    refine ih_icmp_ge rfl (by omega) (by omega) (fun w1 => ?_) (fun w1 => ?_)
    · refine ih_seg (i1 := 26) 1 rfl ?_
      refine ih_ret rfl rfl ?_
      exact K
    · exfalso
      omega

  | succ d ih =>
    intro k hd
    have hc : k < 4 := by omega
    refine ih_seg (i1 := 13) 2 rfl ?_
    refine ih_icmp_ge rfl (by omega) (by omega) (fun w1 => ?_) (fun w1 => ?_)
    · refine ih_seg (i1 := 26) 1 rfl ?_
      refine ih_ret rfl rfl ?_
      exfalso
      omega
    · refine ih_seg (i1 := 16) 2 rfl ?_
      refine ih_getR rfl rfl ?_
      refine ih_seg (i1 := 20) 3 rfl ?_
      try dsimp only
      refine ih_iald rfl (by first | rfl | exact ih_lP1 (ih_P_w0 hc) | exact ih_lP2 (ih_P_w0 hc) | exact ih_lP3 (ih_P_w0 hc) | exact ih_lP4 (ih_P_w0 hc) |  exact ih_lP1 (by assumption) | exact ih_lP2 (by assumption) | exact ih_lP3 (by assumption) | exact ih_lP4 (by assumption) | exact ih_lC1 (by assumption) | exact ih_lS1 (by assumption) | exact ih_lW1 (by assumption) | exact ih_lW2 (by assumption) | exact ih_lW4 (by assumption) | exact ih_lW5 (by assumption)) (by omega) (by omega) (k := ?_)
      refine ih_seg (i1 := 11) 4 rfl ?_
      try simp only [xa_set, List.set_cons_zero, List.set_cons_succ, List.getElem?_cons_zero, List.getElem?_cons_succ]
      exact ih (k + 1) (by omega)


theorem r_ct2_l {X : List Int} {t : ih_S} {x : Int} {Q : Option xa_V → ih_S → Prop} (G : ih_Gd (t 112)) (K : Q (some (xI (ih_ct2 (t 112)))) t) : ∀ (d : Nat) (k : Nat) (hd : k + d = 4), ih_Wp X 209 29 [xR 111, xI x, xI (ih_sum (fun p => (ih_ones (ih_set (ih_rs (t 112) p (t 112 0)) (t 112 (22 + p)).toNat) : Int)) k), xI k] [] t Q := by
  intro d
  induction d with
  | zero =>
    intro k hd
    obtain rfl : k = 4 := by omega
    refine ih_seg (i1 := 31) 2 rfl ?_
    refine ih_icmp_ge rfl (by omega) (by omega) (fun w1 => ?_) (fun w1 => ?_)
    · refine ih_seg (i1 := 46) 1 rfl ?_
      refine ih_ret rfl rfl ?_
      exact K
    · exfalso
      omega

  | succ d ih =>
    intro k hd
    have hc : k < 4 := by omega
    have gn := G.now
    refine ih_seg (i1 := 31) 2 rfl ?_
    refine ih_icmp_ge rfl (by omega) (by omega) (fun w1 => ?_) (fun w1 => ?_)
    · refine ih_seg (i1 := 46) 1 rfl ?_
      refine ih_ret rfl rfl ?_
      exfalso
      omega
    · refine ih_seg (i1 := 36) 4 rfl ?_
      refine ih_getR rfl rfl ?_
      refine ih_seg (i1 := 38) 1 rfl ?_
      refine ih_iald rfl (by first | rfl | exact ih_lP1 (ih_P_w0 hc) | exact ih_lP2 (ih_P_w0 hc) | exact ih_lP3 (ih_P_w0 hc) | exact ih_lP4 (ih_P_w0 hc) |  exact ih_lP1 (by assumption) | exact ih_lP2 (by assumption) | exact ih_lP3 (by assumption) | exact ih_lP4 (by assumption) | exact ih_lC1 (by assumption) | exact ih_lS1 (by assumption) | exact ih_lW1 (by assumption) | exact ih_lW2 (by assumption) | exact ih_lW4 (by assumption) | exact ih_lW5 (by assumption)) (by omega) (by omega) (k := ?_)
      refine ih_iv2 149 rfl rfl (by first | rfl | exact ih_kP (ih_P_w0 hc) |  exact ih_kP (by assumption) | exact ih_kC (by assumption) | exact ih_kN (by assumption) | exact ih_kS (by assumption) | exact ih_kW (by assumption)) (Nat.le_of_ble_eq_true rfl) (Nat.le_of_ble_eq_true rfl) rfl ?_
      refine r_seenOf hc (G.pap k hc) (by omega) ?_
      refine ih_is1 134 rfl rfl (Nat.le_of_ble_eq_true rfl) (Nat.le_of_ble_eq_true rfl) rfl ?_
      have z := (G.pap k hc).sz
      refine r_ones (ih_set_12 _ (by omega)) ?_
      refine ih_seg (i1 := 29) 4 rfl ?_
      try simp only [xa_set, List.set_cons_zero, List.set_cons_succ, List.getElem?_cons_zero, List.getElem?_cons_succ]
      exact ih (k + 1) (by omega)


theorem r_ct3_l {X : List Int} {t : ih_S} {x : Int} {Q : Option xa_V → ih_S → Prop} (G : ih_Gd (t 112)) (K : ∀ t1, ih_rf t t1 → Q (some (xI (ih_ct3 (t 112)))) t1) : ∀ (d : Nat) (k : Nat) (t1 : ih_S) (hd : k + d = 4) (hf : ih_rf t t1), ih_Wp X 209 49 [xR 111, xI x, xI (ih_sum (fun p => if ih_rM (t 112) p (t 112 0) < 0 then 0 else 1) k), xI k] [] t1 Q := by
  intro d
  induction d with
  | zero =>
    intro k t1 hd hf
    obtain rfl : k = 4 := by omega
    refine ih_seg (i1 := 51) 2 rfl ?_
    refine ih_icmp_ge rfl (by omega) (by omega) (fun w1 => ?_) (fun w1 => ?_)
    · refine ih_seg (i1 := 69) 1 rfl ?_
      refine ih_ret rfl rfl ?_
      exact K t1 hf
    · exfalso
      omega

  | succ d ih =>
    intro k t1 hd hf
    have hc : k < 4 := by omega
    have gn := G.now
    have es := ih_rf_s hf
    refine ih_seg (i1 := 51) 2 rfl ?_
    refine ih_icmp_ge rfl (by omega) (by omega) (fun w1 => ?_) (fun w1 => ?_)
    · refine ih_seg (i1 := 69) 1 rfl ?_
      refine ih_ret rfl rfl ?_
      exfalso
      omega
    · refine ih_seg (i1 := 56) 4 rfl ?_
      refine ih_getR rfl rfl ?_
      refine ih_seg (i1 := 58) 1 rfl ?_
      refine ih_iald rfl (by first | rfl | exact ih_lP1 (ih_P_w0 hc) | exact ih_lP2 (ih_P_w0 hc) | exact ih_lP3 (ih_P_w0 hc) | exact ih_lP4 (ih_P_w0 hc) |  exact ih_lP1 (by assumption) | exact ih_lP2 (by assumption) | exact ih_lP3 (by assumption) | exact ih_lP4 (by assumption) | exact ih_lC1 (by assumption) | exact ih_lS1 (by assumption) | exact ih_lW1 (by assumption) | exact ih_lW2 (by assumption) | exact ih_lW4 (by assumption) | exact ih_lW5 (by assumption)) (by omega) (by omega) (k := ?_)
      rw [es]
      refine ih_iv2 157 rfl rfl (by first | rfl | exact ih_kP (ih_P_w0 hc) |  exact ih_kP (by assumption) | exact ih_kC (by assumption) | exact ih_kN (by assumption) | exact ih_kS (by assumption) | exact ih_kW (by assumption)) (Nat.le_of_ble_eq_true rfl) (Nat.le_of_ble_eq_true rfl) rfl ?_
      have mr := ih_rM_rg (t 112) k (t 112 0)
      refine r_meansAt hc (G.pap k hc) hf (by omega) (fun t2 hf => ?_)
      refine ih_ifc_ge rfl (by omega) (fun w2 => ?_) (fun w2 => ?_)
      · refine ih_seg (i1 := 49) 5 rfl ?_
        try simp only [xa_set, List.set_cons_zero, List.set_cons_succ, List.getElem?_cons_zero, List.getElem?_cons_succ]
        refine ih_ls ?_ (ih (k + 1) t2 (by omega) hf)
        rw [ih_sum]
        first
          | rw [if_pos (by omega)]
            rfl
          | rw [if_neg (by omega)]
            rfl
      · refine ih_seg (i1 := 49) 6 rfl ?_
        try simp only [xa_set, List.set_cons_zero, List.set_cons_succ, List.getElem?_cons_zero, List.getElem?_cons_succ]
        refine ih_ls ?_ (ih (k + 1) t2 (by omega) hf)
        rw [ih_sum]
        first
          | rw [if_pos (by omega)]
            rfl
          | rw [if_neg (by omega)]
            rfl


theorem r_ct6_l {X : List Int} {t : ih_S} {x : Int} {Q : Option xa_V → ih_S → Prop} (G : ih_Gd (t 112)) (K : Q (some (xI (ih_ct6 (t 112)))) t) : ∀ (d : Nat) (k : Nat) (hd : k + d = 10), ih_Wp X 209 80 [xR 111, xI x, xI (ih_sum (fun i => if t 112 (218 + i) < 0 then 0 else 1) k), xI k] [] t Q := by
  intro d
  induction d with
  | zero =>
    intro k hd
    obtain rfl : k = 10 := by omega
    refine ih_seg (i1 := 82) 2 rfl ?_
    refine ih_icmp_ge rfl (by omega) (by omega) (fun w1 => ?_) (fun w1 => ?_)
    · refine ih_seg (i1 := 99) 1 rfl ?_
      refine ih_ret rfl rfl ?_
      exact K
    · exfalso
      omega

  | succ d ih =>
    intro k hd
    have hc : k < 10 := by omega
    have sr : -1 ≤ t 112 (218 + k) ∧ t 112 (218 + k) < 400 := by
      rcases G.spot k (by omega) (by omega) with sg | ⟨p, m, hp, hm, sg⟩
      · omega
      · have zz := (G.pap p hp).sz
        omega
    refine ih_seg (i1 := 82) 2 rfl ?_
    refine ih_icmp_ge rfl (by omega) (by omega) (fun w1 => ?_) (fun w1 => ?_)
    · refine ih_seg (i1 := 99) 1 rfl ?_
      refine ih_ret rfl rfl ?_
      exfalso
      omega
    · refine ih_seg (i1 := 85) 2 rfl ?_
      refine ih_getR rfl rfl ?_
      refine ih_seg (i1 := 89) 3 rfl ?_
      try dsimp only
      refine ih_iald rfl (by first | rfl | exact ih_lP1 (ih_P_w0 hc) | exact ih_lP2 (ih_P_w0 hc) | exact ih_lP3 (ih_P_w0 hc) | exact ih_lP4 (ih_P_w0 hc) |  exact ih_lP1 (by assumption) | exact ih_lP2 (by assumption) | exact ih_lP3 (by assumption) | exact ih_lP4 (by assumption) | exact ih_lC1 (by assumption) | exact ih_lS1 (by assumption) | exact ih_lW1 (by assumption) | exact ih_lW2 (by assumption) | exact ih_lW4 (by assumption) | exact ih_lW5 (by assumption)) (by omega) (by omega) (k := ?_)
      refine ih_ifc_ge rfl (by omega) (fun w2 => ?_) (fun w2 => ?_)
      · refine ih_seg (i1 := 80) 5 rfl ?_
        try simp only [xa_set, List.set_cons_zero, List.set_cons_succ, List.getElem?_cons_zero, List.getElem?_cons_succ]
        refine ih_ls ?_ (ih (k + 1) (by omega))
        rw [ih_sum]
        first
          | rw [if_pos (by omega)]
            rfl
          | rw [if_neg (by omega)]
            rfl
      · refine ih_seg (i1 := 80) 6 rfl ?_
        try simp only [xa_set, List.set_cons_zero, List.set_cons_succ, List.getElem?_cons_zero, List.getElem?_cons_succ]
        refine ih_ls ?_ (ih (k + 1) (by omega))
        rw [ih_sum]
        first
          | rw [if_pos (by omega)]
            rfl
          | rw [if_neg (by omega)]
            rfl


theorem r_op_count {X : List Int} {t : ih_S} {Q : Option xa_V → ih_S → Prop} {a : Int} (ha : xa_rI a) (G : ih_Gd (t 112)) (K : ih_roR t (f_count (t 112) (t 111 12) a) Q) : ih_Wp X 209 0 [xR 111, xI a, xC 1, xC 1] [] t Q := by
  refine ih_seg (i1 := 3) 3 rfl ?_
  try simp only [xa_set, List.set_cons_zero, List.set_cons_succ, List.getElem?_cons_zero, List.getElem?_cons_succ]
  rcases (by omega : a = 0 ∨ a = 1 ∨ a = 2 ∨ a = 3 ∨ a = 4 ∨ a = 5 ∨ a = 6 ∨ (a < 0 ∨ 6 < a)) with hw | hw | hw | hw | hw | hw | hw | hw
  · rw [hw]
    refine ih_sw rfl (by decide) (by decide) (by decide) rfl ?_
    refine ih_seg (i1 := 5) 1 rfl ?_
    refine ih_getR rfl rfl ?_
    refine ih_seg (i1 := 7) 1 rfl ?_
    refine ih_iald rfl (by first | rfl | exact ih_lP1 (ih_P_w0 hc) | exact ih_lP2 (ih_P_w0 hc) | exact ih_lP3 (ih_P_w0 hc) | exact ih_lP4 (ih_P_w0 hc) |  exact ih_lP1 (by assumption) | exact ih_lP2 (by assumption) | exact ih_lP3 (by assumption) | exact ih_lP4 (by assumption) | exact ih_lC1 (by assumption) | exact ih_lS1 (by assumption) | exact ih_lW1 (by assumption) | exact ih_lW2 (by assumption) | exact ih_lW4 (by assumption) | exact ih_lW5 (by assumption)) (by omega) (by omega) (k := ?_)
    refine ih_ret rfl rfl ?_
    first
      | exact ih_roR_ok K (by rw [f_count, if_pos (by omega)]) (ih_rr_r _)
      | exact ih_roR_ok K (by rw [f_count, if_neg (by omega), if_neg (by omega), if_neg (by omega), if_neg (by omega), if_pos (by omega)]) (ih_rr_r _)
      | exact ih_roR_ok K (by rw [f_count, if_neg (by omega), if_neg (by omega), if_neg (by omega), if_neg (by omega), if_neg (by omega), if_pos (by omega)]) (ih_rr_r _)
      | exact ih_roR_no 0 K (by rw [f_count, if_neg (by omega), if_neg (by omega), if_neg (by omega), if_neg (by omega), if_neg (by omega), if_neg (by omega), if_neg (by omega)]) rfl (ih_rr_r _)
  · rw [hw]
    refine ih_sw rfl (by decide) (by decide) (by decide) rfl ?_
    refine ih_seg (i1 := 11) 2 rfl ?_
    try simp only [xa_set, List.set_cons_zero, List.set_cons_succ, List.getElem?_cons_zero, List.getElem?_cons_succ]
    exact r_ct1_l G (ih_roR_ok K (by rw [f_count, if_neg (by omega), if_pos (by omega)]) (ih_rr_r _)) 4 0 (by omega)
  · rw [hw]
    refine ih_sw rfl (by decide) (by decide) (by decide) rfl ?_
    refine ih_seg (i1 := 29) 2 rfl ?_
    try simp only [xa_set, List.set_cons_zero, List.set_cons_succ, List.getElem?_cons_zero, List.getElem?_cons_succ]
    exact r_ct2_l G (ih_roR_ok K (by rw [f_count, if_neg (by omega), if_neg (by omega), if_pos (by omega)]) (ih_rr_r _)) 4 0 (by omega)
  · rw [hw]
    refine ih_sw rfl (by decide) (by decide) (by decide) rfl ?_
    refine ih_seg (i1 := 49) 2 rfl ?_
    try simp only [xa_set, List.set_cons_zero, List.set_cons_succ, List.getElem?_cons_zero, List.getElem?_cons_succ]
    exact r_ct3_l G (fun t1 h1 => ih_roR_ok K (by rw [f_count, if_neg (by omega), if_neg (by omega), if_neg (by omega), if_pos (by omega)]) (ih_rr_f h1)) 4 0 t (by omega) (ih_rf_r t)
  · rw [hw]
    refine ih_sw rfl (by decide) (by decide) (by decide) rfl ?_
    refine ih_seg (i1 := 71) 1 rfl ?_
    refine ih_getI rfl rfl ?_
    refine ih_ret rfl rfl ?_
    first
      | exact ih_roR_ok K (by rw [f_count, if_pos (by omega)]) (ih_rr_r _)
      | exact ih_roR_ok K (by rw [f_count, if_neg (by omega), if_neg (by omega), if_neg (by omega), if_neg (by omega), if_pos (by omega)]) (ih_rr_r _)
      | exact ih_roR_ok K (by rw [f_count, if_neg (by omega), if_neg (by omega), if_neg (by omega), if_neg (by omega), if_neg (by omega), if_pos (by omega)]) (ih_rr_r _)
      | exact ih_roR_no 0 K (by rw [f_count, if_neg (by omega), if_neg (by omega), if_neg (by omega), if_neg (by omega), if_neg (by omega), if_neg (by omega), if_neg (by omega)]) rfl (ih_rr_r _)
  · rw [hw]
    refine ih_sw rfl (by decide) (by decide) (by decide) rfl ?_
    refine ih_seg (i1 := 74) 1 rfl ?_
    refine ih_getR rfl rfl ?_
    refine ih_seg (i1 := 76) 1 rfl ?_
    refine ih_iald rfl (by first | rfl | exact ih_lP1 (ih_P_w0 hc) | exact ih_lP2 (ih_P_w0 hc) | exact ih_lP3 (ih_P_w0 hc) | exact ih_lP4 (ih_P_w0 hc) |  exact ih_lP1 (by assumption) | exact ih_lP2 (by assumption) | exact ih_lP3 (by assumption) | exact ih_lP4 (by assumption) | exact ih_lC1 (by assumption) | exact ih_lS1 (by assumption) | exact ih_lW1 (by assumption) | exact ih_lW2 (by assumption) | exact ih_lW4 (by assumption) | exact ih_lW5 (by assumption)) (by omega) (by omega) (k := ?_)
    refine ih_ret rfl rfl ?_
    first
      | exact ih_roR_ok K (by rw [f_count, if_pos (by omega)]) (ih_rr_r _)
      | exact ih_roR_ok K (by rw [f_count, if_neg (by omega), if_neg (by omega), if_neg (by omega), if_neg (by omega), if_pos (by omega)]) (ih_rr_r _)
      | exact ih_roR_ok K (by rw [f_count, if_neg (by omega), if_neg (by omega), if_neg (by omega), if_neg (by omega), if_neg (by omega), if_pos (by omega)]) (ih_rr_r _)
      | exact ih_roR_no 0 K (by rw [f_count, if_neg (by omega), if_neg (by omega), if_neg (by omega), if_neg (by omega), if_neg (by omega), if_neg (by omega), if_neg (by omega)]) rfl (ih_rr_r _)
  · rw [hw]
    refine ih_sw rfl (by decide) (by decide) (by decide) rfl ?_
    refine ih_seg (i1 := 80) 2 rfl ?_
    try simp only [xa_set, List.set_cons_zero, List.set_cons_succ, List.getElem?_cons_zero, List.getElem?_cons_succ]
    exact r_ct6_l G (ih_roR_ok K (by rw [f_count, if_neg (by omega), if_neg (by omega), if_neg (by omega), if_neg (by omega), if_neg (by omega), if_neg (by omega), if_pos (by omega)]) (ih_rr_r _)) 10 0 (by omega)
  · refine ih_swd rfl (by omega) hw ?_
    refine ih_seg (i1 := 102) 2 rfl ?_
    refine ih_iv1 127 rfl rfl (by first | rfl | exact ih_kP (ih_P_w0 hc) |  exact ih_kP (by assumption) | exact ih_kC (by assumption) | exact ih_kN (by assumption) | exact ih_kS (by assumption) | exact ih_kW (by assumption)) (Nat.le_of_ble_eq_true rfl) (Nat.le_of_ble_eq_true rfl) rfl ?_
    refine r_finds 0 rfl (by omega) ?_
    refine ih_ret rfl rfl ?_
    first
      | exact ih_roR_ok K (by rw [f_count, if_pos (by omega)]) (ih_rr_r _)
      | exact ih_roR_ok K (by rw [f_count, if_neg (by omega), if_neg (by omega), if_neg (by omega), if_neg (by omega), if_pos (by omega)]) (ih_rr_r _)
      | exact ih_roR_ok K (by rw [f_count, if_neg (by omega), if_neg (by omega), if_neg (by omega), if_neg (by omega), if_neg (by omega), if_pos (by omega)]) (ih_rr_r _)
      | exact ih_roR_no 0 K (by rw [f_count, if_neg (by omega), if_neg (by omega), if_neg (by omega), if_neg (by omega), if_neg (by omega), if_neg (by omega), if_neg (by omega)]) rfl (ih_rr_r _)


def f_status (f : Int → Int) (a : Int) : ih_An := if -1 ≤ a ∧ a < 7 then ih_ok1 (if a < 0 then ih_sum (fun i => f i) 7 else f a) else ih_no 0
theorem ih_status_is {f : Int → Int} {a : Int} (h : -1 ≤ a ∧ a < 7) : ih_sum (fun i => if a < 0 ∨ (i : Int) = a then f i else 0) 7 = if a < 0 then ih_sum (fun i => f i) 7 else f a := by
  rcases (by omega : a = -1 ∨ a = 0 ∨ a = 1 ∨ a = 2 ∨ a = 3 ∨ a = 4 ∨ a = 5 ∨ a = 6) with rfl | rfl | rfl | rfl | rfl | rfl | rfl | rfl <;> simp [ih_sum]

theorem c_status_l {X : List Int} {t : ih_S} {x : Int} {Q : Option xa_V → ih_S → Prop} (K : Q (some (xI (ih_sum (fun i => t 84 i) 7))) t) : ∀ (d : Nat) (k : Nat) (hd : k + d = 7), ih_Wp X 101 20 [xR 0, xI x, xI (ih_sum (fun i => t 84 i) k), xI k] [] t Q := by
  intro d
  induction d with
  | zero =>
    intro k hd
    obtain rfl : k = 7 := by omega
    refine ih_seg (i1 := 22) 2 rfl ?_
    refine ih_icmp_ge rfl (by omega) (by omega) (fun w1 => ?_) (fun w1 => ?_)
    · refine ih_seg (i1 := 33) 1 rfl ?_
      refine ih_ret rfl rfl ?_
      exact K
    · exfalso
      omega

  | succ d ih =>
    intro k hd
    have hc : k < 7 := by omega
    refine ih_seg (i1 := 22) 2 rfl ?_
    refine ih_icmp_ge rfl (by omega) (by omega) (fun w1 => ?_) (fun w1 => ?_)
    · refine ih_seg (i1 := 33) 1 rfl ?_
      refine ih_ret rfl rfl ?_
      exfalso
      omega
    · refine ih_seg (i1 := 25) 2 rfl ?_
      refine ih_getR rfl rfl ?_
      refine ih_seg (i1 := 27) 1 rfl ?_
      refine ih_iald rfl (by first | rfl | exact ih_lP1 (ih_P_w0 hc) | exact ih_lP2 (ih_P_w0 hc) | exact ih_lP3 (ih_P_w0 hc) | exact ih_lP4 (ih_P_w0 hc) |  exact ih_lP1 (by assumption) | exact ih_lP2 (by assumption) | exact ih_lP3 (by assumption) | exact ih_lP4 (by assumption) | exact ih_lC1 (by assumption) | exact ih_lS1 (by assumption) | exact ih_lW1 (by assumption) | exact ih_lW2 (by assumption) | exact ih_lW4 (by assumption) | exact ih_lW5 (by assumption)) (by omega) (by omega) (k := ?_)
      refine ih_seg (i1 := 20) 4 rfl ?_
      try simp only [xa_set, List.set_cons_zero, List.set_cons_succ, List.getElem?_cons_zero, List.getElem?_cons_succ]
      exact ih (k + 1) (by omega)


theorem c_op_status {X : List Int} {t : ih_S} {Q : Option xa_V → ih_S → Prop} {a : Int} (ha : xa_rI a) (K : ih_roC t (f_status (t 84) a) Q) : ih_Wp X 101 0 [xR 0, xI a, xC 1, xC 1] [] t Q := by
  refine ih_seg (i1 := 3) 3 rfl ?_
  refine ih_is3 103 rfl rfl (Nat.le_of_ble_eq_true rfl) (Nat.le_of_ble_eq_true rfl) rfl ?_
  refine c_within (by omega) (by omega) (by omega) (fun w1 => ?_) (fun w2 => ?_)
  · refine ih_seg (i1 := 10) 2 rfl ?_
    refine ih_ifc_lt rfl (by omega) (fun w3 => ?_) (fun w3 => ?_)
    · refine ih_seg (i1 := 20) 4 rfl ?_
      try simp only [xa_set, List.set_cons_zero, List.set_cons_succ, List.getElem?_cons_zero, List.getElem?_cons_succ]
      exact c_status_l (ih_roC_ok K (by rw [f_status, if_pos (by omega), if_pos (by omega)]) (ih_sc_r _)) 7 0 (by omega)
    · refine ih_seg (i1 := 12) 1 rfl ?_
      refine ih_getR rfl rfl ?_
      refine ih_seg (i1 := 14) 1 rfl ?_
      refine ih_iald rfl (by first | rfl | exact ih_lP1 (ih_P_w0 hc) | exact ih_lP2 (ih_P_w0 hc) | exact ih_lP3 (ih_P_w0 hc) | exact ih_lP4 (ih_P_w0 hc) |  exact ih_lP1 (by assumption) | exact ih_lP2 (by assumption) | exact ih_lP3 (by assumption) | exact ih_lP4 (by assumption) | exact ih_lC1 (by assumption) | exact ih_lS1 (by assumption) | exact ih_lW1 (by assumption) | exact ih_lW2 (by assumption) | exact ih_lW4 (by assumption) | exact ih_lW5 (by assumption)) (by omega) (by omega) (k := ?_)
      refine ih_ret rfl rfl ?_
      first
        | exact ih_roC_ok K (by rw [f_status, if_pos (by omega), if_neg (by omega)]) (ih_sc_r _)
        | exact ih_roC_no K (by rw [f_status, if_neg (by omega)]) (ih_sc_r _)
  · refine ih_seg (i1 := 7) 3 rfl ?_
    refine ih_iv1 102 rfl rfl (by first | rfl | exact ih_kP (ih_P_w0 hc) |  exact ih_kP (by assumption) | exact ih_kC (by assumption) | exact ih_kN (by assumption) | exact ih_kS (by assumption) | exact ih_kW (by assumption)) (Nat.le_of_ble_eq_true rfl) (Nat.le_of_ble_eq_true rfl) rfl ?_
    refine c_finding (by omega) ?_
    refine ih_ret rfl rfl ?_
    first
      | exact ih_roC_ok K (by rw [f_status, if_pos (by omega), if_neg (by omega)]) (ih_sc_r _)
      | exact ih_roC_no K (by rw [f_status, if_neg (by omega)]) (ih_sc_r _)


theorem r_status_l {X : List Int} {t : ih_S} {Q : Option xa_V → ih_S → Prop} {a : Int} (ha : xa_rI a) (K : Q (some (xI (ih_sum (fun i => if a < 0 ∨ (i : Int) = a then t 115 i else 0) 7))) t) : ∀ (d : Nat) (k : Nat) (hd : k + d = 7), ih_Wp X 210 14 [xR 111, xI a, xI (ih_sum (fun i => if a < 0 ∨ (i : Int) = a then t 115 i else 0) k), xI k] [] t Q := by
  intro d
  induction d with
  | zero =>
    intro k hd
    obtain rfl : k = 7 := by omega
    refine ih_seg (i1 := 16) 2 rfl ?_
    refine ih_icmp_ge rfl (by omega) (by omega) (fun w1 => ?_) (fun w1 => ?_)
    · refine ih_seg (i1 := 34) 1 rfl ?_
      refine ih_ret rfl rfl ?_
      exact K
    · exfalso
      omega

  | succ d ih =>
    intro k hd
    have hc : k < 7 := by omega
    refine ih_seg (i1 := 16) 2 rfl ?_
    refine ih_icmp_ge rfl (by omega) (by omega) (fun w1 => ?_) (fun w1 => ?_)
    · refine ih_seg (i1 := 34) 1 rfl ?_
      refine ih_ret rfl rfl ?_
      exfalso
      omega
    · refine ih_seg (i1 := 19) 2 rfl ?_
      refine ih_ifc_lt rfl (by omega) (fun w2 => ?_) (fun w2 => ?_)
      · refine ih_seg (i1 := 24) 1 rfl ?_
        refine ih_getR rfl rfl ?_
        refine ih_seg (i1 := 26) 1 rfl ?_
        refine ih_iald rfl (by first | rfl | exact ih_lP1 (ih_P_w0 hc) | exact ih_lP2 (ih_P_w0 hc) | exact ih_lP3 (ih_P_w0 hc) | exact ih_lP4 (ih_P_w0 hc) |  exact ih_lP1 (by assumption) | exact ih_lP2 (by assumption) | exact ih_lP3 (by assumption) | exact ih_lP4 (by assumption) | exact ih_lC1 (by assumption) | exact ih_lS1 (by assumption) | exact ih_lW1 (by assumption) | exact ih_lW2 (by assumption) | exact ih_lW4 (by assumption) | exact ih_lW5 (by assumption)) (by omega) (by omega) (k := ?_)
        refine ih_seg (i1 := 14) 5 rfl ?_
        try simp only [xa_set, List.set_cons_zero, List.set_cons_succ, List.getElem?_cons_zero, List.getElem?_cons_succ]
        refine ih_ls ?_ (ih (k + 1) (by omega))
        rw [ih_sum]
        first
          | rw [if_pos (by omega)]
            rfl
          | rw [if_neg (by omega)]
            rfl
      · refine ih_seg (i1 := 22) 2 rfl ?_
        refine ih_icmp_ne rfl (by omega) (by omega) (fun w3 => ?_) (fun w3 => ?_)
        · refine ih_seg (i1 := 14) 5 rfl ?_
          try simp only [xa_set, List.set_cons_zero, List.set_cons_succ, List.getElem?_cons_zero, List.getElem?_cons_succ]
          refine ih_ls ?_ (ih (k + 1) (by omega))
          rw [ih_sum]
          first
            | rw [if_pos (by omega)]
              rfl
            | rw [if_neg (by omega)]
              rfl
        · refine ih_seg (i1 := 24) 1 rfl ?_
          refine ih_getR rfl rfl ?_
          refine ih_seg (i1 := 26) 1 rfl ?_
          refine ih_iald rfl (by first | rfl | exact ih_lP1 (ih_P_w0 hc) | exact ih_lP2 (ih_P_w0 hc) | exact ih_lP3 (ih_P_w0 hc) | exact ih_lP4 (ih_P_w0 hc) |  exact ih_lP1 (by assumption) | exact ih_lP2 (by assumption) | exact ih_lP3 (by assumption) | exact ih_lP4 (by assumption) | exact ih_lC1 (by assumption) | exact ih_lS1 (by assumption) | exact ih_lW1 (by assumption) | exact ih_lW2 (by assumption) | exact ih_lW4 (by assumption) | exact ih_lW5 (by assumption)) (by omega) (by omega) (k := ?_)
          refine ih_seg (i1 := 14) 5 rfl ?_
          try simp only [xa_set, List.set_cons_zero, List.set_cons_succ, List.getElem?_cons_zero, List.getElem?_cons_succ]
          refine ih_ls ?_ (ih (k + 1) (by omega))
          rw [ih_sum]
          first
            | rw [if_pos (by omega)]
              rfl
            | rw [if_neg (by omega)]
              rfl


theorem r_op_status {X : List Int} {t : ih_S} {Q : Option xa_V → ih_S → Prop} {a : Int} (ha : xa_rI a) (K : ih_roR t (f_status (t 115) a) Q) : ih_Wp X 210 0 [xR 111, xI a, xC 1, xC 1] [] t Q := by
  refine ih_seg (i1 := 1) 1 rfl ?_
  refine ih_i2l rfl (by omega) ?_
  refine ih_seg (i1 := 4) 2 rfl ?_
  refine ih_is3 126 rfl rfl (Nat.le_of_ble_eq_true rfl) (Nat.le_of_ble_eq_true rfl) rfl ?_
  refine r_in (by omega) (by omega) (by omega) (fun w1 => ?_) (fun w2 => ?_)
  · refine ih_seg (i1 := 14) 5 rfl ?_
    try simp only [xa_set, List.set_cons_zero, List.set_cons_succ, List.getElem?_cons_zero, List.getElem?_cons_succ]
    exact r_status_l ha (ih_roR_ok K (by rw [f_status, if_pos (by omega), ih_status_is (by omega)]) (ih_rr_r _)) 7 0 (by omega)
  · refine ih_seg (i1 := 8) 3 rfl ?_
    refine ih_iv1 127 rfl rfl (by first | rfl | exact ih_kP (ih_P_w0 hc) |  exact ih_kP (by assumption) | exact ih_kC (by assumption) | exact ih_kN (by assumption) | exact ih_kS (by assumption) | exact ih_kW (by assumption)) (Nat.le_of_ble_eq_true rfl) (Nat.le_of_ble_eq_true rfl) rfl ?_
    refine r_finds 0 rfl (by omega) ?_
    refine ih_ret rfl rfl ?_
    exact ih_roR_no 0 K (by rw [f_status, if_neg (by omega)]) rfl (ih_rr_r _)

