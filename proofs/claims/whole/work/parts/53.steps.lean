/-! fewest: the class's rows -/
theorem ih_icmp_ge_any {X : List Int} {mi i : Nat} {ls st : List xa_V} {t : ih_S} {Q : Option xa_V → ih_S → Prop} {pc ln : Nat} {a b off tg : Int} (hf : (xb_G.1 mi)[i]? = some (pc, .if_icmp .ge off, ln, [tg])) (kt : (xa_rI a → xa_rI b → b ≤ a) → ih_Wp X mi tg.toNat ls st t Q) (kf : (xa_rI a → xa_rI b → ¬ b ≤ a) → ih_Wp X mi (i + 1) ls st t Q) : ih_Wp X mi i ls (xI b :: xI a :: st) t Q := by
  by_cases h : xa_rI a ∧ xa_rI b
  · exact ih_icmp_ge hf h.1 h.2 (fun q => kt (fun _ _ => q)) (fun q => kf (fun _ _ => q))
  · cases e : xa_cmpw .ge a b with
    | true =>
      refine ih_step hf ?_ (kt (fun h1 h2 => absurd ⟨h1, h2⟩ h))
      show xa_if2 .ge [tg] i ls (xI b :: xI a :: st) (ih_mk t) = _
      unfold xa_if2
      dsimp only
      rw [e, if_pos rfl]
    | false =>
      refine ih_step hf ?_ (kf (fun h1 h2 => absurd ⟨h1, h2⟩ h))
      show xa_if2 .ge [tg] i ls (xI b :: xI a :: st) (ih_mk t) = _
      unfold xa_if2
      dsimp only
      rw [e, if_neg (by decide)]
theorem ih_tb_ge {v k : Nat} (hv : v < 4096) (hk : 12 ≤ k) : v.testBit k = false := Nat.testBit_lt_two_pow (Nat.lt_of_lt_of_le hv (show 4096 ≤ 2 ^ k from Nat.pow_le_pow_right (n := 2) (by decide) hk))
theorem ih_tb_ext {v w : Nat} (hv : v < 4096) (hw : w < 4096) (h : ∀ k, k < 12 → v.testBit k = w.testBit k) : v = w := by
  apply Nat.eq_of_testBit_eq
  intro k
  by_cases q : k < 12
  · exact h k q
  · rw [ih_tb_ge hv (by omega), ih_tb_ge hw (by omega)]
/-- those of one set that aren't in another one -/
def ih_dif (a b : Nat) : Nat := ih_set (fun k => a.testBit k && !b.testBit k) 12
theorem ih_dif_lt (a b : Nat) : ih_dif a b < 4096 := ih_set_lt _ 12
theorem ih_m1b : ∀ i : Nat, i < 32 → (Int32.ofInt (-1)).toBitVec.getLsbD i = true := by decide +kernel
theorem ih_andn {a b : Nat} (ha : a < 4096) (hb : b < 4096) : xa_and (a : Int) (xa_xor (b : Int) (-1)) = (ih_dif a b : Int) := by
  refine ih_toI ?_ (Nat.lt_of_lt_of_le (ih_dif_lt a b) (by decide))
  unfold xa_xor
  rw [Int32.ofInt_toInt, Int32.toBitVec_and, Int32.toBitVec_xor, ih_of32 (by omega), ih_of32 (by omega), Int.toNat_natCast, Int.toNat_natCast]
  apply BitVec.eq_of_getLsbD_eq
  intro i hi
  rw [BitVec.getLsbD_and, BitVec.getLsbD_xor, BitVec.getLsbD_ofNat, BitVec.getLsbD_ofNat, BitVec.getLsbD_ofNat, ih_m1b i hi]
  unfold ih_dif
  rw [ih_set_bit]
  by_cases q : i < 12
  · simp [q, hi]
  · rw [ih_tb_ge ha (by omega)]
    simp [q]
theorem ih_dif_0 {a b : Nat} (ha : a < 4096) : ((ih_dif a b : Nat) : Int) = 0 ↔ ∀ k, a.testBit k = true → b.testBit k = true := by
  constructor
  · intro h k hk
    have h' : ih_dif a b = 0 := by omega
    have hk12 : k < 12 := by
      by_cases q : k < 12
      · exact q
      · rw [ih_tb_ge ha (by omega)] at hk
        exact absurd hk (by decide)
    have := congrArg (fun x => Nat.testBit x k) h'
    unfold ih_dif at this
    simp only [ih_set_bit, Nat.zero_testBit, hk, hk12, decide_true, Bool.true_and] at this
    cases q : b.testBit k with
    | true => rfl
    | false => rw [q] at this; exact absurd this (by decide)
  · intro h
    have : ih_dif a b = 0 := by
      refine ih_tb_ext (ih_dif_lt a b) (by decide) (fun k hk => ?_)
      unfold ih_dif
      rw [ih_set_bit, Nat.zero_testBit]
      cases q : a.testBit k with
      | true => rw [h k q]; simp
      | false => simp
    omega
/-- those of two rows: of the second where a set has them, else of the first -/
def ih_mix (a b v : Nat) : Nat := ih_set (fun k => if v.testBit k then b.testBit k else a.testBit k) 12
theorem ih_mix_is {a b v : Nat} (ha : a < 4096) (hb : b < 4096) (hv : v < 4096) : xa_or (xa_and (a : Int) (xa_xor (v : Int) (-1))) (xa_and (b : Int) (v : Int)) = (ih_mix a b v : Int) := by
  have l1 := ih_dif_lt a v
  have l2 : b &&& v < 4096 := Nat.lt_of_le_of_lt Nat.and_le_left hb
  rw [ih_andn ha hv, ih_and_n (by omega) (by omega), ih_or_n (by omega) (by omega)]
  refine congrArg Int.ofNat (ih_tb_ext (Nat.or_lt_two_pow (n := 12) l1 l2) (ih_set_lt _ 12) (fun k hk => ?_))
  unfold ih_mix ih_dif
  rw [ih_set_bit, Nat.testBit_or, Nat.testBit_and, ih_set_bit]
  cases v.testBit k <;> simp [hk]
theorem ih_set_and {f : Nat → Bool} {n v : Nat} (hn : n ≤ 12) (hv : v < 4096) : ih_set f n &&& v = ih_set (fun k => v.testBit k && f k) n := by
  apply Nat.eq_of_testBit_eq
  intro k
  rw [Nat.testBit_and, ih_set_bit, ih_set_bit]
  cases v.testBit k <;> cases f k <;> simp

theorem c_leftAt_l {X : List Int} {t : ih_S} {Q : Option xa_V → ih_S → Prop} {a N n : Nat} {h : Int} (hl : ih_len a = some N) (hN : N < 1000) (hn : n ≤ N) (hn2 : n ≤ 12) (hh : xa_rI h) (K : ∀ f : Nat → Bool, (∀ k : Nat, k < n → xa_rI (t a k) → f k = decide (h < t a k)) → Q (some (xI (ih_set f n : Nat))) t) : ∀ (d : Nat) (k : Nat) (f : Nat → Bool) (hd : k + d = n) (hf : ∀ j : Nat, j < k → xa_rI (t a j) → f j = decide (h < t a j)), ih_Wp X 5 4 [xI h, xR a, xI n, xI (ih_set f k : Nat), xI k] [] t Q := by
  intro d
  induction d with
  | zero =>
    intro k f hd hf
    obtain rfl : k = n := by omega
    refine ih_seg (i1 := 6) 2 rfl ?_
    refine ih_icmp_ge rfl (by omega) (by omega) (fun w1 => ?_) (fun w1 => ?_)
    · refine ih_seg (i1 := 21) 1 rfl ?_
      refine ih_ret rfl rfl ?_
      exact K f hf
    · exfalso
      omega

  | succ d ih =>
    intro k f hd hf
    have up : ∀ b : Bool, ih_set (fun j => if j = k then b else f j) k = ih_set f k := fun b => ih_set_congr (fun j hj => by rw [if_neg (by omega)])
    refine ih_seg (i1 := 6) 2 rfl ?_
    refine ih_icmp_ge rfl (by omega) (by omega) (fun w1 => ?_) (fun w1 => ?_)
    · refine ih_seg (i1 := 21) 1 rfl ?_
      refine ih_ret rfl rfl ?_
      exfalso
      omega
    · refine ih_seg (i1 := 10) 3 rfl ?_
      refine ih_iald rfl hl (by omega) (by omega) hN ?_
      refine ih_icmp_ge_any rfl (fun w3 => ?_) (fun w3 => ?_)
      · refine ih_seg (i1 := 4) 2 rfl ?_
        try simp only [xa_set, List.set_cons_zero, List.set_cons_succ, List.getElem?_cons_zero, List.getElem?_cons_succ]
        refine ih_ls ?_ (ih (k + 1) (fun j => if j = k then false else f j) (by omega) (fun j hj hr => ?_))
        · rw [← ih_set_skip _ (if_pos rfl), up]
          rfl
        · try dsimp only
          by_cases e : j = k
          · subst e
            rw [if_pos rfl]
            have := w3 hh hr
            exact (decide_eq_false (by omega)).symm
          · rw [if_neg e]
            exact hf j (by omega) hr
      · refine ih_seg (i1 := 4) 8 rfl ?_
        try simp only [xa_set, List.set_cons_zero, List.set_cons_succ, List.getElem?_cons_zero, List.getElem?_cons_succ]
        refine ih_ls ?_ (ih (k + 1) (fun j => if j = k then true else f j) (by omega) (fun j hj hr => ?_))
        · rw [← ih_set_step (fun j => if j = k then true else f j) (by omega) (if_pos rfl), up]
          rfl
        · try dsimp only
          by_cases e : j = k
          · subst e
            rw [if_pos rfl]
            have := w3 hh hr
            exact (decide_eq_true (by omega)).symm
          · rw [if_neg e]
            exact hf j (by omega) hr


theorem c_leftAt {X : List Int} {t : ih_S} {Q : Option xa_V → ih_S → Prop} {a N n : Nat} {h : Int} (hl : ih_len a = some N) (hN : N < 1000) (hn : n ≤ N) (hn2 : n ≤ 12) (hh : xa_rI h) (K : ∀ f : Nat → Bool, (∀ k : Nat, k < n → xa_rI (t a k) → f k = decide (h < t a k)) → Q (some (xI (ih_set f n : Nat))) t) : ih_Wp X 5 0 [xI h, xR a, xI n, xC 1, xC 1] [] t Q := by
  refine ih_seg (i1 := 4) 4 rfl ?_
  try simp only [xa_set, List.set_cons_zero, List.set_cons_succ, List.getElem?_cons_zero, List.getElem?_cons_succ]
  exact c_leftAt_l hl hN hn hn2 hh K n 0 (fun _ => false) (by omega) (fun j hj => by omega)


def ih_ads (L : List Int) (h last : Int) : List Int := if h ≤ last ∧ ¬ h ∈ L then L ++ [h] else L
theorem ih_ads_mem {L : List Int} {h last x : Int} : x ∈ ih_ads L h last ↔ x ∈ L ∨ (x = h ∧ h ≤ last) := by
  unfold ih_ads
  split
  · next q => simp [q.1]
  · next q =>
    constructor
    · exact Or.inl
    · rintro (h1 | ⟨rfl, h2⟩)
      · exact h1
      · exact Classical.byContradiction (fun k => q ⟨h2, k⟩)
theorem ih_ads_len (L : List Int) (h last : Int) : (ih_ads L h last).length ≤ L.length + 1 := by
  unfold ih_ads
  split
  · simp
  · omega

theorem c_addStep {X : List Int} {t : ih_S} {Q : Option xa_V → ih_S → Prop} {L : List Int} {h last : Int} (hL : ∀ x ∈ L, xa_rI x) (hh : xa_rI h) (hl : xa_rI last) (hs : t 86 4 = L.length) (hg : ih_Lr (t 88) L) (hn : L.length < 24) (K : ∀ t1, (∀ j, j ≠ 86 → j ≠ 88 → t1 j = t j) → t1 86 4 = ((ih_ads L h last).length : Int) → ih_Lr (t1 88) (ih_ads L h last) → Q none t1) : ih_Wp X 3 0 [xR 86, xI h, xI last] [] t Q := by
  refine ih_seg (i1 := 2) 2 rfl ?_
  refine ih_icmp_gt rfl (by omega) (by omega) (fun w1 => ?_) (fun w1 => ?_)
  · refine ih_retv rfl ?_
    have e : ih_ads L h last = L := if_neg (fun q => by have := q.1; omega)
    exact K t (fun _ _ _ => rfl) (by rw [e]; exact hs) (by rw [e]; exact hg)
  · refine ih_seg (i1 := 4) 1 rfl ?_
    refine ih_getI rfl rfl ?_
    refine ih_seg (i1 := 6) 1 rfl ?_
    refine ih_getR rfl rfl ?_
    refine ih_alen rfl (by first | rfl | exact ih_lP1 (ih_P_w0 hc) | exact ih_lP2 (ih_P_w0 hc) | exact ih_lP3 (ih_P_w0 hc) | exact ih_lP4 (ih_P_w0 hc) |  exact ih_lP1 (by assumption) | exact ih_lP2 (by assumption) | exact ih_lP3 (by assumption) | exact ih_lP4 (by assumption) | exact ih_lC1 (by assumption) | exact ih_lS1 (by assumption) | exact ih_lW1 (by assumption) | exact ih_lW2 (by assumption) | exact ih_lW4 (by assumption) | exact ih_lW5 (by assumption)) (k := ?_)
    refine ih_icmp_ge rfl (by omega) (by omega) (fun w2 => ?_) (fun w2 => ?_)
    · refine ih_retv rfl ?_
      exfalso
      omega
    · refine ih_seg (i1 := 10) 1 rfl ?_
      refine ih_getR rfl rfl ?_
      refine ih_seg (i1 := 12) 1 rfl ?_
      refine ih_getI rfl rfl ?_
      refine ih_seg (i1 := 14) 1 rfl ?_
      rw [hs]
      refine ih_in3 114 rfl rfl (Nat.le_of_ble_eq_true rfl) (Nat.le_of_ble_eq_true rfl) rfl ?_
      refine c_isAmong (N := 24) rfl (by decide) (by omega) hL hh hg (fun hq => ?_) (fun hq => ?_)
      · refine ih_seg (i1 := 28) 1 rfl ?_
        refine ih_retv rfl ?_
        have e : ih_ads L h last = L := if_neg (fun q => q.2 hq)
        exact K t (fun _ _ _ => rfl) (by rw [e]; exact hs) (by rw [e]; exact hg)
      · refine ih_seg (i1 := 17) 2 rfl ?_
        refine ih_getR rfl rfl ?_
        refine ih_seg (i1 := 19) 1 rfl ?_
        refine ih_getI rfl rfl ?_
        refine ih_seg (i1 := 21) 1 rfl ?_
        rw [hs]
        refine ih_iast rfl (by first | rfl | exact ih_lP1 (ih_P_w0 hc) | exact ih_lP2 (ih_P_w0 hc) | exact ih_lP3 (ih_P_w0 hc) | exact ih_lP4 (ih_P_w0 hc) |  exact ih_lP1 (by assumption) | exact ih_lP2 (by assumption) | exact ih_lP3 (by assumption) | exact ih_lP4 (by assumption) | exact ih_lC1 (by assumption) | exact ih_lS1 (by assumption) | exact ih_lW1 (by assumption) | exact ih_lW2 (by assumption) | exact ih_lW4 (by assumption) | exact ih_lW5 (by assumption)) (by omega) (by omega) (k := ?_)
        refine ih_seg (i1 := 24) 2 rfl ?_
        refine ih_getI rfl rfl ?_
        refine ih_seg (i1 := 27) 2 rfl ?_
        try dsimp only
        refine ih_putI rfl rfl rfl ?_
        refine ih_retv rfl ?_
        have e : ih_ads L h last = L ++ [h] := if_pos ⟨by omega, hq⟩
        refine K _ (fun j j1 j2 => by rw [ih_up_ne j1, ih_up_ne j2]) ?_ ?_
        · rw [ih_up_eq, ih_u1_eq, ih_up_ne (by decide), hs, e]
          simp
        · rw [e, ih_up_ne (by decide), ih_up_eq]
          exact ih_Lr_add hg


theorem c_laySteps_l {X : List Int} {t : ih_S} {Q : Option xa_V → ih_S → Prop} {c v : Nat} {il nw last : Int} (hc : c < 4) (G : ih_PG t c) (E : ih_EG t c) (hv : v < 4096) (hil : 1 ≤ il ∧ il ≤ 999) (hnw : 0 ≤ nw ∧ nw < 10000) (hla : 0 ≤ last ∧ last < 10000) (K : ∀ (L : List Int) (t1 : ih_S), (∀ j, j ≠ 86 → j ≠ 87 → j ≠ 88 → t1 j = t j) → L.length ≤ 24 → (∀ x : Int, x ∈ L ↔ ∃ j : Nat, j < (t (7 + 5 * c) 4).toNat ∧ v.testBit j = true ∧ (x = t (92 + 3 * c) j ∨ x = ih_eo t c j il nw) ∧ x ≤ last) → t1 86 4 = L.length → ih_Lr (t1 88) L → (∀ j : Nat, j < (t (7 + 5 * c) 4).toNat → v.testBit j = true → t1 87 j = ih_eo t c j il nw) → Q none t1)  : ∀ (d : Nat) (k : Nat) (L : List Int) (t1 : ih_S) (hd : (k : Int) + d = t (7 + 5 * c) 4) (hf : ∀ j, j ≠ 86 → j ≠ 87 → j ≠ 88 → t1 j = t j) (hn : L.length ≤ 2 * k) (hm : (∀ x : Int, x ∈ L ↔ ∃ j : Nat, j < k ∧ v.testBit j = true ∧ (x = t (92 + 3 * c) j ∨ x = ih_eo t c j il nw) ∧ x ≤ last)) (hs : t1 86 4 = L.length) (hg : ih_Lr (t1 88) L) (hce : ∀ j : Nat, j < k → v.testBit j = true → t1 87 j = ih_eo t c j il nw), ih_Wp X 2 5 [xR 86, xR (91 + 3 * c), xI v, xI il, xI nw, xI last, xI k] [] t1 Q := by
  intro d
  induction d with
  | zero =>
    intro k L t1 hd hf hn hm hs hg hce
    have g1 := G.sz
    have es : t1 (7 + 5 * c) = t (7 + 5 * c) := hf _ (by omega) (by omega) (by omega)
    have ee : t1 (92 + 3 * c) = t (92 + 3 * c) := hf _ (by omega) (by omega) (by omega)
    rw [← es] at hd g1
    refine ih_seg (i1 := 7) 2 rfl ?_
    refine ih_getR rfl (by first | rfl | exact ih_fC0 (by assumption)) ?_
    refine ih_getI rfl (by first | rfl | exact ih_fP4 (ih_P_w0 hc) | exact ih_fP4 (by assumption)) ?_
    refine ih_icmp_ge rfl (by omega) (by omega) (fun w1 => ?_) (fun w1 => ?_)
    · refine ih_retv rfl ?_
      have ek : (t (7 + 5 * c) 4).toNat = k := by rw [← es]; omega
      rw [ek] at K
      exact K L t1 hf (by omega) hm hs hg hce
    · exfalso
      omega

  | succ d ih =>
    intro k L t1 hd hf hn hm hs hg hce
    have g1 := G.sz
    have es : t1 (7 + 5 * c) = t (7 + 5 * c) := hf _ (by omega) (by omega) (by omega)
    have ee : t1 (92 + 3 * c) = t (92 + 3 * c) := hf _ (by omega) (by omega) (by omega)
    rw [← es] at hd g1
    have hk : (k : Int) < t (7 + 5 * c) 4 := by rw [← es]; omega
    have gb := ih_bit (v := v) (k := k) (by omega) (by omega)
    have ek := E k hk
    have eor := ih_eo_rg (t := t) (c := c) (m := k) hil hnw
    have hLr : ∀ x ∈ L, xa_rI x := by
      intro x hx
      obtain ⟨j, j1, j2, j3, j4⟩ := (hm x).1 hx
      have := E j (by rw [← es]; omega)
      have := ih_eo_rg (t := t) (c := c) (m := j) hil hnw
      rcases j3 with rfl | rfl <;> omega
    refine ih_seg (i1 := 7) 2 rfl ?_
    refine ih_getR rfl (by first | rfl | exact ih_fC0 (by assumption)) ?_
    refine ih_getI rfl (by first | rfl | exact ih_fP4 (ih_P_w0 hc) | exact ih_fP4 (by assumption)) ?_
    refine ih_icmp_ge rfl (by (first | omega | (rw [gb]; split <;> omega))) (by (first | omega | (rw [gb]; split <;> omega))) (fun w1 => ?_) (fun w1 => ?_)
    · refine ih_retv rfl ?_
      exfalso
      omega
    · refine ih_seg (i1 := 15) 5 rfl ?_
      try dsimp only
      refine ih_ifc_eq rfl (by (first | omega | (rw [gb]; split <;> omega))) (fun w2 => ?_) (fun w2 => ?_)
      · refine ih_seg (i1 := 5) 2 rfl ?_
        try simp only [xa_set, List.set_cons_zero, List.set_cons_succ, List.getElem?_cons_zero, List.getElem?_cons_succ]
        refine ih (k + 1) L t1 (by rw [← es]; omega) hf (by omega) (fun x => ?_) hs hg (fun j hj hb => ?_)
        · rw [hm x]
          constructor
          · rintro ⟨j, j1, j2⟩
            exact ⟨j, by omega, j2⟩
          · rintro ⟨j, j1, j2, j3⟩
            refine ⟨j, ?_, j2, j3⟩
            by_cases e : j = k
            · subst e
              rw [j2] at gb
              simp at gb
              omega
            · omega
        · by_cases e : j = k
          · subst e
            rw [hb] at gb
            simp at gb
            omega
          · exact hce j (by omega) hb
      · refine ih_seg (i1 := 17) 1 rfl ?_
        refine ih_getR rfl rfl ?_
        refine ih_seg (i1 := 23) 5 rfl ?_
        refine ih_iv3 9 rfl rfl (by first | rfl | exact ih_kP (ih_P_w0 hc) |  exact ih_kP (by assumption) | exact ih_kC (by assumption) | exact ih_kN (by assumption) | exact ih_kS (by assumption) | exact ih_kW (by assumption)) (Nat.le_of_ble_eq_true rfl) (Nat.le_of_ble_eq_true rfl) rfl ?_
        refine c_endOf hc (G.of hc (fun j hj => hf j (by omega) (by omega) (by omega))) (by omega) hil hnw ?_
        rw [ih_eo_of hc (fun j hj => hf j (by omega) (by omega) (by omega))]
        refine ih_iast rfl (by first | rfl | exact ih_lP1 (ih_P_w0 hc) | exact ih_lP2 (ih_P_w0 hc) | exact ih_lP3 (ih_P_w0 hc) | exact ih_lP4 (ih_P_w0 hc) |  exact ih_lP1 (by assumption) | exact ih_lP2 (by assumption) | exact ih_lP3 (by assumption) | exact ih_lP4 (by assumption) | exact ih_lC1 (by assumption) | exact ih_lS1 (by assumption) | exact ih_lW1 (by assumption) | exact ih_lW2 (by assumption) | exact ih_lW4 (by assumption) | exact ih_lW5 (by assumption)) (by (first | omega | (rw [gb]; split <;> omega))) (by (first | omega | (rw [gb]; split <;> omega))) (k := ?_)
        refine ih_seg (i1 := 27) 2 rfl ?_
        refine ih_getR rfl (by first | rfl | exact ih_fC2 (by assumption)) ?_
        refine ih_seg (i1 := 29) 1 rfl ?_
        refine ih_iald rfl (ih_lC1 hc) (by omega) (by omega) (k := ?_)
        rw [ih_up_ne (show 92 + 3 * c ≠ 87 by omega), ee]
        refine ih_seg (i1 := 31) 1 rfl ?_
        refine ih_iv2 3 rfl rfl (by first | rfl | exact ih_kP (ih_P_w0 hc) |  exact ih_kP (by assumption) | exact ih_kC (by assumption) | exact ih_kN (by assumption) | exact ih_kS (by assumption) | exact ih_kW (by assumption)) (Nat.le_of_ble_eq_true rfl) (Nat.le_of_ble_eq_true rfl) rfl ?_
        have a2 := ih_ads_len L (t (92 + 3 * c) k) last
        refine c_addStep (L := L) hLr (by omega) (by omega) (by rw [ih_up_ne (by decide)]; exact hs) (by rw [ih_up_ne (by decide)]; exact hg) (by omega) (fun t2 f2 s2 g2 => ?_)
        refine ih_seg (i1 := 34) 2 rfl ?_
        refine ih_getR rfl rfl ?_
        refine ih_seg (i1 := 36) 1 rfl ?_
        refine ih_iald rfl rfl (by omega) (by omega) (k := ?_)
        rw [f2 87 (by decide) (by decide), ih_up_eq, ih_u1_eq]
        refine ih_seg (i1 := 38) 1 rfl ?_
        refine ih_iv2 3 rfl rfl (by first | rfl | exact ih_kP (ih_P_w0 hc) |  exact ih_kP (by assumption) | exact ih_kC (by assumption) | exact ih_kN (by assumption) | exact ih_kS (by assumption) | exact ih_kW (by assumption)) (Nat.le_of_ble_eq_true rfl) (Nat.le_of_ble_eq_true rfl) rfl ?_
        have a3 := ih_ads_len (ih_ads L (t (92 + 3 * c) k) last) (ih_eo t c k il nw) last
        refine c_addStep (L := ih_ads L (t (92 + 3 * c) k) last) (fun x hx => ?_) (by omega) (by omega) s2 g2 (by omega) (fun t3 f3 s3 g3 => ?_)
        · rcases ih_ads_mem.1 hx with hx | ⟨rfl, hx⟩
          · exact hLr x hx
          · omega
        refine ih_seg (i1 := 5) 2 rfl ?_
        try simp only [xa_set, List.set_cons_zero, List.set_cons_succ, List.getElem?_cons_zero, List.getElem?_cons_succ]
        have hb1 : v.testBit k = true := by
          cases q : v.testBit k with
          | true => rfl
          | false => rw [q] at gb; simp at gb; omega
        refine ih (k + 1) _ t3 (by rw [← es]; omega) (fun j j1 j2 j3 => by rw [f3 j j1 j3, f2 j j1 j3, ih_up_ne j2]; exact hf j j1 j2 j3) (by omega) (fun x => ?_) s3 g3 (fun j hj hb => ?_)
        · rw [ih_ads_mem, ih_ads_mem, hm x]
          constructor
          · rintro ((⟨j, j1, j2⟩ | ⟨rfl, h2⟩) | ⟨rfl, h2⟩)
            · exact ⟨j, by omega, j2⟩
            · exact ⟨k, by omega, hb1, Or.inl rfl, h2⟩
            · exact ⟨k, by omega, hb1, Or.inr rfl, h2⟩
          · rintro ⟨j, j1, j2, j3, j4⟩
            by_cases e : j = k
            · subst e
              rcases j3 with rfl | rfl
              · exact Or.inl (Or.inr ⟨rfl, j4⟩)
              · exact Or.inr ⟨rfl, j4⟩
            · exact Or.inl (Or.inl ⟨j, by omega, j2, j3, j4⟩)
        · rw [f3 87 (by decide) (by decide), f2 87 (by decide) (by decide), ih_up_eq]
          by_cases e : j = k
          · subst e
            rw [ih_u1_eq]
          · rw [ih_u1_ne (by omega)]
            exact hce j (by omega) hb


theorem c_laySteps {X : List Int} {t : ih_S} {Q : Option xa_V → ih_S → Prop} {c v : Nat} {il nw last : Int} (hc : c < 4) (G : ih_PG t c) (E : ih_EG t c) (hv : v < 4096) (hil : 1 ≤ il ∧ il ≤ 999) (hnw : 0 ≤ nw ∧ nw < 10000) (hla : 0 ≤ last ∧ last < 10000) (K : ∀ (L : List Int) (t1 : ih_S), (∀ j, j ≠ 86 → j ≠ 87 → j ≠ 88 → t1 j = t j) → L.length ≤ 24 → (∀ x : Int, x ∈ L ↔ ∃ j : Nat, j < (t (7 + 5 * c) 4).toNat ∧ v.testBit j = true ∧ (x = t (92 + 3 * c) j ∨ x = ih_eo t c j il nw) ∧ x ≤ last) → t1 86 4 = L.length → ih_Lr (t1 88) L → (∀ j : Nat, j < (t (7 + 5 * c) 4).toNat → v.testBit j = true → t1 87 j = ih_eo t c j il nw) → Q none t1)  : ih_Wp X 2 0 [xR 86, xR (91 + 3 * c), xI v, xI il, xI nw, xI last, xC 1] [] t Q := by
  have g1 := G.sz
  refine ih_seg (i1 := 2) 2 rfl ?_
  refine ih_putI rfl rfl rfl ?_
  refine ih_seg (i1 := 5) 2 rfl ?_
  try simp only [xa_set, List.set_cons_zero, List.set_cons_succ, List.getElem?_cons_zero, List.getElem?_cons_succ]
  exact c_laySteps_l hc G E hv hil hnw hla K (t (7 + 5 * c) 4).toNat 0 [] _ (by omega) (fun j j1 j2 j3 => ih_up_ne j1) (by simp) (fun x => ⟨fun h => absurd h (by simp), fun ⟨j, j1, _⟩ => absurd j1 (Nat.not_lt_zero j)⟩) (by rw [ih_up_eq, ih_u1_eq]; rfl) (ih_Lr_0 _) (fun j hj => absurd hj (Nat.not_lt_zero j))

