/-! fewest: the class's call -/
def ih_cs2 (s : Int → Int) (p : Nat) (ink : Int) (w : Nat) (j : Int) : Int → Int := fun x => if 26 + 48 * (p : Int) ≤ x ∧ x < 26 + 48 * p + 4 * j ∧ w.testBit ((x - 26 - 48 * p) / 4).toNat = true then (if (x - 26 - 48 * (p : Int)) % 4 = 2 then ink else if (x - 26 - 48 * (p : Int)) % 4 = 3 then s 0 else s x) else s x
def ih_sv (s : Int → Int) (p : Nat) : Nat := ih_set (ih_rs s p (s 0)) (s (22 + p)).toNat
def ih_okR (s : Int → Int) (p : Nat) (ink n : Int) (w : Nat) : Bool := ih_st (ih_cs2 s p ink w (s (22 + p))) p (ih_rM s p (s 0)) (s 0) (s 0 + n)
def ih_few (s : Int → Int) (p : Nat) (ink n : Int) : Int := ih_frr (ih_okR s p ink n) (ih_sv s p) (2 ^ (s (22 + p)).toNat) 0 (-1)
def f_fewest (s : Int → Int) (a b n : Int) : ih_An := if (0 ≤ a ∧ a < 4) ∧ (0 ≤ b ∧ b < 8) ∧ 0 ≤ n ∧ n ≤ 100 then (if 9999 < s 0 + n then ih_no 4 else if ih_few s a.toNat b n < 0 then ih_no 3 else ih_ok1 (ih_few s a.toNat b n)) else ih_no 0
def ih_ewn (s : Int → Int) (c k : Nat) : Int := ih_how (s (18 + c)) (ih_w (s (18 + c)) (s (26 + 48 * c + 4 * k + 3)) + ih_rsp s c k)
def ih_ecp (s : Int → Int) (c : Nat) (ink : Int) (k : Nat) : Int := ih_how (s (18 + c)) (ih_w (s (18 + c)) (s 0) + ih_span (s (26 + 48 * c + 4 * k)) (s (2 + ink)))
section IHF
variable {s : Int → Int} {p w : Nat} {ink : Int}
theorem ih_cs_lo {j x : Int} (h : x < 26 + 48 * p ∨ 26 + 48 * p + 4 * j ≤ x) : ih_cs2 s p ink w j x = s x := by
  unfold ih_cs2
  rw [if_neg (by omega)]
theorem ih_cs_at {j : Int} {k r : Nat} (hr : r < 4) (hk : (k : Int) < j) : ih_cs2 s p ink w j (26 + 48 * p + 4 * k + r) = if w.testBit k = true then (if r = 2 then ink else if r = 3 then s 0 else s (26 + 48 * p + 4 * k + r)) else s (26 + 48 * p + 4 * k + r) := by
  unfold ih_cs2
  have e1 : ((26 + 48 * (p : Int) + 4 * k + r - 26 - 48 * p) / 4).toNat = k := by omega
  have e2 : (26 + 48 * (p : Int) + 4 * k + r - 26 - 48 * p) % 4 = r := by omega
  rw [e1, e2]
  by_cases q : w.testBit k = true
  · rw [if_pos ⟨by omega, by omega, q⟩, if_pos q]
    (repeat' split) <;> first | rfl | omega
  · rw [if_neg (fun h => q h.2.2), if_neg q]
theorem ih_cs_kd {j : Int} {k : Nat} (hk : (k : Int) < j) : ih_cs2 s p ink w j (26 + 48 * p + 4 * k) = s (26 + 48 * p + 4 * k) := by
  have := ih_cs_at (s := s) (p := p) (w := w) (ink := ink) (r := 0) (by decide) hk
  simp only [Int.natCast_zero, Int.add_zero] at this
  rw [this]
  split <;> simp
theorem ih_cs_lt {j : Int} {k : Nat} (hk : (k : Int) < j) : ih_cs2 s p ink w j (26 + 48 * p + 4 * k + 1) = s (26 + 48 * p + 4 * k + 1) := by
  have := ih_cs_at (s := s) (p := p) (w := w) (ink := ink) (r := 1) (by decide) hk
  rw [show (((1 : Nat) : Int)) = 1 from rfl] at this
  rw [this]
  split <;> simp
theorem ih_cs_ink {j : Int} {k : Nat} (hk : (k : Int) < j) : ih_cs2 s p ink w j (26 + 48 * p + 4 * k + 2) = if w.testBit k = true then ink else s (26 + 48 * p + 4 * k + 2) := by
  have := ih_cs_at (s := s) (p := p) (w := w) (ink := ink) (r := 2) (by decide) hk
  rw [show (((2 : Nat) : Int)) = 2 from rfl] at this
  rw [this]
  split <;> simp
theorem ih_cs_ats {j : Int} {k : Nat} (hk : (k : Int) < j) : ih_cs2 s p ink w j (26 + 48 * p + 4 * k + 3) = if w.testBit k = true then s 0 else s (26 + 48 * p + 4 * k + 3) := by
  have := ih_cs_at (s := s) (p := p) (w := w) (ink := ink) (r := 3) (by decide) hk
  rw [show (((3 : Nat) : Int)) = 3 from rfl] at this
  rw [this]
  split <;> simp
theorem ih_sv_bit (G : ih_Gd s) (hp : p < 4) {k : Nat} (hk : (k : Int) < s (22 + p)) : (ih_sv s p).testBit k = ih_rs s p (s 0) k := by
  unfold ih_sv
  rw [ih_set_bit]
  simp
  intro h
  omega
theorem ih_csv_rs (G : ih_Gd s) (hp : p < 4) (hi : 0 ≤ ink ∧ ink < 8) {k : Nat} (hk : (k : Int) < s (22 + p)) {e : Int} (he : s 0 ≤ e) (hw : w.testBit k = true → (ih_sv s p).testBit k = true) : ih_rs (ih_cs2 s p ink w (s (22 + p))) p e k = ((ih_sv s p).testBit k && decide (e < if w.testBit k = true then ih_ecp s p ink k else ih_ewn s p k)) := by
  have P := G.pap p hp
  have z := P.sz
  have gn := G.now
  have e18 : ih_cs2 s p ink w (s (22 + p)) (18 + p) = s (18 + p) := ih_cs_lo (by omega)
  have ek := ih_cs_kd (s := s) (p := p) (w := w) (ink := ink) hk
  have ei := ih_cs_ink (s := s) (p := p) (w := w) (ink := ink) hk
  have ea := ih_cs_ats (s := s) (p := p) (w := w) (ink := ink) hk
  have ha := P.at_ k hk
  have hn := G.ats p k hp hk
  have hii := P.ink k hk
  have hll := P.las _ hii.1 hii.2
  have sp := ih_span_rg (k := s (26 + 48 * p + 4 * k)) hll.1 hll.2
  have hl2 := P.las _ hi.1 hi.2
  have sp2 := ih_span_rg (k := s (26 + 48 * p + 4 * k)) hl2.1 hl2.2
  have w0 := ih_w_rg (lit := s (18 + p)) gn.1 (by omega)
  have w1 := ih_w_rg (lit := s (18 + p)) ha.1 (by omega)
  have bit := ih_sv_bit G hp hk
  by_cases q : w.testBit k = true
  · rw [if_pos q] at ei ea
    rw [hw q, if_pos q, Bool.true_and]
    unfold ih_rs ih_rsp ih_ecp
    rw [e18, ea, ek, ei, ih_cs_lo (x := 2 + ink) (by omega), decide_eq_decide, ih_gal (by omega) (by omega)]
    omega
  · rw [if_neg q] at ei ea
    rw [if_neg q, bit]
    unfold ih_rs ih_ewn
    have er : ih_rsp (ih_cs2 s p ink w (s (22 + p))) p k = ih_rsp s p k := by
      unfold ih_rsp
      rw [ek, ei, ih_cs_lo (x := 2 + s (26 + 48 * p + 4 * k + 2)) (by omega)]
    have rr : 1 ≤ ih_rsp s p k := sp.1
    rw [e18, ea, er]
    have g := ih_gal (lit := s (18 + p)) (h := e) (w := ih_w (s (18 + p)) (s (26 + 48 * p + 4 * k + 3)) + ih_rsp s p k) (by omega) (by omega)
    have mo := ih_w_mono (lit := s (18 + p)) gn.1 he
    by_cases q2 : s (26 + 48 * p + 4 * k + 3) ≤ s 0 ∧ ih_w (s (18 + p)) (s 0) - ih_w (s (18 + p)) (s (26 + 48 * p + 4 * k + 3)) < ih_rsp s p k
    · rw [decide_eq_true q2, Bool.true_and, decide_eq_decide, g]
      omega
    · rw [decide_eq_false q2, Bool.false_and, decide_eq_false_iff_not]
      omega
end IHF
/-- the hour of a list that is the last one up to a given one -/
theorem ih_lastof {e : Int} : ∀ {L : List Int}, (∃ x ∈ L, x ≤ e) → ∃ x ∈ L, x ≤ e ∧ ∀ y ∈ L, y ≤ e → y ≤ x
  | [], h => by obtain ⟨x, hx, _⟩ := h; exact absurd hx (by simp)
  | a :: L, h => by
    by_cases q : ∃ x ∈ L, x ≤ e
    · obtain ⟨x, h1, h2, h3⟩ := ih_lastof q
      by_cases k : a ≤ e ∧ x < a
      · refine ⟨a, by simp, k.1, fun y hy hye => ?_⟩
        rcases List.mem_cons.mp hy with rfl | hy
        · exact Int.le_refl _
        · have := h3 y hy hye
          omega
      · refine ⟨x, by simp [h1], h2, fun y hy hye => ?_⟩
        rcases List.mem_cons.mp hy with rfl | hy
        · omega
        · exact h3 y hy hye
    · obtain ⟨x, hx, hxe⟩ := h
      rcases List.mem_cons.mp hx with rfl | hx
      · refine ⟨x, by simp, hxe, fun y hy hye => ?_⟩
        rcases List.mem_cons.mp hy with rfl | hy
        · exact Int.le_refl _
        · exact absurd ⟨y, hy, hye⟩ q
      · exact absurd ⟨x, hx, hxe⟩ q
/-- whether the steps tell it: all hours are as the last step ahead -/
theorem ih_few_eq {s : Int → Int} {p u : Nat} {ink n : Int} {L : List Int} {M : (Nat → Bool) → Int} (G : ih_Gd s) (hp : p < 4) (hi : 0 ≤ ink ∧ ink < 8) (hn : 0 ≤ n) (hM : ∀ f, M f = ih_val (ih_fd (fun k => s (26 + 48 * p + 4 * k)) (fun k => s (26 + 48 * p + 4 * k + 1)) f (s (22 + p)).toNat)) (hL : ∀ x, x ∈ L ↔ ∃ j : Nat, j < (s (22 + p)).toNat ∧ (ih_sv s p).testBit j = true ∧ (x = ih_ewn s p j ∨ x = ih_ecp s p ink j) ∧ x ≤ s 0 + n) (hu : ∀ b : Nat, u.testBit b = true ↔ ∃ (i : Nat) (h : i < L.length), (ih_lw (ih_sv s p) (s (22 + p)).toNat (fun k => ih_ewn s p k) L[i]).testBit b ≠ (ih_lw (ih_sv s p) (s (22 + p)).toNat (fun k => ih_ecp s p ink k) L[i]).testBit b) : ih_few s p ink n = ih_frr (ih_okC L (ih_lw (ih_sv s p) (s (22 + p)).toNat (fun k => ih_ewn s p k)) (ih_lw (ih_sv s p) (s (22 + p)).toNat (fun k => ih_ecp s p ink k)) M (ih_rM s p (s 0))) u (u + 1) 0 (-1) := by
  have z := (G.pap p hp).sz
  have gn := G.now
  have h2n : 2 ^ (s (22 + p)).toNat ≤ 4096 := Nat.le_trans (Nat.pow_le_pow_right (by decide) (show (s (22 + p)).toNat ≤ 12 by omega)) (by decide)
  have hS : ih_sv s p < 2 ^ (s (22 + p)).toNat := ih_set_lt _ _
  have hU : ∀ k, u.testBit k = true → (ih_sv s p).testBit k = true := by
    intro k hk
    obtain ⟨i, hi2, h⟩ := (hu k).1 hk
    unfold ih_lw at h
    rw [ih_set_bit, ih_set_bit] at h
    cases q : (ih_sv s p).testBit k with
    | true => rfl
    | false => rw [q] at h; simp at h
  -- ends are behind now
  have later : ∀ k : Nat, (k : Int) < s (22 + p) → (ih_sv s p).testBit k = true → s 0 < ih_ewn s p k ∧ s 0 < ih_ecp s p ink k := by
    intro k hk hb
    rw [ih_sv_bit G hp hk] at hb
    have P := G.pap p hp
    have ha := P.at_ k hk
    have hl2 := P.las _ hi.1 hi.2
    have sp2 := ih_span_rg (k := s (26 + 48 * p + 4 * k)) hl2.1 hl2.2
    have w0 := ih_w_rg (lit := s (18 + p)) gn.1 (by omega)
    have w1 := ih_w_rg (lit := s (18 + p)) ha.1 (by omega)
    unfold ih_rs at hb
    have hb := of_decide_eq_true hb
    have hii := P.ink k hk
    have hll := P.las _ hii.1 hii.2
    have sp : 1 ≤ ih_rsp s p k := (ih_span_rg (k := s (26 + 48 * p + 4 * k)) hll.1 hll.2).1
    unfold ih_ewn ih_ecp
    rw [ih_gal gn.1 (by omega), ih_gal gn.1 (by omega)]
    omega
  -- what is seen at a step
  have mixb : ∀ (w : Nat) (x : Int) (k : Nat), (k : Int) < s (22 + p) → (ih_mix (ih_lw (ih_sv s p) (s (22 + p)).toNat (fun k => ih_ewn s p k) x) (ih_lw (ih_sv s p) (s (22 + p)).toNat (fun k => ih_ecp s p ink k) x) w).testBit k = ((ih_sv s p).testBit k && decide (x < if w.testBit k = true then ih_ecp s p ink k else ih_ewn s p k)) := by
    intro w x k hk
    unfold ih_mix ih_lw
    rw [ih_set_bit, ih_set_bit, ih_set_bit]
    have h1 : decide (k < 12) = true := decide_eq_true (by omega)
    have h2 : decide (k < (s (22 + p)).toNat) = true := decide_eq_true (by omega)
    rw [h1, h2]
    cases w.testBit k <;> simp
  have okw : ∀ w : Nat, w < 4096 → ih_dif w (ih_sv s p) = 0 → ∀ e, s 0 ≤ e → ih_rM (ih_cs2 s p ink w (s (22 + p))) p e = ih_val (ih_fd (fun k => s (26 + 48 * p + 4 * k)) (fun k => s (26 + 48 * p + 4 * k + 1)) (fun k => (ih_sv s p).testBit k && decide (e < if w.testBit k = true then ih_ecp s p ink k else ih_ewn s p k)) (s (22 + p)).toNat) := by
    intro w hw hd e he
    have hsub := (ih_dif_0 (a := w) (b := ih_sv s p) hw).1 (by omega)
    unfold ih_rM
    rw [ih_cs_lo (x := 22 + p) (by omega)]
    refine congrArg ih_val (ih_fd_congr (fun k hk => ⟨ih_cs_kd (by omega), ih_cs_lt (by omega), ?_⟩))
    exact ih_csv_rs G hp hi (by omega) he (hsub k)
  have nowM : ∀ w : Nat, ih_val (ih_fd (fun k => s (26 + 48 * p + 4 * k)) (fun k => s (26 + 48 * p + 4 * k + 1)) (fun k => (ih_sv s p).testBit k && decide (s 0 < if w.testBit k = true then ih_ecp s p ink k else ih_ewn s p k)) (s (22 + p)).toNat) = ih_rM s p (s 0) := by
    intro w
    unfold ih_rM
    refine congrArg ih_val (ih_fd_congr (fun k hk => ⟨rfl, rfl, ?_⟩))
    have b := ih_sv_bit G hp (k := k) (by omega)
    try dsimp only
    rw [← b]
    cases q : (ih_sv s p).testBit k with
    | false => rfl
    | true =>
      have := later k (by omega) q
      rw [Bool.true_and, decide_eq_true_eq]
      split <;> omega
  refine ih_bst_eq hS h2n hU (fun w hw hd => ?_) (fun w hw => ?_) ih_bst_0 ih_bst_0
  · -- okR = okC
    have key : (∀ e, s 0 ≤ e → e ≤ s 0 + n → ih_rM (ih_cs2 s p ink w (s (22 + p))) p e = ih_rM s p (s 0)) ↔ ∀ x ∈ L, M (ih_mix (ih_lw (ih_sv s p) (s (22 + p)).toNat (fun k => ih_ewn s p k) x) (ih_lw (ih_sv s p) (s (22 + p)).toNat (fun k => ih_ecp s p ink k) x) w).testBit = ih_rM s p (s 0) := by
      have step : ∀ x, M (ih_mix (ih_lw (ih_sv s p) (s (22 + p)).toNat (fun k => ih_ewn s p k) x) (ih_lw (ih_sv s p) (s (22 + p)).toNat (fun k => ih_ecp s p ink k) x) w).testBit = ih_val (ih_fd (fun k => s (26 + 48 * p + 4 * k)) (fun k => s (26 + 48 * p + 4 * k + 1)) (fun k => (ih_sv s p).testBit k && decide (x < if w.testBit k = true then ih_ecp s p ink k else ih_ewn s p k)) (s (22 + p)).toNat) := by
        intro x
        rw [hM]
        exact congrArg ih_val (ih_fd_congr (fun k hk => ⟨rfl, rfl, mixb w x k (by omega)⟩))
      constructor
      · intro h x hx
        obtain ⟨j, j1, j2, j3, j4⟩ := (hL x).1 hx
        have hlt := later j (by omega) j2
        have hx0 : s 0 ≤ x := by rcases j3 with rfl | rfl <;> omega
        rw [step x, ← okw w hw hd x hx0]
        exact h x hx0 j4
      · intro h e e0 e1
        rw [okw w hw hd e e0]
        by_cases q : ∃ x ∈ L, x ≤ e
        · obtain ⟨x, x1, x2, x3⟩ := ih_lastof q
          rw [← h x x1, step x]
          refine congrArg ih_val (ih_fd_congr (fun k hk => ⟨rfl, rfl, ?_⟩))
          try dsimp only
          cases q2 : (ih_sv s p).testBit k with
          | false => rfl
          | true =>
            rw [Bool.true_and, Bool.true_and, decide_eq_decide]
            constructor
            · intro h9
              omega
            · intro h9
              refine Classical.byContradiction (fun h8 => ?_)
              have hin : (if w.testBit k = true then ih_ecp s p ink k else ih_ewn s p k) ∈ L := (hL _).2 ⟨k, by omega, q2, by split <;> simp, by omega⟩
              have := x3 _ hin (by omega)
              omega
        · rw [← nowM w]
          refine congrArg ih_val (ih_fd_congr (fun k hk => ⟨rfl, rfl, ?_⟩))
          try dsimp only
          cases q2 : (ih_sv s p).testBit k with
          | false => rfl
          | true =>
            rw [Bool.true_and, Bool.true_and, decide_eq_decide]
            have hlt := later k (by omega) q2
            constructor
            · intro h9
              omega
            · intro h9
              refine Classical.byContradiction (fun h8 => ?_)
              have hin : (if w.testBit k = true then ih_ecp s p ink k else ih_ewn s p k) ∈ L := (hL _).2 ⟨k, by omega, q2, by split <;> simp, by omega⟩
              exact q ⟨_, hin, by omega⟩
    by_cases h : ∀ e, s 0 ≤ e → e ≤ s 0 + n → ih_rM (ih_cs2 s p ink w (s (22 + p))) p e = ih_rM s p (s 0)
    · rw [ih_okC_t.2 (key.1 h)]
      exact ih_st_y (by omega) h
    · cases q : ih_okC L (ih_lw (ih_sv s p) (s (22 + p)).toNat (fun k => ih_ewn s p k)) (ih_lw (ih_sv s p) (s (22 + p)).toNat (fun k => ih_ecp s p ink k)) M (ih_rM s p (s 0)) w with
      | true => exact absurd (key.2 (ih_okC_t.1 q)) h
      | false => exact ih_st_n (by omega) h
  · -- only what differs counts
    have hsame : ∀ x ∈ L, (ih_mix (ih_lw (ih_sv s p) (s (22 + p)).toNat (fun k => ih_ewn s p k) x) (ih_lw (ih_sv s p) (s (22 + p)).toNat (fun k => ih_ecp s p ink k) x) w) = (ih_mix (ih_lw (ih_sv s p) (s (22 + p)).toNat (fun k => ih_ewn s p k) x) (ih_lw (ih_sv s p) (s (22 + p)).toNat (fun k => ih_ecp s p ink k) x) (w &&& u)) := by
      intro x hx
      obtain ⟨i, hi2, e⟩ := List.mem_iff_getElem.mp hx
      unfold ih_mix
      refine ih_set_congr (fun k hk => ?_)
      try dsimp only
      rw [Nat.testBit_and]
      cases q1 : w.testBit k with
      | false => rfl
      | true =>
        cases q2 : u.testBit k with
        | true => rfl
        | false =>
          refine Classical.byContradiction (fun h => ?_)
          have : u.testBit k = true := (hu k).2 ⟨i, hi2, fun h9 => h (by rw [e] at h9; simp [h9])⟩
          rw [q2] at this
          exact absurd this (by decide)
    have : ∀ b1 b2 : Bool, (b1 = true ↔ b2 = true) → b1 = b2 := fun b1 b2 h => by cases b1 <;> cases b2 <;> simp_all
    refine this _ _ ?_
    rw [ih_okC_t, ih_okC_t]
    exact ⟨fun h x hx => by rw [← hsame x hx]; exact h x hx, fun h x hx => by rw [hsame x hx]; exact h x hx⟩

theorem c_sm_l {X : List Int} {t : ih_S} {Q : Option xa_V → ih_S → Prop} {c u : Nat} {L : List Int} {A B : Int → Nat} {m e2 e3 e4 e5 : Int} (hc : c < 4) (G : ih_PG t c) (hu : u < 4096) (hm : -1 ≤ m ∧ m < 65536) (hA : ∀ x ∈ L, A x < 4096 ∧ B x < 4096) (hn : L.length ≤ 24) (hs : t 86 4 = L.length) (hab : ∀ (i : Nat) (h : i < L.length), t 89 i = A L[i] ∧ t 90 i = B L[i])  : ∀ (d : Nat) (w : Nat) (best bc : Int) (t1 : ih_S) (hd : w + d = u + 1) (hf : ih_fr c t t1) (hb : (best = -1 ∧ bc = 13) ∨ ∃ x : Nat, best = x ∧ bc = ih_ones x ∧ x < 4096) (K : ∀ t2, ih_fr c t t2 → Q (some (xI (ih_frr (ih_okC L A B (ih_mo t c) m) u (u + 1 - w) w best))) t2), ih_Wp X 1 26 [xR 86, xR (91 + 3 * c), xI e2, xI e3, xI e4, xI e5, xI m, xI u, xI best, xI bc, xI w] [] t1 Q := by
  intro d
  induction d with
  | zero =>
    intro w best bc t1 hd hf hb K
    obtain rfl : w = u + 1 := by omega
    refine ih_seg (i1 := 28) 2 rfl ?_
    refine ih_icmp_gt rfl (by omega) (by omega) (fun w1 => ?_) (fun w1 => ?_)
    · refine ih_seg (i1 := 53) 1 rfl ?_
      refine ih_ret rfl rfl ?_
      have e0 : u + 1 - (u + 1) = 0 := by omega
      rw [e0] at K
      exact K t1 hf
    · exfalso
      omega

  | succ d ih =>
    intro w best bc t1 hd hf hb K
    have dl := ih_dif_lt w u
    have emo : ih_mo t1 c = ih_mo t c := ih_mo_of hc (ih_fr_lo hc hf)
    have s86 : t1 86 4 = L.length := by rw [hf 86 (by omega)]; exact hs
    have ab : ∀ (i : Nat) (h : i < L.length), t1 89 i = A L[i] ∧ t1 90 i = B L[i] := fun i hi => by rw [hf 89 (by omega), hf 90 (by omega)]; exact hab i hi
    have P1 := ih_PG_fr hc G hf
    have ow := ih_ones_rg w
    have hbc : 0 ≤ bc ∧ bc ≤ 13 ∧ (best < 0 ∨ bc = ih_ones best.toNat) ∧ (best < 0 → bc = 13) := by
      rcases hb with ⟨rfl, rfl⟩ | ⟨x, rfl, rfl, hx⟩
      · exact ⟨by decide, by decide, Or.inl (by decide), fun _ => rfl⟩
      · have := ih_ones_rg x
        exact ⟨by omega, by omega, Or.inr (by rw [Int.toNat_natCast]), fun h => by omega⟩
    refine ih_seg (i1 := 28) 2 rfl ?_
    refine ih_icmp_gt rfl (by omega) (by omega) (fun w1 => ?_) (fun w1 => ?_)
    · refine ih_seg (i1 := 53) 1 rfl ?_
      refine ih_ret rfl rfl ?_
      exfalso
      omega
    · refine ih_seg (i1 := 34) 5 rfl ?_
      try dsimp only
      rw [ih_andn (by omega) hu]
      refine ih_ifc_ne rfl (by omega) (fun w2 => ?_) (fun w2 => ?_)
      · refine ih_seg (i1 := 26) 2 rfl ?_
        try simp only [xa_set, List.set_cons_zero, List.set_cons_succ, List.getElem?_cons_zero, List.getElem?_cons_succ]
        have e1 : u + 1 - w = (u + 1 - (w + 1)) + 1 := by omega
        rw [e1] at K
        have ef : ih_frs (ih_okC L A B (ih_mo t c) m) u w best = best := if_neg (fun q => by have := q.1; omega)
        have K2 : ∀ t2, ih_fr c t t2 → Q (some (xI (ih_frr (ih_okC L A B (ih_mo t c) m) u (u + 1 - (w + 1)) (w + 1) (ih_frs (ih_okC L A B (ih_mo t c) m) u w best)))) t2 := K
        rw [ef] at K2
        exact ih (w + 1) best bc t1 (by omega) hf hb K2
      · refine ih_seg (i1 := 36) 1 rfl ?_
        refine ih_is1 211 rfl rfl (Nat.le_of_ble_eq_true rfl) (Nat.le_of_ble_eq_true rfl) rfl ?_
        refine c_bitCount (by omega) ?_
        refine ih_seg (i1 := 38) 1 rfl ?_
        refine ih_icmp_ge rfl (by omega) (by omega) (fun w3 => ?_) (fun w3 => ?_)
        · refine ih_seg (i1 := 26) 2 rfl ?_
          try simp only [xa_set, List.set_cons_zero, List.set_cons_succ, List.getElem?_cons_zero, List.getElem?_cons_succ]
          have e1 : u + 1 - w = (u + 1 - (w + 1)) + 1 := by omega
          rw [e1] at K
          have ef : ih_frs (ih_okC L A B (ih_mo t c) m) u w best = best := if_neg (fun q => by have := q.2.1; omega)
          have K2 : ∀ t2, ih_fr c t t2 → Q (some (xI (ih_frr (ih_okC L A B (ih_mo t c) m) u (u + 1 - (w + 1)) (w + 1) (ih_frs (ih_okC L A B (ih_mo t c) m) u w best)))) t2 := K
          rw [ef] at K2
          exact ih (w + 1) best bc t1 (by omega) hf hb K2
        · refine ih_seg (i1 := 43) 4 rfl ?_
          refine ih_iv3 6 rfl rfl (by first | rfl | exact ih_kP (ih_P_w0 hc) |  exact ih_kP (by assumption) | exact ih_kC (by assumption) | exact ih_kN (by assumption) | exact ih_kS (by assumption) | exact ih_kW (by assumption)) (Nat.le_of_ble_eq_true rfl) (Nat.le_of_ble_eq_true rfl) rfl ?_
          refine c_keepsWith hc P1 (by omega) hm hA hn s86 ab (fun hq t2 h2 => ?_) (fun hq t2 h2 => ?_)
          all_goals rw [emo] at hq
          · refine ih_seg (i1 := 48) 4 rfl ?_
            try simp only [xa_set, List.set_cons_zero, List.set_cons_succ, List.getElem?_cons_zero, List.getElem?_cons_succ]
            refine ih_is1 211 rfl rfl (Nat.le_of_ble_eq_true rfl) (Nat.le_of_ble_eq_true rfl) rfl ?_
            refine c_bitCount (by omega) ?_
            refine ih_seg (i1 := 26) 3 rfl ?_
            try simp only [xa_set, List.set_cons_zero, List.set_cons_succ, List.getElem?_cons_zero, List.getElem?_cons_succ]
            have e1 : u + 1 - w = (u + 1 - (w + 1)) + 1 := by omega
            rw [e1] at K
            have ef : ih_frs (ih_okC L A B (ih_mo t c) m) u w best = (w : Int) := if_pos ⟨by omega, by omega, hq⟩
            have K2 : ∀ t2, ih_fr c t t2 → Q (some (xI (ih_frr (ih_okC L A B (ih_mo t c) m) u (u + 1 - (w + 1)) (w + 1) (ih_frs (ih_okC L A B (ih_mo t c) m) u w best)))) t2 := K
            rw [ef] at K2
            exact ih (w + 1) _ _ t2 (by omega) (ih_fr_t hf h2) (Or.inr ⟨w, rfl, rfl, by omega⟩) K2
          · refine ih_seg (i1 := 26) 3 rfl ?_
            try simp only [xa_set, List.set_cons_zero, List.set_cons_succ, List.getElem?_cons_zero, List.getElem?_cons_succ]
            have e1 : u + 1 - w = (u + 1 - (w + 1)) + 1 := by omega
            rw [e1] at K
            have ef : ih_frs (ih_okC L A B (ih_mo t c) m) u w best = best := if_neg (fun q => by have := q.2.2; rw [hq] at this; exact absurd this (by decide))
            have K2 : ∀ t2, ih_fr c t t2 → Q (some (xI (ih_frr (ih_okC L A B (ih_mo t c) m) u (u + 1 - (w + 1)) (w + 1) (ih_frs (ih_okC L A B (ih_mo t c) m) u w best)))) t2 := K
            rw [ef] at K2
            exact ih (w + 1) best bc t2 (by omega) (ih_fr_t hf h2) hb K2


theorem c_smallestSet {X : List Int} {t : ih_S} {Q : Option xa_V → ih_S → Prop} {s : Int → Int} {c : Nat} {b n : Int} (hc : c < 4) (hb : 0 ≤ b ∧ b < 8) (hn : 0 ≤ n ∧ s 0 + n < 10000) (W : ih_Wr t 1 s) (G : ih_Gd s) (he : ∀ k : Nat, (k : Int) < s (22 + c) → t (92 + 3 * c) k = ih_how (s (18 + c)) (ih_w (s (18 + c)) (s (26 + 48 * c + 4 * k + 3)) + ih_rsp s c k)) (K : ∀ t2, ih_sc t t2 → Q (some (xI (ih_few s c b n))) t2) : ih_Wp X 1 0 [xR 86, xR (91 + 3 * c), xI (s (2 + b)), xI (s 0), xI (s 0 + n), xC 1, xC 1, xC 1, xC 1, xC 1, xC 1] [] t Q := by
  have P := ih_PG_W W G hc
  have ez := ih_W_sz W hc
  have z := P.sz
  have gn := G.now
  have ezn : (t (7 + 5 * c) 4).toNat = (s (22 + c)).toNat := by rw [ez]
  have la := (G.pap c hc).las b hb.1 hb.2
  have wn := ih_w_rg (lit := s (18 + c)) gn.1 (by omega)
  have sp : ∀ k : Nat, (k : Int) < s (22 + c) → 1 ≤ ih_rsp s c k ∧ ih_rsp s c k ≤ 1998 := by
    intro k hk
    have hi := (G.pap c hc).ink k hk
    have hl := (G.pap c hc).las _ hi.1 hi.2
    exact ih_span_rg (k := s (26 + 48 * c + 4 * k)) hl.1 hl.2
  have E : ih_EG t c := by
    intro k hk
    rw [ez] at hk
    have ha := (G.pap c hc).at_ k hk
    have w1 := ih_w_rg (lit := s (18 + c)) ha.1 (by omega)
    have s1 := sp k hk
    rw [he k hk]
    exact ih_how_rg (by omega) (by omega)
  have esf : ∀ k : Nat, (k : Int) < s (22 + c) → ih_sf t c (s 0) k = ih_rs s c (s 0) k := by
    intro k hk
    have ha := (G.pap c hc).at_ k hk
    have w1 := ih_w_rg (lit := s (18 + c)) ha.1 (by omega)
    exact ih_sf_gen gn.1 w1.1 (by have := sp k hk; omega) (by rw [ih_W_at W hc hk]) (he k hk)
  have esv : ih_set (ih_sf t c (s 0)) (t (7 + 5 * c) 4).toNat = ih_sv s c := by
    rw [ezn]
    exact ih_set_congr (fun k hk => esf k (by omega))
  have svl : ih_sv s c < 4096 := ih_set_12 _ (by omega)
  have hmo : ∀ f, ih_mo t c f = ih_val (ih_fd (fun k => s (26 + 48 * c + 4 * k)) (fun k => s (26 + 48 * c + 4 * k + 1)) f (s (22 + c)).toNat) := by
    intro f
    unfold ih_mo
    rw [ezn]
    exact congrArg ih_val (ih_fd_congr (fun k hk => ⟨ih_W_kd W hc (by omega), ih_W_lt W hc (by omega), rfl⟩))
  have eheld : ih_mo t c (ih_sv s c).testBit = ih_rM s c (s 0) := by
    rw [hmo]
    unfold ih_rM
    exact congrArg ih_val (ih_fd_congr (fun k hk => ⟨rfl, rfl, ih_sv_bit G hc (by omega)⟩))
  have ecp : ∀ k : Nat, (k : Int) < s (22 + c) → ih_eo t c k (s (2 + b)) (s 0) = ih_ecp s c b k := by
    intro k hk
    unfold ih_eo ih_ecp
    rw [ih_W_lit W hc, ih_W_kd W hc hk]

  refine ih_seg (i1 := 2) 2 rfl ?_
  refine ih_iv1 10 rfl rfl (by first | rfl | exact ih_kP (ih_P_w0 hc) |  exact ih_kP (by assumption) | exact ih_kC (by assumption) | exact ih_kN (by assumption) | exact ih_kS (by assumption) | exact ih_kW (by assumption)) (Nat.le_of_ble_eq_true rfl) (Nat.le_of_ble_eq_true rfl) rfl ?_
  refine c_seenAt hc P E (by omega) ?_
  rw [esv]
  refine ih_seg (i1 := 6) 3 rfl ?_
  try simp only [xa_set, List.set_cons_zero, List.set_cons_succ, List.getElem?_cons_zero, List.getElem?_cons_succ]
  refine ih_iv1 11 rfl rfl (by first | rfl | exact ih_kP (ih_P_w0 hc) |  exact ih_kP (by assumption) | exact ih_kC (by assumption) | exact ih_kN (by assumption) | exact ih_kS (by assumption) | exact ih_kW (by assumption)) (Nat.le_of_ble_eq_true rfl) (Nat.le_of_ble_eq_true rfl) rfl ?_
  refine c_meaningOf hc P (by omega) (fun t1 f1 => ?_)
  rw [eheld]
  have P1 := P.of hc (fun j hj => f1 j (by omega))
  have E1 : ih_EG t1 c := ih_EG_fr hc E f1
  have h7 : t1 (7 + 5 * c) = t (7 + 5 * c) := f1 _ (by omega)
  have h9 : t1 (92 + 3 * c) = t (92 + 3 * c) := f1 _ (by omega)
  refine ih_seg (i1 := 14) 7 rfl ?_
  try simp only [xa_set, List.set_cons_zero, List.set_cons_succ, List.getElem?_cons_zero, List.getElem?_cons_succ]
  refine ih_iv5 2 rfl rfl (by first | rfl | exact ih_kP (ih_P_w0 hc) |  exact ih_kP (by assumption) | exact ih_kC (by assumption) | exact ih_kN (by assumption) | exact ih_kS (by assumption) | exact ih_kW (by assumption)) (Nat.le_of_ble_eq_true rfl) (Nat.le_of_ble_eq_true rfl) rfl ?_
  refine c_laySteps hc P1 E1 svl la gn (by omega) (fun L t2 f2 n2 m2 s2 g2 ce2 => ?_)
  rw [h7, ezn] at m2 ce2
  have P2 := P1.of hc (fun j hj => f2 j (by omega) (by omega) (by omega))
  have hLr : ∀ x ∈ L, xa_rI x := by
    intro x hx
    obtain ⟨j, j1, j2, j3, j4⟩ := (m2 x).1 hx
    have := E1 j (by rw [h7]; omega)
    have := ih_eo_rg (t := t1) (c := c) (m := j) la gn
    rcases j3 with rfl | rfl <;> omega
  have h72 : t2 (7 + 5 * c) = t (7 + 5 * c) := (f2 _ (by omega) (by omega) (by omega)).trans h7
  have h92 : t2 (92 + 3 * c) = t (92 + 3 * c) := (f2 _ (by omega) (by omega) (by omega)).trans h9
  have eo1 : ∀ k : Nat, (k : Int) < s (22 + c) → ih_eo t1 c k (s (2 + b)) (s 0) = ih_ecp s c b k := fun k hk => by rw [ih_eo_of hc (fun j hj => f1 j (by omega))]; exact ecp k hk
  refine ih_seg (i1 := 18) 3 rfl ?_
  refine ih_iv2 4 rfl rfl (by first | rfl | exact ih_kP (ih_P_w0 hc) |  exact ih_kP (by assumption) | exact ih_kC (by assumption) | exact ih_kN (by assumption) | exact ih_kS (by assumption) | exact ih_kW (by assumption)) (Nat.le_of_ble_eq_true rfl) (Nat.le_of_ble_eq_true rfl) rfl ?_
  refine c_laySets (ce := fun k => ih_ecp s c b k) hc P2 (fun j hj => by rw [h72] at hj; rw [h92]; exact E j hj) svl hLr n2 s2 g2 (fun k hk hbk => ?_) (fun u t3 f3 hu hub hab => ?_)
  · rw [h72, ezn] at hk
    have := ih_eo_rg (t := t1) (c := c) (m := k) la gn
    have e2 := ce2 k hk hbk
    rw [e2, ← eo1 k (by omega)]
    exact ⟨by omega, rfl⟩
  rw [h72, ezn, h92] at hub hab
  have eA : ∀ x, ih_lw (ih_sv s c) (s (22 + c)).toNat (fun k => t (92 + 3 * c) k) x = ih_lw (ih_sv s c) (s (22 + c)).toNat (fun k => ih_ewn s c k) x := fun x => ih_set_congr (fun k hk => by
    have h := he k (by omega)
    show ((ih_sv s c).testBit k && decide (x < t (92 + 3 * c) k)) = ((ih_sv s c).testBit k && decide (x < ih_ewn s c k))
    simp only [h]
    rfl)
  simp only [eA] at hub hab
  have P3 := P2.of hc (fun j hj => f3 j (by omega) (by omega))
  have emo3 : ih_mo t3 c = ih_mo t c := ih_mo_of hc (fun j hj => (f3 j (by omega) (by omega)).trans ((f2 j (by omega) (by omega) (by omega)).trans (f1 j (by omega))))
  have s3 : t3 86 4 = L.length := by rw [f3 86 (by decide) (by decide)]; exact s2
  have mr0 := ih_rM_rg s c (s 0)
  have hLs : ∀ x, x ∈ L ↔ ∃ j : Nat, j < (s (22 + c)).toNat ∧ (ih_sv s c).testBit j = true ∧ (x = ih_ewn s c j ∨ x = ih_ecp s c b j) ∧ x ≤ s 0 + n := by
    intro x
    rw [m2 x]
    constructor
    · rintro ⟨j, j1, j2, j3, j4⟩
      refine ⟨j, j1, j2, ?_, j4⟩
      rw [h9, he j (by omega), eo1 j (by omega)] at j3
      exact j3
    · rintro ⟨j, j1, j2, j3, j4⟩
      refine ⟨j, j1, j2, ?_, j4⟩
      rw [h9, he j (by omega), eo1 j (by omega)]
      exact j3
  have efew := ih_few_eq G hc hb hn.1 hmo hLs hub
  refine ih_seg (i1 := 26) 7 rfl ?_
  try simp only [xa_set, List.set_cons_zero, List.set_cons_succ, List.getElem?_cons_zero, List.getElem?_cons_succ]
  refine c_sm_l (A := ih_lw (ih_sv s c) (s (22 + c)).toNat (fun k => ih_ewn s c k)) (B := ih_lw (ih_sv s c) (s (22 + c)).toNat (fun k => ih_ecp s c b k)) hc P3 hu mr0 (fun x hx => ⟨ih_lw_lt _ _ _ (by omega), ih_lw_lt _ _ _ (by omega)⟩) n2 s3 hab (u + 1) 0 (-1) 13 t3 (by omega) (ih_fr_r _ _) (Or.inl ⟨rfl, rfl⟩) (fun t4 h4 => ?_)
  rw [emo3, show u + 1 - 0 = u + 1 from rfl, ← efew]
  refine K t4 (fun j hj => ?_)
  rw [h4 j (by omega), f3 j (by omega) (by omega), f2 j (by omega) (by omega) (by omega), f1 j (by omega)]


theorem c_op_fewest {X : List Int} {t : ih_S} {Q : Option xa_V → ih_S → Prop} {s : Int → Int} {a b d : Int} (ha : xa_rI a) (hb : xa_rI b) (hd : xa_rI d) (W : ih_Wr t 1 s) (G : ih_Gd s) (K : ih_roC t (f_fewest s a b d) Q) : ih_Wp X 79 0 [xR 0, xI a, xI b, xI d, xC 1] [] t Q := by
  have nw : t 1 5 = s 0 := W.now
  have gn := G.now
  refine ih_seg (i1 := 1) 1 rfl ?_
  refine ih_is1 106 rfl rfl (Nat.le_of_ble_eq_true rfl) (Nat.le_of_ble_eq_true rfl) rfl ?_
  refine c_isPaper (by omega) (fun w1 => ?_) (fun w2 => ?_)
  · refine ih_seg (i1 := 4) 2 rfl ?_
    refine ih_is1 105 rfl rfl (Nat.le_of_ble_eq_true rfl) (Nat.le_of_ble_eq_true rfl) rfl ?_
    refine c_isInk (by omega) (fun w3 => ?_) (fun w4 => ?_)
    · refine ih_seg (i1 := 9) 4 rfl ?_
      refine ih_is3 103 rfl rfl (Nat.le_of_ble_eq_true rfl) (Nat.le_of_ble_eq_true rfl) rfl ?_
      refine c_within (by omega) (by omega) (by omega) (fun w5 => ?_) (fun w6 => ?_)
      · refine ih_seg (i1 := 16) 2 rfl ?_
        refine ih_getR rfl rfl ?_
        refine ih_getI rfl (by first | rfl | exact ih_fW5 (by assumption)) ?_
        refine ih_seg (i1 := 21) 3 rfl ?_
        try dsimp only
        refine ih_icmp_le rfl (by omega) (by omega) (fun w7 => ?_) (fun w7 => ?_)
        · refine ih_seg (i1 := 27) 1 rfl ?_
          refine ih_getR rfl rfl ?_
          refine ih_seg (i1 := 30) 2 rfl ?_
          refine ih_iv1 116 rfl rfl (by first | rfl | exact ih_kP (ih_P_w0 hc) |  exact ih_kP (by assumption) | exact ih_kC (by assumption) | exact ih_kN (by assumption) | exact ih_kS (by assumption) | exact ih_kW (by assumption)) (Nat.le_of_ble_eq_true rfl) (Nat.le_of_ble_eq_true rfl) rfl ?_
          obtain ⟨c, rfl⟩ := Int.eq_ofNat_of_zero_le (show 0 ≤ a by omega)
          have hc : c < 4 := by omega
          have P := ih_PG_W W G hc
          refine c_reckoned hc P (fun t1 hf he => ?_)
          have nw1 : t1 1 5 = s 0 := (congrFun (hf 1 (by omega)) 5).trans nw
          have W1 : ih_Wr t1 1 s := ih_W_sc W (ih_sc_e hc hf)
          have lb : t1 2 b = s (2 + b) := W1.las b (by omega) (by omega)
          refine ih_seg (i1 := 32) 1 rfl ?_
          refine ih_getR rfl rfl ?_
          refine ih_getR rfl (by first | rfl | exact ih_fW0 (by assumption)) ?_
          refine ih_seg (i1 := 35) 1 rfl ?_
          refine ih_iald rfl (by first | rfl | exact ih_lP1 (ih_P_w0 hc) | exact ih_lP2 (ih_P_w0 hc) | exact ih_lP3 (ih_P_w0 hc) | exact ih_lP4 (ih_P_w0 hc) |  exact ih_lP1 (by assumption) | exact ih_lP2 (by assumption) | exact ih_lP3 (by assumption) | exact ih_lP4 (by assumption) | exact ih_lC1 (by assumption) | exact ih_lS1 (by assumption) | exact ih_lW1 (by assumption) | exact ih_lW2 (by assumption) | exact ih_lW4 (by assumption) | exact ih_lW5 (by assumption)) (by omega) (by omega) (k := ?_)
          refine ih_seg (i1 := 37) 1 rfl ?_
          refine ih_getR rfl rfl ?_
          refine ih_getI rfl (by first | rfl | exact ih_fW5 (by assumption)) ?_
          refine ih_seg (i1 := 40) 1 rfl ?_
          refine ih_getR rfl rfl ?_
          refine ih_getI rfl (by first | rfl | exact ih_fW5 (by assumption)) ?_
          refine ih_seg (i1 := 44) 2 rfl ?_
          try dsimp only
          refine ih_iv4 1 rfl rfl (by first | rfl | exact ih_kP (ih_P_w0 hc) |  exact ih_kP (by assumption) | exact ih_kC (by assumption) | exact ih_kN (by assumption) | exact ih_kS (by assumption) | exact ih_kW (by assumption)) (Nat.le_of_ble_eq_true rfl) (Nat.le_of_ble_eq_true rfl) rfl ?_
          rw [nw1, lb]
          have he2 : ∀ k : Nat, (k : Int) < s (22 + c) → t1 (92 + 3 * c) k = ih_how (s (18 + c)) (ih_w (s (18 + c)) (s (26 + 48 * c + 4 * k + 3)) + ih_rsp s c k) := by
            intro k hk
            rw [he k (by rw [ih_W_sz W hc]; exact hk)]
            unfold ih_en ih_eo ih_rsp
            have hi := (G.pap c hc).ink k hk
            have hl : t 2 (s (26 + 48 * c + 4 * k + 2)) = s (2 + s (26 + 48 * c + 4 * k + 2)) := W.las _ hi.1 hi.2
            rw [ih_W_lit W hc, ih_W_kd W hc hk, ih_W_at W hc hk, ih_W_ink W hc hk, hl]
          have frg : -1 ≤ ih_few s c b d ∧ ih_few s c b d < 4096 := by
            have z := (G.pap c hc).sz
            have h2n : 2 ^ (s (22 + c)).toNat ≤ 4096 := Nat.le_trans (Nat.pow_le_pow_right (by decide) (show (s (22 + c)).toNat ≤ 12 by omega)) (by decide)
            rcases ih_bst_0 (ok := ih_okR s c b d) (S := ih_sv s c) (N := 2 ^ (s (22 + c)).toNat) with ⟨h, -⟩ | ⟨x, h, hx, -⟩
            · have : ih_few s c b d = -1 := h
              omega
            · have : ih_few s c b d = x := h
              omega
          refine c_smallestSet hc (by omega) (by omega) W1 G he2 (fun t2 h2 => ?_)
          refine ih_seg (i1 := 47) 2 rfl ?_
          try simp only [xa_set, List.set_cons_zero, List.set_cons_succ, List.getElem?_cons_zero, List.getElem?_cons_succ]
          refine ih_ifc_ge rfl (by omega) (fun w8 => ?_) (fun w8 => ?_)
          · refine ih_seg (i1 := 53) 1 rfl ?_
            refine ih_ret rfl rfl ?_
            first
              | (exfalso
                 omega)
              | exact ih_roC_no K (by rw [f_fewest, if_neg (by omega)]) (ih_sc_r _)
              | exact ih_roC_no K (by rw [f_fewest, if_pos (by omega), if_pos (by omega)]) (ih_sc_r _)
              | exact ih_roC_ok K (by rw [f_fewest, if_pos (by omega), if_neg (by omega), Int.toNat_natCast, if_neg (by omega)]) (ih_sc_t (ih_sc_e hc hf) h2)
              | exact ih_roC_no K (by rw [f_fewest, if_pos (by omega), if_neg (by omega), Int.toNat_natCast, if_pos (by omega)]) (ih_sc_t (ih_sc_e hc hf) h2)
          · refine ih_seg (i1 := 50) 2 rfl ?_
            refine ih_iv1 102 rfl rfl (by first | rfl | exact ih_kP (ih_P_w0 hc) |  exact ih_kP (by assumption) | exact ih_kC (by assumption) | exact ih_kN (by assumption) | exact ih_kS (by assumption) | exact ih_kW (by assumption)) (Nat.le_of_ble_eq_true rfl) (Nat.le_of_ble_eq_true rfl) rfl ?_
            refine c_finding (by omega) ?_
            refine ih_seg (i1 := 53) 1 rfl ?_
            refine ih_ret rfl rfl ?_
            first
              | (exfalso
                 omega)
              | exact ih_roC_no K (by rw [f_fewest, if_neg (by omega)]) (ih_sc_r _)
              | exact ih_roC_no K (by rw [f_fewest, if_pos (by omega), if_pos (by omega)]) (ih_sc_r _)
              | exact ih_roC_ok K (by rw [f_fewest, if_pos (by omega), if_neg (by omega), Int.toNat_natCast, if_neg (by omega)]) (ih_sc_t (ih_sc_e hc hf) h2)
              | exact ih_roC_no K (by rw [f_fewest, if_pos (by omega), if_neg (by omega), Int.toNat_natCast, if_pos (by omega)]) (ih_sc_t (ih_sc_e hc hf) h2)
        · refine ih_seg (i1 := 24) 2 rfl ?_
          refine ih_iv1 102 rfl rfl (by first | rfl | exact ih_kP (ih_P_w0 hc) |  exact ih_kP (by assumption) | exact ih_kC (by assumption) | exact ih_kN (by assumption) | exact ih_kS (by assumption) | exact ih_kW (by assumption)) (Nat.le_of_ble_eq_true rfl) (Nat.le_of_ble_eq_true rfl) rfl ?_
          refine c_finding (by omega) ?_
          refine ih_ret rfl rfl ?_
          first
            | (exfalso
               omega)
            | exact ih_roC_no K (by rw [f_fewest, if_neg (by omega)]) (ih_sc_r _)
            | exact ih_roC_no K (by rw [f_fewest, if_pos (by omega), if_pos (by omega)]) (ih_sc_r _)
            | exact ih_roC_ok K (by rw [f_fewest, if_pos (by omega), if_neg (by omega), Int.toNat_natCast, if_neg (by omega)]) (ih_sc_t (ih_sc_e hc hf) h2)
            | exact ih_roC_no K (by rw [f_fewest, if_pos (by omega), if_neg (by omega), Int.toNat_natCast, if_pos (by omega)]) (ih_sc_t (ih_sc_e hc hf) h2)
      · refine ih_seg (i1 := 13) 3 rfl ?_
        refine ih_iv1 102 rfl rfl (by first | rfl | exact ih_kP (ih_P_w0 hc) |  exact ih_kP (by assumption) | exact ih_kC (by assumption) | exact ih_kN (by assumption) | exact ih_kS (by assumption) | exact ih_kW (by assumption)) (Nat.le_of_ble_eq_true rfl) (Nat.le_of_ble_eq_true rfl) rfl ?_
        refine c_finding (by omega) ?_
        refine ih_ret rfl rfl ?_
        first
          | (exfalso
             omega)
          | exact ih_roC_no K (by rw [f_fewest, if_neg (by omega)]) (ih_sc_r _)
          | exact ih_roC_no K (by rw [f_fewest, if_pos (by omega), if_pos (by omega)]) (ih_sc_r _)
          | exact ih_roC_ok K (by rw [f_fewest, if_pos (by omega), if_neg (by omega), Int.toNat_natCast, if_neg (by omega)]) (ih_sc_t (ih_sc_e hc hf) h2)
          | exact ih_roC_no K (by rw [f_fewest, if_pos (by omega), if_neg (by omega), Int.toNat_natCast, if_pos (by omega)]) (ih_sc_t (ih_sc_e hc hf) h2)
    · refine ih_seg (i1 := 13) 3 rfl ?_
      refine ih_iv1 102 rfl rfl (by first | rfl | exact ih_kP (ih_P_w0 hc) |  exact ih_kP (by assumption) | exact ih_kC (by assumption) | exact ih_kN (by assumption) | exact ih_kS (by assumption) | exact ih_kW (by assumption)) (Nat.le_of_ble_eq_true rfl) (Nat.le_of_ble_eq_true rfl) rfl ?_
      refine c_finding (by omega) ?_
      refine ih_ret rfl rfl ?_
      first
        | (exfalso
           omega)
        | exact ih_roC_no K (by rw [f_fewest, if_neg (by omega)]) (ih_sc_r _)
        | exact ih_roC_no K (by rw [f_fewest, if_pos (by omega), if_pos (by omega)]) (ih_sc_r _)
        | exact ih_roC_ok K (by rw [f_fewest, if_pos (by omega), if_neg (by omega), Int.toNat_natCast, if_neg (by omega)]) (ih_sc_t (ih_sc_e hc hf) h2)
        | exact ih_roC_no K (by rw [f_fewest, if_pos (by omega), if_neg (by omega), Int.toNat_natCast, if_pos (by omega)]) (ih_sc_t (ih_sc_e hc hf) h2)
  · refine ih_seg (i1 := 13) 3 rfl ?_
    refine ih_iv1 102 rfl rfl (by first | rfl | exact ih_kP (ih_P_w0 hc) |  exact ih_kP (by assumption) | exact ih_kC (by assumption) | exact ih_kN (by assumption) | exact ih_kS (by assumption) | exact ih_kW (by assumption)) (Nat.le_of_ble_eq_true rfl) (Nat.le_of_ble_eq_true rfl) rfl ?_
    refine c_finding (by omega) ?_
    refine ih_ret rfl rfl ?_
    first
      | (exfalso
         omega)
      | exact ih_roC_no K (by rw [f_fewest, if_neg (by omega)]) (ih_sc_r _)
      | exact ih_roC_no K (by rw [f_fewest, if_pos (by omega), if_pos (by omega)]) (ih_sc_r _)
      | exact ih_roC_ok K (by rw [f_fewest, if_pos (by omega), if_neg (by omega), Int.toNat_natCast, if_neg (by omega)]) (ih_sc_t (ih_sc_e hc hf) h2)
      | exact ih_roC_no K (by rw [f_fewest, if_pos (by omega), if_neg (by omega), Int.toNat_natCast, if_pos (by omega)]) (ih_sc_t (ih_sc_e hc hf) h2)

