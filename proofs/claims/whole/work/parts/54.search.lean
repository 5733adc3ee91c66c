/-! fewest: the class's search -/
def ih_lw (v n : Nat) (en : Nat → Int) (x : Int) : Nat := ih_set (fun k => v.testBit k && decide (x < en k)) n
theorem ih_lw_lt (v : Nat) {n : Nat} (en : Nat → Int) (x : Int) (h : n ≤ 12) : ih_lw v n en x < 4096 := ih_set_12 _ h

theorem c_laySets_l {X : List Int} {t : ih_S} {Q : Option xa_V → ih_S → Prop} {c v : Nat} {L : List Int} {ce : Nat → Int} (hc : c < 4) (G : ih_PG t c) (E : ih_EG t c) (hv : v < 4096) (hL : ∀ x ∈ L, xa_rI x) (hn : L.length ≤ 24) (hs : t 86 4 = L.length) (hg : ih_Lr (t 88) L) (hce : ∀ k : Nat, k < (t (7 + 5 * c) 4).toNat → v.testBit k = true → xa_rI (t 87 k) ∧ t 87 k = ce k) (K : ∀ (u : Nat) (t1 : ih_S), (∀ j, j ≠ 89 → j ≠ 90 → t1 j = t j) → u < 4096 → (∀ b : Nat, u.testBit b = true ↔ ∃ (i : Nat) (h : i < L.length), (ih_lw v (t (7 + 5 * c) 4).toNat (fun k => t (92 + 3 * c) k) L[i]).testBit b ≠ (ih_lw v (t (7 + 5 * c) 4).toNat ce L[i]).testBit b) → (∀ (i : Nat) (h : i < L.length), t1 89 i = (ih_lw v (t (7 + 5 * c) 4).toNat (fun k => t (92 + 3 * c) k) L[i]) ∧ t1 90 i = (ih_lw v (t (7 + 5 * c) 4).toNat ce L[i])) → Q (some (xI u)) t1)  : ∀ (d : Nat) (k u : Nat) (t1 : ih_S) (hd : (k : Int) + d = L.length) (hf : ∀ j, j ≠ 89 → j ≠ 90 → t1 j = t j) (hu : u < 4096) (hub : (∀ b : Nat, u.testBit b = true ↔ ∃ (i : Nat) (h : i < L.length), i < k ∧ (ih_lw v (t (7 + 5 * c) 4).toNat (fun k => t (92 + 3 * c) k) L[i]).testBit b ≠ (ih_lw v (t (7 + 5 * c) 4).toNat ce L[i]).testBit b)) (hab : ∀ (i : Nat) (h : i < L.length), i < k → t1 89 i = (ih_lw v (t (7 + 5 * c) 4).toNat (fun k => t (92 + 3 * c) k) L[i]) ∧ t1 90 i = (ih_lw v (t (7 + 5 * c) 4).toNat ce L[i])), ih_Wp X 4 4 [xR 86, xR (91 + 3 * c), xI v, xI u, xI k] [] t1 Q := by
  intro d
  induction d with
  | zero =>
    intro k u t1 hd hf hu hub hab
    have g1 := G.sz
    have es : t1 86 = t 86 := hf _ (by decide) (by decide)
    rw [← hs, ← es] at hd
    have hs2 : t1 86 4 = L.length := by rw [es]; exact hs
    refine ih_seg (i1 := 6) 2 rfl ?_
    refine ih_getI rfl rfl ?_
    refine ih_icmp_ge rfl (by omega) (by omega) (fun w1 => ?_) (fun w1 => ?_)
    · refine ih_seg (i1 := 55) 1 rfl ?_
      refine ih_ret rfl rfl ?_
      have ek : k = L.length := by omega
      refine K u t1 hf hu (fun b => ?_) (fun i hi => hab i hi (by omega))
      rw [hub b]
      constructor
      · rintro ⟨i, hi, h1, h2⟩
        exact ⟨i, hi, h2⟩
      · rintro ⟨i, hi, h2⟩
        exact ⟨i, hi, by omega, h2⟩
    · exfalso
      omega

  | succ d ih =>
    intro k u t1 hd hf hu hub hab
    have g1 := G.sz
    have es : t1 86 = t 86 := hf _ (by decide) (by decide)
    rw [← hs, ← es] at hd
    have hs2 : t1 86 4 = L.length := by rw [es]; exact hs
    have hk : k < L.length := by omega
    have e88 : t1 88 k = L[k] := by rw [hf 88 (by decide) (by decide)]; exact hg k hk
    have hx := hL _ (List.getElem_mem hk)
    have en : t1 (7 + 5 * c) 4 = ((t (7 + 5 * c) 4).toNat : Int) := by rw [hf _ (by omega) (by omega)]; omega
    have ee : t1 (92 + 3 * c) = t (92 + 3 * c) := hf _ (by omega) (by omega)
    have la := ih_lw_lt v (n := (t (7 + 5 * c) 4).toNat) (fun k => t (92 + 3 * c) k) L[k] (by omega)
    have lb := ih_lw_lt v (n := (t (7 + 5 * c) 4).toNat) ce L[k] (by omega)
    refine ih_seg (i1 := 6) 2 rfl ?_
    refine ih_getI rfl rfl ?_
    refine ih_icmp_ge rfl (by omega) (by omega) (fun w1 => ?_) (fun w1 => ?_)
    · refine ih_seg (i1 := 55) 1 rfl ?_
      refine ih_ret rfl rfl ?_
      exfalso
      omega
    · refine ih_seg (i1 := 9) 1 rfl ?_
      refine ih_getR rfl rfl ?_
      refine ih_seg (i1 := 12) 2 rfl ?_
      refine ih_getR rfl rfl ?_
      refine ih_seg (i1 := 14) 1 rfl ?_
      refine ih_iald rfl (by first | rfl | exact ih_lP1 (ih_P_w0 hc) | exact ih_lP2 (ih_P_w0 hc) | exact ih_lP3 (ih_P_w0 hc) | exact ih_lP4 (ih_P_w0 hc) |  exact ih_lP1 (by assumption) | exact ih_lP2 (by assumption) | exact ih_lP3 (by assumption) | exact ih_lP4 (by assumption) | exact ih_lC1 (by assumption) | exact ih_lS1 (by assumption) | exact ih_lW1 (by assumption) | exact ih_lW2 (by assumption) | exact ih_lW4 (by assumption) | exact ih_lW5 (by assumption)) (by omega) (by omega) (k := ?_)
      rw [e88]
      refine ih_seg (i1 := 16) 1 rfl ?_
      refine ih_getR rfl (by first | rfl | exact ih_fC2 (by assumption)) ?_
      refine ih_seg (i1 := 18) 1 rfl ?_
      refine ih_getR rfl (by first | rfl | exact ih_fC0 (by assumption)) ?_
      refine ih_getI rfl (by first | rfl | exact ih_fP4 (ih_P_w0 hc) | exact ih_fP4 (by assumption)) ?_
      rw [en]
      refine ih_is3 5 rfl rfl (Nat.le_of_ble_eq_true rfl) (Nat.le_of_ble_eq_true rfl) rfl ?_
      refine c_leftAt (ih_lC1 hc) (by decide) (by omega) (by omega) hx (fun f hfk => ?_)
      have ea : xa_and (ih_set f (t (7 + 5 * c) 4).toNat : Nat) (v : Int) = (ih_lw v (t (7 + 5 * c) 4).toNat (fun k => t (92 + 3 * c) k) L[k] : Nat) := by
        rw [ih_and_n (by have := ih_set_12 f (n := (t (7 + 5 * c) 4).toNat) (by omega); omega) (by omega), ih_set_and (by omega) hv]
        refine congrArg (fun z : Nat => (z : Int)) (ih_set_congr (fun j hj => ?_))
        have := E j (by omega)
        rw [hfk j hj (by rw [ee]; omega), ee]
      refine ih_seg (i1 := 23) 2 rfl ?_
      try dsimp only
      rw [ea]
      refine ih_iast rfl (by first | rfl | exact ih_lP1 (ih_P_w0 hc) | exact ih_lP2 (ih_P_w0 hc) | exact ih_lP3 (ih_P_w0 hc) | exact ih_lP4 (ih_P_w0 hc) |  exact ih_lP1 (by assumption) | exact ih_lP2 (by assumption) | exact ih_lP3 (by assumption) | exact ih_lP4 (by assumption) | exact ih_lC1 (by assumption) | exact ih_lS1 (by assumption) | exact ih_lW1 (by assumption) | exact ih_lW2 (by assumption) | exact ih_lW4 (by assumption) | exact ih_lW5 (by assumption)) (by omega) (by omega) (k := ?_)
      refine ih_seg (i1 := 25) 1 rfl ?_
      refine ih_getR rfl rfl ?_
      refine ih_seg (i1 := 28) 2 rfl ?_
      refine ih_getR rfl rfl ?_
      refine ih_seg (i1 := 30) 1 rfl ?_
      refine ih_iald rfl (by first | rfl | exact ih_lP1 (ih_P_w0 hc) | exact ih_lP2 (ih_P_w0 hc) | exact ih_lP3 (ih_P_w0 hc) | exact ih_lP4 (ih_P_w0 hc) |  exact ih_lP1 (by assumption) | exact ih_lP2 (by assumption) | exact ih_lP3 (by assumption) | exact ih_lP4 (by assumption) | exact ih_lC1 (by assumption) | exact ih_lS1 (by assumption) | exact ih_lW1 (by assumption) | exact ih_lW2 (by assumption) | exact ih_lW4 (by assumption) | exact ih_lW5 (by assumption)) (by omega) (by omega) (k := ?_)
      rw [ih_up_ne (show (88 : Nat) ≠ 89 by decide), e88]
      refine ih_seg (i1 := 32) 1 rfl ?_
      refine ih_getR rfl rfl ?_
      refine ih_seg (i1 := 34) 1 rfl ?_
      refine ih_getR rfl (by first | rfl | exact ih_fC0 (by assumption)) ?_
      refine ih_getI rfl (by first | rfl | exact ih_fP4 (ih_P_w0 hc) | exact ih_fP4 (by assumption)) ?_
      rw [ih_up_ne (show 7 + 5 * c ≠ 89 by omega), en]
      refine ih_is3 5 rfl rfl (Nat.le_of_ble_eq_true rfl) (Nat.le_of_ble_eq_true rfl) rfl ?_
      refine c_leftAt (a := 87) rfl (by decide) (by omega) (by omega) hx (fun f2 hfk2 => ?_)
      have eb : xa_and (ih_set f2 (t (7 + 5 * c) 4).toNat : Nat) (v : Int) = (ih_lw v (t (7 + 5 * c) 4).toNat ce L[k] : Nat) := by
        rw [ih_and_n (by have := ih_set_12 f2 (n := (t (7 + 5 * c) 4).toNat) (by omega); omega) (by omega), ih_set_and (by omega) hv]
        refine congrArg (fun z : Nat => (z : Int)) (ih_set_congr (fun j hj => ?_))
        cases q : v.testBit j with
        | false => rfl
        | true =>
          have h7 := hce j hj q
          have e7 : ih_up t1 89 k (ih_lw v (t (7 + 5 * c) 4).toNat (fun k => t (92 + 3 * c) k) L[k] : Nat) 87 = t 87 := by rw [ih_up_ne (by decide)]; exact hf 87 (by decide) (by decide)
          rw [hfk2 j hj (by rw [e7]; exact h7.1), e7, h7.2]
      refine ih_seg (i1 := 39) 2 rfl ?_
      try dsimp only
      rw [eb]
      refine ih_iast rfl (by first | rfl | exact ih_lP1 (ih_P_w0 hc) | exact ih_lP2 (ih_P_w0 hc) | exact ih_lP3 (ih_P_w0 hc) | exact ih_lP4 (ih_P_w0 hc) |  exact ih_lP1 (by assumption) | exact ih_lP2 (by assumption) | exact ih_lP3 (by assumption) | exact ih_lP4 (by assumption) | exact ih_lC1 (by assumption) | exact ih_lS1 (by assumption) | exact ih_lW1 (by assumption) | exact ih_lW2 (by assumption) | exact ih_lW4 (by assumption) | exact ih_lW5 (by assumption)) (by omega) (by omega) (k := ?_)
      refine ih_seg (i1 := 42) 2 rfl ?_
      refine ih_getR rfl rfl ?_
      refine ih_seg (i1 := 44) 1 rfl ?_
      refine ih_iald rfl (by first | rfl | exact ih_lP1 (ih_P_w0 hc) | exact ih_lP2 (ih_P_w0 hc) | exact ih_lP3 (ih_P_w0 hc) | exact ih_lP4 (ih_P_w0 hc) |  exact ih_lP1 (by assumption) | exact ih_lP2 (by assumption) | exact ih_lP3 (by assumption) | exact ih_lP4 (by assumption) | exact ih_lC1 (by assumption) | exact ih_lS1 (by assumption) | exact ih_lW1 (by assumption) | exact ih_lW2 (by assumption) | exact ih_lW4 (by assumption) | exact ih_lW5 (by assumption)) (by omega) (by omega) (k := ?_)
      rw [ih_up_ne (show (89 : Nat) ≠ 90 by decide), ih_up_eq, ih_u1_eq]
      refine ih_seg (i1 := 46) 1 rfl ?_
      refine ih_getR rfl rfl ?_
      refine ih_seg (i1 := 48) 1 rfl ?_
      refine ih_iald rfl (by first | rfl | exact ih_lP1 (ih_P_w0 hc) | exact ih_lP2 (ih_P_w0 hc) | exact ih_lP3 (ih_P_w0 hc) | exact ih_lP4 (ih_P_w0 hc) |  exact ih_lP1 (by assumption) | exact ih_lP2 (by assumption) | exact ih_lP3 (by assumption) | exact ih_lP4 (by assumption) | exact ih_lC1 (by assumption) | exact ih_lS1 (by assumption) | exact ih_lW1 (by assumption) | exact ih_lW2 (by assumption) | exact ih_lW4 (by assumption) | exact ih_lW5 (by assumption)) (by omega) (by omega) (k := ?_)
      rw [ih_up_eq, ih_u1_eq]
      refine ih_seg (i1 := 4) 5 rfl ?_
      try simp only [xa_set, List.set_cons_zero, List.set_cons_succ, List.getElem?_cons_zero, List.getElem?_cons_succ]
      rw [ih_xor_n (by omega) (by omega), ih_or_n (by omega) (by have : ih_lw v (t (7 + 5 * c) 4).toNat (fun k => t (92 + 3 * c) k) L[k] ^^^ ih_lw v (t (7 + 5 * c) 4).toNat ce L[k] < 2 ^ 12 := Nat.xor_lt_two_pow (n := 12) la lb; omega)]
      refine ih (k + 1) _ _ (by omega) (fun j j1 j2 => by rw [ih_up_ne j2, ih_up_ne j1]; exact hf j j1 j2) (Nat.or_lt_two_pow (n := 12) hu (Nat.xor_lt_two_pow (n := 12) la lb)) (fun b => ?_) (fun i hi h1 => ?_)
      · rw [Nat.testBit_or, Nat.testBit_xor, Bool.or_eq_true, hub b]
        constructor
        · rintro (⟨i, hi, h1, h2⟩ | h2)
          · exact ⟨i, hi, by omega, h2⟩
          · refine ⟨k, hk, by omega, fun h3 => ?_⟩
            rw [h3] at h2
            simp at h2
        · rintro ⟨i, hi, h1, h2⟩
          by_cases e : i = k
          · subst e
            right
            revert h2
            cases (ih_lw v (t (7 + 5 * c) 4).toNat (fun k => t (92 + 3 * c) k) L[i]).testBit b <;> cases (ih_lw v (t (7 + 5 * c) 4).toNat ce L[i]).testBit b <;> simp
          · exact Or.inl ⟨i, hi, by omega, h2⟩
      · by_cases e : i = k
        · subst e
          rw [ih_up_ne (show (89 : Nat) ≠ 90 by decide), ih_up_eq, ih_u1_eq, ih_up_eq, ih_u1_eq]
          exact ⟨rfl, rfl⟩
        · rw [ih_up_ne (show (89 : Nat) ≠ 90 by decide), ih_up_eq, ih_u1_ne (by omega), ih_up_eq, ih_u1_ne (by omega), ih_up_ne (show (90 : Nat) ≠ 89 by decide)]
          exact hab i hi (by omega)


theorem c_laySets {X : List Int} {t : ih_S} {Q : Option xa_V → ih_S → Prop} {c v : Nat} {L : List Int} {ce : Nat → Int} (hc : c < 4) (G : ih_PG t c) (E : ih_EG t c) (hv : v < 4096) (hL : ∀ x ∈ L, xa_rI x) (hn : L.length ≤ 24) (hs : t 86 4 = L.length) (hg : ih_Lr (t 88) L) (hce : ∀ k : Nat, k < (t (7 + 5 * c) 4).toNat → v.testBit k = true → xa_rI (t 87 k) ∧ t 87 k = ce k) (K : ∀ (u : Nat) (t1 : ih_S), (∀ j, j ≠ 89 → j ≠ 90 → t1 j = t j) → u < 4096 → (∀ b : Nat, u.testBit b = true ↔ ∃ (i : Nat) (h : i < L.length), (ih_lw v (t (7 + 5 * c) 4).toNat (fun k => t (92 + 3 * c) k) L[i]).testBit b ≠ (ih_lw v (t (7 + 5 * c) 4).toNat ce L[i]).testBit b) → (∀ (i : Nat) (h : i < L.length), t1 89 i = (ih_lw v (t (7 + 5 * c) 4).toNat (fun k => t (92 + 3 * c) k) L[i]) ∧ t1 90 i = (ih_lw v (t (7 + 5 * c) 4).toNat ce L[i])) → Q (some (xI u)) t1)  : ih_Wp X 4 0 [xR 86, xR (91 + 3 * c), xI v, xC 1, xC 1] [] t Q := by
  refine ih_seg (i1 := 4) 4 rfl ?_
  try simp only [xa_set, List.set_cons_zero, List.set_cons_succ, List.getElem?_cons_zero, List.getElem?_cons_succ]
  exact c_laySets_l hc G E hv hL hn hs hg hce K L.length 0 0 t (by omega) (fun _ _ _ => rfl) (by decide) (fun b => ⟨fun h => by rw [Nat.zero_testBit] at h; exact absurd h (by decide), fun ⟨i, hi, h1, h2⟩ => absurd h1 (Nat.not_lt_zero i)⟩) (fun i hi h1 => absurd h1 (Nat.not_lt_zero i))


/-- whether a choice of copies keeps the meaning at all steps -/
def ih_okC (L : List Int) (A B : Int → Nat) (M : (Nat → Bool) → Int) (m : Int) (w : Nat) : Bool := L.all (fun x => decide (M (ih_mix (A x) (B x) w).testBit = m))
theorem ih_okC_t {L : List Int} {A B : Int → Nat} {M : (Nat → Bool) → Int} {m : Int} {w : Nat} : ih_okC L A B M m w = true ↔ ∀ x ∈ L, M (ih_mix (A x) (B x) w).testBit = m := by
  unfold ih_okC
  rw [List.all_eq_true]
  constructor
  · intro h x hx
    exact of_decide_eq_true (h x hx)
  · intro h x hx
    exact decide_eq_true (h x hx)

theorem c_keepsWith_l {X : List Int} {t : ih_S} {Q : Option xa_V → ih_S → Prop} {c w : Nat} {L : List Int} {A B : Int → Nat} {m : Int} (hc : c < 4) (G : ih_PG t c) (hw : w < 4096) (hm : -1 ≤ m ∧ m < 65536) (hA : ∀ x ∈ L, A x < 4096 ∧ B x < 4096) (hn : L.length ≤ 24) (hs : t 86 4 = L.length) (hab : ∀ (i : Nat) (h : i < L.length), t 89 i = A L[i] ∧ t 90 i = B L[i]) (kt : ih_okC L A B (ih_mo t c) m w = true → ∀ t1, ih_fr c t t1 → Q (some (xI 1)) t1) (kf : ih_okC L A B (ih_mo t c) m w = false → ∀ t1, ih_fr c t t1 → Q (some (xI 0)) t1)  : ∀ (d : Nat) (k : Nat) (x : xa_V) (t1 : ih_S) (hd : (k : Int) + d = L.length) (hf : ih_fr c t t1) (h0 : ∀ (i : Nat) (h : i < L.length), i < k → ih_mo t c (ih_mix (A L[i]) (B L[i]) w).testBit = m), ih_Wp X 6 2 [xR 86, xR (91 + 3 * c), xI w, xI m, xI k, x] [] t1 Q := by
  intro d
  induction d with
  | zero =>
    intro k x t1 hd hf h0
    have es : t1 86 = t 86 := hf _ (by omega)
    rw [← hs, ← es] at hd
    have hs2 : t1 86 4 = L.length := by rw [es]; exact hs
    refine ih_seg (i1 := 4) 2 rfl ?_
    refine ih_getI rfl rfl ?_
    refine ih_icmp_ge rfl (by omega) (by omega) (fun w1 => ?_) (fun w1 => ?_)
    · refine ih_seg (i1 := 32) 1 rfl ?_
      refine ih_ret rfl rfl ?_
      have ek : k = L.length := by omega
      refine kt (ih_okC_t.2 (fun x hx => ?_)) t1 hf
      obtain ⟨i, hi, e⟩ := List.mem_iff_getElem.mp hx
      rw [← e]
      exact h0 i hi (by omega)
    · exfalso
      omega

  | succ d ih =>
    intro k x t1 hd hf h0
    have es : t1 86 = t 86 := hf _ (by omega)
    rw [← hs, ← es] at hd
    have hs2 : t1 86 4 = L.length := by rw [es]; exact hs
    have hk : k < L.length := by omega
    have hak := hab k hk
    have hA2 := hA _ (List.getElem_mem hk)
    have e89 : t1 89 k = A L[k] := by rw [hf 89 (by omega)]; exact hak.1
    have e90 : t1 90 k = B L[k] := by rw [hf 90 (by omega)]; exact hak.2
    have P1 := ih_PG_fr hc G hf
    have lm : ih_mix (A L[k]) (B L[k]) w < 4096 := ih_set_lt _ 12
    have mr := ih_val_rg (ih_ok_fd (fun k => t (8 + 5 * c) k) (fun k => t (9 + 5 * c) k) (ih_mix (A L[k]) (B L[k]) w).testBit (t (7 + 5 * c) 4).toNat)
    have emo : ih_mo t1 c = ih_mo t c := ih_mo_of hc (ih_fr_lo hc hf)
    refine ih_seg (i1 := 4) 2 rfl ?_
    refine ih_getI rfl rfl ?_
    refine ih_icmp_ge rfl (by omega) (by omega) (fun w1 => ?_) (fun w1 => ?_)
    · refine ih_seg (i1 := 32) 1 rfl ?_
      refine ih_ret rfl rfl ?_
      first
        | (exfalso
           omega)
        | (refine kf ?_ t2 (ih_fr_t hf h2)
           cases q : ih_okC L A B (ih_mo t c) m w with
           | false => rfl
           | true =>
             have := ih_okC_t.1 q _ (List.getElem_mem hk)
             omega)
    · refine ih_seg (i1 := 7) 1 rfl ?_
      refine ih_getR rfl rfl ?_
      refine ih_seg (i1 := 9) 1 rfl ?_
      refine ih_iald rfl (by first | rfl | exact ih_lP1 (ih_P_w0 hc) | exact ih_lP2 (ih_P_w0 hc) | exact ih_lP3 (ih_P_w0 hc) | exact ih_lP4 (ih_P_w0 hc) |  exact ih_lP1 (by assumption) | exact ih_lP2 (by assumption) | exact ih_lP3 (by assumption) | exact ih_lP4 (by assumption) | exact ih_lC1 (by assumption) | exact ih_lS1 (by assumption) | exact ih_lW1 (by assumption) | exact ih_lW2 (by assumption) | exact ih_lW4 (by assumption) | exact ih_lW5 (by assumption)) (by omega) (by omega) (k := ?_)
      rw [e89]
      refine ih_seg (i1 := 15) 5 rfl ?_
      try dsimp only
      refine ih_getR rfl rfl ?_
      refine ih_seg (i1 := 17) 1 rfl ?_
      refine ih_iald rfl (by first | rfl | exact ih_lP1 (ih_P_w0 hc) | exact ih_lP2 (ih_P_w0 hc) | exact ih_lP3 (ih_P_w0 hc) | exact ih_lP4 (ih_P_w0 hc) |  exact ih_lP1 (by assumption) | exact ih_lP2 (by assumption) | exact ih_lP3 (by assumption) | exact ih_lP4 (by assumption) | exact ih_lC1 (by assumption) | exact ih_lS1 (by assumption) | exact ih_lW1 (by assumption) | exact ih_lW2 (by assumption) | exact ih_lW4 (by assumption) | exact ih_lW5 (by assumption)) (by omega) (by omega) (k := ?_)
      rw [e90]
      refine ih_seg (i1 := 21) 3 rfl ?_
      try dsimp only
      rw [ih_mix_is hA2.1 hA2.2 hw]
      refine ih_seg (i1 := 24) 3 rfl ?_
      try simp only [xa_set, List.set_cons_zero, List.set_cons_succ, List.getElem?_cons_zero, List.getElem?_cons_succ]
      refine ih_iv1 11 rfl rfl (by first | rfl | exact ih_kP (ih_P_w0 hc) |  exact ih_kP (by assumption) | exact ih_kC (by assumption) | exact ih_kN (by assumption) | exact ih_kS (by assumption) | exact ih_kW (by assumption)) (Nat.le_of_ble_eq_true rfl) (Nat.le_of_ble_eq_true rfl) rfl ?_
      refine c_meaningOf hc P1 (by omega) (fun t2 h2 => ?_)
      rw [emo]
      have mr2 : -1 ≤ ih_mo t c (ih_mix (A L[k]) (B L[k]) w).testBit ∧ ih_mo t c (ih_mix (A L[k]) (B L[k]) w).testBit < 65536 := mr
      refine ih_seg (i1 := 26) 1 rfl ?_
      refine ih_icmp_eq rfl (by omega) (by omega) (fun w2 => ?_) (fun w2 => ?_)
      · refine ih_seg (i1 := 2) 2 rfl ?_
        try simp only [xa_set, List.set_cons_zero, List.set_cons_succ, List.getElem?_cons_zero, List.getElem?_cons_succ]
        refine ih (k + 1) _ t2 (by omega) (ih_fr_t hf h2) (fun i hi h1 => ?_)
        by_cases e : i = k
        · subst e
          omega
        · exact h0 i hi (by omega)
      · refine ih_seg (i1 := 28) 1 rfl ?_
        refine ih_ret rfl rfl ?_
        first
          | (exfalso
             omega)
          | (refine kf ?_ t2 (ih_fr_t hf h2)
             cases q : ih_okC L A B (ih_mo t c) m w with
             | false => rfl
             | true =>
               have := ih_okC_t.1 q _ (List.getElem_mem hk)
               omega)


theorem c_keepsWith {X : List Int} {t : ih_S} {Q : Option xa_V → ih_S → Prop} {c w : Nat} {L : List Int} {A B : Int → Nat} {m : Int} (hc : c < 4) (G : ih_PG t c) (hw : w < 4096) (hm : -1 ≤ m ∧ m < 65536) (hA : ∀ x ∈ L, A x < 4096 ∧ B x < 4096) (hn : L.length ≤ 24) (hs : t 86 4 = L.length) (hab : ∀ (i : Nat) (h : i < L.length), t 89 i = A L[i] ∧ t 90 i = B L[i]) (kt : ih_okC L A B (ih_mo t c) m w = true → ∀ t1, ih_fr c t t1 → Q (some (xI 1)) t1) (kf : ih_okC L A B (ih_mo t c) m w = false → ∀ t1, ih_fr c t t1 → Q (some (xI 0)) t1)  : ih_Wp X 6 0 [xR 86, xR (91 + 3 * c), xI w, xI m, xC 1, xC 1] [] t Q := by
  refine ih_seg (i1 := 2) 2 rfl ?_
  try simp only [xa_set, List.set_cons_zero, List.set_cons_succ, List.getElem?_cons_zero, List.getElem?_cons_succ]
  exact c_keepsWith_l hc G hw hm hA hn hs hab kt kf L.length 0 _ t (by omega) (ih_fr_r _ _) (fun i hi h1 => absurd h1 (Nat.not_lt_zero i))


def ih_frs (ok : Nat → Bool) (S w : Nat) (b : Int) : Int := if ih_dif w S = 0 ∧ (b < 0 ∨ ih_ones w < ih_ones b.toNat) ∧ ok w = true then (w : Int) else b
def ih_frr (ok : Nat → Bool) (S : Nat) : Nat → Nat → Int → Int
  | 0, _, b => b
  | k + 1, w, b => ih_frr ok S k (w + 1) (ih_frs ok S w b)
/-- the least of the fewest -/
def ih_bst (ok : Nat → Bool) (S N : Nat) (r : Int) : Prop := (r = -1 ∧ ∀ w : Nat, w < N → ih_dif w S = 0 → ok w = false) ∨ ∃ x : Nat, r = x ∧ x < N ∧ ih_dif x S = 0 ∧ ok x = true ∧ ∀ w : Nat, w < N → ih_dif w S = 0 → ok w = true → ih_ones x < ih_ones w ∨ (ih_ones x = ih_ones w ∧ x ≤ w)
theorem ih_bst_s {ok : Nat → Bool} {S w : Nat} {b : Int} (h : ih_bst ok S w b) : ih_bst ok S (w + 1) (ih_frs ok S w b) := by
  unfold ih_frs
  split
  · next q =>
    refine Or.inr ⟨w, rfl, by omega, q.1, q.2.2, fun y h1 h2 h3 => ?_⟩
    by_cases e : y = w
    · subst e
      exact Or.inr ⟨rfl, Nat.le_refl _⟩
    · rcases h with ⟨rfl, h0⟩ | ⟨x, rfl, x1, x2, x3, x4⟩
      · rw [h0 y (by omega) h2] at h3
        exact absurd h3 (by decide)
      · have q2 : ih_ones w < ih_ones x := by
          rcases q.2.1 with q2 | q2
          · omega
          · exact q2
        rcases x4 y (by omega) h2 h3 with h4 | h4 <;> omega
  · next q =>
    rcases h with ⟨rfl, h0⟩ | ⟨x, rfl, x1, x2, x3, x4⟩
    · refine Or.inl ⟨rfl, fun y h1 h2 => ?_⟩
      by_cases e : y = w
      · subst e
        cases k : ok y with
        | false => rfl
        | true => exact absurd ⟨h2, Or.inl (by decide), k⟩ q
      · exact h0 y (by omega) h2
    · refine Or.inr ⟨x, rfl, by omega, x2, x3, fun y h1 h2 h3 => ?_⟩
      by_cases e : y = w
      · subst e
        by_cases k : ih_ones y < ih_ones x
        · exact absurd ⟨h2, Or.inr k, h3⟩ q
        · omega
      · exact x4 y (by omega) h2 h3
theorem ih_bst_r {ok : Nat → Bool} {S : Nat} : ∀ (k w : Nat) (b : Int), ih_bst ok S w b → ih_bst ok S (w + k) (ih_frr ok S k w b)
  | 0, w, b, h => h
  | k + 1, w, b, h => by
    have := ih_bst_r k (w + 1) _ (ih_bst_s h)
    rw [show w + 1 + k = w + (k + 1) by omega] at this
    exact this
theorem ih_bst_0 {ok : Nat → Bool} {S N : Nat} : ih_bst ok S N (ih_frr ok S N 0 (-1)) := by
  have := ih_bst_r (ok := ok) (S := S) N 0 (-1) (Or.inl ⟨rfl, fun w h => absurd h (Nat.not_lt_zero w)⟩)
  rwa [Nat.zero_add] at this
theorem ih_pc_and : ∀ (n a b : Nat), ih_pc n (a &&& b) ≤ ih_pc n a
  | 0, a, b => Nat.le_refl _
  | n + 1, a, b => by
    show (a &&& b) % 2 + ih_pc n ((a &&& b) / 2) ≤ a % 2 + ih_pc n (a / 2)
    have e : (a &&& b) / 2 = a / 2 &&& b / 2 := by
      apply Nat.eq_of_testBit_eq
      intro i
      simp only [Nat.testBit_div_two, Nat.testBit_and]
    have h1 := ih_pc_and n (a / 2) (b / 2)
    have h2 : (a &&& b) % 2 ≤ a % 2 := by
      have := Nat.testBit_and a b 0
      rw [Nat.testBit_zero, Nat.testBit_zero, Nat.testBit_zero] at this
      by_cases q : a % 2 = 1
      · omega
      · rw [decide_eq_false q, Bool.false_and] at this
        have := of_decide_eq_false this
        omega
    rw [e]
    omega
theorem ih_bst_eq {okR okC : Nat → Bool} {S U N : Nat} {r1 r2 : Int} (hS : S < N) (hN : N ≤ 4096) (hU : ∀ k, U.testBit k = true → S.testBit k = true) (h1 : ∀ w, w < 4096 → ih_dif w S = 0 → okR w = okC w) (h2 : ∀ w, w < 4096 → okC w = okC (w &&& U)) (b1 : ih_bst okR S N r1) (b2 : ih_bst okC U (U + 1) r2) : r1 = r2 := by
  have sub : ∀ {a b : Nat}, a < 4096 → (ih_dif a b = 0 ↔ ∀ k, a.testBit k = true → b.testBit k = true) := fun {a b} ha => by
    have := ih_dif_0 (a := a) (b := b) ha
    rw [← this]
    omega
  have le : ∀ {a b : Nat}, (∀ k, a.testBit k = true → b.testBit k = true) → a ≤ b := fun {a b} h => by
    have e : a &&& b = a := by
      apply Nat.eq_of_testBit_eq
      intro i
      rw [Nat.testBit_and]
      cases q : a.testBit i with
      | false => rfl
      | true => rw [h i q]; rfl
    rw [← e]
    exact Nat.and_le_right
  have US : U ≤ S := le hU
  have up : ∀ z : Nat, z < U + 1 → ih_dif z U = 0 → z < N ∧ ih_dif z S = 0 := fun z z1 z2 => by
    have h3 := (sub (by omega)).1 z2
    exact ⟨by omega, (sub (by omega)).2 (fun k hk => hU k (h3 k hk))⟩
  rcases b1 with ⟨rfl, h0⟩ | ⟨x, rfl, x1, x2, x3, x4⟩
  · rcases b2 with ⟨rfl, -⟩ | ⟨z, rfl, z1, z2, z3, -⟩
    · rfl
    · have hz := up z z1 z2
      have := h0 z hz.1 hz.2
      rw [h1 z (by omega) hz.2, z3] at this
      exact absurd this (by decide)
  · have y1 : x &&& U ≤ x := Nat.and_le_left
    have y2 : x &&& U ≤ U := Nat.and_le_right
    have y3 : ih_dif (x &&& U) U = 0 := (sub (by omega)).2 (fun k hk => by
      rw [Nat.testBit_and] at hk
      exact (Bool.and_eq_true _ _ ▸ hk).2)
    have y4 : okC (x &&& U) = true := by rw [← h2 x (by omega), ← h1 x (by omega) x2]; exact x3
    have y5 : ih_ones (x &&& U) ≤ ih_ones x := ih_pc_and 12 x U
    rcases b2 with ⟨rfl, h0⟩ | ⟨z, rfl, z1, z2, z3, z4⟩
    · rw [h0 (x &&& U) (by omega) y3] at y4
      exact absurd y4 (by decide)
    · have hz := up z z1 z2
      have m1 := x4 z hz.1 hz.2 (by rw [h1 z (by omega) hz.2]; exact z3)
      have m2 := z4 (x &&& U) (by omega) y3 y4
      have : x = z := by omega
      rw [this]
