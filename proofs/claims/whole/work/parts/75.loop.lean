/-! the law: one call, whichever; the loop -/

set_option maxRecDepth 40000 in
theorem law_step {X : List Int} {t : ih_S} {i v : Int} {Q : Option xa_V → ih_S → Prop} (I : ih_I t) (hx : ∀ j, xa_rI (ih_xs X j)) (h0 : 0 ≤ i) (h1 : i + 6 ≤ (X.length : Int)) (h2 : X.length ≤ 3072) (K : ∀ t2, ih_I t2 → ih_Wp X 219 1281 [xC 2, xR 0, xR 111, xI i] [] t2 Q) (hv : xa_rI v) : ih_Wp X 219 21 [xC 2, xR 0, xR 111, xI i] [xI v] t Q := by
  by_cases q0 : v = 0
  · rw [q0]
    refine ih_sw rfl (by decide) (by decide) (by decide) rfl ?_
    exact law_hours I hx h0 h1 h2 K
  by_cases q1 : v = 1
  · rw [q1]
    refine ih_sw rfl (by decide) (by decide) (by decide) rfl ?_
    exact law_ink I hx h0 h1 h2 K
  by_cases q2 : v = 2
  · rw [q2]
    refine ih_sw rfl (by decide) (by decide) (by decide) rfl ?_
    exact law_light I hx h0 h1 h2 K
  by_cases q3 : v = 3
  · rw [q3]
    refine ih_sw rfl (by decide) (by decide) (by decide) rfl ?_
    exact law_write I hx h0 h1 h2 K
  by_cases q4 : v = 4
  · rw [q4]
    refine ih_sw rfl (by decide) (by decide) (by decide) rfl ?_
    exact law_markOf I hx h0 h1 h2 K
  by_cases q5 : v = 5
  · rw [q5]
    refine ih_sw rfl (by decide) (by decide) (by decide) rfl ?_
    exact law_turn I hx h0 h1 h2 K
  by_cases q6 : v = 6
  · rw [q6]
    refine ih_sw rfl (by decide) (by decide) (by decide) rfl ?_
    exact law_scratch I hx h0 h1 h2 K
  by_cases q7 : v = 7
  · rw [q7]
    refine ih_sw rfl (by decide) (by decide) (by decide) rfl ?_
    exact law_copied I hx h0 h1 h2 K
  by_cases q8 : v = 8
  · rw [q8]
    refine ih_sw rfl (by decide) (by decide) (by decide) rfl ?_
    exact law_seen I hx h0 h1 h2 K
  by_cases q9 : v = 9
  · rw [q9]
    refine ih_sw rfl (by decide) (by decide) (by decide) rfl ?_
    exact law_age I hx h0 h1 h2 K
  by_cases q10 : v = 10
  · rw [q10]
    refine ih_sw rfl (by decide) (by decide) (by decide) rfl ?_
    exact law_gone I hx h0 h1 h2 K
  by_cases q11 : v = 11
  · rw [q11]
    refine ih_sw rfl (by decide) (by decide) (by decide) rfl ?_
    exact law_means I hx h0 h1 h2 K
  by_cases q12 : v = 12
  · rw [q12]
    refine ih_sw rfl (by decide) (by decide) (by decide) rfl ?_
    exact law_says I hx h0 h1 h2 K
  by_cases q13 : v = 13
  · rw [q13]
    refine ih_sw rfl (by decide) (by decide) (by decide) rfl ?_
    exact law_until I hx h0 h1 h2 K
  by_cases q14 : v = 14
  · rw [q14]
    refine ih_sw rfl (by decide) (by decide) (by decide) rfl ?_
    exact law_changes I hx h0 h1 h2 K
  by_cases q15 : v = 15
  · rw [q15]
    refine ih_sw rfl (by decide) (by decide) (by decide) rfl ?_
    exact law_shows I hx h0 h1 h2 K
  by_cases q16 : v = 16
  · rw [q16]
    refine ih_sw rfl (by decide) (by decide) (by decide) rfl ?_
    exact law_often I hx h0 h1 h2 K
  by_cases q17 : v = 17
  · rw [q17]
    refine ih_sw rfl (by decide) (by decide) (by decide) rfl ?_
    exact law_same I hx h0 h1 h2 K
  by_cases q18 : v = 18
  · rw [q18]
    refine ih_sw rfl (by decide) (by decide) (by decide) rfl ?_
    exact law_stays I hx h0 h1 h2 K
  by_cases q19 : v = 19
  · rw [q19]
    refine ih_sw rfl (by decide) (by decide) (by decide) rfl ?_
    exact law_cheapest I hx h0 h1 h2 K
  by_cases q20 : v = 20
  · rw [q20]
    refine ih_sw rfl (by decide) (by decide) (by decide) rfl ?_
    exact law_fewest I hx h0 h1 h2 K
  by_cases q21 : v = 21
  · rw [q21]
    refine ih_sw rfl (by decide) (by decide) (by decide) rfl ?_
    exact law_lasting I hx h0 h1 h2 K
  by_cases q22 : v = 22
  · rw [q22]
    refine ih_sw rfl (by decide) (by decide) (by decide) rfl ?_
    exact law_forged I hx h0 h1 h2 K
  by_cases q23 : v = 23
  · rw [q23]
    refine ih_sw rfl (by decide) (by decide) (by decide) rfl ?_
    exact law_forge I hx h0 h1 h2 K
  by_cases q24 : v = 24
  · rw [q24]
    refine ih_sw rfl (by decide) (by decide) (by decide) rfl ?_
    exact law_earliest I hx h0 h1 h2 K
  by_cases q25 : v = 25
  · rw [q25]
    refine ih_sw rfl (by decide) (by decide) (by decide) rfl ?_
    exact law_latest I hx h0 h1 h2 K
  by_cases q26 : v = 26
  · rw [q26]
    refine ih_sw rfl (by decide) (by decide) (by decide) rfl ?_
    exact law_clerk I hx h0 h1 h2 K
  by_cases q27 : v = 27
  · rw [q27]
    refine ih_sw rfl (by decide) (by decide) (by decide) rfl ?_
    exact law_seed I hx h0 h1 h2 K
  by_cases q28 : v = 28
  · rw [q28]
    refine ih_sw rfl (by decide) (by decide) (by decide) rfl ?_
    exact law_feed I hx h0 h1 h2 K
  by_cases q29 : v = 29
  · rw [q29]
    refine ih_sw rfl (by decide) (by decide) (by decide) rfl ?_
    exact law_wipe I hx h0 h1 h2 K
  by_cases q30 : v = 30
  · rw [q30]
    refine ih_sw rfl (by decide) (by decide) (by decide) rfl ?_
    exact law_text I hx h0 h1 h2 K
  by_cases q31 : v = 31
  · rw [q31]
    refine ih_sw rfl (by decide) (by decide) (by decide) rfl ?_
    exact law_hold I hx h0 h1 h2 K
  by_cases q32 : v = 32
  · rw [q32]
    refine ih_sw rfl (by decide) (by decide) (by decide) rfl ?_
    exact law_as I hx h0 h1 h2 K
  by_cases q33 : v = 33
  · rw [q33]
    refine ih_sw rfl (by decide) (by decide) (by decide) rfl ?_
    exact law_sheet I hx h0 h1 h2 K
  by_cases q34 : v = 34
  · rw [q34]
    refine ih_sw rfl (by decide) (by decide) (by decide) rfl ?_
    exact law_put I hx h0 h1 h2 K
  by_cases q35 : v = 35
  · rw [q35]
    refine ih_sw rfl (by decide) (by decide) (by decide) rfl ?_
    exact law_copy I hx h0 h1 h2 K
  by_cases q36 : v = 36
  · rw [q36]
    refine ih_sw rfl (by decide) (by decide) (by decide) rfl ?_
    exact law_load I hx h0 h1 h2 K
  by_cases q37 : v = 37
  · rw [q37]
    refine ih_sw rfl (by decide) (by decide) (by decide) rfl ?_
    exact law_judge I hx h0 h1 h2 K
  by_cases q38 : v = 38
  · rw [q38]
    refine ih_sw rfl (by decide) (by decide) (by decide) rfl ?_
    exact law_image I hx h0 h1 h2 K
  by_cases q39 : v = 39
  · rw [q39]
    refine ih_sw rfl (by decide) (by decide) (by decide) rfl ?_
    exact law_undo I hx h0 h1 h2 K
  by_cases q40 : v = 40
  · rw [q40]
    refine ih_sw rfl (by decide) (by decide) (by decide) rfl ?_
    exact law_tear I hx h0 h1 h2 K
  by_cases q41 : v = 41
  · rw [q41]
    refine ih_sw rfl (by decide) (by decide) (by decide) rfl ?_
    exact law_count I hx h0 h1 h2 K
  by_cases q42 : v = 42
  · rw [q42]
    refine ih_sw rfl (by decide) (by decide) (by decide) rfl ?_
    exact law_status I hx h0 h1 h2 K
  exact ih_swd rfl hv (by omega) (K t I)

set_option maxRecDepth 40000 in
theorem law_loop {X : List Int} (hx : ∀ j, xa_rI (ih_xs X j)) (h2 : X.length ≤ 3072) : ∀ (n : Nat) (i : Int) (t : ih_S), (X.length : Int) - i < 6 * n + 6 → 0 ≤ i → i ≤ (X.length : Int) + 6 → ih_I t → ih_Wp X 219 10 [xC 2, xR 0, xR 111, xI i] [] t (fun rv _ => rv = some (xI 1)) := by
  intro n
  induction n with
  | zero =>
    intro i t hn h0 h1 I
    refine ih_seg (i1 := 12) 2 rfl ?_
    refine ih_clen rfl rfl ?_
    refine ih_seg (i1 := 15) 2 rfl ?_
    try dsimp only
    refine ih_icmp_gt rfl (by omega) (by omega) (fun w => ?_) (fun w => ?_)
    · refine ih_seg (i1 := 1284) 1 rfl ?_
      refine ih_ret rfl rfl ?_
      rfl
    · exfalso
      omega
  | succ n ih =>
    intro i t hn h0 h1 I
    refine ih_seg (i1 := 12) 2 rfl ?_
    refine ih_clen rfl rfl ?_
    refine ih_seg (i1 := 15) 2 rfl ?_
    try dsimp only
    refine ih_icmp_gt rfl (by omega) (by omega) (fun w => ?_) (fun w => ?_)
    · refine ih_seg (i1 := 1284) 1 rfl ?_
      refine ih_ret rfl rfl ?_
      rfl
    · refine ih_seg (i1 := 18) 2 rfl ?_
      refine ih_cald rfl rfl (by omega) (by omega) (by omega) (ih_xg (by omega) (by omega)) ?_
      refine ih_seg (i1 := 21) 2 rfl ?_
      try dsimp only
      refine law_step I hx (by omega) (by omega) h2 (fun t2 I2 => ?_) (xa_rng _)
      refine ih_seg (i1 := 10) 2 rfl ?_
      try simp only [xa_set, List.set_cons_zero, List.set_cons_succ, List.getElem?_cons_zero, List.getElem?_cons_succ]
      exact ih (i + 6) t2 (by omega) (by omega) (by omega) I2
