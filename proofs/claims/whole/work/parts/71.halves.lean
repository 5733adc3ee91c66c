/-! the law: what holds between two calls, piece by piece; a call that changes something, both halves -/
def ih_Iw (t : ih_S) : Prop := ih_Wr t 1 (t 112) ∧ ih_Gd (t 112)
def ih_Ik (t : ih_S) : Prop := (t 0 10 = 0 ∧ t 111 4 = 0) ∨ ((t 0 10 = 1 ∧ t 111 4 = 1) ∧ ih_Wr t 27 (t 113) ∧ ih_Gd (t 113))
def ih_If (t : ih_S) : Prop := ∀ j : Int, 0 ≤ j → j < 7 → t 84 j = t 115 j
def ih_It (t : ih_S) : Prop := t 80 2 = t 111 12 ∧ (0 ≤ t 80 2 ∧ t 80 2 ≤ 120) ∧ ∀ k : Int, 0 ≤ k → k < t 80 2 → t 81 k = t 117 k ∧ 0 ≤ t 81 k ∧ t 81 k < 256
def ih_Is (t : ih_S) : Prop := ih_SW t (t 118) (t 119) (t 120) ∧ ih_SG (t 118) (t 119) (t 120)
theorem ih_I_of {t : ih_S} (a : ih_Iw t) (b : ih_Ik t) (c : ih_If t) (d : ih_It t) (e : ih_Is t) : ih_I t := ⟨a, b, c, d, e.1, e.2⟩
theorem ih_I.w {t : ih_S} (I : ih_I t) : ih_Iw t := I.1
theorem ih_I.k {t : ih_S} (I : ih_I t) : ih_Ik t := I.2.1
theorem ih_I.f {t : ih_S} (I : ih_I t) : ih_If t := I.2.2.1
theorem ih_I.t {t : ih_S} (I : ih_I t) : ih_It t := I.2.2.2.1
theorem ih_I.s {t : ih_S} (I : ih_I t) : ih_Is t := ⟨I.2.2.2.2.1, I.2.2.2.2.2⟩
theorem ih_Iw_eq {t t2 : ih_S} (I : ih_Iw t) (h0 : ∀ j, (1 ≤ j ∧ j < 27) ∨ j = 112 → t2 j = t j) : ih_Iw t2 := by
  unfold ih_Iw
  rw [h0 112 (by omega)]
  exact ⟨ih_Wr_of I.1 (fun j a b => h0 j (by omega)), I.2⟩
theorem ih_Ik_eq {t t2 : ih_S} (I : ih_Ik t) (h0 : ∀ j, j = 0 ∨ (27 ≤ j ∧ j < 53) ∨ j = 113 → t2 j = t j) (h1 : t2 111 4 = t 111 4) : ih_Ik t2 := by
  unfold ih_Ik
  rw [h0 0 (by omega), h1, h0 113 (by omega)]
  rcases I with k | ⟨k, W2, G2⟩
  · exact Or.inl k
  · exact Or.inr ⟨k, ih_Wr_of W2 (fun j a b => h0 j (by omega)), G2⟩
theorem ih_If_eq {t t2 : ih_S} (I : ih_If t) (h0 : t2 84 = t 84) (h1 : t2 115 = t 115) : ih_If t2 := by
  unfold ih_If
  rw [h0, h1]
  exact I
theorem ih_It_eq {t t2 : ih_S} (I : ih_It t) (h0 : ∀ j, j = 80 ∨ j = 81 ∨ j = 117 → t2 j = t j) (h1 : t2 111 12 = t 111 12) : ih_It t2 := by
  unfold ih_It
  rw [h0 80 (by omega), h0 81 (by omega), h0 117 (by omega), h1]
  exact I
theorem ih_Is_eq {t t2 : ih_S} (I : ih_Is t) (h0 : ∀ j, (103 ≤ j ∧ j ≤ 110) ∨ (118 ≤ j ∧ j ≤ 120) → t2 j = t j) : ih_Is t2 := by
  unfold ih_Is
  rw [h0 118 (by omega), h0 119 (by omega), h0 120 (by omega)]
  exact ⟨ih_SW_of I.1 (fun j a b => h0 j (by omega)), I.2⟩
/-- a row that is the same where it is read -/
theorem ih_Gd_cg {s s2 : Int → Int} (G : ih_Gd s) (e : ∀ x : Int, 0 ≤ x → x < 228 → s2 x = s x) : ih_Gd s2 := by
  refine ⟨?_, fun j h0 h1 => ?_, fun p hp => ?_, fun p k hp hk => ?_, fun i h0 h1 => ?_⟩
  · rw [e 0 (by omega) (by omega)]
    exact G.now
  · rw [e (10 + j) (by omega) (by omega)]
    exact G.pri j h0 h1
  · have P := G.pap p hp
    have z := P.sz
    have ez := e (22 + p) (by omega) (by omega)
    refine ⟨?_, ?_, fun k hk => ?_, fun k hk => ?_, fun k hk => ?_, fun k hk => ?_, fun j h0 h1 => ?_⟩
    · rw [ez]
      exact z
    · rw [e (18 + p) (by omega) (by omega)]
      exact P.lit
    · rw [ez] at hk
      rw [e (26 + 48 * p + 4 * k) (by omega) (by omega)]
      exact P.kd k hk
    · rw [ez] at hk
      rw [e (26 + 48 * p + 4 * k + 1) (by omega) (by omega)]
      exact P.lt k hk
    · rw [ez] at hk
      rw [e (26 + 48 * p + 4 * k + 2) (by omega) (by omega)]
      exact P.ink k hk
    · rw [ez] at hk
      rw [e (26 + 48 * p + 4 * k + 3) (by omega) (by omega)]
      exact P.at_ k hk
    · rw [e (2 + j) (by omega) (by omega)]
      exact P.las j h0 h1
  · have z := (G.pap p hp).sz
    rw [e (22 + p) (by omega) (by omega)] at hk
    rw [e (26 + 48 * p + 4 * k + 3) (by omega) (by omega), e 0 (by omega) (by omega)]
    exact G.ats p k hp hk
  · rw [e (218 + i) (by omega) (by omega)]
    rcases G.spot i h0 h1 with q | ⟨p, m, hp, hm, q⟩
    · exact Or.inl q
    · exact Or.inr ⟨p, m, hp, by rw [e (22 + p) (by omega) (by omega)]; exact hm, q⟩
theorem ih_Wr_cg {t : ih_S} {B : Nat} {s s2 : Int → Int} (G : ih_Gd s) (W : ih_Wr t B s) (e : ∀ x : Int, 0 ≤ x → x < 228 → s2 x = s x) : ih_Wr t B s2 := by
  refine ⟨?_, ?_, fun j h0 h1 => ?_, fun j h0 h1 => ?_, fun p hp => ?_, fun p hp => ?_, fun p k hp hk => ?_, fun p k hp hk => ?_, fun p k hp hk => ?_, fun p k hp hk => ?_, fun i h0 h1 => ?_⟩
  · rw [e 0 (by omega) (by omega)]
    exact W.now
  · rw [e 1 (by omega) (by omega)]
    exact W.z
  · rw [e (2 + j) (by omega) (by omega)]
    exact W.las j h0 h1
  · rw [e (10 + j) (by omega) (by omega)]
    exact W.pri j h0 h1
  · rw [e (18 + p) (by omega) (by omega)]
    exact W.lit p hp
  · rw [e (22 + p) (by omega) (by omega)]
    exact W.sz p hp
  · have z := (G.pap p hp).sz
    rw [e (22 + p) (by omega) (by omega)] at hk
    rw [e (26 + 48 * p + 4 * k) (by omega) (by omega)]
    exact W.kd p k hp hk
  · have z := (G.pap p hp).sz
    rw [e (22 + p) (by omega) (by omega)] at hk
    rw [e (26 + 48 * p + 4 * k + 1) (by omega) (by omega)]
    exact W.lt p k hp hk
  · have z := (G.pap p hp).sz
    rw [e (22 + p) (by omega) (by omega)] at hk
    rw [e (26 + 48 * p + 4 * k + 2) (by omega) (by omega)]
    exact W.ink p k hp hk
  · have z := (G.pap p hp).sz
    rw [e (22 + p) (by omega) (by omega)] at hk
    rw [e (26 + 48 * p + 4 * k + 3) (by omega) (by omega)]
    exact W.at_ p k hp hk
  · rw [e (218 + i) (by omega) (by omega)]
    exact W.spot i h0 h1
/-- a call that changes the world: the class's half has been done; the reference's -/
def ih_qC (t t1 : ih_S) (r : ih_An) (s' : Int → Int) (v : Int) : Prop := match r with
  | .inl w => v = w ∧ ih_Wr t1 1 s' ∧ ih_cf t t1
  | .inr j => v = -1000001 - j ∧ ih_sc (ih_up t 84 j (t 84 j + 1)) t1
def ih_qR (t t1 : ih_S) (r : ih_An) (s' : Int → Int) (v : Int) : Prop := match r with
  | .inl w => v = w ∧ t1 112 = s' ∧ ih_rg t t1
  | .inr j => v = -1000001 - j ∧ ih_rr (ih_up t 115 j (t 115 j + 1)) t1
theorem ih_chC_i {t : ih_S} {r : ih_An} {s' : Int → Int} {Q : Option xa_V → ih_S → Prop} (h : ∀ v t1, ih_qC t t1 r s' v → Q (some (xI v)) t1) : ih_chC t r s' Q := by
  cases r with
  | inl w => exact fun t1 a b => h w t1 ⟨rfl, a, b⟩
  | inr j => exact fun t1 a => h _ t1 ⟨rfl, a⟩
theorem ih_chR_i {t : ih_S} {r : ih_An} {s' : Int → Int} {Q : Option xa_V → ih_S → Prop} (h : ∀ v t1, ih_qR t t1 r s' v → Q (some (xI v)) t1) : ih_chR t r s' Q := by
  cases r with
  | inl w => exact fun t1 a b => h w t1 ⟨rfl, a, b⟩
  | inr j => exact fun t1 a => h _ t1 ⟨rfl, a⟩
theorem ih_hC_ge {t t1 : ih_S} {r : ih_An} {v : Int} (a : ih_hC t t1 r v) (j : Nat) (hj : j < 84 ∨ 102 < j) : t1 j = t j := by
  cases r with
  | inl w => exact a.2 j (by omega)
  | inr i =>
    rw [a.2 j (by omega)]
    exact ih_up_ne (by omega)
theorem ih_qC_ge {t t1 : ih_S} {r : ih_An} {s' : Int → Int} {v : Int} (a : ih_qC t t1 r s' v) (j : Nat) (hj : 102 < j) : t1 j = t j := by
  cases r with
  | inl w => exact a.2.2 j (by omega)
  | inr i => exact ih_hC_ge (r := .inr i) a j (by omega)
theorem ih_ch2 {t t1 t2 : ih_S} {r : ih_An} {s' : Int → Int} {v1 v2 : Int} (I : ih_I t) (hG : ∀ w, r = ih_ok1 w → ih_Gd s') (a : ih_qC t t1 r s' v1) (b : ih_qR t1 t2 r s' v2) : v2 = v1 ∧ ih_I t2 := by
  cases r with
  | inl w =>
    obtain ⟨a1, a2, a3⟩ := a
    obtain ⟨b1, b2, b3⟩ := b
    refine ⟨b1.trans a1.symm, ih_I_of ⟨?_, ?_⟩ (ih_Ik_eq I.k (fun j h => ?_) ?_) (ih_If_eq I.f ?_ ?_) (ih_It_eq I.t (fun j h => ?_) ?_) (ih_Is_eq I.s (fun j h => ?_))⟩
    · rw [b2]
      exact ih_Wr_of a2 (fun j x y => b3.1 j (by omega))
    · rw [b2]
      exact hG w rfl
    · rw [b3.1 j (by omega), a3 j (by omega)]
    · rw [b3.2 4 (by omega), a3 111 (by omega)]
    · rw [b3.1 84 (by omega), a3 84 (by omega)]
    · rw [b3.1 115 (by omega), a3 115 (by omega)]
    · rw [b3.1 j (by omega), a3 j (by omega)]
    · rw [b3.2 12 (by omega), a3 111 (by omega)]
    · rw [b3.1 j (by omega), a3 j (by omega)]
  | inr j => exact ih_ro2 (r := .inr j) I a b

theorem ih_g_hours {s : Int → Int} {a : Int} (G : ih_Gd s) (w : Int) (h : f_hours s a = ih_ok1 w) : ih_Gd (ih_u1 s 0 (s 0 + a)) := by
  unfold f_hours at h
  split at h
  · next q =>
    split at h
    · cases h
    · next q2 =>
      have g := G.now
      exact ih_Gu_now (by omega) G
  · cases h

theorem ih_g_ink {s : Int → Int} {a b d : Int} (G : ih_Gd s) (w : Int) (h : f_ink s a b d = ih_ok1 w) : ih_Gd (g_ink s a b d) := by
  unfold f_ink at h
  split at h
  · next q =>
    unfold g_ink
    split
    · exact ih_Gu_las (by omega) (by omega) G
    · exact ih_Gu_pri (by omega) (by omega) G
  · cases h

theorem ih_g_light {s : Int → Int} {a v : Int} (hv : v = 0 ∨ v = 1) (G : ih_Gd s) (w : Int) (h : f_light s a = ih_ok1 w) : ih_Gd (ih_u1 s (18 + a) v) := by
  unfold f_light at h
  split at h
  · next q =>
    obtain ⟨c, rfl⟩ := Int.eq_ofNat_of_zero_le (show 0 ≤ a by omega)
    exact ih_Gu_lit (by omega) hv G
  · cases h

theorem ih_g_write {s : Int → Int} {a b d e : Int} (G : ih_Gd s) (w : Int) (h : f_write s a b d e = ih_ok1 w) : ih_Gd (ih_nm s a.toNat b d e) := by
  unfold f_write at h
  split at h
  · next q =>
    obtain ⟨c, rfl⟩ := Int.eq_ofNat_of_zero_le (show 0 ≤ a by omega)
    split at h
    · cases h
    · next q2 =>
      rw [Int.toNat_natCast]
      have z := (G.pap c (by omega)).sz
      exact ih_Gu_nm (by omega) (by omega) (by omega) (by omega) (by omega) G
  · cases h

theorem ih_g_turn {s : Int → Int} {a b d : Int} (G : ih_Gd s) (w : Int) (h : f_turn s a b d = ih_ok1 w) : ih_Gd (ih_u1 s (26 + 48 * a + 4 * b) d) := by
  unfold f_turn at h
  split at h
  · next q =>
    obtain ⟨c, rfl⟩ := Int.eq_ofNat_of_zero_le (show 0 ≤ a by omega)
    obtain ⟨m, rfl⟩ := Int.eq_ofNat_of_zero_le (show 0 ≤ b by omega)
    exact ih_Gu_kd (by omega) (by omega) (by omega) G
  · cases h

theorem ih_g_copied {s : Int → Int} {a b d : Int} (G : ih_Gd s) (w : Int) (h : f_copied s a b d = ih_ok1 w) : ih_Gd (g_cop s a b d) := by
  unfold f_copied at h
  split at h
  · next q =>
    obtain ⟨c, rfl⟩ := Int.eq_ofNat_of_zero_le (show 0 ≤ a by omega)
    obtain ⟨m, rfl⟩ := Int.eq_ofNat_of_zero_le (show 0 ≤ b by omega)
    exact ih_Gu_cop (by omega) (by omega) (by omega) G
  · cases h

theorem ih_g_scratch {s : Int → Int} {a b : Int} (G : ih_Gd s) (w : Int) (h : f_scratch s a b = ih_ok1 w) : ih_Gd (ih_scr s a.toNat b.toNat) := by
  unfold f_scratch at h
  split at h
  · next q =>
    obtain ⟨c, rfl⟩ := Int.eq_ofNat_of_zero_le (show 0 ≤ a by omega)
    obtain ⟨m, rfl⟩ := Int.eq_ofNat_of_zero_le (show 0 ≤ b by omega)
    rw [Int.toNat_natCast, Int.toNat_natCast]
    exact ih_Gu_scr (by omega) (by omega) G
  · cases h

theorem ih_g_clerk {s : Int → Int} {a b d : Int} (G : ih_Gd s) (w : Int) (h : f_clerk s a b d = ih_ok1 w) : ih_Gd ((ih_ck a.toNat d b.toNat s 0).1) := by
  unfold f_clerk at h
  split at h
  · next q =>
    obtain ⟨c, rfl⟩ := Int.eq_ofNat_of_zero_le (show 0 ≤ a by omega)
    split at h
    · cases h
    · next q2 =>
      rw [Int.toNat_natCast]
      have z := (G.pap c (by omega)).sz
      exact ih_ck_G (by omega) (by omega) _ _ _ G (by omega)
  · cases h

theorem ih_g_hold {s : Int → Int} {a b d : Int} (G : ih_Gd s) (w : Int) (h : f_hold s a b d = ih_ok1 w) : ih_Gd (g_hold s a b d) := by
  unfold f_hold at h
  split at h
  · next q =>
    obtain ⟨c, rfl⟩ := Int.eq_ofNat_of_zero_le (show 0 ≤ b by omega)
    exact ih_Gu_hold (by omega) (by omega) (by omega) G
  · cases h

theorem ih_g_load {s : Int → Int} {bt sz nb : Int → Int} {a b d : Int} (G : ih_Gd s) (w : Int) (h : f_load s bt sz nb a b d = ih_ok1 w) : ih_Gd (g_load s sz nb a b d) := by
  unfold f_load at h
  split at h
  · next q =>
    split at h
    · cases h
    · split at h
      · next q2 => exact ih_ldr_G (by omega) (by omega) _ _ _ G
      · cases h
  · cases h

/-- a call on sheets: the class's half has been done; the reference's -/
def ih_xC (t t1 : ih_S) (r : ih_An) (bt sz nb : Int → Int) (v : Int) : Prop := match r with
  | .inl w => v = w ∧ ih_SW t1 bt sz nb ∧ (∀ j, j < 103 ∨ 110 < j → t1 j = t j)
  | .inr j => v = -1000001 - j ∧ ih_sc (ih_up t 84 j (t 84 j + 1)) t1
def ih_xR (t t1 : ih_S) (r : ih_An) (bt sz nb : Int → Int) (v : Int) : Prop := match r with
  | .inl w => v = w ∧ (t1 118 = bt ∧ t1 119 = sz ∧ t1 120 = nb) ∧ (∀ j, ¬ (118 ≤ j ∧ j ≤ 121) → t1 j = t j)
  | .inr j => v = -1000001 - j ∧ ih_rr (ih_up t 115 j (t 115 j + 1)) t1
theorem ih_shC_i {t : ih_S} {r : ih_An} {bt sz nb : Int → Int} {Q : Option xa_V → ih_S → Prop} (h : ∀ v t1, ih_xC t t1 r bt sz nb v → Q (some (xI v)) t1) : ih_shC t r bt sz nb Q := by
  cases r with
  | inl w => exact fun t1 a b => h w t1 ⟨rfl, a, b⟩
  | inr j => exact fun t1 a => h _ t1 ⟨rfl, a⟩
theorem ih_shR_i {t : ih_S} {r : ih_An} {bt sz nb : Int → Int} {Q : Option xa_V → ih_S → Prop} (h : ∀ v t1, ih_xR t t1 r bt sz nb v → Q (some (xI v)) t1) : ih_shR t r bt sz nb Q := by
  cases r with
  | inl w => exact fun t1 a b c d => h w t1 ⟨rfl, ⟨a, b, c⟩, d⟩
  | inr j => exact fun t1 a => h _ t1 ⟨rfl, a⟩
theorem ih_xC_ge {t t1 : ih_S} {r : ih_An} {bt sz nb : Int → Int} {v : Int} (a : ih_xC t t1 r bt sz nb v) (j : Nat) (hj : 110 < j) : t1 j = t j := by
  cases r with
  | inl w => exact a.2.2 j (by omega)
  | inr i => exact ih_hC_ge (r := .inr i) a j (by omega)
theorem ih_sh2 {t t1 t2 : ih_S} {r : ih_An} {bt sz nb : Int → Int} {v1 v2 : Int} (I : ih_I t) (hG : ∀ w, r = ih_ok1 w → ih_SG bt sz nb) (a : ih_xC t t1 r bt sz nb v1) (b : ih_xR t1 t2 r bt sz nb v2) : v2 = v1 ∧ ih_I t2 := by
  cases r with
  | inl w =>
    obtain ⟨a1, a2, a3⟩ := a
    obtain ⟨b1, ⟨b2, b3, b4⟩, b5⟩ := b
    refine ⟨b1.trans a1.symm, ih_I_of (ih_Iw_eq I.w (fun j h => ?_)) (ih_Ik_eq I.k (fun j h => ?_) ?_) (ih_If_eq I.f ?_ ?_) (ih_It_eq I.t (fun j h => ?_) ?_) ⟨?_, ?_⟩⟩
    · rw [b5 j (by omega), a3 j (by omega)]
    · rw [b5 j (by omega), a3 j (by omega)]
    · rw [b5 111 (by omega), a3 111 (by omega)]
    · rw [b5 84 (by omega), a3 84 (by omega)]
    · rw [b5 115 (by omega), a3 115 (by omega)]
    · rw [b5 j (by omega), a3 j (by omega)]
    · rw [b5 111 (by omega), a3 111 (by omega)]
    · rw [b2, b3, b4]
      exact ih_SW_of a2 (fun j x y => b5 j (by omega))
    · rw [b2, b3, b4]
      exact hG w rfl
  | inr j => exact ih_ro2 (r := .inr j) I a b
theorem ih_g_sheet {bt sz nb : Int → Int} {a b d : Int} (G : ih_SG bt sz nb) (w : Int) (h : f_sheet a b d = ih_ok1 w) : ih_SG (ih_u1 bt a b) (ih_u1 sz a (if b = 0 then 0 else d)) (g_nb0 nb a) := by
  unfold f_sheet at h
  split at h
  · next q =>
    split at h
    · cases h
    · next q2 =>
      split at h
      · cases h
      · next q3 =>
        intro i hi
        obtain ⟨g1, g2, g3⟩ := G i hi
        refine ⟨?_, ?_, fun k hk => ?_⟩
        · rw [ih_u1x]
          split
          · omega
          · exact g1
        · rw [ih_u1x]
          split
          · split <;> omega
          · exact g2
        · unfold g_nb0
          try dsimp only
          split
          · exact ⟨by omega, by omega⟩
          · next q4 =>
            rw [ih_u1x] at hk
            split at hk
            · next q5 =>
              exfalso
              split at hk <;> omega
            · exact g3 k hk
  · cases h
theorem ih_g_put {bt sz nb : Int → Int} {a b d : Int} (hd : xa_rI d) (G : ih_SG bt sz nb) : ih_SG bt sz (ih_u1 nb (40 * a + b) (ih_nar (bt a) d)) := by
  intro i hi
  have g := G i hi
  refine ⟨g.1, g.2.1, fun k hk => ?_⟩
  rw [ih_u1x]
  split
  · exact ih_nar_rg hd
  · exact g.2.2 k hk
theorem ih_g_copy {bt sz nb : Int → Int} {a b d e n : Int} (G : ih_SG bt sz nb) (w : Int) (h : f_copy bt sz a b d e n = ih_ok1 w) : ih_SG bt sz (g_copy nb a b d e n) := by
  unfold f_copy at h
  split at h
  · next q =>
    split at h
    · cases h
    · split at h
      · split at h
        · next q4 =>
          obtain ⟨c, rfl⟩ := Int.eq_ofNat_of_zero_le q.1.1
          intro i hi
          have g := G i hi
          have gc := G c (by omega)
          refine ⟨g.1, g.2.1, fun k hk => ?_⟩
          unfold g_copy
          try dsimp only
          split
          · next q5 =>
            have e1 : 40 * (c : Int) + b + (40 * (i : Int) + k - (40 * d + e)) = 40 * (c : Int) + ((b + (40 * (i : Int) + k - (40 * d + e))).toNat : Int) := by omega
            rw [e1]
            exact gc.2.2 _ (by omega)
          · exact g.2.2 k hk
        · cases h
      · cases h
  · cases h
