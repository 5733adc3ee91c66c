/-! the law: what holds between two calls -/
/-- the class and the reference hold the same -/
def ih_I (t : ih_S) : Prop := (ih_Wr t 1 (t 112) ∧ ih_Gd (t 112)) ∧ ((t 0 10 = 0 ∧ t 111 4 = 0) ∨ ((t 0 10 = 1 ∧ t 111 4 = 1) ∧ ih_Wr t 27 (t 113) ∧ ih_Gd (t 113))) ∧ (∀ j : Int, 0 ≤ j → j < 7 → t 84 j = t 115 j) ∧ (t 80 2 = t 111 12 ∧ (0 ≤ t 80 2 ∧ t 80 2 ≤ 120) ∧ ∀ k : Int, 0 ≤ k → k < t 80 2 → t 81 k = t 117 k ∧ 0 ≤ t 81 k ∧ t 81 k < 256) ∧ ih_SW t (t 118) (t 119) (t 120) ∧ ih_SG (t 118) (t 119) (t 120)
theorem ih_I_eq {t t2 : ih_S} (I : ih_I t) (h0 : ∀ j, j < 84 ∨ (103 ≤ j ∧ j ≤ 110) ∨ j = 112 ∨ j = 113 ∨ (117 ≤ j ∧ j ≤ 120) → t2 j = t j) (h1 : ∀ g : Int, g < 5 ∨ 9 < g → t2 111 g = t 111 g) (h2 : ∀ j : Int, 0 ≤ j → j < 7 → t2 84 j = t2 115 j) : ih_I t2 := by
  obtain ⟨⟨W, G⟩, Kp, F, ⟨T1, T2, T3⟩, SW, SG⟩ := I
  refine ⟨⟨?_, ?_⟩, ?_, h2, ⟨?_, ?_, fun k k0 k1 => ?_⟩, ?_, ?_⟩
  · rw [h0 112 (by omega)]
    exact ih_Wr_of W (fun j a b => h0 j (by omega))
  · rw [h0 112 (by omega)]
    exact G
  · rw [h0 0 (by omega), h1 4 (by omega), h0 113 (by omega)]
    rcases Kp with k | ⟨k, W2, G2⟩
    · exact Or.inl k
    · exact Or.inr ⟨k, ih_Wr_of W2 (fun j a b => h0 j (by omega)), G2⟩
  · rw [h0 80 (by omega), h1 12 (by omega)]
    exact T1
  · rw [h0 80 (by omega)]
    exact T2
  · rw [h0 80 (by omega)] at k1
    rw [h0 81 (by omega), h0 117 (by omega)]
    exact T3 k k0 k1
  · rw [h0 118 (by omega), h0 119 (by omega), h0 120 (by omega)]
    exact ih_SW_of SW (fun j a b => h0 j (by omega))
  · rw [h0 118 (by omega), h0 119 (by omega), h0 120 (by omega)]
    exact SG
/-- a call that only answers: the class's half has been done -/
def ih_hC (t t1 : ih_S) (r : ih_An) (v : Int) : Prop := match r with
  | .inl w => v = w ∧ ih_sc t t1
  | .inr j => v = -1000001 - j ∧ ih_sc (ih_up t 84 j (t 84 j + 1)) t1
def ih_hR (t t1 : ih_S) (r : ih_An) (v : Int) : Prop := match r with
  | .inl w => v = w ∧ ih_rr t t1
  | .inr j => v = -1000001 - j ∧ ih_rr (ih_up t 115 j (t 115 j + 1)) t1
theorem ih_roC_i {t : ih_S} {r : ih_An} {Q : Option xa_V → ih_S → Prop} (h : ∀ v t1, ih_hC t t1 r v → Q (some (xI v)) t1) : ih_roC t r Q := by
  cases r with
  | inl w => exact fun t1 a => h w t1 ⟨rfl, a⟩
  | inr j => exact fun t1 a => h _ t1 ⟨rfl, a⟩
theorem ih_roR_i {t : ih_S} {r : ih_An} {Q : Option xa_V → ih_S → Prop} (h : ∀ v t1, ih_hR t t1 r v → Q (some (xI v)) t1) : ih_roR t r Q := by
  cases r with
  | inl w => exact fun t1 a => h w t1 ⟨rfl, a⟩
  | inr j => exact fun t1 a => h _ t1 ⟨rfl, a⟩
theorem ih_hC_112 {t t1 : ih_S} {r : ih_An} {v : Int} (a : ih_hC t t1 r v) : t1 112 = t 112 := by
  cases r with
  | inl w => exact a.2 112 (by omega)
  | inr j =>
    rw [a.2 112 (by omega)]
    exact ih_up_ne (by decide)
theorem ih_ro2 {t t1 t2 : ih_S} {r : ih_An} {v1 v2 : Int} (I : ih_I t) (a : ih_hC t t1 r v1) (b : ih_hR t1 t2 r v2) : v2 = v1 ∧ ih_I t2 := by
  cases r with
  | inl w =>
    refine ⟨b.1.trans a.1.symm, ih_I_eq I (fun j h => ?_) (fun g h => ?_) (fun j h0 h1 => ?_)⟩
    · rw [b.2.1 j (by omega), a.2 j (by omega)]
    · rw [b.2.2 g h, a.2 111 (by omega)]
    · rw [b.2.1 84 (by omega), b.2.1 115 (by omega), a.2 84 (by omega), a.2 115 (by omega)]
      exact I.2.2.1 j h0 h1
  | inr i =>
    refine ⟨b.1.trans a.1.symm, ih_I_eq I (fun j h => ?_) (fun g h => ?_) (fun j h0 h1 => ?_)⟩
    · rw [b.2.1 j (by omega), ih_up_ne (by omega), a.2 j (by omega), ih_up_ne (by omega)]
    · rw [b.2.2 g h, ih_up_ne (by decide), a.2 111 (by omega), ih_up_ne (by decide)]
    · have e84 : t2 84 = ih_u1 (t 84) i (t 84 i + 1) := by rw [b.2.1 84 (by omega), ih_up_ne (by decide), a.2 84 (by omega), ih_up_eq]
      have e1 : t1 115 = t 115 := by rw [a.2 115 (by omega), ih_up_ne (by decide)]
      have e115 : t2 115 = ih_u1 (t 115) i (t 115 i + 1) := by rw [b.2.1 115 (by omega), ih_up_eq, e1]
      have q := I.2.2.1 j h0 h1
      rw [e84, e115, ih_u1x, ih_u1x]
      by_cases e : j = i
      · rw [if_pos e, if_pos e, ← e, q]
      · rw [if_neg e, if_neg e, q]
