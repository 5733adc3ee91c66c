/-! CALLS THAT CHANGE SOMETHING: what is coupled, behind a change -/
theorem ih_up2 {t : ih_S} {a : Nat} {j z : Int} {b : Nat} {x : Int} : ih_up t a j z b x = if b = a ∧ x = j then z else t b x := by
  unfold ih_up ih_u1
  by_cases h : b = a
  · rw [if_pos h]
    by_cases q : x = j
    · rw [if_pos q, if_pos ⟨h, q⟩]
    · rw [if_neg q, if_neg (fun k => q k.2), h]
  · rw [if_neg h, if_neg (fun k => h k.1)]
theorem ih_u1x {f : Int → Int} {j z x : Int} : ih_u1 f j z x = if x = j then z else f x := rfl
/-- the class: only the world, what it goes back to, and what it writes while it reckons have changed -/
def ih_cf (t t1 : ih_S) : Prop := ∀ j, j = 0 ∨ (27 ≤ j ∧ j < 53) ∨ (79 ≤ j ∧ j < 85 ∧ j ≠ 82) ∨ 102 < j → t1 j = t j
theorem ih_cf_r (t : ih_S) : ih_cf t t := fun _ _ => rfl
theorem ih_cf_t {t t1 t2 : ih_S} (a : ih_cf t t1) (b : ih_cf t1 t2) : ih_cf t t2 := fun j h => (b j h).trans (a j h)
theorem ih_cf_s {t t1 : ih_S} (a : ih_sc t t1) : ih_cf t t1 := fun j h => a j (by omega)
theorem ih_cf_u {t t1 : ih_S} {a : Nat} {j z : Int} (h : ih_cf t t1) (ha : (1 ≤ a ∧ a < 27) ∨ (53 ≤ a ∧ a < 79) ∨ a = 82 ∨ (85 ≤ a ∧ a ≤ 102)) : ih_cf t (ih_up t1 a j z) := fun i hi => by
  rw [ih_up_ne (by omega)]
  exact h i hi
/-- the reference: only its row, what it goes back to, and what it writes while it reckons have changed -/
def ih_rg (t t1 : ih_S) : Prop := (∀ j, j < 111 ∨ j = 113 ∨ j = 115 ∨ (117 ≤ j ∧ j ≤ 120) → t1 j = t j) ∧ ∀ f : Int, f < 5 ∨ (9 < f ∧ f < 13) ∨ 16 < f → t1 111 f = t 111 f
theorem ih_rg_r (t : ih_S) : ih_rg t t := ⟨fun _ _ => rfl, fun _ _ => rfl⟩
theorem ih_rg_t {t t1 t2 : ih_S} (a : ih_rg t t1) (b : ih_rg t1 t2) : ih_rg t t2 := ⟨fun j h => (b.1 j h).trans (a.1 j h), fun f h => (b.2 f h).trans (a.2 f h)⟩
theorem ih_rg_f {t t1 : ih_S} (a : ih_rf t t1) : ih_rg t t1 := ⟨fun j h => a.1 j (by omega), fun f h => a.2 f (by omega)⟩
theorem ih_rg_rr {t t1 : ih_S} (a : ih_rr t t1) : ih_rg t t1 := ⟨fun j h => a.1 j (by omega), fun f h => a.2 f (by omega)⟩
theorem ih_rg_u {t t1 : ih_S} {a : Nat} {j z : Int} (h : ih_rg t t1) (ha : a = 112 ∨ a = 114 ∨ a = 116 ∨ a = 121) : ih_rg t (ih_up t1 a j z) := ⟨fun i hi => by
  rw [ih_up_ne (by omega)]
  exact h.1 i hi, fun f hf => by
  rw [ih_up_ne (by omega)]
  exact h.2 f hf⟩
theorem ih_rg_v {t t1 : ih_S} {j z : Int} (h : ih_rg t t1) (hj : (5 ≤ j ∧ j ≤ 9) ∨ (13 ≤ j ∧ j ≤ 16)) : ih_rg t (ih_up t1 111 j z) := ⟨fun i hi => by
  rw [ih_up_ne (by omega)]
  exact h.1 i hi, fun f hf => by
  rw [ih_up_eq, ih_u1_ne (by omega)]
  exact h.2 f hf⟩
theorem ih_rg_w {t t1 : ih_S} (h : ∀ j, j ≠ 112 → t1 j = t j) : ih_rg t t1 := ⟨fun j hj => h j (by omega), fun f _ => by rw [h 111 (by omega)]⟩
/-- the class's half of a call that changes: the answer r, and the world holds s' -/
def ih_chC (t : ih_S) (r : ih_An) (s' : Int → Int) (Q : Option xa_V → ih_S → Prop) : Prop := match r with
  | .inl v => ∀ t1, ih_Wr t1 1 s' → ih_cf t t1 → Q (some (xI v)) t1
  | .inr j => ∀ t1, ih_sc (ih_up t 84 j (t 84 j + 1)) t1 → Q (some (xI (-1000001 - j))) t1
theorem ih_chC_ok {t t1 : ih_S} {r : ih_An} {s' : Int → Int} {v : Int} {Q : Option xa_V → ih_S → Prop} (K : ih_chC t r s' Q) (e : r = ih_ok1 v) (W : ih_Wr t1 1 s') (h : ih_cf t t1) : Q (some (xI v)) t1 := by
  subst e
  exact K _ W h
theorem ih_chC_no {t t1 : ih_S} {r : ih_An} {s' : Int → Int} {j : Int} {Q : Option xa_V → ih_S → Prop} (K : ih_chC t r s' Q) (e : r = ih_no j) (h : ih_sc t t1) : Q (some (xI (-1000001 - j))) (ih_up t1 84 j (t1 84 j + 1)) := by
  subst e
  exact K _ (ih_sc_up h)
/-- the reference's half -/
def ih_chR (t : ih_S) (r : ih_An) (s' : Int → Int) (Q : Option xa_V → ih_S → Prop) : Prop := match r with
  | .inl v => ∀ t1, t1 112 = s' → ih_rg t t1 → Q (some (xI v)) t1
  | .inr j => ∀ t1, ih_rr (ih_up t 115 j (t 115 j + 1)) t1 → Q (some (xI (-1000001 - j))) t1
theorem ih_chR_ok {t t1 : ih_S} {r : ih_An} {s' : Int → Int} {v : Int} {Q : Option xa_V → ih_S → Prop} (K : ih_chR t r s' Q) (e : r = ih_ok1 v) (W : t1 112 = s') (h : ih_rg t t1) : Q (some (xI v)) t1 := by
  subst e
  exact K _ W h
theorem ih_chR_no {t t1 : ih_S} {r : ih_An} {s' : Int → Int} {a : Int} (j : Int) {Q : Option xa_V → ih_S → Prop} (K : ih_chR t r s' Q) (e : r = ih_no j) (ha : a = -1000001 - j) (h : ih_rr t t1) : Q (some (xI a)) (ih_up t1 115 j (t1 115 j + 1)) := by
  subst e ha
  exact K _ (ih_rr_up h)
/-- the reference's new mark -/
def ih_nm (s : Int → Int) (p : Nat) (kd lt ink : Int) : Int → Int := fun x => if x = 22 + p then s (22 + p) + 1 else if x = 26 + 48 * p + 4 * s (22 + p) then kd else if x = 26 + 48 * p + 4 * s (22 + p) + 1 then lt else if x = 26 + 48 * p + 4 * s (22 + p) + 2 then ink else if x = 26 + 48 * p + 4 * s (22 + p) + 3 then s 0 else s x

theorem ih_Wu_now {t : ih_S} {s : Int → Int} {v : Int} (G : ih_Gd s)  (W : ih_Wr t 1 s) : ih_Wr (ih_up t 1 5 v) 1 (ih_u1 s 0 v) := by
  have hn := W.now
  have hzz := W.z
  have Z : ∀ p : Nat, p < 4 → 0 ≤ s (22 + p) ∧ s (22 + p) ≤ 12 := fun p hp => (G.pap p hp).sz
  refine ⟨?_, ?_, fun j h0 h1 => ?_, fun j h0 h1 => ?_, fun p hp => ?_, fun p hp => ?_, fun p k hp hk => ?_, fun p k hp hk => ?_, fun p k hp hk => ?_, fun p k hp hk => ?_, fun i h0 h1 => ?_⟩
  · (try simp only [ih_up2, ih_u1x, and_true, true_and, and_self, if_true, if_false, reduceIte] at ⊢) <;> (repeat' split) <;> first | rfl | omega | (exfalso; omega)
  · (try simp only [ih_up2, ih_u1x, and_true, true_and, and_self, if_true, if_false, reduceIte] at ⊢) <;> (repeat' split) <;> first | rfl | omega | (exfalso; omega)
  · have h := W.las j h0 h1
    (try simp only [ih_up2, ih_u1x, and_true, true_and, and_self, if_true, if_false, reduceIte] at h ⊢) <;> (repeat' split) <;> first | rfl | omega | (exfalso; omega)
  · have h := W.pri j h0 h1
    (try simp only [ih_up2, ih_u1x, and_true, true_and, and_self, if_true, if_false, reduceIte] at h ⊢) <;> (repeat' split) <;> first | rfl | omega | (exfalso; omega)
  · have h := W.lit p hp
    have hs := Z p hp
    (try simp only [ih_up2, ih_u1x, and_true, true_and, and_self, if_true, if_false, reduceIte] at h ⊢) <;> (repeat' split) <;> first | rfl | omega | (exfalso; omega)
  · have h := W.sz p hp
    have hs := Z p hp
    (try simp only [ih_up2, ih_u1x, and_true, true_and, and_self, if_true, if_false, reduceIte] at h ⊢) <;> (repeat' split) <;> first | rfl | omega | (exfalso; omega)
  · have hs := Z p hp
    by_cases q : (k : Int) < s (22 + p)
    · have h := W.kd p k hp q
      (try simp only [ih_up2, ih_u1x, and_true, true_and, and_self, if_true, if_false, reduceIte] at h ⊢) <;> (repeat' split) <;> first | rfl | omega | (exfalso; omega)
    · (try simp only [ih_up2, ih_u1x, and_true, true_and, and_self, if_true, if_false, reduceIte] at hk ⊢) <;> (repeat' (split at hk)) <;> first | omega | ((repeat' split) <;> first | rfl | omega | (exfalso; omega))
  · have hs := Z p hp
    by_cases q : (k : Int) < s (22 + p)
    · have h := W.lt p k hp q
      (try simp only [ih_up2, ih_u1x, and_true, true_and, and_self, if_true, if_false, reduceIte] at h ⊢) <;> (repeat' split) <;> first | rfl | omega | (exfalso; omega)
    · (try simp only [ih_up2, ih_u1x, and_true, true_and, and_self, if_true, if_false, reduceIte] at hk ⊢) <;> (repeat' (split at hk)) <;> first | omega | ((repeat' split) <;> first | rfl | omega | (exfalso; omega))
  · have hs := Z p hp
    by_cases q : (k : Int) < s (22 + p)
    · have h := W.ink p k hp q
      (try simp only [ih_up2, ih_u1x, and_true, true_and, and_self, if_true, if_false, reduceIte] at h ⊢) <;> (repeat' split) <;> first | rfl | omega | (exfalso; omega)
    · (try simp only [ih_up2, ih_u1x, and_true, true_and, and_self, if_true, if_false, reduceIte] at hk ⊢) <;> (repeat' (split at hk)) <;> first | omega | ((repeat' split) <;> first | rfl | omega | (exfalso; omega))
  · have hs := Z p hp
    by_cases q : (k : Int) < s (22 + p)
    · have h := W.at_ p k hp q
      (try simp only [ih_up2, ih_u1x, and_true, true_and, and_self, if_true, if_false, reduceIte] at h ⊢) <;> (repeat' split) <;> first | rfl | omega | (exfalso; omega)
    · (try simp only [ih_up2, ih_u1x, and_true, true_and, and_self, if_true, if_false, reduceIte] at hk ⊢) <;> (repeat' (split at hk)) <;> first | omega | ((repeat' split) <;> first | rfl | omega | (exfalso; omega))
  · have h := W.spot i h0 h1
    (try simp only [ih_up2, ih_u1x, and_true, true_and, and_self, if_true, if_false, reduceIte] at h ⊢) <;> (repeat' split) <;> first | rfl | omega | (exfalso; omega)

theorem ih_Wu_z {t : ih_S} {s : Int → Int} {v : Int} (G : ih_Gd s)  (W : ih_Wr t 1 s) : ih_Wr (ih_up t 1 6 v) 1 (ih_u1 s 1 v) := by
  have hn := W.now
  have hzz := W.z
  have Z : ∀ p : Nat, p < 4 → 0 ≤ s (22 + p) ∧ s (22 + p) ≤ 12 := fun p hp => (G.pap p hp).sz
  refine ⟨?_, ?_, fun j h0 h1 => ?_, fun j h0 h1 => ?_, fun p hp => ?_, fun p hp => ?_, fun p k hp hk => ?_, fun p k hp hk => ?_, fun p k hp hk => ?_, fun p k hp hk => ?_, fun i h0 h1 => ?_⟩
  · (try simp only [ih_up2, ih_u1x, and_true, true_and, and_self, if_true, if_false, reduceIte] at ⊢) <;> (repeat' split) <;> first | rfl | omega | (exfalso; omega)
  · (try simp only [ih_up2, ih_u1x, and_true, true_and, and_self, if_true, if_false, reduceIte] at ⊢) <;> (repeat' split) <;> first | rfl | omega | (exfalso; omega)
  · have h := W.las j h0 h1
    (try simp only [ih_up2, ih_u1x, and_true, true_and, and_self, if_true, if_false, reduceIte] at h ⊢) <;> (repeat' split) <;> first | rfl | omega | (exfalso; omega)
  · have h := W.pri j h0 h1
    (try simp only [ih_up2, ih_u1x, and_true, true_and, and_self, if_true, if_false, reduceIte] at h ⊢) <;> (repeat' split) <;> first | rfl | omega | (exfalso; omega)
  · have h := W.lit p hp
    have hs := Z p hp
    (try simp only [ih_up2, ih_u1x, and_true, true_and, and_self, if_true, if_false, reduceIte] at h ⊢) <;> (repeat' split) <;> first | rfl | omega | (exfalso; omega)
  · have h := W.sz p hp
    have hs := Z p hp
    (try simp only [ih_up2, ih_u1x, and_true, true_and, and_self, if_true, if_false, reduceIte] at h ⊢) <;> (repeat' split) <;> first | rfl | omega | (exfalso; omega)
  · have hs := Z p hp
    by_cases q : (k : Int) < s (22 + p)
    · have h := W.kd p k hp q
      (try simp only [ih_up2, ih_u1x, and_true, true_and, and_self, if_true, if_false, reduceIte] at h ⊢) <;> (repeat' split) <;> first | rfl | omega | (exfalso; omega)
    · (try simp only [ih_up2, ih_u1x, and_true, true_and, and_self, if_true, if_false, reduceIte] at hk ⊢) <;> (repeat' (split at hk)) <;> first | omega | ((repeat' split) <;> first | rfl | omega | (exfalso; omega))
  · have hs := Z p hp
    by_cases q : (k : Int) < s (22 + p)
    · have h := W.lt p k hp q
      (try simp only [ih_up2, ih_u1x, and_true, true_and, and_self, if_true, if_false, reduceIte] at h ⊢) <;> (repeat' split) <;> first | rfl | omega | (exfalso; omega)
    · (try simp only [ih_up2, ih_u1x, and_true, true_and, and_self, if_true, if_false, reduceIte] at hk ⊢) <;> (repeat' (split at hk)) <;> first | omega | ((repeat' split) <;> first | rfl | omega | (exfalso; omega))
  · have hs := Z p hp
    by_cases q : (k : Int) < s (22 + p)
    · have h := W.ink p k hp q
      (try simp only [ih_up2, ih_u1x, and_true, true_and, and_self, if_true, if_false, reduceIte] at h ⊢) <;> (repeat' split) <;> first | rfl | omega | (exfalso; omega)
    · (try simp only [ih_up2, ih_u1x, and_true, true_and, and_self, if_true, if_false, reduceIte] at hk ⊢) <;> (repeat' (split at hk)) <;> first | omega | ((repeat' split) <;> first | rfl | omega | (exfalso; omega))
  · have hs := Z p hp
    by_cases q : (k : Int) < s (22 + p)
    · have h := W.at_ p k hp q
      (try simp only [ih_up2, ih_u1x, and_true, true_and, and_self, if_true, if_false, reduceIte] at h ⊢) <;> (repeat' split) <;> first | rfl | omega | (exfalso; omega)
    · (try simp only [ih_up2, ih_u1x, and_true, true_and, and_self, if_true, if_false, reduceIte] at hk ⊢) <;> (repeat' (split at hk)) <;> first | omega | ((repeat' split) <;> first | rfl | omega | (exfalso; omega))
  · have h := W.spot i h0 h1
    (try simp only [ih_up2, ih_u1x, and_true, true_and, and_self, if_true, if_false, reduceIte] at h ⊢) <;> (repeat' split) <;> first | rfl | omega | (exfalso; omega)

theorem ih_Wu_las {t : ih_S} {s : Int → Int} {a v : Int} (G : ih_Gd s) (ha : 0 ≤ a ∧ a < 8) (W : ih_Wr t 1 s) : ih_Wr (ih_up t 2 a v) 1 (ih_u1 s (2 + a) v) := by
  have hn := W.now
  have hzz := W.z
  have Z : ∀ p : Nat, p < 4 → 0 ≤ s (22 + p) ∧ s (22 + p) ≤ 12 := fun p hp => (G.pap p hp).sz
  refine ⟨?_, ?_, fun j h0 h1 => ?_, fun j h0 h1 => ?_, fun p hp => ?_, fun p hp => ?_, fun p k hp hk => ?_, fun p k hp hk => ?_, fun p k hp hk => ?_, fun p k hp hk => ?_, fun i h0 h1 => ?_⟩
  · (try simp only [ih_up2, ih_u1x, and_true, true_and, and_self, if_true, if_false, reduceIte] at ⊢) <;> (repeat' split) <;> first | rfl | omega | (exfalso; omega)
  · (try simp only [ih_up2, ih_u1x, and_true, true_and, and_self, if_true, if_false, reduceIte] at ⊢) <;> (repeat' split) <;> first | rfl | omega | (exfalso; omega)
  · have h := W.las j h0 h1
    (try simp only [ih_up2, ih_u1x, and_true, true_and, and_self, if_true, if_false, reduceIte] at h ⊢) <;> (repeat' split) <;> first | rfl | omega | (exfalso; omega)
  · have h := W.pri j h0 h1
    (try simp only [ih_up2, ih_u1x, and_true, true_and, and_self, if_true, if_false, reduceIte] at h ⊢) <;> (repeat' split) <;> first | rfl | omega | (exfalso; omega)
  · have h := W.lit p hp
    have hs := Z p hp
    (try simp only [ih_up2, ih_u1x, and_true, true_and, and_self, if_true, if_false, reduceIte] at h ⊢) <;> (repeat' split) <;> first | rfl | omega | (exfalso; omega)
  · have h := W.sz p hp
    have hs := Z p hp
    (try simp only [ih_up2, ih_u1x, and_true, true_and, and_self, if_true, if_false, reduceIte] at h ⊢) <;> (repeat' split) <;> first | rfl | omega | (exfalso; omega)
  · have hs := Z p hp
    by_cases q : (k : Int) < s (22 + p)
    · have h := W.kd p k hp q
      (try simp only [ih_up2, ih_u1x, and_true, true_and, and_self, if_true, if_false, reduceIte] at h ⊢) <;> (repeat' split) <;> first | rfl | omega | (exfalso; omega)
    · (try simp only [ih_up2, ih_u1x, and_true, true_and, and_self, if_true, if_false, reduceIte] at hk ⊢) <;> (repeat' (split at hk)) <;> first | omega | ((repeat' split) <;> first | rfl | omega | (exfalso; omega))
  · have hs := Z p hp
    by_cases q : (k : Int) < s (22 + p)
    · have h := W.lt p k hp q
      (try simp only [ih_up2, ih_u1x, and_true, true_and, and_self, if_true, if_false, reduceIte] at h ⊢) <;> (repeat' split) <;> first | rfl | omega | (exfalso; omega)
    · (try simp only [ih_up2, ih_u1x, and_true, true_and, and_self, if_true, if_false, reduceIte] at hk ⊢) <;> (repeat' (split at hk)) <;> first | omega | ((repeat' split) <;> first | rfl | omega | (exfalso; omega))
  · have hs := Z p hp
    by_cases q : (k : Int) < s (22 + p)
    · have h := W.ink p k hp q
      (try simp only [ih_up2, ih_u1x, and_true, true_and, and_self, if_true, if_false, reduceIte] at h ⊢) <;> (repeat' split) <;> first | rfl | omega | (exfalso; omega)
    · (try simp only [ih_up2, ih_u1x, and_true, true_and, and_self, if_true, if_false, reduceIte] at hk ⊢) <;> (repeat' (split at hk)) <;> first | omega | ((repeat' split) <;> first | rfl | omega | (exfalso; omega))
  · have hs := Z p hp
    by_cases q : (k : Int) < s (22 + p)
    · have h := W.at_ p k hp q
      (try simp only [ih_up2, ih_u1x, and_true, true_and, and_self, if_true, if_false, reduceIte] at h ⊢) <;> (repeat' split) <;> first | rfl | omega | (exfalso; omega)
    · (try simp only [ih_up2, ih_u1x, and_true, true_and, and_self, if_true, if_false, reduceIte] at hk ⊢) <;> (repeat' (split at hk)) <;> first | omega | ((repeat' split) <;> first | rfl | omega | (exfalso; omega))
  · have h := W.spot i h0 h1
    (try simp only [ih_up2, ih_u1x, and_true, true_and, and_self, if_true, if_false, reduceIte] at h ⊢) <;> (repeat' split) <;> first | rfl | omega | (exfalso; omega)

theorem ih_Wu_pri {t : ih_S} {s : Int → Int} {a v : Int} (G : ih_Gd s) (ha : 0 ≤ a ∧ a < 8) (W : ih_Wr t 1 s) : ih_Wr (ih_up t 3 a v) 1 (ih_u1 s (10 + a) v) := by
  have hn := W.now
  have hzz := W.z
  have Z : ∀ p : Nat, p < 4 → 0 ≤ s (22 + p) ∧ s (22 + p) ≤ 12 := fun p hp => (G.pap p hp).sz
  refine ⟨?_, ?_, fun j h0 h1 => ?_, fun j h0 h1 => ?_, fun p hp => ?_, fun p hp => ?_, fun p k hp hk => ?_, fun p k hp hk => ?_, fun p k hp hk => ?_, fun p k hp hk => ?_, fun i h0 h1 => ?_⟩
  · (try simp only [ih_up2, ih_u1x, and_true, true_and, and_self, if_true, if_false, reduceIte] at ⊢) <;> (repeat' split) <;> first | rfl | omega | (exfalso; omega)
  · (try simp only [ih_up2, ih_u1x, and_true, true_and, and_self, if_true, if_false, reduceIte] at ⊢) <;> (repeat' split) <;> first | rfl | omega | (exfalso; omega)
  · have h := W.las j h0 h1
    (try simp only [ih_up2, ih_u1x, and_true, true_and, and_self, if_true, if_false, reduceIte] at h ⊢) <;> (repeat' split) <;> first | rfl | omega | (exfalso; omega)
  · have h := W.pri j h0 h1
    (try simp only [ih_up2, ih_u1x, and_true, true_and, and_self, if_true, if_false, reduceIte] at h ⊢) <;> (repeat' split) <;> first | rfl | omega | (exfalso; omega)
  · have h := W.lit p hp
    have hs := Z p hp
    (try simp only [ih_up2, ih_u1x, and_true, true_and, and_self, if_true, if_false, reduceIte] at h ⊢) <;> (repeat' split) <;> first | rfl | omega | (exfalso; omega)
  · have h := W.sz p hp
    have hs := Z p hp
    (try simp only [ih_up2, ih_u1x, and_true, true_and, and_self, if_true, if_false, reduceIte] at h ⊢) <;> (repeat' split) <;> first | rfl | omega | (exfalso; omega)
  · have hs := Z p hp
    by_cases q : (k : Int) < s (22 + p)
    · have h := W.kd p k hp q
      (try simp only [ih_up2, ih_u1x, and_true, true_and, and_self, if_true, if_false, reduceIte] at h ⊢) <;> (repeat' split) <;> first | rfl | omega | (exfalso; omega)
    · (try simp only [ih_up2, ih_u1x, and_true, true_and, and_self, if_true, if_false, reduceIte] at hk ⊢) <;> (repeat' (split at hk)) <;> first | omega | ((repeat' split) <;> first | rfl | omega | (exfalso; omega))
  · have hs := Z p hp
    by_cases q : (k : Int) < s (22 + p)
    · have h := W.lt p k hp q
      (try simp only [ih_up2, ih_u1x, and_true, true_and, and_self, if_true, if_false, reduceIte] at h ⊢) <;> (repeat' split) <;> first | rfl | omega | (exfalso; omega)
    · (try simp only [ih_up2, ih_u1x, and_true, true_and, and_self, if_true, if_false, reduceIte] at hk ⊢) <;> (repeat' (split at hk)) <;> first | omega | ((repeat' split) <;> first | rfl | omega | (exfalso; omega))
  · have hs := Z p hp
    by_cases q : (k : Int) < s (22 + p)
    · have h := W.ink p k hp q
      (try simp only [ih_up2, ih_u1x, and_true, true_and, and_self, if_true, if_false, reduceIte] at h ⊢) <;> (repeat' split) <;> first | rfl | omega | (exfalso; omega)
    · (try simp only [ih_up2, ih_u1x, and_true, true_and, and_self, if_true, if_false, reduceIte] at hk ⊢) <;> (repeat' (split at hk)) <;> first | omega | ((repeat' split) <;> first | rfl | omega | (exfalso; omega))
  · have hs := Z p hp
    by_cases q : (k : Int) < s (22 + p)
    · have h := W.at_ p k hp q
      (try simp only [ih_up2, ih_u1x, and_true, true_and, and_self, if_true, if_false, reduceIte] at h ⊢) <;> (repeat' split) <;> first | rfl | omega | (exfalso; omega)
    · (try simp only [ih_up2, ih_u1x, and_true, true_and, and_self, if_true, if_false, reduceIte] at hk ⊢) <;> (repeat' (split at hk)) <;> first | omega | ((repeat' split) <;> first | rfl | omega | (exfalso; omega))
  · have h := W.spot i h0 h1
    (try simp only [ih_up2, ih_u1x, and_true, true_and, and_self, if_true, if_false, reduceIte] at h ⊢) <;> (repeat' split) <;> first | rfl | omega | (exfalso; omega)

theorem ih_Wu_lit {t : ih_S} {s : Int → Int} {c : Nat} {v : Int} (G : ih_Gd s) (hc : c < 4) (W : ih_Wr t 1 s) : ih_Wr (ih_up t (7 + 5 * c) 5 v) 1 (ih_u1 s (18 + c) v) := by
  have hn := W.now
  have hzz := W.z
  have Z : ∀ p : Nat, p < 4 → 0 ≤ s (22 + p) ∧ s (22 + p) ≤ 12 := fun p hp => (G.pap p hp).sz
  refine ⟨?_, ?_, fun j h0 h1 => ?_, fun j h0 h1 => ?_, fun p hp => ?_, fun p hp => ?_, fun p k hp hk => ?_, fun p k hp hk => ?_, fun p k hp hk => ?_, fun p k hp hk => ?_, fun i h0 h1 => ?_⟩
  · (try simp only [ih_up2, ih_u1x, and_true, true_and, and_self, if_true, if_false, reduceIte] at ⊢) <;> (repeat' split) <;> first | rfl | omega | (exfalso; omega)
  · (try simp only [ih_up2, ih_u1x, and_true, true_and, and_self, if_true, if_false, reduceIte] at ⊢) <;> (repeat' split) <;> first | rfl | omega | (exfalso; omega)
  · have h := W.las j h0 h1
    (try simp only [ih_up2, ih_u1x, and_true, true_and, and_self, if_true, if_false, reduceIte] at h ⊢) <;> (repeat' split) <;> first | rfl | omega | (exfalso; omega)
  · have h := W.pri j h0 h1
    (try simp only [ih_up2, ih_u1x, and_true, true_and, and_self, if_true, if_false, reduceIte] at h ⊢) <;> (repeat' split) <;> first | rfl | omega | (exfalso; omega)
  · have h := W.lit p hp
    have hs := Z p hp
    (by_cases e : p = c) <;> (first | subst e | skip) <;> (try simp only [ih_up2, ih_u1x, and_true, true_and, and_self, if_true, if_false, reduceIte] at h ⊢) <;> (repeat' split) <;> first | rfl | omega | (exfalso; omega)
  · have h := W.sz p hp
    have hs := Z p hp
    (by_cases e : p = c) <;> (first | subst e | skip) <;> (try simp only [ih_up2, ih_u1x, and_true, true_and, and_self, if_true, if_false, reduceIte] at h ⊢) <;> (repeat' split) <;> first | rfl | omega | (exfalso; omega)
  · have hs := Z p hp
    by_cases q : (k : Int) < s (22 + p)
    · have h := W.kd p k hp q
      (by_cases e : p = c) <;> (first | subst e | skip) <;> (try simp only [ih_up2, ih_u1x, and_true, true_and, and_self, if_true, if_false, reduceIte] at h ⊢) <;> (repeat' split) <;> first | rfl | omega | (exfalso; omega)
    · (by_cases e : p = c) <;> (first | subst e | skip) <;> (try simp only [ih_up2, ih_u1x, and_true, true_and, and_self, if_true, if_false, reduceIte] at hk ⊢) <;> (repeat' (split at hk)) <;> first | omega | ((repeat' split) <;> first | rfl | omega | (exfalso; omega))
  · have hs := Z p hp
    by_cases q : (k : Int) < s (22 + p)
    · have h := W.lt p k hp q
      (by_cases e : p = c) <;> (first | subst e | skip) <;> (try simp only [ih_up2, ih_u1x, and_true, true_and, and_self, if_true, if_false, reduceIte] at h ⊢) <;> (repeat' split) <;> first | rfl | omega | (exfalso; omega)
    · (by_cases e : p = c) <;> (first | subst e | skip) <;> (try simp only [ih_up2, ih_u1x, and_true, true_and, and_self, if_true, if_false, reduceIte] at hk ⊢) <;> (repeat' (split at hk)) <;> first | omega | ((repeat' split) <;> first | rfl | omega | (exfalso; omega))
  · have hs := Z p hp
    by_cases q : (k : Int) < s (22 + p)
    · have h := W.ink p k hp q
      (by_cases e : p = c) <;> (first | subst e | skip) <;> (try simp only [ih_up2, ih_u1x, and_true, true_and, and_self, if_true, if_false, reduceIte] at h ⊢) <;> (repeat' split) <;> first | rfl | omega | (exfalso; omega)
    · (by_cases e : p = c) <;> (first | subst e | skip) <;> (try simp only [ih_up2, ih_u1x, and_true, true_and, and_self, if_true, if_false, reduceIte] at hk ⊢) <;> (repeat' (split at hk)) <;> first | omega | ((repeat' split) <;> first | rfl | omega | (exfalso; omega))
  · have hs := Z p hp
    by_cases q : (k : Int) < s (22 + p)
    · have h := W.at_ p k hp q
      (by_cases e : p = c) <;> (first | subst e | skip) <;> (try simp only [ih_up2, ih_u1x, and_true, true_and, and_self, if_true, if_false, reduceIte] at h ⊢) <;> (repeat' split) <;> first | rfl | omega | (exfalso; omega)
    · (by_cases e : p = c) <;> (first | subst e | skip) <;> (try simp only [ih_up2, ih_u1x, and_true, true_and, and_self, if_true, if_false, reduceIte] at hk ⊢) <;> (repeat' (split at hk)) <;> first | omega | ((repeat' split) <;> first | rfl | omega | (exfalso; omega))
  · have h := W.spot i h0 h1
    (try simp only [ih_up2, ih_u1x, and_true, true_and, and_self, if_true, if_false, reduceIte] at h ⊢) <;> (repeat' split) <;> first | rfl | omega | (exfalso; omega)

theorem ih_Wu_kd {t : ih_S} {s : Int → Int} {c m : Nat} {v : Int} (G : ih_Gd s) (hc : c < 4) (hm : (m : Int) < s (22 + c)) (W : ih_Wr t 1 s) : ih_Wr (ih_up t (8 + 5 * c) m v) 1 (ih_u1 s (26 + 48 * c + 4 * m) v) := by
  have hn := W.now
  have hzz := W.z
  have Z : ∀ p : Nat, p < 4 → 0 ≤ s (22 + p) ∧ s (22 + p) ≤ 12 := fun p hp => (G.pap p hp).sz
  have Zc := Z c hc
  refine ⟨?_, ?_, fun j h0 h1 => ?_, fun j h0 h1 => ?_, fun p hp => ?_, fun p hp => ?_, fun p k hp hk => ?_, fun p k hp hk => ?_, fun p k hp hk => ?_, fun p k hp hk => ?_, fun i h0 h1 => ?_⟩
  · (try simp only [ih_up2, ih_u1x, and_true, true_and, and_self, if_true, if_false, reduceIte] at ⊢) <;> (repeat' split) <;> first | rfl | omega | (exfalso; omega)
  · (try simp only [ih_up2, ih_u1x, and_true, true_and, and_self, if_true, if_false, reduceIte] at ⊢) <;> (repeat' split) <;> first | rfl | omega | (exfalso; omega)
  · have h := W.las j h0 h1
    (try simp only [ih_up2, ih_u1x, and_true, true_and, and_self, if_true, if_false, reduceIte] at h ⊢) <;> (repeat' split) <;> first | rfl | omega | (exfalso; omega)
  · have h := W.pri j h0 h1
    (try simp only [ih_up2, ih_u1x, and_true, true_and, and_self, if_true, if_false, reduceIte] at h ⊢) <;> (repeat' split) <;> first | rfl | omega | (exfalso; omega)
  · have h := W.lit p hp
    have hs := Z p hp
    (by_cases e : p = c) <;> (first | subst e | skip) <;> (try simp only [ih_up2, ih_u1x, and_true, true_and, and_self, if_true, if_false, reduceIte] at h ⊢) <;> (repeat' split) <;> first | rfl | omega | (exfalso; omega)
  · have h := W.sz p hp
    have hs := Z p hp
    (by_cases e : p = c) <;> (first | subst e | skip) <;> (try simp only [ih_up2, ih_u1x, and_true, true_and, and_self, if_true, if_false, reduceIte] at h ⊢) <;> (repeat' split) <;> first | rfl | omega | (exfalso; omega)
  · have hs := Z p hp
    by_cases q : (k : Int) < s (22 + p)
    · have h := W.kd p k hp q
      (by_cases e : p = c) <;> (first | subst e | skip) <;> (try simp only [ih_up2, ih_u1x, and_true, true_and, and_self, if_true, if_false, reduceIte] at h ⊢) <;> (repeat' split) <;> first | rfl | omega | (exfalso; omega)
    · (by_cases e : p = c) <;> (first | subst e | skip) <;> (try simp only [ih_up2, ih_u1x, and_true, true_and, and_self, if_true, if_false, reduceIte] at hk ⊢) <;> (repeat' (split at hk)) <;> first | omega | ((repeat' split) <;> first | rfl | omega | (exfalso; omega))
  · have hs := Z p hp
    by_cases q : (k : Int) < s (22 + p)
    · have h := W.lt p k hp q
      (by_cases e : p = c) <;> (first | subst e | skip) <;> (try simp only [ih_up2, ih_u1x, and_true, true_and, and_self, if_true, if_false, reduceIte] at h ⊢) <;> (repeat' split) <;> first | rfl | omega | (exfalso; omega)
    · (by_cases e : p = c) <;> (first | subst e | skip) <;> (try simp only [ih_up2, ih_u1x, and_true, true_and, and_self, if_true, if_false, reduceIte] at hk ⊢) <;> (repeat' (split at hk)) <;> first | omega | ((repeat' split) <;> first | rfl | omega | (exfalso; omega))
  · have hs := Z p hp
    by_cases q : (k : Int) < s (22 + p)
    · have h := W.ink p k hp q
      (by_cases e : p = c) <;> (first | subst e | skip) <;> (try simp only [ih_up2, ih_u1x, and_true, true_and, and_self, if_true, if_false, reduceIte] at h ⊢) <;> (repeat' split) <;> first | rfl | omega | (exfalso; omega)
    · (by_cases e : p = c) <;> (first | subst e | skip) <;> (try simp only [ih_up2, ih_u1x, and_true, true_and, and_self, if_true, if_false, reduceIte] at hk ⊢) <;> (repeat' (split at hk)) <;> first | omega | ((repeat' split) <;> first | rfl | omega | (exfalso; omega))
  · have hs := Z p hp
    by_cases q : (k : Int) < s (22 + p)
    · have h := W.at_ p k hp q
      (by_cases e : p = c) <;> (first | subst e | skip) <;> (try simp only [ih_up2, ih_u1x, and_true, true_and, and_self, if_true, if_false, reduceIte] at h ⊢) <;> (repeat' split) <;> first | rfl | omega | (exfalso; omega)
    · (by_cases e : p = c) <;> (first | subst e | skip) <;> (try simp only [ih_up2, ih_u1x, and_true, true_and, and_self, if_true, if_false, reduceIte] at hk ⊢) <;> (repeat' (split at hk)) <;> first | omega | ((repeat' split) <;> first | rfl | omega | (exfalso; omega))
  · have h := W.spot i h0 h1
    (try simp only [ih_up2, ih_u1x, and_true, true_and, and_self, if_true, if_false, reduceIte] at h ⊢) <;> (repeat' split) <;> first | rfl | omega | (exfalso; omega)

theorem ih_Wu_cop {t : ih_S} {s : Int → Int} {c m : Nat} {v u : Int} (G : ih_Gd s) (hc : c < 4) (hm : (m : Int) < s (22 + c)) (W : ih_Wr t 1 s) : ih_Wr (ih_up (ih_up t (11 + 5 * c) m v) (10 + 5 * c) m u) 1 (ih_u1 (ih_u1 s (26 + 48 * c + 4 * m + 2) u) (26 + 48 * c + 4 * m + 3) v) := by
  have hn := W.now
  have hzz := W.z
  have Z : ∀ p : Nat, p < 4 → 0 ≤ s (22 + p) ∧ s (22 + p) ≤ 12 := fun p hp => (G.pap p hp).sz
  have Zc := Z c hc
  refine ⟨?_, ?_, fun j h0 h1 => ?_, fun j h0 h1 => ?_, fun p hp => ?_, fun p hp => ?_, fun p k hp hk => ?_, fun p k hp hk => ?_, fun p k hp hk => ?_, fun p k hp hk => ?_, fun i h0 h1 => ?_⟩
  · (try simp only [ih_up2, ih_u1x, and_true, true_and, and_self, if_true, if_false, reduceIte] at ⊢) <;> (repeat' split) <;> first | rfl | omega | (exfalso; omega)
  · (try simp only [ih_up2, ih_u1x, and_true, true_and, and_self, if_true, if_false, reduceIte] at ⊢) <;> (repeat' split) <;> first | rfl | omega | (exfalso; omega)
  · have h := W.las j h0 h1
    (try simp only [ih_up2, ih_u1x, and_true, true_and, and_self, if_true, if_false, reduceIte] at h ⊢) <;> (repeat' split) <;> first | rfl | omega | (exfalso; omega)
  · have h := W.pri j h0 h1
    (try simp only [ih_up2, ih_u1x, and_true, true_and, and_self, if_true, if_false, reduceIte] at h ⊢) <;> (repeat' split) <;> first | rfl | omega | (exfalso; omega)
  · have h := W.lit p hp
    have hs := Z p hp
    (by_cases e : p = c) <;> (first | subst e | skip) <;> (try simp only [ih_up2, ih_u1x, and_true, true_and, and_self, if_true, if_false, reduceIte] at h ⊢) <;> (repeat' split) <;> first | rfl | omega | (exfalso; omega)
  · have h := W.sz p hp
    have hs := Z p hp
    (by_cases e : p = c) <;> (first | subst e | skip) <;> (try simp only [ih_up2, ih_u1x, and_true, true_and, and_self, if_true, if_false, reduceIte] at h ⊢) <;> (repeat' split) <;> first | rfl | omega | (exfalso; omega)
  · have hs := Z p hp
    by_cases q : (k : Int) < s (22 + p)
    · have h := W.kd p k hp q
      (by_cases e : p = c) <;> (first | subst e | skip) <;> (try simp only [ih_up2, ih_u1x, and_true, true_and, and_self, if_true, if_false, reduceIte] at h ⊢) <;> (repeat' split) <;> first | rfl | omega | (exfalso; omega)
    · (by_cases e : p = c) <;> (first | subst e | skip) <;> (try simp only [ih_up2, ih_u1x, and_true, true_and, and_self, if_true, if_false, reduceIte] at hk ⊢) <;> (repeat' (split at hk)) <;> first | omega | ((repeat' split) <;> first | rfl | omega | (exfalso; omega))
  · have hs := Z p hp
    by_cases q : (k : Int) < s (22 + p)
    · have h := W.lt p k hp q
      (by_cases e : p = c) <;> (first | subst e | skip) <;> (try simp only [ih_up2, ih_u1x, and_true, true_and, and_self, if_true, if_false, reduceIte] at h ⊢) <;> (repeat' split) <;> first | rfl | omega | (exfalso; omega)
    · (by_cases e : p = c) <;> (first | subst e | skip) <;> (try simp only [ih_up2, ih_u1x, and_true, true_and, and_self, if_true, if_false, reduceIte] at hk ⊢) <;> (repeat' (split at hk)) <;> first | omega | ((repeat' split) <;> first | rfl | omega | (exfalso; omega))
  · have hs := Z p hp
    by_cases q : (k : Int) < s (22 + p)
    · have h := W.ink p k hp q
      (by_cases e : p = c) <;> (first | subst e | skip) <;> (try simp only [ih_up2, ih_u1x, and_true, true_and, and_self, if_true, if_false, reduceIte] at h ⊢) <;> (repeat' split) <;> first | rfl | omega | (exfalso; omega)
    · (by_cases e : p = c) <;> (first | subst e | skip) <;> (try simp only [ih_up2, ih_u1x, and_true, true_and, and_self, if_true, if_false, reduceIte] at hk ⊢) <;> (repeat' (split at hk)) <;> first | omega | ((repeat' split) <;> first | rfl | omega | (exfalso; omega))
  · have hs := Z p hp
    by_cases q : (k : Int) < s (22 + p)
    · have h := W.at_ p k hp q
      (by_cases e : p = c) <;> (first | subst e | skip) <;> (try simp only [ih_up2, ih_u1x, and_true, true_and, and_self, if_true, if_false, reduceIte] at h ⊢) <;> (repeat' split) <;> first | rfl | omega | (exfalso; omega)
    · (by_cases e : p = c) <;> (first | subst e | skip) <;> (try simp only [ih_up2, ih_u1x, and_true, true_and, and_self, if_true, if_false, reduceIte] at hk ⊢) <;> (repeat' (split at hk)) <;> first | omega | ((repeat' split) <;> first | rfl | omega | (exfalso; omega))
  · have h := W.spot i h0 h1
    (try simp only [ih_up2, ih_u1x, and_true, true_and, and_self, if_true, if_false, reduceIte] at h ⊢) <;> (repeat' split) <;> first | rfl | omega | (exfalso; omega)

set_option maxHeartbeats 4000000 in
theorem ih_Wu_nm {t : ih_S} {s : Int → Int} {c : Nat} {kd lt ink : Int} (G : ih_Gd s) (hc : c < 4) (hm : s (22 + c) < 12) (W : ih_Wr t 1 s) : ih_Wr (ih_up (ih_up (ih_up (ih_up (ih_up t (8 + 5 * c) (s (22 + c)) kd) (9 + 5 * c) (s (22 + c)) lt) (10 + 5 * c) (s (22 + c)) ink) (11 + 5 * c) (s (22 + c)) (s 0)) (7 + 5 * c) 4 (s (22 + c) + 1)) 1 (ih_nm s c kd lt ink) := by
  have hn := W.now
  have hzz := W.z
  have Z : ∀ p : Nat, p < 4 → 0 ≤ s (22 + p) ∧ s (22 + p) ≤ 12 := fun p hp => (G.pap p hp).sz
  have Zc := Z c hc
  refine ⟨?_, ?_, fun j h0 h1 => ?_, fun j h0 h1 => ?_, fun p hp => ?_, fun p hp => ?_, fun p k hp hk => ?_, fun p k hp hk => ?_, fun p k hp hk => ?_, fun p k hp hk => ?_, fun i h0 h1 => ?_⟩
  · (try simp only [ih_up2, ih_u1x, ih_nm, and_true, true_and, and_self, if_true, if_false, reduceIte] at ⊢) <;> (repeat' split) <;> first | rfl | omega | (exfalso; omega)
  · (try simp only [ih_up2, ih_u1x, ih_nm, and_true, true_and, and_self, if_true, if_false, reduceIte] at ⊢) <;> (repeat' split) <;> first | rfl | omega | (exfalso; omega)
  · have h := W.las j h0 h1
    (try simp only [ih_up2, ih_u1x, ih_nm, and_true, true_and, and_self, if_true, if_false, reduceIte] at h ⊢) <;> (repeat' split) <;> first | rfl | omega | (exfalso; omega)
  · have h := W.pri j h0 h1
    (try simp only [ih_up2, ih_u1x, ih_nm, and_true, true_and, and_self, if_true, if_false, reduceIte] at h ⊢) <;> (repeat' split) <;> first | rfl | omega | (exfalso; omega)
  · have h := W.lit p hp
    have hs := Z p hp
    (by_cases e : p = c) <;> (first | subst e | skip) <;> (try simp only [ih_up2, ih_u1x, ih_nm, and_true, true_and, and_self, if_true, if_false, reduceIte] at h ⊢) <;> (repeat' split) <;> first | rfl | omega | (exfalso; omega)
  · have h := W.sz p hp
    have hs := Z p hp
    (by_cases e : p = c) <;> (first | subst e | skip) <;> (try simp only [ih_up2, ih_u1x, ih_nm, and_true, true_and, and_self, if_true, if_false, reduceIte] at h ⊢) <;> (repeat' split) <;> first | rfl | omega | (exfalso; omega)
  · have hs := Z p hp
    by_cases q : (k : Int) < s (22 + p)
    · have h := W.kd p k hp q
      (by_cases e : p = c) <;> (first | subst e | skip) <;> (try simp only [ih_up2, ih_u1x, ih_nm, and_true, true_and, and_self, if_true, if_false, reduceIte] at h ⊢) <;> (repeat' split) <;> first | rfl | omega | (exfalso; omega)
    · by_cases e : p = c
      · subst e
        have ek : (k : Int) = s (22 + p) := by
          simp only [ih_nm, if_true] at hk
          omega
        simp only [ih_up2, ih_nm, ek, eq_self, and_true, true_and, and_self, if_true, if_false, reduceIte]
        (repeat' split) <;> first | rfl | omega | (exfalso; omega)
      · exfalso
        unfold ih_nm at hk
        rw [if_neg (by omega), if_neg (by omega), if_neg (by omega), if_neg (by omega), if_neg (by omega)] at hk
        omega
  · have hs := Z p hp
    by_cases q : (k : Int) < s (22 + p)
    · have h := W.lt p k hp q
      (by_cases e : p = c) <;> (first | subst e | skip) <;> (try simp only [ih_up2, ih_u1x, ih_nm, and_true, true_and, and_self, if_true, if_false, reduceIte] at h ⊢) <;> (repeat' split) <;> first | rfl | omega | (exfalso; omega)
    · by_cases e : p = c
      · subst e
        have ek : (k : Int) = s (22 + p) := by
          simp only [ih_nm, if_true] at hk
          omega
        simp only [ih_up2, ih_nm, ek, eq_self, and_true, true_and, and_self, if_true, if_false, reduceIte]
        (repeat' split) <;> first | rfl | omega | (exfalso; omega)
      · exfalso
        unfold ih_nm at hk
        rw [if_neg (by omega), if_neg (by omega), if_neg (by omega), if_neg (by omega), if_neg (by omega)] at hk
        omega
  · have hs := Z p hp
    by_cases q : (k : Int) < s (22 + p)
    · have h := W.ink p k hp q
      (by_cases e : p = c) <;> (first | subst e | skip) <;> (try simp only [ih_up2, ih_u1x, ih_nm, and_true, true_and, and_self, if_true, if_false, reduceIte] at h ⊢) <;> (repeat' split) <;> first | rfl | omega | (exfalso; omega)
    · by_cases e : p = c
      · subst e
        have ek : (k : Int) = s (22 + p) := by
          simp only [ih_nm, if_true] at hk
          omega
        simp only [ih_up2, ih_nm, ek, eq_self, and_true, true_and, and_self, if_true, if_false, reduceIte]
        (repeat' split) <;> first | rfl | omega | (exfalso; omega)
      · exfalso
        unfold ih_nm at hk
        rw [if_neg (by omega), if_neg (by omega), if_neg (by omega), if_neg (by omega), if_neg (by omega)] at hk
        omega
  · have hs := Z p hp
    by_cases q : (k : Int) < s (22 + p)
    · have h := W.at_ p k hp q
      (by_cases e : p = c) <;> (first | subst e | skip) <;> (try simp only [ih_up2, ih_u1x, ih_nm, and_true, true_and, and_self, if_true, if_false, reduceIte] at h ⊢) <;> (repeat' split) <;> first | rfl | omega | (exfalso; omega)
    · by_cases e : p = c
      · subst e
        have ek : (k : Int) = s (22 + p) := by
          simp only [ih_nm, if_true] at hk
          omega
        simp only [ih_up2, ih_nm, ek, eq_self, and_true, true_and, and_self, if_true, if_false, reduceIte]
        (repeat' split) <;> first | rfl | omega | (exfalso; omega)
      · exfalso
        unfold ih_nm at hk
        rw [if_neg (by omega), if_neg (by omega), if_neg (by omega), if_neg (by omega), if_neg (by omega)] at hk
        omega
  · have h := W.spot i h0 h1
    (try simp only [ih_up2, ih_u1x, ih_nm, and_true, true_and, and_self, if_true, if_false, reduceIte] at h ⊢) <;> (repeat' split) <;> first | rfl | omega | (exfalso; omega)

theorem ih_Gu_now {s : Int → Int} {v : Int} (hv : s 0 ≤ v ∧ v < 10000) (G : ih_Gd s) : ih_Gd (ih_u1 s 0 v) := by
  have hn := G.now
  have Z : ∀ p : Nat, p < 4 → 0 ≤ s (22 + p) ∧ s (22 + p) ≤ 12 := fun p hp => (G.pap p hp).sz
  refine ⟨?_, fun j h0 h1 => ?_, fun p hp => ⟨?_, ?_, fun k hk => ?_, fun k hk => ?_, fun k hk => ?_, fun k hk => ?_, fun j h0 h1 => ?_⟩, fun p k hp hk => ?_, fun i h0 h1 => ?_⟩
  · (try simp only [ih_u1x, and_true, true_and, and_self, if_true, if_false, reduceIte] at ⊢) <;> (repeat' split) <;> first | rfl | omega | (exfalso; omega)
  · have h := G.pri j h0 h1
    (try simp only [ih_u1x, and_true, true_and, and_self, if_true, if_false, reduceIte] at h ⊢) <;> (repeat' split) <;> first | rfl | omega | (exfalso; omega)
  · have hs := Z p hp
    (try simp only [ih_u1x, and_true, true_and, and_self, if_true, if_false, reduceIte] at ⊢) <;> (repeat' split) <;> first | rfl | omega | (exfalso; omega)
  · have h := (G.pap p hp).lit
    have hs := Z p hp
    (try simp only [ih_u1x, and_true, true_and, and_self, if_true, if_false, reduceIte] at h ⊢) <;> (repeat' split) <;> first | rfl | omega | (exfalso; omega)
  · have hs := Z p hp
    by_cases q : (k : Int) < s (22 + p)
    · have h := (G.pap p hp).kd k q
      (try simp only [ih_u1x, and_true, true_and, and_self, if_true, if_false, reduceIte] at h ⊢) <;> (repeat' split) <;> first | rfl | omega | (exfalso; omega)
    · (try simp only [ih_u1x, and_true, true_and, and_self, if_true, if_false, reduceIte] at hk ⊢) <;> (repeat' (split at hk)) <;> first | omega | ((repeat' split) <;> first | rfl | omega | (exfalso; omega))
  · have hs := Z p hp
    by_cases q : (k : Int) < s (22 + p)
    · have h := (G.pap p hp).lt k q
      (try simp only [ih_u1x, and_true, true_and, and_self, if_true, if_false, reduceIte] at h ⊢) <;> (repeat' split) <;> first | rfl | omega | (exfalso; omega)
    · (try simp only [ih_u1x, and_true, true_and, and_self, if_true, if_false, reduceIte] at hk ⊢) <;> (repeat' (split at hk)) <;> first | omega | ((repeat' split) <;> first | rfl | omega | (exfalso; omega))
  · have hs := Z p hp
    by_cases q : (k : Int) < s (22 + p)
    · have h := (G.pap p hp).ink k q
      (try simp only [ih_u1x, and_true, true_and, and_self, if_true, if_false, reduceIte] at h ⊢) <;> (repeat' split) <;> first | rfl | omega | (exfalso; omega)
    · (try simp only [ih_u1x, and_true, true_and, and_self, if_true, if_false, reduceIte] at hk ⊢) <;> (repeat' (split at hk)) <;> first | omega | ((repeat' split) <;> first | rfl | omega | (exfalso; omega))
  · have hs := Z p hp
    by_cases q : (k : Int) < s (22 + p)
    · have h := (G.pap p hp).at_ k q
      (try simp only [ih_u1x, and_true, true_and, and_self, if_true, if_false, reduceIte] at h ⊢) <;> (repeat' split) <;> first | rfl | omega | (exfalso; omega)
    · (try simp only [ih_u1x, and_true, true_and, and_self, if_true, if_false, reduceIte] at hk ⊢) <;> (repeat' (split at hk)) <;> first | omega | ((repeat' split) <;> first | rfl | omega | (exfalso; omega))
  · have h := (G.pap p hp).las j h0 h1
    (try simp only [ih_u1x, and_true, true_and, and_self, if_true, if_false, reduceIte] at h ⊢) <;> (repeat' split) <;> first | rfl | omega | (exfalso; omega)
  · have hs := Z p hp
    by_cases q : (k : Int) < s (22 + p)
    · have h := G.ats p k hp q
      have h2 := (G.pap p hp).at_ k q
      (try simp only [ih_u1x, and_true, true_and, and_self, if_true, if_false, reduceIte] at h ⊢) <;> (repeat' split) <;> first | rfl | omega | (exfalso; omega)
    · (try simp only [ih_u1x, and_true, true_and, and_self, if_true, if_false, reduceIte] at hk ⊢) <;> (repeat' (split at hk)) <;> first | omega | ((repeat' split) <;> first | rfl | omega | (exfalso; omega))
  · rcases G.spot i h0 h1 with h | ⟨p, m, hp, hm, h⟩
    · left
      (try simp only [ih_u1x, and_true, true_and, and_self, if_true, if_false, reduceIte] at h ⊢) <;> (repeat' split) <;> first | rfl | omega | (exfalso; omega)
    · have hs := Z p hp
      refine Or.inr ⟨p, m, hp, ?_, ?_⟩
      · (try simp only [ih_u1x, and_true, true_and, and_self, if_true, if_false, reduceIte] at h ⊢) <;> (repeat' split) <;> first | rfl | omega | (exfalso; omega)
      · (try simp only [ih_u1x, and_true, true_and, and_self, if_true, if_false, reduceIte] at h ⊢) <;> (repeat' split) <;> first | rfl | omega | (exfalso; omega)

theorem ih_Gu_z {s : Int → Int} {v : Int} (G : ih_Gd s) : ih_Gd (ih_u1 s 1 v) := by
  have hn := G.now
  have Z : ∀ p : Nat, p < 4 → 0 ≤ s (22 + p) ∧ s (22 + p) ≤ 12 := fun p hp => (G.pap p hp).sz
  refine ⟨?_, fun j h0 h1 => ?_, fun p hp => ⟨?_, ?_, fun k hk => ?_, fun k hk => ?_, fun k hk => ?_, fun k hk => ?_, fun j h0 h1 => ?_⟩, fun p k hp hk => ?_, fun i h0 h1 => ?_⟩
  · (try simp only [ih_u1x, and_true, true_and, and_self, if_true, if_false, reduceIte] at ⊢) <;> (repeat' split) <;> first | rfl | omega | (exfalso; omega)
  · have h := G.pri j h0 h1
    (try simp only [ih_u1x, and_true, true_and, and_self, if_true, if_false, reduceIte] at h ⊢) <;> (repeat' split) <;> first | rfl | omega | (exfalso; omega)
  · have hs := Z p hp
    (try simp only [ih_u1x, and_true, true_and, and_self, if_true, if_false, reduceIte] at ⊢) <;> (repeat' split) <;> first | rfl | omega | (exfalso; omega)
  · have h := (G.pap p hp).lit
    have hs := Z p hp
    (try simp only [ih_u1x, and_true, true_and, and_self, if_true, if_false, reduceIte] at h ⊢) <;> (repeat' split) <;> first | rfl | omega | (exfalso; omega)
  · have hs := Z p hp
    by_cases q : (k : Int) < s (22 + p)
    · have h := (G.pap p hp).kd k q
      (try simp only [ih_u1x, and_true, true_and, and_self, if_true, if_false, reduceIte] at h ⊢) <;> (repeat' split) <;> first | rfl | omega | (exfalso; omega)
    · (try simp only [ih_u1x, and_true, true_and, and_self, if_true, if_false, reduceIte] at hk ⊢) <;> (repeat' (split at hk)) <;> first | omega | ((repeat' split) <;> first | rfl | omega | (exfalso; omega))
  · have hs := Z p hp
    by_cases q : (k : Int) < s (22 + p)
    · have h := (G.pap p hp).lt k q
      (try simp only [ih_u1x, and_true, true_and, and_self, if_true, if_false, reduceIte] at h ⊢) <;> (repeat' split) <;> first | rfl | omega | (exfalso; omega)
    · (try simp only [ih_u1x, and_true, true_and, and_self, if_true, if_false, reduceIte] at hk ⊢) <;> (repeat' (split at hk)) <;> first | omega | ((repeat' split) <;> first | rfl | omega | (exfalso; omega))
  · have hs := Z p hp
    by_cases q : (k : Int) < s (22 + p)
    · have h := (G.pap p hp).ink k q
      (try simp only [ih_u1x, and_true, true_and, and_self, if_true, if_false, reduceIte] at h ⊢) <;> (repeat' split) <;> first | rfl | omega | (exfalso; omega)
    · (try simp only [ih_u1x, and_true, true_and, and_self, if_true, if_false, reduceIte] at hk ⊢) <;> (repeat' (split at hk)) <;> first | omega | ((repeat' split) <;> first | rfl | omega | (exfalso; omega))
  · have hs := Z p hp
    by_cases q : (k : Int) < s (22 + p)
    · have h := (G.pap p hp).at_ k q
      (try simp only [ih_u1x, and_true, true_and, and_self, if_true, if_false, reduceIte] at h ⊢) <;> (repeat' split) <;> first | rfl | omega | (exfalso; omega)
    · (try simp only [ih_u1x, and_true, true_and, and_self, if_true, if_false, reduceIte] at hk ⊢) <;> (repeat' (split at hk)) <;> first | omega | ((repeat' split) <;> first | rfl | omega | (exfalso; omega))
  · have h := (G.pap p hp).las j h0 h1
    (try simp only [ih_u1x, and_true, true_and, and_self, if_true, if_false, reduceIte] at h ⊢) <;> (repeat' split) <;> first | rfl | omega | (exfalso; omega)
  · have hs := Z p hp
    by_cases q : (k : Int) < s (22 + p)
    · have h := G.ats p k hp q
      have h2 := (G.pap p hp).at_ k q
      (try simp only [ih_u1x, and_true, true_and, and_self, if_true, if_false, reduceIte] at h ⊢) <;> (repeat' split) <;> first | rfl | omega | (exfalso; omega)
    · (try simp only [ih_u1x, and_true, true_and, and_self, if_true, if_false, reduceIte] at hk ⊢) <;> (repeat' (split at hk)) <;> first | omega | ((repeat' split) <;> first | rfl | omega | (exfalso; omega))
  · rcases G.spot i h0 h1 with h | ⟨p, m, hp, hm, h⟩
    · left
      (try simp only [ih_u1x, and_true, true_and, and_self, if_true, if_false, reduceIte] at h ⊢) <;> (repeat' split) <;> first | rfl | omega | (exfalso; omega)
    · have hs := Z p hp
      refine Or.inr ⟨p, m, hp, ?_, ?_⟩
      · (try simp only [ih_u1x, and_true, true_and, and_self, if_true, if_false, reduceIte] at h ⊢) <;> (repeat' split) <;> first | rfl | omega | (exfalso; omega)
      · (try simp only [ih_u1x, and_true, true_and, and_self, if_true, if_false, reduceIte] at h ⊢) <;> (repeat' split) <;> first | rfl | omega | (exfalso; omega)

theorem ih_Gu_las {s : Int → Int} {a v : Int} (ha : 0 ≤ a ∧ a < 8) (hv : 1 ≤ v ∧ v ≤ 999) (G : ih_Gd s) : ih_Gd (ih_u1 s (2 + a) v) := by
  have hn := G.now
  have Z : ∀ p : Nat, p < 4 → 0 ≤ s (22 + p) ∧ s (22 + p) ≤ 12 := fun p hp => (G.pap p hp).sz
  refine ⟨?_, fun j h0 h1 => ?_, fun p hp => ⟨?_, ?_, fun k hk => ?_, fun k hk => ?_, fun k hk => ?_, fun k hk => ?_, fun j h0 h1 => ?_⟩, fun p k hp hk => ?_, fun i h0 h1 => ?_⟩
  · (try simp only [ih_u1x, and_true, true_and, and_self, if_true, if_false, reduceIte] at ⊢) <;> (repeat' split) <;> first | rfl | omega | (exfalso; omega)
  · have h := G.pri j h0 h1
    (try simp only [ih_u1x, and_true, true_and, and_self, if_true, if_false, reduceIte] at h ⊢) <;> (repeat' split) <;> first | rfl | omega | (exfalso; omega)
  · have hs := Z p hp
    (try simp only [ih_u1x, and_true, true_and, and_self, if_true, if_false, reduceIte] at ⊢) <;> (repeat' split) <;> first | rfl | omega | (exfalso; omega)
  · have h := (G.pap p hp).lit
    have hs := Z p hp
    (try simp only [ih_u1x, and_true, true_and, and_self, if_true, if_false, reduceIte] at h ⊢) <;> (repeat' split) <;> first | rfl | omega | (exfalso; omega)
  · have hs := Z p hp
    by_cases q : (k : Int) < s (22 + p)
    · have h := (G.pap p hp).kd k q
      (try simp only [ih_u1x, and_true, true_and, and_self, if_true, if_false, reduceIte] at h ⊢) <;> (repeat' split) <;> first | rfl | omega | (exfalso; omega)
    · (try simp only [ih_u1x, and_true, true_and, and_self, if_true, if_false, reduceIte] at hk ⊢) <;> (repeat' (split at hk)) <;> first | omega | ((repeat' split) <;> first | rfl | omega | (exfalso; omega))
  · have hs := Z p hp
    by_cases q : (k : Int) < s (22 + p)
    · have h := (G.pap p hp).lt k q
      (try simp only [ih_u1x, and_true, true_and, and_self, if_true, if_false, reduceIte] at h ⊢) <;> (repeat' split) <;> first | rfl | omega | (exfalso; omega)
    · (try simp only [ih_u1x, and_true, true_and, and_self, if_true, if_false, reduceIte] at hk ⊢) <;> (repeat' (split at hk)) <;> first | omega | ((repeat' split) <;> first | rfl | omega | (exfalso; omega))
  · have hs := Z p hp
    by_cases q : (k : Int) < s (22 + p)
    · have h := (G.pap p hp).ink k q
      (try simp only [ih_u1x, and_true, true_and, and_self, if_true, if_false, reduceIte] at h ⊢) <;> (repeat' split) <;> first | rfl | omega | (exfalso; omega)
    · (try simp only [ih_u1x, and_true, true_and, and_self, if_true, if_false, reduceIte] at hk ⊢) <;> (repeat' (split at hk)) <;> first | omega | ((repeat' split) <;> first | rfl | omega | (exfalso; omega))
  · have hs := Z p hp
    by_cases q : (k : Int) < s (22 + p)
    · have h := (G.pap p hp).at_ k q
      (try simp only [ih_u1x, and_true, true_and, and_self, if_true, if_false, reduceIte] at h ⊢) <;> (repeat' split) <;> first | rfl | omega | (exfalso; omega)
    · (try simp only [ih_u1x, and_true, true_and, and_self, if_true, if_false, reduceIte] at hk ⊢) <;> (repeat' (split at hk)) <;> first | omega | ((repeat' split) <;> first | rfl | omega | (exfalso; omega))
  · have h := (G.pap p hp).las j h0 h1
    (try simp only [ih_u1x, and_true, true_and, and_self, if_true, if_false, reduceIte] at h ⊢) <;> (repeat' split) <;> first | rfl | omega | (exfalso; omega)
  · have hs := Z p hp
    by_cases q : (k : Int) < s (22 + p)
    · have h := G.ats p k hp q
      have h2 := (G.pap p hp).at_ k q
      (try simp only [ih_u1x, and_true, true_and, and_self, if_true, if_false, reduceIte] at h ⊢) <;> (repeat' split) <;> first | rfl | omega | (exfalso; omega)
    · (try simp only [ih_u1x, and_true, true_and, and_self, if_true, if_false, reduceIte] at hk ⊢) <;> (repeat' (split at hk)) <;> first | omega | ((repeat' split) <;> first | rfl | omega | (exfalso; omega))
  · rcases G.spot i h0 h1 with h | ⟨p, m, hp, hm, h⟩
    · left
      (try simp only [ih_u1x, and_true, true_and, and_self, if_true, if_false, reduceIte] at h ⊢) <;> (repeat' split) <;> first | rfl | omega | (exfalso; omega)
    · have hs := Z p hp
      refine Or.inr ⟨p, m, hp, ?_, ?_⟩
      · (try simp only [ih_u1x, and_true, true_and, and_self, if_true, if_false, reduceIte] at h ⊢) <;> (repeat' split) <;> first | rfl | omega | (exfalso; omega)
      · (try simp only [ih_u1x, and_true, true_and, and_self, if_true, if_false, reduceIte] at h ⊢) <;> (repeat' split) <;> first | rfl | omega | (exfalso; omega)

theorem ih_Gu_pri {s : Int → Int} {a v : Int} (ha : 0 ≤ a ∧ a < 8) (hv : 0 ≤ v ∧ v < 100) (G : ih_Gd s) : ih_Gd (ih_u1 s (10 + a) v) := by
  have hn := G.now
  have Z : ∀ p : Nat, p < 4 → 0 ≤ s (22 + p) ∧ s (22 + p) ≤ 12 := fun p hp => (G.pap p hp).sz
  refine ⟨?_, fun j h0 h1 => ?_, fun p hp => ⟨?_, ?_, fun k hk => ?_, fun k hk => ?_, fun k hk => ?_, fun k hk => ?_, fun j h0 h1 => ?_⟩, fun p k hp hk => ?_, fun i h0 h1 => ?_⟩
  · (try simp only [ih_u1x, and_true, true_and, and_self, if_true, if_false, reduceIte] at ⊢) <;> (repeat' split) <;> first | rfl | omega | (exfalso; omega)
  · have h := G.pri j h0 h1
    (try simp only [ih_u1x, and_true, true_and, and_self, if_true, if_false, reduceIte] at h ⊢) <;> (repeat' split) <;> first | rfl | omega | (exfalso; omega)
  · have hs := Z p hp
    (try simp only [ih_u1x, and_true, true_and, and_self, if_true, if_false, reduceIte] at ⊢) <;> (repeat' split) <;> first | rfl | omega | (exfalso; omega)
  · have h := (G.pap p hp).lit
    have hs := Z p hp
    (try simp only [ih_u1x, and_true, true_and, and_self, if_true, if_false, reduceIte] at h ⊢) <;> (repeat' split) <;> first | rfl | omega | (exfalso; omega)
  · have hs := Z p hp
    by_cases q : (k : Int) < s (22 + p)
    · have h := (G.pap p hp).kd k q
      (try simp only [ih_u1x, and_true, true_and, and_self, if_true, if_false, reduceIte] at h ⊢) <;> (repeat' split) <;> first | rfl | omega | (exfalso; omega)
    · (try simp only [ih_u1x, and_true, true_and, and_self, if_true, if_false, reduceIte] at hk ⊢) <;> (repeat' (split at hk)) <;> first | omega | ((repeat' split) <;> first | rfl | omega | (exfalso; omega))
  · have hs := Z p hp
    by_cases q : (k : Int) < s (22 + p)
    · have h := (G.pap p hp).lt k q
      (try simp only [ih_u1x, and_true, true_and, and_self, if_true, if_false, reduceIte] at h ⊢) <;> (repeat' split) <;> first | rfl | omega | (exfalso; omega)
    · (try simp only [ih_u1x, and_true, true_and, and_self, if_true, if_false, reduceIte] at hk ⊢) <;> (repeat' (split at hk)) <;> first | omega | ((repeat' split) <;> first | rfl | omega | (exfalso; omega))
  · have hs := Z p hp
    by_cases q : (k : Int) < s (22 + p)
    · have h := (G.pap p hp).ink k q
      (try simp only [ih_u1x, and_true, true_and, and_self, if_true, if_false, reduceIte] at h ⊢) <;> (repeat' split) <;> first | rfl | omega | (exfalso; omega)
    · (try simp only [ih_u1x, and_true, true_and, and_self, if_true, if_false, reduceIte] at hk ⊢) <;> (repeat' (split at hk)) <;> first | omega | ((repeat' split) <;> first | rfl | omega | (exfalso; omega))
  · have hs := Z p hp
    by_cases q : (k : Int) < s (22 + p)
    · have h := (G.pap p hp).at_ k q
      (try simp only [ih_u1x, and_true, true_and, and_self, if_true, if_false, reduceIte] at h ⊢) <;> (repeat' split) <;> first | rfl | omega | (exfalso; omega)
    · (try simp only [ih_u1x, and_true, true_and, and_self, if_true, if_false, reduceIte] at hk ⊢) <;> (repeat' (split at hk)) <;> first | omega | ((repeat' split) <;> first | rfl | omega | (exfalso; omega))
  · have h := (G.pap p hp).las j h0 h1
    (try simp only [ih_u1x, and_true, true_and, and_self, if_true, if_false, reduceIte] at h ⊢) <;> (repeat' split) <;> first | rfl | omega | (exfalso; omega)
  · have hs := Z p hp
    by_cases q : (k : Int) < s (22 + p)
    · have h := G.ats p k hp q
      have h2 := (G.pap p hp).at_ k q
      (try simp only [ih_u1x, and_true, true_and, and_self, if_true, if_false, reduceIte] at h ⊢) <;> (repeat' split) <;> first | rfl | omega | (exfalso; omega)
    · (try simp only [ih_u1x, and_true, true_and, and_self, if_true, if_false, reduceIte] at hk ⊢) <;> (repeat' (split at hk)) <;> first | omega | ((repeat' split) <;> first | rfl | omega | (exfalso; omega))
  · rcases G.spot i h0 h1 with h | ⟨p, m, hp, hm, h⟩
    · left
      (try simp only [ih_u1x, and_true, true_and, and_self, if_true, if_false, reduceIte] at h ⊢) <;> (repeat' split) <;> first | rfl | omega | (exfalso; omega)
    · have hs := Z p hp
      refine Or.inr ⟨p, m, hp, ?_, ?_⟩
      · (try simp only [ih_u1x, and_true, true_and, and_self, if_true, if_false, reduceIte] at h ⊢) <;> (repeat' split) <;> first | rfl | omega | (exfalso; omega)
      · (try simp only [ih_u1x, and_true, true_and, and_self, if_true, if_false, reduceIte] at h ⊢) <;> (repeat' split) <;> first | rfl | omega | (exfalso; omega)

theorem ih_Gu_lit {s : Int → Int} {c : Nat} {v : Int} (hc : c < 4) (hv : v = 0 ∨ v = 1) (G : ih_Gd s) : ih_Gd (ih_u1 s (18 + c) v) := by
  have hn := G.now
  have Z : ∀ p : Nat, p < 4 → 0 ≤ s (22 + p) ∧ s (22 + p) ≤ 12 := fun p hp => (G.pap p hp).sz
  refine ⟨?_, fun j h0 h1 => ?_, fun p hp => ⟨?_, ?_, fun k hk => ?_, fun k hk => ?_, fun k hk => ?_, fun k hk => ?_, fun j h0 h1 => ?_⟩, fun p k hp hk => ?_, fun i h0 h1 => ?_⟩
  · (try simp only [ih_u1x, and_true, true_and, and_self, if_true, if_false, reduceIte] at ⊢) <;> (repeat' split) <;> first | rfl | omega | (exfalso; omega)
  · have h := G.pri j h0 h1
    (try simp only [ih_u1x, and_true, true_and, and_self, if_true, if_false, reduceIte] at h ⊢) <;> (repeat' split) <;> first | rfl | omega | (exfalso; omega)
  · have hs := Z p hp
    (by_cases e : p = c) <;> (first | subst e | skip) <;> (try simp only [ih_u1x, and_true, true_and, and_self, if_true, if_false, reduceIte] at ⊢) <;> (repeat' split) <;> first | rfl | omega | (exfalso; omega)
  · have h := (G.pap p hp).lit
    have hs := Z p hp
    (by_cases e : p = c) <;> (first | subst e | skip) <;> (try simp only [ih_u1x, and_true, true_and, and_self, if_true, if_false, reduceIte] at h ⊢) <;> (repeat' split) <;> first | rfl | omega | (exfalso; omega)
  · have hs := Z p hp
    by_cases q : (k : Int) < s (22 + p)
    · have h := (G.pap p hp).kd k q
      (by_cases e : p = c) <;> (first | subst e | skip) <;> (try simp only [ih_u1x, and_true, true_and, and_self, if_true, if_false, reduceIte] at h ⊢) <;> (repeat' split) <;> first | rfl | omega | (exfalso; omega)
    · (by_cases e : p = c) <;> (first | subst e | skip) <;> (try simp only [ih_u1x, and_true, true_and, and_self, if_true, if_false, reduceIte] at hk ⊢) <;> (repeat' (split at hk)) <;> first | omega | ((repeat' split) <;> first | rfl | omega | (exfalso; omega))
  · have hs := Z p hp
    by_cases q : (k : Int) < s (22 + p)
    · have h := (G.pap p hp).lt k q
      (by_cases e : p = c) <;> (first | subst e | skip) <;> (try simp only [ih_u1x, and_true, true_and, and_self, if_true, if_false, reduceIte] at h ⊢) <;> (repeat' split) <;> first | rfl | omega | (exfalso; omega)
    · (by_cases e : p = c) <;> (first | subst e | skip) <;> (try simp only [ih_u1x, and_true, true_and, and_self, if_true, if_false, reduceIte] at hk ⊢) <;> (repeat' (split at hk)) <;> first | omega | ((repeat' split) <;> first | rfl | omega | (exfalso; omega))
  · have hs := Z p hp
    by_cases q : (k : Int) < s (22 + p)
    · have h := (G.pap p hp).ink k q
      (by_cases e : p = c) <;> (first | subst e | skip) <;> (try simp only [ih_u1x, and_true, true_and, and_self, if_true, if_false, reduceIte] at h ⊢) <;> (repeat' split) <;> first | rfl | omega | (exfalso; omega)
    · (by_cases e : p = c) <;> (first | subst e | skip) <;> (try simp only [ih_u1x, and_true, true_and, and_self, if_true, if_false, reduceIte] at hk ⊢) <;> (repeat' (split at hk)) <;> first | omega | ((repeat' split) <;> first | rfl | omega | (exfalso; omega))
  · have hs := Z p hp
    by_cases q : (k : Int) < s (22 + p)
    · have h := (G.pap p hp).at_ k q
      (by_cases e : p = c) <;> (first | subst e | skip) <;> (try simp only [ih_u1x, and_true, true_and, and_self, if_true, if_false, reduceIte] at h ⊢) <;> (repeat' split) <;> first | rfl | omega | (exfalso; omega)
    · (by_cases e : p = c) <;> (first | subst e | skip) <;> (try simp only [ih_u1x, and_true, true_and, and_self, if_true, if_false, reduceIte] at hk ⊢) <;> (repeat' (split at hk)) <;> first | omega | ((repeat' split) <;> first | rfl | omega | (exfalso; omega))
  · have h := (G.pap p hp).las j h0 h1
    (try simp only [ih_u1x, and_true, true_and, and_self, if_true, if_false, reduceIte] at h ⊢) <;> (repeat' split) <;> first | rfl | omega | (exfalso; omega)
  · have hs := Z p hp
    by_cases q : (k : Int) < s (22 + p)
    · have h := G.ats p k hp q
      have h2 := (G.pap p hp).at_ k q
      (by_cases e : p = c) <;> (first | subst e | skip) <;> (try simp only [ih_u1x, and_true, true_and, and_self, if_true, if_false, reduceIte] at h ⊢) <;> (repeat' split) <;> first | rfl | omega | (exfalso; omega)
    · (by_cases e : p = c) <;> (first | subst e | skip) <;> (try simp only [ih_u1x, and_true, true_and, and_self, if_true, if_false, reduceIte] at hk ⊢) <;> (repeat' (split at hk)) <;> first | omega | ((repeat' split) <;> first | rfl | omega | (exfalso; omega))
  · rcases G.spot i h0 h1 with h | ⟨p, m, hp, hm, h⟩
    · left
      (try simp only [ih_u1x, and_true, true_and, and_self, if_true, if_false, reduceIte] at h ⊢) <;> (repeat' split) <;> first | rfl | omega | (exfalso; omega)
    · have hs := Z p hp
      refine Or.inr ⟨p, m, hp, ?_, ?_⟩
      · (by_cases e : p = c) <;> (first | subst e | skip) <;> (try simp only [ih_u1x, and_true, true_and, and_self, if_true, if_false, reduceIte] at h ⊢) <;> (repeat' split) <;> first | rfl | omega | (exfalso; omega)
      · (by_cases e : p = c) <;> (first | subst e | skip) <;> (try simp only [ih_u1x, and_true, true_and, and_self, if_true, if_false, reduceIte] at h ⊢) <;> (repeat' split) <;> first | rfl | omega | (exfalso; omega)

theorem ih_Gu_kd {s : Int → Int} {c m : Nat} {v : Int} (hc : c < 4) (hm : (m : Int) < s (22 + c)) (hv : 0 ≤ v ∧ v < 7) (G : ih_Gd s) : ih_Gd (ih_u1 s (26 + 48 * c + 4 * m) v) := by
  have hn := G.now
  have Z : ∀ p : Nat, p < 4 → 0 ≤ s (22 + p) ∧ s (22 + p) ≤ 12 := fun p hp => (G.pap p hp).sz
  have Zc := Z c hc
  refine ⟨?_, fun j h0 h1 => ?_, fun p hp => ⟨?_, ?_, fun k hk => ?_, fun k hk => ?_, fun k hk => ?_, fun k hk => ?_, fun j h0 h1 => ?_⟩, fun p k hp hk => ?_, fun i h0 h1 => ?_⟩
  · (try simp only [ih_u1x, and_true, true_and, and_self, if_true, if_false, reduceIte] at ⊢) <;> (repeat' split) <;> first | rfl | omega | (exfalso; omega)
  · have h := G.pri j h0 h1
    (try simp only [ih_u1x, and_true, true_and, and_self, if_true, if_false, reduceIte] at h ⊢) <;> (repeat' split) <;> first | rfl | omega | (exfalso; omega)
  · have hs := Z p hp
    (by_cases e : p = c) <;> (first | subst e | skip) <;> (try simp only [ih_u1x, and_true, true_and, and_self, if_true, if_false, reduceIte] at ⊢) <;> (repeat' split) <;> first | rfl | omega | (exfalso; omega)
  · have h := (G.pap p hp).lit
    have hs := Z p hp
    (by_cases e : p = c) <;> (first | subst e | skip) <;> (try simp only [ih_u1x, and_true, true_and, and_self, if_true, if_false, reduceIte] at h ⊢) <;> (repeat' split) <;> first | rfl | omega | (exfalso; omega)
  · have hs := Z p hp
    by_cases q : (k : Int) < s (22 + p)
    · have h := (G.pap p hp).kd k q
      (by_cases e : p = c) <;> (first | subst e | skip) <;> (try simp only [ih_u1x, and_true, true_and, and_self, if_true, if_false, reduceIte] at h ⊢) <;> (repeat' split) <;> first | rfl | omega | (exfalso; omega)
    · (by_cases e : p = c) <;> (first | subst e | skip) <;> (try simp only [ih_u1x, and_true, true_and, and_self, if_true, if_false, reduceIte] at hk ⊢) <;> (repeat' (split at hk)) <;> first | omega | ((repeat' split) <;> first | rfl | omega | (exfalso; omega))
  · have hs := Z p hp
    by_cases q : (k : Int) < s (22 + p)
    · have h := (G.pap p hp).lt k q
      (by_cases e : p = c) <;> (first | subst e | skip) <;> (try simp only [ih_u1x, and_true, true_and, and_self, if_true, if_false, reduceIte] at h ⊢) <;> (repeat' split) <;> first | rfl | omega | (exfalso; omega)
    · (by_cases e : p = c) <;> (first | subst e | skip) <;> (try simp only [ih_u1x, and_true, true_and, and_self, if_true, if_false, reduceIte] at hk ⊢) <;> (repeat' (split at hk)) <;> first | omega | ((repeat' split) <;> first | rfl | omega | (exfalso; omega))
  · have hs := Z p hp
    by_cases q : (k : Int) < s (22 + p)
    · have h := (G.pap p hp).ink k q
      (by_cases e : p = c) <;> (first | subst e | skip) <;> (try simp only [ih_u1x, and_true, true_and, and_self, if_true, if_false, reduceIte] at h ⊢) <;> (repeat' split) <;> first | rfl | omega | (exfalso; omega)
    · (by_cases e : p = c) <;> (first | subst e | skip) <;> (try simp only [ih_u1x, and_true, true_and, and_self, if_true, if_false, reduceIte] at hk ⊢) <;> (repeat' (split at hk)) <;> first | omega | ((repeat' split) <;> first | rfl | omega | (exfalso; omega))
  · have hs := Z p hp
    by_cases q : (k : Int) < s (22 + p)
    · have h := (G.pap p hp).at_ k q
      (by_cases e : p = c) <;> (first | subst e | skip) <;> (try simp only [ih_u1x, and_true, true_and, and_self, if_true, if_false, reduceIte] at h ⊢) <;> (repeat' split) <;> first | rfl | omega | (exfalso; omega)
    · (by_cases e : p = c) <;> (first | subst e | skip) <;> (try simp only [ih_u1x, and_true, true_and, and_self, if_true, if_false, reduceIte] at hk ⊢) <;> (repeat' (split at hk)) <;> first | omega | ((repeat' split) <;> first | rfl | omega | (exfalso; omega))
  · have h := (G.pap p hp).las j h0 h1
    (try simp only [ih_u1x, and_true, true_and, and_self, if_true, if_false, reduceIte] at h ⊢) <;> (repeat' split) <;> first | rfl | omega | (exfalso; omega)
  · have hs := Z p hp
    by_cases q : (k : Int) < s (22 + p)
    · have h := G.ats p k hp q
      have h2 := (G.pap p hp).at_ k q
      (by_cases e : p = c) <;> (first | subst e | skip) <;> (try simp only [ih_u1x, and_true, true_and, and_self, if_true, if_false, reduceIte] at h ⊢) <;> (repeat' split) <;> first | rfl | omega | (exfalso; omega)
    · (by_cases e : p = c) <;> (first | subst e | skip) <;> (try simp only [ih_u1x, and_true, true_and, and_self, if_true, if_false, reduceIte] at hk ⊢) <;> (repeat' (split at hk)) <;> first | omega | ((repeat' split) <;> first | rfl | omega | (exfalso; omega))
  · rcases G.spot i h0 h1 with h | ⟨p, m, hp, hm, h⟩
    · left
      (try simp only [ih_u1x, and_true, true_and, and_self, if_true, if_false, reduceIte] at h ⊢) <;> (repeat' split) <;> first | rfl | omega | (exfalso; omega)
    · have hs := Z p hp
      refine Or.inr ⟨p, m, hp, ?_, ?_⟩
      · (by_cases e : p = c) <;> (first | subst e | skip) <;> (try simp only [ih_u1x, and_true, true_and, and_self, if_true, if_false, reduceIte] at h ⊢) <;> (repeat' split) <;> first | rfl | omega | (exfalso; omega)
      · (by_cases e : p = c) <;> (first | subst e | skip) <;> (try simp only [ih_u1x, and_true, true_and, and_self, if_true, if_false, reduceIte] at h ⊢) <;> (repeat' split) <;> first | rfl | omega | (exfalso; omega)

theorem ih_Gu_cop {s : Int → Int} {c m : Nat} {u : Int} (hc : c < 4) (hm : (m : Int) < s (22 + c)) (hv : 0 ≤ u ∧ u < 8) (G : ih_Gd s) : ih_Gd (ih_u1 (ih_u1 s (26 + 48 * c + 4 * m + 2) u) (26 + 48 * c + 4 * m + 3) (s 0)) := by
  have hn := G.now
  have Z : ∀ p : Nat, p < 4 → 0 ≤ s (22 + p) ∧ s (22 + p) ≤ 12 := fun p hp => (G.pap p hp).sz
  have Zc := Z c hc
  refine ⟨?_, fun j h0 h1 => ?_, fun p hp => ⟨?_, ?_, fun k hk => ?_, fun k hk => ?_, fun k hk => ?_, fun k hk => ?_, fun j h0 h1 => ?_⟩, fun p k hp hk => ?_, fun i h0 h1 => ?_⟩
  · (try simp only [ih_u1x, and_true, true_and, and_self, if_true, if_false, reduceIte] at ⊢) <;> (repeat' split) <;> first | rfl | omega | (exfalso; omega)
  · have h := G.pri j h0 h1
    (try simp only [ih_u1x, and_true, true_and, and_self, if_true, if_false, reduceIte] at h ⊢) <;> (repeat' split) <;> first | rfl | omega | (exfalso; omega)
  · have hs := Z p hp
    (by_cases e : p = c) <;> (first | subst e | skip) <;> (try simp only [ih_u1x, and_true, true_and, and_self, if_true, if_false, reduceIte] at ⊢) <;> (repeat' split) <;> first | rfl | omega | (exfalso; omega)
  · have h := (G.pap p hp).lit
    have hs := Z p hp
    (by_cases e : p = c) <;> (first | subst e | skip) <;> (try simp only [ih_u1x, and_true, true_and, and_self, if_true, if_false, reduceIte] at h ⊢) <;> (repeat' split) <;> first | rfl | omega | (exfalso; omega)
  · have hs := Z p hp
    by_cases q : (k : Int) < s (22 + p)
    · have h := (G.pap p hp).kd k q
      (by_cases e : p = c) <;> (first | subst e | skip) <;> (try simp only [ih_u1x, and_true, true_and, and_self, if_true, if_false, reduceIte] at h ⊢) <;> (repeat' split) <;> first | rfl | omega | (exfalso; omega)
    · (by_cases e : p = c) <;> (first | subst e | skip) <;> (try simp only [ih_u1x, and_true, true_and, and_self, if_true, if_false, reduceIte] at hk ⊢) <;> (repeat' (split at hk)) <;> first | omega | ((repeat' split) <;> first | rfl | omega | (exfalso; omega))
  · have hs := Z p hp
    by_cases q : (k : Int) < s (22 + p)
    · have h := (G.pap p hp).lt k q
      (by_cases e : p = c) <;> (first | subst e | skip) <;> (try simp only [ih_u1x, and_true, true_and, and_self, if_true, if_false, reduceIte] at h ⊢) <;> (repeat' split) <;> first | rfl | omega | (exfalso; omega)
    · (by_cases e : p = c) <;> (first | subst e | skip) <;> (try simp only [ih_u1x, and_true, true_and, and_self, if_true, if_false, reduceIte] at hk ⊢) <;> (repeat' (split at hk)) <;> first | omega | ((repeat' split) <;> first | rfl | omega | (exfalso; omega))
  · have hs := Z p hp
    by_cases q : (k : Int) < s (22 + p)
    · have h := (G.pap p hp).ink k q
      (by_cases e : p = c) <;> (first | subst e | skip) <;> (try simp only [ih_u1x, and_true, true_and, and_self, if_true, if_false, reduceIte] at h ⊢) <;> (repeat' split) <;> first | rfl | omega | (exfalso; omega)
    · (by_cases e : p = c) <;> (first | subst e | skip) <;> (try simp only [ih_u1x, and_true, true_and, and_self, if_true, if_false, reduceIte] at hk ⊢) <;> (repeat' (split at hk)) <;> first | omega | ((repeat' split) <;> first | rfl | omega | (exfalso; omega))
  · have hs := Z p hp
    by_cases q : (k : Int) < s (22 + p)
    · have h := (G.pap p hp).at_ k q
      (by_cases e : p = c) <;> (first | subst e | skip) <;> (try simp only [ih_u1x, and_true, true_and, and_self, if_true, if_false, reduceIte] at h ⊢) <;> (repeat' split) <;> first | rfl | omega | (exfalso; omega)
    · (by_cases e : p = c) <;> (first | subst e | skip) <;> (try simp only [ih_u1x, and_true, true_and, and_self, if_true, if_false, reduceIte] at hk ⊢) <;> (repeat' (split at hk)) <;> first | omega | ((repeat' split) <;> first | rfl | omega | (exfalso; omega))
  · have h := (G.pap p hp).las j h0 h1
    (try simp only [ih_u1x, and_true, true_and, and_self, if_true, if_false, reduceIte] at h ⊢) <;> (repeat' split) <;> first | rfl | omega | (exfalso; omega)
  · have hs := Z p hp
    by_cases q : (k : Int) < s (22 + p)
    · have h := G.ats p k hp q
      have h2 := (G.pap p hp).at_ k q
      (by_cases e : p = c) <;> (first | subst e | skip) <;> (try simp only [ih_u1x, and_true, true_and, and_self, if_true, if_false, reduceIte] at h ⊢) <;> (repeat' split) <;> first | rfl | omega | (exfalso; omega)
    · (by_cases e : p = c) <;> (first | subst e | skip) <;> (try simp only [ih_u1x, and_true, true_and, and_self, if_true, if_false, reduceIte] at hk ⊢) <;> (repeat' (split at hk)) <;> first | omega | ((repeat' split) <;> first | rfl | omega | (exfalso; omega))
  · rcases G.spot i h0 h1 with h | ⟨p, m, hp, hm, h⟩
    · left
      (try simp only [ih_u1x, and_true, true_and, and_self, if_true, if_false, reduceIte] at h ⊢) <;> (repeat' split) <;> first | rfl | omega | (exfalso; omega)
    · have hs := Z p hp
      refine Or.inr ⟨p, m, hp, ?_, ?_⟩
      · (by_cases e : p = c) <;> (first | subst e | skip) <;> (try simp only [ih_u1x, and_true, true_and, and_self, if_true, if_false, reduceIte] at h ⊢) <;> (repeat' split) <;> first | rfl | omega | (exfalso; omega)
      · (by_cases e : p = c) <;> (first | subst e | skip) <;> (try simp only [ih_u1x, and_true, true_and, and_self, if_true, if_false, reduceIte] at h ⊢) <;> (repeat' split) <;> first | rfl | omega | (exfalso; omega)

theorem ih_Gu_nm {s : Int → Int} {c : Nat} {kd lt ink : Int} (hc : c < 4) (hm : s (22 + c) < 12) (h1 : 0 ≤ kd ∧ kd < 7) (h2 : 0 ≤ lt ∧ lt < 4) (h3 : 0 ≤ ink ∧ ink < 8) (G : ih_Gd s) : ih_Gd (ih_nm s c kd lt ink) := by
  have hn := G.now
  have Z : ∀ p : Nat, p < 4 → 0 ≤ s (22 + p) ∧ s (22 + p) ≤ 12 := fun p hp => (G.pap p hp).sz
  have Zc := Z c hc
  refine ⟨?_, fun j h0 h1 => ?_, fun p hp => ⟨?_, ?_, fun k hk => ?_, fun k hk => ?_, fun k hk => ?_, fun k hk => ?_, fun j h0 h1 => ?_⟩, fun p k hp hk => ?_, fun i h0 h1 => ?_⟩
  · (try simp only [ih_u1x, ih_nm, and_true, true_and, and_self, if_true, if_false, reduceIte] at ⊢) <;> (repeat' split) <;> first | rfl | omega | (exfalso; omega)
  · have h := G.pri j h0 h1
    (try simp only [ih_u1x, ih_nm, and_true, true_and, and_self, if_true, if_false, reduceIte] at h ⊢) <;> (repeat' split) <;> first | rfl | omega | (exfalso; omega)
  · have hs := Z p hp
    (by_cases e : p = c) <;> (first | subst e | skip) <;> (try simp only [ih_u1x, ih_nm, and_true, true_and, and_self, if_true, if_false, reduceIte] at ⊢) <;> (repeat' split) <;> first | rfl | omega | (exfalso; omega)
  · have h := (G.pap p hp).lit
    have hs := Z p hp
    (by_cases e : p = c) <;> (first | subst e | skip) <;> (try simp only [ih_u1x, ih_nm, and_true, true_and, and_self, if_true, if_false, reduceIte] at h ⊢) <;> (repeat' split) <;> first | rfl | omega | (exfalso; omega)
  · have hs := Z p hp
    by_cases q : (k : Int) < s (22 + p)
    · have h := (G.pap p hp).kd k q
      (by_cases e : p = c) <;> (first | subst e | skip) <;> (try simp only [ih_u1x, ih_nm, and_true, true_and, and_self, if_true, if_false, reduceIte] at h ⊢) <;> (repeat' split) <;> first | rfl | omega | (exfalso; omega)
    · (by_cases e : p = c) <;> (first | subst e | skip) <;> (try simp only [ih_u1x, ih_nm, and_true, true_and, and_self, if_true, if_false, reduceIte] at hk ⊢) <;> (repeat' (split at hk)) <;> first | omega | ((repeat' split) <;> first | rfl | omega | (exfalso; omega))
  · have hs := Z p hp
    by_cases q : (k : Int) < s (22 + p)
    · have h := (G.pap p hp).lt k q
      (by_cases e : p = c) <;> (first | subst e | skip) <;> (try simp only [ih_u1x, ih_nm, and_true, true_and, and_self, if_true, if_false, reduceIte] at h ⊢) <;> (repeat' split) <;> first | rfl | omega | (exfalso; omega)
    · (by_cases e : p = c) <;> (first | subst e | skip) <;> (try simp only [ih_u1x, ih_nm, and_true, true_and, and_self, if_true, if_false, reduceIte] at hk ⊢) <;> (repeat' (split at hk)) <;> first | omega | ((repeat' split) <;> first | rfl | omega | (exfalso; omega))
  · have hs := Z p hp
    by_cases q : (k : Int) < s (22 + p)
    · have h := (G.pap p hp).ink k q
      (by_cases e : p = c) <;> (first | subst e | skip) <;> (try simp only [ih_u1x, ih_nm, and_true, true_and, and_self, if_true, if_false, reduceIte] at h ⊢) <;> (repeat' split) <;> first | rfl | omega | (exfalso; omega)
    · (by_cases e : p = c) <;> (first | subst e | skip) <;> (try simp only [ih_u1x, ih_nm, and_true, true_and, and_self, if_true, if_false, reduceIte] at hk ⊢) <;> (repeat' (split at hk)) <;> first | omega | ((repeat' split) <;> first | rfl | omega | (exfalso; omega))
  · have hs := Z p hp
    by_cases q : (k : Int) < s (22 + p)
    · have h := (G.pap p hp).at_ k q
      (by_cases e : p = c) <;> (first | subst e | skip) <;> (try simp only [ih_u1x, ih_nm, and_true, true_and, and_self, if_true, if_false, reduceIte] at h ⊢) <;> (repeat' split) <;> first | rfl | omega | (exfalso; omega)
    · (by_cases e : p = c) <;> (first | subst e | skip) <;> (try simp only [ih_u1x, ih_nm, and_true, true_and, and_self, if_true, if_false, reduceIte] at hk ⊢) <;> (repeat' (split at hk)) <;> first | omega | ((repeat' split) <;> first | rfl | omega | (exfalso; omega))
  · have h := (G.pap p hp).las j h0 h1
    (try simp only [ih_u1x, ih_nm, and_true, true_and, and_self, if_true, if_false, reduceIte] at h ⊢) <;> (repeat' split) <;> first | rfl | omega | (exfalso; omega)
  · have hs := Z p hp
    by_cases q : (k : Int) < s (22 + p)
    · have h := G.ats p k hp q
      have h2 := (G.pap p hp).at_ k q
      (by_cases e : p = c) <;> (first | subst e | skip) <;> (try simp only [ih_u1x, ih_nm, and_true, true_and, and_self, if_true, if_false, reduceIte] at h ⊢) <;> (repeat' split) <;> first | rfl | omega | (exfalso; omega)
    · (by_cases e : p = c) <;> (first | subst e | skip) <;> (try simp only [ih_u1x, ih_nm, and_true, true_and, and_self, if_true, if_false, reduceIte] at hk ⊢) <;> (repeat' (split at hk)) <;> first | omega | ((repeat' split) <;> first | rfl | omega | (exfalso; omega))
  · rcases G.spot i h0 h1 with h | ⟨p, m, hp, hm, h⟩
    · left
      (try simp only [ih_u1x, ih_nm, and_true, true_and, and_self, if_true, if_false, reduceIte] at h ⊢) <;> (repeat' split) <;> first | rfl | omega | (exfalso; omega)
    · have hs := Z p hp
      refine Or.inr ⟨p, m, hp, ?_, ?_⟩
      · (by_cases e : p = c) <;> (first | subst e | skip) <;> (try simp only [ih_u1x, ih_nm, and_true, true_and, and_self, if_true, if_false, reduceIte] at h ⊢) <;> (repeat' split) <;> first | rfl | omega | (exfalso; omega)
      · (by_cases e : p = c) <;> (first | subst e | skip) <;> (try simp only [ih_u1x, ih_nm, and_true, true_and, and_self, if_true, if_false, reduceIte] at h ⊢) <;> (repeat' split) <;> first | rfl | omega | (exfalso; omega)
