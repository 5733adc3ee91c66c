/-! What couples the class and the reference -/
/-- the world at B holds what the reference's row s holds -/
def ih_Wr (t : ih_S) (B : Nat) (s : Int → Int) : Prop := (t B 5 = s 0) ∧ (t B 6 = s 1) ∧ (∀ j : Int, 0 ≤ j → j < 8 → t (B + 1) j = s (2 + j)) ∧ (∀ j : Int, 0 ≤ j → j < 8 → t (B + 2) j = s (10 + j)) ∧ (∀ p : Nat, p < 4 → t (B + 6 + 5 * p) 5 = s (18 + p)) ∧ (∀ p : Nat, p < 4 → t (B + 6 + 5 * p) 4 = s (22 + p)) ∧ (∀ p k : Nat, p < 4 → (k : Int) < s (22 + p) → t (B + 7 + 5 * p) k = s (26 + 48 * p + 4 * k)) ∧ (∀ p k : Nat, p < 4 → (k : Int) < s (22 + p) → t (B + 8 + 5 * p) k = s (26 + 48 * p + 4 * k + 1)) ∧ (∀ p k : Nat, p < 4 → (k : Int) < s (22 + p) → t (B + 9 + 5 * p) k = s (26 + 48 * p + 4 * k + 2)) ∧ (∀ p k : Nat, p < 4 → (k : Int) < s (22 + p) → t (B + 10 + 5 * p) k = s (26 + 48 * p + 4 * k + 3)) ∧ (∀ i : Int, 0 ≤ i → i < 10 → (0 ≤ t (B + 4) i ∧ t (B + 4) i < 4) ∧ ((s (218 + i) = -1 ∧ t (B + 5) i = -1) ∨ ((0 ≤ t (B + 5) i ∧ t (B + 5) i < 100) ∧ s (218 + i) = 100 * t (B + 4) i + t (B + 5) i)))
theorem ih_Wr.now {t : ih_S} {B : Nat} {s : Int → Int} (h : ih_Wr t B s) : t B 5 = s 0 := h.1
theorem ih_Wr.z {t : ih_S} {B : Nat} {s : Int → Int} (h : ih_Wr t B s) : t B 6 = s 1 := h.2.1
theorem ih_Wr.las {t : ih_S} {B : Nat} {s : Int → Int} (h : ih_Wr t B s) : ∀ j : Int, 0 ≤ j → j < 8 → t (B + 1) j = s (2 + j) := h.2.2.1
theorem ih_Wr.pri {t : ih_S} {B : Nat} {s : Int → Int} (h : ih_Wr t B s) : ∀ j : Int, 0 ≤ j → j < 8 → t (B + 2) j = s (10 + j) := h.2.2.2.1
theorem ih_Wr.lit {t : ih_S} {B : Nat} {s : Int → Int} (h : ih_Wr t B s) : ∀ p : Nat, p < 4 → t (B + 6 + 5 * p) 5 = s (18 + p) := h.2.2.2.2.1
theorem ih_Wr.sz {t : ih_S} {B : Nat} {s : Int → Int} (h : ih_Wr t B s) : ∀ p : Nat, p < 4 → t (B + 6 + 5 * p) 4 = s (22 + p) := h.2.2.2.2.2.1
theorem ih_Wr.kd {t : ih_S} {B : Nat} {s : Int → Int} (h : ih_Wr t B s) : ∀ p k : Nat, p < 4 → (k : Int) < s (22 + p) → t (B + 7 + 5 * p) k = s (26 + 48 * p + 4 * k) := h.2.2.2.2.2.2.1
theorem ih_Wr.lt {t : ih_S} {B : Nat} {s : Int → Int} (h : ih_Wr t B s) : ∀ p k : Nat, p < 4 → (k : Int) < s (22 + p) → t (B + 8 + 5 * p) k = s (26 + 48 * p + 4 * k + 1) := h.2.2.2.2.2.2.2.1
theorem ih_Wr.ink {t : ih_S} {B : Nat} {s : Int → Int} (h : ih_Wr t B s) : ∀ p k : Nat, p < 4 → (k : Int) < s (22 + p) → t (B + 9 + 5 * p) k = s (26 + 48 * p + 4 * k + 2) := h.2.2.2.2.2.2.2.2.1
theorem ih_Wr.at_ {t : ih_S} {B : Nat} {s : Int → Int} (h : ih_Wr t B s) : ∀ p k : Nat, p < 4 → (k : Int) < s (22 + p) → t (B + 10 + 5 * p) k = s (26 + 48 * p + 4 * k + 3) := h.2.2.2.2.2.2.2.2.2.1
theorem ih_Wr.spot {t : ih_S} {B : Nat} {s : Int → Int} (h : ih_Wr t B s) : ∀ i : Int, 0 ≤ i → i < 10 → (0 ≤ t (B + 4) i ∧ t (B + 4) i < 4) ∧ ((s (218 + i) = -1 ∧ t (B + 5) i = -1) ∨ ((0 ≤ t (B + 5) i ∧ t (B + 5) i < 100) ∧ s (218 + i) = 100 * t (B + 4) i + t (B + 5) i)) := h.2.2.2.2.2.2.2.2.2.2
def ih_Gd (s : Int → Int) : Prop := (0 ≤ s 0 ∧ s 0 < 10000) ∧ (∀ j : Int, 0 ≤ j → j < 8 → 0 ≤ s (10 + j) ∧ s (10 + j) < 100) ∧ (∀ p : Nat, p < 4 → ih_RG s p) ∧ (∀ p k : Nat, p < 4 → (k : Int) < s (22 + p) → s (26 + 48 * p + 4 * k + 3) ≤ s 0) ∧ (∀ i : Int, 0 ≤ i → i < 10 → s (218 + i) = -1 ∨ ∃ p m : Nat, p < 4 ∧ (m : Int) < s (22 + p) ∧ s (218 + i) = 100 * p + m)
theorem ih_Gd.now {s : Int → Int} (h : ih_Gd s) : 0 ≤ s 0 ∧ s 0 < 10000 := h.1
theorem ih_Gd.pri {s : Int → Int} (h : ih_Gd s) : ∀ j : Int, 0 ≤ j → j < 8 → 0 ≤ s (10 + j) ∧ s (10 + j) < 100 := h.2.1
theorem ih_Gd.pap {s : Int → Int} (h : ih_Gd s) : ∀ p : Nat, p < 4 → ih_RG s p := h.2.2.1
theorem ih_Gd.ats {s : Int → Int} (h : ih_Gd s) : ∀ p k : Nat, p < 4 → (k : Int) < s (22 + p) → s (26 + 48 * p + 4 * k + 3) ≤ s 0 := h.2.2.2.1
theorem ih_Gd.spot {s : Int → Int} (h : ih_Gd s) : ∀ i : Int, 0 ≤ i → i < 10 → s (218 + i) = -1 ∨ ∃ p m : Nat, p < 4 ∧ (m : Int) < s (22 + p) ∧ s (218 + i) = 100 * p + m := h.2.2.2.2
theorem ih_Wr_of {t t1 : ih_S} {B : Nat} {s : Int → Int} (h : ih_Wr t B s) (e : ∀ j, B ≤ j → j < B + 26 → t1 j = t j) : ih_Wr t1 B s := by
  obtain ⟨a1, a2, a3, a4, a5, a6, a7, a8, a9, a10, a11⟩ := h
  refine ⟨?_, ?_, ?_, ?_, ?_, ?_, ?_, ?_, ?_, ?_, ?_⟩
  · rw [e B (by omega) (by omega)]; exact a1
  · rw [e B (by omega) (by omega)]; exact a2
  · rw [e (B + 1) (by omega) (by omega)]; exact a3
  · rw [e (B + 2) (by omega) (by omega)]; exact a4
  · intro p hp; rw [e (B + 6 + 5 * p) (by omega) (by omega)]; exact a5 p hp
  · intro p hp; rw [e (B + 6 + 5 * p) (by omega) (by omega)]; exact a6 p hp
  · intro p k hp; rw [e (B + 7 + 5 * p) (by omega) (by omega)]; exact a7 p k hp
  · intro p k hp; rw [e (B + 8 + 5 * p) (by omega) (by omega)]; exact a8 p k hp
  · intro p k hp; rw [e (B + 9 + 5 * p) (by omega) (by omega)]; exact a9 p k hp
  · intro p k hp; rw [e (B + 10 + 5 * p) (by omega) (by omega)]; exact a10 p k hp
  · rw [e (B + 4) (by omega) (by omega), e (B + 5) (by omega) (by omega)]; exact a11
theorem ih_b1 (p : Nat) : 1 + 6 + 5 * p = 7 + 5 * p := by omega
theorem ih_b2 (p : Nat) : 1 + 7 + 5 * p = 8 + 5 * p := by omega
theorem ih_b3 (p : Nat) : 1 + 8 + 5 * p = 9 + 5 * p := by omega
theorem ih_b4 (p : Nat) : 1 + 9 + 5 * p = 10 + 5 * p := by omega
theorem ih_b5 (p : Nat) : 1 + 10 + 5 * p = 11 + 5 * p := by omega
theorem ih_W_lit {t : ih_S} {s : Int → Int} {p : Nat} (W : ih_Wr t 1 s) (hp : p < 4) : t (7 + 5 * p) 5 = s (18 + p) := by have := W.lit p hp; rwa [ih_b1] at this
theorem ih_W_sz {t : ih_S} {s : Int → Int} {p : Nat} (W : ih_Wr t 1 s) (hp : p < 4) : t (7 + 5 * p) 4 = s (22 + p) := by have := W.sz p hp; rwa [ih_b1] at this
theorem ih_W_kd {t : ih_S} {s : Int → Int} {p k : Nat} (W : ih_Wr t 1 s) (hp : p < 4) (hk : (k : Int) < s (22 + p)) : t (8 + 5 * p) k = s (26 + 48 * p + 4 * k) := by have := W.kd p k hp hk; rwa [ih_b2] at this
theorem ih_W_lt {t : ih_S} {s : Int → Int} {p k : Nat} (W : ih_Wr t 1 s) (hp : p < 4) (hk : (k : Int) < s (22 + p)) : t (9 + 5 * p) k = s (26 + 48 * p + 4 * k + 1) := by have := W.lt p k hp hk; rwa [ih_b3] at this
theorem ih_W_ink {t : ih_S} {s : Int → Int} {p k : Nat} (W : ih_Wr t 1 s) (hp : p < 4) (hk : (k : Int) < s (22 + p)) : t (10 + 5 * p) k = s (26 + 48 * p + 4 * k + 2) := by have := W.ink p k hp hk; rwa [ih_b4] at this
theorem ih_W_at {t : ih_S} {s : Int → Int} {p k : Nat} (W : ih_Wr t 1 s) (hp : p < 4) (hk : (k : Int) < s (22 + p)) : t (11 + 5 * p) k = s (26 + 48 * p + 4 * k + 3) := by have := W.at_ p k hp hk; rwa [ih_b5] at this
theorem ih_PG_W {t : ih_S} {s : Int → Int} {p : Nat} (W : ih_Wr t 1 s) (G : ih_Gd s) (hp : p < 4) : ih_PG t p := by
  have R := G.pap p hp
  have e := ih_W_sz W hp
  refine ⟨?_, ?_, ?_, ?_, ?_, ?_, ?_⟩
  · rw [e]; exact R.sz
  · rw [ih_W_lit W hp]; exact R.lit
  · intro k hk; rw [e] at hk; rw [ih_W_kd W hp hk]; exact R.kd k hk
  · intro k hk; rw [e] at hk; rw [ih_W_lt W hp hk]; exact R.lt k hk
  · intro k hk; rw [e] at hk; rw [ih_W_ink W hp hk]; exact R.ink k hk
  · intro k hk; rw [e] at hk; rw [ih_W_at W hp hk]; exact R.at_ k hk
  · intro j h0 h1
    have := W.las j h0 h1
    rw [show 1 + 1 = 2 from rfl] at this
    rw [this]; exact R.las j h0 h1
theorem ih_cs_rs {t : ih_S} {s : Int → Int} {p k : Nat} {h : Int} (W : ih_Wr t 1 s) (G : ih_Gd s) (hp : p < 4) (hk : (k : Int) < s (22 + p)) : ih_cs t p h k = ih_rs s p h k := by
  have i := (G.pap p hp).ink k hk
  have l := W.las _ i.1 i.2
  rw [show 1 + 1 = 2 from rfl] at l
  unfold ih_cs ih_rs ih_rsp
  rw [ih_W_lit W hp, ih_W_kd W hp hk, ih_W_at W hp hk, ih_W_ink W hp hk, l]
theorem ih_cM_rM {t : ih_S} {s : Int → Int} {p : Nat} {h : Int} (W : ih_Wr t 1 s) (G : ih_Gd s) (hp : p < 4) : ih_cM t p h = ih_rM s p h := by
  have z := (G.pap p hp).sz
  unfold ih_cM ih_mo ih_rM
  rw [ih_W_sz W hp]
  exact congrArg ih_val (ih_fd_congr (fun k hk => ⟨ih_W_kd W hp (by omega), ih_W_lt W hp (by omega), ih_cs_rs W G hp (by omega)⟩))
