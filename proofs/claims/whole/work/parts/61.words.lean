/-! texts: words as numbers -/
def ih_ws (v x : Int) : Int := if 36028797018963967 < v then v else 32 * v + (x - 96)
def ih_wd (f : Int → Int) : Nat → Int → Int → Int
  | 0, _, v => v
  | k + 1, i, v => ih_wd f k (i + 1) (ih_ws v (f i))
theorem ih_ws_s {v x : Int} (h : v ≤ 36028797018963967) : ih_ws v x = 32 * v + (x - 96) := if_neg (by omega)
theorem ih_ws_up {v x B : Int} (h : B ≤ v) (h0 : 0 ≤ B) (hB : B ≤ 1048576) (hx : 97 ≤ x) : 32 * B ≤ ih_ws v x := by
  unfold ih_ws
  split <;> omega
theorem ih_ws_ge {v x : Int} (h : 0 ≤ v) (hx : 97 ≤ x) : v ≤ ih_ws v x := by
  unfold ih_ws
  split <;> omega
theorem ih_ws_rg {v x : Int} (h : 0 ≤ v ∧ v ≤ 1152921504606847000) (hx : 97 ≤ x ∧ x ≤ 122) : 0 ≤ ih_ws v x ∧ ih_ws v x ≤ 1152921504606847000 := by
  unfold ih_ws
  split <;> omega
theorem ih_wd_ge {f : Int → Int} : ∀ (k : Nat) (i v : Int), (∀ x : Int, i ≤ x → x < i + k → 97 ≤ f x ∧ f x ≤ 122) → 0 ≤ v → v ≤ ih_wd f k i v
  | 0, i, v, h, hv => Int.le_refl v
  | k + 1, i, v, h, hv => by
    have h0 := h i (by omega) (by omega)
    have h1 := ih_ws_ge hv h0.1
    have h2 := ih_wd_ge k (i + 1) (ih_ws v (f i)) (fun x a b => h x (by omega) (by omega)) (by omega)
    rw [ih_wd]
    omega
theorem ih_wd_rg {f : Int → Int} : ∀ (k : Nat) (i v : Int), (∀ x : Int, i ≤ x → x < i + k → 97 ≤ f x ∧ f x ≤ 122) → 0 ≤ v ∧ v ≤ 1152921504606847000 → 0 ≤ ih_wd f k i v ∧ ih_wd f k i v ≤ 1152921504606847000
  | 0, i, v, h, hv => hv
  | k + 1, i, v, h, hv => ih_wd_rg k (i + 1) _ (fun x a b => h x (by omega) (by omega)) (ih_ws_rg hv (h i (by omega) (by omega)))

theorem ih_wd1 {f : Int → Int} {i : Int} (h0 : 97 ≤ f i ∧ f i ≤ 122) : ih_wd f 1 i 0 = (f i - 96) := by
  have e : ih_wd f 1 i 0 = (ih_ws 0 (f i)) := rfl
  rw [e]
  have a0 : ih_ws 0 (f i) = (f i - 96) := by rw [ih_ws_s (by omega)] <;> omega
  rw [a0]

theorem ih_wd2 {f : Int → Int} {i : Int} (h0 : 97 ≤ f i ∧ f i ≤ 122) (h1 : 97 ≤ f (i + 1) ∧ f (i + 1) ≤ 122) : ih_wd f 2 i 0 = (32 * (f i - 96) + (f (i + 1) - 96)) := by
  have e : ih_wd f 2 i 0 = (ih_ws (ih_ws 0 (f i)) (f (i + 1))) := rfl
  rw [e]
  have a0 : ih_ws 0 (f i) = (f i - 96) := by rw [ih_ws_s (by omega)] <;> omega
  have a1 : ih_ws (f i - 96) (f (i + 1)) = (32 * (f i - 96) + (f (i + 1) - 96)) := by rw [ih_ws_s (by omega)]
  rw [a0, a1]

theorem ih_wd3 {f : Int → Int} {i : Int} (h0 : 97 ≤ f i ∧ f i ≤ 122) (h1 : 97 ≤ f (i + 1) ∧ f (i + 1) ≤ 122) (h2 : 97 ≤ f (i + 1 + 1) ∧ f (i + 1 + 1) ≤ 122) : ih_wd f 3 i 0 = (32 * (32 * (f i - 96) + (f (i + 1) - 96)) + (f (i + 1 + 1) - 96)) := by
  have e : ih_wd f 3 i 0 = (ih_ws (ih_ws (ih_ws 0 (f i)) (f (i + 1))) (f (i + 1 + 1))) := rfl
  rw [e]
  have a0 : ih_ws 0 (f i) = (f i - 96) := by rw [ih_ws_s (by omega)] <;> omega
  have a1 : ih_ws (f i - 96) (f (i + 1)) = (32 * (f i - 96) + (f (i + 1) - 96)) := by rw [ih_ws_s (by omega)]
  have a2 : ih_ws (32 * (f i - 96) + (f (i + 1) - 96)) (f (i + 1 + 1)) = (32 * (32 * (f i - 96) + (f (i + 1) - 96)) + (f (i + 1 + 1) - 96)) := by rw [ih_ws_s (by omega)]
  rw [a0, a1, a2]

theorem ih_wd4 {f : Int → Int} {i : Int} (h0 : 97 ≤ f i ∧ f i ≤ 122) (h1 : 97 ≤ f (i + 1) ∧ f (i + 1) ≤ 122) (h2 : 97 ≤ f (i + 1 + 1) ∧ f (i + 1 + 1) ≤ 122) (h3 : 97 ≤ f (i + 1 + 1 + 1) ∧ f (i + 1 + 1 + 1) ≤ 122) : ih_wd f 4 i 0 = (32 * (32 * (32 * (f i - 96) + (f (i + 1) - 96)) + (f (i + 1 + 1) - 96)) + (f (i + 1 + 1 + 1) - 96)) := by
  have e : ih_wd f 4 i 0 = (ih_ws (ih_ws (ih_ws (ih_ws 0 (f i)) (f (i + 1))) (f (i + 1 + 1))) (f (i + 1 + 1 + 1))) := rfl
  rw [e]
  have a0 : ih_ws 0 (f i) = (f i - 96) := by rw [ih_ws_s (by omega)] <;> omega
  have a1 : ih_ws (f i - 96) (f (i + 1)) = (32 * (f i - 96) + (f (i + 1) - 96)) := by rw [ih_ws_s (by omega)]
  have a2 : ih_ws (32 * (f i - 96) + (f (i + 1) - 96)) (f (i + 1 + 1)) = (32 * (32 * (f i - 96) + (f (i + 1) - 96)) + (f (i + 1 + 1) - 96)) := by rw [ih_ws_s (by omega)]
  have a3 : ih_ws (32 * (32 * (f i - 96) + (f (i + 1) - 96)) + (f (i + 1 + 1) - 96)) (f (i + 1 + 1 + 1)) = (32 * (32 * (32 * (f i - 96) + (f (i + 1) - 96)) + (f (i + 1 + 1) - 96)) + (f (i + 1 + 1 + 1) - 96)) := by rw [ih_ws_s (by omega)]
  rw [a0, a1, a2, a3]

theorem ih_wd5 {f : Int → Int} {i : Int} (h0 : 97 ≤ f i ∧ f i ≤ 122) (h1 : 97 ≤ f (i + 1) ∧ f (i + 1) ≤ 122) (h2 : 97 ≤ f (i + 1 + 1) ∧ f (i + 1 + 1) ≤ 122) (h3 : 97 ≤ f (i + 1 + 1 + 1) ∧ f (i + 1 + 1 + 1) ≤ 122) (h4 : 97 ≤ f (i + 1 + 1 + 1 + 1) ∧ f (i + 1 + 1 + 1 + 1) ≤ 122) : ih_wd f 5 i 0 = (32 * (32 * (32 * (32 * (f i - 96) + (f (i + 1) - 96)) + (f (i + 1 + 1) - 96)) + (f (i + 1 + 1 + 1) - 96)) + (f (i + 1 + 1 + 1 + 1) - 96)) := by
  have e : ih_wd f 5 i 0 = (ih_ws (ih_ws (ih_ws (ih_ws (ih_ws 0 (f i)) (f (i + 1))) (f (i + 1 + 1))) (f (i + 1 + 1 + 1))) (f (i + 1 + 1 + 1 + 1))) := rfl
  rw [e]
  have a0 : ih_ws 0 (f i) = (f i - 96) := by rw [ih_ws_s (by omega)] <;> omega
  have a1 : ih_ws (f i - 96) (f (i + 1)) = (32 * (f i - 96) + (f (i + 1) - 96)) := by rw [ih_ws_s (by omega)]
  have a2 : ih_ws (32 * (f i - 96) + (f (i + 1) - 96)) (f (i + 1 + 1)) = (32 * (32 * (f i - 96) + (f (i + 1) - 96)) + (f (i + 1 + 1) - 96)) := by rw [ih_ws_s (by omega)]
  have a3 : ih_ws (32 * (32 * (f i - 96) + (f (i + 1) - 96)) + (f (i + 1 + 1) - 96)) (f (i + 1 + 1 + 1)) = (32 * (32 * (32 * (f i - 96) + (f (i + 1) - 96)) + (f (i + 1 + 1) - 96)) + (f (i + 1 + 1 + 1) - 96)) := by rw [ih_ws_s (by omega)]
  have a4 : ih_ws (32 * (32 * (32 * (f i - 96) + (f (i + 1) - 96)) + (f (i + 1 + 1) - 96)) + (f (i + 1 + 1 + 1) - 96)) (f (i + 1 + 1 + 1 + 1)) = (32 * (32 * (32 * (32 * (f i - 96) + (f (i + 1) - 96)) + (f (i + 1 + 1) - 96)) + (f (i + 1 + 1 + 1) - 96)) + (f (i + 1 + 1 + 1 + 1) - 96)) := by rw [ih_ws_s (by omega)]
  rw [a0, a1, a2, a3, a4]

theorem ih_wd6 {f : Int → Int} {i : Int} {k : Nat} (h0 : 97 ≤ f i ∧ f i ≤ 122) (h1 : 97 ≤ f (i + 1) ∧ f (i + 1) ≤ 122) (h2 : 97 ≤ f (i + 1 + 1) ∧ f (i + 1 + 1) ≤ 122) (h3 : 97 ≤ f (i + 1 + 1 + 1) ∧ f (i + 1 + 1 + 1) ≤ 122) (h4 : 97 ≤ f (i + 1 + 1 + 1 + 1) ∧ f (i + 1 + 1 + 1 + 1) ≤ 122) (h5 : 97 ≤ f (i + 1 + 1 + 1 + 1 + 1) ∧ f (i + 1 + 1 + 1 + 1 + 1) ≤ 122) (hh : ∀ x : Int, i + 1 + 1 + 1 + 1 + 1 + 1 ≤ x → x < i + 1 + 1 + 1 + 1 + 1 + 1 + k → 97 ≤ f x ∧ f x ≤ 122) : 33554432 ≤ ih_wd f (k + 6) i 0 := by
  have e : ih_wd f (k + 6) i 0 = ih_wd f k (i + 1 + 1 + 1 + 1 + 1 + 1) (ih_ws (ih_ws (ih_ws (ih_ws (ih_ws (ih_ws 0 (f i)) (f (i + 1))) (f (i + 1 + 1))) (f (i + 1 + 1 + 1))) (f (i + 1 + 1 + 1 + 1))) (f (i + 1 + 1 + 1 + 1 + 1))) := rfl
  rw [e]
  have a1 : 1 ≤ ih_ws 0 (f i) := by rw [ih_ws_s (by omega)] <;> omega
  have a2 := ih_ws_up (x := f (i + 1)) a1 (by decide) (by decide) (by omega)
  have a3 := ih_ws_up (x := f (i + 1 + 1)) a2 (by decide) (by decide) (by omega)
  have a4 := ih_ws_up (x := f (i + 1 + 1 + 1)) a3 (by decide) (by decide) (by omega)
  have a5 := ih_ws_up (x := f (i + 1 + 1 + 1 + 1)) a4 (by decide) (by decide) (by omega)
  have a6 := ih_ws_up (x := f (i + 1 + 1 + 1 + 1 + 1)) a5 (by decide) (by decide) (by omega)
  have g := ih_wd_ge k (i + 1 + 1 + 1 + 1 + 1 + 1) _ hh (show 0 ≤ (ih_ws (ih_ws (ih_ws (ih_ws (ih_ws (ih_ws 0 (f i)) (f (i + 1))) (f (i + 1 + 1))) (f (i + 1 + 1 + 1))) (f (i + 1 + 1 + 1 + 1))) (f (i + 1 + 1 + 1 + 1 + 1))) by omega)
  omega

theorem ih_wd_ink {f : Int → Int} {i : Int} {L : Nat} (hL : 1 ≤ L) (h : ∀ x : Int, i ≤ x → x < i + L → 97 ≤ f x ∧ f x ≤ 122) : ih_wd f L i 0 = 9675 ↔ L = 3 ∧ f i = 105 ∧ f (i + 1) = 110 ∧ f (i + 1 + 1) = 107 := by
  rcases (by omega : L = 1 ∨ L = 2 ∨ L = 3 ∨ L = 4 ∨ L = 5 ∨ 6 ≤ L) with rfl | rfl | rfl | rfl | rfl | h6
  · have h0 := h (i) (by omega) (by omega)
    rw [ih_wd1 h0]
    omega
  · have h0 := h (i) (by omega) (by omega)
    have h1 := h (i + 1) (by omega) (by omega)
    rw [ih_wd2 h0 h1]
    omega
  · have h0 := h (i) (by omega) (by omega)
    have h1 := h (i + 1) (by omega) (by omega)
    have h2 := h (i + 1 + 1) (by omega) (by omega)
    rw [ih_wd3 h0 h1 h2]
    omega
  · have h0 := h (i) (by omega) (by omega)
    have h1 := h (i + 1) (by omega) (by omega)
    have h2 := h (i + 1 + 1) (by omega) (by omega)
    have h3 := h (i + 1 + 1 + 1) (by omega) (by omega)
    rw [ih_wd4 h0 h1 h2 h3]
    omega
  · have h0 := h (i) (by omega) (by omega)
    have h1 := h (i + 1) (by omega) (by omega)
    have h2 := h (i + 1 + 1) (by omega) (by omega)
    have h3 := h (i + 1 + 1 + 1) (by omega) (by omega)
    have h4 := h (i + 1 + 1 + 1 + 1) (by omega) (by omega)
    rw [ih_wd5 h0 h1 h2 h3 h4]
    omega
  · obtain ⟨k, rfl⟩ : ∃ k, L = k + 6 := ⟨L - 6, by omega⟩
    have h0 := h (i) (by omega) (by omega)
    have h1 := h (i + 1) (by omega) (by omega)
    have h2 := h (i + 1 + 1) (by omega) (by omega)
    have h3 := h (i + 1 + 1 + 1) (by omega) (by omega)
    have h4 := h (i + 1 + 1 + 1 + 1) (by omega) (by omega)
    have h5 := h (i + 1 + 1 + 1 + 1 + 1) (by omega) (by omega)
    have hb := ih_wd6 h0 h1 h2 h3 h4 h5 (k := k) (fun x a b => h x (by omega) (by omega))
    omega

theorem ih_wd_paper {f : Int → Int} {i : Int} {L : Nat} (hL : 1 ≤ L) (h : ∀ x : Int, i ≤ x → x < i + L → 97 ≤ f x ∧ f x ≤ 122) : ih_wd f L i 0 = 16826546 ↔ L = 5 ∧ f i = 112 ∧ f (i + 1) = 97 ∧ f (i + 1 + 1) = 112 ∧ f (i + 1 + 1 + 1) = 101 ∧ f (i + 1 + 1 + 1 + 1) = 114 := by
  rcases (by omega : L = 1 ∨ L = 2 ∨ L = 3 ∨ L = 4 ∨ L = 5 ∨ 6 ≤ L) with rfl | rfl | rfl | rfl | rfl | h6
  · have h0 := h (i) (by omega) (by omega)
    rw [ih_wd1 h0]
    omega
  · have h0 := h (i) (by omega) (by omega)
    have h1 := h (i + 1) (by omega) (by omega)
    rw [ih_wd2 h0 h1]
    omega
  · have h0 := h (i) (by omega) (by omega)
    have h1 := h (i + 1) (by omega) (by omega)
    have h2 := h (i + 1 + 1) (by omega) (by omega)
    rw [ih_wd3 h0 h1 h2]
    omega
  · have h0 := h (i) (by omega) (by omega)
    have h1 := h (i + 1) (by omega) (by omega)
    have h2 := h (i + 1 + 1) (by omega) (by omega)
    have h3 := h (i + 1 + 1 + 1) (by omega) (by omega)
    rw [ih_wd4 h0 h1 h2 h3]
    omega
  · have h0 := h (i) (by omega) (by omega)
    have h1 := h (i + 1) (by omega) (by omega)
    have h2 := h (i + 1 + 1) (by omega) (by omega)
    have h3 := h (i + 1 + 1 + 1) (by omega) (by omega)
    have h4 := h (i + 1 + 1 + 1 + 1) (by omega) (by omega)
    rw [ih_wd5 h0 h1 h2 h3 h4]
    omega
  · obtain ⟨k, rfl⟩ : ∃ k, L = k + 6 := ⟨L - 6, by omega⟩
    have h0 := h (i) (by omega) (by omega)
    have h1 := h (i + 1) (by omega) (by omega)
    have h2 := h (i + 1 + 1) (by omega) (by omega)
    have h3 := h (i + 1 + 1 + 1) (by omega) (by omega)
    have h4 := h (i + 1 + 1 + 1 + 1) (by omega) (by omega)
    have h5 := h (i + 1 + 1 + 1 + 1 + 1) (by omega) (by omega)
    have hb := ih_wd6 h0 h1 h2 h3 h4 h5 (k := k) (fun x a b => h x (by omega) (by omega))
    omega

theorem ih_wd_on {f : Int → Int} {i : Int} {L : Nat} (hL : 1 ≤ L) (h : ∀ x : Int, i ≤ x → x < i + L → 97 ≤ f x ∧ f x ≤ 122) : ih_wd f L i 0 = 494 ↔ L = 2 ∧ f i = 111 ∧ f (i + 1) = 110 := by
  rcases (by omega : L = 1 ∨ L = 2 ∨ L = 3 ∨ L = 4 ∨ L = 5 ∨ 6 ≤ L) with rfl | rfl | rfl | rfl | rfl | h6
  · have h0 := h (i) (by omega) (by omega)
    rw [ih_wd1 h0]
    omega
  · have h0 := h (i) (by omega) (by omega)
    have h1 := h (i + 1) (by omega) (by omega)
    rw [ih_wd2 h0 h1]
    omega
  · have h0 := h (i) (by omega) (by omega)
    have h1 := h (i + 1) (by omega) (by omega)
    have h2 := h (i + 1 + 1) (by omega) (by omega)
    rw [ih_wd3 h0 h1 h2]
    omega
  · have h0 := h (i) (by omega) (by omega)
    have h1 := h (i + 1) (by omega) (by omega)
    have h2 := h (i + 1 + 1) (by omega) (by omega)
    have h3 := h (i + 1 + 1 + 1) (by omega) (by omega)
    rw [ih_wd4 h0 h1 h2 h3]
    omega
  · have h0 := h (i) (by omega) (by omega)
    have h1 := h (i + 1) (by omega) (by omega)
    have h2 := h (i + 1 + 1) (by omega) (by omega)
    have h3 := h (i + 1 + 1 + 1) (by omega) (by omega)
    have h4 := h (i + 1 + 1 + 1 + 1) (by omega) (by omega)
    rw [ih_wd5 h0 h1 h2 h3 h4]
    omega
  · obtain ⟨k, rfl⟩ : ∃ k, L = k + 6 := ⟨L - 6, by omega⟩
    have h0 := h (i) (by omega) (by omega)
    have h1 := h (i + 1) (by omega) (by omega)
    have h2 := h (i + 1 + 1) (by omega) (by omega)
    have h3 := h (i + 1 + 1 + 1) (by omega) (by omega)
    have h4 := h (i + 1 + 1 + 1 + 1) (by omega) (by omega)
    have h5 := h (i + 1 + 1 + 1 + 1 + 1) (by omega) (by omega)
    have hb := ih_wd6 h0 h1 h2 h3 h4 h5 (k := k) (fun x a b => h x (by omega) (by omega))
    omega

theorem ih_wd_lasts {f : Int → Int} {i : Int} {L : Nat} (hL : 1 ≤ L) (h : ∀ x : Int, i ≤ x → x < i + L → 97 ≤ f x ∧ f x ≤ 122) : ih_wd f L i 0 = 12635795 ↔ L = 5 ∧ f i = 108 ∧ f (i + 1) = 97 ∧ f (i + 1 + 1) = 115 ∧ f (i + 1 + 1 + 1) = 116 ∧ f (i + 1 + 1 + 1 + 1) = 115 := by
  rcases (by omega : L = 1 ∨ L = 2 ∨ L = 3 ∨ L = 4 ∨ L = 5 ∨ 6 ≤ L) with rfl | rfl | rfl | rfl | rfl | h6
  · have h0 := h (i) (by omega) (by omega)
    rw [ih_wd1 h0]
    omega
  · have h0 := h (i) (by omega) (by omega)
    have h1 := h (i + 1) (by omega) (by omega)
    rw [ih_wd2 h0 h1]
    omega
  · have h0 := h (i) (by omega) (by omega)
    have h1 := h (i + 1) (by omega) (by omega)
    have h2 := h (i + 1 + 1) (by omega) (by omega)
    rw [ih_wd3 h0 h1 h2]
    omega
  · have h0 := h (i) (by omega) (by omega)
    have h1 := h (i + 1) (by omega) (by omega)
    have h2 := h (i + 1 + 1) (by omega) (by omega)
    have h3 := h (i + 1 + 1 + 1) (by omega) (by omega)
    rw [ih_wd4 h0 h1 h2 h3]
    omega
  · have h0 := h (i) (by omega) (by omega)
    have h1 := h (i + 1) (by omega) (by omega)
    have h2 := h (i + 1 + 1) (by omega) (by omega)
    have h3 := h (i + 1 + 1 + 1) (by omega) (by omega)
    have h4 := h (i + 1 + 1 + 1 + 1) (by omega) (by omega)
    rw [ih_wd5 h0 h1 h2 h3 h4]
    omega
  · obtain ⟨k, rfl⟩ : ∃ k, L = k + 6 := ⟨L - 6, by omega⟩
    have h0 := h (i) (by omega) (by omega)
    have h1 := h (i + 1) (by omega) (by omega)
    have h2 := h (i + 1 + 1) (by omega) (by omega)
    have h3 := h (i + 1 + 1 + 1) (by omega) (by omega)
    have h4 := h (i + 1 + 1 + 1 + 1) (by omega) (by omega)
    have h5 := h (i + 1 + 1 + 1 + 1 + 1) (by omega) (by omega)
    have hb := ih_wd6 h0 h1 h2 h3 h4 h5 (k := k) (fun x a b => h x (by omega) (by omega))
    omega

theorem ih_wd_price {f : Int → Int} {i : Int} {L : Nat} (hL : 1 ≤ L) (h : ∀ x : Int, i ≤ x → x < i + L → 97 ≤ f x ∧ f x ≤ 122) : ih_wd f L i 0 = 17376357 ↔ L = 5 ∧ f i = 112 ∧ f (i + 1) = 114 ∧ f (i + 1 + 1) = 105 ∧ f (i + 1 + 1 + 1) = 99 ∧ f (i + 1 + 1 + 1 + 1) = 101 := by
  rcases (by omega : L = 1 ∨ L = 2 ∨ L = 3 ∨ L = 4 ∨ L = 5 ∨ 6 ≤ L) with rfl | rfl | rfl | rfl | rfl | h6
  · have h0 := h (i) (by omega) (by omega)
    rw [ih_wd1 h0]
    omega
  · have h0 := h (i) (by omega) (by omega)
    have h1 := h (i + 1) (by omega) (by omega)
    rw [ih_wd2 h0 h1]
    omega
  · have h0 := h (i) (by omega) (by omega)
    have h1 := h (i + 1) (by omega) (by omega)
    have h2 := h (i + 1 + 1) (by omega) (by omega)
    rw [ih_wd3 h0 h1 h2]
    omega
  · have h0 := h (i) (by omega) (by omega)
    have h1 := h (i + 1) (by omega) (by omega)
    have h2 := h (i + 1 + 1) (by omega) (by omega)
    have h3 := h (i + 1 + 1 + 1) (by omega) (by omega)
    rw [ih_wd4 h0 h1 h2 h3]
    omega
  · have h0 := h (i) (by omega) (by omega)
    have h1 := h (i + 1) (by omega) (by omega)
    have h2 := h (i + 1 + 1) (by omega) (by omega)
    have h3 := h (i + 1 + 1 + 1) (by omega) (by omega)
    have h4 := h (i + 1 + 1 + 1 + 1) (by omega) (by omega)
    rw [ih_wd5 h0 h1 h2 h3 h4]
    omega
  · obtain ⟨k, rfl⟩ : ∃ k, L = k + 6 := ⟨L - 6, by omega⟩
    have h0 := h (i) (by omega) (by omega)
    have h1 := h (i + 1) (by omega) (by omega)
    have h2 := h (i + 1 + 1) (by omega) (by omega)
    have h3 := h (i + 1 + 1 + 1) (by omega) (by omega)
    have h4 := h (i + 1 + 1 + 1 + 1) (by omega) (by omega)
    have h5 := h (i + 1 + 1 + 1 + 1 + 1) (by omega) (by omega)
    have hb := ih_wd6 h0 h1 h2 h3 h4 h5 (k := k) (fun x a b => h x (by omega) (by omega))
    omega

theorem ih_wd_light {f : Int → Int} {i : Int} {L : Nat} (hL : 1 ≤ L) (h : ∀ x : Int, i ≤ x → x < i + L → 97 ≤ f x ∧ f x ≤ 122) : ih_wd f L i 0 = 12885268 ↔ L = 5 ∧ f i = 108 ∧ f (i + 1) = 105 ∧ f (i + 1 + 1) = 103 ∧ f (i + 1 + 1 + 1) = 104 ∧ f (i + 1 + 1 + 1 + 1) = 116 := by
  rcases (by omega : L = 1 ∨ L = 2 ∨ L = 3 ∨ L = 4 ∨ L = 5 ∨ 6 ≤ L) with rfl | rfl | rfl | rfl | rfl | h6
  · have h0 := h (i) (by omega) (by omega)
    rw [ih_wd1 h0]
    omega
  · have h0 := h (i) (by omega) (by omega)
    have h1 := h (i + 1) (by omega) (by omega)
    rw [ih_wd2 h0 h1]
    omega
  · have h0 := h (i) (by omega) (by omega)
    have h1 := h (i + 1) (by omega) (by omega)
    have h2 := h (i + 1 + 1) (by omega) (by omega)
    rw [ih_wd3 h0 h1 h2]
    omega
  · have h0 := h (i) (by omega) (by omega)
    have h1 := h (i + 1) (by omega) (by omega)
    have h2 := h (i + 1 + 1) (by omega) (by omega)
    have h3 := h (i + 1 + 1 + 1) (by omega) (by omega)
    rw [ih_wd4 h0 h1 h2 h3]
    omega
  · have h0 := h (i) (by omega) (by omega)
    have h1 := h (i + 1) (by omega) (by omega)
    have h2 := h (i + 1 + 1) (by omega) (by omega)
    have h3 := h (i + 1 + 1 + 1) (by omega) (by omega)
    have h4 := h (i + 1 + 1 + 1 + 1) (by omega) (by omega)
    rw [ih_wd5 h0 h1 h2 h3 h4]
    omega
  · obtain ⟨k, rfl⟩ : ∃ k, L = k + 6 := ⟨L - 6, by omega⟩
    have h0 := h (i) (by omega) (by omega)
    have h1 := h (i + 1) (by omega) (by omega)
    have h2 := h (i + 1 + 1) (by omega) (by omega)
    have h3 := h (i + 1 + 1 + 1) (by omega) (by omega)
    have h4 := h (i + 1 + 1 + 1 + 1) (by omega) (by omega)
    have h5 := h (i + 1 + 1 + 1 + 1 + 1) (by omega) (by omega)
    have hb := ih_wd6 h0 h1 h2 h3 h4 h5 (k := k) (fun x a b => h x (by omega) (by omega))
    omega

theorem ih_wd_dark {f : Int → Int} {i : Int} {L : Nat} (hL : 1 ≤ L) (h : ∀ x : Int, i ≤ x → x < i + L → 97 ≤ f x ∧ f x ≤ 122) : ih_wd f L i 0 = 132683 ↔ L = 4 ∧ f i = 100 ∧ f (i + 1) = 97 ∧ f (i + 1 + 1) = 114 ∧ f (i + 1 + 1 + 1) = 107 := by
  rcases (by omega : L = 1 ∨ L = 2 ∨ L = 3 ∨ L = 4 ∨ L = 5 ∨ 6 ≤ L) with rfl | rfl | rfl | rfl | rfl | h6
  · have h0 := h (i) (by omega) (by omega)
    rw [ih_wd1 h0]
    omega
  · have h0 := h (i) (by omega) (by omega)
    have h1 := h (i + 1) (by omega) (by omega)
    rw [ih_wd2 h0 h1]
    omega
  · have h0 := h (i) (by omega) (by omega)
    have h1 := h (i + 1) (by omega) (by omega)
    have h2 := h (i + 1 + 1) (by omega) (by omega)
    rw [ih_wd3 h0 h1 h2]
    omega
  · have h0 := h (i) (by omega) (by omega)
    have h1 := h (i + 1) (by omega) (by omega)
    have h2 := h (i + 1 + 1) (by omega) (by omega)
    have h3 := h (i + 1 + 1 + 1) (by omega) (by omega)
    rw [ih_wd4 h0 h1 h2 h3]
    omega
  · have h0 := h (i) (by omega) (by omega)
    have h1 := h (i + 1) (by omega) (by omega)
    have h2 := h (i + 1 + 1) (by omega) (by omega)
    have h3 := h (i + 1 + 1 + 1) (by omega) (by omega)
    have h4 := h (i + 1 + 1 + 1 + 1) (by omega) (by omega)
    rw [ih_wd5 h0 h1 h2 h3 h4]
    omega
  · obtain ⟨k, rfl⟩ : ∃ k, L = k + 6 := ⟨L - 6, by omega⟩
    have h0 := h (i) (by omega) (by omega)
    have h1 := h (i + 1) (by omega) (by omega)
    have h2 := h (i + 1 + 1) (by omega) (by omega)
    have h3 := h (i + 1 + 1 + 1) (by omega) (by omega)
    have h4 := h (i + 1 + 1 + 1 + 1) (by omega) (by omega)
    have h5 := h (i + 1 + 1 + 1 + 1 + 1) (by omega) (by omega)
    have hb := ih_wd6 h0 h1 h2 h3 h4 h5 (k := k) (fun x a b => h x (by omega) (by omega))
    omega

theorem ih_wd_not {f : Int → Int} {i : Int} {L : Nat} (hL : 1 ≤ L) (h : ∀ x : Int, i ≤ x → x < i + L → 97 ≤ f x ∧ f x ≤ 122) : ih_wd f L i 0 = 14836 ↔ L = 3 ∧ f i = 110 ∧ f (i + 1) = 111 ∧ f (i + 1 + 1) = 116 := by
  rcases (by omega : L = 1 ∨ L = 2 ∨ L = 3 ∨ L = 4 ∨ L = 5 ∨ 6 ≤ L) with rfl | rfl | rfl | rfl | rfl | h6
  · have h0 := h (i) (by omega) (by omega)
    rw [ih_wd1 h0]
    omega
  · have h0 := h (i) (by omega) (by omega)
    have h1 := h (i + 1) (by omega) (by omega)
    rw [ih_wd2 h0 h1]
    omega
  · have h0 := h (i) (by omega) (by omega)
    have h1 := h (i + 1) (by omega) (by omega)
    have h2 := h (i + 1 + 1) (by omega) (by omega)
    rw [ih_wd3 h0 h1 h2]
    omega
  · have h0 := h (i) (by omega) (by omega)
    have h1 := h (i + 1) (by omega) (by omega)
    have h2 := h (i + 1 + 1) (by omega) (by omega)
    have h3 := h (i + 1 + 1 + 1) (by omega) (by omega)
    rw [ih_wd4 h0 h1 h2 h3]
    omega
  · have h0 := h (i) (by omega) (by omega)
    have h1 := h (i + 1) (by omega) (by omega)
    have h2 := h (i + 1 + 1) (by omega) (by omega)
    have h3 := h (i + 1 + 1 + 1) (by omega) (by omega)
    have h4 := h (i + 1 + 1 + 1 + 1) (by omega) (by omega)
    rw [ih_wd5 h0 h1 h2 h3 h4]
    omega
  · obtain ⟨k, rfl⟩ : ∃ k, L = k + 6 := ⟨L - 6, by omega⟩
    have h0 := h (i) (by omega) (by omega)
    have h1 := h (i + 1) (by omega) (by omega)
    have h2 := h (i + 1 + 1) (by omega) (by omega)
    have h3 := h (i + 1 + 1 + 1) (by omega) (by omega)
    have h4 := h (i + 1 + 1 + 1 + 1) (by omega) (by omega)
    have h5 := h (i + 1 + 1 + 1 + 1 + 1) (by omega) (by omega)
    have hb := ih_wd6 h0 h1 h2 h3 h4 h5 (k := k) (fun x a b => h x (by omega) (by omega))
    omega

theorem ih_wd_and {f : Int → Int} {i : Int} {L : Nat} (hL : 1 ≤ L) (h : ∀ x : Int, i ≤ x → x < i + L → 97 ≤ f x ∧ f x ≤ 122) : ih_wd f L i 0 = 1476 ↔ L = 3 ∧ f i = 97 ∧ f (i + 1) = 110 ∧ f (i + 1 + 1) = 100 := by
  rcases (by omega : L = 1 ∨ L = 2 ∨ L = 3 ∨ L = 4 ∨ L = 5 ∨ 6 ≤ L) with rfl | rfl | rfl | rfl | rfl | h6
  · have h0 := h (i) (by omega) (by omega)
    rw [ih_wd1 h0]
    omega
  · have h0 := h (i) (by omega) (by omega)
    have h1 := h (i + 1) (by omega) (by omega)
    rw [ih_wd2 h0 h1]
    omega
  · have h0 := h (i) (by omega) (by omega)
    have h1 := h (i + 1) (by omega) (by omega)
    have h2 := h (i + 1 + 1) (by omega) (by omega)
    rw [ih_wd3 h0 h1 h2]
    omega
  · have h0 := h (i) (by omega) (by omega)
    have h1 := h (i + 1) (by omega) (by omega)
    have h2 := h (i + 1 + 1) (by omega) (by omega)
    have h3 := h (i + 1 + 1 + 1) (by omega) (by omega)
    rw [ih_wd4 h0 h1 h2 h3]
    omega
  · have h0 := h (i) (by omega) (by omega)
    have h1 := h (i + 1) (by omega) (by omega)
    have h2 := h (i + 1 + 1) (by omega) (by omega)
    have h3 := h (i + 1 + 1 + 1) (by omega) (by omega)
    have h4 := h (i + 1 + 1 + 1 + 1) (by omega) (by omega)
    rw [ih_wd5 h0 h1 h2 h3 h4]
    omega
  · obtain ⟨k, rfl⟩ : ∃ k, L = k + 6 := ⟨L - 6, by omega⟩
    have h0 := h (i) (by omega) (by omega)
    have h1 := h (i + 1) (by omega) (by omega)
    have h2 := h (i + 1 + 1) (by omega) (by omega)
    have h3 := h (i + 1 + 1 + 1) (by omega) (by omega)
    have h4 := h (i + 1 + 1 + 1 + 1) (by omega) (by omega)
    have h5 := h (i + 1 + 1 + 1 + 1 + 1) (by omega) (by omega)
    have hb := ih_wd6 h0 h1 h2 h3 h4 h5 (k := k) (fun x a b => h x (by omega) (by omega))
    omega

theorem ih_wd_or {f : Int → Int} {i : Int} {L : Nat} (hL : 1 ≤ L) (h : ∀ x : Int, i ≤ x → x < i + L → 97 ≤ f x ∧ f x ≤ 122) : ih_wd f L i 0 = 498 ↔ L = 2 ∧ f i = 111 ∧ f (i + 1) = 114 := by
  rcases (by omega : L = 1 ∨ L = 2 ∨ L = 3 ∨ L = 4 ∨ L = 5 ∨ 6 ≤ L) with rfl | rfl | rfl | rfl | rfl | h6
  · have h0 := h (i) (by omega) (by omega)
    rw [ih_wd1 h0]
    omega
  · have h0 := h (i) (by omega) (by omega)
    have h1 := h (i + 1) (by omega) (by omega)
    rw [ih_wd2 h0 h1]
    omega
  · have h0 := h (i) (by omega) (by omega)
    have h1 := h (i + 1) (by omega) (by omega)
    have h2 := h (i + 1 + 1) (by omega) (by omega)
    rw [ih_wd3 h0 h1 h2]
    omega
  · have h0 := h (i) (by omega) (by omega)
    have h1 := h (i + 1) (by omega) (by omega)
    have h2 := h (i + 1 + 1) (by omega) (by omega)
    have h3 := h (i + 1 + 1 + 1) (by omega) (by omega)
    rw [ih_wd4 h0 h1 h2 h3]
    omega
  · have h0 := h (i) (by omega) (by omega)
    have h1 := h (i + 1) (by omega) (by omega)
    have h2 := h (i + 1 + 1) (by omega) (by omega)
    have h3 := h (i + 1 + 1 + 1) (by omega) (by omega)
    have h4 := h (i + 1 + 1 + 1 + 1) (by omega) (by omega)
    rw [ih_wd5 h0 h1 h2 h3 h4]
    omega
  · obtain ⟨k, rfl⟩ : ∃ k, L = k + 6 := ⟨L - 6, by omega⟩
    have h0 := h (i) (by omega) (by omega)
    have h1 := h (i + 1) (by omega) (by omega)
    have h2 := h (i + 1 + 1) (by omega) (by omega)
    have h3 := h (i + 1 + 1 + 1) (by omega) (by omega)
    have h4 := h (i + 1 + 1 + 1 + 1) (by omega) (by omega)
    have h5 := h (i + 1 + 1 + 1 + 1 + 1) (by omega) (by omega)
    have hb := ih_wd6 h0 h1 h2 h3 h4 h5 (k := k) (fun x a b => h x (by omega) (by omega))
    omega

theorem ih_wd_bold {f : Int → Int} {i : Int} {L : Nat} (hL : 1 ≤ L) (h : ∀ x : Int, i ≤ x → x < i + L → 97 ≤ f x ∧ f x ≤ 122) : ih_wd f L i 0 = 81284 ↔ L = 4 ∧ f i = 98 ∧ f (i + 1) = 111 ∧ f (i + 1 + 1) = 108 ∧ f (i + 1 + 1 + 1) = 100 := by
  rcases (by omega : L = 1 ∨ L = 2 ∨ L = 3 ∨ L = 4 ∨ L = 5 ∨ 6 ≤ L) with rfl | rfl | rfl | rfl | rfl | h6
  · have h0 := h (i) (by omega) (by omega)
    rw [ih_wd1 h0]
    omega
  · have h0 := h (i) (by omega) (by omega)
    have h1 := h (i + 1) (by omega) (by omega)
    rw [ih_wd2 h0 h1]
    omega
  · have h0 := h (i) (by omega) (by omega)
    have h1 := h (i + 1) (by omega) (by omega)
    have h2 := h (i + 1 + 1) (by omega) (by omega)
    rw [ih_wd3 h0 h1 h2]
    omega
  · have h0 := h (i) (by omega) (by omega)
    have h1 := h (i + 1) (by omega) (by omega)
    have h2 := h (i + 1 + 1) (by omega) (by omega)
    have h3 := h (i + 1 + 1 + 1) (by omega) (by omega)
    rw [ih_wd4 h0 h1 h2 h3]
    omega
  · have h0 := h (i) (by omega) (by omega)
    have h1 := h (i + 1) (by omega) (by omega)
    have h2 := h (i + 1 + 1) (by omega) (by omega)
    have h3 := h (i + 1 + 1 + 1) (by omega) (by omega)
    have h4 := h (i + 1 + 1 + 1 + 1) (by omega) (by omega)
    rw [ih_wd5 h0 h1 h2 h3 h4]
    omega
  · obtain ⟨k, rfl⟩ : ∃ k, L = k + 6 := ⟨L - 6, by omega⟩
    have h0 := h (i) (by omega) (by omega)
    have h1 := h (i + 1) (by omega) (by omega)
    have h2 := h (i + 1 + 1) (by omega) (by omega)
    have h3 := h (i + 1 + 1 + 1) (by omega) (by omega)
    have h4 := h (i + 1 + 1 + 1 + 1) (by omega) (by omega)
    have h5 := h (i + 1 + 1 + 1 + 1 + 1) (by omega) (by omega)
    have hb := ih_wd6 h0 h1 h2 h3 h4 h5 (k := k) (fun x a b => h x (by omega) (by omega))
    omega

theorem ih_wd_faint {f : Int → Int} {i : Int} {L : Nat} (hL : 1 ≤ L) (h : ∀ x : Int, i ≤ x → x < i + L → 97 ≤ f x ∧ f x ≤ 122) : ih_wd f L i 0 = 6333908 ↔ L = 5 ∧ f i = 102 ∧ f (i + 1) = 97 ∧ f (i + 1 + 1) = 105 ∧ f (i + 1 + 1 + 1) = 110 ∧ f (i + 1 + 1 + 1 + 1) = 116 := by
  rcases (by omega : L = 1 ∨ L = 2 ∨ L = 3 ∨ L = 4 ∨ L = 5 ∨ 6 ≤ L) with rfl | rfl | rfl | rfl | rfl | h6
  · have h0 := h (i) (by omega) (by omega)
    rw [ih_wd1 h0]
    omega
  · have h0 := h (i) (by omega) (by omega)
    have h1 := h (i + 1) (by omega) (by omega)
    rw [ih_wd2 h0 h1]
    omega
  · have h0 := h (i) (by omega) (by omega)
    have h1 := h (i + 1) (by omega) (by omega)
    have h2 := h (i + 1 + 1) (by omega) (by omega)
    rw [ih_wd3 h0 h1 h2]
    omega
  · have h0 := h (i) (by omega) (by omega)
    have h1 := h (i + 1) (by omega) (by omega)
    have h2 := h (i + 1 + 1) (by omega) (by omega)
    have h3 := h (i + 1 + 1 + 1) (by omega) (by omega)
    rw [ih_wd4 h0 h1 h2 h3]
    omega
  · have h0 := h (i) (by omega) (by omega)
    have h1 := h (i + 1) (by omega) (by omega)
    have h2 := h (i + 1 + 1) (by omega) (by omega)
    have h3 := h (i + 1 + 1 + 1) (by omega) (by omega)
    have h4 := h (i + 1 + 1 + 1 + 1) (by omega) (by omega)
    rw [ih_wd5 h0 h1 h2 h3 h4]
    omega
  · obtain ⟨k, rfl⟩ : ∃ k, L = k + 6 := ⟨L - 6, by omega⟩
    have h0 := h (i) (by omega) (by omega)
    have h1 := h (i + 1) (by omega) (by omega)
    have h2 := h (i + 1 + 1) (by omega) (by omega)
    have h3 := h (i + 1 + 1 + 1) (by omega) (by omega)
    have h4 := h (i + 1 + 1 + 1 + 1) (by omega) (by omega)
    have h5 := h (i + 1 + 1 + 1 + 1 + 1) (by omega) (by omega)
    have hb := ih_wd6 h0 h1 h2 h3 h4 h5 (k := k) (fun x a b => h x (by omega) (by omega))
    omega

theorem ih_wd_blot {f : Int → Int} {i : Int} {L : Nat} (hL : 1 ≤ L) (h : ∀ x : Int, i ≤ x → x < i + L → 97 ≤ f x ∧ f x ≤ 122) : ih_wd f L i 0 = 78324 ↔ L = 4 ∧ f i = 98 ∧ f (i + 1) = 108 ∧ f (i + 1 + 1) = 111 ∧ f (i + 1 + 1 + 1) = 116 := by
  rcases (by omega : L = 1 ∨ L = 2 ∨ L = 3 ∨ L = 4 ∨ L = 5 ∨ 6 ≤ L) with rfl | rfl | rfl | rfl | rfl | h6
  · have h0 := h (i) (by omega) (by omega)
    rw [ih_wd1 h0]
    omega
  · have h0 := h (i) (by omega) (by omega)
    have h1 := h (i + 1) (by omega) (by omega)
    rw [ih_wd2 h0 h1]
    omega
  · have h0 := h (i) (by omega) (by omega)
    have h1 := h (i + 1) (by omega) (by omega)
    have h2 := h (i + 1 + 1) (by omega) (by omega)
    rw [ih_wd3 h0 h1 h2]
    omega
  · have h0 := h (i) (by omega) (by omega)
    have h1 := h (i + 1) (by omega) (by omega)
    have h2 := h (i + 1 + 1) (by omega) (by omega)
    have h3 := h (i + 1 + 1 + 1) (by omega) (by omega)
    rw [ih_wd4 h0 h1 h2 h3]
    omega
  · have h0 := h (i) (by omega) (by omega)
    have h1 := h (i + 1) (by omega) (by omega)
    have h2 := h (i + 1 + 1) (by omega) (by omega)
    have h3 := h (i + 1 + 1 + 1) (by omega) (by omega)
    have h4 := h (i + 1 + 1 + 1 + 1) (by omega) (by omega)
    rw [ih_wd5 h0 h1 h2 h3 h4]
    omega
  · obtain ⟨k, rfl⟩ : ∃ k, L = k + 6 := ⟨L - 6, by omega⟩
    have h0 := h (i) (by omega) (by omega)
    have h1 := h (i + 1) (by omega) (by omega)
    have h2 := h (i + 1 + 1) (by omega) (by omega)
    have h3 := h (i + 1 + 1 + 1) (by omega) (by omega)
    have h4 := h (i + 1 + 1 + 1 + 1) (by omega) (by omega)
    have h5 := h (i + 1 + 1 + 1 + 1 + 1) (by omega) (by omega)
    have hb := ih_wd6 h0 h1 h2 h3 h4 h5 (k := k) (fun x a b => h x (by omega) (by omega))
    omega

theorem ih_wd_l1 {f : Int → Int} {i : Int} {L : Nat} (hL : 1 ≤ L) (h : ∀ x : Int, i ≤ x → x < i + L → 97 ≤ f x ∧ f x ≤ 122) : (0 < ih_wd f L i 0 ∧ ih_wd f L i 0 < 5) ↔ L = 1 ∧ f i ≤ 100 := by
  rcases (by omega : L = 1 ∨ L = 2 ∨ L = 3 ∨ L = 4 ∨ L = 5 ∨ 6 ≤ L) with rfl | rfl | rfl | rfl | rfl | h6
  · have h0 := h (i) (by omega) (by omega)
    rw [ih_wd1 h0]
    omega
  · have h0 := h (i) (by omega) (by omega)
    have h1 := h (i + 1) (by omega) (by omega)
    rw [ih_wd2 h0 h1]
    omega
  · have h0 := h (i) (by omega) (by omega)
    have h1 := h (i + 1) (by omega) (by omega)
    have h2 := h (i + 1 + 1) (by omega) (by omega)
    rw [ih_wd3 h0 h1 h2]
    omega
  · have h0 := h (i) (by omega) (by omega)
    have h1 := h (i + 1) (by omega) (by omega)
    have h2 := h (i + 1 + 1) (by omega) (by omega)
    have h3 := h (i + 1 + 1 + 1) (by omega) (by omega)
    rw [ih_wd4 h0 h1 h2 h3]
    omega
  · have h0 := h (i) (by omega) (by omega)
    have h1 := h (i + 1) (by omega) (by omega)
    have h2 := h (i + 1 + 1) (by omega) (by omega)
    have h3 := h (i + 1 + 1 + 1) (by omega) (by omega)
    have h4 := h (i + 1 + 1 + 1 + 1) (by omega) (by omega)
    rw [ih_wd5 h0 h1 h2 h3 h4]
    omega
  · obtain ⟨k, rfl⟩ : ∃ k, L = k + 6 := ⟨L - 6, by omega⟩
    have h0 := h (i) (by omega) (by omega)
    have h1 := h (i + 1) (by omega) (by omega)
    have h2 := h (i + 1 + 1) (by omega) (by omega)
    have h3 := h (i + 1 + 1 + 1) (by omega) (by omega)
    have h4 := h (i + 1 + 1 + 1 + 1) (by omega) (by omega)
    have h5 := h (i + 1 + 1 + 1 + 1 + 1) (by omega) (by omega)
    have hb := ih_wd6 h0 h1 h2 h3 h4 h5 (k := k) (fun x a b => h x (by omega) (by omega))
    omega

/-- what the reference's word answers, if nothing is wrong -/
def ih_word (f : Int → Int) (n st : Int) : Int := if ih_kk f n st = 1 then ih_wd f (ih_te f n st - st).toNat st 0 else 0
theorem ih_te_ls {f : Int → Int} {n st : Int} (h : ih_kk f n st = 1) : st < ih_te f n st ∧ ∀ x : Int, st ≤ x → x < st + ((ih_te f n st - st).toNat : Nat) → 97 ≤ f x ∧ f x ≤ 122 := by
  have q := ih_kk1.1 h
  have e : ih_te f n st = ih_le f n st := by rw [ih_te, if_neg (by omega), if_pos (by omega)]
  have hb := ih_te_b (f := f) (n := n) (st := st) (by omega)
  refine ⟨by omega, fun x a b => ?_⟩
  have := ih_fst_in (P := fun i => decide (¬ (97 ≤ f i ∧ f i ≤ 122))) (n := (n - st).toNat) x a (by unfold ih_le at e; omega)
  have := of_decide_eq_false this
  omega
theorem ih_word_rg {f : Int → Int} {n st : Int} : 0 ≤ ih_word f n st ∧ ih_word f n st ≤ 1152921504606847000 := by
  unfold ih_word
  split
  · next q => exact ih_wd_rg _ _ _ (ih_te_ls q).2 (by omega)
  · omega
theorem ih_word_l {f : Int → Int} {n st : Int} : (0 < ih_word f n st ∧ ih_word f n st < 5) ↔ 0 ≤ ih_ltr f n st := by
  unfold ih_word ih_ltr
  by_cases q : ih_kk f n st = 1
  · have hs := ih_te_ls q
    have q1 := ih_kk1.1 q
    rw [if_pos q, ih_wd_l1 (by omega) hs.2]
    by_cases w : ih_te f n st - st = 1 ∧ f st ≤ 100
    · rw [if_pos ⟨q, w⟩]
      omega
    · rw [if_neg (fun k => w k.2)]
      omega
  · rw [if_neg q, if_neg (fun k => q k.1)]
    omega
theorem ih_word_l2 {f : Int → Int} {n st : Int} (h : 0 ≤ ih_ltr f n st) : ih_word f n st - 1 = ih_ltr f n st := by
  have e : ih_kk f n st = 1 ∧ ih_te f n st - st = 1 ∧ f st ≤ 100 := Classical.byContradiction (fun k => by rw [ih_ltr, if_neg k] at h; omega)
  have q1 := ih_kk1.1 e.1
  rw [ih_word, if_pos e.1, ih_ltr, if_pos e, show (ih_te f n st - st).toNat = 1 by omega, ih_wd1 q1.2]
  omega

theorem ih_word_ink {f : Int → Int} {n st : Int} : ih_word f n st = 9675 ↔ ih_is f n st ih_x_ink := by
  rw [ih_is_iff]
  unfold ih_word
  by_cases q : ih_kk f n st = 1
  · have hs := ih_te_ls q
    rw [if_pos q, ih_wd_ink (by omega) hs.2]
    have hl : ((ih_x_ink.length : Nat) : Int) = 3 := rfl
    rw [hl]
    constructor
    · rintro ⟨e, z0, z1, z2⟩
      refine ⟨q, by omega, fun k hk => ?_⟩
      have hk2 : k < 3 := hk
      rcases (by omega : k = 0 ∨ k = 1 ∨ k = 2) with rfl | rfl | rfl
      · have e0 : st + ((0 : Nat) : Int) = st := by omega
        rw [e0, z0]
        rfl
      · have e0 : st + ((1 : Nat) : Int) = st + 1 := by omega
        rw [e0, z1]
        rfl
      · have e0 : st + ((2 : Nat) : Int) = st + 1 + 1 := by omega
        rw [e0, z2]
        rfl
    · rintro ⟨_, e, z⟩
      refine ⟨by omega, ?_, ?_, ?_⟩
      · have := z 0 (by decide)
        rw [show st + ((0 : Nat) : Int) = st by omega] at this
        exact this
      · have := z 1 (by decide)
        rw [show st + ((1 : Nat) : Int) = st + 1 by omega] at this
        exact this
      · have := z 2 (by decide)
        rw [show st + ((2 : Nat) : Int) = st + 1 + 1 by omega] at this
        exact this
  · rw [if_neg q]
    constructor
    · intro h
      omega
    · intro h
      exact absurd h.1 q

theorem ih_word_paper {f : Int → Int} {n st : Int} : ih_word f n st = 16826546 ↔ ih_is f n st ih_x_paper := by
  rw [ih_is_iff]
  unfold ih_word
  by_cases q : ih_kk f n st = 1
  · have hs := ih_te_ls q
    rw [if_pos q, ih_wd_paper (by omega) hs.2]
    have hl : ((ih_x_paper.length : Nat) : Int) = 5 := rfl
    rw [hl]
    constructor
    · rintro ⟨e, z0, z1, z2, z3, z4⟩
      refine ⟨q, by omega, fun k hk => ?_⟩
      have hk2 : k < 5 := hk
      rcases (by omega : k = 0 ∨ k = 1 ∨ k = 2 ∨ k = 3 ∨ k = 4) with rfl | rfl | rfl | rfl | rfl
      · have e0 : st + ((0 : Nat) : Int) = st := by omega
        rw [e0, z0]
        rfl
      · have e0 : st + ((1 : Nat) : Int) = st + 1 := by omega
        rw [e0, z1]
        rfl
      · have e0 : st + ((2 : Nat) : Int) = st + 1 + 1 := by omega
        rw [e0, z2]
        rfl
      · have e0 : st + ((3 : Nat) : Int) = st + 1 + 1 + 1 := by omega
        rw [e0, z3]
        rfl
      · have e0 : st + ((4 : Nat) : Int) = st + 1 + 1 + 1 + 1 := by omega
        rw [e0, z4]
        rfl
    · rintro ⟨_, e, z⟩
      refine ⟨by omega, ?_, ?_, ?_, ?_, ?_⟩
      · have := z 0 (by decide)
        rw [show st + ((0 : Nat) : Int) = st by omega] at this
        exact this
      · have := z 1 (by decide)
        rw [show st + ((1 : Nat) : Int) = st + 1 by omega] at this
        exact this
      · have := z 2 (by decide)
        rw [show st + ((2 : Nat) : Int) = st + 1 + 1 by omega] at this
        exact this
      · have := z 3 (by decide)
        rw [show st + ((3 : Nat) : Int) = st + 1 + 1 + 1 by omega] at this
        exact this
      · have := z 4 (by decide)
        rw [show st + ((4 : Nat) : Int) = st + 1 + 1 + 1 + 1 by omega] at this
        exact this
  · rw [if_neg q]
    constructor
    · intro h
      omega
    · intro h
      exact absurd h.1 q

theorem ih_word_on {f : Int → Int} {n st : Int} : ih_word f n st = 494 ↔ ih_is f n st ih_x_on := by
  rw [ih_is_iff]
  unfold ih_word
  by_cases q : ih_kk f n st = 1
  · have hs := ih_te_ls q
    rw [if_pos q, ih_wd_on (by omega) hs.2]
    have hl : ((ih_x_on.length : Nat) : Int) = 2 := rfl
    rw [hl]
    constructor
    · rintro ⟨e, z0, z1⟩
      refine ⟨q, by omega, fun k hk => ?_⟩
      have hk2 : k < 2 := hk
      rcases (by omega : k = 0 ∨ k = 1) with rfl | rfl
      · have e0 : st + ((0 : Nat) : Int) = st := by omega
        rw [e0, z0]
        rfl
      · have e0 : st + ((1 : Nat) : Int) = st + 1 := by omega
        rw [e0, z1]
        rfl
    · rintro ⟨_, e, z⟩
      refine ⟨by omega, ?_, ?_⟩
      · have := z 0 (by decide)
        rw [show st + ((0 : Nat) : Int) = st by omega] at this
        exact this
      · have := z 1 (by decide)
        rw [show st + ((1 : Nat) : Int) = st + 1 by omega] at this
        exact this
  · rw [if_neg q]
    constructor
    · intro h
      omega
    · intro h
      exact absurd h.1 q

theorem ih_word_lasts {f : Int → Int} {n st : Int} : ih_word f n st = 12635795 ↔ ih_is f n st ih_x_lasts := by
  rw [ih_is_iff]
  unfold ih_word
  by_cases q : ih_kk f n st = 1
  · have hs := ih_te_ls q
    rw [if_pos q, ih_wd_lasts (by omega) hs.2]
    have hl : ((ih_x_lasts.length : Nat) : Int) = 5 := rfl
    rw [hl]
    constructor
    · rintro ⟨e, z0, z1, z2, z3, z4⟩
      refine ⟨q, by omega, fun k hk => ?_⟩
      have hk2 : k < 5 := hk
      rcases (by omega : k = 0 ∨ k = 1 ∨ k = 2 ∨ k = 3 ∨ k = 4) with rfl | rfl | rfl | rfl | rfl
      · have e0 : st + ((0 : Nat) : Int) = st := by omega
        rw [e0, z0]
        rfl
      · have e0 : st + ((1 : Nat) : Int) = st + 1 := by omega
        rw [e0, z1]
        rfl
      · have e0 : st + ((2 : Nat) : Int) = st + 1 + 1 := by omega
        rw [e0, z2]
        rfl
      · have e0 : st + ((3 : Nat) : Int) = st + 1 + 1 + 1 := by omega
        rw [e0, z3]
        rfl
      · have e0 : st + ((4 : Nat) : Int) = st + 1 + 1 + 1 + 1 := by omega
        rw [e0, z4]
        rfl
    · rintro ⟨_, e, z⟩
      refine ⟨by omega, ?_, ?_, ?_, ?_, ?_⟩
      · have := z 0 (by decide)
        rw [show st + ((0 : Nat) : Int) = st by omega] at this
        exact this
      · have := z 1 (by decide)
        rw [show st + ((1 : Nat) : Int) = st + 1 by omega] at this
        exact this
      · have := z 2 (by decide)
        rw [show st + ((2 : Nat) : Int) = st + 1 + 1 by omega] at this
        exact this
      · have := z 3 (by decide)
        rw [show st + ((3 : Nat) : Int) = st + 1 + 1 + 1 by omega] at this
        exact this
      · have := z 4 (by decide)
        rw [show st + ((4 : Nat) : Int) = st + 1 + 1 + 1 + 1 by omega] at this
        exact this
  · rw [if_neg q]
    constructor
    · intro h
      omega
    · intro h
      exact absurd h.1 q

theorem ih_word_price {f : Int → Int} {n st : Int} : ih_word f n st = 17376357 ↔ ih_is f n st ih_x_price := by
  rw [ih_is_iff]
  unfold ih_word
  by_cases q : ih_kk f n st = 1
  · have hs := ih_te_ls q
    rw [if_pos q, ih_wd_price (by omega) hs.2]
    have hl : ((ih_x_price.length : Nat) : Int) = 5 := rfl
    rw [hl]
    constructor
    · rintro ⟨e, z0, z1, z2, z3, z4⟩
      refine ⟨q, by omega, fun k hk => ?_⟩
      have hk2 : k < 5 := hk
      rcases (by omega : k = 0 ∨ k = 1 ∨ k = 2 ∨ k = 3 ∨ k = 4) with rfl | rfl | rfl | rfl | rfl
      · have e0 : st + ((0 : Nat) : Int) = st := by omega
        rw [e0, z0]
        rfl
      · have e0 : st + ((1 : Nat) : Int) = st + 1 := by omega
        rw [e0, z1]
        rfl
      · have e0 : st + ((2 : Nat) : Int) = st + 1 + 1 := by omega
        rw [e0, z2]
        rfl
      · have e0 : st + ((3 : Nat) : Int) = st + 1 + 1 + 1 := by omega
        rw [e0, z3]
        rfl
      · have e0 : st + ((4 : Nat) : Int) = st + 1 + 1 + 1 + 1 := by omega
        rw [e0, z4]
        rfl
    · rintro ⟨_, e, z⟩
      refine ⟨by omega, ?_, ?_, ?_, ?_, ?_⟩
      · have := z 0 (by decide)
        rw [show st + ((0 : Nat) : Int) = st by omega] at this
        exact this
      · have := z 1 (by decide)
        rw [show st + ((1 : Nat) : Int) = st + 1 by omega] at this
        exact this
      · have := z 2 (by decide)
        rw [show st + ((2 : Nat) : Int) = st + 1 + 1 by omega] at this
        exact this
      · have := z 3 (by decide)
        rw [show st + ((3 : Nat) : Int) = st + 1 + 1 + 1 by omega] at this
        exact this
      · have := z 4 (by decide)
        rw [show st + ((4 : Nat) : Int) = st + 1 + 1 + 1 + 1 by omega] at this
        exact this
  · rw [if_neg q]
    constructor
    · intro h
      omega
    · intro h
      exact absurd h.1 q

theorem ih_word_light {f : Int → Int} {n st : Int} : ih_word f n st = 12885268 ↔ ih_is f n st ih_x_light := by
  rw [ih_is_iff]
  unfold ih_word
  by_cases q : ih_kk f n st = 1
  · have hs := ih_te_ls q
    rw [if_pos q, ih_wd_light (by omega) hs.2]
    have hl : ((ih_x_light.length : Nat) : Int) = 5 := rfl
    rw [hl]
    constructor
    · rintro ⟨e, z0, z1, z2, z3, z4⟩
      refine ⟨q, by omega, fun k hk => ?_⟩
      have hk2 : k < 5 := hk
      rcases (by omega : k = 0 ∨ k = 1 ∨ k = 2 ∨ k = 3 ∨ k = 4) with rfl | rfl | rfl | rfl | rfl
      · have e0 : st + ((0 : Nat) : Int) = st := by omega
        rw [e0, z0]
        rfl
      · have e0 : st + ((1 : Nat) : Int) = st + 1 := by omega
        rw [e0, z1]
        rfl
      · have e0 : st + ((2 : Nat) : Int) = st + 1 + 1 := by omega
        rw [e0, z2]
        rfl
      · have e0 : st + ((3 : Nat) : Int) = st + 1 + 1 + 1 := by omega
        rw [e0, z3]
        rfl
      · have e0 : st + ((4 : Nat) : Int) = st + 1 + 1 + 1 + 1 := by omega
        rw [e0, z4]
        rfl
    · rintro ⟨_, e, z⟩
      refine ⟨by omega, ?_, ?_, ?_, ?_, ?_⟩
      · have := z 0 (by decide)
        rw [show st + ((0 : Nat) : Int) = st by omega] at this
        exact this
      · have := z 1 (by decide)
        rw [show st + ((1 : Nat) : Int) = st + 1 by omega] at this
        exact this
      · have := z 2 (by decide)
        rw [show st + ((2 : Nat) : Int) = st + 1 + 1 by omega] at this
        exact this
      · have := z 3 (by decide)
        rw [show st + ((3 : Nat) : Int) = st + 1 + 1 + 1 by omega] at this
        exact this
      · have := z 4 (by decide)
        rw [show st + ((4 : Nat) : Int) = st + 1 + 1 + 1 + 1 by omega] at this
        exact this
  · rw [if_neg q]
    constructor
    · intro h
      omega
    · intro h
      exact absurd h.1 q

theorem ih_word_dark {f : Int → Int} {n st : Int} : ih_word f n st = 132683 ↔ ih_is f n st ih_x_dark := by
  rw [ih_is_iff]
  unfold ih_word
  by_cases q : ih_kk f n st = 1
  · have hs := ih_te_ls q
    rw [if_pos q, ih_wd_dark (by omega) hs.2]
    have hl : ((ih_x_dark.length : Nat) : Int) = 4 := rfl
    rw [hl]
    constructor
    · rintro ⟨e, z0, z1, z2, z3⟩
      refine ⟨q, by omega, fun k hk => ?_⟩
      have hk2 : k < 4 := hk
      rcases (by omega : k = 0 ∨ k = 1 ∨ k = 2 ∨ k = 3) with rfl | rfl | rfl | rfl
      · have e0 : st + ((0 : Nat) : Int) = st := by omega
        rw [e0, z0]
        rfl
      · have e0 : st + ((1 : Nat) : Int) = st + 1 := by omega
        rw [e0, z1]
        rfl
      · have e0 : st + ((2 : Nat) : Int) = st + 1 + 1 := by omega
        rw [e0, z2]
        rfl
      · have e0 : st + ((3 : Nat) : Int) = st + 1 + 1 + 1 := by omega
        rw [e0, z3]
        rfl
    · rintro ⟨_, e, z⟩
      refine ⟨by omega, ?_, ?_, ?_, ?_⟩
      · have := z 0 (by decide)
        rw [show st + ((0 : Nat) : Int) = st by omega] at this
        exact this
      · have := z 1 (by decide)
        rw [show st + ((1 : Nat) : Int) = st + 1 by omega] at this
        exact this
      · have := z 2 (by decide)
        rw [show st + ((2 : Nat) : Int) = st + 1 + 1 by omega] at this
        exact this
      · have := z 3 (by decide)
        rw [show st + ((3 : Nat) : Int) = st + 1 + 1 + 1 by omega] at this
        exact this
  · rw [if_neg q]
    constructor
    · intro h
      omega
    · intro h
      exact absurd h.1 q

theorem ih_word_not {f : Int → Int} {n st : Int} : ih_word f n st = 14836 ↔ ih_is f n st ih_x_not := by
  rw [ih_is_iff]
  unfold ih_word
  by_cases q : ih_kk f n st = 1
  · have hs := ih_te_ls q
    rw [if_pos q, ih_wd_not (by omega) hs.2]
    have hl : ((ih_x_not.length : Nat) : Int) = 3 := rfl
    rw [hl]
    constructor
    · rintro ⟨e, z0, z1, z2⟩
      refine ⟨q, by omega, fun k hk => ?_⟩
      have hk2 : k < 3 := hk
      rcases (by omega : k = 0 ∨ k = 1 ∨ k = 2) with rfl | rfl | rfl
      · have e0 : st + ((0 : Nat) : Int) = st := by omega
        rw [e0, z0]
        rfl
      · have e0 : st + ((1 : Nat) : Int) = st + 1 := by omega
        rw [e0, z1]
        rfl
      · have e0 : st + ((2 : Nat) : Int) = st + 1 + 1 := by omega
        rw [e0, z2]
        rfl
    · rintro ⟨_, e, z⟩
      refine ⟨by omega, ?_, ?_, ?_⟩
      · have := z 0 (by decide)
        rw [show st + ((0 : Nat) : Int) = st by omega] at this
        exact this
      · have := z 1 (by decide)
        rw [show st + ((1 : Nat) : Int) = st + 1 by omega] at this
        exact this
      · have := z 2 (by decide)
        rw [show st + ((2 : Nat) : Int) = st + 1 + 1 by omega] at this
        exact this
  · rw [if_neg q]
    constructor
    · intro h
      omega
    · intro h
      exact absurd h.1 q

theorem ih_word_and {f : Int → Int} {n st : Int} : ih_word f n st = 1476 ↔ ih_is f n st ih_x_and := by
  rw [ih_is_iff]
  unfold ih_word
  by_cases q : ih_kk f n st = 1
  · have hs := ih_te_ls q
    rw [if_pos q, ih_wd_and (by omega) hs.2]
    have hl : ((ih_x_and.length : Nat) : Int) = 3 := rfl
    rw [hl]
    constructor
    · rintro ⟨e, z0, z1, z2⟩
      refine ⟨q, by omega, fun k hk => ?_⟩
      have hk2 : k < 3 := hk
      rcases (by omega : k = 0 ∨ k = 1 ∨ k = 2) with rfl | rfl | rfl
      · have e0 : st + ((0 : Nat) : Int) = st := by omega
        rw [e0, z0]
        rfl
      · have e0 : st + ((1 : Nat) : Int) = st + 1 := by omega
        rw [e0, z1]
        rfl
      · have e0 : st + ((2 : Nat) : Int) = st + 1 + 1 := by omega
        rw [e0, z2]
        rfl
    · rintro ⟨_, e, z⟩
      refine ⟨by omega, ?_, ?_, ?_⟩
      · have := z 0 (by decide)
        rw [show st + ((0 : Nat) : Int) = st by omega] at this
        exact this
      · have := z 1 (by decide)
        rw [show st + ((1 : Nat) : Int) = st + 1 by omega] at this
        exact this
      · have := z 2 (by decide)
        rw [show st + ((2 : Nat) : Int) = st + 1 + 1 by omega] at this
        exact this
  · rw [if_neg q]
    constructor
    · intro h
      omega
    · intro h
      exact absurd h.1 q

theorem ih_word_or {f : Int → Int} {n st : Int} : ih_word f n st = 498 ↔ ih_is f n st ih_x_or := by
  rw [ih_is_iff]
  unfold ih_word
  by_cases q : ih_kk f n st = 1
  · have hs := ih_te_ls q
    rw [if_pos q, ih_wd_or (by omega) hs.2]
    have hl : ((ih_x_or.length : Nat) : Int) = 2 := rfl
    rw [hl]
    constructor
    · rintro ⟨e, z0, z1⟩
      refine ⟨q, by omega, fun k hk => ?_⟩
      have hk2 : k < 2 := hk
      rcases (by omega : k = 0 ∨ k = 1) with rfl | rfl
      · have e0 : st + ((0 : Nat) : Int) = st := by omega
        rw [e0, z0]
        rfl
      · have e0 : st + ((1 : Nat) : Int) = st + 1 := by omega
        rw [e0, z1]
        rfl
    · rintro ⟨_, e, z⟩
      refine ⟨by omega, ?_, ?_⟩
      · have := z 0 (by decide)
        rw [show st + ((0 : Nat) : Int) = st by omega] at this
        exact this
      · have := z 1 (by decide)
        rw [show st + ((1 : Nat) : Int) = st + 1 by omega] at this
        exact this
  · rw [if_neg q]
    constructor
    · intro h
      omega
    · intro h
      exact absurd h.1 q

theorem ih_word_bold {f : Int → Int} {n st : Int} : ih_word f n st = 81284 ↔ ih_is f n st ih_x_bold := by
  rw [ih_is_iff]
  unfold ih_word
  by_cases q : ih_kk f n st = 1
  · have hs := ih_te_ls q
    rw [if_pos q, ih_wd_bold (by omega) hs.2]
    have hl : ((ih_x_bold.length : Nat) : Int) = 4 := rfl
    rw [hl]
    constructor
    · rintro ⟨e, z0, z1, z2, z3⟩
      refine ⟨q, by omega, fun k hk => ?_⟩
      have hk2 : k < 4 := hk
      rcases (by omega : k = 0 ∨ k = 1 ∨ k = 2 ∨ k = 3) with rfl | rfl | rfl | rfl
      · have e0 : st + ((0 : Nat) : Int) = st := by omega
        rw [e0, z0]
        rfl
      · have e0 : st + ((1 : Nat) : Int) = st + 1 := by omega
        rw [e0, z1]
        rfl
      · have e0 : st + ((2 : Nat) : Int) = st + 1 + 1 := by omega
        rw [e0, z2]
        rfl
      · have e0 : st + ((3 : Nat) : Int) = st + 1 + 1 + 1 := by omega
        rw [e0, z3]
        rfl
    · rintro ⟨_, e, z⟩
      refine ⟨by omega, ?_, ?_, ?_, ?_⟩
      · have := z 0 (by decide)
        rw [show st + ((0 : Nat) : Int) = st by omega] at this
        exact this
      · have := z 1 (by decide)
        rw [show st + ((1 : Nat) : Int) = st + 1 by omega] at this
        exact this
      · have := z 2 (by decide)
        rw [show st + ((2 : Nat) : Int) = st + 1 + 1 by omega] at this
        exact this
      · have := z 3 (by decide)
        rw [show st + ((3 : Nat) : Int) = st + 1 + 1 + 1 by omega] at this
        exact this
  · rw [if_neg q]
    constructor
    · intro h
      omega
    · intro h
      exact absurd h.1 q

theorem ih_word_faint {f : Int → Int} {n st : Int} : ih_word f n st = 6333908 ↔ ih_is f n st ih_x_faint := by
  rw [ih_is_iff]
  unfold ih_word
  by_cases q : ih_kk f n st = 1
  · have hs := ih_te_ls q
    rw [if_pos q, ih_wd_faint (by omega) hs.2]
    have hl : ((ih_x_faint.length : Nat) : Int) = 5 := rfl
    rw [hl]
    constructor
    · rintro ⟨e, z0, z1, z2, z3, z4⟩
      refine ⟨q, by omega, fun k hk => ?_⟩
      have hk2 : k < 5 := hk
      rcases (by omega : k = 0 ∨ k = 1 ∨ k = 2 ∨ k = 3 ∨ k = 4) with rfl | rfl | rfl | rfl | rfl
      · have e0 : st + ((0 : Nat) : Int) = st := by omega
        rw [e0, z0]
        rfl
      · have e0 : st + ((1 : Nat) : Int) = st + 1 := by omega
        rw [e0, z1]
        rfl
      · have e0 : st + ((2 : Nat) : Int) = st + 1 + 1 := by omega
        rw [e0, z2]
        rfl
      · have e0 : st + ((3 : Nat) : Int) = st + 1 + 1 + 1 := by omega
        rw [e0, z3]
        rfl
      · have e0 : st + ((4 : Nat) : Int) = st + 1 + 1 + 1 + 1 := by omega
        rw [e0, z4]
        rfl
    · rintro ⟨_, e, z⟩
      refine ⟨by omega, ?_, ?_, ?_, ?_, ?_⟩
      · have := z 0 (by decide)
        rw [show st + ((0 : Nat) : Int) = st by omega] at this
        exact this
      · have := z 1 (by decide)
        rw [show st + ((1 : Nat) : Int) = st + 1 by omega] at this
        exact this
      · have := z 2 (by decide)
        rw [show st + ((2 : Nat) : Int) = st + 1 + 1 by omega] at this
        exact this
      · have := z 3 (by decide)
        rw [show st + ((3 : Nat) : Int) = st + 1 + 1 + 1 by omega] at this
        exact this
      · have := z 4 (by decide)
        rw [show st + ((4 : Nat) : Int) = st + 1 + 1 + 1 + 1 by omega] at this
        exact this
  · rw [if_neg q]
    constructor
    · intro h
      omega
    · intro h
      exact absurd h.1 q

theorem ih_word_blot {f : Int → Int} {n st : Int} : ih_word f n st = 78324 ↔ ih_is f n st ih_x_blot := by
  rw [ih_is_iff]
  unfold ih_word
  by_cases q : ih_kk f n st = 1
  · have hs := ih_te_ls q
    rw [if_pos q, ih_wd_blot (by omega) hs.2]
    have hl : ((ih_x_blot.length : Nat) : Int) = 4 := rfl
    rw [hl]
    constructor
    · rintro ⟨e, z0, z1, z2, z3⟩
      refine ⟨q, by omega, fun k hk => ?_⟩
      have hk2 : k < 4 := hk
      rcases (by omega : k = 0 ∨ k = 1 ∨ k = 2 ∨ k = 3) with rfl | rfl | rfl | rfl
      · have e0 : st + ((0 : Nat) : Int) = st := by omega
        rw [e0, z0]
        rfl
      · have e0 : st + ((1 : Nat) : Int) = st + 1 := by omega
        rw [e0, z1]
        rfl
      · have e0 : st + ((2 : Nat) : Int) = st + 1 + 1 := by omega
        rw [e0, z2]
        rfl
      · have e0 : st + ((3 : Nat) : Int) = st + 1 + 1 + 1 := by omega
        rw [e0, z3]
        rfl
    · rintro ⟨_, e, z⟩
      refine ⟨by omega, ?_, ?_, ?_, ?_⟩
      · have := z 0 (by decide)
        rw [show st + ((0 : Nat) : Int) = st by omega] at this
        exact this
      · have := z 1 (by decide)
        rw [show st + ((1 : Nat) : Int) = st + 1 by omega] at this
        exact this
      · have := z 2 (by decide)
        rw [show st + ((2 : Nat) : Int) = st + 1 + 1 by omega] at this
        exact this
      · have := z 3 (by decide)
        rw [show st + ((3 : Nat) : Int) = st + 1 + 1 + 1 by omega] at this
        exact this
  · rw [if_neg q]
    constructor
    · intro h
      omega
    · intro h
      exact absurd h.1 q
