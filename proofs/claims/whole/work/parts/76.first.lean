/-! the constructors, by the kernel: they ask nothing of the script -/
def xo_ok (ins : Jvm.ClassFile.Instr) : Bool := match ins with
  | .iaload => false
  | .arraylength => false
  | _ => true
theorem xo_one {X : List Int} {e : xa_E} {i : Nat} {ls st : List xa_V} {h : xa_H} (hp : xo_ok e.2.1 = true) : xa_one1 X e i ls st h = xa_one1 [] e i ls st h := by
  obtain ⟨pb, ins, ln, x⟩ := e
  cases ins <;> first | rfl | (simp [xo_ok] at hp; done)
def xo_ex : Nat → Nat → Nat → List xa_V → List xa_V → xa_H → Option (Option xa_V × xa_H)
  | 0, _, _, _, _, _ => none
  | n + 1, mi, i, ls, st, h => match (xb_G.1 mi)[i]? with
    | none => none
    | some e => if xo_ok e.2.1 = true then (match xa_one1 [] e i ls st h with
      | none => none
      | some (.inl (i', ls', st', h')) => xo_ex n mi i' ls' st' h'
      | some (.inr (.inl r)) => some r
      | some (.inr (.inr (y, args, i', ls', rest))) => if (xa_args args).length ≤ (xb_G.2 y).1 then (match xo_ex n y 0 (xa_loc (xb_G.2 y).1 args) [] h with
        | none => none
        | some (rv, h1) => if h1.length = h.length + (xb_G.2 y).2.1 ∧ xa_sl h1 = xa_sl h + (xb_G.2 y).2.2 then xo_ex n mi i' ls' (rv.toList ++ rest) h1 else none) else none) else none
theorem xo_sound (X : List Int) : ∀ (n mi i : Nat) (ls st : List xa_V) (h : xa_H) (r : Option xa_V × xa_H), xo_ex n mi i ls st h = some r → xa_ex xb_G X n mi i ls st h = some r
  | 0, mi, i, ls, st, h, r, e => by simp [xo_ex] at e
  | n + 1, mi, i, ls, st, h, r, e => by
    rw [xo_ex] at e
    rw [xa_ex]
    cases hg : (xb_G.1 mi)[i]? with
    | none =>
      rw [hg] at e
      first
        | cases e
        | (dsimp only at e
           cases e)
        | (simp at e; done)
    | some en =>
      rw [hg] at e
      dsimp only at e ⊢
      by_cases hp : xo_ok en.2.1 = true
      · rw [if_pos hp] at e
        rw [xo_one hp]
        cases ho : xa_one1 [] en i ls st h with
        | none =>
          rw [ho] at e
          first
            | cases e
            | (dsimp only at e
               cases e)
            | (simp at e; done)
        | some q =>
          rw [ho] at e
          rcases q with ⟨i', ls', st', h'⟩ | q | ⟨y, args, i', ls', rest⟩
          · exact xo_sound X n mi i' ls' st' h' r e
          · exact e
          · dsimp only at e ⊢
            by_cases hl : (xa_args args).length ≤ (xb_G.2 y).1
            · rw [if_pos hl] at e ⊢
              cases hc : xo_ex n y 0 (xa_loc (xb_G.2 y).1 args) [] h with
              | none =>
                rw [hc] at e
                first
                  | cases e
                  | (dsimp only at e
                     cases e)
                  | (simp at e; done)
              | some u =>
                obtain ⟨rv, h1⟩ := u
                rw [hc] at e
                rw [xo_sound X n _ _ _ _ _ _ hc]
                dsimp only at e ⊢
                by_cases hz : h1.length = h.length + (xb_G.2 y).2.1 ∧ xa_sl h1 = xa_sl h + (xb_G.2 y).2.2
                · rw [if_pos hz] at e ⊢
                  exact xo_sound X n _ _ _ _ _ _ e
                · rw [if_neg hz] at e
                  first
                    | cases e
                    | (dsimp only at e
                       cases e)
                    | (simp at e; done)
            · rw [if_neg hl] at e
              first
                | cases e
                | (dsimp only at e
                   cases e)
                | (simp at e; done)
      · rw [if_neg hp] at e
        first
          | cases e
          | (dsimp only at e
             cases e)
          | (simp at e; done)
/-- the first k instructions of a method, its calls with f steps at most -/
def xo_pre (f : Nat) : Nat → Nat → Nat → List xa_V → List xa_V → xa_H → Option (Nat × (List xa_V × (List xa_V × xa_H)))
  | 0, _, i, ls, st, h => some (i, ls, st, h)
  | k + 1, mi, i, ls, st, h => match (xb_G.1 mi)[i]? with
    | none => none
    | some e => if xo_ok e.2.1 = true then (match xa_one1 [] e i ls st h with
      | none => none
      | some (.inl (i', ls', st', h')) => xo_pre f k mi i' ls' st' h'
      | some (.inr (.inl _)) => none
      | some (.inr (.inr (y, args, i', ls', rest))) => if (xa_args args).length ≤ (xb_G.2 y).1 then (match xo_ex f y 0 (xa_loc (xb_G.2 y).1 args) [] h with
        | none => none
        | some (rv, h1) => if h1.length = h.length + (xb_G.2 y).2.1 ∧ xa_sl h1 = xa_sl h + (xb_G.2 y).2.2 then xo_pre f k mi i' ls' (rv.toList ++ rest) h1 else none) else none) else none
theorem xo_pre_ok (X : List Int) (f : Nat) {i1 : Nat} {ls1 st1 : List xa_V} {h2 : xa_H} {r : Option xa_V × xa_H} : ∀ (k mi i : Nat) (ls st : List xa_V) (h : xa_H), xo_pre f k mi i ls st h = some (i1, ls1, st1, h2) → (∃ n, xa_ex xb_G X n mi i1 ls1 st1 h2 = some r) → ∃ n, xa_ex xb_G X n mi i ls st h = some r
  | 0, mi, i, ls, st, h, e, g => by
    rw [xo_pre] at e
    cases e
    exact g
  | k + 1, mi, i, ls, st, h, e, g => by
    rw [xo_pre] at e
    cases hg : (xb_G.1 mi)[i]? with
    | none =>
      rw [hg] at e
      first
        | cases e
        | (dsimp only at e
           cases e)
        | (simp at e; done)
    | some en =>
      rw [hg] at e
      dsimp only at e
      by_cases hp : xo_ok en.2.1 = true
      · rw [if_pos hp] at e
        cases ho : xa_one1 [] en i ls st h with
        | none =>
          rw [ho] at e
          first
            | cases e
            | (dsimp only at e
               cases e)
            | (simp at e; done)
        | some q =>
          rw [ho] at e
          rcases q with ⟨i', ls', st', h'⟩ | q | ⟨y, args, i', ls', rest⟩
          · obtain ⟨n, en2⟩ := xo_pre_ok X f k mi i' ls' st' h' e g
            refine ⟨n + 1, ?_⟩
            rw [xa_ex, hg]
            dsimp only
            rw [xo_one hp, ho]
            exact en2
          · first
              | cases e
              | (dsimp only at e
                 cases e)
              | (simp at e; done)
          · dsimp only at e
            by_cases hl : (xa_args args).length ≤ (xb_G.2 y).1
            · rw [if_pos hl] at e
              cases hc : xo_ex f y 0 (xa_loc (xb_G.2 y).1 args) [] h with
              | none =>
                rw [hc] at e
                first
                  | cases e
                  | (dsimp only at e
                     cases e)
                  | (simp at e; done)
              | some u =>
                obtain ⟨rv, h1⟩ := u
                rw [hc] at e
                dsimp only at e
                by_cases hz : h1.length = h.length + (xb_G.2 y).2.1 ∧ xa_sl h1 = xa_sl h + (xb_G.2 y).2.2
                · rw [if_pos hz] at e
                  obtain ⟨n, en2⟩ := xo_pre_ok X f k mi i' ls' (rv.toList ++ rest) h1 e g
                  refine ⟨f + n + 1, ?_⟩
                  rw [xa_ex, hg]
                  dsimp only
                  rw [xo_one hp, ho]
                  dsimp only
                  rw [if_pos hl, xa_ex_more _ _ _ _ _ _ _ _ _ (xo_sound X f _ _ _ _ _ _ hc) (f + n) (by omega)]
                  dsimp only
                  rw [if_pos hz]
                  exact xa_ex_more _ _ _ _ _ _ _ _ _ en2 (f + n) (by omega)
                · rw [if_neg hz] at e
                  first
                    | cases e
                    | (dsimp only at e
                       cases e)
                    | (simp at e; done)
            · rw [if_neg hl] at e
              first
                | cases e
                | (dsimp only at e
                   cases e)
                | (simp at e; done)
      · rw [if_neg hp] at e
        first
          | cases e
          | (dsimp only at e
             cases e)
          | (simp at e; done)
/-- the first row, the first state -/
def ih_r0 : Int → Int := fun j => if j = 1 then 1 else if 2 ≤ j ∧ j < 10 then 24 else if 10 ≤ j ∧ j < 18 then 1 else if 218 ≤ j ∧ j < 228 then -1 else 0
def ih_t0 : ih_S := fun k => if k = 1 ∨ k = 27 ∨ k = 53 then (fun j => if j = 6 then 1 else 0) else if k = 2 ∨ k = 28 ∨ k = 54 then (fun _ => 24) else if k = 3 ∨ k = 29 ∨ k = 55 then (fun _ => 1) else if k = 6 ∨ k = 32 ∨ k = 58 then (fun _ => -1) else if k = 112 then ih_r0 else (fun _ => 0)
def xo_v (a b : xa_V) : Bool := match a, b with
  | .inl x, .inl y => x == y
  | .inr (.inl x), .inr (.inl y) => x == y
  | .inr (.inr (.inl x)), .inr (.inr (.inl y)) => x == y
  | .inr (.inr (.inr x)), .inr (.inr (.inr y)) => x == y
  | _, _ => false
theorem xo_v_ok {a b : xa_V} (h : xo_v a b = true) : a = b := by
  rcases a with a | a | a | a <;> rcases b with b | b | b | b <;> first
    | (cases h; done)
    | (have e : a = b := eq_of_beq h
       rw [e])
def xo_vs : List xa_V → List xa_V → Bool
  | [], [] => true
  | a :: as, b :: bs => xo_v a b && xo_vs as bs
  | _, _ => false
theorem xo_vs_ok : ∀ {as bs : List xa_V}, xo_vs as bs = true → as = bs
  | [], [], _ => rfl
  | a :: as, b :: bs, h => by
    rw [xo_vs, Bool.and_eq_true] at h
    rw [xo_v_ok h.1, xo_vs_ok h.2]
  | [], b :: bs, h => by simp [xo_vs] at h
  | a :: as, [], h => by simp [xo_vs] at h
def xo_hs : xa_H → xa_H → Bool
  | [], [] => true
  | a :: as, b :: bs => ((a.1 == b.1) && (a.2.1 == b.2.1)) && (xo_vs a.2.2 b.2.2 && xo_hs as bs)
  | _, _ => false
theorem xo_hs_ok : ∀ {as bs : xa_H}, xo_hs as bs = true → as = bs
  | [], [], _ => rfl
  | (a1, a2, a3) :: as, (b1, b2, b3) :: bs, h => by
    rw [xo_hs, Bool.and_eq_true, Bool.and_eq_true, Bool.and_eq_true] at h
    obtain ⟨⟨h1, h2⟩, h3, h4⟩ := h
    have e1 : a1 = b1 := eq_of_beq h1
    have e2 : a2 = b2 := eq_of_beq h2
    have e3 : a3 = b3 := xo_vs_ok h3
    rw [e1, e2, e3, xo_hs_ok h4]
  | [], b :: bs, h => by simp [xo_hs] at h
  | a :: as, [], h => by simp [xo_hs] at h
def xo_go : Bool := match xo_pre 3000 10 219 0 (xa_loc 4 [xC 2]) [] [] with
  | some (i, ls, st, h) => ((i == 10) && xo_vs ls [xC 2, xR 0, xR 111, xI 0]) && (xo_vs st [] && xo_hs h (ih_mk ih_t0))
  | none => false
theorem xo_go_y : xo_go = true := by decide +kernel
theorem xo_start : xo_pre 3000 10 219 0 (xa_loc 4 [xC 2]) [] [] = some (10, [xC 2, xR 0, xR 111, xI 0], [], ih_mk ih_t0) := by
  have h := xo_go_y
  unfold xo_go at h
  split at h
  · next i ls st hh e =>
    rw [Bool.and_eq_true, Bool.and_eq_true, Bool.and_eq_true] at h
    obtain ⟨⟨h1, h2⟩, h3, h4⟩ := h
    have e1 : i = 10 := eq_of_beq h1
    rw [e, e1, xo_vs_ok h2, xo_vs_ok h3, xo_hs_ok h4]
  · cases h
theorem ih_r0_las {j : Int} (h0 : 0 ≤ j) (h1 : j < 8) : ih_r0 (2 + j) = 24 := by
  unfold ih_r0
  rw [if_neg (by omega), if_pos ⟨by omega, by omega⟩]
theorem ih_r0_pri {j : Int} (h0 : 0 ≤ j) (h1 : j < 8) : ih_r0 (10 + j) = 1 := by
  unfold ih_r0
  rw [if_neg (by omega), if_neg (by omega), if_pos ⟨by omega, by omega⟩]
theorem ih_r0_z {x : Int} (h0 : 18 ≤ x) (h1 : x < 218) : ih_r0 x = 0 := by
  unfold ih_r0
  rw [if_neg (by omega), if_neg (by omega), if_neg (by omega), if_neg (by omega)]
theorem ih_r0_spot {i : Int} (h0 : 0 ≤ i) (h1 : i < 10) : ih_r0 (218 + i) = -1 := by
  unfold ih_r0
  rw [if_neg (by omega), if_neg (by omega), if_neg (by omega), if_pos ⟨by omega, by omega⟩]
theorem ih_r0_no {p k : Nat} (hp : p < 4) (hk : (k : Int) < ih_r0 (22 + p)) : False := by
  rw [ih_r0_z (by omega) (by omega)] at hk
  omega
theorem ih_r0_G : ih_Gd ih_r0 := by
  refine ⟨⟨by decide, by decide⟩, fun j h0 h1 => ?_, fun p hp => ?_, fun p k hp hk => (ih_r0_no hp hk).elim, fun i h0 h1 => Or.inl (ih_r0_spot h0 h1)⟩
  · rw [ih_r0_pri h0 h1]
    exact ⟨by decide, by decide⟩
  · refine ⟨?_, Or.inl (ih_r0_z (by omega) (by omega)), fun k hk => (ih_r0_no hp hk).elim, fun k hk => (ih_r0_no hp hk).elim, fun k hk => (ih_r0_no hp hk).elim, fun k hk => (ih_r0_no hp hk).elim, fun j h0 h1 => ?_⟩
    · rw [ih_r0_z (by omega) (by omega)]
      exact ⟨by decide, by decide⟩
    · rw [ih_r0_las h0 h1]
      exact ⟨by decide, by decide⟩
theorem ih_W0 : ih_Wr ih_t0 1 ih_r0 := by
  refine ⟨rfl, rfl, fun j h0 h1 => ?_, fun j h0 h1 => ?_, fun p hp => ?_, fun p hp => ?_, fun p k hp hk => (ih_r0_no hp hk).elim, fun p k hp hk => (ih_r0_no hp hk).elim, fun p k hp hk => (ih_r0_no hp hk).elim, fun p k hp hk => (ih_r0_no hp hk).elim, fun i h0 h1 => ?_⟩
  · rw [ih_r0_las h0 h1]
    rfl
  · rw [ih_r0_pri h0 h1]
    rfl
  · rw [ih_r0_z (by omega) (by omega)]
    rcases (by omega : p = 0 ∨ p = 1 ∨ p = 2 ∨ p = 3) with rfl | rfl | rfl | rfl <;> rfl
  · rw [ih_r0_z (by omega) (by omega)]
    rcases (by omega : p = 0 ∨ p = 1 ∨ p = 2 ∨ p = 3) with rfl | rfl | rfl | rfl <;> rfl
  · refine ⟨?_, Or.inl ⟨ih_r0_spot h0 h1, rfl⟩⟩
    show (0 : Int) ≤ 0 ∧ (0 : Int) < 4
    exact ⟨by decide, by decide⟩
theorem ih_I0 : ih_I ih_t0 := by
  refine ih_I_of ⟨ih_W0, ih_r0_G⟩ (Or.inl ⟨rfl, rfl⟩) (fun j _ _ => rfl) ⟨rfl, ⟨by decide, by decide⟩, fun k k0 k1 => ?_⟩ ⟨fun i hi => ?_, fun i hi => ⟨Or.inl rfl, ⟨?_, ?_⟩, fun k hk => ?_⟩⟩
  · exfalso
    have k2 : k < 0 := k1
    omega
  · rcases (by omega : i = 0 ∨ i = 1 ∨ i = 2 ∨ i = 3) with rfl | rfl | rfl | rfl <;> exact ⟨rfl, rfl, fun k hk => rfl⟩
  · show (0 : Int) ≤ 0
    decide
  · show (0 : Int) ≤ 40
    decide
  · exfalso
    have k2 : (k : Int) < 0 := hk
    omega
/-- every run of the law, on every script, ends with 1 -/
theorem xs_pure : xs_Pure := by
  intro X hX hr
  obtain ⟨n, rv, t1, e, q⟩ := law_loop (ih_xr hr) hX X.length 0 ih_t0 (by omega) (by omega) (by omega) ih_I0
  subst q
  obtain ⟨m, e2⟩ := xo_pre_ok X 3000 10 219 0 _ [] [] xo_start ⟨n, e⟩
  exact ⟨m, _, e2, by rw [ih_mk_len]; decide, by rw [ih_mk_sl]; decide⟩
