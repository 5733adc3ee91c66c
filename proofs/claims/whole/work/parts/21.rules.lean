section IHR
variable {X : List Int} {mi i : Nat} {ls st : List xa_V} {t : ih_S} {Q : Option xa_V → ih_S → Prop}
theorem ih_p_aload {k : Nat} {i1 : Nat} {ls1 st1 : List xa_V} {h0 h : xa_H} (ho : xa_aload i ls st [] k = some (.inl (i1, ls1, st1, h0))) : xa_aload i ls st h k = some (.inl (i1, ls1, st1, h)) := by
  unfold xa_aload at ho ⊢
  repeat' split at ho
  all_goals first | (cases ho; simp_all; done) | (cases ho; rfl) | (cases ho; done)
theorem ih_p_iload {k : Nat} {i1 : Nat} {ls1 st1 : List xa_V} {h0 h : xa_H} (ho : xa_iload i ls st [] k = some (.inl (i1, ls1, st1, h0))) : xa_iload i ls st h k = some (.inl (i1, ls1, st1, h)) := by
  unfold xa_iload at ho ⊢
  repeat' split at ho
  all_goals first | (cases ho; simp_all; done) | (cases ho; rfl) | (cases ho; done)
theorem ih_p_lload {k : Nat} {i1 : Nat} {ls1 st1 : List xa_V} {h0 h : xa_H} (ho : xa_lload i ls st [] k = some (.inl (i1, ls1, st1, h0))) : xa_lload i ls st h k = some (.inl (i1, ls1, st1, h)) := by
  unfold xa_lload at ho ⊢
  repeat' split at ho
  all_goals first | (cases ho; simp_all; done) | (cases ho; rfl) | (cases ho; done)
theorem ih_p_astore {k : Nat} {i1 : Nat} {ls1 st1 : List xa_V} {h0 h : xa_H} (ho : xa_astore i ls st [] k = some (.inl (i1, ls1, st1, h0))) : xa_astore i ls st h k = some (.inl (i1, ls1, st1, h)) := by
  unfold xa_astore at ho ⊢
  repeat' split at ho
  all_goals first | (cases ho; simp_all; done) | (cases ho; rfl) | (cases ho; done)
theorem ih_p_istore {k : Nat} {i1 : Nat} {ls1 st1 : List xa_V} {h0 h : xa_H} (ho : xa_istore i ls st [] k = some (.inl (i1, ls1, st1, h0))) : xa_istore i ls st h k = some (.inl (i1, ls1, st1, h)) := by
  unfold xa_istore at ho ⊢
  repeat' split at ho
  all_goals first | (cases ho; simp_all; done) | (cases ho; rfl) | (cases ho; done)
theorem ih_p_lstore {k : Nat} {i1 : Nat} {ls1 st1 : List xa_V} {h0 h : xa_H} (ho : xa_lstore i ls st [] k = some (.inl (i1, ls1, st1, h0))) : xa_lstore i ls st h k = some (.inl (i1, ls1, st1, h)) := by
  unfold xa_lstore at ho ⊢
  repeat' split at ho
  all_goals first | (cases ho; simp_all; done) | (cases ho; rfl) | (cases ho; done)
theorem ih_p_two {f : Int → Int → Int} {i1 : Nat} {ls1 st1 : List xa_V} {h0 h : xa_H} (ho : xa_two f i ls st [] = some (.inl (i1, ls1, st1, h0))) : xa_two f i ls st h = some (.inl (i1, ls1, st1, h)) := by
  unfold xa_two at ho ⊢
  repeat' split at ho
  all_goals first | (cases ho; simp_all; done) | (cases ho; rfl) | (cases ho; done)
theorem ih_p_two64 {f : Int → Int → Int} {i1 : Nat} {ls1 st1 : List xa_V} {h0 h : xa_H} (ho : xa_two64 f i ls st [] = some (.inl (i1, ls1, st1, h0))) : xa_two64 f i ls st h = some (.inl (i1, ls1, st1, h)) := by
  unfold xa_two64 at ho ⊢
  repeat' split at ho
  all_goals first | (cases ho; simp_all; done) | (cases ho; rfl) | (cases ho; done)
theorem ih_p_one {g : Int → Int} {i1 : Nat} {ls1 st1 : List xa_V} {h0 h : xa_H} (ho : xa_one g i ls st [] = some (.inl (i1, ls1, st1, h0))) : xa_one g i ls st h = some (.inl (i1, ls1, st1, h)) := by
  unfold xa_one at ho ⊢
  repeat' split at ho
  all_goals first | (cases ho; simp_all; done) | (cases ho; rfl) | (cases ho; done)
theorem ih_p_if2 {cd : Jvm.ClassFile.Cond} {x : List Int} {i1 : Nat} {ls1 st1 : List xa_V} {h0 h : xa_H} (ho : xa_if2 cd x i ls st [] = some (.inl (i1, ls1, st1, h0))) : xa_if2 cd x i ls st h = some (.inl (i1, ls1, st1, h)) := by
  unfold xa_if2 at ho ⊢
  repeat' split at ho
  all_goals first | (cases ho; simp_all; done) | (cases ho; rfl) | (cases ho; done)
theorem ih_p_if1 {cd : Jvm.ClassFile.Cond} {x : List Int} {i1 : Nat} {ls1 st1 : List xa_V} {h0 h : xa_H} (ho : xa_if1 cd x i ls st [] = some (.inl (i1, ls1, st1, h0))) : xa_if1 cd x i ls st h = some (.inl (i1, ls1, st1, h)) := by
  unfold xa_if1 at ho ⊢
  repeat' split at ho
  all_goals first | (cases ho; simp_all; done) | (cases ho; rfl) | (cases ho; done)
theorem ih_p_gets {x : List Int} {i1 : Nat} {ls1 st1 : List xa_V} {h0 h : xa_H} (ho : xa_gets x i ls st [] = some (.inl (i1, ls1, st1, h0))) : xa_gets x i ls st h = some (.inl (i1, ls1, st1, h)) := by
  unfold xa_gets at ho ⊢
  repeat' split at ho
  all_goals first | (cases ho; simp_all; done) | (cases ho; rfl) | (cases ho; done)
theorem ih_p_ldc {x : List Int} {i1 : Nat} {ls1 st1 : List xa_V} {h0 h : xa_H} (ho : xa_ldc x i ls st [] = some (.inl (i1, ls1, st1, h0))) : xa_ldc x i ls st h = some (.inl (i1, ls1, st1, h)) := by
  unfold xa_ldc at ho ⊢
  repeat' split at ho
  all_goals first | (cases ho; simp_all; done) | (cases ho; rfl) | (cases ho; done)
theorem ih_pu_ok {en : xa_E} {i1 : Nat} {ls1 st1 : List xa_V} {h0 h : xa_H} (hp : ih_pu en.2.1 = true) (ho : xa_one1 [] en i ls st [] = some (.inl (i1, ls1, st1, h0))) : xa_one1 X en i ls st h = some (.inl (i1, ls1, st1, h)) := by
  obtain ⟨pb, ins, ln, x⟩ := en
  cases ins <;> first
    | (simp [ih_pu] at hp; done)
    | exact ih_p_aload ho | exact ih_p_iload ho | exact ih_p_lload ho | exact ih_p_astore ho | exact ih_p_istore ho | exact ih_p_lstore ho | exact ih_p_two ho | exact ih_p_two64 ho | exact ih_p_one ho | exact ih_p_if2 ho | exact ih_p_if1 ho | exact ih_p_gets ho | exact ih_p_ldc ho
    | (unfold xa_one1 at ho ⊢
       dsimp only at ho ⊢
       repeat' split at ho
       all_goals first | (cases ho; simp_all; done) | (cases ho; rfl) | (cases ho; done))
theorem ih_step {en : xa_E} {i1 : Nat} {ls1 st1 : List xa_V} {t1 : ih_S} (hf : (xb_G.1 mi)[i]? = some en) (ho : xa_one1 X en i ls st (ih_mk t) = some (.inl (i1, ls1, st1, ih_mk t1))) (k : ih_Wp X mi i1 ls1 st1 t1 Q) : ih_Wp X mi i ls st t Q := by
  obtain ⟨n, rv, t', e, q⟩ := k
  refine ⟨n + 1, rv, t', ?_, q⟩
  rw [xa_ex, hf]
  simp only [ho]
  exact e
theorem ih_seg : ∀ (n : Nat) {i i1 : Nat} {ls ls1 st st1 : List xa_V}, ih_run n mi i ls st = some (i1, ls1, st1) → ih_Wp X mi i1 ls1 st1 t Q → ih_Wp X mi i ls st t Q
  | 0, i, i1, ls, ls1, st, st1, hs, k => by
    cases hs
    exact k
  | n + 1, i, i1, ls, ls1, st, st1, hs, k => by
    rw [ih_run] at hs
    split at hs
    · cases hs
    · next en hf =>
      split at hs
      · next hp =>
        split at hs
        · next i2 ls2 st2 h2 ho => exact ih_step hf (ih_pu_ok hp ho) (ih_seg n hs k)
        · cases hs
      · cases hs
theorem ih_getI {pc ix ln a : Nat} {ci f : Int} (hf : (xb_G.1 mi)[i]? = some (pc, .getfield ix, ln, [0, ci, f])) (hs : ih_fld a ci f = some none) (k : ih_Wp X mi (i + 1) ls (xI (t a f) :: st) t Q) : ih_Wp X mi i ls (xR a :: st) t Q := by
  obtain ⟨os, e, h0, e2⟩ := ih_fld_of hs
  refine ih_step hf ?_ k
  show xa_getf [0, ci, f] i ls (xR a :: st) (ih_mk t) = _
  unfold xa_getf
  simp only [ih_mk_get e, if_true, ih_ct_I e2, Int.toNat_of_nonneg h0]
theorem ih_getR {pc ix ln a r : Nat} {ci f : Int} (hf : (xb_G.1 mi)[i]? = some (pc, .getfield ix, ln, [0, ci, f])) (hs : ih_fld a ci f = some (some r)) (k : ih_Wp X mi (i + 1) ls (xR r :: st) t Q) : ih_Wp X mi i ls (xR a :: st) t Q := by
  obtain ⟨os, e, h0, e2⟩ := ih_fld_of hs
  refine ih_step hf ?_ k
  show xa_getf [0, ci, f] i ls (xR a :: st) (ih_mk t) = _
  unfold xa_getf
  simp only [ih_mk_get e, if_true, ih_ct_R e2]
theorem ih_getS {pc ix ln c : Nat} {f : Int} {v : xa_V} (hf : (xb_G.1 mi)[i]? = some (pc, .getfield ix, ln, [1, f])) (hc : 20 ≤ c ∧ c < 33) (hv : (f = 0 ∧ v = xI 0) ∨ (f = 1 ∧ v = xC (c + 20))) (k : ih_Wp X mi (i + 1) ls (v :: st) t Q) : ih_Wp X mi i ls (xC c :: st) t Q := by
  refine ih_step hf ?_ k
  show xa_getf [1, f] i ls (xC c :: st) (ih_mk t) = _
  unfold xa_getf
  simp only [hc, and_self, if_true]
  rcases hv with ⟨rfl, rfl⟩ | ⟨rfl, rfl⟩
  · rfl
  · rfl
theorem ih_putI {pc ix ln a : Nat} {k0 ci f ty z : Int} (hf : (xb_G.1 mi)[i]? = some (pc, .putfield ix, ln, [k0, ci, f, ty])) (hs : ih_fld a ci f = some none) (ht : xa_fit ty (xI z) = true) (k : ih_Wp X mi (i + 1) ls st (ih_up t a f z) Q) : ih_Wp X mi i ls (xI z :: xR a :: st) t Q := by
  obtain ⟨os, e, h0, e2⟩ := ih_fld_of hs
  refine ih_step hf ?_ k
  show xa_putf [k0, ci, f, ty] i ls (xI z :: xR a :: st) (ih_mk t) = _
  unfold xa_putf
  have hl : f.toNat < (ih_ct (t a) os).length := by rw [ih_ct_len]; exact (List.getElem?_eq_some_iff.mp e2).1
  simp only [ih_mk_get e, hl, ht, and_self, if_true]
  rw [ih_ct_set e2, Int.toNat_of_nonneg h0, ← ih_up_uf]
  exact congrArg (fun q => xa_nx (i + 1) ls st q) (ih_mk_setf (c := (0, ci.toNat, os)) e)
theorem ih_iald {pc ln a n : Nat} {j : Int} {x : List Int} (hf : (xb_G.1 mi)[i]? = some (pc, .iaload, ln, x)) (hl : ih_len a = some n) (h0 : 0 ≤ j) (h1 : j < (n : Int)) (hn : n < 1000 := by decide) (k : ih_Wp X mi (i + 1) ls (xI (t a j) :: st) t Q) : ih_Wp X mi i ls (xI j :: xR a :: st) t Q := by
  obtain ⟨c, os, e, e1, e2⟩ := ih_len_of hl
  refine ih_step hf ?_ k
  show xa_iald X i ls (xI j :: xR a :: st) (ih_mk t) = _
  unfold xa_iald
  have e3 := ih_ct_I (f := t a) (e2 j.toNat (by omega))
  rw [Int.toNat_of_nonneg h0] at e3
  have hc : 0 ≤ j ∧ j < ((ih_ct (t a) os).length : Int) ∧ j < 2147483648 := ⟨h0, by rw [ih_ct_len, e1]; exact h1, by omega⟩
  simp only [ih_mk_get e, hc, and_self, if_true, e3]
theorem ih_cald {pc ln c : Nat} {j z : Int} {x xs : List Int} (hf : (xb_G.1 mi)[i]? = some (pc, .iaload, ln, x)) (hl : xa_ca X c = some xs) (h0 : 0 ≤ j) (h1 : j < (xs.length : Int)) (h2 : j < 2147483648) (hz : xs[j.toNat]? = some z) (k : ih_Wp X mi (i + 1) ls (xI z :: st) t Q) : ih_Wp X mi i ls (xI j :: xC c :: st) t Q := by
  refine ih_step hf ?_ k
  show xa_iald X i ls (xI j :: xC c :: st) (ih_mk t) = _
  unfold xa_iald
  have hc : 0 ≤ j ∧ j < (xs.length : Int) ∧ j < 2147483648 := ⟨h0, h1, h2⟩
  simp only [hl, hc, and_self, if_true, hz]
theorem ih_bald {pc ln c : Nat} {j z : Int} {x xs : List Int} (hf : (xb_G.1 mi)[i]? = some (pc, .baload, ln, x)) (hl : xa_cb c = some xs) (h0 : 0 ≤ j) (h1 : j < (xs.length : Int)) (h2 : j < 2147483648) (hz : xs[j.toNat]? = some z) (k : ih_Wp X mi (i + 1) ls (xI z :: st) t Q) : ih_Wp X mi i ls (xI j :: xC c :: st) t Q := by
  refine ih_step hf ?_ k
  show xa_bald i ls (xI j :: xC c :: st) (ih_mk t) = _
  unfold xa_bald
  have hc : 0 ≤ j ∧ j < (xs.length : Int) ∧ j < 2147483648 := ⟨h0, h1, h2⟩
  simp only [hl, hc, and_self, if_true, hz]
theorem ih_iast {pc ln a n : Nat} {j z : Int} {x : List Int} (hf : (xb_G.1 mi)[i]? = some (pc, .iastore, ln, x)) (hl : ih_len a = some n) (h0 : 0 ≤ j) (h1 : j < (n : Int)) (hn : n < 1000 := by decide) (k : ih_Wp X mi (i + 1) ls st (ih_up t a j z) Q) : ih_Wp X mi i ls (xI z :: xI j :: xR a :: st) t Q := by
  obtain ⟨c, os, e, e1, e2⟩ := ih_len_of hl
  refine ih_step hf ?_ k
  show xa_iast i ls (xI z :: xI j :: xR a :: st) (ih_mk t) = _
  unfold xa_iast
  have hc : 0 ≤ j ∧ j < ((ih_ct (t a) os).length : Int) ∧ j < 2147483648 := ⟨h0, by rw [ih_ct_len, e1]; exact h1, by omega⟩
  simp only [ih_mk_get e, hc, and_self, if_true]
  rw [ih_ct_set (e2 j.toNat (by omega)), Int.toNat_of_nonneg h0, ← ih_up_uf]
  rw [ih_mk_setf (c := (1, c, os)) e]
theorem ih_aald {pc ln a r : Nat} {j : Int} {x : List Int} (hf : (xb_G.1 mi)[i]? = some (pc, .aaload, ln, x)) (hl : ih_el a j = some r) (k : ih_Wp X mi (i + 1) ls (xR r :: st) t Q) : ih_Wp X mi i ls (xI j :: xR a :: st) t Q := by
  obtain ⟨c, os, e, e0, h0, h1, e2⟩ := ih_el_of hl
  refine ih_step hf ?_ k
  show xa_aald i ls (xI j :: xR a :: st) (ih_mk t) = _
  unfold xa_aald
  have e3 := ih_ct_R (f := t a) e2
  have hlt : j.toNat < os.length := (List.getElem?_eq_some_iff.mp e2).1
  have hc : (c = 1 ∨ c = 2 ∨ c = 4) ∧ 0 ≤ j ∧ j < ((ih_ct (t a) os).length : Int) ∧ j < 2147483648 := ⟨e0, h0, by rw [ih_ct_len]; omega, by omega⟩
  simp only [ih_mk_get e, hc, and_self, if_true, e3]
theorem ih_alen {pc ln a n : Nat} {x : List Int} (hf : (xb_G.1 mi)[i]? = some (pc, .arraylength, ln, x)) (hl : ih_len a = some n) (hn : n < 1000 := by decide) (k : ih_Wp X mi (i + 1) ls (xI (n : Int) :: st) t Q) : ih_Wp X mi i ls (xR a :: st) t Q := by
  obtain ⟨c, os, e, e1, e2⟩ := ih_len_of hl
  refine ih_step hf ?_ k
  show xa_alen X i ls (xR a :: st) (ih_mk t) = _
  unfold xa_alen
  have hc : (ih_ct (t a) os).length < 2147483648 := by rw [ih_ct_len, e1]; omega
  simp only [ih_mk_get e, hc, if_true]
  rw [ih_ct_len, e1]
theorem ih_clen {pc ln c : Nat} {x xs : List Int} (hf : (xb_G.1 mi)[i]? = some (pc, .arraylength, ln, x)) (hl : xa_ca X c = some xs) (k : ih_Wp X mi (i + 1) ls (xI (xs.length : Int) :: st) t Q) : ih_Wp X mi i ls (xC c :: st) t Q := by
  refine ih_step hf ?_ k
  show xa_alen X i ls (xC c :: st) (ih_mk t) = _
  unfold xa_alen
  simp only [hl]
theorem ih_blen {pc ln c : Nat} {x xs : List Int} (hf : (xb_G.1 mi)[i]? = some (pc, .arraylength, ln, x)) (h0 : xa_ca X c = none) (hl : xa_cb c = some xs) (k : ih_Wp X mi (i + 1) ls (xI (xs.length : Int) :: st) t Q) : ih_Wp X mi i ls (xC c :: st) t Q := by
  refine ih_step hf ?_ k
  show xa_alen X i ls (xC c :: st) (ih_mk t) = _
  unfold xa_alen
  simp only [h0, hl]
theorem ih_idiv {pc ln : Nat} {a b : Int} {x : List Int} (hf : (xb_G.1 mi)[i]? = some (pc, .idiv, ln, x)) (ha : xa_rI a) (hb : xa_rI b) (hne : b ≠ 0) (k : ih_Wp X mi (i + 1) ls (xI (a.tdiv b) :: st) t Q) : ih_Wp X mi i ls (xI b :: xI a :: st) t Q := by
  refine ih_step hf ?_ k
  show xa_div Int.tdiv i ls (xI b :: xI a :: st) (ih_mk t) = _
  unfold xa_div
  have hc : xa_rI a ∧ xa_rI b ∧ b ≠ 0 := ⟨ha, hb, hne⟩
  dsimp only
  rw [if_pos hc]
theorem ih_irem {pc ln : Nat} {a b : Int} {x : List Int} (hf : (xb_G.1 mi)[i]? = some (pc, .irem, ln, x)) (ha : xa_rI a) (hb : xa_rI b) (hne : b ≠ 0) (k : ih_Wp X mi (i + 1) ls (xI (a.tmod b) :: st) t Q) : ih_Wp X mi i ls (xI b :: xI a :: st) t Q := by
  refine ih_step hf ?_ k
  show xa_div Int.tmod i ls (xI b :: xI a :: st) (ih_mk t) = _
  unfold xa_div
  have hc : xa_rI a ∧ xa_rI b ∧ b ≠ 0 := ⟨ha, hb, hne⟩
  dsimp only
  rw [if_pos hc]
theorem ih_idiv0 {pc ln : Nat} {a b : Int} {x : List Int} (hf : (xb_G.1 mi)[i]? = some (pc, .idiv, ln, x)) (ha : 0 ≤ a ∧ a < 2147483648) (hb : 0 < b ∧ b < 2147483648) (k : ih_Wp X mi (i + 1) ls (xI (a / b) :: st) t Q) : ih_Wp X mi i ls (xI b :: xI a :: st) t Q :=
  ih_idiv hf ⟨by omega, ha.2⟩ ⟨by omega, hb.2⟩ (by omega) (by rw [Int.tdiv_eq_ediv_of_nonneg ha.1]; exact k)
theorem ih_irem0 {pc ln : Nat} {a b : Int} {x : List Int} (hf : (xb_G.1 mi)[i]? = some (pc, .irem, ln, x)) (ha : 0 ≤ a ∧ a < 2147483648) (hb : 0 < b ∧ b < 2147483648) (k : ih_Wp X mi (i + 1) ls (xI (a % b) :: st) t Q) : ih_Wp X mi i ls (xI b :: xI a :: st) t Q :=
  ih_irem hf ⟨by omega, ha.2⟩ ⟨by omega, hb.2⟩ (by omega) (by rw [Int.tmod_eq_emod_of_nonneg ha.1]; exact k)
theorem ih_i2l {pc ln : Nat} {a : Int} {x : List Int} (hf : (xb_G.1 mi)[i]? = some (pc, .i2l, ln, x)) (ha : xa_rI a) (k : ih_Wp X mi (i + 1) ls (xL a :: st) t Q) : ih_Wp X mi i ls (xI a :: st) t Q := by
  refine ih_step hf ?_ k
  show (if xa_rI a then xa_nx (i + 1) ls (xL a :: st) (ih_mk t) else none) = _
  rw [if_pos ha]
theorem ih_i2c {pc ln : Nat} {a : Int} {x : List Int} (hf : (xb_G.1 mi)[i]? = some (pc, .i2c, ln, x)) (ha : 0 ≤ a ∧ a < 65536) (k : ih_Wp X mi (i + 1) ls (xI a :: st) t Q) : ih_Wp X mi i ls (xI a :: st) t Q := by
  refine ih_step hf ?_ k
  show (if 0 ≤ a ∧ a < 65536 then xa_nx (i + 1) ls (xI a :: st) (ih_mk t) else none) = _
  rw [if_pos ha]
theorem ih_lcmp {pc ln : Nat} {a b : Int} {x : List Int} (hf : (xb_G.1 mi)[i]? = some (pc, .lcmp, ln, x)) (ha : xa_rL a) (hb : xa_rL b) (k : ih_Wp X mi (i + 1) ls (xI (if a < b then -1 else if a = b then 0 else 1) :: st) t Q) : ih_Wp X mi i ls (xL b :: xL a :: st) t Q := by
  refine ih_step hf ?_ k
  show xa_lcmp i ls (xL b :: xL a :: st) (ih_mk t) = _
  unfold xa_lcmp
  dsimp only
  rw [show xa_wl a = a from xa_toL ha, show xa_wl b = b from xa_toL hb]
/-- any two longs: some answer -/
theorem ih_lcmp_any {pc ln : Nat} {a b : Int} {x : List Int} (hf : (xb_G.1 mi)[i]? = some (pc, .lcmp, ln, x)) (k : ∀ z : Int, z = -1 ∨ z = 0 ∨ z = 1 → (xa_rL a → xa_rL b → z = if a < b then -1 else if a = b then 0 else 1) → ih_Wp X mi (i + 1) ls (xI z :: st) t Q) : ih_Wp X mi i ls (xL b :: xL a :: st) t Q := by
  refine ih_step hf (i1 := i + 1) (ls1 := ls) (st1 := xI (if xa_wl a < xa_wl b then -1 else if xa_wl a = xa_wl b then 0 else 1) :: st) (t1 := t) rfl (k _ ?_ (fun ha hb => ?_))
  · split
    · exact Or.inl rfl
    · split
      · exact Or.inr (Or.inl rfl)
      · exact Or.inr (Or.inr rfl)
  · rw [show xa_wl a = a from xa_toL ha, show xa_wl b = b from xa_toL hb]
theorem ih_max {pc ix ln : Nat} {a b : Int} (hf : (xb_G.1 mi)[i]? = some (pc, .invokestatic ix, ln, [7])) (ha : xa_rI a) (hb : xa_rI b) (hr : xa_cats st ≤ 8) (k : ih_Wp X mi (i + 1) ls (xI (if a < b then b else a) :: st) t Q) : ih_Wp X mi i ls (xI b :: xI a :: st) t Q := by
  refine ih_step hf ?_ k
  exact ih_inv7 ha hb hr
theorem ih_min {pc ix ln : Nat} {a b : Int} (hf : (xb_G.1 mi)[i]? = some (pc, .invokestatic ix, ln, [8])) (ha : xa_rI a) (hb : xa_rI b) (hr : xa_cats st ≤ 8) (k : ih_Wp X mi (i + 1) ls (xI (if b < a then b else a) :: st) t Q) : ih_Wp X mi i ls (xI b :: xI a :: st) t Q := by
  refine ih_step hf ?_ k
  exact ih_inv8 ha hb hr
/-- arraycopy: n numbers from place s of the row a to place d of the row b -/
def ih_cp (f g : Int → Int) (s d n : Int) : Int → Int := fun j => if d ≤ j ∧ j < d + n then f (s + (j - d)) else g j
theorem ih_acp {pc ix ln a b na nb : Nat} {s d n : Int} (hf : (xb_G.1 mi)[i]? = some (pc, .invokestatic ix, ln, [9])) (ha : ih_len a = some na) (hb : ih_len b = some nb) (h0 : 0 ≤ n) (h1 : 0 ≤ d) (h2 : 0 ≤ s) (h3 : s + n ≤ (na : Int)) (h4 : d + n ≤ (nb : Int)) (hr : xa_cats st ≤ 8) (hn : na < 1000 ∧ nb < 1000 := by decide) (k : ih_Wp X mi (i + 1) ls st (ih_uf t b (ih_cp (t a) (t b) s d n)) Q) : ih_Wp X mi i ls (xI n :: xI d :: xR b :: xI s :: xR a :: st) t Q := by
  obtain ⟨ca, oa, ea, ea1, ea2⟩ := ih_len_of ha
  obtain ⟨cb, ob, eb, eb1, eb2⟩ := ih_len_of hb
  refine ih_step hf ?_ k
  show xa_inv [9] i ls (xI n :: xI d :: xR b :: xI s :: xR a :: st) (ih_mk t) = _
  rw [ih_inv9 (ih_mk_get ea) (ih_mk_get eb) h0 h1 h2 (by rw [ih_ct_len, ea1]; exact h3) (by rw [ih_ct_len, eb1]; exact h4) (by rw [ih_ct_len, ea1]; omega) (by rw [ih_ct_len, eb1]; omega) hr]
  have e : xa_cpy (ih_ct (t a) oa) (ih_ct (t b) ob) s.toNat d.toNat n.toNat = ih_ct (ih_cp (t a) (t b) s d n) ob := by
    apply List.ext_getElem?
    intro j
    rw [xa_cpy_get (by rw [ih_ct_len, ea1]; omega) (by rw [ih_ct_len, eb1]; omega)]
    by_cases hj : j < nb
    · rw [ih_ct_I (f := ih_cp (t a) (t b) s d n) (eb2 j hj)]
      unfold ih_cp
      by_cases hq : d.toNat ≤ j ∧ j < d.toNat + n.toNat
      · rw [if_pos hq, if_pos (by omega), ih_ct_I (f := t a) (ea2 _ (by omega))]
        congr 3
        omega
      · rw [if_neg hq, if_neg (by omega), ih_ct_I (f := t b) (eb2 j hj)]
    · rw [if_neg (by omega), List.getElem?_eq_none (by rw [ih_ct_len, eb1]; omega), List.getElem?_eq_none (by rw [ih_ct_len, eb1]; omega)]
  rw [e]
  exact congrArg (fun q => xa_nx (i + 1) ls st q) (ih_mk_setf (c := (1, cb, ob)) eb)
theorem ih_call {en : xa_E} {y i1 : Nat} {av ls1 rest : List xa_V} (hf : (xb_G.1 mi)[i]? = some en) (ho : xa_one1 X en i ls st (ih_mk t) = some (.inr (.inr (y, av, i1, ls1, rest)))) (hl : (xa_args av).length ≤ (xb_G.2 y).1) (hz : (xb_G.2 y).2 = (0, 0)) (k : ih_Wp X y 0 (xa_loc (xb_G.2 y).1 av) [] t (fun rv t1 => ih_Wp X mi i1 ls1 (rv.toList ++ rest) t1 Q)) : ih_Wp X mi i ls st t Q := by
  obtain ⟨n, rv, t1, e, n2, rv2, t2, e2, q⟩ := k
  refine ⟨n + n2 + 1, rv2, t2, ?_, q⟩
  rw [xa_ex, hf]
  simp only [ho]
  rw [if_pos hl, xa_ex_more _ _ _ _ _ _ _ _ _ e (n + n2) (by omega)]
  simp only
  rw [if_pos (by rw [hz, ih_mk_len, ih_mk_len, ih_mk_sl, ih_mk_sl]; exact ⟨rfl, rfl⟩)]
  exact xa_ex_more _ _ _ _ _ _ _ _ _ e2 (n + n2) (by omega)
theorem ih_is0 {pc ix ln : Nat} {yi : Int} (y : Nat) (hf : (xb_G.1 mi)[i]? = some (pc, .invokestatic ix, ln, [0, yi, 0])) (hy : yi.toNat = y) (hr : xa_cats st ≤ 8) (hl : (xa_args []).length ≤ (xb_G.2 y).1) (hz : (xb_G.2 y).2 = (0, 0)) (k : ih_Wp X y 0 (xa_loc (xb_G.2 y).1 []) [] t (fun rv t1 => ih_Wp X mi (i + 1) ls (rv.toList ++ st) t1 Q)) : ih_Wp X mi i ls (st) t Q := by
  subst hy
  refine ih_call hf ?_ hl hz k
  show xa_inv [0, yi, 0] i ls (st) (ih_mk t) = _
  exact ih_inv0 (n := 0) (by show 0 ≤ _; simp) hr
theorem ih_in0 {pc ix ln : Nat} {yi : Int} (y : Nat) (hf : (xb_G.1 mi)[i]? = some (pc, .invokestatic ix, ln, [3, yi, 0])) (hy : yi.toNat = y) (hr : xa_cats st ≤ 8) (hl : (xa_args []).length ≤ (xb_G.2 y).1) (hz : (xb_G.2 y).2 = (0, 0)) (k : ih_Wp X y 0 (xa_loc (xb_G.2 y).1 []) [] t (fun rv t1 => ih_Wp X mi (i + 1) ls (rv.toList ++ st) t1 Q)) : ih_Wp X mi i ls (st) t Q := by
  subst hy
  refine ih_call hf ?_ hl hz k
  show xa_inv [3, yi, 0] i ls (st) (ih_mk t) = _
  exact ih_inv3 (n := 0) (by show 0 ≤ _; simp) hr
theorem ih_iv0 {pc ix ln a : Nat} {yi ci : Int} (y : Nat) (hf : (xb_G.1 mi)[i]? = some (pc, .invokevirtual ix, ln, [1, yi, 0, ci])) (hy : yi.toNat = y) (hc : ih_cls a = some ci.toNat) (hr : xa_cats st ≤ 8) (hl : (xa_args (xR a :: [])).length ≤ (xb_G.2 y).1) (hz : (xb_G.2 y).2 = (0, 0)) (k : ih_Wp X y 0 (xa_loc (xb_G.2 y).1 (xR a :: [])) [] t (fun rv t1 => ih_Wp X mi (i + 1) ls (rv.toList ++ st) t1 Q)) : ih_Wp X mi i ls (xR a :: st) t Q := by
  subst hy
  obtain ⟨os, e⟩ := ih_cls_of hc
  refine ih_call hf ?_ hl hz k
  show xa_inv [1, yi, 0, ci] i ls (xR a :: st) (ih_mk t) = _
  exact ih_inv1 (n := 0) (rest := st) rfl (ih_mk_get e) rfl (by show 0 ≤ _; simp) hr
theorem ih_it0 {pc ix ln c : Nat} {yi ci : Int} (y : Nat) (hf : (xb_G.1 mi)[i]? = some (pc, .invokevirtual ix, ln, [10, yi, 0, ci])) (hy : yi.toNat = y) (hc : 20 ≤ c ∧ c < 33) (hr : xa_cats st ≤ 8) (hl : (xa_args (xC c :: [])).length ≤ (xb_G.2 y).1) (hz : (xb_G.2 y).2 = (0, 0)) (k : ih_Wp X y 0 (xa_loc (xb_G.2 y).1 (xC c :: [])) [] t (fun rv t1 => ih_Wp X mi (i + 1) ls (rv.toList ++ st) t1 Q)) : ih_Wp X mi i ls (xC c :: st) t Q := by
  subst hy
  refine ih_call hf ?_ hl hz k
  show xa_inv [10, yi, 0, ci] i ls (xC c :: st) (ih_mk t) = _
  exact ih_inv10 (n := 0) (rest := st) rfl hc (by show 0 ≤ _; simp) hr
theorem ih_is1 {pc ix ln : Nat} {yi : Int} {v0 : xa_V} (y : Nat) (hf : (xb_G.1 mi)[i]? = some (pc, .invokestatic ix, ln, [0, yi, 1])) (hy : yi.toNat = y) (hr : xa_cats st ≤ 8) (hl : (xa_args [v0]).length ≤ (xb_G.2 y).1) (hz : (xb_G.2 y).2 = (0, 0)) (k : ih_Wp X y 0 (xa_loc (xb_G.2 y).1 [v0]) [] t (fun rv t1 => ih_Wp X mi (i + 1) ls (rv.toList ++ st) t1 Q)) : ih_Wp X mi i ls (v0 :: st) t Q := by
  subst hy
  refine ih_call hf ?_ hl hz k
  show xa_inv [0, yi, 1] i ls (v0 :: st) (ih_mk t) = _
  exact ih_inv0 (n := 1) (by show 1 ≤ _; simp) hr
theorem ih_in1 {pc ix ln : Nat} {yi : Int} {v0 : xa_V} (y : Nat) (hf : (xb_G.1 mi)[i]? = some (pc, .invokestatic ix, ln, [3, yi, 1])) (hy : yi.toNat = y) (hr : xa_cats st ≤ 8) (hl : (xa_args [v0]).length ≤ (xb_G.2 y).1) (hz : (xb_G.2 y).2 = (0, 0)) (k : ih_Wp X y 0 (xa_loc (xb_G.2 y).1 [v0]) [] t (fun rv t1 => ih_Wp X mi (i + 1) ls (rv.toList ++ st) t1 Q)) : ih_Wp X mi i ls (v0 :: st) t Q := by
  subst hy
  refine ih_call hf ?_ hl hz k
  show xa_inv [3, yi, 1] i ls (v0 :: st) (ih_mk t) = _
  exact ih_inv3 (n := 1) (by show 1 ≤ _; simp) hr
theorem ih_iv1 {pc ix ln a : Nat} {yi ci : Int} {v0 : xa_V} (y : Nat) (hf : (xb_G.1 mi)[i]? = some (pc, .invokevirtual ix, ln, [1, yi, 1, ci])) (hy : yi.toNat = y) (hc : ih_cls a = some ci.toNat) (hr : xa_cats st ≤ 8) (hl : (xa_args (xR a :: [v0])).length ≤ (xb_G.2 y).1) (hz : (xb_G.2 y).2 = (0, 0)) (k : ih_Wp X y 0 (xa_loc (xb_G.2 y).1 (xR a :: [v0])) [] t (fun rv t1 => ih_Wp X mi (i + 1) ls (rv.toList ++ st) t1 Q)) : ih_Wp X mi i ls (v0 :: xR a :: st) t Q := by
  subst hy
  obtain ⟨os, e⟩ := ih_cls_of hc
  refine ih_call hf ?_ hl hz k
  show xa_inv [1, yi, 1, ci] i ls (v0 :: xR a :: st) (ih_mk t) = _
  exact ih_inv1 (n := 1) (rest := st) rfl (ih_mk_get e) rfl (by show 1 ≤ _; simp) hr
theorem ih_it1 {pc ix ln c : Nat} {yi ci : Int} {v0 : xa_V} (y : Nat) (hf : (xb_G.1 mi)[i]? = some (pc, .invokevirtual ix, ln, [10, yi, 1, ci])) (hy : yi.toNat = y) (hc : 20 ≤ c ∧ c < 33) (hr : xa_cats st ≤ 8) (hl : (xa_args (xC c :: [v0])).length ≤ (xb_G.2 y).1) (hz : (xb_G.2 y).2 = (0, 0)) (k : ih_Wp X y 0 (xa_loc (xb_G.2 y).1 (xC c :: [v0])) [] t (fun rv t1 => ih_Wp X mi (i + 1) ls (rv.toList ++ st) t1 Q)) : ih_Wp X mi i ls (v0 :: xC c :: st) t Q := by
  subst hy
  refine ih_call hf ?_ hl hz k
  show xa_inv [10, yi, 1, ci] i ls (v0 :: xC c :: st) (ih_mk t) = _
  exact ih_inv10 (n := 1) (rest := st) rfl hc (by show 1 ≤ _; simp) hr
theorem ih_is2 {pc ix ln : Nat} {yi : Int} {v0 v1 : xa_V} (y : Nat) (hf : (xb_G.1 mi)[i]? = some (pc, .invokestatic ix, ln, [0, yi, 2])) (hy : yi.toNat = y) (hr : xa_cats st ≤ 8) (hl : (xa_args [v0, v1]).length ≤ (xb_G.2 y).1) (hz : (xb_G.2 y).2 = (0, 0)) (k : ih_Wp X y 0 (xa_loc (xb_G.2 y).1 [v0, v1]) [] t (fun rv t1 => ih_Wp X mi (i + 1) ls (rv.toList ++ st) t1 Q)) : ih_Wp X mi i ls (v1 :: v0 :: st) t Q := by
  subst hy
  refine ih_call hf ?_ hl hz k
  show xa_inv [0, yi, 2] i ls (v1 :: v0 :: st) (ih_mk t) = _
  exact ih_inv0 (n := 2) (by show 2 ≤ _; simp) hr
theorem ih_in2 {pc ix ln : Nat} {yi : Int} {v0 v1 : xa_V} (y : Nat) (hf : (xb_G.1 mi)[i]? = some (pc, .invokestatic ix, ln, [3, yi, 2])) (hy : yi.toNat = y) (hr : xa_cats st ≤ 8) (hl : (xa_args [v0, v1]).length ≤ (xb_G.2 y).1) (hz : (xb_G.2 y).2 = (0, 0)) (k : ih_Wp X y 0 (xa_loc (xb_G.2 y).1 [v0, v1]) [] t (fun rv t1 => ih_Wp X mi (i + 1) ls (rv.toList ++ st) t1 Q)) : ih_Wp X mi i ls (v1 :: v0 :: st) t Q := by
  subst hy
  refine ih_call hf ?_ hl hz k
  show xa_inv [3, yi, 2] i ls (v1 :: v0 :: st) (ih_mk t) = _
  exact ih_inv3 (n := 2) (by show 2 ≤ _; simp) hr
theorem ih_iv2 {pc ix ln a : Nat} {yi ci : Int} {v0 v1 : xa_V} (y : Nat) (hf : (xb_G.1 mi)[i]? = some (pc, .invokevirtual ix, ln, [1, yi, 2, ci])) (hy : yi.toNat = y) (hc : ih_cls a = some ci.toNat) (hr : xa_cats st ≤ 8) (hl : (xa_args (xR a :: [v0, v1])).length ≤ (xb_G.2 y).1) (hz : (xb_G.2 y).2 = (0, 0)) (k : ih_Wp X y 0 (xa_loc (xb_G.2 y).1 (xR a :: [v0, v1])) [] t (fun rv t1 => ih_Wp X mi (i + 1) ls (rv.toList ++ st) t1 Q)) : ih_Wp X mi i ls (v1 :: v0 :: xR a :: st) t Q := by
  subst hy
  obtain ⟨os, e⟩ := ih_cls_of hc
  refine ih_call hf ?_ hl hz k
  show xa_inv [1, yi, 2, ci] i ls (v1 :: v0 :: xR a :: st) (ih_mk t) = _
  exact ih_inv1 (n := 2) (rest := st) rfl (ih_mk_get e) rfl (by show 2 ≤ _; simp) hr
theorem ih_is3 {pc ix ln : Nat} {yi : Int} {v0 v1 v2 : xa_V} (y : Nat) (hf : (xb_G.1 mi)[i]? = some (pc, .invokestatic ix, ln, [0, yi, 3])) (hy : yi.toNat = y) (hr : xa_cats st ≤ 8) (hl : (xa_args [v0, v1, v2]).length ≤ (xb_G.2 y).1) (hz : (xb_G.2 y).2 = (0, 0)) (k : ih_Wp X y 0 (xa_loc (xb_G.2 y).1 [v0, v1, v2]) [] t (fun rv t1 => ih_Wp X mi (i + 1) ls (rv.toList ++ st) t1 Q)) : ih_Wp X mi i ls (v2 :: v1 :: v0 :: st) t Q := by
  subst hy
  refine ih_call hf ?_ hl hz k
  show xa_inv [0, yi, 3] i ls (v2 :: v1 :: v0 :: st) (ih_mk t) = _
  exact ih_inv0 (n := 3) (by show 3 ≤ _; simp) hr
theorem ih_in3 {pc ix ln : Nat} {yi : Int} {v0 v1 v2 : xa_V} (y : Nat) (hf : (xb_G.1 mi)[i]? = some (pc, .invokestatic ix, ln, [3, yi, 3])) (hy : yi.toNat = y) (hr : xa_cats st ≤ 8) (hl : (xa_args [v0, v1, v2]).length ≤ (xb_G.2 y).1) (hz : (xb_G.2 y).2 = (0, 0)) (k : ih_Wp X y 0 (xa_loc (xb_G.2 y).1 [v0, v1, v2]) [] t (fun rv t1 => ih_Wp X mi (i + 1) ls (rv.toList ++ st) t1 Q)) : ih_Wp X mi i ls (v2 :: v1 :: v0 :: st) t Q := by
  subst hy
  refine ih_call hf ?_ hl hz k
  show xa_inv [3, yi, 3] i ls (v2 :: v1 :: v0 :: st) (ih_mk t) = _
  exact ih_inv3 (n := 3) (by show 3 ≤ _; simp) hr
theorem ih_iv3 {pc ix ln a : Nat} {yi ci : Int} {v0 v1 v2 : xa_V} (y : Nat) (hf : (xb_G.1 mi)[i]? = some (pc, .invokevirtual ix, ln, [1, yi, 3, ci])) (hy : yi.toNat = y) (hc : ih_cls a = some ci.toNat) (hr : xa_cats st ≤ 8) (hl : (xa_args (xR a :: [v0, v1, v2])).length ≤ (xb_G.2 y).1) (hz : (xb_G.2 y).2 = (0, 0)) (k : ih_Wp X y 0 (xa_loc (xb_G.2 y).1 (xR a :: [v0, v1, v2])) [] t (fun rv t1 => ih_Wp X mi (i + 1) ls (rv.toList ++ st) t1 Q)) : ih_Wp X mi i ls (v2 :: v1 :: v0 :: xR a :: st) t Q := by
  subst hy
  obtain ⟨os, e⟩ := ih_cls_of hc
  refine ih_call hf ?_ hl hz k
  show xa_inv [1, yi, 3, ci] i ls (v2 :: v1 :: v0 :: xR a :: st) (ih_mk t) = _
  exact ih_inv1 (n := 3) (rest := st) rfl (ih_mk_get e) rfl (by show 3 ≤ _; simp) hr
theorem ih_is4 {pc ix ln : Nat} {yi : Int} {v0 v1 v2 v3 : xa_V} (y : Nat) (hf : (xb_G.1 mi)[i]? = some (pc, .invokestatic ix, ln, [0, yi, 4])) (hy : yi.toNat = y) (hr : xa_cats st ≤ 8) (hl : (xa_args [v0, v1, v2, v3]).length ≤ (xb_G.2 y).1) (hz : (xb_G.2 y).2 = (0, 0)) (k : ih_Wp X y 0 (xa_loc (xb_G.2 y).1 [v0, v1, v2, v3]) [] t (fun rv t1 => ih_Wp X mi (i + 1) ls (rv.toList ++ st) t1 Q)) : ih_Wp X mi i ls (v3 :: v2 :: v1 :: v0 :: st) t Q := by
  subst hy
  refine ih_call hf ?_ hl hz k
  show xa_inv [0, yi, 4] i ls (v3 :: v2 :: v1 :: v0 :: st) (ih_mk t) = _
  exact ih_inv0 (n := 4) (by show 4 ≤ _; simp) hr
theorem ih_in4 {pc ix ln : Nat} {yi : Int} {v0 v1 v2 v3 : xa_V} (y : Nat) (hf : (xb_G.1 mi)[i]? = some (pc, .invokestatic ix, ln, [3, yi, 4])) (hy : yi.toNat = y) (hr : xa_cats st ≤ 8) (hl : (xa_args [v0, v1, v2, v3]).length ≤ (xb_G.2 y).1) (hz : (xb_G.2 y).2 = (0, 0)) (k : ih_Wp X y 0 (xa_loc (xb_G.2 y).1 [v0, v1, v2, v3]) [] t (fun rv t1 => ih_Wp X mi (i + 1) ls (rv.toList ++ st) t1 Q)) : ih_Wp X mi i ls (v3 :: v2 :: v1 :: v0 :: st) t Q := by
  subst hy
  refine ih_call hf ?_ hl hz k
  show xa_inv [3, yi, 4] i ls (v3 :: v2 :: v1 :: v0 :: st) (ih_mk t) = _
  exact ih_inv3 (n := 4) (by show 4 ≤ _; simp) hr
theorem ih_iv4 {pc ix ln a : Nat} {yi ci : Int} {v0 v1 v2 v3 : xa_V} (y : Nat) (hf : (xb_G.1 mi)[i]? = some (pc, .invokevirtual ix, ln, [1, yi, 4, ci])) (hy : yi.toNat = y) (hc : ih_cls a = some ci.toNat) (hr : xa_cats st ≤ 8) (hl : (xa_args (xR a :: [v0, v1, v2, v3])).length ≤ (xb_G.2 y).1) (hz : (xb_G.2 y).2 = (0, 0)) (k : ih_Wp X y 0 (xa_loc (xb_G.2 y).1 (xR a :: [v0, v1, v2, v3])) [] t (fun rv t1 => ih_Wp X mi (i + 1) ls (rv.toList ++ st) t1 Q)) : ih_Wp X mi i ls (v3 :: v2 :: v1 :: v0 :: xR a :: st) t Q := by
  subst hy
  obtain ⟨os, e⟩ := ih_cls_of hc
  refine ih_call hf ?_ hl hz k
  show xa_inv [1, yi, 4, ci] i ls (v3 :: v2 :: v1 :: v0 :: xR a :: st) (ih_mk t) = _
  exact ih_inv1 (n := 4) (rest := st) rfl (ih_mk_get e) rfl (by show 4 ≤ _; simp) hr
theorem ih_is5 {pc ix ln : Nat} {yi : Int} {v0 v1 v2 v3 v4 : xa_V} (y : Nat) (hf : (xb_G.1 mi)[i]? = some (pc, .invokestatic ix, ln, [0, yi, 5])) (hy : yi.toNat = y) (hr : xa_cats st ≤ 8) (hl : (xa_args [v0, v1, v2, v3, v4]).length ≤ (xb_G.2 y).1) (hz : (xb_G.2 y).2 = (0, 0)) (k : ih_Wp X y 0 (xa_loc (xb_G.2 y).1 [v0, v1, v2, v3, v4]) [] t (fun rv t1 => ih_Wp X mi (i + 1) ls (rv.toList ++ st) t1 Q)) : ih_Wp X mi i ls (v4 :: v3 :: v2 :: v1 :: v0 :: st) t Q := by
  subst hy
  refine ih_call hf ?_ hl hz k
  show xa_inv [0, yi, 5] i ls (v4 :: v3 :: v2 :: v1 :: v0 :: st) (ih_mk t) = _
  exact ih_inv0 (n := 5) (by show 5 ≤ _; simp) hr
theorem ih_in5 {pc ix ln : Nat} {yi : Int} {v0 v1 v2 v3 v4 : xa_V} (y : Nat) (hf : (xb_G.1 mi)[i]? = some (pc, .invokestatic ix, ln, [3, yi, 5])) (hy : yi.toNat = y) (hr : xa_cats st ≤ 8) (hl : (xa_args [v0, v1, v2, v3, v4]).length ≤ (xb_G.2 y).1) (hz : (xb_G.2 y).2 = (0, 0)) (k : ih_Wp X y 0 (xa_loc (xb_G.2 y).1 [v0, v1, v2, v3, v4]) [] t (fun rv t1 => ih_Wp X mi (i + 1) ls (rv.toList ++ st) t1 Q)) : ih_Wp X mi i ls (v4 :: v3 :: v2 :: v1 :: v0 :: st) t Q := by
  subst hy
  refine ih_call hf ?_ hl hz k
  show xa_inv [3, yi, 5] i ls (v4 :: v3 :: v2 :: v1 :: v0 :: st) (ih_mk t) = _
  exact ih_inv3 (n := 5) (by show 5 ≤ _; simp) hr
theorem ih_iv5 {pc ix ln a : Nat} {yi ci : Int} {v0 v1 v2 v3 v4 : xa_V} (y : Nat) (hf : (xb_G.1 mi)[i]? = some (pc, .invokevirtual ix, ln, [1, yi, 5, ci])) (hy : yi.toNat = y) (hc : ih_cls a = some ci.toNat) (hr : xa_cats st ≤ 8) (hl : (xa_args (xR a :: [v0, v1, v2, v3, v4])).length ≤ (xb_G.2 y).1) (hz : (xb_G.2 y).2 = (0, 0)) (k : ih_Wp X y 0 (xa_loc (xb_G.2 y).1 (xR a :: [v0, v1, v2, v3, v4])) [] t (fun rv t1 => ih_Wp X mi (i + 1) ls (rv.toList ++ st) t1 Q)) : ih_Wp X mi i ls (v4 :: v3 :: v2 :: v1 :: v0 :: xR a :: st) t Q := by
  subst hy
  obtain ⟨os, e⟩ := ih_cls_of hc
  refine ih_call hf ?_ hl hz k
  show xa_inv [1, yi, 5, ci] i ls (v4 :: v3 :: v2 :: v1 :: v0 :: xR a :: st) (ih_mk t) = _
  exact ih_inv1 (n := 5) (rest := st) rfl (ih_mk_get e) rfl (by show 5 ≤ _; simp) hr
theorem ih_is6 {pc ix ln : Nat} {yi : Int} {v0 v1 v2 v3 v4 v5 : xa_V} (y : Nat) (hf : (xb_G.1 mi)[i]? = some (pc, .invokestatic ix, ln, [0, yi, 6])) (hy : yi.toNat = y) (hr : xa_cats st ≤ 8) (hl : (xa_args [v0, v1, v2, v3, v4, v5]).length ≤ (xb_G.2 y).1) (hz : (xb_G.2 y).2 = (0, 0)) (k : ih_Wp X y 0 (xa_loc (xb_G.2 y).1 [v0, v1, v2, v3, v4, v5]) [] t (fun rv t1 => ih_Wp X mi (i + 1) ls (rv.toList ++ st) t1 Q)) : ih_Wp X mi i ls (v5 :: v4 :: v3 :: v2 :: v1 :: v0 :: st) t Q := by
  subst hy
  refine ih_call hf ?_ hl hz k
  show xa_inv [0, yi, 6] i ls (v5 :: v4 :: v3 :: v2 :: v1 :: v0 :: st) (ih_mk t) = _
  exact ih_inv0 (n := 6) (by show 6 ≤ _; simp) hr
theorem ih_in6 {pc ix ln : Nat} {yi : Int} {v0 v1 v2 v3 v4 v5 : xa_V} (y : Nat) (hf : (xb_G.1 mi)[i]? = some (pc, .invokestatic ix, ln, [3, yi, 6])) (hy : yi.toNat = y) (hr : xa_cats st ≤ 8) (hl : (xa_args [v0, v1, v2, v3, v4, v5]).length ≤ (xb_G.2 y).1) (hz : (xb_G.2 y).2 = (0, 0)) (k : ih_Wp X y 0 (xa_loc (xb_G.2 y).1 [v0, v1, v2, v3, v4, v5]) [] t (fun rv t1 => ih_Wp X mi (i + 1) ls (rv.toList ++ st) t1 Q)) : ih_Wp X mi i ls (v5 :: v4 :: v3 :: v2 :: v1 :: v0 :: st) t Q := by
  subst hy
  refine ih_call hf ?_ hl hz k
  show xa_inv [3, yi, 6] i ls (v5 :: v4 :: v3 :: v2 :: v1 :: v0 :: st) (ih_mk t) = _
  exact ih_inv3 (n := 6) (by show 6 ≤ _; simp) hr
theorem ih_ret {pc ln : Nat} {ty z : Int} (hf : (xb_G.1 mi)[i]? = some (pc, .ireturn, ln, [ty])) (ht : xa_fit ty (xI z) = true) (k : Q (some (xI z)) t) : ih_Wp X mi i ls [xI z] t Q := by
  refine ⟨1, some (xI z), t, ?_, k⟩
  rw [xa_ex, hf]
  have ho : xa_one1 X (pc, .ireturn, ln, [ty]) i ls [xI z] (ih_mk t) = some (.inr (.inl (some (xI z), ih_mk t))) := by
    show (if xa_fit ty (xI z) = true then some (.inr (.inl (some (xI z), ih_mk t))) else none : Option xa_O) = _
    rw [if_pos ht]
  simp only [ho]
theorem ih_retv {pc ln : Nat} {x : List Int} (hf : (xb_G.1 mi)[i]? = some (pc, .return_, ln, x)) (k : Q none t) : ih_Wp X mi i ls [] t Q := by
  refine ⟨1, none, t, ?_, k⟩
  rw [xa_ex, hf]
  rfl
theorem ih_retl {pc ln : Nat} {x : List Int} {z : Int} (hf : (xb_G.1 mi)[i]? = some (pc, .lreturn, ln, x)) (k : Q (some (xL z)) t) : ih_Wp X mi i ls [xL z] t Q := by
  refine ⟨1, some (xL z), t, ?_, k⟩
  rw [xa_ex, hf]
  rfl
theorem ih_reta {pc ln a : Nat} {x : List Int} (hf : (xb_G.1 mi)[i]? = some (pc, .areturn, ln, x)) (k : Q (some (xR a)) t) : ih_Wp X mi i ls [xR a] t Q := by
  refine ⟨1, some (xR a), t, ?_, k⟩
  rw [xa_ex, hf]
  rfl
theorem ih_icmp_eq {pc ln : Nat} {a b off tg : Int} (hf : (xb_G.1 mi)[i]? = some (pc, .if_icmp .eq off, ln, [tg])) (ha : xa_rI a) (hb : xa_rI b) (kt : a = b → ih_Wp X mi tg.toNat ls st t Q) (kf : ¬ a = b → ih_Wp X mi (i + 1) ls st t Q) : ih_Wp X mi i ls (xI b :: xI a :: st) t Q := by
  have e : xa_cmpw .eq a b = decide (a = b) := by unfold xa_cmpw; rw [if_pos ⟨ha, hb⟩]; rfl
  by_cases h : a = b
  · refine ih_step hf ?_ (kt h)
    show xa_if2 .eq [tg] i ls (xI b :: xI a :: st) (ih_mk t) = _
    unfold xa_if2
    dsimp only
    rw [e, if_pos (decide_eq_true h)]
  · refine ih_step hf ?_ (kf h)
    show xa_if2 .eq [tg] i ls (xI b :: xI a :: st) (ih_mk t) = _
    unfold xa_if2
    dsimp only
    rw [e, if_neg (fun q => h (of_decide_eq_true q))]
theorem ih_ifc_eq {pc ln : Nat} {a off tg : Int} (hf : (xb_G.1 mi)[i]? = some (pc, .ifCond .eq off, ln, [tg])) (ha : xa_rI a) (kt : a = 0 → ih_Wp X mi tg.toNat ls st t Q) (kf : ¬ a = 0 → ih_Wp X mi (i + 1) ls st t Q) : ih_Wp X mi i ls (xI a :: st) t Q := by
  have e : xa_cmpw .eq a 0 = decide (a = 0) := by unfold xa_cmpw; rw [if_pos ⟨ha, xa_r0⟩]; rfl
  by_cases h : a = 0
  · refine ih_step hf ?_ (kt h)
    show xa_if1 .eq [tg] i ls (xI a :: st) (ih_mk t) = _
    unfold xa_if1
    dsimp only
    rw [e, if_pos (decide_eq_true h)]
  · refine ih_step hf ?_ (kf h)
    show xa_if1 .eq [tg] i ls (xI a :: st) (ih_mk t) = _
    unfold xa_if1
    dsimp only
    rw [e, if_neg (fun q => h (of_decide_eq_true q))]
theorem ih_icmp_ne {pc ln : Nat} {a b off tg : Int} (hf : (xb_G.1 mi)[i]? = some (pc, .if_icmp .ne off, ln, [tg])) (ha : xa_rI a) (hb : xa_rI b) (kt : a ≠ b → ih_Wp X mi tg.toNat ls st t Q) (kf : ¬ (a ≠ b) → ih_Wp X mi (i + 1) ls st t Q) : ih_Wp X mi i ls (xI b :: xI a :: st) t Q := by
  have e : xa_cmpw .ne a b = decide (a ≠ b) := by unfold xa_cmpw; rw [if_pos ⟨ha, hb⟩]; rfl
  by_cases h : a ≠ b
  · refine ih_step hf ?_ (kt h)
    show xa_if2 .ne [tg] i ls (xI b :: xI a :: st) (ih_mk t) = _
    unfold xa_if2
    dsimp only
    rw [e, if_pos (decide_eq_true h)]
  · refine ih_step hf ?_ (kf h)
    show xa_if2 .ne [tg] i ls (xI b :: xI a :: st) (ih_mk t) = _
    unfold xa_if2
    dsimp only
    rw [e, if_neg (fun q => h (of_decide_eq_true q))]
theorem ih_ifc_ne {pc ln : Nat} {a off tg : Int} (hf : (xb_G.1 mi)[i]? = some (pc, .ifCond .ne off, ln, [tg])) (ha : xa_rI a) (kt : a ≠ 0 → ih_Wp X mi tg.toNat ls st t Q) (kf : ¬ (a ≠ 0) → ih_Wp X mi (i + 1) ls st t Q) : ih_Wp X mi i ls (xI a :: st) t Q := by
  have e : xa_cmpw .ne a 0 = decide (a ≠ 0) := by unfold xa_cmpw; rw [if_pos ⟨ha, xa_r0⟩]; rfl
  by_cases h : a ≠ 0
  · refine ih_step hf ?_ (kt h)
    show xa_if1 .ne [tg] i ls (xI a :: st) (ih_mk t) = _
    unfold xa_if1
    dsimp only
    rw [e, if_pos (decide_eq_true h)]
  · refine ih_step hf ?_ (kf h)
    show xa_if1 .ne [tg] i ls (xI a :: st) (ih_mk t) = _
    unfold xa_if1
    dsimp only
    rw [e, if_neg (fun q => h (of_decide_eq_true q))]
theorem ih_icmp_lt {pc ln : Nat} {a b off tg : Int} (hf : (xb_G.1 mi)[i]? = some (pc, .if_icmp .lt off, ln, [tg])) (ha : xa_rI a) (hb : xa_rI b) (kt : a < b → ih_Wp X mi tg.toNat ls st t Q) (kf : ¬ a < b → ih_Wp X mi (i + 1) ls st t Q) : ih_Wp X mi i ls (xI b :: xI a :: st) t Q := by
  have e : xa_cmpw .lt a b = decide (a < b) := by unfold xa_cmpw; rw [if_pos ⟨ha, hb⟩]; rfl
  by_cases h : a < b
  · refine ih_step hf ?_ (kt h)
    show xa_if2 .lt [tg] i ls (xI b :: xI a :: st) (ih_mk t) = _
    unfold xa_if2
    dsimp only
    rw [e, if_pos (decide_eq_true h)]
  · refine ih_step hf ?_ (kf h)
    show xa_if2 .lt [tg] i ls (xI b :: xI a :: st) (ih_mk t) = _
    unfold xa_if2
    dsimp only
    rw [e, if_neg (fun q => h (of_decide_eq_true q))]
theorem ih_ifc_lt {pc ln : Nat} {a off tg : Int} (hf : (xb_G.1 mi)[i]? = some (pc, .ifCond .lt off, ln, [tg])) (ha : xa_rI a) (kt : a < 0 → ih_Wp X mi tg.toNat ls st t Q) (kf : ¬ a < 0 → ih_Wp X mi (i + 1) ls st t Q) : ih_Wp X mi i ls (xI a :: st) t Q := by
  have e : xa_cmpw .lt a 0 = decide (a < 0) := by unfold xa_cmpw; rw [if_pos ⟨ha, xa_r0⟩]; rfl
  by_cases h : a < 0
  · refine ih_step hf ?_ (kt h)
    show xa_if1 .lt [tg] i ls (xI a :: st) (ih_mk t) = _
    unfold xa_if1
    dsimp only
    rw [e, if_pos (decide_eq_true h)]
  · refine ih_step hf ?_ (kf h)
    show xa_if1 .lt [tg] i ls (xI a :: st) (ih_mk t) = _
    unfold xa_if1
    dsimp only
    rw [e, if_neg (fun q => h (of_decide_eq_true q))]
theorem ih_icmp_ge {pc ln : Nat} {a b off tg : Int} (hf : (xb_G.1 mi)[i]? = some (pc, .if_icmp .ge off, ln, [tg])) (ha : xa_rI a) (hb : xa_rI b) (kt : b ≤ a → ih_Wp X mi tg.toNat ls st t Q) (kf : ¬ b ≤ a → ih_Wp X mi (i + 1) ls st t Q) : ih_Wp X mi i ls (xI b :: xI a :: st) t Q := by
  have e : xa_cmpw .ge a b = decide (b ≤ a) := by unfold xa_cmpw; rw [if_pos ⟨ha, hb⟩]; rfl
  by_cases h : b ≤ a
  · refine ih_step hf ?_ (kt h)
    show xa_if2 .ge [tg] i ls (xI b :: xI a :: st) (ih_mk t) = _
    unfold xa_if2
    dsimp only
    rw [e, if_pos (decide_eq_true h)]
  · refine ih_step hf ?_ (kf h)
    show xa_if2 .ge [tg] i ls (xI b :: xI a :: st) (ih_mk t) = _
    unfold xa_if2
    dsimp only
    rw [e, if_neg (fun q => h (of_decide_eq_true q))]
theorem ih_ifc_ge {pc ln : Nat} {a off tg : Int} (hf : (xb_G.1 mi)[i]? = some (pc, .ifCond .ge off, ln, [tg])) (ha : xa_rI a) (kt : 0 ≤ a → ih_Wp X mi tg.toNat ls st t Q) (kf : ¬ 0 ≤ a → ih_Wp X mi (i + 1) ls st t Q) : ih_Wp X mi i ls (xI a :: st) t Q := by
  have e : xa_cmpw .ge a 0 = decide (0 ≤ a) := by unfold xa_cmpw; rw [if_pos ⟨ha, xa_r0⟩]; rfl
  by_cases h : 0 ≤ a
  · refine ih_step hf ?_ (kt h)
    show xa_if1 .ge [tg] i ls (xI a :: st) (ih_mk t) = _
    unfold xa_if1
    dsimp only
    rw [e, if_pos (decide_eq_true h)]
  · refine ih_step hf ?_ (kf h)
    show xa_if1 .ge [tg] i ls (xI a :: st) (ih_mk t) = _
    unfold xa_if1
    dsimp only
    rw [e, if_neg (fun q => h (of_decide_eq_true q))]
theorem ih_icmp_gt {pc ln : Nat} {a b off tg : Int} (hf : (xb_G.1 mi)[i]? = some (pc, .if_icmp .gt off, ln, [tg])) (ha : xa_rI a) (hb : xa_rI b) (kt : b < a → ih_Wp X mi tg.toNat ls st t Q) (kf : ¬ b < a → ih_Wp X mi (i + 1) ls st t Q) : ih_Wp X mi i ls (xI b :: xI a :: st) t Q := by
  have e : xa_cmpw .gt a b = decide (b < a) := by unfold xa_cmpw; rw [if_pos ⟨ha, hb⟩]; rfl
  by_cases h : b < a
  · refine ih_step hf ?_ (kt h)
    show xa_if2 .gt [tg] i ls (xI b :: xI a :: st) (ih_mk t) = _
    unfold xa_if2
    dsimp only
    rw [e, if_pos (decide_eq_true h)]
  · refine ih_step hf ?_ (kf h)
    show xa_if2 .gt [tg] i ls (xI b :: xI a :: st) (ih_mk t) = _
    unfold xa_if2
    dsimp only
    rw [e, if_neg (fun q => h (of_decide_eq_true q))]
theorem ih_ifc_gt {pc ln : Nat} {a off tg : Int} (hf : (xb_G.1 mi)[i]? = some (pc, .ifCond .gt off, ln, [tg])) (ha : xa_rI a) (kt : 0 < a → ih_Wp X mi tg.toNat ls st t Q) (kf : ¬ 0 < a → ih_Wp X mi (i + 1) ls st t Q) : ih_Wp X mi i ls (xI a :: st) t Q := by
  have e : xa_cmpw .gt a 0 = decide (0 < a) := by unfold xa_cmpw; rw [if_pos ⟨ha, xa_r0⟩]; rfl
  by_cases h : 0 < a
  · refine ih_step hf ?_ (kt h)
    show xa_if1 .gt [tg] i ls (xI a :: st) (ih_mk t) = _
    unfold xa_if1
    dsimp only
    rw [e, if_pos (decide_eq_true h)]
  · refine ih_step hf ?_ (kf h)
    show xa_if1 .gt [tg] i ls (xI a :: st) (ih_mk t) = _
    unfold xa_if1
    dsimp only
    rw [e, if_neg (fun q => h (of_decide_eq_true q))]
theorem ih_icmp_le {pc ln : Nat} {a b off tg : Int} (hf : (xb_G.1 mi)[i]? = some (pc, .if_icmp .le off, ln, [tg])) (ha : xa_rI a) (hb : xa_rI b) (kt : a ≤ b → ih_Wp X mi tg.toNat ls st t Q) (kf : ¬ a ≤ b → ih_Wp X mi (i + 1) ls st t Q) : ih_Wp X mi i ls (xI b :: xI a :: st) t Q := by
  have e : xa_cmpw .le a b = decide (a ≤ b) := by unfold xa_cmpw; rw [if_pos ⟨ha, hb⟩]; rfl
  by_cases h : a ≤ b
  · refine ih_step hf ?_ (kt h)
    show xa_if2 .le [tg] i ls (xI b :: xI a :: st) (ih_mk t) = _
    unfold xa_if2
    dsimp only
    rw [e, if_pos (decide_eq_true h)]
  · refine ih_step hf ?_ (kf h)
    show xa_if2 .le [tg] i ls (xI b :: xI a :: st) (ih_mk t) = _
    unfold xa_if2
    dsimp only
    rw [e, if_neg (fun q => h (of_decide_eq_true q))]
theorem ih_ifc_le {pc ln : Nat} {a off tg : Int} (hf : (xb_G.1 mi)[i]? = some (pc, .ifCond .le off, ln, [tg])) (ha : xa_rI a) (kt : a ≤ 0 → ih_Wp X mi tg.toNat ls st t Q) (kf : ¬ a ≤ 0 → ih_Wp X mi (i + 1) ls st t Q) : ih_Wp X mi i ls (xI a :: st) t Q := by
  have e : xa_cmpw .le a 0 = decide (a ≤ 0) := by unfold xa_cmpw; rw [if_pos ⟨ha, xa_r0⟩]; rfl
  by_cases h : a ≤ 0
  · refine ih_step hf ?_ (kt h)
    show xa_if1 .le [tg] i ls (xI a :: st) (ih_mk t) = _
    unfold xa_if1
    dsimp only
    rw [e, if_pos (decide_eq_true h)]
  · refine ih_step hf ?_ (kf h)
    show xa_if1 .le [tg] i ls (xI a :: st) (ih_mk t) = _
    unfold xa_if1
    dsimp only
    rw [e, if_neg (fun q => h (of_decide_eq_true q))]
/-- two numbers that are the same number, whatever it is -/
theorem ih_same {pc ln : Nat} {a off tg : Int} (hf : (xb_G.1 mi)[i]? = some (pc, .if_icmp .eq off, ln, [tg])) (k : ih_Wp X mi tg.toNat ls st t Q) : ih_Wp X mi i ls (xI a :: xI a :: st) t Q := by
  refine ih_step hf ?_ k
  show xa_if2 .eq [tg] i ls (xI a :: xI a :: st) (ih_mk t) = _
  unfold xa_if2
  dsimp only
  have e : xa_cmpw .eq a a = true := by
    unfold xa_cmpw
    split <;> exact decide_eq_true rfl
  rw [if_pos e]
theorem ih_sw {pc ln : Nat} {d lo hi z dt tg : Int} {offs : Array Int} {ts : List Int} (hf : (xb_G.1 mi)[i]? = some (pc, .tableswitch d lo hi offs, ln, dt :: ts)) (hz : xa_rI z) (h0 : lo ≤ z) (h1 : z ≤ hi) (ht : ts[(z - lo).toNat]? = some tg) (k : ih_Wp X mi tg.toNat ls st t Q) : ih_Wp X mi i ls (xI z :: st) t Q := by
  refine ih_step hf ?_ k
  show xa_sw lo hi (dt :: ts) ls (xI z :: st) (ih_mk t) = _
  unfold xa_sw
  dsimp only
  rw [if_pos hz, if_neg (by omega), ht]
theorem ih_swd {pc ln : Nat} {d lo hi z dt : Int} {offs : Array Int} {ts : List Int} (hf : (xb_G.1 mi)[i]? = some (pc, .tableswitch d lo hi offs, ln, dt :: ts)) (hz : xa_rI z) (h : z < lo ∨ hi < z) (k : ih_Wp X mi dt.toNat ls st t Q) : ih_Wp X mi i ls (xI z :: st) t Q := by
  refine ih_step hf ?_ k
  show xa_sw lo hi (dt :: ts) ls (xI z :: st) (ih_mk t) = _
  unfold xa_sw
  dsimp only
  rw [if_pos hz, if_pos h]
end IHR
theorem ih_conseq {X : List Int} {mi i : Nat} {ls st : List xa_V} {t : ih_S} {Q Q' : Option xa_V → ih_S → Prop} (h : ih_Wp X mi i ls st t Q) (hq : ∀ rv t', Q rv t' → Q' rv t') : ih_Wp X mi i ls st t Q' := by
  obtain ⟨n, rv, t', e, q⟩ := h
  exact ⟨n, rv, t', e, hq _ _ q⟩
