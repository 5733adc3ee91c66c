/-! ONE INSTRUCTION: the real machine follows the small one -/
def xa_Cx (G : xa_G) (S : xa_M) (mi : Nat) (X : List Int) (b0 : Nat) (ca : Nat → Nat) (v3 : Value) (D : va_G) (cI : ClassId) (cQ : Nat → ClassId) (p : Program) (R : Jvm.Room) (s : State) (m : MethodId) (args : Array Value) (meth : Method) (c : Code) : Prop :=
  p.tables.exec = Jvm.exec ∧ c.code = (S mi).2.2.1 ∧ c.maxLocals = (G.2 mi).1 ∧ s.vm.findClass (S mi).1 = some m.cls ∧ (∀ w ∈ xa_tb, w.before args s = true) ∧ xa_F b0 ca v3 X D cI cQ s s.heap ∧ v3.category = 1 ∧ b0 ≤ s.heap.size ∧ meth.name = (S mi).2.1.name ∧ (S mi).2.2.2.2.1 ≤ R.frames ∧ (S mi).2.2.2.2.2 ≤ R.locals
def xa_WW (G : xa_G) (mi : Nat) (b0 : Nat) (ca : Nat → Nat) (v3 : Value) (D : va_G) (cI : ClassId) (cQ : Nat → ClassId) (p : Program) (l : Launch) (e : Env) (R : Jvm.Room) (s : State) (m : MethodId) (args : Array Value) (below : List Frame) (meth : Method) (c : Code) (Q : State → Prop) (h' : xa_H) (i : Nat) (ls st : List xa_V) (h : xa_H) : Prop :=
  ∀ (pc : Nat) (H : Heap) (locs : List Loc) (cells slots : Nat) (lr : Array Slot), xa_at G mi i pc = true → xa_lr b0 ca v3 (G.2 mi).1 ls lr → xa_Rel b0 ca v3 cI cQ D xb_cl h H → va_S (fun a : Nat => b0 ≤ a) s.heap H locs → cells + (h'.length - h.length) ≤ R.cells → slots + (xa_sl h' - xa_sl h) ≤ R.slots →
    W p l e R s m args below meth c H locs cells slots Q (F0 m pc lr (st.map (xa_cv b0 ca v3)))
theorem xa_at_of {G : xa_G} {mi i pc : Nat} {en : xa_E} (hf : (G.1 mi)[i]? = some en) (h : xa_at G mi i pc = true) : en.1 = pc := by
  unfold xa_at at h
  rw [hf] at h
  simpa using h
theorem xa_jmp_of {G : xa_G} {mi pc : Nat} {t off : Int} (h : xa_jmp G mi pc t off = true) : ∃ b : Nat, (pc : Int) + off = (b : Int) ∧ xa_at G mi t.toNat b = true := by
  unfold xa_jmp at h
  split at h
  · simp at h
  · next en hf =>
    refine ⟨en.1, of_decide_eq_true h, ?_⟩
    unfold xa_at
    rw [hf]
    simp
theorem xa_sl_set {h : xa_H} {k : Nat} {a b : xa_K} (e : h[k]? = some a) (hl : b.2.2.length = a.2.2.length) : xa_sl (h.set k b) = xa_sl h := by
  unfold xa_sl
  rw [List.map_set]
  have : (h.map (fun c => c.2.2.length))[k]? = some b.2.2.length := by rw [List.getElem?_map, e, hl]; rfl
  obtain ⟨hk, e2⟩ := List.getElem?_eq_some_iff.mp this
  rw [← e2, List.set_getElem_self]
theorem xa_Rel_set {b0 : Nat} {ca : Nat → Nat} {v3 : Value} {cI : ClassId} {cQ : Nat → ClassId} {D : va_G} {h : xa_H} {k : Nat} {c : xa_K} {H H1 : Heap} (hR : xa_Rel b0 ca v3 cI cQ D xb_cl h H) (hP : va_P D xb_cl ((xa_W b0 ca v3 cI cQ h).set k (b0 + k, xa_ce b0 ca v3 cI cQ c)) H1) (hz : H1.size = H.size) : xa_Rel b0 ca v3 cI cQ D xb_cl (h.set k c) H1 :=
  ⟨by rw [hz, List.length_set]; exact hR.1, by rw [xa_W_set]; exact hP⟩
section XS
variable {p : Program} {l : Launch} {e : Env} {R : Jvm.Room} {s : State} {m : MethodId} {args : Array Value} {below : List Frame} {meth : Method} {c : Code} {Q : State → Prop}
variable {G : xa_G} {S : xa_M} {mi : Nat} {X : List Int} {b0 : Nat} {ca : Nat → Nat} {v3 : Value} {D : va_G} {cI : ClassId} {cQ : Nat → ClassId} {h' : xa_H}
theorem xa_s_iload (C : xa_Cx G S mi X b0 ca v3 D cI cQ p R s m args meth c) {en : xa_E} {i i1 : Nat} {ls ls1 st st1 : List xa_V} {h h1 : xa_H} {pl : List Nat} {k : Nat} (hins : en.2.1 = .iload k) (hf : (G.1 mi)[i]? = some en) (hok : xa_ok G S mi i en pl = true) (ho : xa_one1 X en i ls st h = some (.inl (i1, ls1, st1, h1))) (hm : h1.length ≤ h'.length ∧ xa_sl h1 ≤ xa_sl h') (kk : xa_WW G mi b0 ca v3 D cI cQ p l e R s m args below meth c Q h' i1 ls1 st1 h1) : xa_WW G mi b0 ca v3 D cI cQ p l e R s m args below meth c Q h' i ls st h := by
  obtain ⟨pb, ins, ln, x⟩ := en
  dsimp only at hins
  subst hins
  intro pc H locs cells slots lr hat hL hR hS hc hs
  obtain ⟨hx, hb, hml, hown, hts, hF, h3, hb0, hnm, hfr, hlo⟩ := C
  simp only [xa_ok, Bool.and_eq_true] at hok
  obtain ⟨k1, k2, k3, k4⟩ := hok
  have hpc : pb = pc := xa_at_of hf hat
  subst hpc
  have hdg := xa_dec_of k1
  have hln : ln = 2 := by simpa [xa_lenOK, xa_len] using k2
  subst hln
  have hnx : xa_at G mi (i + 1) (pb + 2) = true := by simpa [xa_through] using k3
  dsimp only [xa_one1] at ho
  dsimp only at hdg
  unfold xa_iload at ho
  split at ho
  · next z e1 =>
    cases ho
    exact lv_iload hx hb hdg (hL.2.2.2 _ _ e1 (by simp)) (kk _ H locs cells slots lr hnx hL hR hS hc hs)
  · cases ho
theorem xa_s_iload_n (C : xa_Cx G S mi X b0 ca v3 D cI cQ p R s m args meth c) {en : xa_E} {i i1 : Nat} {ls ls1 st st1 : List xa_V} {h h1 : xa_H} {pl : List Nat} {k : Fin 4} (hins : en.2.1 = .iload_n k) (hf : (G.1 mi)[i]? = some en) (hok : xa_ok G S mi i en pl = true) (ho : xa_one1 X en i ls st h = some (.inl (i1, ls1, st1, h1))) (hm : h1.length ≤ h'.length ∧ xa_sl h1 ≤ xa_sl h') (kk : xa_WW G mi b0 ca v3 D cI cQ p l e R s m args below meth c Q h' i1 ls1 st1 h1) : xa_WW G mi b0 ca v3 D cI cQ p l e R s m args below meth c Q h' i ls st h := by
  obtain ⟨pb, ins, ln, x⟩ := en
  dsimp only at hins
  subst hins
  intro pc H locs cells slots lr hat hL hR hS hc hs
  obtain ⟨hx, hb, hml, hown, hts, hF, h3, hb0, hnm, hfr, hlo⟩ := C
  simp only [xa_ok, Bool.and_eq_true] at hok
  obtain ⟨k1, k2, k3, k4⟩ := hok
  have hpc : pb = pc := xa_at_of hf hat
  subst hpc
  have hdg := xa_dec_of k1
  have hln : ln = 1 := by simpa [xa_lenOK, xa_len] using k2
  subst hln
  have hnx : xa_at G mi (i + 1) (pb + 1) = true := by simpa [xa_through] using k3
  dsimp only [xa_one1] at ho
  dsimp only at hdg
  unfold xa_iload at ho
  split at ho
  · next z e1 =>
    cases ho
    exact lv_iload_n hx hb hdg rfl (hL.2.2.2 _ _ e1 (by simp)) (kk _ H locs cells slots lr hnx hL hR hS hc hs)
  · cases ho
theorem xa_s_lload (C : xa_Cx G S mi X b0 ca v3 D cI cQ p R s m args meth c) {en : xa_E} {i i1 : Nat} {ls ls1 st st1 : List xa_V} {h h1 : xa_H} {pl : List Nat} {k : Nat} (hins : en.2.1 = .lload k) (hf : (G.1 mi)[i]? = some en) (hok : xa_ok G S mi i en pl = true) (ho : xa_one1 X en i ls st h = some (.inl (i1, ls1, st1, h1))) (hm : h1.length ≤ h'.length ∧ xa_sl h1 ≤ xa_sl h') (kk : xa_WW G mi b0 ca v3 D cI cQ p l e R s m args below meth c Q h' i1 ls1 st1 h1) : xa_WW G mi b0 ca v3 D cI cQ p l e R s m args below meth c Q h' i ls st h := by
  obtain ⟨pb, ins, ln, x⟩ := en
  dsimp only at hins
  subst hins
  intro pc H locs cells slots lr hat hL hR hS hc hs
  obtain ⟨hx, hb, hml, hown, hts, hF, h3, hb0, hnm, hfr, hlo⟩ := C
  simp only [xa_ok, Bool.and_eq_true] at hok
  obtain ⟨k1, k2, k3, k4⟩ := hok
  have hpc : pb = pc := xa_at_of hf hat
  subst hpc
  have hdg := xa_dec_of k1
  have hln : ln = 2 := by simpa [xa_lenOK, xa_len] using k2
  subst hln
  have hnx : xa_at G mi (i + 1) (pb + 2) = true := by simpa [xa_through] using k3
  dsimp only [xa_one1] at ho
  dsimp only at hdg
  unfold xa_lload at ho
  split at ho
  · next z e1 =>
    cases ho
    exact lv_lload hx hb hdg (hL.2.2.2 _ _ e1 (by simp)) (kk _ H locs cells slots lr hnx hL hR hS hc hs)
  · cases ho
theorem xa_s_lload_n (C : xa_Cx G S mi X b0 ca v3 D cI cQ p R s m args meth c) {en : xa_E} {i i1 : Nat} {ls ls1 st st1 : List xa_V} {h h1 : xa_H} {pl : List Nat} {k : Fin 4} (hins : en.2.1 = .lload_n k) (hf : (G.1 mi)[i]? = some en) (hok : xa_ok G S mi i en pl = true) (ho : xa_one1 X en i ls st h = some (.inl (i1, ls1, st1, h1))) (hm : h1.length ≤ h'.length ∧ xa_sl h1 ≤ xa_sl h') (kk : xa_WW G mi b0 ca v3 D cI cQ p l e R s m args below meth c Q h' i1 ls1 st1 h1) : xa_WW G mi b0 ca v3 D cI cQ p l e R s m args below meth c Q h' i ls st h := by
  obtain ⟨pb, ins, ln, x⟩ := en
  dsimp only at hins
  subst hins
  intro pc H locs cells slots lr hat hL hR hS hc hs
  obtain ⟨hx, hb, hml, hown, hts, hF, h3, hb0, hnm, hfr, hlo⟩ := C
  simp only [xa_ok, Bool.and_eq_true] at hok
  obtain ⟨k1, k2, k3, k4⟩ := hok
  have hpc : pb = pc := xa_at_of hf hat
  subst hpc
  have hdg := xa_dec_of k1
  have hln : ln = 1 := by simpa [xa_lenOK, xa_len] using k2
  subst hln
  have hnx : xa_at G mi (i + 1) (pb + 1) = true := by simpa [xa_through] using k3
  dsimp only [xa_one1] at ho
  dsimp only at hdg
  unfold xa_lload at ho
  split at ho
  · next z e1 =>
    cases ho
    exact lv_lload_n hx hb hdg rfl (hL.2.2.2 _ _ e1 (by simp)) (kk _ H locs cells slots lr hnx hL hR hS hc hs)
  · cases ho
theorem xa_s_aload (C : xa_Cx G S mi X b0 ca v3 D cI cQ p R s m args meth c) {en : xa_E} {i i1 : Nat} {ls ls1 st st1 : List xa_V} {h h1 : xa_H} {pl : List Nat} {k : Nat} (hins : en.2.1 = .aload k) (hf : (G.1 mi)[i]? = some en) (hok : xa_ok G S mi i en pl = true) (ho : xa_one1 X en i ls st h = some (.inl (i1, ls1, st1, h1))) (hm : h1.length ≤ h'.length ∧ xa_sl h1 ≤ xa_sl h') (kk : xa_WW G mi b0 ca v3 D cI cQ p l e R s m args below meth c Q h' i1 ls1 st1 h1) : xa_WW G mi b0 ca v3 D cI cQ p l e R s m args below meth c Q h' i ls st h := by
  obtain ⟨pb, ins, ln, x⟩ := en
  dsimp only at hins
  subst hins
  intro pc H locs cells slots lr hat hL hR hS hc hs
  obtain ⟨hx, hb, hml, hown, hts, hF, h3, hb0, hnm, hfr, hlo⟩ := C
  simp only [xa_ok, Bool.and_eq_true] at hok
  obtain ⟨k1, k2, k3, k4⟩ := hok
  have hpc : pb = pc := xa_at_of hf hat
  subst hpc
  have hdg := xa_dec_of k1
  have hln : ln = 2 := by simpa [xa_lenOK, xa_len] using k2
  subst hln
  have hnx : xa_at G mi (i + 1) (pb + 2) = true := by simpa [xa_through] using k3
  dsimp only [xa_one1] at ho
  dsimp only at hdg
  unfold xa_aload at ho
  split at ho
  · next z e1 =>
    cases ho
    exact lv_aload hx hb hdg (hL.2.2.2 _ _ e1 (by simp)) (kk _ H locs cells slots lr hnx hL hR hS hc hs)
  · next z e1 =>
    split at ho
    · next hz =>
      cases ho
      have e2 := hL.2.2.2 _ _ e1 (by intro q; cases q; omega)
      have e3 : xa_cv b0 ca v3 (xC z) = .ref (ca z) := by
        show (if z = 0 then Value.null else if z = 3 then v3 else .ref (ca z)) = _
        rw [if_neg (by omega), if_neg (by omega)]
      have e4 := kk _ H locs cells slots lr hnx hL hR hS hc hs
      rw [List.map_cons] at e4
      rw [show xa_cv b0 ca v3 (.inr (.inr (.inr z))) = .ref (ca z) from e3] at e2 e4
      exact lv_aload hx hb hdg e2 e4
    · cases ho
  · cases ho
theorem xa_s_aload_n (C : xa_Cx G S mi X b0 ca v3 D cI cQ p R s m args meth c) {en : xa_E} {i i1 : Nat} {ls ls1 st st1 : List xa_V} {h h1 : xa_H} {pl : List Nat} {k : Fin 4} (hins : en.2.1 = .aload_n k) (hf : (G.1 mi)[i]? = some en) (hok : xa_ok G S mi i en pl = true) (ho : xa_one1 X en i ls st h = some (.inl (i1, ls1, st1, h1))) (hm : h1.length ≤ h'.length ∧ xa_sl h1 ≤ xa_sl h') (kk : xa_WW G mi b0 ca v3 D cI cQ p l e R s m args below meth c Q h' i1 ls1 st1 h1) : xa_WW G mi b0 ca v3 D cI cQ p l e R s m args below meth c Q h' i ls st h := by
  obtain ⟨pb, ins, ln, x⟩ := en
  dsimp only at hins
  subst hins
  intro pc H locs cells slots lr hat hL hR hS hc hs
  obtain ⟨hx, hb, hml, hown, hts, hF, h3, hb0, hnm, hfr, hlo⟩ := C
  simp only [xa_ok, Bool.and_eq_true] at hok
  obtain ⟨k1, k2, k3, k4⟩ := hok
  have hpc : pb = pc := xa_at_of hf hat
  subst hpc
  have hdg := xa_dec_of k1
  have hln : ln = 1 := by simpa [xa_lenOK, xa_len] using k2
  subst hln
  have hnx : xa_at G mi (i + 1) (pb + 1) = true := by simpa [xa_through] using k3
  dsimp only [xa_one1] at ho
  dsimp only at hdg
  unfold xa_aload at ho
  split at ho
  · next z e1 =>
    cases ho
    exact lv_aload_n hx hb hdg rfl (hL.2.2.2 _ _ e1 (by simp)) (kk _ H locs cells slots lr hnx hL hR hS hc hs)
  · next z e1 =>
    split at ho
    · next hz =>
      cases ho
      have e2 := hL.2.2.2 _ _ e1 (by intro q; cases q; omega)
      have e3 : xa_cv b0 ca v3 (xC z) = .ref (ca z) := by
        show (if z = 0 then Value.null else if z = 3 then v3 else .ref (ca z)) = _
        rw [if_neg (by omega), if_neg (by omega)]
      have e4 := kk _ H locs cells slots lr hnx hL hR hS hc hs
      rw [List.map_cons] at e4
      rw [show xa_cv b0 ca v3 (.inr (.inr (.inr z))) = .ref (ca z) from e3] at e2 e4
      exact lv_aload_n hx hb hdg rfl e2 e4
    · cases ho
  · cases ho
theorem xa_s_istore (C : xa_Cx G S mi X b0 ca v3 D cI cQ p R s m args meth c) {en : xa_E} {i i1 : Nat} {ls ls1 st st1 : List xa_V} {h h1 : xa_H} {pl : List Nat} {k : Nat} (hins : en.2.1 = .istore k) (hf : (G.1 mi)[i]? = some en) (hok : xa_ok G S mi i en pl = true) (ho : xa_one1 X en i ls st h = some (.inl (i1, ls1, st1, h1))) (hm : h1.length ≤ h'.length ∧ xa_sl h1 ≤ xa_sl h') (kk : xa_WW G mi b0 ca v3 D cI cQ p l e R s m args below meth c Q h' i1 ls1 st1 h1) : xa_WW G mi b0 ca v3 D cI cQ p l e R s m args below meth c Q h' i ls st h := by
  obtain ⟨pb, ins, ln, x⟩ := en
  dsimp only at hins
  subst hins
  intro pc H locs cells slots lr hat hL hR hS hc hs
  obtain ⟨hx, hb, hml, hown, hts, hF, h3, hb0, hnm, hfr, hlo⟩ := C
  simp only [xa_ok, Bool.and_eq_true] at hok
  obtain ⟨k1, k2, k3, k4⟩ := hok
  have hpc : pb = pc := xa_at_of hf hat
  subst hpc
  have hdg := xa_dec_of k1
  have hln : ln = 2 := by simpa [xa_lenOK, xa_len] using k2
  subst hln
  have hnx : xa_at G mi (i + 1) (pb + 2) = true := by simpa [xa_through] using k3
  dsimp only [xa_one1] at ho
  dsimp only at hdg
  unfold xa_istore at ho
  split at ho
  · next z st0 =>
    split at ho
    · next hk =>
      cases ho
      have hk2 := hL.2.2.1
      exact lv_istore hx hb hdg (xa_lr_has hL) (by omega) rfl (fun lr' hl' => kk _ H locs cells slots lr' hnx (xa_lr_set1 h3 hk2 (by omega) hl') hR hS hc hs)
    · cases ho
  · cases ho
theorem xa_s_istore_n (C : xa_Cx G S mi X b0 ca v3 D cI cQ p R s m args meth c) {en : xa_E} {i i1 : Nat} {ls ls1 st st1 : List xa_V} {h h1 : xa_H} {pl : List Nat} {k : Fin 4} (hins : en.2.1 = .istore_n k) (hf : (G.1 mi)[i]? = some en) (hok : xa_ok G S mi i en pl = true) (ho : xa_one1 X en i ls st h = some (.inl (i1, ls1, st1, h1))) (hm : h1.length ≤ h'.length ∧ xa_sl h1 ≤ xa_sl h') (kk : xa_WW G mi b0 ca v3 D cI cQ p l e R s m args below meth c Q h' i1 ls1 st1 h1) : xa_WW G mi b0 ca v3 D cI cQ p l e R s m args below meth c Q h' i ls st h := by
  obtain ⟨pb, ins, ln, x⟩ := en
  dsimp only at hins
  subst hins
  intro pc H locs cells slots lr hat hL hR hS hc hs
  obtain ⟨hx, hb, hml, hown, hts, hF, h3, hb0, hnm, hfr, hlo⟩ := C
  simp only [xa_ok, Bool.and_eq_true] at hok
  obtain ⟨k1, k2, k3, k4⟩ := hok
  have hpc : pb = pc := xa_at_of hf hat
  subst hpc
  have hdg := xa_dec_of k1
  have hln : ln = 1 := by simpa [xa_lenOK, xa_len] using k2
  subst hln
  have hnx : xa_at G mi (i + 1) (pb + 1) = true := by simpa [xa_through] using k3
  dsimp only [xa_one1] at ho
  dsimp only at hdg
  unfold xa_istore at ho
  split at ho
  · next z st0 =>
    split at ho
    · next hk =>
      cases ho
      have hk2 := hL.2.2.1
      exact lv_istore_n hx hb hdg rfl (xa_lr_has hL) (by omega) rfl (fun lr' hl' => kk _ H locs cells slots lr' hnx (xa_lr_set1 h3 hk2 (by omega) hl') hR hS hc hs)
    · cases ho
  · cases ho
theorem xa_s_astore (C : xa_Cx G S mi X b0 ca v3 D cI cQ p R s m args meth c) {en : xa_E} {i i1 : Nat} {ls ls1 st st1 : List xa_V} {h h1 : xa_H} {pl : List Nat} {k : Nat} (hins : en.2.1 = .astore k) (hf : (G.1 mi)[i]? = some en) (hok : xa_ok G S mi i en pl = true) (ho : xa_one1 X en i ls st h = some (.inl (i1, ls1, st1, h1))) (hm : h1.length ≤ h'.length ∧ xa_sl h1 ≤ xa_sl h') (kk : xa_WW G mi b0 ca v3 D cI cQ p l e R s m args below meth c Q h' i1 ls1 st1 h1) : xa_WW G mi b0 ca v3 D cI cQ p l e R s m args below meth c Q h' i ls st h := by
  obtain ⟨pb, ins, ln, x⟩ := en
  dsimp only at hins
  subst hins
  intro pc H locs cells slots lr hat hL hR hS hc hs
  obtain ⟨hx, hb, hml, hown, hts, hF, h3, hb0, hnm, hfr, hlo⟩ := C
  simp only [xa_ok, Bool.and_eq_true] at hok
  obtain ⟨k1, k2, k3, k4⟩ := hok
  have hpc : pb = pc := xa_at_of hf hat
  subst hpc
  have hdg := xa_dec_of k1
  have hln : ln = 2 := by simpa [xa_lenOK, xa_len] using k2
  subst hln
  have hnx : xa_at G mi (i + 1) (pb + 2) = true := by simpa [xa_through] using k3
  dsimp only [xa_one1] at ho
  dsimp only at hdg
  unfold xa_astore at ho
  split at ho
  · next z st0 =>
    split at ho
    · next hk =>
      cases ho
      have hk2 := hL.2.2.1
      exact lv_astore hx hb hdg (xa_lr_has hL) (by omega) rfl (fun lr' hl' => kk _ H locs cells slots lr' hnx (xa_lr_set1 h3 hk2 (by omega) hl') hR hS hc hs)
    · cases ho
  · cases ho
theorem xa_s_astore_n (C : xa_Cx G S mi X b0 ca v3 D cI cQ p R s m args meth c) {en : xa_E} {i i1 : Nat} {ls ls1 st st1 : List xa_V} {h h1 : xa_H} {pl : List Nat} {k : Fin 4} (hins : en.2.1 = .astore_n k) (hf : (G.1 mi)[i]? = some en) (hok : xa_ok G S mi i en pl = true) (ho : xa_one1 X en i ls st h = some (.inl (i1, ls1, st1, h1))) (hm : h1.length ≤ h'.length ∧ xa_sl h1 ≤ xa_sl h') (kk : xa_WW G mi b0 ca v3 D cI cQ p l e R s m args below meth c Q h' i1 ls1 st1 h1) : xa_WW G mi b0 ca v3 D cI cQ p l e R s m args below meth c Q h' i ls st h := by
  obtain ⟨pb, ins, ln, x⟩ := en
  dsimp only at hins
  subst hins
  intro pc H locs cells slots lr hat hL hR hS hc hs
  obtain ⟨hx, hb, hml, hown, hts, hF, h3, hb0, hnm, hfr, hlo⟩ := C
  simp only [xa_ok, Bool.and_eq_true] at hok
  obtain ⟨k1, k2, k3, k4⟩ := hok
  have hpc : pb = pc := xa_at_of hf hat
  subst hpc
  have hdg := xa_dec_of k1
  have hln : ln = 1 := by simpa [xa_lenOK, xa_len] using k2
  subst hln
  have hnx : xa_at G mi (i + 1) (pb + 1) = true := by simpa [xa_through] using k3
  dsimp only [xa_one1] at ho
  dsimp only at hdg
  unfold xa_astore at ho
  split at ho
  · next z st0 =>
    split at ho
    · next hk =>
      cases ho
      have hk2 := hL.2.2.1
      exact lv_astore_n hx hb hdg rfl (xa_lr_has hL) (by omega) rfl (fun lr' hl' => kk _ H locs cells slots lr' hnx (xa_lr_set1 h3 hk2 (by omega) hl') hR hS hc hs)
    · cases ho
  · cases ho
theorem xa_s_lstore (C : xa_Cx G S mi X b0 ca v3 D cI cQ p R s m args meth c) {en : xa_E} {i i1 : Nat} {ls ls1 st st1 : List xa_V} {h h1 : xa_H} {pl : List Nat} {k : Nat} (hins : en.2.1 = .lstore k) (hf : (G.1 mi)[i]? = some en) (hok : xa_ok G S mi i en pl = true) (ho : xa_one1 X en i ls st h = some (.inl (i1, ls1, st1, h1))) (hm : h1.length ≤ h'.length ∧ xa_sl h1 ≤ xa_sl h') (kk : xa_WW G mi b0 ca v3 D cI cQ p l e R s m args below meth c Q h' i1 ls1 st1 h1) : xa_WW G mi b0 ca v3 D cI cQ p l e R s m args below meth c Q h' i ls st h := by
  obtain ⟨pb, ins, ln, x⟩ := en
  dsimp only at hins
  subst hins
  intro pc H locs cells slots lr hat hL hR hS hc hs
  obtain ⟨hx, hb, hml, hown, hts, hF, h3, hb0, hnm, hfr, hlo⟩ := C
  simp only [xa_ok, Bool.and_eq_true] at hok
  obtain ⟨k1, k2, k3, k4⟩ := hok
  have hpc : pb = pc := xa_at_of hf hat
  subst hpc
  have hdg := xa_dec_of k1
  have hln : ln = 2 := by simpa [xa_lenOK, xa_len] using k2
  subst hln
  have hnx : xa_at G mi (i + 1) (pb + 2) = true := by simpa [xa_through] using k3
  dsimp only [xa_one1] at ho
  dsimp only at hdg
  unfold xa_lstore at ho
  split at ho
  · next z st0 =>
    split at ho
    · next hk =>
      cases ho
      have hk2 := hL.2.2.1
      exact lv_lstore hx hb hdg (xa_lr_has hL) (by omega) rfl (fun lr' hl' => kk _ H locs cells slots lr' hnx (xa_lr_set2 h3 hk2 (by omega) rfl hl') hR hS hc hs)
    · cases ho
  · cases ho
theorem xa_s_lstore_n (C : xa_Cx G S mi X b0 ca v3 D cI cQ p R s m args meth c) {en : xa_E} {i i1 : Nat} {ls ls1 st st1 : List xa_V} {h h1 : xa_H} {pl : List Nat} {k : Fin 4} (hins : en.2.1 = .lstore_n k) (hf : (G.1 mi)[i]? = some en) (hok : xa_ok G S mi i en pl = true) (ho : xa_one1 X en i ls st h = some (.inl (i1, ls1, st1, h1))) (hm : h1.length ≤ h'.length ∧ xa_sl h1 ≤ xa_sl h') (kk : xa_WW G mi b0 ca v3 D cI cQ p l e R s m args below meth c Q h' i1 ls1 st1 h1) : xa_WW G mi b0 ca v3 D cI cQ p l e R s m args below meth c Q h' i ls st h := by
  obtain ⟨pb, ins, ln, x⟩ := en
  dsimp only at hins
  subst hins
  intro pc H locs cells slots lr hat hL hR hS hc hs
  obtain ⟨hx, hb, hml, hown, hts, hF, h3, hb0, hnm, hfr, hlo⟩ := C
  simp only [xa_ok, Bool.and_eq_true] at hok
  obtain ⟨k1, k2, k3, k4⟩ := hok
  have hpc : pb = pc := xa_at_of hf hat
  subst hpc
  have hdg := xa_dec_of k1
  have hln : ln = 1 := by simpa [xa_lenOK, xa_len] using k2
  subst hln
  have hnx : xa_at G mi (i + 1) (pb + 1) = true := by simpa [xa_through] using k3
  dsimp only [xa_one1] at ho
  dsimp only at hdg
  unfold xa_lstore at ho
  split at ho
  · next z st0 =>
    split at ho
    · next hk =>
      cases ho
      have hk2 := hL.2.2.1
      exact lv_lstore_n hx hb hdg rfl (xa_lr_has hL) (by omega) rfl (fun lr' hl' => kk _ H locs cells slots lr' hnx (xa_lr_set2 h3 hk2 (by omega) rfl hl') hR hS hc hs)
    · cases ho
  · cases ho
theorem xa_s_iconst (C : xa_Cx G S mi X b0 ca v3 D cI cQ p R s m args meth c) {en : xa_E} {i i1 : Nat} {ls ls1 st st1 : List xa_V} {h h1 : xa_H} {pl : List Nat} {n : Int} (hins : en.2.1 = .iconst n) (hf : (G.1 mi)[i]? = some en) (hok : xa_ok G S mi i en pl = true) (ho : xa_one1 X en i ls st h = some (.inl (i1, ls1, st1, h1))) (hm : h1.length ≤ h'.length ∧ xa_sl h1 ≤ xa_sl h') (kk : xa_WW G mi b0 ca v3 D cI cQ p l e R s m args below meth c Q h' i1 ls1 st1 h1) : xa_WW G mi b0 ca v3 D cI cQ p l e R s m args below meth c Q h' i ls st h := by
  obtain ⟨pb, ins, ln, x⟩ := en
  dsimp only at hins
  subst hins
  intro pc H locs cells slots lr hat hL hR hS hc hs
  obtain ⟨hx, hb, hml, hown, hts, hF, h3, hb0, hnm, hfr, hlo⟩ := C
  simp only [xa_ok, Bool.and_eq_true] at hok
  obtain ⟨k1, k2, k3, k4⟩ := hok
  have hpc : pb = pc := xa_at_of hf hat
  subst hpc
  have hdg := xa_dec_of k1
  have hln : ln = 1 := by simpa [xa_lenOK, xa_len] using k2
  subst hln
  have hnx : xa_at G mi (i + 1) (pb + 1) = true := by simpa [xa_through] using k3
  dsimp only [xa_one1] at ho
  dsimp only at hdg
  cases ho
  exact lv_iconst hx hb hdg rfl (kk _ H locs cells slots lr hnx hL hR hS hc hs)
theorem xa_s_bipush (C : xa_Cx G S mi X b0 ca v3 D cI cQ p R s m args meth c) {en : xa_E} {i i1 : Nat} {ls ls1 st st1 : List xa_V} {h h1 : xa_H} {pl : List Nat} {n : Int} (hins : en.2.1 = .bipush n) (hf : (G.1 mi)[i]? = some en) (hok : xa_ok G S mi i en pl = true) (ho : xa_one1 X en i ls st h = some (.inl (i1, ls1, st1, h1))) (hm : h1.length ≤ h'.length ∧ xa_sl h1 ≤ xa_sl h') (kk : xa_WW G mi b0 ca v3 D cI cQ p l e R s m args below meth c Q h' i1 ls1 st1 h1) : xa_WW G mi b0 ca v3 D cI cQ p l e R s m args below meth c Q h' i ls st h := by
  obtain ⟨pb, ins, ln, x⟩ := en
  dsimp only at hins
  subst hins
  intro pc H locs cells slots lr hat hL hR hS hc hs
  obtain ⟨hx, hb, hml, hown, hts, hF, h3, hb0, hnm, hfr, hlo⟩ := C
  simp only [xa_ok, Bool.and_eq_true] at hok
  obtain ⟨k1, k2, k3, k4⟩ := hok
  have hpc : pb = pc := xa_at_of hf hat
  subst hpc
  have hdg := xa_dec_of k1
  have hln : ln = 2 := by simpa [xa_lenOK, xa_len] using k2
  subst hln
  have hnx : xa_at G mi (i + 1) (pb + 2) = true := by simpa [xa_through] using k3
  dsimp only [xa_one1] at ho
  dsimp only at hdg
  split at ho
  · next hn =>
    cases ho
    refine lv_bipush hx hb hdg ?_ (kk _ H locs cells slots lr hnx hL hR hS hc hs)
    rw [← Int32.toInt_inj, Int8.toInt_toInt32, Int8.toInt_ofInt, xa_toI ⟨by omega, by omega⟩]
    show n.bmod 256 = n
    rw [Int.bmod_def]
    split <;> omega
  · cases ho
theorem xa_s_sipush (C : xa_Cx G S mi X b0 ca v3 D cI cQ p R s m args meth c) {en : xa_E} {i i1 : Nat} {ls ls1 st st1 : List xa_V} {h h1 : xa_H} {pl : List Nat} {n : Int} (hins : en.2.1 = .sipush n) (hf : (G.1 mi)[i]? = some en) (hok : xa_ok G S mi i en pl = true) (ho : xa_one1 X en i ls st h = some (.inl (i1, ls1, st1, h1))) (hm : h1.length ≤ h'.length ∧ xa_sl h1 ≤ xa_sl h') (kk : xa_WW G mi b0 ca v3 D cI cQ p l e R s m args below meth c Q h' i1 ls1 st1 h1) : xa_WW G mi b0 ca v3 D cI cQ p l e R s m args below meth c Q h' i ls st h := by
  obtain ⟨pb, ins, ln, x⟩ := en
  dsimp only at hins
  subst hins
  intro pc H locs cells slots lr hat hL hR hS hc hs
  obtain ⟨hx, hb, hml, hown, hts, hF, h3, hb0, hnm, hfr, hlo⟩ := C
  simp only [xa_ok, Bool.and_eq_true] at hok
  obtain ⟨k1, k2, k3, k4⟩ := hok
  have hpc : pb = pc := xa_at_of hf hat
  subst hpc
  have hdg := xa_dec_of k1
  have hln : ln = 3 := by simpa [xa_lenOK, xa_len] using k2
  subst hln
  have hnx : xa_at G mi (i + 1) (pb + 3) = true := by simpa [xa_through] using k3
  dsimp only [xa_one1] at ho
  dsimp only at hdg
  split at ho
  · next hn =>
    cases ho
    refine lv_sipush hx hb hdg ?_ (kk _ H locs cells slots lr hnx hL hR hS hc hs)
    rw [← Int32.toInt_inj, Int16.toInt_toInt32, Int16.toInt_ofInt, xa_toI ⟨by omega, by omega⟩]
    show n.bmod 65536 = n
    rw [Int.bmod_def]
    split <;> omega
  · cases ho
theorem xa_s_lconst (C : xa_Cx G S mi X b0 ca v3 D cI cQ p R s m args meth c) {en : xa_E} {i i1 : Nat} {ls ls1 st st1 : List xa_V} {h h1 : xa_H} {pl : List Nat} {n : Fin 2} (hins : en.2.1 = .lconst n) (hf : (G.1 mi)[i]? = some en) (hok : xa_ok G S mi i en pl = true) (ho : xa_one1 X en i ls st h = some (.inl (i1, ls1, st1, h1))) (hm : h1.length ≤ h'.length ∧ xa_sl h1 ≤ xa_sl h') (kk : xa_WW G mi b0 ca v3 D cI cQ p l e R s m args below meth c Q h' i1 ls1 st1 h1) : xa_WW G mi b0 ca v3 D cI cQ p l e R s m args below meth c Q h' i ls st h := by
  obtain ⟨pb, ins, ln, x⟩ := en
  dsimp only at hins
  subst hins
  intro pc H locs cells slots lr hat hL hR hS hc hs
  obtain ⟨hx, hb, hml, hown, hts, hF, h3, hb0, hnm, hfr, hlo⟩ := C
  simp only [xa_ok, Bool.and_eq_true] at hok
  obtain ⟨k1, k2, k3, k4⟩ := hok
  have hpc : pb = pc := xa_at_of hf hat
  subst hpc
  have hdg := xa_dec_of k1
  have hln : ln = 1 := by simpa [xa_lenOK, xa_len] using k2
  subst hln
  have hnx : xa_at G mi (i + 1) (pb + 1) = true := by simpa [xa_through] using k3
  dsimp only [xa_one1] at ho
  dsimp only at hdg
  cases ho
  refine lv_lconst hx hb hdg ?_ (kk _ H locs cells slots lr hnx hL hR hS hc hs)
  match n with
  | 0 => rfl
  | 1 => rfl
theorem xa_s_ldc (C : xa_Cx G S mi X b0 ca v3 D cI cQ p R s m args meth c) {en : xa_E} {i i1 : Nat} {ls ls1 st st1 : List xa_V} {h h1 : xa_H} {pl : List Nat} {k : Nat} (hins : en.2.1 = .ldc k) (hf : (G.1 mi)[i]? = some en) (hok : xa_ok G S mi i en pl = true) (ho : xa_one1 X en i ls st h = some (.inl (i1, ls1, st1, h1))) (hm : h1.length ≤ h'.length ∧ xa_sl h1 ≤ xa_sl h') (kk : xa_WW G mi b0 ca v3 D cI cQ p l e R s m args below meth c Q h' i1 ls1 st1 h1) : xa_WW G mi b0 ca v3 D cI cQ p l e R s m args below meth c Q h' i ls st h := by
  obtain ⟨pb, ins, ln, x⟩ := en
  dsimp only at hins
  subst hins
  intro pc H locs cells slots lr hat hL hR hS hc hs
  obtain ⟨hx, hb, hml, hown, hts, hF, h3, hb0, hnm, hfr, hlo⟩ := C
  simp only [xa_ok, Bool.and_eq_true] at hok
  obtain ⟨k1, k2, k3, k4⟩ := hok
  have hpc : pb = pc := xa_at_of hf hat
  subst hpc
  have hdg := xa_dec_of k1
  have hln : ln = 2 := by simpa [xa_lenOK, xa_len] using k2
  subst hln
  have hnx : xa_at G mi (i + 1) (pb + 2) = true := by simpa [xa_through] using k3
  dsimp only [xa_one1] at ho
  dsimp only at hdg
  unfold xa_ldc at ho
  split at ho
  · next z =>
    cases ho
    match pl, k4 with
    | [q], k4 => exact lv_ldc hx hb hown (hts _ (xa_in_tb (by simpa [xa_extra] using k4))) hdg (kk _ H locs cells slots lr hnx hL hR hS hc hs)
  · next z =>
    cases ho
    match pl, k4 with
    | [q], k4 =>
      simp only [xa_extra] at k4
      split at k4
      · next r hr =>
        obtain ⟨g1, g2, g3⟩ := of_decide_eq_true k4
        have hZ := hF.2.2.2.1 r (List.mem_of_getElem? hr)
        rw [g1, g2] at hZ
        have hr20 : 20 ≤ r.2.2.2 := by
          have : ∀ r ∈ xa_sr, 20 ≤ r.2.2.2 := by decide
          exact this r (List.mem_of_getElem? hr)
        have e3 : xa_cv b0 ca v3 (xC z.toNat) = .ref (ca r.2.2.2) := by
          show (if z.toNat = 0 then Value.null else if z.toNat = 3 then v3 else .ref (ca z.toNat)) = _
          rw [← g3]
          rw [if_neg (by omega), if_neg (by omega)]
          rfl
        have e4 := kk _ H locs cells slots lr hnx hL hR hS hc hs
        rw [List.map_cons, e3] at e4
        exact va_ldcS hx hb hown hZ hdg e4
      · cases k4
  · cases ho
theorem xa_s_ldc_w (C : xa_Cx G S mi X b0 ca v3 D cI cQ p R s m args meth c) {en : xa_E} {i i1 : Nat} {ls ls1 st st1 : List xa_V} {h h1 : xa_H} {pl : List Nat} {k : Nat} (hins : en.2.1 = .ldc_w k) (hf : (G.1 mi)[i]? = some en) (hok : xa_ok G S mi i en pl = true) (ho : xa_one1 X en i ls st h = some (.inl (i1, ls1, st1, h1))) (hm : h1.length ≤ h'.length ∧ xa_sl h1 ≤ xa_sl h') (kk : xa_WW G mi b0 ca v3 D cI cQ p l e R s m args below meth c Q h' i1 ls1 st1 h1) : xa_WW G mi b0 ca v3 D cI cQ p l e R s m args below meth c Q h' i ls st h := by
  obtain ⟨pb, ins, ln, x⟩ := en
  dsimp only at hins
  subst hins
  intro pc H locs cells slots lr hat hL hR hS hc hs
  obtain ⟨hx, hb, hml, hown, hts, hF, h3, hb0, hnm, hfr, hlo⟩ := C
  simp only [xa_ok, Bool.and_eq_true] at hok
  obtain ⟨k1, k2, k3, k4⟩ := hok
  have hpc : pb = pc := xa_at_of hf hat
  subst hpc
  have hdg := xa_dec_of k1
  have hln : ln = 3 := by simpa [xa_lenOK, xa_len] using k2
  subst hln
  have hnx : xa_at G mi (i + 1) (pb + 3) = true := by simpa [xa_through] using k3
  dsimp only [xa_one1] at ho
  dsimp only at hdg
  unfold xa_ldc at ho
  split at ho
  · next z =>
    cases ho
    match pl, k4 with
    | [q], k4 => exact lv_ldcw hx hb hown (hts _ (xa_in_tb (by simpa [xa_extra] using k4))) hdg (kk _ H locs cells slots lr hnx hL hR hS hc hs)
  · next z =>
    cases ho
    simp [xa_extra] at k4
  · cases ho
theorem xa_s_ldc2_w (C : xa_Cx G S mi X b0 ca v3 D cI cQ p R s m args meth c) {en : xa_E} {i i1 : Nat} {ls ls1 st st1 : List xa_V} {h h1 : xa_H} {pl : List Nat} {k : Nat} (hins : en.2.1 = .ldc2_w k) (hf : (G.1 mi)[i]? = some en) (hok : xa_ok G S mi i en pl = true) (ho : xa_one1 X en i ls st h = some (.inl (i1, ls1, st1, h1))) (hm : h1.length ≤ h'.length ∧ xa_sl h1 ≤ xa_sl h') (kk : xa_WW G mi b0 ca v3 D cI cQ p l e R s m args below meth c Q h' i1 ls1 st1 h1) : xa_WW G mi b0 ca v3 D cI cQ p l e R s m args below meth c Q h' i ls st h := by
  obtain ⟨pb, ins, ln, x⟩ := en
  dsimp only at hins
  subst hins
  intro pc H locs cells slots lr hat hL hR hS hc hs
  obtain ⟨hx, hb, hml, hown, hts, hF, h3, hb0, hnm, hfr, hlo⟩ := C
  simp only [xa_ok, Bool.and_eq_true] at hok
  obtain ⟨k1, k2, k3, k4⟩ := hok
  have hpc : pb = pc := xa_at_of hf hat
  subst hpc
  have hdg := xa_dec_of k1
  have hln : ln = 3 := by simpa [xa_lenOK, xa_len] using k2
  subst hln
  have hnx : xa_at G mi (i + 1) (pb + 3) = true := by simpa [xa_through] using k3
  dsimp only [xa_one1] at ho
  dsimp only at hdg
  split at ho
  · next z =>
    cases ho
    match pl, k4 with
    | [q], k4 => exact lv_ldc2 hx hb hown (hts _ (xa_in_tb (by simpa [xa_extra] using k4))) hdg (kk _ H locs cells slots lr hnx hL hR hS hc hs)
  · cases ho
theorem xa_s_iadd (C : xa_Cx G S mi X b0 ca v3 D cI cQ p R s m args meth c) {en : xa_E} {i i1 : Nat} {ls ls1 st st1 : List xa_V} {h h1 : xa_H} {pl : List Nat}  (hins : en.2.1 = .iadd) (hf : (G.1 mi)[i]? = some en) (hok : xa_ok G S mi i en pl = true) (ho : xa_one1 X en i ls st h = some (.inl (i1, ls1, st1, h1))) (hm : h1.length ≤ h'.length ∧ xa_sl h1 ≤ xa_sl h') (kk : xa_WW G mi b0 ca v3 D cI cQ p l e R s m args below meth c Q h' i1 ls1 st1 h1) : xa_WW G mi b0 ca v3 D cI cQ p l e R s m args below meth c Q h' i ls st h := by
  obtain ⟨pb, ins, ln, x⟩ := en
  dsimp only at hins
  subst hins
  intro pc H locs cells slots lr hat hL hR hS hc hs
  obtain ⟨hx, hb, hml, hown, hts, hF, h3, hb0, hnm, hfr, hlo⟩ := C
  simp only [xa_ok, Bool.and_eq_true] at hok
  obtain ⟨k1, k2, k3, k4⟩ := hok
  have hpc : pb = pc := xa_at_of hf hat
  subst hpc
  have hdg := xa_dec_of k1
  have hln : ln = 1 := by simpa [xa_lenOK, xa_len] using k2
  subst hln
  have hnx : xa_at G mi (i + 1) (pb + 1) = true := by simpa [xa_through] using k3
  dsimp only [xa_one1] at ho
  dsimp only at hdg
  unfold xa_two at ho
  split at ho
  · next b a st0 =>
    cases ho
    have e4 := kk _ H locs cells slots lr hnx hL hR hS hc hs
    refine lv_iadd hx hb hdg ?_
    rw [xa_add]
    exact e4
  · cases ho
theorem xa_s_isub (C : xa_Cx G S mi X b0 ca v3 D cI cQ p R s m args meth c) {en : xa_E} {i i1 : Nat} {ls ls1 st st1 : List xa_V} {h h1 : xa_H} {pl : List Nat}  (hins : en.2.1 = .isub) (hf : (G.1 mi)[i]? = some en) (hok : xa_ok G S mi i en pl = true) (ho : xa_one1 X en i ls st h = some (.inl (i1, ls1, st1, h1))) (hm : h1.length ≤ h'.length ∧ xa_sl h1 ≤ xa_sl h') (kk : xa_WW G mi b0 ca v3 D cI cQ p l e R s m args below meth c Q h' i1 ls1 st1 h1) : xa_WW G mi b0 ca v3 D cI cQ p l e R s m args below meth c Q h' i ls st h := by
  obtain ⟨pb, ins, ln, x⟩ := en
  dsimp only at hins
  subst hins
  intro pc H locs cells slots lr hat hL hR hS hc hs
  obtain ⟨hx, hb, hml, hown, hts, hF, h3, hb0, hnm, hfr, hlo⟩ := C
  simp only [xa_ok, Bool.and_eq_true] at hok
  obtain ⟨k1, k2, k3, k4⟩ := hok
  have hpc : pb = pc := xa_at_of hf hat
  subst hpc
  have hdg := xa_dec_of k1
  have hln : ln = 1 := by simpa [xa_lenOK, xa_len] using k2
  subst hln
  have hnx : xa_at G mi (i + 1) (pb + 1) = true := by simpa [xa_through] using k3
  dsimp only [xa_one1] at ho
  dsimp only at hdg
  unfold xa_two at ho
  split at ho
  · next b a st0 =>
    cases ho
    have e4 := kk _ H locs cells slots lr hnx hL hR hS hc hs
    refine lv_isub hx hb hdg ?_
    rw [xa_sub]
    exact e4
  · cases ho
theorem xa_s_imul (C : xa_Cx G S mi X b0 ca v3 D cI cQ p R s m args meth c) {en : xa_E} {i i1 : Nat} {ls ls1 st st1 : List xa_V} {h h1 : xa_H} {pl : List Nat}  (hins : en.2.1 = .imul) (hf : (G.1 mi)[i]? = some en) (hok : xa_ok G S mi i en pl = true) (ho : xa_one1 X en i ls st h = some (.inl (i1, ls1, st1, h1))) (hm : h1.length ≤ h'.length ∧ xa_sl h1 ≤ xa_sl h') (kk : xa_WW G mi b0 ca v3 D cI cQ p l e R s m args below meth c Q h' i1 ls1 st1 h1) : xa_WW G mi b0 ca v3 D cI cQ p l e R s m args below meth c Q h' i ls st h := by
  obtain ⟨pb, ins, ln, x⟩ := en
  dsimp only at hins
  subst hins
  intro pc H locs cells slots lr hat hL hR hS hc hs
  obtain ⟨hx, hb, hml, hown, hts, hF, h3, hb0, hnm, hfr, hlo⟩ := C
  simp only [xa_ok, Bool.and_eq_true] at hok
  obtain ⟨k1, k2, k3, k4⟩ := hok
  have hpc : pb = pc := xa_at_of hf hat
  subst hpc
  have hdg := xa_dec_of k1
  have hln : ln = 1 := by simpa [xa_lenOK, xa_len] using k2
  subst hln
  have hnx : xa_at G mi (i + 1) (pb + 1) = true := by simpa [xa_through] using k3
  dsimp only [xa_one1] at ho
  dsimp only at hdg
  unfold xa_two at ho
  split at ho
  · next b a st0 =>
    cases ho
    have e4 := kk _ H locs cells slots lr hnx hL hR hS hc hs
    refine lv_imul hx hb hdg ?_
    rw [xa_mul]
    exact e4
  · cases ho
theorem xa_s_iand (C : xa_Cx G S mi X b0 ca v3 D cI cQ p R s m args meth c) {en : xa_E} {i i1 : Nat} {ls ls1 st st1 : List xa_V} {h h1 : xa_H} {pl : List Nat}  (hins : en.2.1 = .iand) (hf : (G.1 mi)[i]? = some en) (hok : xa_ok G S mi i en pl = true) (ho : xa_one1 X en i ls st h = some (.inl (i1, ls1, st1, h1))) (hm : h1.length ≤ h'.length ∧ xa_sl h1 ≤ xa_sl h') (kk : xa_WW G mi b0 ca v3 D cI cQ p l e R s m args below meth c Q h' i1 ls1 st1 h1) : xa_WW G mi b0 ca v3 D cI cQ p l e R s m args below meth c Q h' i ls st h := by
  obtain ⟨pb, ins, ln, x⟩ := en
  dsimp only at hins
  subst hins
  intro pc H locs cells slots lr hat hL hR hS hc hs
  obtain ⟨hx, hb, hml, hown, hts, hF, h3, hb0, hnm, hfr, hlo⟩ := C
  simp only [xa_ok, Bool.and_eq_true] at hok
  obtain ⟨k1, k2, k3, k4⟩ := hok
  have hpc : pb = pc := xa_at_of hf hat
  subst hpc
  have hdg := xa_dec_of k1
  have hln : ln = 1 := by simpa [xa_lenOK, xa_len] using k2
  subst hln
  have hnx : xa_at G mi (i + 1) (pb + 1) = true := by simpa [xa_through] using k3
  dsimp only [xa_one1] at ho
  dsimp only at hdg
  unfold xa_two at ho
  split at ho
  · next b a st0 =>
    cases ho
    have e4 := kk _ H locs cells slots lr hnx hL hR hS hc hs
    refine lv_iand hx hb hdg ?_
    rw [List.map_cons, show xa_cv b0 ca v3 (xI (xa_and a b)) = .int (Int32.ofInt (xa_and a b)) from rfl, show Int32.ofInt (xa_and a b) = _ from xa_asI _] at e4
    exact e4
  · cases ho
theorem xa_s_ior (C : xa_Cx G S mi X b0 ca v3 D cI cQ p R s m args meth c) {en : xa_E} {i i1 : Nat} {ls ls1 st st1 : List xa_V} {h h1 : xa_H} {pl : List Nat}  (hins : en.2.1 = .ior) (hf : (G.1 mi)[i]? = some en) (hok : xa_ok G S mi i en pl = true) (ho : xa_one1 X en i ls st h = some (.inl (i1, ls1, st1, h1))) (hm : h1.length ≤ h'.length ∧ xa_sl h1 ≤ xa_sl h') (kk : xa_WW G mi b0 ca v3 D cI cQ p l e R s m args below meth c Q h' i1 ls1 st1 h1) : xa_WW G mi b0 ca v3 D cI cQ p l e R s m args below meth c Q h' i ls st h := by
  obtain ⟨pb, ins, ln, x⟩ := en
  dsimp only at hins
  subst hins
  intro pc H locs cells slots lr hat hL hR hS hc hs
  obtain ⟨hx, hb, hml, hown, hts, hF, h3, hb0, hnm, hfr, hlo⟩ := C
  simp only [xa_ok, Bool.and_eq_true] at hok
  obtain ⟨k1, k2, k3, k4⟩ := hok
  have hpc : pb = pc := xa_at_of hf hat
  subst hpc
  have hdg := xa_dec_of k1
  have hln : ln = 1 := by simpa [xa_lenOK, xa_len] using k2
  subst hln
  have hnx : xa_at G mi (i + 1) (pb + 1) = true := by simpa [xa_through] using k3
  dsimp only [xa_one1] at ho
  dsimp only at hdg
  unfold xa_two at ho
  split at ho
  · next b a st0 =>
    cases ho
    have e4 := kk _ H locs cells slots lr hnx hL hR hS hc hs
    refine lv_ior hx hb hdg ?_
    rw [List.map_cons, show xa_cv b0 ca v3 (xI (xa_or a b)) = .int (Int32.ofInt (xa_or a b)) from rfl, show Int32.ofInt (xa_or a b) = _ from xa_asI _] at e4
    exact e4
  · cases ho
theorem xa_s_ixor (C : xa_Cx G S mi X b0 ca v3 D cI cQ p R s m args meth c) {en : xa_E} {i i1 : Nat} {ls ls1 st st1 : List xa_V} {h h1 : xa_H} {pl : List Nat}  (hins : en.2.1 = .ixor) (hf : (G.1 mi)[i]? = some en) (hok : xa_ok G S mi i en pl = true) (ho : xa_one1 X en i ls st h = some (.inl (i1, ls1, st1, h1))) (hm : h1.length ≤ h'.length ∧ xa_sl h1 ≤ xa_sl h') (kk : xa_WW G mi b0 ca v3 D cI cQ p l e R s m args below meth c Q h' i1 ls1 st1 h1) : xa_WW G mi b0 ca v3 D cI cQ p l e R s m args below meth c Q h' i ls st h := by
  obtain ⟨pb, ins, ln, x⟩ := en
  dsimp only at hins
  subst hins
  intro pc H locs cells slots lr hat hL hR hS hc hs
  obtain ⟨hx, hb, hml, hown, hts, hF, h3, hb0, hnm, hfr, hlo⟩ := C
  simp only [xa_ok, Bool.and_eq_true] at hok
  obtain ⟨k1, k2, k3, k4⟩ := hok
  have hpc : pb = pc := xa_at_of hf hat
  subst hpc
  have hdg := xa_dec_of k1
  have hln : ln = 1 := by simpa [xa_lenOK, xa_len] using k2
  subst hln
  have hnx : xa_at G mi (i + 1) (pb + 1) = true := by simpa [xa_through] using k3
  dsimp only [xa_one1] at ho
  dsimp only at hdg
  unfold xa_two at ho
  split at ho
  · next b a st0 =>
    cases ho
    have e4 := kk _ H locs cells slots lr hnx hL hR hS hc hs
    refine lv_ixor hx hb hdg ?_
    rw [List.map_cons, show xa_cv b0 ca v3 (xI (xa_xor a b)) = .int (Int32.ofInt (xa_xor a b)) from rfl, show Int32.ofInt (xa_xor a b) = _ from xa_asI _] at e4
    exact e4
  · cases ho
theorem xa_s_ishl (C : xa_Cx G S mi X b0 ca v3 D cI cQ p R s m args meth c) {en : xa_E} {i i1 : Nat} {ls ls1 st st1 : List xa_V} {h h1 : xa_H} {pl : List Nat}  (hins : en.2.1 = .ishl) (hf : (G.1 mi)[i]? = some en) (hok : xa_ok G S mi i en pl = true) (ho : xa_one1 X en i ls st h = some (.inl (i1, ls1, st1, h1))) (hm : h1.length ≤ h'.length ∧ xa_sl h1 ≤ xa_sl h') (kk : xa_WW G mi b0 ca v3 D cI cQ p l e R s m args below meth c Q h' i1 ls1 st1 h1) : xa_WW G mi b0 ca v3 D cI cQ p l e R s m args below meth c Q h' i ls st h := by
  obtain ⟨pb, ins, ln, x⟩ := en
  dsimp only at hins
  subst hins
  intro pc H locs cells slots lr hat hL hR hS hc hs
  obtain ⟨hx, hb, hml, hown, hts, hF, h3, hb0, hnm, hfr, hlo⟩ := C
  simp only [xa_ok, Bool.and_eq_true] at hok
  obtain ⟨k1, k2, k3, k4⟩ := hok
  have hpc : pb = pc := xa_at_of hf hat
  subst hpc
  have hdg := xa_dec_of k1
  have hln : ln = 1 := by simpa [xa_lenOK, xa_len] using k2
  subst hln
  have hnx : xa_at G mi (i + 1) (pb + 1) = true := by simpa [xa_through] using k3
  dsimp only [xa_one1] at ho
  dsimp only at hdg
  unfold xa_two at ho
  split at ho
  · next b a st0 =>
    cases ho
    have e4 := kk _ H locs cells slots lr hnx hL hR hS hc hs
    refine lv_ishl hx hb hdg ?_
    rw [List.map_cons, show xa_cv b0 ca v3 (xI (xa_shl a b)) = .int (Int32.ofInt (xa_shl a b)) from rfl, show Int32.ofInt (xa_shl a b) = _ from xa_asI _] at e4
    exact e4
  · cases ho
theorem xa_s_ishr (C : xa_Cx G S mi X b0 ca v3 D cI cQ p R s m args meth c) {en : xa_E} {i i1 : Nat} {ls ls1 st st1 : List xa_V} {h h1 : xa_H} {pl : List Nat}  (hins : en.2.1 = .ishr) (hf : (G.1 mi)[i]? = some en) (hok : xa_ok G S mi i en pl = true) (ho : xa_one1 X en i ls st h = some (.inl (i1, ls1, st1, h1))) (hm : h1.length ≤ h'.length ∧ xa_sl h1 ≤ xa_sl h') (kk : xa_WW G mi b0 ca v3 D cI cQ p l e R s m args below meth c Q h' i1 ls1 st1 h1) : xa_WW G mi b0 ca v3 D cI cQ p l e R s m args below meth c Q h' i ls st h := by
  obtain ⟨pb, ins, ln, x⟩ := en
  dsimp only at hins
  subst hins
  intro pc H locs cells slots lr hat hL hR hS hc hs
  obtain ⟨hx, hb, hml, hown, hts, hF, h3, hb0, hnm, hfr, hlo⟩ := C
  simp only [xa_ok, Bool.and_eq_true] at hok
  obtain ⟨k1, k2, k3, k4⟩ := hok
  have hpc : pb = pc := xa_at_of hf hat
  subst hpc
  have hdg := xa_dec_of k1
  have hln : ln = 1 := by simpa [xa_lenOK, xa_len] using k2
  subst hln
  have hnx : xa_at G mi (i + 1) (pb + 1) = true := by simpa [xa_through] using k3
  dsimp only [xa_one1] at ho
  dsimp only at hdg
  unfold xa_two at ho
  split at ho
  · next b a st0 =>
    cases ho
    have e4 := kk _ H locs cells slots lr hnx hL hR hS hc hs
    refine lv_ishr hx hb hdg ?_
    rw [List.map_cons, show xa_cv b0 ca v3 (xI (xa_shr a b)) = .int (Int32.ofInt (xa_shr a b)) from rfl, show Int32.ofInt (xa_shr a b) = _ from xa_asI _] at e4
    exact e4
  · cases ho
theorem xa_s_iushr (C : xa_Cx G S mi X b0 ca v3 D cI cQ p R s m args meth c) {en : xa_E} {i i1 : Nat} {ls ls1 st st1 : List xa_V} {h h1 : xa_H} {pl : List Nat}  (hins : en.2.1 = .iushr) (hf : (G.1 mi)[i]? = some en) (hok : xa_ok G S mi i en pl = true) (ho : xa_one1 X en i ls st h = some (.inl (i1, ls1, st1, h1))) (hm : h1.length ≤ h'.length ∧ xa_sl h1 ≤ xa_sl h') (kk : xa_WW G mi b0 ca v3 D cI cQ p l e R s m args below meth c Q h' i1 ls1 st1 h1) : xa_WW G mi b0 ca v3 D cI cQ p l e R s m args below meth c Q h' i ls st h := by
  obtain ⟨pb, ins, ln, x⟩ := en
  dsimp only at hins
  subst hins
  intro pc H locs cells slots lr hat hL hR hS hc hs
  obtain ⟨hx, hb, hml, hown, hts, hF, h3, hb0, hnm, hfr, hlo⟩ := C
  simp only [xa_ok, Bool.and_eq_true] at hok
  obtain ⟨k1, k2, k3, k4⟩ := hok
  have hpc : pb = pc := xa_at_of hf hat
  subst hpc
  have hdg := xa_dec_of k1
  have hln : ln = 1 := by simpa [xa_lenOK, xa_len] using k2
  subst hln
  have hnx : xa_at G mi (i + 1) (pb + 1) = true := by simpa [xa_through] using k3
  dsimp only [xa_one1] at ho
  dsimp only at hdg
  unfold xa_two at ho
  split at ho
  · next b a st0 =>
    cases ho
    have e4 := kk _ H locs cells slots lr hnx hL hR hS hc hs
    refine lv_iushr hx hb hdg rfl ?_
    rw [List.map_cons, show xa_cv b0 ca v3 (xI (xa_ushr a b)) = .int (Int32.ofInt (xa_ushr a b)) from rfl, show Int32.ofInt (xa_ushr a b) = _ from xa_asI _] at e4
    exact e4
  · cases ho
theorem xa_s_ladd (C : xa_Cx G S mi X b0 ca v3 D cI cQ p R s m args meth c) {en : xa_E} {i i1 : Nat} {ls ls1 st st1 : List xa_V} {h h1 : xa_H} {pl : List Nat}  (hins : en.2.1 = .ladd) (hf : (G.1 mi)[i]? = some en) (hok : xa_ok G S mi i en pl = true) (ho : xa_one1 X en i ls st h = some (.inl (i1, ls1, st1, h1))) (hm : h1.length ≤ h'.length ∧ xa_sl h1 ≤ xa_sl h') (kk : xa_WW G mi b0 ca v3 D cI cQ p l e R s m args below meth c Q h' i1 ls1 st1 h1) : xa_WW G mi b0 ca v3 D cI cQ p l e R s m args below meth c Q h' i ls st h := by
  obtain ⟨pb, ins, ln, x⟩ := en
  dsimp only at hins
  subst hins
  intro pc H locs cells slots lr hat hL hR hS hc hs
  obtain ⟨hx, hb, hml, hown, hts, hF, h3, hb0, hnm, hfr, hlo⟩ := C
  simp only [xa_ok, Bool.and_eq_true] at hok
  obtain ⟨k1, k2, k3, k4⟩ := hok
  have hpc : pb = pc := xa_at_of hf hat
  subst hpc
  have hdg := xa_dec_of k1
  have hln : ln = 1 := by simpa [xa_lenOK, xa_len] using k2
  subst hln
  have hnx : xa_at G mi (i + 1) (pb + 1) = true := by simpa [xa_through] using k3
  dsimp only [xa_one1] at ho
  dsimp only at hdg
  unfold xa_two64 at ho
  split at ho
  · next b a st0 =>
    cases ho
    have e4 := kk _ H locs cells slots lr hnx hL hR hS hc hs
    refine lv_ladd hx hb hdg ?_
    rw [xa_addL]
    exact e4
  · cases ho
theorem xa_s_lmul (C : xa_Cx G S mi X b0 ca v3 D cI cQ p R s m args meth c) {en : xa_E} {i i1 : Nat} {ls ls1 st st1 : List xa_V} {h h1 : xa_H} {pl : List Nat}  (hins : en.2.1 = .lmul) (hf : (G.1 mi)[i]? = some en) (hok : xa_ok G S mi i en pl = true) (ho : xa_one1 X en i ls st h = some (.inl (i1, ls1, st1, h1))) (hm : h1.length ≤ h'.length ∧ xa_sl h1 ≤ xa_sl h') (kk : xa_WW G mi b0 ca v3 D cI cQ p l e R s m args below meth c Q h' i1 ls1 st1 h1) : xa_WW G mi b0 ca v3 D cI cQ p l e R s m args below meth c Q h' i ls st h := by
  obtain ⟨pb, ins, ln, x⟩ := en
  dsimp only at hins
  subst hins
  intro pc H locs cells slots lr hat hL hR hS hc hs
  obtain ⟨hx, hb, hml, hown, hts, hF, h3, hb0, hnm, hfr, hlo⟩ := C
  simp only [xa_ok, Bool.and_eq_true] at hok
  obtain ⟨k1, k2, k3, k4⟩ := hok
  have hpc : pb = pc := xa_at_of hf hat
  subst hpc
  have hdg := xa_dec_of k1
  have hln : ln = 1 := by simpa [xa_lenOK, xa_len] using k2
  subst hln
  have hnx : xa_at G mi (i + 1) (pb + 1) = true := by simpa [xa_through] using k3
  dsimp only [xa_one1] at ho
  dsimp only at hdg
  unfold xa_two64 at ho
  split at ho
  · next b a st0 =>
    cases ho
    have e4 := kk _ H locs cells slots lr hnx hL hR hS hc hs
    refine lv_lmul hx hb hdg ?_
    rw [xa_mulL]
    exact e4
  · cases ho
theorem xa_s_idiv (C : xa_Cx G S mi X b0 ca v3 D cI cQ p R s m args meth c) {en : xa_E} {i i1 : Nat} {ls ls1 st st1 : List xa_V} {h h1 : xa_H} {pl : List Nat}  (hins : en.2.1 = .idiv) (hf : (G.1 mi)[i]? = some en) (hok : xa_ok G S mi i en pl = true) (ho : xa_one1 X en i ls st h = some (.inl (i1, ls1, st1, h1))) (hm : h1.length ≤ h'.length ∧ xa_sl h1 ≤ xa_sl h') (kk : xa_WW G mi b0 ca v3 D cI cQ p l e R s m args below meth c Q h' i1 ls1 st1 h1) : xa_WW G mi b0 ca v3 D cI cQ p l e R s m args below meth c Q h' i ls st h := by
  obtain ⟨pb, ins, ln, x⟩ := en
  dsimp only at hins
  subst hins
  intro pc H locs cells slots lr hat hL hR hS hc hs
  obtain ⟨hx, hb, hml, hown, hts, hF, h3, hb0, hnm, hfr, hlo⟩ := C
  simp only [xa_ok, Bool.and_eq_true] at hok
  obtain ⟨k1, k2, k3, k4⟩ := hok
  have hpc : pb = pc := xa_at_of hf hat
  subst hpc
  have hdg := xa_dec_of k1
  have hln : ln = 1 := by simpa [xa_lenOK, xa_len] using k2
  subst hln
  have hnx : xa_at G mi (i + 1) (pb + 1) = true := by simpa [xa_through] using k3
  dsimp only [xa_one1] at ho
  dsimp only at hdg
  unfold xa_div at ho
  split at ho
  · next b a st0 =>
    split at ho
    · next hq =>
      cases ho
      obtain ⟨ha, hb2, hne⟩ := hq
      have e4 := kk _ H locs cells slots lr hnx hL hR hS hc hs
      refine lv_idiv hx hb hdg (fun q => hne ((xa_ieq hb2 xa_r0).mp q)) ?_
      rw [xa_idiv ha hb2]
      exact e4
    · cases ho
  · cases ho
theorem xa_s_irem (C : xa_Cx G S mi X b0 ca v3 D cI cQ p R s m args meth c) {en : xa_E} {i i1 : Nat} {ls ls1 st st1 : List xa_V} {h h1 : xa_H} {pl : List Nat}  (hins : en.2.1 = .irem) (hf : (G.1 mi)[i]? = some en) (hok : xa_ok G S mi i en pl = true) (ho : xa_one1 X en i ls st h = some (.inl (i1, ls1, st1, h1))) (hm : h1.length ≤ h'.length ∧ xa_sl h1 ≤ xa_sl h') (kk : xa_WW G mi b0 ca v3 D cI cQ p l e R s m args below meth c Q h' i1 ls1 st1 h1) : xa_WW G mi b0 ca v3 D cI cQ p l e R s m args below meth c Q h' i ls st h := by
  obtain ⟨pb, ins, ln, x⟩ := en
  dsimp only at hins
  subst hins
  intro pc H locs cells slots lr hat hL hR hS hc hs
  obtain ⟨hx, hb, hml, hown, hts, hF, h3, hb0, hnm, hfr, hlo⟩ := C
  simp only [xa_ok, Bool.and_eq_true] at hok
  obtain ⟨k1, k2, k3, k4⟩ := hok
  have hpc : pb = pc := xa_at_of hf hat
  subst hpc
  have hdg := xa_dec_of k1
  have hln : ln = 1 := by simpa [xa_lenOK, xa_len] using k2
  subst hln
  have hnx : xa_at G mi (i + 1) (pb + 1) = true := by simpa [xa_through] using k3
  dsimp only [xa_one1] at ho
  dsimp only at hdg
  unfold xa_div at ho
  split at ho
  · next b a st0 =>
    split at ho
    · next hq =>
      cases ho
      obtain ⟨ha, hb2, hne⟩ := hq
      have e4 := kk _ H locs cells slots lr hnx hL hR hS hc hs
      refine lv_irem hx hb hdg (fun q => hne ((xa_ieq hb2 xa_r0).mp q)) ?_
      rw [xa_irem ha hb2]
      exact e4
    · cases ho
  · cases ho
theorem xa_s_i2b (C : xa_Cx G S mi X b0 ca v3 D cI cQ p R s m args meth c) {en : xa_E} {i i1 : Nat} {ls ls1 st st1 : List xa_V} {h h1 : xa_H} {pl : List Nat}  (hins : en.2.1 = .i2b) (hf : (G.1 mi)[i]? = some en) (hok : xa_ok G S mi i en pl = true) (ho : xa_one1 X en i ls st h = some (.inl (i1, ls1, st1, h1))) (hm : h1.length ≤ h'.length ∧ xa_sl h1 ≤ xa_sl h') (kk : xa_WW G mi b0 ca v3 D cI cQ p l e R s m args below meth c Q h' i1 ls1 st1 h1) : xa_WW G mi b0 ca v3 D cI cQ p l e R s m args below meth c Q h' i ls st h := by
  obtain ⟨pb, ins, ln, x⟩ := en
  dsimp only at hins
  subst hins
  intro pc H locs cells slots lr hat hL hR hS hc hs
  obtain ⟨hx, hb, hml, hown, hts, hF, h3, hb0, hnm, hfr, hlo⟩ := C
  simp only [xa_ok, Bool.and_eq_true] at hok
  obtain ⟨k1, k2, k3, k4⟩ := hok
  have hpc : pb = pc := xa_at_of hf hat
  subst hpc
  have hdg := xa_dec_of k1
  have hln : ln = 1 := by simpa [xa_lenOK, xa_len] using k2
  subst hln
  have hnx : xa_at G mi (i + 1) (pb + 1) = true := by simpa [xa_through] using k3
  dsimp only [xa_one1] at ho
  dsimp only at hdg
  unfold xa_one at ho
  split at ho
  · next a st0 =>
    cases ho
    have e4 := kk _ H locs cells slots lr hnx hL hR hS hc hs
    rw [List.map_cons, show xa_cv b0 ca v3 (xI (xa_i2b a)) = .int (Int32.ofInt (xa_i2b a)) from rfl, show Int32.ofInt (xa_i2b a) = _ from xa_asI _] at e4
    exact lv_i2b hx hb hdg rfl e4
  · cases ho
theorem xa_s_i2s (C : xa_Cx G S mi X b0 ca v3 D cI cQ p R s m args meth c) {en : xa_E} {i i1 : Nat} {ls ls1 st st1 : List xa_V} {h h1 : xa_H} {pl : List Nat}  (hins : en.2.1 = .i2s) (hf : (G.1 mi)[i]? = some en) (hok : xa_ok G S mi i en pl = true) (ho : xa_one1 X en i ls st h = some (.inl (i1, ls1, st1, h1))) (hm : h1.length ≤ h'.length ∧ xa_sl h1 ≤ xa_sl h') (kk : xa_WW G mi b0 ca v3 D cI cQ p l e R s m args below meth c Q h' i1 ls1 st1 h1) : xa_WW G mi b0 ca v3 D cI cQ p l e R s m args below meth c Q h' i ls st h := by
  obtain ⟨pb, ins, ln, x⟩ := en
  dsimp only at hins
  subst hins
  intro pc H locs cells slots lr hat hL hR hS hc hs
  obtain ⟨hx, hb, hml, hown, hts, hF, h3, hb0, hnm, hfr, hlo⟩ := C
  simp only [xa_ok, Bool.and_eq_true] at hok
  obtain ⟨k1, k2, k3, k4⟩ := hok
  have hpc : pb = pc := xa_at_of hf hat
  subst hpc
  have hdg := xa_dec_of k1
  have hln : ln = 1 := by simpa [xa_lenOK, xa_len] using k2
  subst hln
  have hnx : xa_at G mi (i + 1) (pb + 1) = true := by simpa [xa_through] using k3
  dsimp only [xa_one1] at ho
  dsimp only at hdg
  unfold xa_one at ho
  split at ho
  · next a st0 =>
    cases ho
    have e4 := kk _ H locs cells slots lr hnx hL hR hS hc hs
    rw [List.map_cons, show xa_cv b0 ca v3 (xI (xa_i2s a)) = .int (Int32.ofInt (xa_i2s a)) from rfl, show Int32.ofInt (xa_i2s a) = _ from xa_asI _] at e4
    exact lv_i2s hx hb hdg rfl e4
  · cases ho
theorem xa_s_i2c (C : xa_Cx G S mi X b0 ca v3 D cI cQ p R s m args meth c) {en : xa_E} {i i1 : Nat} {ls ls1 st st1 : List xa_V} {h h1 : xa_H} {pl : List Nat}  (hins : en.2.1 = .i2c) (hf : (G.1 mi)[i]? = some en) (hok : xa_ok G S mi i en pl = true) (ho : xa_one1 X en i ls st h = some (.inl (i1, ls1, st1, h1))) (hm : h1.length ≤ h'.length ∧ xa_sl h1 ≤ xa_sl h') (kk : xa_WW G mi b0 ca v3 D cI cQ p l e R s m args below meth c Q h' i1 ls1 st1 h1) : xa_WW G mi b0 ca v3 D cI cQ p l e R s m args below meth c Q h' i ls st h := by
  obtain ⟨pb, ins, ln, x⟩ := en
  dsimp only at hins
  subst hins
  intro pc H locs cells slots lr hat hL hR hS hc hs
  obtain ⟨hx, hb, hml, hown, hts, hF, h3, hb0, hnm, hfr, hlo⟩ := C
  simp only [xa_ok, Bool.and_eq_true] at hok
  obtain ⟨k1, k2, k3, k4⟩ := hok
  have hpc : pb = pc := xa_at_of hf hat
  subst hpc
  have hdg := xa_dec_of k1
  have hln : ln = 1 := by simpa [xa_lenOK, xa_len] using k2
  subst hln
  have hnx : xa_at G mi (i + 1) (pb + 1) = true := by simpa [xa_through] using k3
  dsimp only [xa_one1] at ho
  dsimp only at hdg
  split at ho
  · next a st0 =>
    split at ho
    · next hq =>
      cases ho
      have e4 := kk _ H locs cells slots lr hnx hL hR hS hc hs
      refine lv_i2c hx hb hdg ?_ e4
      obtain ⟨n, rfl⟩ := Int.eq_ofNat_of_zero_le hq.1
      have hn : n < 65536 := by omega
      have e5 : Int32.ofInt (n : Int) = nI n := rfl
      rw [e5, pk_char, pk_tn (by omega), Nat.mod_eq_of_lt hn]
    · cases ho
  · cases ho
theorem xa_s_i2l (C : xa_Cx G S mi X b0 ca v3 D cI cQ p R s m args meth c) {en : xa_E} {i i1 : Nat} {ls ls1 st st1 : List xa_V} {h h1 : xa_H} {pl : List Nat}  (hins : en.2.1 = .i2l) (hf : (G.1 mi)[i]? = some en) (hok : xa_ok G S mi i en pl = true) (ho : xa_one1 X en i ls st h = some (.inl (i1, ls1, st1, h1))) (hm : h1.length ≤ h'.length ∧ xa_sl h1 ≤ xa_sl h') (kk : xa_WW G mi b0 ca v3 D cI cQ p l e R s m args below meth c Q h' i1 ls1 st1 h1) : xa_WW G mi b0 ca v3 D cI cQ p l e R s m args below meth c Q h' i ls st h := by
  obtain ⟨pb, ins, ln, x⟩ := en
  dsimp only at hins
  subst hins
  intro pc H locs cells slots lr hat hL hR hS hc hs
  obtain ⟨hx, hb, hml, hown, hts, hF, h3, hb0, hnm, hfr, hlo⟩ := C
  simp only [xa_ok, Bool.and_eq_true] at hok
  obtain ⟨k1, k2, k3, k4⟩ := hok
  have hpc : pb = pc := xa_at_of hf hat
  subst hpc
  have hdg := xa_dec_of k1
  have hln : ln = 1 := by simpa [xa_lenOK, xa_len] using k2
  subst hln
  have hnx : xa_at G mi (i + 1) (pb + 1) = true := by simpa [xa_through] using k3
  dsimp only [xa_one1] at ho
  dsimp only at hdg
  split at ho
  · next a st0 =>
    split at ho
    · next hq =>
      cases ho
      have e4 := kk _ H locs cells slots lr hnx hL hR hS hc hs
      refine lv_i2l hx hb hdg ?_ e4
      rw [← Int64.toInt_inj, Int32.toInt_toInt64, xa_toI hq, xa_toL ⟨by omega, by omega⟩]
    · cases ho
  · cases ho
theorem xa_s_l2i (C : xa_Cx G S mi X b0 ca v3 D cI cQ p R s m args meth c) {en : xa_E} {i i1 : Nat} {ls ls1 st st1 : List xa_V} {h h1 : xa_H} {pl : List Nat}  (hins : en.2.1 = .l2i) (hf : (G.1 mi)[i]? = some en) (hok : xa_ok G S mi i en pl = true) (ho : xa_one1 X en i ls st h = some (.inl (i1, ls1, st1, h1))) (hm : h1.length ≤ h'.length ∧ xa_sl h1 ≤ xa_sl h') (kk : xa_WW G mi b0 ca v3 D cI cQ p l e R s m args below meth c Q h' i1 ls1 st1 h1) : xa_WW G mi b0 ca v3 D cI cQ p l e R s m args below meth c Q h' i ls st h := by
  obtain ⟨pb, ins, ln, x⟩ := en
  dsimp only at hins
  subst hins
  intro pc H locs cells slots lr hat hL hR hS hc hs
  obtain ⟨hx, hb, hml, hown, hts, hF, h3, hb0, hnm, hfr, hlo⟩ := C
  simp only [xa_ok, Bool.and_eq_true] at hok
  obtain ⟨k1, k2, k3, k4⟩ := hok
  have hpc : pb = pc := xa_at_of hf hat
  subst hpc
  have hdg := xa_dec_of k1
  have hln : ln = 1 := by simpa [xa_lenOK, xa_len] using k2
  subst hln
  have hnx : xa_at G mi (i + 1) (pb + 1) = true := by simpa [xa_through] using k3
  dsimp only [xa_one1] at ho
  dsimp only at hdg
  split at ho
  · next a st0 =>
    cases ho
    have e4 := kk _ H locs cells slots lr hnx hL hR hS hc hs
    refine lv_l2i hx hb hdg ?_ e4
    rw [← Int32.toInt_inj, Int64.toInt_toInt32, Int64.toInt_ofInt, Int32.toInt_ofInt]
    exact Int.bmod_bmod_of_dvd (by decide)
  · cases ho
theorem xa_s_lcmp (C : xa_Cx G S mi X b0 ca v3 D cI cQ p R s m args meth c) {en : xa_E} {i i1 : Nat} {ls ls1 st st1 : List xa_V} {h h1 : xa_H} {pl : List Nat}  (hins : en.2.1 = .lcmp) (hf : (G.1 mi)[i]? = some en) (hok : xa_ok G S mi i en pl = true) (ho : xa_one1 X en i ls st h = some (.inl (i1, ls1, st1, h1))) (hm : h1.length ≤ h'.length ∧ xa_sl h1 ≤ xa_sl h') (kk : xa_WW G mi b0 ca v3 D cI cQ p l e R s m args below meth c Q h' i1 ls1 st1 h1) : xa_WW G mi b0 ca v3 D cI cQ p l e R s m args below meth c Q h' i ls st h := by
  obtain ⟨pb, ins, ln, x⟩ := en
  dsimp only at hins
  subst hins
  intro pc H locs cells slots lr hat hL hR hS hc hs
  obtain ⟨hx, hb, hml, hown, hts, hF, h3, hb0, hnm, hfr, hlo⟩ := C
  simp only [xa_ok, Bool.and_eq_true] at hok
  obtain ⟨k1, k2, k3, k4⟩ := hok
  have hpc : pb = pc := xa_at_of hf hat
  subst hpc
  have hdg := xa_dec_of k1
  have hln : ln = 1 := by simpa [xa_lenOK, xa_len] using k2
  subst hln
  have hnx : xa_at G mi (i + 1) (pb + 1) = true := by simpa [xa_through] using k3
  dsimp only [xa_one1] at ho
  dsimp only at hdg
  unfold xa_lcmp at ho
  split at ho
  · next b a st0 =>
    cases ho
    have e4 := kk _ H locs cells slots lr hnx hL hR hS hc hs
    refine W.lcmp hx hb hdg ?_
    have e5 : lg_cmp (Int64.ofInt a) (Int64.ofInt b) = Int32.ofInt (if xa_wl a < xa_wl b then -1 else if xa_wl a = xa_wl b then 0 else 1) := by
      have l1 : Int64.ofInt b < Int64.ofInt a ↔ xa_wl b < xa_wl a := Int64.lt_iff_toInt_lt
      have l2 : Int64.ofInt a = Int64.ofInt b ↔ xa_wl a = xa_wl b := Int64.toInt_inj.symm
      unfold lg_cmp
      by_cases q1 : xa_wl a < xa_wl b
      · rw [if_pos q1, if_neg (fun z => by have := l1.mp z; omega), if_neg (fun z => by have := l2.mp z; omega)]
        rfl
      · by_cases q2 : xa_wl a = xa_wl b
        · rw [if_neg q1, if_pos q2, if_neg (fun z => by have := l1.mp z; omega), if_pos (l2.mpr q2)]
          rfl
        · rw [if_neg q1, if_neg q2, if_pos (l1.mpr (by omega))]
          rfl
    rw [e5]
    exact e4
  · cases ho
theorem xa_s_iinc (C : xa_Cx G S mi X b0 ca v3 D cI cQ p R s m args meth c) {en : xa_E} {i i1 : Nat} {ls ls1 st st1 : List xa_V} {h h1 : xa_H} {pl : List Nat} {k : Nat} {n : Int} (hins : en.2.1 = .iinc k n) (hf : (G.1 mi)[i]? = some en) (hok : xa_ok G S mi i en pl = true) (ho : xa_one1 X en i ls st h = some (.inl (i1, ls1, st1, h1))) (hm : h1.length ≤ h'.length ∧ xa_sl h1 ≤ xa_sl h') (kk : xa_WW G mi b0 ca v3 D cI cQ p l e R s m args below meth c Q h' i1 ls1 st1 h1) : xa_WW G mi b0 ca v3 D cI cQ p l e R s m args below meth c Q h' i ls st h := by
  obtain ⟨pb, ins, ln, x⟩ := en
  dsimp only at hins
  subst hins
  intro pc H locs cells slots lr hat hL hR hS hc hs
  obtain ⟨hx, hb, hml, hown, hts, hF, h3, hb0, hnm, hfr, hlo⟩ := C
  simp only [xa_ok, Bool.and_eq_true] at hok
  obtain ⟨k1, k2, k3, k4⟩ := hok
  have hpc : pb = pc := xa_at_of hf hat
  subst hpc
  have hdg := xa_dec_of k1
  have hln : ln = 3 := by simpa [xa_lenOK, xa_len] using k2
  subst hln
  have hnx : xa_at G mi (i + 1) (pb + 3) = true := by simpa [xa_through] using k3
  dsimp only [xa_one1] at ho
  dsimp only at hdg
  split at ho
  · next z e1 =>
    cases ho
    have hk2 := hL.2.2.1
    have hk : k < ls.length := (List.getElem?_eq_some_iff.mp e1).1
    have hp := xa_pairs_in (b0 := b0) (ca := ca) (v3 := v3) e1 (by simp)
    obtain ⟨j, hj⟩ := List.getElem?_of_mem hp
    exact lv_iinc hx hb hdg (xa_lr_has hL) (k := j) hj (xa_add z n) (by omega) rfl (fun lr' hl' => kk _ H locs cells slots lr' hnx (xa_lr_set1 (v := xI (z + n)) h3 hk2 (by omega) hl') hR hS hc hs)
  · cases ho
theorem xa_s_dup (C : xa_Cx G S mi X b0 ca v3 D cI cQ p R s m args meth c) {en : xa_E} {i i1 : Nat} {ls ls1 st st1 : List xa_V} {h h1 : xa_H} {pl : List Nat}  (hins : en.2.1 = .dup) (hf : (G.1 mi)[i]? = some en) (hok : xa_ok G S mi i en pl = true) (ho : xa_one1 X en i ls st h = some (.inl (i1, ls1, st1, h1))) (hm : h1.length ≤ h'.length ∧ xa_sl h1 ≤ xa_sl h') (kk : xa_WW G mi b0 ca v3 D cI cQ p l e R s m args below meth c Q h' i1 ls1 st1 h1) : xa_WW G mi b0 ca v3 D cI cQ p l e R s m args below meth c Q h' i ls st h := by
  obtain ⟨pb, ins, ln, x⟩ := en
  dsimp only at hins
  subst hins
  intro pc H locs cells slots lr hat hL hR hS hc hs
  obtain ⟨hx, hb, hml, hown, hts, hF, h3, hb0, hnm, hfr, hlo⟩ := C
  simp only [xa_ok, Bool.and_eq_true] at hok
  obtain ⟨k1, k2, k3, k4⟩ := hok
  have hpc : pb = pc := xa_at_of hf hat
  subst hpc
  have hdg := xa_dec_of k1
  have hln : ln = 1 := by simpa [xa_lenOK, xa_len] using k2
  subst hln
  have hnx : xa_at G mi (i + 1) (pb + 1) = true := by simpa [xa_through] using k3
  dsimp only [xa_one1] at ho
  dsimp only at hdg
  split at ho
  · next v st0 =>
    split at ho
    · next hv =>
      cases ho
      exact lv_dup hx hb hdg (by rw [xa_cv_cat h3]; exact hv) (kk _ H locs cells slots lr hnx hL hR hS hc hs)
    · cases ho
  · cases ho
theorem xa_s_dup2 (C : xa_Cx G S mi X b0 ca v3 D cI cQ p R s m args meth c) {en : xa_E} {i i1 : Nat} {ls ls1 st st1 : List xa_V} {h h1 : xa_H} {pl : List Nat}  (hins : en.2.1 = .dup2) (hf : (G.1 mi)[i]? = some en) (hok : xa_ok G S mi i en pl = true) (ho : xa_one1 X en i ls st h = some (.inl (i1, ls1, st1, h1))) (hm : h1.length ≤ h'.length ∧ xa_sl h1 ≤ xa_sl h') (kk : xa_WW G mi b0 ca v3 D cI cQ p l e R s m args below meth c Q h' i1 ls1 st1 h1) : xa_WW G mi b0 ca v3 D cI cQ p l e R s m args below meth c Q h' i ls st h := by
  obtain ⟨pb, ins, ln, x⟩ := en
  dsimp only at hins
  subst hins
  intro pc H locs cells slots lr hat hL hR hS hc hs
  obtain ⟨hx, hb, hml, hown, hts, hF, h3, hb0, hnm, hfr, hlo⟩ := C
  simp only [xa_ok, Bool.and_eq_true] at hok
  obtain ⟨k1, k2, k3, k4⟩ := hok
  have hpc : pb = pc := xa_at_of hf hat
  subst hpc
  have hdg := xa_dec_of k1
  have hln : ln = 1 := by simpa [xa_lenOK, xa_len] using k2
  subst hln
  have hnx : xa_at G mi (i + 1) (pb + 1) = true := by simpa [xa_through] using k3
  dsimp only [xa_one1] at ho
  dsimp only at hdg
  split at ho
  · next v w st0 =>
    split at ho
    · next hv =>
      cases ho
      exact lv_dup2_11 hx hb hdg (by rw [xa_cv_cat h3]; exact hv.1) (by rw [xa_cv_cat h3]; exact hv.2) (kk _ H locs cells slots lr hnx hL hR hS hc hs)
    · cases ho
  · cases ho
theorem xa_s_pop (C : xa_Cx G S mi X b0 ca v3 D cI cQ p R s m args meth c) {en : xa_E} {i i1 : Nat} {ls ls1 st st1 : List xa_V} {h h1 : xa_H} {pl : List Nat}  (hins : en.2.1 = .pop) (hf : (G.1 mi)[i]? = some en) (hok : xa_ok G S mi i en pl = true) (ho : xa_one1 X en i ls st h = some (.inl (i1, ls1, st1, h1))) (hm : h1.length ≤ h'.length ∧ xa_sl h1 ≤ xa_sl h') (kk : xa_WW G mi b0 ca v3 D cI cQ p l e R s m args below meth c Q h' i1 ls1 st1 h1) : xa_WW G mi b0 ca v3 D cI cQ p l e R s m args below meth c Q h' i ls st h := by
  obtain ⟨pb, ins, ln, x⟩ := en
  dsimp only at hins
  subst hins
  intro pc H locs cells slots lr hat hL hR hS hc hs
  obtain ⟨hx, hb, hml, hown, hts, hF, h3, hb0, hnm, hfr, hlo⟩ := C
  simp only [xa_ok, Bool.and_eq_true] at hok
  obtain ⟨k1, k2, k3, k4⟩ := hok
  have hpc : pb = pc := xa_at_of hf hat
  subst hpc
  have hdg := xa_dec_of k1
  have hln : ln = 1 := by simpa [xa_lenOK, xa_len] using k2
  subst hln
  have hnx : xa_at G mi (i + 1) (pb + 1) = true := by simpa [xa_through] using k3
  dsimp only [xa_one1] at ho
  dsimp only at hdg
  split at ho
  · next v st0 =>
    split at ho
    · next hv =>
      cases ho
      exact lv_pop hx hb hdg (by rw [xa_cv_cat h3]; exact hv) (kk _ H locs cells slots lr hnx hL hR hS hc hs)
    · cases ho
  · cases ho
theorem xa_s_goto (C : xa_Cx G S mi X b0 ca v3 D cI cQ p R s m args meth c) {en : xa_E} {i i1 : Nat} {ls ls1 st st1 : List xa_V} {h h1 : xa_H} {pl : List Nat} {off : Int} (hins : en.2.1 = .goto off) (hf : (G.1 mi)[i]? = some en) (hok : xa_ok G S mi i en pl = true) (ho : xa_one1 X en i ls st h = some (.inl (i1, ls1, st1, h1))) (hm : h1.length ≤ h'.length ∧ xa_sl h1 ≤ xa_sl h') (kk : xa_WW G mi b0 ca v3 D cI cQ p l e R s m args below meth c Q h' i1 ls1 st1 h1) : xa_WW G mi b0 ca v3 D cI cQ p l e R s m args below meth c Q h' i ls st h := by
  obtain ⟨pb, ins, ln, x⟩ := en
  dsimp only at hins
  subst hins
  intro pc H locs cells slots lr hat hL hR hS hc hs
  obtain ⟨hx, hb, hml, hown, hts, hF, h3, hb0, hnm, hfr, hlo⟩ := C
  simp only [xa_ok, Bool.and_eq_true] at hok
  obtain ⟨k1, k2, k3, k4⟩ := hok
  have hpc : pb = pc := xa_at_of hf hat
  subst hpc
  have hdg := xa_dec_of k1
  have hln : ln = 3 := by simpa [xa_lenOK, xa_len] using k2
  subst hln
  dsimp only [xa_one1] at ho
  dsimp only at hdg
  split at ho
  · next t =>
    cases ho
    match pl, k4 with
    | [], k4 =>
      obtain ⟨b, hb1, hb2⟩ := xa_jmp_of (show xa_jmp G mi pb t off = true from by simpa [xa_extra] using k4)
      exact lv_goto hx hb hdg hb1 (kk _ H locs cells slots lr hb2 hL hR hS hc hs)
  · cases ho
theorem xa_s_icmp (C : xa_Cx G S mi X b0 ca v3 D cI cQ p R s m args meth c) {en : xa_E} {i i1 : Nat} {ls ls1 st st1 : List xa_V} {h h1 : xa_H} {pl : List Nat} {cd : Jvm.ClassFile.Cond} {off : Int} (hins : en.2.1 = .if_icmp cd off) (hf : (G.1 mi)[i]? = some en) (hok : xa_ok G S mi i en pl = true) (ho : xa_one1 X en i ls st h = some (.inl (i1, ls1, st1, h1))) (hm : h1.length ≤ h'.length ∧ xa_sl h1 ≤ xa_sl h') (kk : xa_WW G mi b0 ca v3 D cI cQ p l e R s m args below meth c Q h' i1 ls1 st1 h1) : xa_WW G mi b0 ca v3 D cI cQ p l e R s m args below meth c Q h' i ls st h := by
  obtain ⟨pb, ins, ln, x⟩ := en
  dsimp only at hins
  subst hins
  intro pc H locs cells slots lr hat hL hR hS hc hs
  obtain ⟨hx, hb, hml, hown, hts, hF, h3, hb0, hnm, hfr, hlo⟩ := C
  simp only [xa_ok, Bool.and_eq_true] at hok
  obtain ⟨k1, k2, k3, k4⟩ := hok
  have hpc : pb = pc := xa_at_of hf hat
  subst hpc
  have hdg := xa_dec_of k1
  have hln : ln = 3 := by simpa [xa_lenOK, xa_len] using k2
  subst hln
  have hnx : xa_at G mi (i + 1) (pb + 3) = true := by simpa [xa_through] using k3
  dsimp only [xa_one1] at ho
  dsimp only at hdg
  unfold xa_if2 at ho
  split at ho
  · next b a st0 t =>
    rw [xa_cmpw_eq] at ho
    match pl, k4 with
    | [], k4 =>
      obtain ⟨tb, hb1, hbt⟩ := xa_jmp_of (show xa_jmp G mi pb t off = true from by simpa [xa_extra] using k4)
      have key : (xa_cmp cd (xa_w a) (xa_w b) = true → W p l e R s m args below meth c H locs cells slots Q (F0 m tb lr (st0.map (xa_cv b0 ca v3)))) ∧ (¬ xa_cmp cd (xa_w a) (xa_w b) = true → W p l e R s m args below meth c H locs cells slots Q (F0 m (pb + 3) lr (st0.map (xa_cv b0 ca v3)))) := by
        refine ⟨fun q => ?_, fun q => ?_⟩
        · rw [if_pos q] at ho
          cases ho
          exact kk _ H locs cells slots lr hbt hL hR hS hc hs
        · rw [if_neg q] at ho
          cases ho
          exact kk _ H locs cells slots lr hnx hL hR hS hc hs
      obtain ⟨kt, kf⟩ := key
      cases cd with
      | eq => exact lv_icmp_eq hx hb hdg hb1 (fun z => kt (decide_eq_true ((xa_weq a b).mp z))) (fun z => kf (fun q => z ((xa_weq a b).mpr (of_decide_eq_true q))))
      | ne => exact lv_icmp_ne hx hb hdg hb1 (fun z => kt (decide_eq_true (fun q => z ((xa_weq a b).mpr q)))) (fun z => kf (fun q => of_decide_eq_true q ((xa_weq a b).mp z)))
      | lt => exact lv_icmp_lt hx hb hdg hb1 (fun z => kt (decide_eq_true ((xa_wlt a b).mp z))) (fun z => kf (fun q => z ((xa_wlt a b).mpr (of_decide_eq_true q))))
      | ge => exact lv_icmp_ge hx hb hdg hb1 (fun z => kt (decide_eq_true ((xa_wle b a).mp z))) (fun z => kf (fun q => z ((xa_wle b a).mpr (of_decide_eq_true q))))
      | gt => exact lv_icmp_gt hx hb hdg hb1 (fun z => kt (decide_eq_true ((xa_wlt b a).mp z))) (fun z => kf (fun q => z ((xa_wlt b a).mpr (of_decide_eq_true q))))
      | le => exact lv_icmp_le hx hb hdg hb1 (fun z => kt (decide_eq_true ((xa_wle a b).mp z))) (fun z => kf (fun q => z ((xa_wle a b).mpr (of_decide_eq_true q))))
  · cases ho
theorem xa_s_ifc (C : xa_Cx G S mi X b0 ca v3 D cI cQ p R s m args meth c) {en : xa_E} {i i1 : Nat} {ls ls1 st st1 : List xa_V} {h h1 : xa_H} {pl : List Nat} {cd : Jvm.ClassFile.Cond} {off : Int} (hins : en.2.1 = .ifCond cd off) (hf : (G.1 mi)[i]? = some en) (hok : xa_ok G S mi i en pl = true) (ho : xa_one1 X en i ls st h = some (.inl (i1, ls1, st1, h1))) (hm : h1.length ≤ h'.length ∧ xa_sl h1 ≤ xa_sl h') (kk : xa_WW G mi b0 ca v3 D cI cQ p l e R s m args below meth c Q h' i1 ls1 st1 h1) : xa_WW G mi b0 ca v3 D cI cQ p l e R s m args below meth c Q h' i ls st h := by
  obtain ⟨pb, ins, ln, x⟩ := en
  dsimp only at hins
  subst hins
  intro pc H locs cells slots lr hat hL hR hS hc hs
  obtain ⟨hx, hb, hml, hown, hts, hF, h3, hb0, hnm, hfr, hlo⟩ := C
  simp only [xa_ok, Bool.and_eq_true] at hok
  obtain ⟨k1, k2, k3, k4⟩ := hok
  have hpc : pb = pc := xa_at_of hf hat
  subst hpc
  have hdg := xa_dec_of k1
  have hln : ln = 3 := by simpa [xa_lenOK, xa_len] using k2
  subst hln
  have hnx : xa_at G mi (i + 1) (pb + 3) = true := by simpa [xa_through] using k3
  dsimp only [xa_one1] at ho
  dsimp only at hdg
  unfold xa_if1 at ho
  split at ho
  · next a st0 t =>
    rw [xa_cmpw_eq] at ho
    match pl, k4 with
    | [], k4 =>
      obtain ⟨tb, hb1, hbt⟩ := xa_jmp_of (show xa_jmp G mi pb t off = true from by simpa [xa_extra] using k4)
      have key : (xa_cmp cd (xa_w a) (xa_w 0) = true → W p l e R s m args below meth c H locs cells slots Q (F0 m tb lr (st0.map (xa_cv b0 ca v3)))) ∧ (¬ xa_cmp cd (xa_w a) (xa_w 0) = true → W p l e R s m args below meth c H locs cells slots Q (F0 m (pb + 3) lr (st0.map (xa_cv b0 ca v3)))) := by
        refine ⟨fun q => ?_, fun q => ?_⟩
        · rw [if_pos q] at ho
          cases ho
          exact kk _ H locs cells slots lr hbt hL hR hS hc hs
        · rw [if_neg q] at ho
          cases ho
          exact kk _ H locs cells slots lr hnx hL hR hS hc hs
      obtain ⟨kt, kf⟩ := key
      cases cd with
      | eq => exact lv_if_eq hx hb hdg hb1 (fun z => kt (decide_eq_true ((xa_weq a 0).mp z))) (fun z => kf (fun q => z ((xa_weq a 0).mpr (of_decide_eq_true q))))
      | ne => exact lv_if_ne hx hb hdg hb1 (fun z => kt (decide_eq_true (fun q => z ((xa_weq a 0).mpr q)))) (fun z => kf (fun q => of_decide_eq_true q ((xa_weq a 0).mp z)))
      | lt => exact lv_if_lt hx hb hdg hb1 (fun z => kt (decide_eq_true ((xa_wlt a 0).mp z))) (fun z => kf (fun q => z ((xa_wlt a 0).mpr (of_decide_eq_true q))))
      | ge => exact lv_if_ge hx hb hdg hb1 (fun z => kt (decide_eq_true ((xa_wle 0 a).mp z))) (fun z => kf (fun q => z ((xa_wle 0 a).mpr (of_decide_eq_true q))))
      | gt => exact lv_if_gt hx hb hdg hb1 (fun z => kt (decide_eq_true ((xa_wlt 0 a).mp z))) (fun z => kf (fun q => z ((xa_wlt 0 a).mpr (of_decide_eq_true q))))
      | le => exact lv_if_le hx hb hdg hb1 (fun z => kt (decide_eq_true ((xa_wle a 0).mp z))) (fun z => kf (fun q => z ((xa_wle a 0).mpr (of_decide_eq_true q))))
  · cases ho
theorem xa_s_tsw (C : xa_Cx G S mi X b0 ca v3 D cI cQ p R s m args meth c) {en : xa_E} {i i1 : Nat} {ls ls1 st st1 : List xa_V} {h h1 : xa_H} {pl : List Nat} {d lo hi : Int} {offs : Array Int} (hins : en.2.1 = .tableswitch d lo hi offs) (hf : (G.1 mi)[i]? = some en) (hok : xa_ok G S mi i en pl = true) (ho : xa_one1 X en i ls st h = some (.inl (i1, ls1, st1, h1))) (hm : h1.length ≤ h'.length ∧ xa_sl h1 ≤ xa_sl h') (kk : xa_WW G mi b0 ca v3 D cI cQ p l e R s m args below meth c Q h' i1 ls1 st1 h1) : xa_WW G mi b0 ca v3 D cI cQ p l e R s m args below meth c Q h' i ls st h := by
  obtain ⟨pb, ins, ln, x⟩ := en
  dsimp only at hins
  subst hins
  intro pc H locs cells slots lr hat hL hR hS hc hs
  obtain ⟨hx, hb, hml, hown, hts, hF, h3, hb0, hnm, hfr, hlo⟩ := C
  simp only [xa_ok, Bool.and_eq_true] at hok
  obtain ⟨k1, k2, k3, k4⟩ := hok
  have hpc : pb = pc := xa_at_of hf hat
  subst hpc
  have hdg := xa_dec_of k1
  dsimp only [xa_one1] at ho
  dsimp only at hdg
  unfold xa_sw at ho
  split at ho
  · next dt ts z st0 =>
    split at ho
    · next hz =>
      match pl, k4 with
      | [], k4 =>
        simp only [xa_extra, Bool.and_eq_true] at k4
        obtain ⟨k5, k6⟩ := k4
        split at ho
        · next hq =>
          cases ho
          obtain ⟨b, hb1, hb2⟩ := xa_jmp_of k5
          exact lv_tableOut hx hb hdg (by rw [xa_toI hz]; exact hq) hb1 (kk _ H locs cells slots lr hb2 hL hR hS hc hs)
        · next hq =>
          split at ho
          · next t ht =>
            cases ho
            have hlt := (List.getElem?_eq_some_iff.mp ht).1
            have k7 := List.all_eq_true.mp k6 _ (List.mem_range.mpr hlt)
            rw [ht] at k7
            split at k7
            · next o1 o ho1 ho2 =>
              cases ho1
              obtain ⟨b, hb1, hb2⟩ := xa_jmp_of k7
              exact lv_tableIn hx hb hdg (by rw [xa_toI hz]; omega) (by rw [xa_toI hz]; omega) (by rw [xa_toI hz]; exact ho2) hb1 (kk _ H locs cells slots lr hb2 hL hR hS hc hs)
            · cases k7
          · cases ho
    · cases ho
  · cases ho
end XS
