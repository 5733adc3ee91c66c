/-! A METHOD, WITH ITS CALLS: what the small machine comes to, the real one comes to -/
def xa_Pre (b0 : Nat) (ca : Nat → Nat) (v3 : Value) (X : List Int) (D : va_G) (cI : ClassId) (cQ : Nat → ClassId) (h : xa_H) (av : List xa_V) : Array Value → State → Prop :=
  va_Pc (av.map (xa_cv b0 ca v3)) (fun U => xa_Rel b0 ca v3 cI cQ D xb_cl h U.heap ∧ xa_F b0 ca v3 X D cI cQ U U.heap)
def xa_Post (b0 : Nat) (ca : Nat → Nat) (v3 : Value) (D : va_G) (cI : ClassId) (cQ : Nat → ClassId) (h1 : xa_H) (rv : Option xa_V) : Array Value → State → Outcome → State → Prop := fun _ st o t =>
  o = .returned (rv.map (xa_cv b0 ca v3)) ∧ xa_Rel b0 ca v3 cI cQ D xb_cl h1 t.heap ∧ va_F (fun a : Nat => b0 ≤ a) st t
theorem xa_good {ws : List Jvm.Cond} (h : ∀ w ∈ ws, w ∈ xa_tb) : GoodIn xa_tb ws := fun w hw => ⟨h w hw, good_of_word (List.mem_filter.mp (h w hw)).2⟩
theorem xa_Pre_blind {b0 : Nat} {ca : Nat → Nat} {v3 : Value} {X : List Int} {D : va_G} {cI : ClassId} {cQ : Nat → ClassId} {h : xa_H} {av : List xa_V} : FrameBlind (xa_Pre b0 ca v3 X D cI cQ h av) := fun a U g mk hp => ⟨hp.1, hp.2.1, xa_F_same (s := U) (U := U.calling g mk a) (H := U.heap) rfl hp.2.2⟩
section XC
variable {p : Program} {l : Launch} {e : Env} {R : Jvm.Room} {s : State} {m : MethodId} {args : Array Value} {below : List Frame} {meth : Method} {c : Code} {Q : State → Prop}
variable {G : xa_G} {S : xa_M} {mi : Nat} {X : List Int} {b0 : Nat} {ca : Nat → Nat} {v3 : Value} {D : va_G} {cI : ClassId} {cQ : Nat → ClassId} {h' : xa_H}
/-- behind a call -/
theorem xa_go {H : Heap} {locs : List Loc} {cells slots mc ms pc : Nat} {lr : Array Slot} {st0 rest : List Value} {a : Array Value} {h1 : xa_H} {rv : Option xa_V} (hr : va_Run p l e R s m args below meth c H locs cells slots mc ms (F0 m pc lr st0) rest (xa_Post b0 ca v3 D cI cQ h1 rv a) (fun q : Nat => b0 ≤ q)) (hS : va_S (fun a : Nat => b0 ≤ a) s.heap H locs)
    (kk : ∀ (H1 : Heap) (locs1 : List Loc), xa_Rel b0 ca v3 cI cQ D xb_cl h1 H1 → va_S (fun a : Nat => b0 ≤ a) s.heap H1 locs1 → W p l e R s m args below meth c H1 locs1 (cells + mc) (slots + ms) Q (F0 m (pc + 3) lr ((rv.map (xa_cv b0 ca v3)).toList ++ rest))) : W p l e R s m args below meth c H locs cells slots Q (F0 m pc lr st0) := by
  intro T hT X'
  obtain ⟨v, st₀, t, T', L, h0, X2, hL, e1, e2, ⟨hv, hR1, hz, hk⟩, st⟩ := hr T hT X'
  cases hv
  rw [h0] at hz hk
  obtain ⟨t2, a1, b1⟩ := kk T'.heap (locs ++ L) (by rw [e1]; exact hR1) ⟨Nat.le_trans hS.1 (by rw [e1]; exact hz), fun q g1 g2 => by rw [e1, hk q (Nat.lt_of_lt_of_le g1 hS.1) g2]; exact hS.2.1 q g1 g2, fun q hq => by
      rcases List.mem_append.mp hq with h | h
      · exact hS.2.2 q h
      · exact hL q h⟩ T' rfl X2
  exact ⟨t2, st t2 a1, b1⟩
/-- what a method's own code gives, as its callers need it -/
def xa_Mt (G : xa_G) (S : xa_M) (X : List Int) (l : Launch) (b0 : Nat) (ca : Nat → Nat) (v3 : Value) (D : va_G) (cI : ClassId) (cQ : Nat → ClassId) (n y : Nat) : Prop :=
  ∀ (av : List xa_V) (h : xa_H) (rv : Option xa_V) (h1 : xa_H), xa_ex G X n y 0 (xa_loc (G.2 y).1 av) [] h = some (rv, h1) → (xa_args av).length ≤ (G.2 y).1 → h1.length = h.length + (G.2 y).2.1 → xa_sl h1 = xa_sl h + (G.2 y).2.2 →
    Met l (S y).2.1 (xa_ws G S y) (xa_rm G S y) (xa_Pre b0 ca v3 X D cI cQ h av) (xa_Post b0 ca v3 D cI cQ h1 rv) (G.2 y).2.1 (G.2 y).2.2 (fun q : Nat => b0 ≤ q)
/-- the state at a callee's start -/
theorem xa_hp {H : Heap} {locs : List Loc} {h : xa_H} {av : List xa_V} {As : List Value} (hA : As = av.map (xa_cv b0 ca v3)) (hF : xa_F b0 ca v3 X D cI cQ s s.heap) (hR : xa_Rel b0 ca v3 cI cQ D xb_cl h H) (hS : va_S (fun a : Nat => b0 ≤ a) s.heap H locs) (U : State) (hU : U.heap = H) (hW : s.WarmedH U.vm) : xa_Pre b0 ca v3 X D cI cQ h av As.toArray U := by
  refine ⟨by rw [hA], by rw [hU]; exact hR, ?_⟩
  rw [hU]
  exact xa_F_warm hW hS.2.1 hF
/-- a call, whatever its kind -/
theorem xa_s_call (C : xa_Cx G S mi X b0 ca v3 D cI cQ p R s m args meth c) {en : xa_E} {i i1 y n : Nat} {ls ls1 st rest : List xa_V} {h h1 : xa_H} {pl : List Nat} {av : List xa_V} {rv : Option xa_V} (hf : (G.1 mi)[i]? = some en) (hok : xa_ok G S mi i en pl = true) (ho : xa_one1 X en i ls st h = some (.inr (.inr (y, av, i1, ls1, rest)))) (hM : xa_Mt G S X l b0 ca v3 D cI cQ n y)
    (hargs : (xa_args av).length ≤ (G.2 y).1) (hex : xa_ex G X n y 0 (xa_loc (G.2 y).1 av) [] h = some (rv, h1)) (hz1 : h1.length = h.length + (G.2 y).2.1) (hz2 : xa_sl h1 = xa_sl h + (G.2 y).2.2) (hm : h1.length ≤ h'.length ∧ xa_sl h1 ≤ xa_sl h')
    (kk : xa_WW G mi b0 ca v3 D cI cQ p l e R s m args below meth c Q h' i1 ls1 (rv.toList ++ rest) h1) : xa_WW G mi b0 ca v3 D cI cQ p l e R s m args below meth c Q h' i ls st h := by
  obtain ⟨pb, ins, ln, x⟩ := en
  intro pc H locs cells slots lr hat hL hR hS hc hs
  obtain ⟨hx, hb, hml, hown, hts, hF, h3, hb0, hnm, hfr, hlo⟩ := C
  simp only [xa_ok, Bool.and_eq_true] at hok
  obtain ⟨k1, k2, k3, k4⟩ := hok
  have hpc : pb = pc := xa_at_of hf hat
  subst hpc
  have hdg := xa_dec_of k1
  dsimp only at hdg
  have hMet := hM av h rv h1 hex hargs hz1 hz2
  have hfit : cells + (G.2 y).2.1 ≤ R.cells ∧ slots + (G.2 y).2.2 ≤ R.slots := by omega
  have hsize : (F0 m pb lr (st.map (xa_cv b0 ca v3))).locals.size = (G.2 mi).1 := hL.1
  have hwsin : ∀ {q t : Nat} {k : Nat}, xa_callOK G S mi y k q t = true → (∀ w ∈ xa_ws G S y, w ∈ xa_tb) ∧ Jvm.Cond.initialized (S y).2.1.cls ∈ xa_tb ∧ ((S y).2.1.cls ≠ "java/lang/invoke/MethodHandle" ∧ (S y).2.1.cls ≠ "java/lang/invoke/VarHandle") ∧ (parseMethodDescriptor (S y).2.1.desc).map (fun d => d.parameters.length) = some k ∧ (xa_rm G S y).frames + 1 ≤ R.frames ∧ 8 + ((G.2 y).1 + 11) + (xa_rm G S y).locals ≤ R.locals := by
    intro q t k hk
    simp only [xa_callOK, Bool.and_eq_true, decide_eq_true_eq] at hk
    obtain ⟨g1, g2, g3, g4, g5, g6⟩ := hk
    refine ⟨fun w hw => ?_, xa_in_tb g1, g3, g4, Nat.le_trans g5 hfr, Nat.le_trans g6 hlo⟩
    rcases List.mem_cons.mp hw with rfl | hw
    · exact xa_in_tb g2
    · exact hw
  have CF : CallFix p m c (S mi).2.2.1 (G.2 mi).1 s args xa_tb (S mi).1 := ⟨hx, hb, hml, hown, hts⟩
  have hmon : ∀ {L : List Value}, (L.map fun v => v.category).sum ≤ 8 → 2 * (F0 m pb lr (st.map (xa_cv b0 ca v3))).monitorRoom + (L.map fun v => v.category).sum ≤ 8 := fun h => lv_room h
  -- what every kind comes to
  have fin : ∀ {a : Array Value} {rest' : List Value}, rest' = rest.map (xa_cv b0 ca v3) → ls1 = ls → xa_at G mi i1 (pb + 3) = true → va_Run p l e R s m args below meth c H locs cells slots (G.2 y).2.1 (G.2 y).2.2 (F0 m pb lr (st.map (xa_cv b0 ca v3))) rest' (xa_Post b0 ca v3 D cI cQ h1 rv a) (fun q : Nat => b0 ≤ q) → W p l e R s m args below meth c H locs cells slots Q (F0 m pb lr (st.map (xa_cv b0 ca v3))) := by
    intro a rest' hr' hls hnx hr
    subst hr'
    subst hls
    refine xa_go hr hS fun H1 locs1 hR1 hS1 => ?_
    have := kk _ H1 locs1 (cells + (G.2 y).2.1) (slots + (G.2 y).2.2) lr hnx hL hR1 hS1 (by omega) (by omega)
    rw [List.map_append] at this
    rw [show (rv.map (xa_cv b0 ca v3)).toList = rv.toList.map (xa_cv b0 ca v3) by cases rv <;> rfl]
    exact this
  have hin : ∀ (idx : Nat), ins = .invokestatic idx ∨ ins = .invokevirtual idx ∨ ins = .invokespecial idx → ln = 3 ∧ xa_at G mi (i + 1) (pb + 3) = true := by
    intro idx hi
    rcases hi with rfl | rfl | rfl
    all_goals
      have hln : ln = 3 := by simpa [xa_lenOK, xa_len] using k2
      subst hln
      exact ⟨rfl, by simpa [xa_through] using k3⟩
  have hinv : xa_inv x i ls st h = some (.inr (.inr (y, av, i1, ls1, rest))) ∧ ∃ idx, ins = .invokestatic idx ∨ ins = .invokevirtual idx ∨ ins = .invokespecial idx := by
    unfold xa_one1 at ho
    split at ho
    all_goals first
      | (next hi => exact ⟨ho, _, Or.inl hi⟩)
      | (next hi => exact ⟨ho, _, Or.inr (Or.inl hi)⟩)
      | (next hi => exact ⟨ho, _, Or.inr (Or.inr hi)⟩)
      | skip
    all_goals exfalso
    all_goals try (unfold xa_aload at ho)
    all_goals try (unfold xa_iload at ho)
    all_goals try (unfold xa_lload at ho)
    all_goals try (unfold xa_astore at ho)
    all_goals try (unfold xa_istore at ho)
    all_goals try (unfold xa_lstore at ho)
    all_goals try (unfold xa_two at ho)
    all_goals try (unfold xa_div at ho)
    all_goals try (unfold xa_two64 at ho)
    all_goals try (unfold xa_one at ho)
    all_goals try (unfold xa_if2 at ho)
    all_goals try (unfold xa_if1 at ho)
    all_goals try (unfold xa_getf at ho)
    all_goals try (unfold xa_putf at ho)
    all_goals try (unfold xa_gets at ho)
    all_goals try (unfold xa_iald at ho)
    all_goals try (unfold xa_bald at ho)
    all_goals try (unfold xa_aald at ho)
    all_goals try (unfold xa_iast at ho)
    all_goals try (unfold xa_aast at ho)
    all_goals try (unfold xa_alen at ho)
    all_goals try (unfold xa_new at ho)
    all_goals try (unfold xa_newi at ho)
    all_goals try (unfold xa_newq at ho)
    all_goals try (unfold xa_ldc at ho)
    all_goals try (unfold xa_sw at ho)
    all_goals try (unfold xa_lcmp at ho)
    all_goals (repeat' split at ho)
    all_goals cases ho
  clear ho
  obtain ⟨ho, idx, hidx⟩ := hinv
  obtain ⟨hln, hnx⟩ := hin idx hidx
  subst hln
  clear k1 k2 k3
  have hst : ∀ (k : Nat), st.map (xa_cv b0 ca v3) = (((st.take k).reverse).map (xa_cv b0 ca v3)).reverse ++ (st.drop k).map (xa_cv b0 ca v3) := by
    intro k
    rw [List.map_reverse, List.reverse_reverse, ← List.map_append, List.take_append_drop]
  have hlen : ∀ (k : Nat), k ≤ st.length → (((st.take k).reverse).map (xa_cv b0 ca v3)).length = k := by
    intro k hk
    rw [List.length_map, List.length_reverse, List.length_take]
    omega
  unfold xa_inv at ho
  split at ho
  · repeat' split at ho
    all_goals cases ho
  · repeat' split at ho
    all_goals cases ho
  · repeat' split at ho
    all_goals cases ho
  · repeat' split at ho
    all_goals cases ho
  · -- static
    next y0 n0 =>
    split at ho
    · next hq =>
      cases ho
      rcases hidx with rfl | rfl | rfl
      · match pl, k4 with
        | [q1, q2, q3, q4], k4 =>
          simp only [xa_extra, Bool.and_eq_true] at k4
          obtain ⟨g1, g2, g3⟩ := k4
          obtain ⟨w1, w2, w3, w4, w5⟩ := hwsin g3
          refine fin rfl rfl hnx (va_runS CF hMet (va_cwS n0.toNat hts (xa_good ?_) rfl rfl rfl ⟨w3.1, w3.2, w4⟩ w5) ⟨xa_Pre_blind, xa_hp rfl hF hR hS⟩ rfl (hlen _ hq.1) hsize (hst _) (hmon (by rw [xa_cv_cats h3]; exact hq.2)) hdg hfit)
          intro w hw
          unfold va_wsS at hw
          rcases List.mem_append.mp hw with hw | hw
          · simp only [List.mem_cons, List.not_mem_nil, or_false] at hw
            rcases hw with rfl | rfl | rfl
            · exact xa_in_tb g1
            · exact xa_in_tb g2
            · exact w2
          · exact w1 w hw
      · simp [xa_extra] at k4
      · simp [xa_extra] at k4
    · cases ho
  · -- static, of a nest mate
    next y0 n0 =>
    split at ho
    · next hq =>
      cases ho
      rcases hidx with rfl | rfl | rfl
      · match pl, k4 with
        | [q1, q2, q3, q4], k4 =>
          simp only [xa_extra, Bool.and_eq_true] at k4
          obtain ⟨g1, g2, g3⟩ := k4
          obtain ⟨w1, w2, w3, w4, w5⟩ := hwsin g3
          exact fin rfl rfl hnx (va_runSN CF hMet ⟨va_cnB n0.toNat hts (xa_good w1) rfl rfl rfl (hF.2.1 _ (xa_in_nw g1)) (hts _ w2) ⟨w3.1, w3.2, w4⟩ w5, hts _ (xa_in_tb g2), trivial⟩ ⟨xa_Pre_blind, xa_hp rfl hF hR hS⟩ rfl (hlen _ hq.1) hsize (hst _) (hmon (by rw [xa_cv_cats h3]; exact hq.2)) hdg hfit)
      · simp [xa_extra] at k4
      · simp [xa_extra] at k4
    · cases ho
  · -- of an object
    next k0 y0 n0 ci =>
    split at ho
    · next a rest0 hd0 =>
      split at ho
      · next c2 fs e1 =>
        split at ho
        · next hq =>
          cases ho
          obtain ⟨hk0, hci, hn, hcat⟩ := hq
          have hst2 : st.map (xa_cv b0 ca v3) = (((st.take n0.toNat).reverse).map (xa_cv b0 ca v3)).reverse ++ .ref (b0 + a) :: rest.map (xa_cv b0 ca v3) := by
            rw [hst n0.toNat, hd0]
            rfl
          rcases hidx with rfl | rfl | rfl
          · simp [xa_extra] at k4
          · -- virtual
            have hk1 : k0 = 1 := by
              rcases hk0 with rfl | rfl | rfl | rfl
              · rfl
              · simp [xa_extra] at k4
              · simp [xa_extra] at k4
              · simp [xa_extra] at k4
            subst hk1
            match pl, k4 with
            | [q1, q2, q3, q4, q5], k4 =>
              simp only [xa_extra] at k4
              split at k4
              · next r hr =>
                simp only [Bool.and_eq_true, decide_eq_true_eq] at k4
                obtain ⟨g0, g1, g2, g3, g4⟩ := k4
                obtain ⟨w1, w2, w3, w4, w5⟩ := hwsin g4
                obtain ⟨C, T, N⟩ := r
                dsimp only at g0 g3
                refine fin rfl rfl hnx (va_runV CF hMet (cwV n0.toNat hts (C := C) (xa_good ?_) rfl rfl rfl ⟨g0, w3.1, w3.2, w4⟩ w5) ⟨xa_Pre_blind, va_recv hF.1 hR.2 hr (by rw [← hci]; exact xa_W_get e1), fun U hU hW => xa_hp (av := xR a :: (st.take n0.toNat).reverse) rfl hF hR hS U hU hW⟩ rfl (hlen _ hn) hsize hst2 (hmon (by rw [xa_cv_cats h3]; exact hcat)) hdg hfit)
                intro w hw
                unfold wsV at hw
                rcases List.mem_append.mp hw with hw | hw
                · simp only [List.mem_cons, List.not_mem_nil, or_false] at hw
                  rcases hw with rfl | rfl | rfl | rfl
                  · exact xa_in_tb g1
                  · exact xa_in_tb g2
                  · exact xa_in_tb g3
                  · rw [← g0]; exact w2
                · exact w1 w hw
              · cases k4
          · -- constructors
            have hk1 : k0 = 2 ∨ k0 = 5 := by
              rcases hk0 with rfl | rfl | rfl | rfl
              · simp [xa_extra] at k4
              · exact Or.inl rfl
              · simp [xa_extra] at k4
              · exact Or.inr rfl
            rcases hk1 with rfl | rfl
            · match pl, k4 with
              | [q1, q2, q3, q4], k4 =>
                simp only [xa_extra, Bool.and_eq_true, decide_eq_true_eq] at k4
                obtain ⟨g0, g1, g2, g3⟩ := k4
                obtain ⟨w1, w2, w3, w4, w5⟩ := hwsin g3
                exact fin rfl rfl hnx (va_runI CF hMet (cwI n0.toNat hts (xa_good w1) (by unfold xa_ws xa_code; rw [g0.2]) rfl rfl (hts _ w2) (hts _ (xa_in_tb g1)) (hts _ (xa_in_tb g2)) g0.1 ⟨w3.1, w3.2, w4⟩ w5) ⟨xa_Pre_blind, fun U hU hW => xa_hp (av := xR a :: (st.take n0.toNat).reverse) rfl hF hR hS U hU hW⟩ rfl (hlen _ hn) hsize hst2 (hmon (by rw [xa_cv_cats h3]; exact hcat)) hdg hfit)
            · match pl, k4 with
              | [q1, q2, q3, q4], k4 =>
                simp only [xa_extra, Bool.and_eq_true, decide_eq_true_eq] at k4
                obtain ⟨g0, g1, g2, g3⟩ := k4
                obtain ⟨w1, w2, w3, w4, w5⟩ := hwsin g3
                exact fin rfl rfl hnx (va_runIN CF hMet ⟨va_cnB n0.toNat hts (xa_good w1) (by unfold xa_ws xa_code; rw [g0.2]) rfl rfl (hF.2.1 _ (xa_in_nw g1)) (hts _ w2) ⟨w3.1, w3.2, w4⟩ w5, g0.1, hts _ (xa_in_tb g2)⟩ ⟨xa_Pre_blind, fun U hU hW => xa_hp (av := xR a :: (st.take n0.toNat).reverse) rfl hF hR hS U hU hW⟩ rfl (hlen _ hn) hsize hst2 (hmon (by rw [xa_cv_cats h3]; exact hcat)) hdg hfit)
        · cases ho
      · cases ho
    · next c2 rest0 hd0 =>
      split at ho
      · next hq =>
        cases ho
        obtain ⟨hk0, hc20, hc33, hn, hcat⟩ := hq
        subst hk0
        have hst2 : st.map (xa_cv b0 ca v3) = (((st.take n0.toNat).reverse).map (xa_cv b0 ca v3)).reverse ++ .ref (ca c2) :: rest.map (xa_cv b0 ca v3) := by
          rw [hst n0.toNat, hd0, List.map_cons, show xa_cv b0 ca v3 (.inr (.inr (.inr c2))) = .ref (ca c2) from xa_cv_C (by omega) (by omega)]
        rcases hidx with rfl | rfl | rfl
        · simp [xa_extra] at k4
        · match pl, k4 with
          | [q1, q2, q3, q4, q5], k4 =>
            simp only [xa_extra, Bool.and_eq_true, decide_eq_true_eq] at k4
            obtain ⟨g0, g1, g2, g3, g4⟩ := k4
            obtain ⟨w1, w2, w3, w4, w5⟩ := hwsin g4
            have hO := (hF.2.2.2.2.2.2.2 c2 hc20 hc33).1.kept hS.2.1
            obtain ⟨cell, o1, o2, o3, -⟩ := hO
            refine fin rfl rfl hnx (va_runV CF hMet (cwV n0.toNat hts (C := "java/lang/String") (xa_good ?_) rfl rfl rfl ⟨g0, w3.1, w3.2, w4⟩ w5) ⟨xa_Pre_blind, ⟨cell, o1, o2, o3⟩, fun U hU hW => xa_hp (av := xC c2 :: (st.take n0.toNat).reverse) (by rw [List.map_cons, xa_cv_C (by omega) (by omega)]) hF hR hS U hU hW⟩ rfl (hlen _ hn) hsize hst2 (hmon (by rw [xa_cv_cats h3]; exact hcat)) hdg hfit)
            intro w hw
            unfold wsV at hw
            rcases List.mem_append.mp hw with hw | hw
            · simp only [List.mem_cons, List.not_mem_nil, or_false] at hw
              rcases hw with rfl | rfl | rfl | rfl
              · exact xa_in_tb g1
              · exact xa_in_tb g2
              · exact xa_in_tb g3
              · rw [← g0]; exact w2
            · exact w1 w hw
        · simp [xa_extra] at k4
      · cases ho
    · cases ho
  · cases ho
end XC
section XD
variable {p : Program} {l : Launch} {e : Env} {R : Jvm.Room} {s : State} {m : MethodId} {args : Array Value} {below : List Frame} {meth : Method} {c : Code} {Q : State → Prop}
variable {G : xa_G} {S : xa_M} {mi : Nat} {X : List Int} {b0 : Nat} {ca : Nat → Nat} {v3 : Value} {D : va_G} {cI : ClassId} {cQ : Nat → ClassId} {h' : xa_H}
/-- one step that goes on in the method -/
theorem xa_s_next (C : xa_Cx G S mi X b0 ca v3 D cI cQ p R s m args meth c) (hCl : xa_ClOK) {en : xa_E} {i i1 : Nat} {ls ls1 st st1 : List xa_V} {h h1 : xa_H} {pl : List Nat} (hf : (G.1 mi)[i]? = some en) (hok : xa_ok G S mi i en pl = true) (ho : xa_one1 X en i ls st h = some (.inl (i1, ls1, st1, h1))) (hm : h1.length ≤ h'.length ∧ xa_sl h1 ≤ xa_sl h') (kk : xa_WW G mi b0 ca v3 D cI cQ p l e R s m args below meth c Q h' i1 ls1 st1 h1) : xa_WW G mi b0 ca v3 D cI cQ p l e R s m args below meth c Q h' i ls st h := by
  have ho' := ho
  unfold xa_one1 at ho'
  split at ho'
  · next hi => exact xa_s_aload C hi hf hok ho hm kk
  · next hi => exact xa_s_aload_n C hi hf hok ho hm kk
  · next hi => exact xa_s_iload C hi hf hok ho hm kk
  · next hi => exact xa_s_iload_n C hi hf hok ho hm kk
  · next hi => exact xa_s_lload C hi hf hok ho hm kk
  · next hi => exact xa_s_lload_n C hi hf hok ho hm kk
  · next hi => exact xa_s_astore C hi hf hok ho hm kk
  · next hi => exact xa_s_astore_n C hi hf hok ho hm kk
  · next hi => exact xa_s_istore C hi hf hok ho hm kk
  · next hi => exact xa_s_istore_n C hi hf hok ho hm kk
  · next hi => exact xa_s_lstore C hi hf hok ho hm kk
  · next hi => exact xa_s_lstore_n C hi hf hok ho hm kk
  · next hi => exact xa_s_iconst C hi hf hok ho hm kk
  · next hi => exact xa_s_bipush C hi hf hok ho hm kk
  · next hi => exact xa_s_sipush C hi hf hok ho hm kk
  · next hi => exact xa_s_lconst C hi hf hok ho hm kk
  · next hi => exact xa_s_ldc C hi hf hok ho hm kk
  · next hi => exact xa_s_ldc_w C hi hf hok ho hm kk
  · next hi => exact xa_s_ldc2_w C hi hf hok ho hm kk
  · next hi => exact xa_s_iadd C hi hf hok ho hm kk
  · next hi => exact xa_s_isub C hi hf hok ho hm kk
  · next hi => exact xa_s_imul C hi hf hok ho hm kk
  · next hi => exact xa_s_iand C hi hf hok ho hm kk
  · next hi => exact xa_s_ior C hi hf hok ho hm kk
  · next hi => exact xa_s_ixor C hi hf hok ho hm kk
  · next hi => exact xa_s_ishl C hi hf hok ho hm kk
  · next hi => exact xa_s_ishr C hi hf hok ho hm kk
  · next hi => exact xa_s_iushr C hi hf hok ho hm kk
  · next hi => exact xa_s_idiv C hi hf hok ho hm kk
  · next hi => exact xa_s_irem C hi hf hok ho hm kk
  · next hi => exact xa_s_ladd C hi hf hok ho hm kk
  · next hi => exact xa_s_lmul C hi hf hok ho hm kk
  · next hi => exact xa_s_i2b C hi hf hok ho hm kk
  · next hi => exact xa_s_i2s C hi hf hok ho hm kk
  · next hi => exact xa_s_i2c C hi hf hok ho hm kk
  · next hi => exact xa_s_i2l C hi hf hok ho hm kk
  · next hi => exact xa_s_l2i C hi hf hok ho hm kk
  · next hi => exact xa_s_lcmp C hi hf hok ho hm kk
  · next hi => exact xa_s_iinc C hi hf hok ho hm kk
  · next hi => exact xa_s_dup C hi hf hok ho hm kk
  · next hi => exact xa_s_dup2 C hi hf hok ho hm kk
  · next hi => exact xa_s_pop C hi hf hok ho hm kk
  · next hi => exact xa_s_goto C hi hf hok ho hm kk
  · next hi => exact xa_s_icmp C hi hf hok ho hm kk
  · next hi => exact xa_s_ifc C hi hf hok ho hm kk
  · next hi => exact xa_s_tsw C hi hf hok ho hm kk
  · next hi => exact xa_s_getfield C hCl hi hf hok ho hm kk
  · next hi => exact xa_s_putfield C hCl hi hf hok ho hm kk
  · next hi => exact xa_s_getstatic C hi hf hok ho hm kk
  · next hi => exact xa_s_iaload C hi hf hok ho hm kk
  · next hi => exact xa_s_baload C hi hf hok ho hm kk
  · next hi => exact xa_s_iastore C hi hf hok ho hm kk
  · next hi => exact xa_s_aaload C hi hf hok ho hm kk
  · next hi => exact xa_s_aastore C hi hf hok ho hm kk
  · next hi => exact xa_s_arraylength C hi hf hok ho hm kk
  · next hi => exact xa_s_new C hCl hi hf hok ho hm kk
  · next hi => exact xa_s_newarray C hi hf hok ho hm kk
  · next hi => exact xa_s_anewarray C hi hf hok ho hm kk
  · next hi => exact xa_s_invstatic C hi hf hok ho hm kk
  · next hi => exact xa_s_invvirtual C hi hf hok ho hm kk
  · next hi => exact xa_s_invspecial C hi hf hok ho hm kk
  · repeat' split at ho'
    all_goals cases ho'
  · repeat' split at ho'
    all_goals cases ho'
  · repeat' split at ho'
    all_goals cases ho'
  · repeat' split at ho'
    all_goals cases ho'
  · cases ho'
/-- the four ends: what stands before them, and what the method's answer is -/
def xa_End (ret : Option FieldType) (ins : Jvm.ClassFile.Instr) (st : List xa_V) (rv : Option xa_V) : Prop :=
  (ins = .return_ ∧ st = [] ∧ rv = none ∧ ret = none) ∨ (∃ (z : Int) (ty : FieldType), ins = .ireturn ∧ st = [xI z] ∧ rv = some (xI z) ∧ ret = some ty ∧ narrow ty (.int (Int32.ofInt z)) = .int (Int32.ofInt z)) ∨
  (∃ z : Int, ins = .lreturn ∧ st = [xL z] ∧ rv = some (xL z) ∧ ret = some .long) ∨ (∃ (a : Nat) (C : String), ins = .areturn ∧ st = [xR a] ∧ rv = some (xR a) ∧ ret = some (.object C))
/-- what is owed where the method ends -/
def xa_RT (S : xa_M) (mi : Nat) (b0 : Nat) (ca : Nat → Nat) (v3 : Value) (D : va_G) (cI : ClassId) (cQ : Nat → ClassId) (p : Program) (l : Launch) (e : Env) (R : Jvm.Room) (s : State) (m : MethodId) (args : Array Value) (below : List Frame) (meth : Method) (c : Code) (Q : State → Prop) (h' : xa_H) (rv : Option xa_V) : Prop :=
  ∀ (pc : Nat) (H : Heap) (locs : List Loc) (cells slots : Nat) (lr : Array Slot) (ins : Jvm.ClassFile.Instr) (st : List xa_V), decode (S mi).2.2.1 pc = .ok (ins, 1) → xa_End (S mi).2.2.2.1 ins st rv → xa_Rel b0 ca v3 cI cQ D xb_cl h' H → va_S (fun a : Nat => b0 ≤ a) s.heap H locs → cells ≤ R.cells → slots ≤ R.slots →
    W p l e R s m args below meth c H locs cells slots Q (F0 m pc lr (st.map (xa_cv b0 ca v3)))
theorem xa_s_end (hCl : xa_ClOK) {en : xa_E} {i : Nat} {ls st : List xa_V} {h h1 : xa_H} {pl : List Nat} {rv : Option xa_V} (hok : xa_ok G S mi i en pl = true) (ho : xa_one1 X en i ls st h = some (.inr (.inl (rv, h1)))) : h1 = h ∧ decode (S mi).2.2.1 en.1 = .ok (en.2.1, 1) ∧ xa_End (S mi).2.2.2.1 en.2.1 st rv := by
  obtain ⟨pb, ins, ln, x⟩ := en
  simp only [xa_ok, Bool.and_eq_true] at hok
  obtain ⟨k1, k2, -, k4⟩ := hok
  have hdg := xa_dec_of k1
  dsimp only at hdg ⊢
  have key : (ins = .return_ ∨ ins = .ireturn ∨ ins = .lreturn ∨ ins = .areturn) ∧ h1 = h ∧ xa_End (S mi).2.2.2.1 ins st rv := by
    unfold xa_one1 at ho
    split at ho
    all_goals try (exfalso; unfold xa_aload at ho; (repeat' split at ho) <;> cases ho; done)
    all_goals try (exfalso; unfold xa_iload at ho; (repeat' split at ho) <;> cases ho; done)
    all_goals try (exfalso; unfold xa_lload at ho; (repeat' split at ho) <;> cases ho; done)
    all_goals try (exfalso; unfold xa_astore at ho; (repeat' split at ho) <;> cases ho; done)
    all_goals try (exfalso; unfold xa_istore at ho; (repeat' split at ho) <;> cases ho; done)
    all_goals try (exfalso; unfold xa_lstore at ho; (repeat' split at ho) <;> cases ho; done)
    all_goals try (exfalso; unfold xa_two at ho; (repeat' split at ho) <;> cases ho; done)
    all_goals try (exfalso; unfold xa_div at ho; (repeat' split at ho) <;> cases ho; done)
    all_goals try (exfalso; unfold xa_two64 at ho; (repeat' split at ho) <;> cases ho; done)
    all_goals try (exfalso; unfold xa_one at ho; (repeat' split at ho) <;> cases ho; done)
    all_goals try (exfalso; unfold xa_if2 at ho; (repeat' split at ho) <;> cases ho; done)
    all_goals try (exfalso; unfold xa_if1 at ho; (repeat' split at ho) <;> cases ho; done)
    all_goals try (exfalso; unfold xa_getf at ho; (repeat' split at ho) <;> cases ho; done)
    all_goals try (exfalso; unfold xa_putf at ho; (repeat' split at ho) <;> cases ho; done)
    all_goals try (exfalso; unfold xa_gets at ho; (repeat' split at ho) <;> cases ho; done)
    all_goals try (exfalso; unfold xa_iald at ho; (repeat' split at ho) <;> cases ho; done)
    all_goals try (exfalso; unfold xa_bald at ho; (repeat' split at ho) <;> cases ho; done)
    all_goals try (exfalso; unfold xa_aald at ho; (repeat' split at ho) <;> cases ho; done)
    all_goals try (exfalso; unfold xa_iast at ho; (repeat' split at ho) <;> cases ho; done)
    all_goals try (exfalso; unfold xa_aast at ho; (repeat' split at ho) <;> cases ho; done)
    all_goals try (exfalso; unfold xa_alen at ho; (repeat' split at ho) <;> cases ho; done)
    all_goals try (exfalso; unfold xa_new at ho; (repeat' split at ho) <;> cases ho; done)
    all_goals try (exfalso; unfold xa_newi at ho; (repeat' split at ho) <;> cases ho; done)
    all_goals try (exfalso; unfold xa_newq at ho; (repeat' split at ho) <;> cases ho; done)
    all_goals try (exfalso; unfold xa_ldc at ho; (repeat' split at ho) <;> cases ho; done)
    all_goals try (exfalso; unfold xa_sw at ho; (repeat' split at ho) <;> cases ho; done)
    all_goals try (exfalso; unfold xa_lcmp at ho; (repeat' split at ho) <;> cases ho; done)
    all_goals try (exfalso; unfold xa_inv at ho; (repeat' split at ho) <;> cases ho; done)
    all_goals try (exfalso; (repeat' split at ho) <;> cases ho; done)
    · next hi =>
      dsimp only at hi
      subst hi
      split at ho
      · cases ho
        match x, pl, k4 with
        | [], [], k4 => exact ⟨Or.inl rfl, rfl, Or.inl ⟨rfl, rfl, rfl, by simpa [xa_extra] using k4⟩⟩
      · cases ho
    · next hi =>
      dsimp only at hi
      subst hi
      split at ho
      · next z t hxx =>
        split at ho
        · next hft =>
          cases ho
          dsimp only at hxx
          subst hxx
          match pl, k4 with
          | [], k4 =>
            simp only [xa_extra, Bool.or_eq_true, Bool.and_eq_true, decide_eq_true_eq] at k4
            refine ⟨Or.inr (Or.inl rfl), rfl, Or.inr (Or.inl ?_)⟩
            rcases k4 with ⟨rfl, g⟩ | ⟨rfl, g⟩ | ⟨rfl, g⟩ | ⟨rfl, g⟩
            · exact ⟨z, .int, rfl, rfl, rfl, g, rfl⟩
            · have hz : z = 0 ∨ z = 1 := by simpa [xa_fit] using hft
              rcases hz with rfl | rfl
              · exact ⟨0, .boolean, rfl, rfl, rfl, g, rfl⟩
              · exact ⟨1, .boolean, rfl, rfl, rfl, g, rfl⟩
            · have hz : -128 ≤ z ∧ z ≤ 127 := by simpa [xa_fit] using hft
              refine ⟨z, .byte, rfl, rfl, rfl, g, ?_⟩
              show Value.int (Int32.ofInt z).toInt8.toInt32 = _
              congr 1
              rw [← Int32.toInt_inj, Int8.toInt_toInt32, Int32.toInt_toInt8, xa_toI ⟨by omega, by omega⟩]
              show z.bmod 256 = z
              rw [Int.bmod_def]
              split <;> omega
            · have hz : 0 ≤ z ∧ z ≤ 65535 := by simpa [xa_fit] using hft
              refine ⟨z, .char, rfl, rfl, rfl, g, ?_⟩
              obtain ⟨n, rfl⟩ := Int.eq_ofNat_of_zero_le hz.1
              exact (pk_charN (q := n) (by omega)).1
        · cases ho
      · cases ho
    · next hi =>
      dsimp only at hi
      subst hi
      split at ho
      · next z =>
        cases ho
        match x, pl, k4 with
        | [], [], k4 => exact ⟨Or.inr (Or.inr (Or.inl rfl)), rfl, Or.inr (Or.inr (Or.inl ⟨z, rfl, rfl, rfl, by simpa [xa_extra] using k4⟩))⟩
      · cases ho
    · next hi =>
      dsimp only at hi
      subst hi
      split at ho
      · next z =>
        cases ho
        match x, pl, k4 with
        | [], [], k4 =>
          simp only [xa_extra] at k4
          split at k4
          · next C hC => exact ⟨Or.inr (Or.inr (Or.inr rfl)), rfl, Or.inr (Or.inr (Or.inr ⟨z, C, rfl, rfl, rfl, hC⟩))⟩
          · cases k4
      · cases ho
  refine ⟨key.2.1, ?_, key.2.2⟩
  have hln : ln = 1 := by
    rcases key.1 with rfl | rfl | rfl | rfl <;> simpa [xa_lenOK, xa_len] using k2
  rw [← hln]
  exact hdg
/-- a method's run, from any place -/
theorem xa_sim (C : xa_Cx G S mi X b0 ca v3 D cI cQ p R s m args meth c) (hCl : xa_ClOK) (hall : xa_allOK G S mi) {rv : Option xa_V} (hRT : xa_RT S mi b0 ca v3 D cI cQ p l e R s m args below meth c Q h' rv) : ∀ n, (∀ k, k < n → ∀ y, xa_Mt G S X l b0 ca v3 D cI cQ k y) → ∀ (i : Nat) (ls st : List xa_V) (h : xa_H), xa_ex G X n mi i ls st h = some (rv, h') → xa_WW G mi b0 ca v3 D cI cQ p l e R s m args below meth c Q h' i ls st h
  | 0, IH, i, ls, st, h, ex => by simp [xa_ex] at ex
  | n + 1, IH, i, ls, st, h, ex => by
    have grow := xa_ex_grow G X _ _ _ _ _ _ _ _ ex
    rw [xa_ex] at ex
    cases hf : (G.1 mi)[i]? with
    | none => rw [hf] at ex; simp at ex
    | some en =>
      rw [hf] at ex
      simp only at ex
      obtain ⟨pl, hok⟩ := hall i en hf
      cases ho : xa_one1 X en i ls st h with
      | none => rw [ho] at ex; simp at ex
      | some o =>
        rw [ho] at ex
        match o, ex, ho with
        | .inl (i', ls', st', h1), ex, ho =>
          have g2 := xa_ex_grow G X _ _ _ _ _ _ _ _ ex
          exact xa_s_next C hCl hf hok ho g2 (xa_sim C hCl hall hRT n (fun k hk => IH k (Nat.lt_succ_of_lt hk)) _ _ _ _ ex)
        | .inr (.inl r'), ex, ho =>
          have e2 : r' = (rv, h') := Option.some.inj ex
          subst e2
          obtain ⟨e3, e4, e5⟩ := xa_s_end hCl hok ho
          subst e3
          intro pc H locs cells slots lr hat hL hR hS hc hs
          have hpc := xa_at_of hf hat
          rw [hpc] at e4
          exact hRT pc H locs cells slots lr _ st e4 e5 hR hS (by omega) (by omega)
        | .inr (.inr (y, av, i', ls', rest)), ex, ho =>
          simp only at ex
          split at ex
          · next hargs =>
            split at ex
            · simp at ex
            · next rv1 h1 hc =>
              split at ex
              · next hz =>
                have g2 := xa_ex_grow G X _ _ _ _ _ _ _ _ ex
                exact xa_s_call C hf hok ho (IH n (Nat.lt_succ_self n) y) hargs hc hz.1 hz.2 g2 (xa_sim C hCl hall hRT n (fun k hk => IH k (Nat.lt_succ_of_lt hk)) _ _ _ _ ex)
              · simp at ex
          · simp at ex
end XD
