/-! ONE INSTRUCTION, of those that touch cells -/
theorem xa_cv_C {b0 : Nat} {ca : Nat → Nat} {v3 : Value} {c : Nat} (h0 : c ≠ 0) (h3 : c ≠ 3) : xa_cv b0 ca v3 (xC c) = .ref (ca c) := by
  show (if c = 0 then Value.null else if c = 3 then v3 else .ref (ca c)) = _
  rw [if_neg h0, if_neg h3]
theorem xa_ca_ne {X : List Int} {c : Nat} {xs : List Int} (e : xa_ca X c = some xs) : c ≠ 0 ∧ c ≠ 3 := by
  refine ⟨fun q => ?_, fun q => ?_⟩ <;> (subst q; simp [xa_ca] at e)
theorem xa_cb_ne {c : Nat} {xs : List Int} (e : xa_cb c = some xs) : c ≠ 0 ∧ c ≠ 3 := by
  unfold xa_cb at e
  split at e
  · simp at e
  · omega
theorem xa_cpy_len {xs ys : List xa_V} {s d n : Nat} (h1 : s + n ≤ xs.length) (h2 : d + n ≤ ys.length) : (xa_cpy xs ys s d n).length = ys.length := by
  unfold xa_cpy
  simp only [List.length_append, List.length_take, List.length_drop]
  omega
theorem xa_cpy_get {xs ys : List xa_V} {s d n : Nat} (h1 : s + n ≤ xs.length) (h2 : d + n ≤ ys.length) (j : Nat) : (xa_cpy xs ys s d n)[j]? = if d ≤ j ∧ j < d + n then xs[s + (j - d)]? else ys[j]? := by
  unfold xa_cpy
  by_cases q1 : j < d
  · rw [if_neg (by omega), List.getElem?_append_left (by simp only [List.length_take]; omega), List.getElem?_take, if_pos q1]
  · rw [List.getElem?_append_right (by simp only [List.length_take]; omega)]
    have e1 : (ys.take d).length = d := by simp only [List.length_take]; omega
    rw [e1]
    by_cases q2 : j < d + n
    · rw [if_pos (by omega), List.getElem?_append_left (by simp only [List.length_take, List.length_drop]; omega), List.getElem?_take, if_pos (by omega), List.getElem?_drop]
    · have e2 : ((xs.drop s).take n).length = n := by simp only [List.length_take, List.length_drop]; omega
      rw [if_neg (by omega), List.getElem?_append_right (by omega), e2, List.getElem?_drop]
      congr 1
      omega
section XS
variable {p : Program} {l : Launch} {e : Env} {R : Jvm.Room} {s : State} {m : MethodId} {args : Array Value} {below : List Frame} {meth : Method} {c : Code} {Q : State → Prop}
variable {G : xa_G} {S : xa_M} {mi : Nat} {X : List Int} {b0 : Nat} {ca : Nat → Nat} {v3 : Value} {D : va_G} {cI : ClassId} {cQ : Nat → ClassId} {h' : xa_H}
/-- a field is written: the heap stays as long as it was -/
theorem xa_put {H H0 : Heap} {locs : List Loc} {cells slots : Nat} {cc : ByteArray} {pc : Nat} {ls : Array Slot} {rest : List Value} {cl : List vw_C} {A : Nat → Prop} {a : Nat} {tys : List (ClassId × FieldType)} {ws : va_W} (hexec : p.tables.exec = Jvm.exec) (hb : c.code = cc) {own C : String} {T : u_T} {N ci index : Nat} {Ts : List Jvm.Cond} (hts : ∀ w ∈ Ts, w.before args s = true) (hin : ∀ w ∈ u_ws C T N, w ∈ Ts) (ty0 : Nat → FieldType) (hty : ∀ k, k < N → parseFieldDescriptor (T k).2.2.1 = some (ty0 k)) (hnm : ∀ a, a < N → ∀ b, b < N → a ≠ b → (T a).2.1 ≠ (T b).2.1) (hown : s.vm.findClass own = some m.cls) (hK : va_K D cl tys s) (hP : va_P D cl ws H) (hD : va_D A ws) (hS0 : va_S A H0 H locs) (q0 : Nat) {fs : List Value} (he : ws[q0]? = some (a, .inr (ci, fs))) (hc : cl[ci]? = some (C, T, N)) (k : Nat) (hk : k < N) (hdc : (T k).1 = C) (hlink : (Cond.fieldLink own index C (T k).2.1 (T k).2.2.1).before args s = true) (hfin : (T k).2.2.2 = false ∨ ((T k).2.2.2 = true ∧ meth.name = "<init>" ∧ C = own)) {ty : FieldType} {v : Value} (hd : parseFieldDescriptor (T k).2.2.1 = some ty) (hn : narrow ty v = v) (hfit : fits ty v = true) (hl : k < fs.length)
    (hdg : decode cc pc = .ok (.putfield index, 3)) (kk : ∀ (H1 : Heap) (locs1 : List Loc), H1.size = H.size → va_P D cl (ws.set q0 (a, .inr (ci, fs.set k v))) H1 → va_S A H0 H1 locs1 → W p l e R s m args below meth c H1 locs1 cells slots Q (F0 m (pc + 3) ls rest)) : W p l e R s m args below meth c H locs cells slots Q (F0 m pc ls (v :: .ref a :: rest)) := by
  have hap := va_apart (own := own) hts hin ty0 hty hnm hK hc
  obtain ⟨r, h1, cell, q1, q2, q3, q4⟩ := hP q0 _ he
  have hr : r = (C, T, N) := Option.some.inj (h1.symm.trans hc)
  subst hr
  obtain ⟨hS, hfc, kC, hkC, hkind⟩ := hK.1 ci _ hc
  obtain ⟨cf, kf, fi, f, hi, hsl⟩ := hS k hk
  have hi2 : s.fieldFound? C (T k).2.1 (T k).2.2.1 = some (cf, kf, fi, f) := by rw [← hi]; show _ = s.fieldFound? (T k).1 _ _; rw [hdc]
  have hlay := hts _ (hin _ (u_in_lay hk))
  unfold u_lay at hlay
  have hst := (u_facts hfc hkC (u_lays hts hin hk) hi).1
  have fin : ∀ H' : Heap, H'[a]? = some (cell.setSlot (D.2 ci k) v) → H'.size = H.size → (∀ q, q ≠ a → H'[q]? = H[q]?) → W p l e R s m args below meth c H' (locs ++ [⟨a, D.2 ci k⟩]) cells slots Q (F0 m (pc + 3) ls rest) := fun H' e1 e2 e3 =>
    kk H' _ e2 (hP.set hD he ⟨_, hc, t_OB.to (V := updV (vp_V fs) k v) ⟨_, e1, q2, q3, t_set q4 hap hk v⟩ (fun j _ => vp_updV_set hl v j)⟩ e3) (hS0.put e2 e3 (hD.2 q0 _ he))
  rcases hfin with hfin | ⟨hfin, hin2, hdecl⟩
  · rw [if_neg (by rw [hfin]; decide)] at hlay
    have h6 := u_store hfc hkC hkind hlay hi hd hn hfit
    refine W.putK hexec hb (f := f) ⟨hown, hlink, ⟨_, _, _, hi2⟩, hst⟩ (by rw [q2]; exact h6) q1 q3 (by rw [hsl]; exact k2_hasslot (q4 k hk)) rfl rfl hdg fun H' e1 e2 e3 => ?_
    rw [hsl] at e1 ⊢
    exact fin H' e1 e2 e3
  · rw [if_pos hfin] at hlay
    have hcf : m.cls = cf := by
      obtain ⟨_, _, c', _, _, _, -, -, hf', -, -, -, hown2, -⟩ := Cond.laysFinal_spec hlay
      have e1 : c' = cf := by have := hi.symm.trans hf'; simp at this; exact this.1.symm
      rw [hdc, hdecl] at hown2
      rw [← e1]; exact Option.some.inj (hown.symm.trans hown2)
    have h6 := u_fits hfc hkC hkind (Or.inr hlay) hi hd hn hfit
    refine W.putFinK hexec hb hown hlink hi2 hst hcf hin2 (by rw [q2]; exact h6) q1 q3 (by rw [hsl]; exact k2_hasslot (q4 k hk)) rfl rfl hdg fun H' e1 e2 e3 => ?_
    rw [hsl] at e1 ⊢
    exact fin H' e1 e2 e3
theorem xa_s_getfield (C : xa_Cx G S mi X b0 ca v3 D cI cQ p R s m args meth c) (hCl : xa_ClOK) {en : xa_E} {i i1 : Nat} {ls ls1 st st1 : List xa_V} {h h1 : xa_H} {pl : List Nat} {idx : Nat} (hins : en.2.1 = .getfield idx) (hf : (G.1 mi)[i]? = some en) (hok : xa_ok G S mi i en pl = true) (ho : xa_one1 X en i ls st h = some (.inl (i1, ls1, st1, h1))) (hm : h1.length ≤ h'.length ∧ xa_sl h1 ≤ xa_sl h') (kk : xa_WW G mi b0 ca v3 D cI cQ p l e R s m args below meth c Q h' i1 ls1 st1 h1) : xa_WW G mi b0 ca v3 D cI cQ p l e R s m args below meth c Q h' i ls st h := by
  obtain ⟨pb, ins, ln, x⟩ := en
  dsimp only at hins
  subst hins
  intro pc H locs cells slots lr hat hL hR hS hc hs
  obtain ⟨hx, hb, hml, hown, hts, hF, h3, hb0, hnm, hfr, hlo⟩ := C
  simp only [xa_ok, Bool.and_eq_true] at hok
  obtain ⟨k1, k2, k3, k4⟩ := hok
  have hpc : pb = pc := xa_at_of hf hat
  subst hpc
  have hdg := xa_dec_of k1
  have hln : ln = 3 := by simpa [xa_lenOK, xa_len] using k2
  subst hln
  have hnx : xa_at G mi (i + 1) (pb + 3) = true := by simpa [xa_through] using k3
  dsimp only [xa_one1] at ho
  dsimp only at hdg
  unfold xa_getf at ho
  split at ho
  · next ci k a st0 =>
    split at ho
    · next c2 fs e1 =>
      split at ho
      · next hc2 =>
        split at ho
        · next v hv =>
          cases ho
          match pl, k4 with
          | [q], k4 =>
            simp only [xa_extra] at k4
            split at k4
            · next r hr =>
              simp only [Bool.and_eq_true, decide_eq_true_eq] at k4
              obtain ⟨g1, g2, g3⟩ := k4
              obtain ⟨n1, n2, n3, ty, n4, n5⟩ := hCl _ _ hr
              obtain ⟨C, T, N⟩ := r
              dsimp only at g1 g2 g3 n1
              subst hc2
              refine va_get (ref := C) (T := T) hx hb hts n1 hown hF.1 hR.2 a (xa_W_get e1) hr k.toNat g1 (hts _ (xa_in_tb g3)) (fun x hx => by rw [g2] at hx; exact hx) (v := xa_cv b0 ca v3 v) ?_ hdg (kk _ H locs cells slots lr hnx hL hR hS hc hs)
              rw [List.getElem?_map, hv]
              rfl
            · cases k4
        · cases ho
      · cases ho
    · cases ho
  · next f c2 st0 =>
    split at ho
    · next hc2 =>
      match pl, k4 with
      | [q], k4 =>
        simp only [xa_extra, Bool.or_eq_true, Bool.and_eq_true, decide_eq_true_eq] at k4
        have hO := hF.2.2.2.2.2.2.2 c2 hc2.1 hc2.2
        have e3 : xa_cv b0 ca v3 (xC c2) = .ref (ca c2) := xa_cv_C (by omega) (by omega)
        rcases k4 with ⟨f0, g⟩ | ⟨f1, g⟩
        · rw [if_pos f0] at ho
          cases ho
          rw [List.map_cons, e3]
          exact vk_getf hx hb hO.2.1 hS hown (hts _ (xa_in_tb g)) (fun x hx => hx) hdg (kk _ H locs cells slots lr hnx hL hR hS hc hs)
        · rw [if_neg (by omega), if_pos f1] at ho
          cases ho
          have e4 := kk _ H locs cells slots lr hnx hL hR hS hc hs
          rw [List.map_cons, xa_cv_C (by omega) (by omega)] at e4
          rw [List.map_cons, e3]
          exact vk_getf hx hb hO.2.2 hS hown (hts _ (xa_in_tb g)) (fun x hx => hx) hdg e4
    · cases ho
  · cases ho
theorem xa_s_putfield (C : xa_Cx G S mi X b0 ca v3 D cI cQ p R s m args meth c) (hCl : xa_ClOK) {en : xa_E} {i i1 : Nat} {ls ls1 st st1 : List xa_V} {h h1 : xa_H} {pl : List Nat} {idx : Nat} (hins : en.2.1 = .putfield idx) (hf : (G.1 mi)[i]? = some en) (hok : xa_ok G S mi i en pl = true) (ho : xa_one1 X en i ls st h = some (.inl (i1, ls1, st1, h1))) (hm : h1.length ≤ h'.length ∧ xa_sl h1 ≤ xa_sl h') (kk : xa_WW G mi b0 ca v3 D cI cQ p l e R s m args below meth c Q h' i1 ls1 st1 h1) : xa_WW G mi b0 ca v3 D cI cQ p l e R s m args below meth c Q h' i ls st h := by
  obtain ⟨pb, ins, ln, x⟩ := en
  dsimp only at hins
  subst hins
  intro pc H locs cells slots lr hat hL hR hS hc hs
  obtain ⟨hx, hb, hml, hown, hts, hF, h3, hb0, hnm, hfr, hlo⟩ := C
  simp only [xa_ok, Bool.and_eq_true] at hok
  obtain ⟨k1, k2, k3, k4⟩ := hok
  have hpc : pb = pc := xa_at_of hf hat
  subst hpc
  have hdg := xa_dec_of k1
  have hln : ln = 3 := by simpa [xa_lenOK, xa_len] using k2
  subst hln
  have hnx : xa_at G mi (i + 1) (pb + 3) = true := by simpa [xa_through] using k3
  dsimp only [xa_one1] at ho
  dsimp only at hdg
  unfold xa_putf at ho
  split at ho
  · next k0 ci k t v a st0 =>
    split at ho
    · next c2 fs e1 =>
      split at ho
      · next hq =>
        cases ho
        obtain ⟨hc2, hkl, hft⟩ := hq
        match pl, k4 with
        | [q], k4 =>
          simp only [xa_extra] at k4
          split at k4
          · next r hr =>
            simp only [Bool.and_eq_true, Bool.or_eq_true, Bool.not_eq_true', decide_eq_true_eq] at k4
            obtain ⟨g1, g2, g3, g4, g5⟩ := k4
            obtain ⟨n1, n2, n3, ty, n4, n5⟩ := hCl _ _ hr
            obtain ⟨C, T, N⟩ := r
            dsimp only at g1 g2 g3 g4 g5 n1 n2 n4
            subst hc2
            have key : narrow (ty k.toNat) (xa_cv b0 ca v3 v) = xa_cv b0 ca v3 v ∧ fits (ty k.toNat) (xa_cv b0 ca v3 v) = true := by
              have hp := n4 k.toNat g1
              rcases g5 with ⟨t0, gd⟩ | ⟨t1, gd⟩ | ⟨t2, gd⟩
              · rw [gd] at hp
                have : ty k.toNat = .int := (Option.some.inj ((show parseFieldDescriptor "I" = some .int by decide +kernel).symm.trans hp)).symm
                rw [this]
                subst t0
                match v, hft with
                | .inl z, _ => exact ⟨rfl, rfl⟩
              · rw [gd] at hp
                have : ty k.toNat = .boolean := (Option.some.inj ((show parseFieldDescriptor "Z" = some .boolean by decide +kernel).symm.trans hp)).symm
                rw [this]
                subst t1
                match v, hft with
                | .inl z, hft =>
                  have hz : z = 0 ∨ z = 1 := by simpa [xa_fit] using hft
                  rcases hz with rfl | rfl
                  · exact ⟨rfl, rfl⟩
                  · exact ⟨rfl, rfl⟩
              · subst t2
                match v, hft with
                | .inl z, hft => simp [xa_fit] at hft
                | .inr (.inr (.inl y)), _ =>
                  unfold xa_refD at gd
                  rw [hp] at gd
                  cases hty : ty k.toNat <;> rw [hty] at gd <;> first | exact ⟨rfl, rfl⟩ | simp at gd
            refine xa_put hx hb hts n1 ty n4 n2 hown hF.1 hR.2 xa_W_D hS a (xa_W_get e1) hr k.toNat g1 g2 (hts _ (xa_in_tb g3)) ?_ (n4 _ g1) key.1 key.2 (by rw [List.length_map]; exact hkl) hdg (fun H1 locs1 z1 P1 S1 => ?_)
            · rcases g4 with ⟨-, g⟩ | ⟨-, g, g', g''⟩
              · exact Or.inl g
              · exact Or.inr ⟨g, hnm.trans g', g''⟩
            · refine kk _ H1 locs1 cells slots lr hnx hL (xa_Rel_set hR ?_ z1) S1 (by rw [List.length_set]; exact hc) (by rw [xa_sl_set e1 (by simp)]; exact hs)
              rw [show xa_ce b0 ca v3 cI cQ (0, ci.toNat, fs.set k.toNat v) = .inr (ci.toNat, (fs.map (xa_cv b0 ca v3)).set k.toNat (xa_cv b0 ca v3 v)) by rw [← List.map_set]; rfl]
              exact P1
          · cases k4
      · cases ho
    · cases ho
  · cases ho
theorem xa_s_getstatic (C : xa_Cx G S mi X b0 ca v3 D cI cQ p R s m args meth c) {en : xa_E} {i i1 : Nat} {ls ls1 st st1 : List xa_V} {h h1 : xa_H} {pl : List Nat} {idx : Nat} (hins : en.2.1 = .getstatic idx) (hf : (G.1 mi)[i]? = some en) (hok : xa_ok G S mi i en pl = true) (ho : xa_one1 X en i ls st h = some (.inl (i1, ls1, st1, h1))) (hm : h1.length ≤ h'.length ∧ xa_sl h1 ≤ xa_sl h') (kk : xa_WW G mi b0 ca v3 D cI cQ p l e R s m args below meth c Q h' i1 ls1 st1 h1) : xa_WW G mi b0 ca v3 D cI cQ p l e R s m args below meth c Q h' i ls st h := by
  obtain ⟨pb, ins, ln, x⟩ := en
  dsimp only at hins
  subst hins
  intro pc H locs cells slots lr hat hL hR hS hc hs
  obtain ⟨hx, hb, hml, hown, hts, hF, h3, hb0, hnm, hfr, hlo⟩ := C
  simp only [xa_ok, Bool.and_eq_true] at hok
  obtain ⟨k1, k2, k3, k4⟩ := hok
  have hpc : pb = pc := xa_at_of hf hat
  subst hpc
  have hdg := xa_dec_of k1
  have hln : ln = 3 := by simpa [xa_lenOK, xa_len] using k2
  subst hln
  have hnx : xa_at G mi (i + 1) (pb + 3) = true := by simpa [xa_through] using k3
  dsimp only [xa_one1] at ho
  dsimp only at hdg
  have key : ∀ (q : String × (String × (String × xa_V))), q ∈ xa_st → x = xa_stx q.2.2.2 → (W p l e R s m args below meth c H locs cells slots Q (F0 m (pb + 3) lr (xa_cv b0 ca v3 q.2.2.2 :: st.map (xa_cv b0 ca v3)))) := by
    intro q hq hxq
    have hcase : ∀ q ∈ xa_st, (∃ z, q.2.2.2 = xI z) ∨ ∃ c, q.2.2.2 = xC c := by
      intro q hq
      simp only [xa_st, List.mem_cons, List.not_mem_nil, or_false] at hq
      rcases hq with rfl | rfl | rfl | rfl | rfl | rfl <;> first | exact Or.inl ⟨_, rfl⟩ | exact Or.inr ⟨_, rfl⟩
    rcases hcase q hq with ⟨z, hz⟩ | ⟨z, hz⟩
    · rw [hz] at hxq ⊢
      rw [show x = [1, z] from hxq] at ho
      cases ho
      exact kk _ H locs cells slots lr hnx hL hR hS hc hs
    · rw [hz] at hxq ⊢
      rw [show x = [0, (z : Int)] from hxq] at ho
      cases ho
      exact kk _ H locs cells slots lr hnx hL hR hS hc hs
  match pl, k4 with
  | [q, j], k4 =>
    simp only [xa_extra] at k4
    split at k4
    · next r hr =>
      simp only [Bool.and_eq_true, decide_eq_true_eq] at k4
      have hm := List.mem_of_getElem? hr
      exact va_gets hx hb (hF.2.2.2.2.1 r hm) hS hown (hts _ (xa_in_tb k4.2)) (fun x hx => hx) hdg (key r hm k4.1)
    · cases k4
  | [q, j, _], k4 =>
    simp only [xa_extra] at k4
    split at k4
    · next r hr =>
      simp only [Bool.and_eq_true, decide_eq_true_eq] at k4
      have hm := List.mem_of_getElem? hr
      exact va_getsN hx hb (hF.2.2.2.2.1 r hm) hS hown (va_Nw.use rfl (hF.2.1 _ (xa_in_nw k4.2))) (fun x hx => hx) hdg (key r hm k4.1)
    · cases k4
theorem xa_s_iaload (C : xa_Cx G S mi X b0 ca v3 D cI cQ p R s m args meth c) {en : xa_E} {i i1 : Nat} {ls ls1 st st1 : List xa_V} {h h1 : xa_H} {pl : List Nat}  (hins : en.2.1 = .iaload) (hf : (G.1 mi)[i]? = some en) (hok : xa_ok G S mi i en pl = true) (ho : xa_one1 X en i ls st h = some (.inl (i1, ls1, st1, h1))) (hm : h1.length ≤ h'.length ∧ xa_sl h1 ≤ xa_sl h') (kk : xa_WW G mi b0 ca v3 D cI cQ p l e R s m args below meth c Q h' i1 ls1 st1 h1) : xa_WW G mi b0 ca v3 D cI cQ p l e R s m args below meth c Q h' i ls st h := by
  obtain ⟨pb, ins, ln, x⟩ := en
  dsimp only at hins
  subst hins
  intro pc H locs cells slots lr hat hL hR hS hc hs
  obtain ⟨hx, hb, hml, hown, hts, hF, h3, hb0, hnm, hfr, hlo⟩ := C
  simp only [xa_ok, Bool.and_eq_true] at hok
  obtain ⟨k1, k2, k3, k4⟩ := hok
  have hpc : pb = pc := xa_at_of hf hat
  subst hpc
  have hdg := xa_dec_of k1
  have hln : ln = 1 := by simpa [xa_lenOK, xa_len] using k2
  subst hln
  have hnx : xa_at G mi (i + 1) (pb + 1) = true := by simpa [xa_through] using k3
  dsimp only [xa_one1] at ho
  dsimp only at hdg
  unfold xa_iald at ho
  split at ho
  · next j a st0 =>
    split at ho
    · next c2 xs e1 =>
      split at ho
      · next hq =>
        split at ho
        · next z hz =>
          cases ho
          obtain ⟨q1, q2, q3⟩ := hq
          have e4 := kk _ H locs cells slots lr hnx hL hR hS hc hs
          refine va_iald hx hb hF.1 hR.2 a 0 (xa_W_get e1) rfl (xa_vin q1 q2 q3) hdg ?_
          rw [xa_nat q1 q3, List.getD_eq_getElem?_getD, hz]
          exact e4
        · cases ho
      · cases ho
    · cases ho
  · next j c2 st0 =>
    split at ho
    · next xs e1 =>
      split at ho
      · next hq =>
        split at ho
        · next z hz =>
          cases ho
          obtain ⟨q1, q2, q3⟩ := hq
          have e4 := kk _ H locs cells slots lr hnx hL hR hS hc hs
          rw [List.map_cons, List.map_cons, xa_cv_C (xa_ca_ne e1).1 (xa_ca_ne e1).2]
          refine va_ti hx hb (hF.2.2.2.2.2.1 c2 xs e1) hS (xa_vin q1 q2 q3) (v := .int (Int32.ofInt z)) ?_ hdg e4
          rw [xa_nat q1 q3, List.getD_eq_getElem?_getD, hz]
          rfl
        · cases ho
      · cases ho
    · cases ho
  · cases ho
theorem xa_s_baload (C : xa_Cx G S mi X b0 ca v3 D cI cQ p R s m args meth c) {en : xa_E} {i i1 : Nat} {ls ls1 st st1 : List xa_V} {h h1 : xa_H} {pl : List Nat}  (hins : en.2.1 = .baload) (hf : (G.1 mi)[i]? = some en) (hok : xa_ok G S mi i en pl = true) (ho : xa_one1 X en i ls st h = some (.inl (i1, ls1, st1, h1))) (hm : h1.length ≤ h'.length ∧ xa_sl h1 ≤ xa_sl h') (kk : xa_WW G mi b0 ca v3 D cI cQ p l e R s m args below meth c Q h' i1 ls1 st1 h1) : xa_WW G mi b0 ca v3 D cI cQ p l e R s m args below meth c Q h' i ls st h := by
  obtain ⟨pb, ins, ln, x⟩ := en
  dsimp only at hins
  subst hins
  intro pc H locs cells slots lr hat hL hR hS hc hs
  obtain ⟨hx, hb, hml, hown, hts, hF, h3, hb0, hnm, hfr, hlo⟩ := C
  simp only [xa_ok, Bool.and_eq_true] at hok
  obtain ⟨k1, k2, k3, k4⟩ := hok
  have hpc : pb = pc := xa_at_of hf hat
  subst hpc
  have hdg := xa_dec_of k1
  have hln : ln = 1 := by simpa [xa_lenOK, xa_len] using k2
  subst hln
  have hnx : xa_at G mi (i + 1) (pb + 1) = true := by simpa [xa_through] using k3
  dsimp only [xa_one1] at ho
  dsimp only at hdg
  unfold xa_bald at ho
  split at ho
  · next j c2 st0 =>
    split at ho
    · next xs e1 =>
      split at ho
      · next hq =>
        split at ho
        · next z hz =>
          cases ho
          obtain ⟨q1, q2, q3⟩ := hq
          have e4 := kk _ H locs cells slots lr hnx hL hR hS hc hs
          rw [List.map_cons, List.map_cons, xa_cv_C (xa_cb_ne e1).1 (xa_cb_ne e1).2]
          refine va_tb hx hb (hF.2.2.2.2.2.2.1 c2 xs e1) hS (xa_vin q1 q2 q3) (v := .int (Int32.ofInt z)) ?_ hdg e4
          rw [xa_nat q1 q3, List.getD_eq_getElem?_getD, hz]
          rfl
        · cases ho
      · cases ho
    · cases ho
  · cases ho
theorem xa_s_iastore (C : xa_Cx G S mi X b0 ca v3 D cI cQ p R s m args meth c) {en : xa_E} {i i1 : Nat} {ls ls1 st st1 : List xa_V} {h h1 : xa_H} {pl : List Nat}  (hins : en.2.1 = .iastore) (hf : (G.1 mi)[i]? = some en) (hok : xa_ok G S mi i en pl = true) (ho : xa_one1 X en i ls st h = some (.inl (i1, ls1, st1, h1))) (hm : h1.length ≤ h'.length ∧ xa_sl h1 ≤ xa_sl h') (kk : xa_WW G mi b0 ca v3 D cI cQ p l e R s m args below meth c Q h' i1 ls1 st1 h1) : xa_WW G mi b0 ca v3 D cI cQ p l e R s m args below meth c Q h' i ls st h := by
  obtain ⟨pb, ins, ln, x⟩ := en
  dsimp only at hins
  subst hins
  intro pc H locs cells slots lr hat hL hR hS hc hs
  obtain ⟨hx, hb, hml, hown, hts, hF, h3, hb0, hnm, hfr, hlo⟩ := C
  simp only [xa_ok, Bool.and_eq_true] at hok
  obtain ⟨k1, k2, k3, k4⟩ := hok
  have hpc : pb = pc := xa_at_of hf hat
  subst hpc
  have hdg := xa_dec_of k1
  have hln : ln = 1 := by simpa [xa_lenOK, xa_len] using k2
  subst hln
  have hnx : xa_at G mi (i + 1) (pb + 1) = true := by simpa [xa_through] using k3
  dsimp only [xa_one1] at ho
  dsimp only at hdg
  unfold xa_iast at ho
  split at ho
  · next z j a st0 =>
    split at ho
    · next c2 xs e1 =>
      split at ho
      · next hq =>
        cases ho
        obtain ⟨q1, q2, q3⟩ := hq
        have hA := hR.2 a _ (xa_W_get e1)
        have hin := xa_vin q1 q2 q3
        refine W.iast hx hb hA ((hF.1.2 0 _ rfl).1 xs.length (fun k => .int (xa_iv (xs.getD k (xC 0))))) (fun q => by cases q) (by show ¬ (_ ∨ (arrV _ _ _).slots.size ≤ _); rw [arrV_size]; exact hin) rfl rfl hdg fun H1 e5 z1 oq => ?_
        have e6 : xa_ce b0 ca v3 cI cQ (1, c2, xs.set j.toNat (xI z)) = .inl (cI, xs.length, .inl (upd (fun k => xa_iv (xs.getD k (xC 0))) j.toNat (Int32.ofInt z))) := by
          show (Sum.inl (cI, (xs.set j.toNat (xI z)).length, Sum.inl (fun k => xa_iv ((xs.set j.toNat (xI z)).getD k (xC 0)))) : va_E) = _
          rw [List.length_set]
          congr 4
          funext k
          unfold upd
          by_cases hk : k = j.toNat
          · subst hk
            rw [if_pos rfl, List.getD_eq_getElem?_getD, List.getElem?_set_self (by omega)]
            rfl
          · rw [if_neg hk, List.getD_eq_getElem?_getD, List.getElem?_set_ne (by omega)]
            show _ = _
            dsimp only
            rw [List.getD_eq_getElem?_getD]
        refine kk _ H1 _ cells slots lr hnx hL (xa_Rel_set hR ?_ z1) (hS.put z1 oq (Nat.le_add_right b0 a)) (by rw [List.length_set]; exact hc) (by rw [xa_sl_set e1 (by simp)]; exact hs)
        rw [e6]
        refine hR.2.set xa_W_D (xa_W_get e1) ?_ oq
        show H1[b0 + a]? = some (vp_cell _ _)
        rw [e5, xa_nat q1 q3]
        show some ((arrV cI xs.length (fun k => .int (xa_iv (xs.getD k (xC 0))))).setSlot j.toNat (.int (Int32.ofInt z))) = some (arrV cI xs.length (fun k => .int (upd (fun k => xa_iv (xs.getD k (xC 0))) j.toNat (Int32.ofInt z) k)))
        rw [arrV_store]
        congr 2
        funext k
        unfold updV upd
        by_cases hk : k = j.toNat
        · rw [if_pos hk, if_pos hk]
        · rw [if_neg hk, if_neg hk]
      · cases ho
    · cases ho
  · cases ho
theorem xa_s_aaload (C : xa_Cx G S mi X b0 ca v3 D cI cQ p R s m args meth c) {en : xa_E} {i i1 : Nat} {ls ls1 st st1 : List xa_V} {h h1 : xa_H} {pl : List Nat}  (hins : en.2.1 = .aaload) (hf : (G.1 mi)[i]? = some en) (hok : xa_ok G S mi i en pl = true) (ho : xa_one1 X en i ls st h = some (.inl (i1, ls1, st1, h1))) (hm : h1.length ≤ h'.length ∧ xa_sl h1 ≤ xa_sl h') (kk : xa_WW G mi b0 ca v3 D cI cQ p l e R s m args below meth c Q h' i1 ls1 st1 h1) : xa_WW G mi b0 ca v3 D cI cQ p l e R s m args below meth c Q h' i ls st h := by
  obtain ⟨pb, ins, ln, x⟩ := en
  dsimp only at hins
  subst hins
  intro pc H locs cells slots lr hat hL hR hS hc hs
  obtain ⟨hx, hb, hml, hown, hts, hF, h3, hb0, hnm, hfr, hlo⟩ := C
  simp only [xa_ok, Bool.and_eq_true] at hok
  obtain ⟨k1, k2, k3, k4⟩ := hok
  have hpc : pb = pc := xa_at_of hf hat
  subst hpc
  have hdg := xa_dec_of k1
  have hln : ln = 1 := by simpa [xa_lenOK, xa_len] using k2
  subst hln
  have hnx : xa_at G mi (i + 1) (pb + 1) = true := by simpa [xa_through] using k3
  dsimp only [xa_one1] at ho
  dsimp only at hdg
  unfold xa_aald at ho
  split at ho
  · next j a st0 =>
    split at ho
    · next c2 xs e1 =>
      split at ho
      · next hq =>
        split at ho
        · next b hz =>
          cases ho
          obtain ⟨q0, q1, q2, q3⟩ := hq
          have e4 := kk _ H locs cells slots lr hnx hL hR hS hc hs
          have e5 : va_rf ((fun k => xa_ri b0 (xs.getD k (xC 0))) (Int32.ofInt j).toNatClampNeg) = .ref (b0 + b) := by
            dsimp only
            rw [xa_nat q1 q3, List.getD_eq_getElem?_getD, hz]
            rfl
          rcases q0 with rfl | rfl | rfl
          · refine va_aldq hx hb hF.1 hR.2 a 1 (xa_W_get e1) rfl (xa_vin q1 q2 q3) hdg ?_
            rw [e5]
            exact e4
          · refine va_aldq hx hb hF.1 hR.2 a 2 (xa_W_get e1) rfl (xa_vin q1 q2 q3) hdg ?_
            rw [e5]
            exact e4
          · refine va_aldq hx hb hF.1 hR.2 a 3 (xa_W_get e1) rfl (xa_vin q1 q2 q3) hdg ?_
            rw [e5]
            exact e4
        · cases ho
      · cases ho
    · cases ho
  · cases ho
theorem xa_s_aastore (C : xa_Cx G S mi X b0 ca v3 D cI cQ p R s m args meth c) {en : xa_E} {i i1 : Nat} {ls ls1 st st1 : List xa_V} {h h1 : xa_H} {pl : List Nat}  (hins : en.2.1 = .aastore) (hf : (G.1 mi)[i]? = some en) (hok : xa_ok G S mi i en pl = true) (ho : xa_one1 X en i ls st h = some (.inl (i1, ls1, st1, h1))) (hm : h1.length ≤ h'.length ∧ xa_sl h1 ≤ xa_sl h') (kk : xa_WW G mi b0 ca v3 D cI cQ p l e R s m args below meth c Q h' i1 ls1 st1 h1) : xa_WW G mi b0 ca v3 D cI cQ p l e R s m args below meth c Q h' i ls st h := by
  obtain ⟨pb, ins, ln, x⟩ := en
  dsimp only at hins
  subst hins
  intro pc H locs cells slots lr hat hL hR hS hc hs
  obtain ⟨hx, hb, hml, hown, hts, hF, h3, hb0, hnm, hfr, hlo⟩ := C
  simp only [xa_ok, Bool.and_eq_true] at hok
  obtain ⟨k1, k2, k3, k4⟩ := hok
  have hpc : pb = pc := xa_at_of hf hat
  subst hpc
  have hdg := xa_dec_of k1
  have hln : ln = 1 := by simpa [xa_lenOK, xa_len] using k2
  subst hln
  have hnx : xa_at G mi (i + 1) (pb + 1) = true := by simpa [xa_through] using k3
  dsimp only [xa_one1] at ho
  dsimp only at hdg
  unfold xa_aast at ho
  split at ho
  · next b j a st0 =>
    split at ho
    · next c2 xs c3 fs e1 e2 =>
      split at ho
      · next hq =>
        cases ho
        obtain ⟨q00, q0, qab, q1, q2, q3⟩ := hq
        subst q00
        have hA := hR.2 a _ (xa_W_get e1)
        obtain ⟨r', hr', cellV, g1, g2, g3, -⟩ := hR.2 b _ (xa_W_get e2)
        have hin := xa_vin q1 q2 q3
        have hK2 : ∃ C T N, xb_cl[c3]? = some (C, T, N) ∧ va_RA s (cQ c3) (.object C) := by
          rcases q0 with rfl | rfl | rfl
          · exact ⟨_, _, _, rfl, (hF.1.2 1 _ rfl).2⟩
          · exact ⟨_, _, _, rfl, (hF.1.2 2 _ rfl).2⟩
          · exact ⟨_, _, _, rfl, (hF.1.2 3 _ rfl).2⟩
        obtain ⟨C, T, N, hcl, kA, comp, k5, k6, k7, -⟩ := hK2
        have hcls := (hF.1.1 c3 _ hcl).2
        have hcomp : comp = D.1 c3 := Option.some.inj (k7.symm.trans hcls.1)
        subst hcomp
        obtain ⟨kC, hkC, -⟩ := hcls.2
        refine W.aast hx hb hA (fun q h => by cases h) (fun h => by cases h) k5 k6 rfl hkC ⟨fun q => hin (Or.inl q), by show _ < (arrV _ _ _).slots.size; rw [arrV_size]; exact Nat.not_le.mp fun q => hin (Or.inr q)⟩ g1 (fun q h => by rw [g3] at h; cases h) (by rw [g2]; exact hkC) (by rw [g2]; exact va_assign hcls) rfl rfl hdg fun H1 e5 z1 oq => ?_
        have e6 : xa_ce b0 ca v3 cI cQ (2, c3, xs.set j.toNat (xR b)) = .inl (cQ c3, xs.length, .inr (.inr (.inr (.inr (va_up (fun k => xa_ri b0 (xs.getD k (xC 0))) j.toNat (some (b0 + b))))))) := by
          show (Sum.inl (cQ c3, (xs.set j.toNat (xR b)).length, Sum.inr (Sum.inr (Sum.inr (Sum.inr (fun k => xa_ri b0 ((xs.set j.toNat (xR b)).getD k (xC 0))))))) : va_E) = _
          rw [List.length_set]
          congr 7
          funext k
          unfold va_up
          by_cases hk : k = j.toNat
          · subst hk
            rw [if_pos rfl, List.getD_eq_getElem?_getD, List.getElem?_set_self (by omega)]
            rfl
          · rw [if_neg hk, List.getD_eq_getElem?_getD, List.getElem?_set_ne (by omega)]
            show _ = _
            dsimp only
            rw [List.getD_eq_getElem?_getD]
        refine kk _ H1 _ cells slots lr hnx hL (xa_Rel_set hR ?_ z1) (hS.put z1 oq (Nat.le_add_right b0 a)) (by rw [List.length_set]; exact hc) (by rw [xa_sl_set e1 (by simp)]; exact hs)
        rw [e6]
        refine hR.2.set xa_W_D (xa_W_get e1) ?_ oq
        show H1[b0 + a]? = some (vp_cell _ _)
        rw [e5, xa_nat q1 q3]
        show some ((arrV (cQ c3) xs.length (fun k => va_rf (xa_ri b0 (xs.getD k (xC 0))))).setSlot j.toNat (.ref (b0 + b))) = some (arrV (cQ c3) xs.length (fun k => va_rf (va_up (fun k => xa_ri b0 (xs.getD k (xC 0))) j.toNat (some (b0 + b)) k)))
        rw [arrV_store]
        congr 2
        funext k
        unfold updV va_up
        by_cases hk : k = j.toNat
        · rw [if_pos hk, if_pos hk]
          rfl
        · rw [if_neg hk, if_neg hk]
      · cases ho
    · cases ho
  · cases ho
theorem xa_s_arraylength (C : xa_Cx G S mi X b0 ca v3 D cI cQ p R s m args meth c) {en : xa_E} {i i1 : Nat} {ls ls1 st st1 : List xa_V} {h h1 : xa_H} {pl : List Nat}  (hins : en.2.1 = .arraylength) (hf : (G.1 mi)[i]? = some en) (hok : xa_ok G S mi i en pl = true) (ho : xa_one1 X en i ls st h = some (.inl (i1, ls1, st1, h1))) (hm : h1.length ≤ h'.length ∧ xa_sl h1 ≤ xa_sl h') (kk : xa_WW G mi b0 ca v3 D cI cQ p l e R s m args below meth c Q h' i1 ls1 st1 h1) : xa_WW G mi b0 ca v3 D cI cQ p l e R s m args below meth c Q h' i ls st h := by
  obtain ⟨pb, ins, ln, x⟩ := en
  dsimp only at hins
  subst hins
  intro pc H locs cells slots lr hat hL hR hS hc hs
  obtain ⟨hx, hb, hml, hown, hts, hF, h3, hb0, hnm, hfr, hlo⟩ := C
  simp only [xa_ok, Bool.and_eq_true] at hok
  obtain ⟨k1, k2, k3, k4⟩ := hok
  have hpc : pb = pc := xa_at_of hf hat
  subst hpc
  have hdg := xa_dec_of k1
  have hln : ln = 1 := by simpa [xa_lenOK, xa_len] using k2
  subst hln
  have hnx : xa_at G mi (i + 1) (pb + 1) = true := by simpa [xa_through] using k3
  dsimp only [xa_one1] at ho
  dsimp only at hdg
  unfold xa_alen at ho
  split at ho
  · next a st0 =>
    split at ho
    · next c2 xs e1 =>
      split at ho
      · next hq =>
        cases ho
        have e4 := kk _ H locs cells slots lr hnx hL hR hS hc hs
        exact va_alen hx hb hF.1 hR.2 a 0 (xa_W_get e1) rfl rfl hdg e4
      · cases ho
    · cases ho
  · next c2 st0 =>
    split at ho
    · next xs e1 =>
      cases ho
      have e4 := kk _ H locs cells slots lr hnx hL hR hS hc hs
      rw [List.map_cons, xa_cv_C (xa_ca_ne e1).1 (xa_ca_ne e1).2]
      exact va_tlen hx hb (hF.2.2.2.2.2.1 c2 xs e1) hS rfl hdg e4
    · split at ho
      · next xs e1 =>
        cases ho
        have e4 := kk _ H locs cells slots lr hnx hL hR hS hc hs
        rw [List.map_cons, xa_cv_C (xa_cb_ne e1).1 (xa_cb_ne e1).2]
        exact va_tlen hx hb (hF.2.2.2.2.2.2.1 c2 xs e1) hS rfl hdg e4
      · cases ho
  · cases ho
theorem xa_s_new (C : xa_Cx G S mi X b0 ca v3 D cI cQ p R s m args meth c) (hCl : xa_ClOK) {en : xa_E} {i i1 : Nat} {ls ls1 st st1 : List xa_V} {h h1 : xa_H} {pl : List Nat} {idx : Nat} (hins : en.2.1 = .new idx) (hf : (G.1 mi)[i]? = some en) (hok : xa_ok G S mi i en pl = true) (ho : xa_one1 X en i ls st h = some (.inl (i1, ls1, st1, h1))) (hm : h1.length ≤ h'.length ∧ xa_sl h1 ≤ xa_sl h') (kk : xa_WW G mi b0 ca v3 D cI cQ p l e R s m args below meth c Q h' i1 ls1 st1 h1) : xa_WW G mi b0 ca v3 D cI cQ p l e R s m args below meth c Q h' i ls st h := by
  obtain ⟨pb, ins, ln, x⟩ := en
  dsimp only at hins
  subst hins
  intro pc H locs cells slots lr hat hL hR hS hc hs
  obtain ⟨hx, hb, hml, hown, hts, hF, h3, hb0, hnm, hfr, hlo⟩ := C
  simp only [xa_ok, Bool.and_eq_true] at hok
  obtain ⟨k1, k2, k3, k4⟩ := hok
  have hpc : pb = pc := xa_at_of hf hat
  subst hpc
  have hdg := xa_dec_of k1
  have hln : ln = 3 := by simpa [xa_lenOK, xa_len] using k2
  subst hln
  have hnx : xa_at G mi (i + 1) (pb + 3) = true := by simpa [xa_through] using k3
  dsimp only [xa_one1] at ho
  dsimp only at hdg
  unfold xa_new at ho
  split at ho
  · next ci =>
    cases ho
    rw [List.length_append, List.length_singleton] at hm
    have hsl : xa_sl (h ++ [(0, ci.toNat, xa_nf ci.toNat)]) = xa_sl h + (xa_nf ci.toNat).length := by simp [xa_sl]
    rw [hsl] at hm
    match pl, k4 with
    | [q1, q2, q3], k4 =>
      simp only [xa_extra] at k4
      split at k4
      · next r hr =>
        simp only [Bool.and_eq_true] at k4
        obtain ⟨g1, g2, g3⟩ := k4
        obtain ⟨n1, n2, n3, ty, n4, n5⟩ := hCl _ _ hr
        obtain ⟨C, T, N⟩ := r
        dsimp only at g1 g2 g3 n1 n3 n4 n5
        have hKn := hF.1.1 _ _ hr
        refine W.newcK hx hb hown (hts _ (xa_in_tb g1)) (hts _ (xa_in_tb g2)) (hts _ (xa_in_tb g3)) rfl hdg (by omega) (by omega) hKn.2.1 hR.1 fun H1 kC hkC e1 z1 o1 => ?_
        have hk : ∀ (k : Nat) (x : Nat × va_E), (xa_W b0 ca v3 cI cQ h)[k]? = some x → H1[x.1]? = H[x.1]? := fun k x hx => o1 x.1 (by rw [← hR.1]; exact (hR.2 k x hx).lt)
        refine kk _ H1 locs (cells + 1) (slots + N) lr hnx hL ⟨by rw [z1, List.length_append, List.length_singleton]; omega, ?_⟩ ⟨Nat.le_trans hS.1 (by have := hR.1; omega), fun x h1 h2 => (o1 x (by have := hS.1; have := hR.1; omega)).trans (hS.2.1 x h1 h2), hS.2.2⟩ (by rw [List.length_append, List.length_singleton]; omega) (by rw [hsl, n3]; omega)
        rw [xa_W_push]
        refine (hR.2.kept hk).app (fun k x hx => ?_)
        have hz : k < 1 := (List.getElem?_eq_some_iff.mp hx).1
        rw [show k = 0 by omega] at hx
        cases hx
        exact ⟨_, hr, (u_born ty hts n1 hKn hkC e1 n4).to (n5 b0 ca v3)⟩
      · cases k4
  · cases ho
theorem xa_s_newarray (C : xa_Cx G S mi X b0 ca v3 D cI cQ p R s m args meth c) {en : xa_E} {i i1 : Nat} {ls ls1 st st1 : List xa_V} {h h1 : xa_H} {pl : List Nat} {aty : Jvm.ClassFile.ArrayType} (hins : en.2.1 = .newarray aty) (hf : (G.1 mi)[i]? = some en) (hok : xa_ok G S mi i en pl = true) (ho : xa_one1 X en i ls st h = some (.inl (i1, ls1, st1, h1))) (hm : h1.length ≤ h'.length ∧ xa_sl h1 ≤ xa_sl h') (kk : xa_WW G mi b0 ca v3 D cI cQ p l e R s m args below meth c Q h' i1 ls1 st1 h1) : xa_WW G mi b0 ca v3 D cI cQ p l e R s m args below meth c Q h' i ls st h := by
  obtain ⟨pb, ins, ln, x⟩ := en
  dsimp only at hins
  subst hins
  intro pc H locs cells slots lr hat hL hR hS hc hs
  obtain ⟨hx, hb, hml, hown, hts, hF, h3, hb0, hnm, hfr, hlo⟩ := C
  simp only [xa_ok, Bool.and_eq_true] at hok
  obtain ⟨k1, k2, k3, k4⟩ := hok
  have hpc : pb = pc := xa_at_of hf hat
  subst hpc
  have hdg := xa_dec_of k1
  have hln : ln = 2 := by simpa [xa_lenOK, xa_len] using k2
  subst hln
  have hnx : xa_at G mi (i + 1) (pb + 2) = true := by simpa [xa_through] using k3
  dsimp only [xa_one1] at ho
  dsimp only at hdg
  unfold xa_newi at ho
  split at ho
  · next n st0 =>
    split at ho
    · next hq =>
      cases ho
      rw [List.length_append, List.length_singleton] at hm
      have hsl : xa_sl (h ++ [(1, 0, List.replicate n.toNat (xI 0))]) = xa_sl h + n.toNat := by simp [xa_sl]
      rw [hsl] at hm
      match pl, k4 with
      | [q1], k4 =>
        simp only [xa_extra, Bool.and_eq_true, decide_eq_true_eq] at k4
        obtain ⟨g1, g2⟩ := k4
        subst g1
        refine va_newaK hx hb (hts _ (xa_in_tb g2)) rfl hdg rfl (fun q => by have := (xa_ilt (b := 0) ⟨by omega, by omega⟩ xa_r0).mp q; omega) (xa_nat hq.1 (by omega)) (by show n.toNat * 4 ≤ 536870912; omega) (by omega) (by omega) hR.1 fun H1 cA e1 z1 o1 hAr hNm => ?_
        have hcA : cA = cI := Option.some.inj (hNm.symm.trans (hF.1.2 0 _ rfl).2)
        subst hcA
        have hk : ∀ (k : Nat) (x : Nat × va_E), (xa_W b0 ca v3 cA cQ h)[k]? = some x → H1[x.1]? = H[x.1]? := fun k x hx => o1 x.1 (by rw [← hR.1]; exact (hR.2 k x hx).lt)
        refine kk _ H1 locs (cells + 1) (slots + n.toNat) lr hnx hL ⟨by rw [z1, List.length_append, List.length_singleton]; omega, ?_⟩ ⟨Nat.le_trans hS.1 (by have := hR.1; omega), fun x h1 h2 => (o1 x (by have := hS.1; have := hR.1; omega)).trans (hS.2.1 x h1 h2), hS.2.2⟩ (by rw [List.length_append, List.length_singleton]; omega) (by rw [hsl]; omega)
        rw [xa_W_push]
        refine (hR.2.kept hk).app (fun k x hx => ?_)
        have hz : k < 1 := (List.getElem?_eq_some_iff.mp hx).1
        rw [show k = 0 by omega] at hx
        cases hx
        show H1[b0 + h.length]? = some (vp_cell _ _)
        rw [e1, vp_cell_i]
        congr 2
        · simp
        · funext j
          show Value.int 0 = _
          rw [List.getD_eq_getElem?_getD, List.getElem?_replicate]
          split <;> rfl
    · cases ho
  · cases ho
theorem xa_s_anewarray (C : xa_Cx G S mi X b0 ca v3 D cI cQ p R s m args meth c) {en : xa_E} {i i1 : Nat} {ls ls1 st st1 : List xa_V} {h h1 : xa_H} {pl : List Nat} {idx : Nat} (hins : en.2.1 = .anewarray idx) (hf : (G.1 mi)[i]? = some en) (hok : xa_ok G S mi i en pl = true) (ho : xa_one1 X en i ls st h = some (.inl (i1, ls1, st1, h1))) (hm : h1.length ≤ h'.length ∧ xa_sl h1 ≤ xa_sl h') (kk : xa_WW G mi b0 ca v3 D cI cQ p l e R s m args below meth c Q h' i1 ls1 st1 h1) : xa_WW G mi b0 ca v3 D cI cQ p l e R s m args below meth c Q h' i ls st h := by
  obtain ⟨pb, ins, ln, x⟩ := en
  dsimp only at hins
  subst hins
  intro pc H locs cells slots lr hat hL hR hS hc hs
  obtain ⟨hx, hb, hml, hown, hts, hF, h3, hb0, hnm, hfr, hlo⟩ := C
  simp only [xa_ok, Bool.and_eq_true] at hok
  obtain ⟨k1, k2, k3, k4⟩ := hok
  have hpc : pb = pc := xa_at_of hf hat
  subst hpc
  have hdg := xa_dec_of k1
  have hln : ln = 3 := by simpa [xa_lenOK, xa_len] using k2
  subst hln
  have hnx : xa_at G mi (i + 1) (pb + 3) = true := by simpa [xa_through] using k3
  dsimp only [xa_one1] at ho
  dsimp only at hdg
  unfold xa_newq at ho
  split at ho
  · next ci n st0 =>
    split at ho
    · next hq =>
      cases ho
      rw [List.length_append, List.length_singleton] at hm
      have hsl : xa_sl (h ++ [(2, ci.toNat, List.replicate n.toNat (xC 0))]) = xa_sl h + n.toNat := by simp [xa_sl]
      rw [hsl] at hm
      match pl, k4 with
      | [q1], k4 =>
        simp only [xa_extra] at k4
        split at k4
        · next r hr =>
          simp only [Bool.and_eq_true, decide_eq_true_eq] at k4
          obtain ⟨g0, g1, g2⟩ := k4
          obtain ⟨C, T, N⟩ := r
          dsimp only at g1 g2
          have hK2 : va_RA s (cQ ci.toNat) (.object C) := by
            rcases g0 with rfl | rfl | rfl
            · cases hr; exact (hF.1.2 1 _ rfl).2
            · cases hr; exact (hF.1.2 2 _ rfl).2
            · cases hr; exact (hF.1.2 3 _ rfl).2
          have hnn : (Int32.ofInt n).toNatClampNeg = n.toNat := xa_nat hq.1 (by omega)
          refine W.anew hx hb hown (hts _ (xa_in_tb g2)) (va_AO.use (hF.2.2.1 _ g1)) rfl hdg rfl (fun q => by have := (xa_ilt (b := 0) ⟨by omega, by omega⟩ xa_r0).mp q; omega) (by rw [hnn]; omega) (by omega) (by rw [hnn]; omega) fun cA kA comp f1 f2 f3 f4 => ?_
          rw [hnn, hR.1]
          obtain ⟨kA2, comp2, j1, j2, j3, j4⟩ := hK2
          have hcA : cA = cQ ci.toNat := Option.some.inj (f1.symm.trans j4)
          subst hcA
          generalize hH1 : H.push ({ cls := cQ ci.toNat, slots := Array.replicate n.toNat .null, vm := .none } : Cell) = H1
          have z1 : H1.size = H.size + 1 := by rw [← hH1, Array.size_push]
          have e1 : H1[b0 + h.length]? = some (arrV (cQ ci.toNat) n.toNat (fun _ => .null)) := by rw [← hH1, ← hR.1, Array.getElem?_push_size, ← arrV_new]
          have o1 : ∀ q : Nat, q < H.size → H1[q]? = H[q]? := fun q hq => by rw [← hH1, Array.getElem?_push, if_neg (Nat.ne_of_lt hq)]
          have hk : ∀ (k : Nat) (x : Nat × va_E), (xa_W b0 ca v3 cI cQ h)[k]? = some x → H1[x.1]? = H[x.1]? := fun k x hx => o1 x.1 (hR.2 k x hx).lt
          refine kk _ H1 locs (cells + 1) (slots + n.toNat) lr hnx hL ⟨by rw [z1, List.length_append, List.length_singleton, hR.1]; omega, ?_⟩ ⟨Nat.le_trans hS.1 (by omega), fun x h1 h2 => (o1 x (by have := hS.1; omega)).trans (hS.2.1 x h1 h2), hS.2.2⟩ (by rw [List.length_append, List.length_singleton]; omega) (by rw [hsl]; omega)
          rw [xa_W_push]
          refine (hR.2.kept hk).app (fun k x hx => ?_)
          have hz : k < 1 := (List.getElem?_eq_some_iff.mp hx).1
          rw [show k = 0 by omega] at hx
          cases hx
          show H1[b0 + h.length]? = some (vp_cell _ _)
          rw [e1, vp_cell_q]
          congr 2
          · simp
          · funext j
            rw [List.getD_eq_getElem?_getD, List.getElem?_replicate]
            split <;> rfl
        · cases k4
    · cases ho
  · cases ho
end XS
