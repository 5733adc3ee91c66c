/-! CALLS OF THE JDK'S OWN; what a heap keeps -/
def xa_Gr (h h1 : xa_H) : Prop := h.length ≤ h1.length ∧ xa_sl h ≤ xa_sl h1
theorem xa_Gr_rf {h : xa_H} : xa_Gr h h := ⟨Nat.le_refl _, Nat.le_refl _⟩
theorem xa_Gr_set {h : xa_H} {k : Nat} {a b : xa_K} (e : h[k]? = some a) (hl : b.2.2.length = a.2.2.length) : xa_Gr h (h.set k b) := ⟨by rw [List.length_set]; exact Nat.le_refl _, by rw [xa_sl_set e hl]; exact Nat.le_refl _⟩
theorem xa_Gr_push {h : xa_H} {b : xa_K} : xa_Gr h (h ++ [b]) := ⟨by rw [List.length_append]; omega, by unfold xa_sl; rw [List.map_append, List.sum_append]; omega⟩
section XG
variable {i i1 : Nat} {ls ls1 st st1 : List xa_V} {h h1 : xa_H} {x : List Int} {X : List Int} {k : Nat} {cd : Jvm.ClassFile.Cond} {f : Int → Int → Int} {g : Int → Int} {lo hi : Int}
theorem xa_gr_aload (ho : xa_aload i ls st h k = some (.inl (i1, ls1, st1, h1))) : xa_Gr h h1 := by
  unfold xa_aload at ho
  repeat' split at ho
  all_goals first | (cases ho; exact xa_Gr_rf) | cases ho
theorem xa_gr_iload (ho : xa_iload i ls st h k = some (.inl (i1, ls1, st1, h1))) : xa_Gr h h1 := by
  unfold xa_iload at ho
  repeat' split at ho
  all_goals first | (cases ho; exact xa_Gr_rf) | cases ho
theorem xa_gr_lload (ho : xa_lload i ls st h k = some (.inl (i1, ls1, st1, h1))) : xa_Gr h h1 := by
  unfold xa_lload at ho
  repeat' split at ho
  all_goals first | (cases ho; exact xa_Gr_rf) | cases ho
theorem xa_gr_astore (ho : xa_astore i ls st h k = some (.inl (i1, ls1, st1, h1))) : xa_Gr h h1 := by
  unfold xa_astore at ho
  repeat' split at ho
  all_goals first | (cases ho; exact xa_Gr_rf) | cases ho
theorem xa_gr_istore (ho : xa_istore i ls st h k = some (.inl (i1, ls1, st1, h1))) : xa_Gr h h1 := by
  unfold xa_istore at ho
  repeat' split at ho
  all_goals first | (cases ho; exact xa_Gr_rf) | cases ho
theorem xa_gr_lstore (ho : xa_lstore i ls st h k = some (.inl (i1, ls1, st1, h1))) : xa_Gr h h1 := by
  unfold xa_lstore at ho
  repeat' split at ho
  all_goals first | (cases ho; exact xa_Gr_rf) | cases ho
theorem xa_gr_two (ho : xa_two f i ls st h = some (.inl (i1, ls1, st1, h1))) : xa_Gr h h1 := by
  unfold xa_two at ho
  repeat' split at ho
  all_goals first | (cases ho; exact xa_Gr_rf) | cases ho
theorem xa_gr_div (ho : xa_div f i ls st h = some (.inl (i1, ls1, st1, h1))) : xa_Gr h h1 := by
  unfold xa_div at ho
  repeat' split at ho
  all_goals first | (cases ho; exact xa_Gr_rf) | cases ho
theorem xa_gr_two64 (ho : xa_two64 f i ls st h = some (.inl (i1, ls1, st1, h1))) : xa_Gr h h1 := by
  unfold xa_two64 at ho
  repeat' split at ho
  all_goals first | (cases ho; exact xa_Gr_rf) | cases ho
theorem xa_gr_one (ho : xa_one g i ls st h = some (.inl (i1, ls1, st1, h1))) : xa_Gr h h1 := by
  unfold xa_one at ho
  repeat' split at ho
  all_goals first | (cases ho; exact xa_Gr_rf) | cases ho
theorem xa_gr_if2 (ho : xa_if2 cd x i ls st h = some (.inl (i1, ls1, st1, h1))) : xa_Gr h h1 := by
  unfold xa_if2 at ho
  repeat' split at ho
  all_goals first | (cases ho; exact xa_Gr_rf) | cases ho
theorem xa_gr_if1 (ho : xa_if1 cd x i ls st h = some (.inl (i1, ls1, st1, h1))) : xa_Gr h h1 := by
  unfold xa_if1 at ho
  repeat' split at ho
  all_goals first | (cases ho; exact xa_Gr_rf) | cases ho
theorem xa_gr_getf (ho : xa_getf x i ls st h = some (.inl (i1, ls1, st1, h1))) : xa_Gr h h1 := by
  unfold xa_getf at ho
  repeat' split at ho
  all_goals first | (cases ho; exact xa_Gr_rf) | cases ho
theorem xa_gr_gets (ho : xa_gets x i ls st h = some (.inl (i1, ls1, st1, h1))) : xa_Gr h h1 := by
  unfold xa_gets at ho
  repeat' split at ho
  all_goals first | (cases ho; exact xa_Gr_rf) | cases ho
theorem xa_gr_iald (ho : xa_iald X i ls st h = some (.inl (i1, ls1, st1, h1))) : xa_Gr h h1 := by
  unfold xa_iald at ho
  repeat' split at ho
  all_goals first | (cases ho; exact xa_Gr_rf) | cases ho
theorem xa_gr_bald (ho : xa_bald i ls st h = some (.inl (i1, ls1, st1, h1))) : xa_Gr h h1 := by
  unfold xa_bald at ho
  repeat' split at ho
  all_goals first | (cases ho; exact xa_Gr_rf) | cases ho
theorem xa_gr_aald (ho : xa_aald i ls st h = some (.inl (i1, ls1, st1, h1))) : xa_Gr h h1 := by
  unfold xa_aald at ho
  repeat' split at ho
  all_goals first | (cases ho; exact xa_Gr_rf) | cases ho
theorem xa_gr_alen (ho : xa_alen X i ls st h = some (.inl (i1, ls1, st1, h1))) : xa_Gr h h1 := by
  unfold xa_alen at ho
  repeat' split at ho
  all_goals first | (cases ho; exact xa_Gr_rf) | cases ho
theorem xa_gr_ldc (ho : xa_ldc x i ls st h = some (.inl (i1, ls1, st1, h1))) : xa_Gr h h1 := by
  unfold xa_ldc at ho
  repeat' split at ho
  all_goals first | (cases ho; exact xa_Gr_rf) | cases ho
theorem xa_gr_sw (ho : xa_sw lo hi x ls st h = some (.inl (i1, ls1, st1, h1))) : xa_Gr h h1 := by
  unfold xa_sw at ho
  repeat' split at ho
  all_goals first | (cases ho; exact xa_Gr_rf) | cases ho
theorem xa_gr_lcmp (ho : xa_lcmp i ls st h = some (.inl (i1, ls1, st1, h1))) : xa_Gr h h1 := by
  unfold xa_lcmp at ho
  repeat' split at ho
  all_goals first | (cases ho; exact xa_Gr_rf) | cases ho
theorem xa_gr_putf (ho : xa_putf x i ls st h = some (.inl (i1, ls1, st1, h1))) : xa_Gr h h1 := by
  unfold xa_putf at ho
  repeat' split at ho
  all_goals first | (cases ho; exact xa_Gr_set (by assumption) (by simp)) | cases ho
theorem xa_gr_iast (ho : xa_iast i ls st h = some (.inl (i1, ls1, st1, h1))) : xa_Gr h h1 := by
  unfold xa_iast at ho
  repeat' split at ho
  all_goals first | (cases ho; exact xa_Gr_set (by assumption) (by simp)) | cases ho
theorem xa_gr_aast (ho : xa_aast i ls st h = some (.inl (i1, ls1, st1, h1))) : xa_Gr h h1 := by
  unfold xa_aast at ho
  repeat' split at ho
  all_goals first | (cases ho; exact xa_Gr_set (by assumption) (by simp)) | cases ho
theorem xa_gr_new (ho : xa_new xa_nf x i ls st h = some (.inl (i1, ls1, st1, h1))) : xa_Gr h h1 := by
  unfold xa_new at ho
  repeat' split at ho
  all_goals first | (cases ho; exact xa_Gr_push) | cases ho
theorem xa_gr_newi (ho : xa_newi i ls st h = some (.inl (i1, ls1, st1, h1))) : xa_Gr h h1 := by
  unfold xa_newi at ho
  repeat' split at ho
  all_goals first | (cases ho; exact xa_Gr_push) | cases ho
theorem xa_gr_newq (ho : xa_newq x i ls st h = some (.inl (i1, ls1, st1, h1))) : xa_Gr h h1 := by
  unfold xa_newq at ho
  repeat' split at ho
  all_goals first | (cases ho; exact xa_Gr_push) | cases ho
theorem xa_gr_inv (ho : xa_inv x i ls st h = some (.inl (i1, ls1, st1, h1))) : xa_Gr h h1 := by
  unfold xa_inv at ho
  repeat' split at ho
  all_goals first | (cases ho; exact xa_Gr_rf) | (cases ho; next hq => exact xa_Gr_set (by assumption) (by exact xa_cpy_len (by omega) (by omega))) | cases ho
theorem xa_gr_one1 {en : xa_E} (ho : xa_one1 X en i ls st h = some (.inl (i1, ls1, st1, h1))) : xa_Gr h h1 := by
  unfold xa_one1 at ho
  split at ho
  all_goals first | exact xa_gr_aload ho | exact xa_gr_iload ho | exact xa_gr_lload ho | exact xa_gr_astore ho | exact xa_gr_istore ho | exact xa_gr_lstore ho | exact xa_gr_two ho | exact xa_gr_div ho | exact xa_gr_two64 ho | exact xa_gr_one ho | exact xa_gr_if2 ho | exact xa_gr_if1 ho | exact xa_gr_getf ho | exact xa_gr_putf ho | exact xa_gr_gets ho | exact xa_gr_iald ho | exact xa_gr_bald ho | exact xa_gr_aald ho | exact xa_gr_alen ho | exact xa_gr_ldc ho | exact xa_gr_sw ho | exact xa_gr_lcmp ho | exact xa_gr_iast ho | exact xa_gr_aast ho | exact xa_gr_new ho | exact xa_gr_newi ho | exact xa_gr_newq ho | exact xa_gr_inv ho | skip
  all_goals (repeat' split at ho)
  all_goals first | (cases ho; exact xa_Gr_rf) | cases ho
end XG
theorem xa_ex_grow (G : xa_G) (X : List Int) : ∀ (n mi i : Nat) (ls st : List xa_V) (h : xa_H) (rv : Option xa_V) (h' : xa_H), xa_ex G X n mi i ls st h = some (rv, h') → xa_Gr h h'
  | 0, mi, i, ls, st, h, rv, h', e => by simp [xa_ex] at e
  | n + 1, mi, i, ls, st, h, rv, h', e => by
    rw [xa_ex] at e
    cases hf : (G.1 mi)[i]? with
    | none => rw [hf] at e; simp at e
    | some en =>
      rw [hf] at e
      simp only at e
      cases ho : xa_one1 X en i ls st h with
      | none => rw [ho] at e; simp at e
      | some o =>
        rw [ho] at e
        match o, e, ho with
        | .inl (i', ls', st', h1), e, ho =>
          have h1 := xa_gr_one1 ho
          have h2 := xa_ex_grow G X n _ _ _ _ _ _ _ e
          exact ⟨Nat.le_trans h1.1 h2.1, Nat.le_trans h1.2 h2.2⟩
        | .inr (.inl r'), e, ho =>
          have e2 : r' = (rv, h') := Option.some.inj e
          subst e2
          unfold xa_one1 at ho
          split at ho
          all_goals try (unfold xa_aload at ho)
          all_goals try (unfold xa_iload at ho)
          all_goals try (unfold xa_lload at ho)
          all_goals try (unfold xa_astore at ho)
          all_goals try (unfold xa_istore at ho)
          all_goals try (unfold xa_lstore at ho)
          all_goals try (unfold xa_two at ho)
          all_goals try (unfold xa_div at ho)
          all_goals try (unfold xa_two64 at ho)
          all_goals try (unfold xa_one at ho)
          all_goals try (unfold xa_if2 at ho)
          all_goals try (unfold xa_if1 at ho)
          all_goals try (unfold xa_getf at ho)
          all_goals try (unfold xa_putf at ho)
          all_goals try (unfold xa_gets at ho)
          all_goals try (unfold xa_iald at ho)
          all_goals try (unfold xa_bald at ho)
          all_goals try (unfold xa_aald at ho)
          all_goals try (unfold xa_iast at ho)
          all_goals try (unfold xa_aast at ho)
          all_goals try (unfold xa_alen at ho)
          all_goals try (unfold xa_new at ho)
          all_goals try (unfold xa_newi at ho)
          all_goals try (unfold xa_newq at ho)
          all_goals try (unfold xa_ldc at ho)
          all_goals try (unfold xa_sw at ho)
          all_goals try (unfold xa_lcmp at ho)
          all_goals try (unfold xa_inv at ho)
          all_goals (repeat' split at ho)
          all_goals first | (cases ho; exact xa_Gr_rf) | cases ho
        | .inr (.inr (y, args, i', ls', rest)), e, ho =>
          simp only at e
          split at e
          · split at e
            · simp at e
            · next rv1 h1 hc =>
              split at e
              · have h1 := xa_ex_grow G X n _ _ _ _ _ _ _ hc
                have h2 := xa_ex_grow G X n _ _ _ _ _ _ _ e
                exact ⟨Nat.le_trans h1.1 h2.1, Nat.le_trans h1.2 h2.2⟩
              · simp at e
          · simp at e
section XS
variable {p : Program} {l : Launch} {e : Env} {R : Jvm.Room} {s : State} {m : MethodId} {args : Array Value} {below : List Frame} {meth : Method} {c : Code} {Q : State → Prop}
variable {G : xa_G} {S : xa_M} {mi : Nat} {X : List Int} {b0 : Nat} {ca : Nat → Nat} {v3 : Value} {D : va_G} {cI : ClassId} {cQ : Nat → ClassId} {h' : xa_H}
/-- arraycopy of ints: the heap stays as long as it was -/
theorem xa_acopy {H : Heap} {locs : List Loc} {cells slots : Nat} {cc : ByteArray} {pc : Nat} {ls : Array Slot} {rest : List Value} {tys : List (ClassId × FieldType)} {ws : va_W} {H0 : Heap} {A : Nat → Prop} {a : Nat} {cl : List vw_C} (hexec : p.tables.exec = Jvm.exec) (hb : c.code = cc) (hml : c.maxLocals = ls.size) {own : String} {index : Nat} (hown : s.vm.findClass own = some m.cls) (hlink : (Cond.methodLink own index arraycopyName).before args s = true) (hnat : (Cond.native arraycopyName).before args s = true) (hstat : (Cond.static arraycopyName).before args s = true) (hini : (Cond.initialized "java/lang/System").before args s = true)
    (hK : va_K D cl tys s) (hP : va_P D cl ws H) (hD : va_D A ws) (hS : va_S A H0 H locs) (q0 q1 t0 : Nat) {a0 : Nat} {c0 : ClassId} {n0 n1 : Nat} {f g : Nat → Int32} (ha0 : ws[q0]? = some (a0, .inl (c0, n0, .inl f))) (ha1 : ws[q1]? = some (a, .inl (c0, n1, .inl g))) (ht0 : tys[t0]? = some (c0, .int))
    {sp dp n : Int32} (h1 : ¬ sp < 0) (h2 : ¬ dp < 0) (h3 : ¬ n < 0) (h4 : sp.toNatClampNeg + n.toNatClampNeg ≤ n0) (h5 : dp.toNatClampNeg + n.toNatClampNeg ≤ n1)
    (hframes : 1 ≤ R.frames) (hlocals : (rest.map fun v => v.category).sum + (nativeFrameWords "java/lang/System" "arraycopy" 5 + 11) ≤ R.locals) (hdg : decode cc pc = .ok (.invokestatic index, 3))
    (kk : ∀ (H1 : Heap) (locs1 : List Loc), H1.size = H.size → va_P D cl (ws.set q1 (a, .inl (c0, n1, .inl (va_cpy f g sp.toNatClampNeg dp.toNatClampNeg n.toNatClampNeg)))) H1 → va_S A H0 H1 locs1 → W p l e R s m args below meth c H1 locs1 cells slots Q (F0 m (pc + 3) ls rest)) : W p l e R s m args below meth c H locs cells slots Q (F0 m pc ls (.int n :: .int dp :: .ref a :: .int sp :: .ref a0 :: rest)) := by
  have nn : ∀ z : Int32, ¬ z < 0 → z.toInt = (z.toNatClampNeg : Int) := by
    intro z hz
    have hz0 : (0 : Int) ≤ z.toInt := by
      have := Int32.not_lt.mp hz
      simpa using Int32.le_iff_toInt_le.mp this
    show z.toInt = ((z.toInt.toNat : Nat) : Int)
    omega
  intro T hT X'
  have hc0 : H[a0]? = some (vp_cell c0 (n0, .inl f)) := hP q0 _ ha0
  have hc1 : H[a]? = some (vp_cell c0 (n1, .inl g)) := hP q1 _ ha1
  obtain ⟨-, k0, hk0, cm0, hkk0⟩ := (hK.2 t0 _ ht0).1 n0 (fun j => .int (f j))
  obtain ⟨-, k1, hk1, cm1, hkk1⟩ := (hK.2 t0 _ ht0).1 n1 (fun j => .int (g j))
  obtain ⟨vm', X2, step⟩ := X'.arraycopy hexec hown hlink hnat hstat hini (src := a0) (dst := a) (cs := vp_cell c0 (n0, .inl f)) (cd := vp_cell c0 (n1, .inl g)) (srcPos := sp) (destPos := dp) (n := n) (by rw [hT]; exact hc0) (by rw [hT]; exact hc1)
    (fun _ h => by cases h) (fun _ h => by cases h) (fun h => by cases h) (fun h => by cases h) hk0 hk1 hkk0 hkk1 (by simp [refKind]) h1 h2 h3
    (by rw [nn sp h1, nn n h3]; show ¬ _ > ((arrV c0 n0 (fun j => .int (f j))).slots.size : Int); rw [arrV_size]; omega)
    (by rw [nn dp h2, nn n h3]; show ¬ _ > ((arrV c0 n1 (fun j => .int (g j))).slots.size : Int); rw [arrV_size]; omega)
    (fun vm₁ _ i hi => by
      have e1 : (vp_cell c0 (n0, .inl f)).slots.getD (sp.toNatClampNeg + i) .null = .int (f (sp.toNatClampNeg + i)) := by
        show (arrV c0 n0 (fun j => .int (f j))).slots.getD _ _ = _
        rw [Array.getD_eq_getD_getElem?, arrV_read _ _ (by omega)]
        rfl
      refine ⟨?_, ?_⟩
      · rw [e1]
        rfl
      · rw [e1]
        exact trivial)
    (g := F0 m pc ls (.int n :: .int dp :: .ref a :: .int sp :: .ref a0 :: rest)) rfl (by rw [hml]) (rest := rest) rfl (by rw [hb]; exact hdg) hframes (by show 2 * 0 + _ + _ ≤ _; omega)
  have e1 : copied (vp_cell c0 (n0, .inl f)) (vp_cell c0 (n1, .inl g)) sp dp n = vp_cell c0 (n1, .inl (va_cpy f g sp.toNatClampNeg dp.toNatClampNeg n.toNatClampNeg)) := va_copied (fun z => .int z) c0 c0 f g h4
  rw [e1] at X2 step
  have hl : a < H.size := (Array.getElem?_eq_some_iff.mp hc1).1
  have hheap : ((T.setVm vm').setCell a (vp_cell c0 (n1, .inl (va_cpy f g sp.toNatClampNeg dp.toNatClampNeg n.toNatClampNeg)))).heap = H.setIfInBounds a (vp_cell c0 (n1, .inl (va_cpy f g sp.toNatClampNeg dp.toNatClampNeg n.toNatClampNeg))) := by rw [← hT]; rfl
  have oq : ∀ q : Nat, q ≠ a → (H.setIfInBounds a (vp_cell c0 (n1, .inl (va_cpy f g sp.toNatClampNeg dp.toNatClampNeg n.toNatClampNeg))))[q]? = H[q]? := fun q hq => by simp [Array.getElem?_setIfInBounds, Ne.symm hq]
  obtain ⟨t, a1, b1⟩ := kk _ _ (by simp) (hP.set hD ha1 (show (H.setIfInBounds a _)[a]? = some _ by simp [Array.getElem?_setIfInBounds, hl]) oq) ⟨by simp; exact hS.1, fun q g1 g2 => by
      rw [oq q (fun e => g2 (by rw [e]; exact hD.2 q1 _ ha1))]
      exact hS.2.1 q g1 g2, fun q hq => by
      rcases List.mem_append.mp hq with h | h
      · exact hS.2.2 q h
      · obtain ⟨z, -, hz⟩ := List.mem_map.mp h
        rw [← hz]
        exact hD.2 q1 _ ha1⟩ _ hheap X2
  exact ⟨t, step t a1, b1⟩
theorem xa_s_invspecial (C : xa_Cx G S mi X b0 ca v3 D cI cQ p R s m args meth c) {en : xa_E} {i i1 : Nat} {ls ls1 st st1 : List xa_V} {h h1 : xa_H} {pl : List Nat} {idx : Nat} (hins : en.2.1 = .invokespecial idx) (hf : (G.1 mi)[i]? = some en) (hok : xa_ok G S mi i en pl = true) (ho : xa_one1 X en i ls st h = some (.inl (i1, ls1, st1, h1))) (hm : h1.length ≤ h'.length ∧ xa_sl h1 ≤ xa_sl h') (kk : xa_WW G mi b0 ca v3 D cI cQ p l e R s m args below meth c Q h' i1 ls1 st1 h1) : xa_WW G mi b0 ca v3 D cI cQ p l e R s m args below meth c Q h' i ls st h := by
  obtain ⟨pb, ins, ln, x⟩ := en
  dsimp only at hins
  subst hins
  intro pc H locs cells slots lr hat hL hR hS hc hs
  obtain ⟨hx, hb, hml, hown, hts, hF, h3, hb0, hnm, hfr, hlo⟩ := C
  simp only [xa_ok, Bool.and_eq_true] at hok
  obtain ⟨k1, k2, k3, k4⟩ := hok
  have hpc : pb = pc := xa_at_of hf hat
  subst hpc
  have hdg := xa_dec_of k1
  have hln : ln = 3 := by simpa [xa_lenOK, xa_len] using k2
  subst hln
  have hnx : xa_at G mi (i + 1) (pb + 3) = true := by simpa [xa_through] using k3
  dsimp only [xa_one1] at ho
  dsimp only at hdg
  unfold xa_inv at ho
  split at ho
  · split at ho
    · next a rest =>
      split at ho
      · next hq =>
        cases ho
        match pl, k4 with
        | [q1, q2, q3], k4 =>
          simp only [xa_extra, Bool.and_eq_true, decide_eq_true_eq] at k4
          obtain ⟨g1, g2, g3, g4, g5⟩ := k4
          have hcat := xa_cv_cats (b0 := b0) (ca := ca) h3 st1
          refine W.objInit hx hb hown (hts _ (xa_in_tb g1)) (hts _ (xa_in_tb g2)) (hts _ (xa_in_tb g3)) rfl (by rw [hml]; exact hL.1) rfl hdg (by omega) ?_ (kk _ H locs cells slots lr hnx hL hR hS hc hs)
          rw [hcat]
          show 2 * 0 + _ + 12 ≤ _
          omega
      · cases ho
    · cases ho
  · simp [xa_extra] at k4
  · simp [xa_extra] at k4
  · simp [xa_extra] at k4
  · split at ho <;> cases ho
  · split at ho <;> cases ho
  · repeat' split at ho
    all_goals cases ho
  · cases ho
theorem xa_s_invstatic (C : xa_Cx G S mi X b0 ca v3 D cI cQ p R s m args meth c) {en : xa_E} {i i1 : Nat} {ls ls1 st st1 : List xa_V} {h h1 : xa_H} {pl : List Nat} {idx : Nat} (hins : en.2.1 = .invokestatic idx) (hf : (G.1 mi)[i]? = some en) (hok : xa_ok G S mi i en pl = true) (ho : xa_one1 X en i ls st h = some (.inl (i1, ls1, st1, h1))) (hm : h1.length ≤ h'.length ∧ xa_sl h1 ≤ xa_sl h') (kk : xa_WW G mi b0 ca v3 D cI cQ p l e R s m args below meth c Q h' i1 ls1 st1 h1) : xa_WW G mi b0 ca v3 D cI cQ p l e R s m args below meth c Q h' i ls st h := by
  obtain ⟨pb, ins, ln, x⟩ := en
  dsimp only at hins
  subst hins
  intro pc H locs cells slots lr hat hL hR hS hc hs
  obtain ⟨hx, hb, hml, hown, hts, hF, h3, hb0, hnm, hfr, hlo⟩ := C
  simp only [xa_ok, Bool.and_eq_true] at hok
  obtain ⟨k1, k2, k3, k4⟩ := hok
  have hpc : pb = pc := xa_at_of hf hat
  subst hpc
  have hdg := xa_dec_of k1
  have hln : ln = 3 := by simpa [xa_lenOK, xa_len] using k2
  subst hln
  have hnx : xa_at G mi (i + 1) (pb + 3) = true := by simpa [xa_through] using k3
  dsimp only [xa_one1] at ho
  dsimp only at hdg
  unfold xa_inv at ho
  split at ho
  · simp [xa_extra] at k4
  · split at ho
    · next b a rest =>
      split at ho
      · next hq =>
        cases ho
        obtain ⟨ra, rb, hq⟩ := hq
        match pl, k4 with
        | [q1, q2, q3, q4], k4 =>
          simp only [xa_extra, Bool.and_eq_true, decide_eq_true_eq] at k4
          obtain ⟨g1, g2, g3, g4, g5, g6⟩ := k4
          have hcat := xa_cv_cats (b0 := b0) (ca := ca) h3 rest
          have e4 := kk _ H locs cells slots lr hnx hL hR hS hc hs
          refine va_mmax hx hb (by rw [hml]; exact hL.1.symm) hown (hts _ (xa_in_tb g1)) (hts _ (xa_in_tb g2)) (hts _ (xa_in_tb g3)) (hts _ (xa_in_tb g4)) (by omega) (by rw [hcat]; omega) (by omega) (by omega) hdg ?_
          have e5 : (if Int32.ofInt a < Int32.ofInt b then Int32.ofInt b else Int32.ofInt a) = Int32.ofInt (if a < b then b else a) := by
            by_cases q : a < b
            · rw [if_pos q, if_pos ((xa_ilt ra rb).mpr q)]
            · rw [if_neg q, if_neg (fun z => q ((xa_ilt ra rb).mp z))]
          rw [e5]
          exact e4
      · cases ho
    · cases ho
  · split at ho
    · next b a rest =>
      split at ho
      · next hq =>
        cases ho
        obtain ⟨ra, rb, hq⟩ := hq
        match pl, k4 with
        | [q1, q2, q3, q4], k4 =>
          simp only [xa_extra, Bool.and_eq_true, decide_eq_true_eq] at k4
          obtain ⟨g1, g2, g3, g4, g5, g6⟩ := k4
          have hcat := xa_cv_cats (b0 := b0) (ca := ca) h3 rest
          have e4 := kk _ H locs cells slots lr hnx hL hR hS hc hs
          refine va_mmin hx hb (by rw [hml]; exact hL.1.symm) hown (hts _ (xa_in_tb g1)) (hts _ (xa_in_tb g2)) (hts _ (xa_in_tb g3)) (hts _ (xa_in_tb g4)) (by omega) (by rw [hcat]; omega) (by omega) (by omega) hdg ?_
          have e5 : (if Int32.ofInt b < Int32.ofInt a then Int32.ofInt b else Int32.ofInt a) = Int32.ofInt (if b < a then b else a) := by
            by_cases q : b < a
            · rw [if_pos q, if_pos ((xa_ilt rb ra).mpr q)]
            · rw [if_neg q, if_neg (fun z => q ((xa_ilt rb ra).mp z))]
          rw [e5]
          exact e4
      · cases ho
    · cases ho
  · split at ho
    · next n d b s2 a rest =>
      split at ho
      · next c1 xs c2 ys e1 e2 =>
        split at ho
        · next hq =>
          cases ho
          obtain ⟨z1, z2, z3, z4, z5, z6, z7, hq⟩ := hq
          match pl, k4 with
          | [q1, q2, q3, q4], k4 =>
            simp only [xa_extra, Bool.and_eq_true, decide_eq_true_eq] at k4
            obtain ⟨g1, g2, g3, g4, g5, g6⟩ := k4
            have hcat := xa_cv_cats (b0 := b0) (ca := ca) h3 st1
            have ng : ∀ z : Int, 0 ≤ z → z < 2147483648 → ¬ Int32.ofInt z < 0 := fun z q1 q2 q => by have := (xa_ilt (b := 0) ⟨by omega, q2⟩ xa_r0).mp q; omega
            have n1 := xa_nat (j := n) z1 (by omega)
            have n2 := xa_nat (j := d) z2 (by omega)
            have n3 := xa_nat (j := s2) z3 (by omega)
            refine xa_acopy hx hb (by rw [hml]; exact hL.1.symm) hown (hts _ (xa_in_tb g1)) (hts _ (xa_in_tb g2)) (hts _ (xa_in_tb g3)) (hts _ (xa_in_tb g4)) hF.1 hR.2 xa_W_D hS a b 0 (xa_W_get e1) (xa_W_get e2) rfl (ng _ z3 (by omega)) (ng _ z2 (by omega)) (ng _ z1 (by omega)) (by rw [n1, n3]; omega) (by rw [n1, n2]; omega) (by omega) (by rw [hcat]; omega) hdg fun H1 locs1 y1 P1 S1 => ?_
            refine kk _ H1 locs1 cells slots lr hnx hL (xa_Rel_set hR ?_ y1) S1 (by rw [List.length_set]; exact hc) (by rw [xa_sl_set e2 (xa_cpy_len (by omega) (by omega))]; exact hs)
            have e6 : xa_ce b0 ca v3 cI cQ (1, c2, xa_cpy xs ys s2.toNat d.toNat n.toNat) = .inl (cI, ys.length, .inl (va_cpy (fun j => xa_iv (xs.getD j (xC 0))) (fun j => xa_iv (ys.getD j (xC 0))) s2.toNat d.toNat n.toNat)) := by
              show (Sum.inl (cI, (xa_cpy xs ys s2.toNat d.toNat n.toNat).length, Sum.inl (fun k => xa_iv ((xa_cpy xs ys s2.toNat d.toNat n.toNat).getD k (xC 0)))) : va_E) = _
              rw [xa_cpy_len (by omega) (by omega)]
              congr 4
              funext k
              unfold va_cpy
              rw [List.getD_eq_getElem?_getD, xa_cpy_get (by omega) (by omega)]
              by_cases hk : d.toNat ≤ k ∧ k < d.toNat + n.toNat
              · rw [if_pos hk, if_pos hk]
                rfl
              · rw [if_neg hk, if_neg hk]
                rfl
            rw [e6]
            rw [n1, n2, n3] at P1
            exact P1
        · cases ho
      · cases ho
    · cases ho
  · split at ho <;> cases ho
  · split at ho <;> cases ho
  · repeat' split at ho
    all_goals cases ho
  · cases ho
theorem xa_s_invvirtual (C : xa_Cx G S mi X b0 ca v3 D cI cQ p R s m args meth c) {en : xa_E} {i i1 : Nat} {ls ls1 st st1 : List xa_V} {h h1 : xa_H} {pl : List Nat} {idx : Nat} (hins : en.2.1 = .invokevirtual idx) (hf : (G.1 mi)[i]? = some en) (hok : xa_ok G S mi i en pl = true) (ho : xa_one1 X en i ls st h = some (.inl (i1, ls1, st1, h1))) (hm : h1.length ≤ h'.length ∧ xa_sl h1 ≤ xa_sl h') (kk : xa_WW G mi b0 ca v3 D cI cQ p l e R s m args below meth c Q h' i1 ls1 st1 h1) : xa_WW G mi b0 ca v3 D cI cQ p l e R s m args below meth c Q h' i ls st h := by
  obtain ⟨pb, ins, ln, x⟩ := en
  dsimp only at hins
  subst hins
  intro pc H locs cells slots lr hat hL hR hS hc hs
  obtain ⟨hx, hb, hml, hown, hts, hF, h3, hb0, hnm, hfr, hlo⟩ := C
  simp only [xa_ok, Bool.and_eq_true] at hok
  obtain ⟨k1, k2, k3, k4⟩ := hok
  have hpc : pb = pc := xa_at_of hf hat
  subst hpc
  have hdg := xa_dec_of k1
  have hln : ln = 3 := by simpa [xa_lenOK, xa_len] using k2
  subst hln
  have hnx : xa_at G mi (i + 1) (pb + 3) = true := by simpa [xa_through] using k3
  dsimp only [xa_one1] at ho
  dsimp only at hdg
  unfold xa_inv at ho
  split at ho
  · simp [xa_extra] at k4
  · simp [xa_extra] at k4
  · simp [xa_extra] at k4
  · simp [xa_extra] at k4
  · split at ho <;> cases ho
  · split at ho <;> cases ho
  · repeat' split at ho
    all_goals cases ho
  · cases ho
end XS
