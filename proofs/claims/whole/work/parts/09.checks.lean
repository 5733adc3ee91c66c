/-! EVERY INSTRUCTION IS WHAT ITS TABLE SAYS -/
def xa_all (G : xa_G) (S : xa_M) (mi : Nat) : Nat → List xa_E → List (List Nat) → Bool
  | _, [], _ => true
  | i, en :: es, pls => xa_ok G S mi i en (pls.headD []) && xa_all G S mi (i + 1) es pls.tail
theorem xa_all_of (G : xa_G) (S : xa_M) (mi : Nat) : ∀ (es : List xa_E) (k : Nat) (pls : List (List Nat)), xa_all G S mi k es pls = true → ∀ (i : Nat) (en : xa_E), es[i]? = some en → ∃ pl, xa_ok G S mi (k + i) en pl = true
  | [], k, pls, h, i, en, e => by simp at e
  | a :: es, k, pls, h, i, en, e => by
    rw [xa_all, Bool.and_eq_true] at h
    match i, e with
    | 0, e =>
      simp at e
      subst e
      exact ⟨_, h.1⟩
    | i + 1, e =>
      have := xa_all_of G S mi es (k + 1) pls.tail h.2 i en (by simpa using e)
      rw [show k + (i + 1) = k + 1 + i by omega]
      exact this
theorem xa_all_ok {G : xa_G} {S : xa_M} {mi : Nat} {es : List xa_E} {pls : List (List Nat)} (he : G.1 mi = es) (h : xa_all G S mi 0 es pls = true) : xa_allOK G S mi := by
  intro i en e
  rw [he] at e
  have := xa_all_of G S mi es 0 pls h i en e
  rwa [Nat.zero_add] at this
def xp_0 : List (List Nat) := [[], [209, 73, 74], [], [], [121], [210], [], [], [121], [211], [], [], [121], [212], [], [], [121], [213], [], [], [214], []]
set_option maxRecDepth 100000 in
theorem xo_0 : xa_allOK xb_G xb_S 0 := xa_all_ok (es := xt_0) (pls := xp_0) rfl (by decide +kernel)
def xp_1 : List (List Nat) := [[], [], [547, 433, 434, 56, 435], [], [], [], [548, 455, 456, 56, 457], [], [], [], [], [], [], [], [549, 551, 5, 55, 552], [], [], [], [561, 563, 7, 55, 564], [], [], [], [], [], [], [], [], [], [], [], [], [], [], [], [], [], [568, 569, 61, 570], [], [], [], [], [], [], [574, 576, 8, 55, 577], [], [], [], [], [568, 569, 61, 570], [], [], [], [], []]
set_option maxRecDepth 100000 in
theorem xo_1 : xa_allOK xb_G xb_S 1 := xa_all_ok (es := xt_1) (pls := xp_1) rfl (by decide +kernel)
def xp_2 : List (List Nat) := [[], [], [214], [], [], [], [], [254], [102], [], [], [], [], [], [], [], [], [210], [], [], [], [], [], [553, 419, 420, 56, 421], [], [], [], [257], [], [], [], [554, 556, 6, 55, 557], [], [], [210], [], [], [], [554, 556, 6, 55, 557], [], [], []]
set_option maxRecDepth 100000 in
theorem xo_2 : xa_allOK xb_G xb_S 2 := xa_all_ok (es := xt_2) (pls := xp_2) rfl (by decide +kernel)
def xp_3 : List (List Nat) := [[], [], [], [], [214], [], [211], [], [], [], [211], [], [214], [], [558, 559, 50, 560], [], [], [211], [], [214], [], [], [], [], [214], [], [], [214], []]
set_option maxRecDepth 100000 in
theorem xo_3 : xa_allOK xb_G xb_S 3 := xa_all_ok (es := xt_3) (pls := xp_3) rfl (by decide +kernel)
def xp_4 : List (List Nat) := [[], [], [], [], [], [], [214], [], [], [212], [], [], [211], [], [], [], [257], [], [254], [102], [565, 566, 55, 567], [], [], [], [], [213], [], [], [211], [], [], [], [210], [], [254], [102], [565, 566, 55, 567], [], [], [], [], [], [212], [], [], [], [213], [], [], [], [], [], [], [], [], []]
set_option maxRecDepth 100000 in
theorem xo_4 : xa_allOK xb_G xb_S 4 := xa_all_ok (es := xt_4) (pls := xp_4) rfl (by decide +kernel)
def xp_5 : List (List Nat) := [[], [], [], [], [], [], [], [], [], [], [], [], [], [], [], [], [], [], [], [], [], []]
set_option maxRecDepth 100000 in
theorem xo_5 : xa_allOK xb_G xb_S 5 := xa_all_ok (es := xt_5) (pls := xp_5) rfl (by decide +kernel)
def xp_6 : List (List Nat) := [[], [], [], [], [214], [], [], [212], [], [], [], [], [], [], [], [213], [], [], [], [], [], [], [], [], [548, 455, 456, 56, 457], [], [], [], [], [], [], [], []]
set_option maxRecDepth 100000 in
theorem xo_6 : xa_allOK xb_G xb_S 6 := xa_all_ok (es := xt_6) (pls := xp_6) rfl (by decide +kernel)
def xp_7 : List (List Nat) := [[], [230, 73, 74], [], [], [121], [256], [], [231, 232, 57], [], [233, 234, 57, 235], [259], [], [], [253], [], [], [255], []]
set_option maxRecDepth 100000 in
theorem xo_7 : xa_allOK xb_G xb_S 7 := xa_all_ok (es := xt_7) (pls := xp_7) rfl (by decide +kernel)
def xp_8 : List (List Nat) := [[], [], [], [], [253], [101], [], [], [256], [], [], [], [], [255], [], [253], [95], [], [], [], [], [253], [98], [], [], [418, 419, 420, 56, 421], [], [], [], []]
set_option maxRecDepth 100000 in
theorem xo_8 : xa_allOK xb_G xb_S 8 := xa_all_ok (es := xt_8) (pls := xp_8) rfl (by decide +kernel)
def xp_9 : List (List Nat) := [[], [253], [105], [], [422, 423, 50, 424], [], [253], [89], [], [], [], [428, 378, 50, 379], [], [], [], [253], [105], [], [429, 430, 50, 431], []]
set_option maxRecDepth 100000 in
theorem xo_9 : xa_allOK xb_G xb_S 9 := xa_all_ok (es := xt_9) (pls := xp_9) rfl (by decide +kernel)
def xp_10 : List (List Nat) := [[], [], [], [], [], [], [253], [101], [], [], [253], [98], [], [], [], [], [], [], [256], [], [], [], [], [], [], [], [], [], [], [], [], []]
set_option maxRecDepth 100000 in
theorem xo_10 : xa_allOK xb_G xb_S 10 := xa_all_ok (es := xt_10) (pls := xp_10) rfl (by decide +kernel)
def xp_11 : List (List Nat) := [[], [259], [458, 459, 460, 57, 461], [], [], [], [], [253], [101], [], [], [], [], [], [], [], [], [259], [], [253], [89], [], [], [], [253], [92], [], [], [463, 464, 465, 57, 466], [], [], [], [259], [469, 470, 471, 57, 472], []]
set_option maxRecDepth 100000 in
theorem xo_11 : xa_allOK xb_G xb_S 11 := xa_all_ok (es := xt_11) (pls := xp_11) rfl (by decide +kernel)
def xp_12 : List (List Nat) := [[], [259], [458, 459, 460, 57, 461], [], [], [], [], [253], [101], [], [], [], [], [], [259], [595, 2, 0], [], [], [597, 3, 0], [], [], [463, 464, 465, 57, 466], [], [], [253], [101], [], [], [], [], [], [], [], [], [259], [], [253], [89], [], [], [], [253], [92], [], [], [463, 464, 465, 57, 466], [], [], [], [259], [469, 470, 471, 57, 472], []]
set_option maxRecDepth 100000 in
theorem xo_12 : xa_allOK xb_G xb_S 12 := xa_all_ok (es := xt_12) (pls := xp_12) rfl (by decide +kernel)
def xp_13 : List (List Nat) := [[], [], [], [453, 433, 434, 56, 435], [454, 455, 456, 56, 457], []]
set_option maxRecDepth 100000 in
theorem xo_13 : xa_allOK xb_G xb_S 13 := xa_all_ok (es := xt_13) (pls := xp_13) rfl (by decide +kernel)
def xp_14 : List (List Nat) := [[], [], [], [], [], [], [253], [101], [], [], [253], [98], [], [], [], [], [], [], [253], [98], [], [], [490, 426, 60, 427], [], [], [256], [], [], [], [], [], [], [256], [], [], [490, 426, 60, 427], [], [], [], [], []]
set_option maxRecDepth 100000 in
theorem xo_14 : xa_allOK xb_G xb_S 14 := xa_all_ok (es := xt_14) (pls := xp_14) rfl (by decide +kernel)
def xp_15 : List (List Nat) := [[], [], [485, 450, 451, 56, 452], [], [], [], [486, 488, 3, 56, 489], [], [], [], [], [], [], [], [], [], [], [], [485, 450, 451, 56, 452], [], [], [], [], [], [], [486, 488, 3, 56, 489], [], [], [], [], [], [], []]
set_option maxRecDepth 100000 in
theorem xo_15 : xa_allOK xb_G xb_S 15 := xa_all_ok (es := xt_15) (pls := xp_15) rfl (by decide +kernel)
def xp_16 : List (List Nat) := [[], [], [], [500, 482, 483, 56, 484], [], [], [], [], [], []]
set_option maxRecDepth 100000 in
theorem xo_16 : xa_allOK xb_G xb_S 16 := xa_all_ok (es := xt_16) (pls := xp_16) rfl (by decide +kernel)
def xp_17 : List (List Nat) := [[], [], [], [], [], [], [], [499, 381, 60, 382], [], [500, 482, 483, 56, 484], [], [], [], [], [], [], [], [], [], [], [], [], [], [500, 482, 483, 56, 484], [], [], [], [], []]
set_option maxRecDepth 100000 in
theorem xo_17 : xa_allOK xb_G xb_S 17 := xa_all_ok (es := xt_17) (pls := xp_17) rfl (by decide +kernel)
def xp_18 : List (List Nat) := [[], [], [], [], [], [], [], [], [], [], [], [], [485, 450, 451, 56, 452], [], [], [], [], [], [], [486, 488, 3, 56, 489], [], [], [], [], []]
set_option maxRecDepth 100000 in
theorem xo_18 : xa_allOK xb_G xb_S 18 := xa_all_ok (es := xt_18) (pls := xp_18) rfl (by decide +kernel)
def xp_19 : List (List Nat) := [[], [], [], [], [], [], [], [], [], [], [], [], [], [], [486, 488, 3, 56, 489], [], [], [], [485, 450, 451, 56, 452], [], [], [], [], [], [], [], [], [], [], [], [], [], []]
set_option maxRecDepth 100000 in
theorem xo_19 : xa_allOK xb_G xb_S 19 := xa_all_ok (es := xt_19) (pls := xp_19) rfl (by decide +kernel)
def xp_20 : List (List Nat) := [[], [], [485, 450, 451, 56, 452], [], [], [], [], [], [], [], [], [], [], [253], [101], [], [], [253], [95], [], [], [], [], [], [256], [], [], [], [], [], [253], [98], [], [], [418, 419, 420, 56, 421], [], [], [], [], [], [485, 450, 451, 56, 452], [], [], [], [], [], [586, 527, 528, 56, 529], [], [], [], [], [], [], []]
set_option maxRecDepth 100000 in
theorem xo_20 : xa_allOK xb_G xb_S 20 := xa_all_ok (es := xt_20) (pls := xp_20) rfl (by decide +kernel)
def xp_21 : List (List Nat) := [[], [87, 73, 74], [], [], [121], [88], [], [], [121], [91], [], [], [121], [94], [], [], [121], [97], [], [], [100], [], [], [104], []]
set_option maxRecDepth 100000 in
theorem xo_21 : xa_allOK xb_G xb_S 21 := xa_all_ok (es := xt_21) (pls := xp_21) rfl (by decide +kernel)
def xp_22 : List (List Nat) := [[], [100], [], [], [], [], [], []]
set_option maxRecDepth 100000 in
theorem xo_22 : xa_allOK xb_G xb_S 22 := xa_all_ok (es := xt_22) (pls := xp_22) rfl (by decide +kernel)
def xp_23 : List (List Nat) := [[], [368, 361, 362, 52, 363], [], [], [], [88], [], [100], [], [], [], [91], [], [100], [], [], [], [94], [], [100], [], [], [], [97], [], [100], [], [], [], [], [100], [], [], [100], []]
set_option maxRecDepth 100000 in
theorem xo_23 : xa_allOK xb_G xb_S 23 := xa_all_ok (es := xt_23) (pls := xp_23) rfl (by decide +kernel)
def xp_24 : List (List Nat) := [[], [], [], [], [100], [], [], [], [], [88], [], [], [88], [], [], [], [], [], [], [91], [], [], [91], [], [], [], [], [], [], [94], [], [], [94], [], [], [], [], [], [], [97], [], [], [97], [], [], [], [], [], [], [], [], [], [100], [], [], [100], []]
set_option maxRecDepth 100000 in
theorem xo_24 : xa_allOK xb_G xb_S 24 := xa_all_ok (es := xt_24) (pls := xp_24) rfl (by decide +kernel)
def xp_25 : List (List Nat) := [[], [], [], [], [100], [], [], [88], [], [], [88], [], [], [], [], [91], [], [], [91], [], [], [], [], [94], [], [], [94], [], [], [], [], [97], [], [], [97], [], [], [], [], [], [], [], [100], [100], [], [], [104], [104], []]
set_option maxRecDepth 100000 in
theorem xo_25 : xa_allOK xb_G xb_S 25 := xa_all_ok (es := xt_25) (pls := xp_25) rfl (by decide +kernel)
def xp_26 : List (List Nat) := [[], [236, 73, 74], []]
set_option maxRecDepth 100000 in
theorem xo_26 : xa_allOK xb_G xb_S 26 := xa_all_ok (es := xt_26) (pls := xp_26) rfl (by decide +kernel)
def xp_27 : List (List Nat) := [[], [], [237], [], [462], [238], [], [], [239], [], [], [240], [], [], [241], []]
set_option maxRecDepth 100000 in
theorem xo_27 : xa_allOK xb_G xb_S 27 := xa_all_ok (es := xt_27) (pls := xp_27) rfl (by decide +kernel)
def xp_28 : List (List Nat) := [[], [], [], [], [], [], [], [], [], [], [], [], [], [], [], [240], [], [], [], [241], [], [], [], [], [], [], [239], [], [], [], [], [239], [], [], [], [], [], [], [], [], [237], [], [238], [], [237], [], [462], [238], [], [], [240], [], [467, 1, 0], [], [], [], [], [], [238], [], [239], [], [462], [], [], [], [], [], [238], [], [], [239], [], [], [240], []]
set_option maxRecDepth 100000 in
theorem xo_28 : xa_allOK xb_G xb_S 28 := xa_all_ok (es := xt_28) (pls := xp_28) rfl (by decide +kernel)
def xp_29 : List (List Nat) := [[], [241], [], [], [240], [], [], [], [], [237], [], [238], [], []]
set_option maxRecDepth 100000 in
theorem xo_29 : xa_allOK xb_G xb_S 29 := xa_all_ok (es := xt_29) (pls := xp_29) rfl (by decide +kernel)
def xp_30 : List (List Nat) := [[], [273, 73, 74], [], [], [121], [274], [], [], [276], [], [], [278], []]
set_option maxRecDepth 100000 in
theorem xo_30 : xa_allOK xb_G xb_S 30 := xa_all_ok (es := xt_30) (pls := xp_30) rfl (by decide +kernel)
def xp_31 : List (List Nat) := [[], [276], [], [], [], [], []]
set_option maxRecDepth 100000 in
theorem xo_31 : xa_allOK xb_G xb_S 31 := xa_all_ok (es := xt_31) (pls := xp_31) rfl (by decide +kernel)
def xp_32 : List (List Nat) := [[], [], [276], [], [], [], [], [], [], [278], [], [], [], [], [278], [], [], [274], [], [], [], [], [], []]
set_option maxRecDepth 100000 in
theorem xo_32 : xa_allOK xb_G xb_S 32 := xa_all_ok (es := xt_32) (pls := xp_32) rfl (by decide +kernel)
def xp_33 : List (List Nat) := [[], [276], [], [], [], [274], [], [], [], [], [], [], [274], [], [], [276], [], [], [], [], [], [], [], []]
set_option maxRecDepth 100000 in
theorem xo_33 : xa_allOK xb_G xb_S 33 := xa_all_ok (es := xt_33) (pls := xp_33) rfl (by decide +kernel)
def xp_34 : List (List Nat) := [[], [], [], [], [], [], [278], [], [], [], [278], [], [], [], [], [], [], []]
set_option maxRecDepth 100000 in
theorem xo_34 : xa_allOK xb_G xb_S 34 := xa_all_ok (es := xt_34) (pls := xp_34) rfl (by decide +kernel)
def xp_35 : List (List Nat) := [[], [162, 73, 74], [], [], [121], [163], [], [], [164], [], [], [165], [], [], [167], [], [], [169], [], [], [171], []]
set_option maxRecDepth 100000 in
theorem xo_35 : xa_allOK xb_G xb_S 35 := xa_all_ok (es := xt_35) (pls := xp_35) rfl (by decide +kernel)
def xp_36 : List (List Nat) := [[], [165], [], [], [], [163], [], [165], [], [], [], [], [165], [], [], [165], []]
set_option maxRecDepth 100000 in
theorem xo_36 : xa_allOK xb_G xb_S 36 := xa_all_ok (es := xt_36) (pls := xp_36) rfl (by decide +kernel)
def xp_37 : List (List Nat) := [[], [], [164], [], [668, 669, 670, 53, 671], []]
set_option maxRecDepth 100000 in
theorem xo_37 : xa_allOK xb_G xb_S 37 := xa_all_ok (es := xt_37) (pls := xp_37) rfl (by decide +kernel)
def xp_38 : List (List Nat) := [[], [], [164], [167], [], [167], [], [165], [], [], [163], [], [167], [], [], [], [], [], [167], [], [], [167], [], [], [], [167], [164], [], [], [171], [], [164], [], [165], [], [], [163], [], [164], [], [672, 673, 53, 674], [], [], [], [164], [], [], [164], [], [], [164], [], [167], [], [], [], [169], [], [], [164], [], [165], [], [], [163], [], [164], [], [675, 676, 53, 677], [], [], [171], [], [], [], [], [], [171], [], [], [163], [], [164], [], [], [], [], [171], [], [], [164], [], [], [164], [], [], [164], [], [167], [], [], [], [169], [], [], [167], [], [165], [], [], [], [169], [], [], [], [163], [], [167], [], [], [], [], [], [], [169], [], [], [167], [], [], [164], []]
set_option maxRecDepth 100000 in
theorem xo_38 : xa_allOK xb_G xb_S 38 := xa_all_ok (es := xt_38) (pls := xp_38) rfl (by decide +kernel)
def xp_39 : List (List Nat) := [[], [], [], [], [], [], [], [], [], []]
set_option maxRecDepth 100000 in
theorem xo_39 : xa_allOK xb_G xb_S 39 := xa_all_ok (es := xt_39) (pls := xp_39) rfl (by decide +kernel)
def xp_40 : List (List Nat) := [[], [], [], [], [], [], [], [], [], []]
set_option maxRecDepth 100000 in
theorem xo_40 : xa_allOK xb_G xb_S 40 := xa_all_ok (es := xt_40) (pls := xp_40) rfl (by decide +kernel)
def xp_41 : List (List Nat) := [[], [169], [], [], [], [164], [], [167], [], [], [691, 692, 693, 63, 694], [], [], [], [], [], [], [], [691, 692, 693, 63, 694], [], [], [163], [], [167], [], [], [], [], [], [701, 702, 703, 63, 704], [], [], [], [], [], [], []]
set_option maxRecDepth 100000 in
theorem xo_41 : xa_allOK xb_G xb_S 41 := xa_all_ok (es := xt_41) (pls := xp_41) rfl (by decide +kernel)
def xp_42 : List (List Nat) := [[], [169], [], [], [], [164], [], [167], [], [], [], [], [163], [], [167], [], [], [], [], [], [], [163], [], [167], [], [], [], []]
set_option maxRecDepth 100000 in
theorem xo_42 : xa_allOK xb_G xb_S 42 := xa_all_ok (es := xt_42) (pls := xp_42) rfl (by decide +kernel)
def xp_43 : List (List Nat) := [[], [191, 73, 74], [], [], [194], [], [], [192], [], [], [193], []]
set_option maxRecDepth 100000 in
theorem xo_43 : xa_allOK xb_G xb_S 43 := xa_all_ok (es := xt_43) (pls := xp_43) rfl (by decide +kernel)
def xp_44 : List (List Nat) := [[], [192], [664, 665, 666, 53, 667], [], [], [], [], [], [], [678, 680, 10, 54, 681], [], [], [192], [170], [], [], [], [], [192], [170], [], [], [], [], [192], [739, 669, 670, 53, 671], [], [], [], [], [192], [168], [], []]
set_option maxRecDepth 100000 in
theorem xo_44 : xa_allOK xb_G xb_S 44 := xa_all_ok (es := xt_44) (pls := xp_44) rfl (by decide +kernel)
def xp_45 : List (List Nat) := [[], [0], [683, 685, 11, 54, 686], [], [], [740, 742, 12, 54, 743], [], [], [1], [683, 685, 11, 54, 686], [], [], [752, 754, 14, 54, 755], [], [], [2], [683, 685, 11, 54, 686], [], [], [759, 761, 15, 54, 762], [], [], [], [], []]
set_option maxRecDepth 100000 in
theorem xo_45 : xa_allOK xb_G xb_S 45 := xa_all_ok (es := xt_45) (pls := xp_45) rfl (by decide +kernel)
def xp_46 : List (List Nat) := [[], [], [], [744, 746, 13, 54, 747], [], [], [], [], [194], [], [], [3], [683, 685, 11, 54, 686], [], [], [], [], [744, 746, 13, 54, 747], [], [], [], [], [193], [124], [], [], [194], [], [], [4], [683, 685, 11, 54, 686], [], [], [], [], [], [], [744, 746, 13, 54, 747], [], [], [], [], [193], [127], [], [], [194], [], [], []]
set_option maxRecDepth 100000 in
theorem xo_46 : xa_allOK xb_G xb_S 46 := xa_all_ok (es := xt_46) (pls := xp_46) rfl (by decide +kernel)
def xp_47 : List (List Nat) := [[], [], [], [744, 746, 13, 54, 747], [], [], [], [], [193], [130], [], [194], [], [], [], [5], [683, 685, 11, 54, 686], [], [], [], [107], [], [], [], [6], [683, 685, 11, 54, 686], [], [], [], [107], [], [], [], []]
set_option maxRecDepth 100000 in
theorem xo_47 : xa_allOK xb_G xb_S 47 := xa_all_ok (es := xt_47) (pls := xp_47) rfl (by decide +kernel)
def xp_48 : List (List Nat) := [[], [], [], [744, 746, 13, 54, 747], [], [], [], [], [193], [130], [], [194], [], [], [], [], [], [0], [683, 685, 11, 54, 686], [], [], [], [], [744, 746, 13, 54, 747], [], [], [], [], [194], [], [], [], [], [763, 765, 16, 54, 766], [], [], [], [], [], [], [], [777, 361, 362, 52, 363], [], [], [], [], [], [778, 780, 17, 54, 781], [], [], [], [], [], [763, 765, 16, 54, 766], [], [], [], [], [], [], [], []]
set_option maxRecDepth 100000 in
theorem xo_48 : xa_allOK xb_G xb_S 48 := xa_all_ok (es := xt_48) (pls := xp_48) rfl (by decide +kernel)
def xp_49 : List (List Nat) := [[], [192], [767, 768, 769, 53, 770], [], [], [], [], [192], [7], [687, 688, 689, 53, 690], [], [], [], [], [192], [8], [687, 688, 689, 53, 690], [], [], [], [], [192], [9], [687, 688, 689, 53, 690], [], [], [], [], [192], [10], [687, 688, 689, 53, 690], [], [], [], [], [192], [11], [687, 688, 689, 53, 690], [], [], [], [], [192], [12], [687, 688, 689, 53, 690], [], [], [], [], []]
set_option maxRecDepth 100000 in
theorem xo_49 : xa_allOK xb_G xb_S 49 := xa_all_ok (es := xt_49) (pls := xp_49) rfl (by decide +kernel)
def xp_50 : List (List Nat) := [[], [], [], [], [], [], [], [192], [739, 669, 670, 53, 671], [], [], [], [], [782, 783, 50, 784], [], [], [192], [767, 768, 769, 53, 770], [], [], [], [], [], [], [], [], [], [], [193], [137], [787, 365, 366, 52, 367], [], [192], [739, 669, 670, 53, 671], [], []]
set_option maxRecDepth 100000 in
theorem xo_50 : xa_allOK xb_G xb_S 50 := xa_all_ok (es := xt_50) (pls := xp_50) rfl (by decide +kernel)
def xp_51 : List (List Nat) := [[], [192], [], [687, 688, 689, 53, 690], [], [], [], [], [192], [739, 669, 670, 53, 671], [], []]
set_option maxRecDepth 100000 in
theorem xo_51 : xa_allOK xb_G xb_S 51 := xa_all_ok (es := xt_51) (pls := xp_51) rfl (by decide +kernel)
def xp_52 : List (List Nat) := [[], [192], [170], [], [], [], [192], [172], [], [], [748, 326, 50, 327], [], [], [], [], [], [], [], [], [], [192], [172], [194], [], [192], [739, 669, 670, 53, 671], [], []]
set_option maxRecDepth 100000 in
theorem xo_52 : xa_allOK xb_G xb_S 52 := xa_all_ok (es := xt_52) (pls := xp_52) rfl (by decide +kernel)
def xp_53 : List (List Nat) := [[], [80, 73, 74], [], [], [121], [122], [], [], [121], [125], [], [], [81], [128], [], [], [121], [131], [], [], [121], [133], [], [], [135], [], [], [138], [], [], [], [], [], [], [122], [], [], [], [], [125], [], [], [], [], [], [], [], [], [], [], [], [128], [], [81, 83, 52], [], [84, 85, 52, 86], [], [], [], [], [], [], [], [], [], [133], [], [], [], [], [], []]
set_option maxRecDepth 100000 in
theorem xo_53 : xa_allOK xb_G xb_S 53 := xa_all_ok (es := xt_53) (pls := xp_53) rfl (by decide +kernel)
def xp_54 : List (List Nat) := [[], [122], [], [], [122], [], [], [653, 655, 654, 62], [], [125], [], [], [125], [], [], [653, 655, 654, 62], [], [131], [], [], [131], [], [], [653, 655, 654, 62], [], [133], [], [], [133], [], [], [653, 655, 654, 62], [], [], [], [], [], [], [128], [], [], [], [128], [], [], [656, 657, 658, 52, 659], [], [], [], [], [135], [135], [], [], [138], [138], []]
set_option maxRecDepth 100000 in
theorem xo_54 : xa_allOK xb_G xb_S 54 := xa_all_ok (es := xt_54) (pls := xp_54) rfl (by decide +kernel)
def xp_55 : List (List Nat) := [[], [], [], [], [], [], [131], [], [], [], [], [], [133], [], [], [], [], [], [133], [], [], [], [], [], [131], [], [], [], [], [], [133], [], [], [], [], [], [133], [], [], [], [], [], [], [], [], []]
set_option maxRecDepth 100000 in
theorem xo_55 : xa_allOK xb_G xb_S 55 := xa_all_ok (es := xt_55) (pls := xp_55) rfl (by decide +kernel)
def xp_56 : List (List Nat) := [[], [], [], [], [], [], [], [], [133], [], [], [], [], [], [], [], []]
set_option maxRecDepth 100000 in
theorem xo_56 : xa_allOK xb_G xb_S 56 := xa_all_ok (es := xt_56) (pls := xp_56) rfl (by decide +kernel)
def xp_57 : List (List Nat) := [[], [], [138], [627], [], [], [], [138], [], [138], [], [], []]
set_option maxRecDepth 100000 in
theorem xo_57 : xa_allOK xb_G xb_S 57 := xa_all_ok (es := xt_57) (pls := xp_57) rfl (by decide +kernel)
def xp_58 : List (List Nat) := [[], [72, 73, 74], [], [75, 76, 51], [], [77, 78, 51, 79], [287], [], [75, 76, 51], [], [77, 78, 51, 79], [288], [], [75, 76, 51], [], [77, 78, 51, 79], [289], [], [], [155], [290], [], [157, 158, 53], [], [159, 160, 53, 161], [291], [], [186, 187, 54], [], [], [291], [], [287], [188, 189, 54, 190], [292], [], [], [202], [293], [], [], [121], [294], [], [], [121], [295], [], [204, 205, 55], [], [206, 207, 55, 208], [296], [], [], [297], [], [], [], [], [], [], [290], [], [155, 226, 56], [], [], [287], [129], [], [], [], [287], [123], [227, 228, 56, 229], [], [], [], [], [], [], [], [], [], [293], [], [202, 269, 58], [], [270, 271, 58, 272], [], [], [], []]
set_option maxRecDepth 100000 in
theorem xo_58 : xa_allOK xb_G xb_S 58 := xa_all_ok (es := xt_58) (pls := xp_58) rfl (by decide +kernel)
def xp_59 : List (List Nat) := [[], [], [], [325, 326, 50, 327], [], [], [], [328, 330, 0, 50, 331], [], [], [287], [136], [], [], [], [], [], [], [328, 330, 0, 50, 331], [], [], [287], [], [136], [], [], [136], [], [287], [136], []]
set_option maxRecDepth 100000 in
theorem xo_59 : xa_allOK xb_G xb_S 59 := xa_all_ok (es := xt_59) (pls := xp_59) rfl (by decide +kernel)
def xp_60 : List (List Nat) := [[], [337, 338, 50, 339], [], [], [], [328, 330, 0, 50, 331], [], [], [], [], [], [], [325, 326, 50, 327], [], [], [287], [123], [], [], [340, 341, 50, 342], [], [], [], [], [], [], [], [325, 326, 50, 327], [], [], [287], [126], [], [], [340, 341, 50, 342], [], [], [], [328, 330, 0, 50, 331], []]
set_option maxRecDepth 100000 in
theorem xo_60 : xa_allOK xb_G xb_S 60 := xa_all_ok (es := xt_60) (pls := xp_60) rfl (by decide +kernel)
def xp_61 : List (List Nat) := [[], [347, 348, 50, 349], [], [], [], [328, 330, 0, 50, 331], [], [], [287], [129], [], [], [106], [], [], [287], [129], [], [], [], [106], [], [], [], [], [], []]
set_option maxRecDepth 100000 in
theorem xo_61 : xa_allOK xb_G xb_S 61 := xa_all_ok (es := xt_61) (pls := xp_61) rfl (by decide +kernel)
def xp_62 : List (List Nat) := [[], [347, 348, 50, 349], [], [], [354, 355, 50, 356], [], [], [357, 358, 50, 359], [], [], [337, 338, 50, 339], [], [], [], [328, 330, 0, 50, 331], [], [], [287], [129], [], [], [], [], [360, 361, 362, 52, 363], [], [], [], [328, 330, 0, 50, 331], [], [], [], [], [], [], [287], [136], [364, 365, 366, 52, 367], [], [103], [], [], []]
set_option maxRecDepth 100000 in
theorem xo_62 : xa_allOK xb_G xb_S 62 := xa_all_ok (es := xt_62) (pls := xp_62) rfl (by decide +kernel)
def xp_63 : List (List Nat) := [[], [], [], [373, 375, 1, 50, 376], [], [], [], [328, 330, 0, 50, 331], [], [], [287], [129], [], [], [], [], [], [], [90], [], [], [], [], [93], [], [], [], [], [96], [], [], [], [], [99], [], [], [], [], [90], [], [], [], [287], [123], [], [96], [], [], [], [377, 378, 50, 379], [], [], [], [328, 330, 0, 50, 331], []]
set_option maxRecDepth 100000 in
theorem xo_63 : xa_allOK xb_G xb_S 63 := xa_all_ok (es := xt_63) (pls := xp_63) rfl (by decide +kernel)
def xp_64 : List (List Nat) := [[], [], [], [373, 375, 1, 50, 376], [], [], [354, 355, 50, 356], [], [], [], [328, 330, 0, 50, 331], [], [], [287], [129], [], [], [90], [], [], [340, 341, 50, 342], []]
set_option maxRecDepth 100000 in
theorem xo_64 : xa_allOK xb_G xb_S 64 := xa_all_ok (es := xt_64) (pls := xp_64) rfl (by decide +kernel)
def xp_65 : List (List Nat) := [[], [], [], [373, 375, 1, 50, 376], [], [], [], [328, 330, 0, 50, 331], [], [], [287], [129], [], [], [], [391, 392, 393, 52, 394], [], [287], [], [], [395, 396, 397, 51, 398], [], [287], [129], [], [], [103], []]
set_option maxRecDepth 100000 in
theorem xo_65 : xa_allOK xb_G xb_S 65 := xa_all_ok (es := xt_65) (pls := xp_65) rfl (by decide +kernel)
def xp_66 : List (List Nat) := [[], [], [], [373, 375, 1, 50, 376], [], [], [337, 338, 50, 339], [], [], [], [328, 330, 0, 50, 331], [], [], [287], [129], [], [], [99], [], [], [287], [136], [], [], [287], [129], [], [], [96], [], [], [340, 341, 50, 342], []]
set_option maxRecDepth 100000 in
theorem xo_66 : xa_allOK xb_G xb_S 66 := xa_all_ok (es := xt_66) (pls := xp_66) rfl (by decide +kernel)
def xp_67 : List (List Nat) := [[], [347, 348, 50, 349], [], [], [407, 408, 50, 409], [], [], [], [328, 330, 0, 50, 331], [], [], [], [410, 412, 2, 50, 413], [], [432, 433, 434, 56, 435], []]
set_option maxRecDepth 100000 in
theorem xo_67 : xa_allOK xb_G xb_S 67 := xa_all_ok (es := xt_67) (pls := xp_67) rfl (by decide +kernel)
def xp_68 : List (List Nat) := [[], [], [], [373, 375, 1, 50, 376], [], [], [407, 408, 50, 409], [], [], [], [328, 330, 0, 50, 331], [], [], [287], [129], [], [], [], [], [], [99], [], [], [], [], [], [328, 330, 0, 50, 331], [], [], [106], [], [440, 423, 50, 424], [], [106], [], [99], [], [], [440, 423, 50, 424], [], []]
set_option maxRecDepth 100000 in
theorem xo_68 : xa_allOK xb_G xb_S 68 := xa_all_ok (es := xt_68) (pls := xp_68) rfl (by decide +kernel)
def xp_69 : List (List Nat) := [[], [], [], [373, 375, 1, 50, 376], [], [], [], [328, 330, 0, 50, 331], [], [], [], [410, 412, 2, 50, 413], [258], [], [], [], [], [], [], [], [], [328, 330, 0, 50, 331], [], [], []]
set_option maxRecDepth 100000 in
theorem xo_69 : xa_allOK xb_G xb_S 69 := xa_all_ok (es := xt_69) (pls := xp_69) rfl (by decide +kernel)
def xp_70 : List (List Nat) := [[], [347, 348, 50, 349], [], [], [407, 408, 50, 409], [], [], [], [328, 330, 0, 50, 331], [], [], [], [410, 412, 2, 50, 413], [], [449, 450, 451, 56, 452], []]
set_option maxRecDepth 100000 in
theorem xo_70 : xa_allOK xb_G xb_S 70 := xa_all_ok (es := xt_70) (pls := xp_70) rfl (by decide +kernel)
def xp_71 : List (List Nat) := [[], [347, 348, 50, 349], [], [], [407, 408, 50, 409], [], [], [], [], [325, 326, 50, 327], [], [], [], [328, 330, 0, 50, 331], [], [], [], [410, 412, 2, 50, 413], [], [449, 450, 451, 56, 452], [], [], [], [], [], [], [328, 330, 0, 50, 331], [], [], [], [], [], [], []]
set_option maxRecDepth 100000 in
theorem xo_71 : xa_allOK xb_G xb_S 71 := xa_all_ok (es := xt_71) (pls := xp_71) rfl (by decide +kernel)
def xp_72 : List (List Nat) := [[], [347, 348, 50, 349], [], [], [], [328, 330, 0, 50, 331], [], [], [], [410, 412, 2, 50, 413], [], [287], [136], [], [481, 482, 483, 56, 484], [], [], [], [], [], [], [328, 330, 0, 50, 331], [], [], []]
set_option maxRecDepth 100000 in
theorem xo_72 : xa_allOK xb_G xb_S 72 := xa_all_ok (es := xt_72) (pls := xp_72) rfl (by decide +kernel)
def xp_73 : List (List Nat) := [[], [347, 348, 50, 349], [], [], [407, 408, 50, 409], [], [], [407, 408, 50, 409], [], [], [], [], [], [], [328, 330, 0, 50, 331], [], [], [], [410, 412, 2, 50, 413], [], [], [495, 496, 497, 56, 498], []]
set_option maxRecDepth 100000 in
theorem xo_73 : xa_allOK xb_G xb_S 73 := xa_all_ok (es := xt_73) (pls := xp_73) rfl (by decide +kernel)
def xp_74 : List (List Nat) := [[], [347, 348, 50, 349], [], [], [], [505], [325, 326, 50, 327], [], [], [], [328, 330, 0, 50, 331], [], [], [], [410, 412, 2, 50, 413], [], [], [287], [136], [506, 507, 508, 56, 509], [], [], [], [], [], [], [328, 330, 0, 50, 331], [], [], []]
set_option maxRecDepth 100000 in
theorem xo_74 : xa_allOK xb_G xb_S 74 := xa_all_ok (es := xt_74) (pls := xp_74) rfl (by decide +kernel)
def xp_75 : List (List Nat) := [[], [347, 348, 50, 349], [], [], [], [505], [325, 326, 50, 327], [], [], [], [328, 330, 0, 50, 331], [], [], [], [410, 412, 2, 50, 413], [], [], [287], [136], [514, 515, 516, 56, 517], []]
set_option maxRecDepth 100000 in
theorem xo_75 : xa_allOK xb_G xb_S 75 := xa_all_ok (es := xt_75) (pls := xp_75) rfl (by decide +kernel)
def xp_76 : List (List Nat) := [[], [347, 348, 50, 349], [], [], [347, 348, 50, 349], [], [], [407, 408, 50, 409], [], [], [], [328, 330, 0, 50, 331], [], [], [], [410, 412, 2, 50, 413], [], [449, 450, 451, 56, 452], [], [], [410, 412, 2, 50, 413], [], [449, 450, 451, 56, 452], [], [], [], [], []]
set_option maxRecDepth 100000 in
theorem xo_76 : xa_allOK xb_G xb_S 76 := xa_all_ok (es := xt_76) (pls := xp_76) rfl (by decide +kernel)
def xp_77 : List (List Nat) := [[], [347, 348, 50, 349], [], [], [407, 408, 50, 409], [], [], [], [328, 330, 0, 50, 331], [], [], [], [287], [136], [], [], [], [328, 330, 0, 50, 331], [], [], [], [410, 412, 2, 50, 413], [], [287], [136], [], [526, 527, 528, 56, 529], [], [], [], [], []]
set_option maxRecDepth 100000 in
theorem xo_77 : xa_allOK xb_G xb_S 77 := xa_all_ok (es := xt_77) (pls := xp_77) rfl (by decide +kernel)
def xp_78 : List (List Nat) := [[], [], [], [373, 375, 1, 50, 376], [], [], [], [], [373, 375, 1, 50, 376], [], [], [], [], [], [], [], [325, 326, 50, 327], [], [], [], [328, 330, 0, 50, 331], [], [], [], [410, 412, 2, 50, 413], [], [], [], [], [], [], [], [], [], [], [], [287], [136], [432, 433, 434, 56, 435], [], [], [], [], [], [287], [136], [], [], [], [], [], [], [328, 330, 0, 50, 331], [], [], [], [], [], [], [287], [136], [], [], [534, 536, 4, 50, 537], [], [], [], [], [], [328, 330, 0, 50, 331], [], [], []]
set_option maxRecDepth 100000 in
theorem xo_78 : xa_allOK xb_G xb_S 78 := xa_all_ok (es := xt_78) (pls := xp_78) rfl (by decide +kernel)
def xp_79 : List (List Nat) := [[], [347, 348, 50, 349], [], [], [337, 338, 50, 339], [], [], [], [], [325, 326, 50, 327], [], [], [], [328, 330, 0, 50, 331], [], [], [287], [136], [], [], [], [], [], [], [328, 330, 0, 50, 331], [], [], [296], [], [], [410, 412, 2, 50, 413], [], [287], [123], [], [], [], [287], [136], [], [287], [136], [], [], [543, 544, 545, 55, 546], [], [], [], [], [], [328, 330, 0, 50, 331], [], [], []]
set_option maxRecDepth 100000 in
theorem xo_79 : xa_allOK xb_G xb_S 79 := xa_all_ok (es := xt_79) (pls := xp_79) rfl (by decide +kernel)
def xp_80 : List (List Nat) := [[], [347, 348, 50, 349], [], [], [337, 338, 50, 339], [], [], [], [], [325, 326, 50, 327], [], [], [], [328, 330, 0, 50, 331], [], [], [287], [136], [], [], [], [], [], [], [328, 330, 0, 50, 331], [], [], [], [410, 412, 2, 50, 413], [], [], [287], [136], [], [287], [136], [], [], [582, 583, 584, 56, 585], [], [], [], [], [], [328, 330, 0, 50, 331], [], [], []]
set_option maxRecDepth 100000 in
theorem xo_80 : xa_allOK xb_G xb_S 80 := xa_all_ok (es := xt_80) (pls := xp_80) rfl (by decide +kernel)
def xp_81 : List (List Nat) := [[], [347, 348, 50, 349], [], [], [], [328, 330, 0, 50, 331], [], [], [], [410, 412, 2, 50, 413], [], [], [], [287], [136], [432, 433, 434, 56, 435], [], [], [], [], [], [], [], [287], [129], [], [], [103], [], [], [], [], [], [], [], [], [], [], [591, 592, 593, 56, 594], [], [], [], [], [], [], [], [], [295], [], [], [599, 559, 50, 560], [], [], [295], [], [], [], [], [], [], [], [], [], []]
set_option maxRecDepth 100000 in
theorem xo_81 : xa_allOK xb_G xb_S 81 := xa_all_ok (es := xt_81) (pls := xp_81) rfl (by decide +kernel)
def xp_82 : List (List Nat) := [[], [347, 348, 50, 349], [], [], [], [505], [325, 326, 50, 327], [], [], [], [328, 330, 0, 50, 331], [], [], [], [410, 412, 2, 50, 413], [], [], [], [287], [136], [432, 433, 434, 56, 435], [], [], [], [], [], [287], [129], [], [], [103], [], [], [], [], [], [], [], [], [], [], [591, 592, 593, 56, 594], [], [], [], [], [], [], [604, 2], [], [], [], [], [605, 3], [], [], [], [], [], [], [], [], [], [], [328, 330, 0, 50, 331], []]
set_option maxRecDepth 100000 in
theorem xo_82 : xa_allOK xb_G xb_S 82 := xa_all_ok (es := xt_82) (pls := xp_82) rfl (by decide +kernel)
def xp_83 : List (List Nat) := [[], [347, 348, 50, 349], [], [], [337, 338, 50, 339], [], [], [407, 408, 50, 409], [], [], [], [328, 330, 0, 50, 331], [], [], [], [], [], [610, 612, 9, 50, 613], []]
set_option maxRecDepth 100000 in
theorem xo_83 : xa_allOK xb_G xb_S 83 := xa_all_ok (es := xt_83) (pls := xp_83) rfl (by decide +kernel)
def xp_84 : List (List Nat) := [[], [347, 348, 50, 349], [], [], [337, 338, 50, 339], [], [], [407, 408, 50, 409], [], [], [], [328, 330, 0, 50, 331], [], [], [], [], [], [610, 612, 9, 50, 613], [], [], [], [], [], [328, 330, 0, 50, 331], [], [], [], [], []]
set_option maxRecDepth 100000 in
theorem xo_84 : xa_allOK xb_G xb_S 84 := xa_all_ok (es := xt_84) (pls := xp_84) rfl (by decide +kernel)
def xp_85 : List (List Nat) := [[], [347, 348, 50, 349], [], [], [], [], [325, 326, 50, 327], [], [], [337, 338, 50, 339], [], [], [], [328, 330, 0, 50, 331], [], [], [287], [129], [], [], [], [], [103], [], [], [], [328, 330, 0, 50, 331], [], [], [], [], [], [], [], [], [], [287], [623, 624, 625, 51, 626], [], [103], [], [], [], [99], [], [], [287], [136], [], [], [96], [], [], [], [], [], [], [], [], [], [], [], [], [628, 569, 61, 570], []]
set_option maxRecDepth 100000 in
theorem xo_85 : xa_allOK xb_G xb_S 85 := xa_all_ok (es := xt_85) (pls := xp_85) rfl (by decide +kernel)
def xp_86 : List (List Nat) := [[], [287], [139], [], [], [287], [], [139], [], []]
set_option maxRecDepth 100000 in
theorem xo_86 : xa_allOK xb_G xb_S 86 := xa_all_ok (es := xt_86) (pls := xp_86) rfl (by decide +kernel)
def xp_87 : List (List Nat) := [[], [], [], [325, 326, 50, 327], [], [], [], [328, 330, 0, 50, 331], [], [], [291], [166], [], [], [], [], [], [], [328, 330, 0, 50, 331], [], [], [], [], [], [], [], [], [291], [], [], [], [], [], [], [], [637, 638, 639, 53, 640], [], [], [], [291], [166], []]
set_option maxRecDepth 100000 in
theorem xo_87 : xa_allOK xb_G xb_S 87 := xa_all_ok (es := xt_87) (pls := xp_87) rfl (by decide +kernel)
def xp_88 : List (List Nat) := [[], [291], [166], [], [], [291], [], [166], [], []]
set_option maxRecDepth 100000 in
theorem xo_88 : xa_allOK xb_G xb_S 88 := xa_all_ok (es := xt_88) (pls := xp_88) rfl (by decide +kernel)
def xp_89 : List (List Nat) := [[], [289], [], [287], [649, 650, 651, 51, 652], [], [292], [660, 661, 662, 54, 663], [], [], [291], [], [166], [], [], [], [287], [], [289], [649, 650, 651, 51, 652], [], []]
set_option maxRecDepth 100000 in
theorem xo_89 : xa_allOK xb_G xb_S 89 := xa_all_ok (es := xt_89) (pls := xp_89) rfl (by decide +kernel)
def xp_90 : List (List Nat) := [[], [793, 794, 50, 795], [], [], [347, 348, 50, 349], [], [], [], [], [], [], [], [373, 375, 1, 50, 376], [], [], [], [328, 330, 0, 50, 331], [], [], [287], [132], [], [], [], [], [287], [134], [], [], [], [], []]
set_option maxRecDepth 100000 in
theorem xo_90 : xa_allOK xb_G xb_S 90 := xa_all_ok (es := xt_90) (pls := xp_90) rfl (by decide +kernel)
def xp_91 : List (List Nat) := [[], [793, 794, 50, 795], [], [], [354, 355, 50, 356], [], [], [], [328, 330, 0, 50, 331], [], [], [287], [132], [], [], [], [], [287], [134], [], [], [], [], [], [], [373, 375, 1, 50, 376], [], [], [], [328, 330, 0, 50, 331], [], [], [287], [129], [], [], [90], [], [], [], [800, 783, 50, 784], [], [], [], [328, 330, 0, 50, 331], [], [], [], [], [], [], []]
set_option maxRecDepth 100000 in
theorem xo_91 : xa_allOK xb_G xb_S 91 := xa_all_ok (es := xt_91) (pls := xp_91) rfl (by decide +kernel)
def xp_92 : List (List Nat) := [[], [805, 806, 50, 807], [], [], [], [], [], [], [], [], [], [], [], [], [], [], [328, 330, 0, 50, 331], [], [], [], [], [], [328, 330, 0, 50, 331], [], [], [], [], [], [], [328, 330, 0, 50, 331], [], [], [293], [], [], [], [], [808, 809, 810, 58, 811], [], [293], [], [], [279], []]
set_option maxRecDepth 100000 in
theorem xo_92 : xa_allOK xb_G xb_S 92 := xa_all_ok (es := xt_92) (pls := xp_92) rfl (by decide +kernel)
def xp_93 : List (List Nat) := [[], [805, 806, 50, 807], [], [], [], [328, 330, 0, 50, 331], [], [], [293], [], [], [816, 817, 818, 58, 819], [], [], [], [328, 330, 0, 50, 331], [], [], [], [], [293], [], [], [279], [], [], [325, 326, 50, 327], [], [], [], [328, 330, 0, 50, 331], [], [], [293], [], [], [], [], [820, 821, 822, 58, 823], [], []]
set_option maxRecDepth 100000 in
theorem xo_93 : xa_allOK xb_G xb_S 93 := xa_all_ok (es := xt_93) (pls := xp_93) rfl (by decide +kernel)
def xp_94 : List (List Nat) := [[], [805, 806, 50, 807], [], [], [805, 806, 50, 807], [], [], [], [328, 330, 0, 50, 331], [], [], [293], [], [], [816, 817, 818, 58, 819], [], [], [293], [], [], [816, 817, 818, 58, 819], [], [], [], [328, 330, 0, 50, 331], [], [], [293], [], [], [277], [], [293], [], [], [277], [], [], [], [328, 330, 0, 50, 331], [], [], [293], [], [], [], [], [828, 829, 830, 58, 831], [], [], [293], [], [], [], [], [828, 829, 830, 58, 831], [], [], [], [328, 330, 0, 50, 331], [], [], [293], [], [], [275], [], [], [293], [], [], [275], [], [], [832, 655, 654, 62], [], []]
set_option maxRecDepth 100000 in
theorem xo_94 : xa_allOK xb_G xb_S 94 := xa_all_ok (es := xt_94) (pls := xp_94) rfl (by decide +kernel)
def xp_95 : List (List Nat) := [[], [805, 806, 50, 807], [], [], [], [328, 330, 0, 50, 331], [], [], [293], [], [], [], [], [816, 817, 818, 58, 819], [], [], [], [328, 330, 0, 50, 331], [], [], [347, 348, 50, 349], [], [], [337, 338, 50, 339], [], [], [], [328, 330, 0, 50, 331], [], [], [287], [129], [], [], [], [], [], [], [], [279], [], [], [360, 361, 362, 52, 363], [], [], [275], [], [], [837, 838, 50, 839], [], [], [275], [], [], [], [], [], [], [], [], [], [], [], [], [287], [136], [364, 365, 366, 52, 367], [], [], [], []]
set_option maxRecDepth 100000 in
theorem xo_95 : xa_allOK xb_G xb_S 95 := xa_all_ok (es := xt_95) (pls := xp_95) rfl (by decide +kernel)
def xp_96 : List (List Nat) := [[], [805, 806, 50, 807], [], [], [], [328, 330, 0, 50, 331], [], [], [293], [], [], [], [], [816, 817, 818, 58, 819], [], [], [], [328, 330, 0, 50, 331], [], [], [347, 348, 50, 349], [], [], [407, 408, 50, 409], [], [], [], [328, 330, 0, 50, 331], [], [], [], [410, 412, 2, 50, 413], [], [], [], [], [], [279], [], [], [], [], [], [], [], [], [], [], [449, 450, 451, 56, 452], [], [275], [], [], [], [], [], [], [], [], [], [], []]
set_option maxRecDepth 100000 in
theorem xo_96 : xa_allOK xb_G xb_S 96 := xa_all_ok (es := xt_96) (pls := xp_96) rfl (by decide +kernel)
def xp_97 : List (List Nat) := [[], [288], [], [287], [649, 650, 651, 51, 652], [], [], [297], [], []]
set_option maxRecDepth 100000 in
theorem xo_97 : xa_allOK xb_G xb_S 97 := xa_all_ok (es := xt_97) (pls := xp_97) rfl (by decide +kernel)
def xp_98 : List (List Nat) := [[], [297], [], [], [], [328, 330, 0, 50, 331], [], [], [287], [], [288], [649, 650, 651, 51, 652], [], [287], [136], []]
set_option maxRecDepth 100000 in
theorem xo_98 : xa_allOK xb_G xb_S 98 := xa_all_ok (es := xt_98) (pls := xp_98) rfl (by decide +kernel)
def xp_99 : List (List Nat) := [[], [297], [], [], [], [297], [], [], [], [], [], []]
set_option maxRecDepth 100000 in
theorem xo_99 : xa_allOK xb_G xb_S 99 := xa_all_ok (es := xt_99) (pls := xp_99) rfl (by decide +kernel)
def xp_100 : List (List Nat) := [[], [], [], [287], [136], [], [], [860, 862, 18, 50, 863], [], [], [864, 866, 19, 50, 867], [], [], [868, 870, 20, 50, 871], [], [], [291], [166], [], [], [287], [139], [], [], [287], [872, 873, 874, 51, 875], [], [], [], [328, 330, 0, 50, 331], []]
set_option maxRecDepth 100000 in
theorem xo_100 : xa_allOK xb_G xb_S 100 := xa_all_ok (es := xt_100) (pls := xp_100) rfl (by decide +kernel)
def xp_101 : List (List Nat) := [[], [], [], [325, 326, 50, 327], [], [], [], [328, 330, 0, 50, 331], [], [], [], [], [294], [], [], [], [], [], [], [], [], [], [], [], [], [294], [], [], [], [], [], [], [], []]
set_option maxRecDepth 100000 in
theorem xo_101 : xa_allOK xb_G xb_S 101 := xa_all_ok (es := xt_101) (pls := xp_101) rfl (by decide +kernel)
def xp_102 : List (List Nat) := [[], [294], [], [], [], [], [], [], [332], [], [], []]
set_option maxRecDepth 100000 in
theorem xo_102 : xa_allOK xb_G xb_S 102 := xa_all_ok (es := xt_102) (pls := xp_102) rfl (by decide +kernel)
def xp_103 : List (List Nat) := [[], [], [], [], [], [], [], [], [], []]
set_option maxRecDepth 100000 in
theorem xo_103 : xa_allOK xb_G xb_S 103 := xa_all_ok (es := xt_103) (pls := xp_103) rfl (by decide +kernel)
def xp_104 : List (List Nat) := [[], [], [], [325, 326, 50, 327], []]
set_option maxRecDepth 100000 in
theorem xo_104 : xa_allOK xb_G xb_S 104 := xa_all_ok (es := xt_104) (pls := xp_104) rfl (by decide +kernel)
def xp_105 : List (List Nat) := [[], [], [], [325, 326, 50, 327], []]
set_option maxRecDepth 100000 in
theorem xo_105 : xa_allOK xb_G xb_S 105 := xa_all_ok (es := xt_105) (pls := xp_105) rfl (by decide +kernel)
def xp_106 : List (List Nat) := [[], [], [], [325, 326, 50, 327], []]
set_option maxRecDepth 100000 in
theorem xo_106 : xa_allOK xb_G xb_S 106 := xa_all_ok (es := xt_106) (pls := xp_106) rfl (by decide +kernel)
def xp_107 : List (List Nat) := [[], [], [], [325, 326, 50, 327], []]
set_option maxRecDepth 100000 in
theorem xo_107 : xa_allOK xb_G xb_S 107 := xa_all_ok (es := xt_107) (pls := xp_107) rfl (by decide +kernel)
def xp_108 : List (List Nat) := [[], [], [], [325, 326, 50, 327], []]
set_option maxRecDepth 100000 in
theorem xo_108 : xa_allOK xb_G xb_S 108 := xa_all_ok (es := xt_108) (pls := xp_108) rfl (by decide +kernel)
def xp_109 : List (List Nat) := [[], [], [], [325, 326, 50, 327], []]
set_option maxRecDepth 100000 in
theorem xo_109 : xa_allOK xb_G xb_S 109 := xa_all_ok (es := xt_109) (pls := xp_109) rfl (by decide +kernel)
def xp_110 : List (List Nat) := [[], [], [], [325, 326, 50, 327], []]
set_option maxRecDepth 100000 in
theorem xo_110 : xa_allOK xb_G xb_S 110 := xa_all_ok (es := xt_110) (pls := xp_110) rfl (by decide +kernel)
def xp_111 : List (List Nat) := [[], [347, 348, 50, 349], [], [], [], [], [287], [129], [], [], [103], [], [], [325, 326, 50, 327], [], [], [], [], []]
set_option maxRecDepth 100000 in
theorem xo_111 : xa_allOK xb_G xb_S 111 := xa_all_ok (es := xt_111) (pls := xp_111) rfl (by decide +kernel)
def xp_112 : List (List Nat) := [[], [], [], [], [], [354, 355, 50, 356], [], [], [], [], [357, 358, 50, 359], [], [], [], [], []]
set_option maxRecDepth 100000 in
theorem xo_112 : xa_allOK xb_G xb_S 112 := xa_all_ok (es := xt_112) (pls := xp_112) rfl (by decide +kernel)
def xp_113 : List (List Nat) := [[], [], [], [], [], [], [], [], [], [], [], [], [], [], [785, 0], [], [], [], [], [], [], []]
set_option maxRecDepth 100000 in
theorem xo_113 : xa_allOK xb_G xb_S 113 := xa_all_ok (es := xt_113) (pls := xp_113) rfl (by decide +kernel)
def xp_114 : List (List Nat) := [[], [], [], [], [], [], [], [], [], [], [], [], [], [], [], []]
set_option maxRecDepth 100000 in
theorem xo_114 : xa_allOK xb_G xb_S 114 := xa_all_ok (es := xt_114) (pls := xp_114) rfl (by decide +kernel)
def xp_115 : List (List Nat) := [[], [], [], [], [], [], [], [], [], []]
set_option maxRecDepth 100000 in
theorem xo_115 : xa_allOK xb_G xb_S 115 := xa_all_ok (es := xt_115) (pls := xp_115) rfl (by decide +kernel)
def xp_116 : List (List Nat) := [[], [290], [], [], [414, 415, 416, 56, 417], [], [290], [], [], []]
set_option maxRecDepth 100000 in
theorem xo_116 : xa_allOK xb_G xb_S 116 := xa_all_ok (es := xt_116) (pls := xp_116) rfl (by decide +kernel)
def xp_117 : List (List Nat) := [[], [], [], [], [], [], [], [], [], [], [], [], [], [], [], [287], [126], [], [], [], [287], [126], [], [], [], [], [], [], [], [], [258], [], [], [], [], [287], [123], [], [], [], [287], [136], [538, 419, 420, 56, 421], [], [], [258], [], [], [], [], [287], [123], [], [], [], [287], [136], [538, 419, 420, 56, 421], [], [], [], [287], [136], [], [526, 527, 528, 56, 529], [], [], [], [], [], [], [], [], [], [], [], [], [], [], []]
set_option maxRecDepth 100000 in
theorem xo_117 : xa_allOK xb_G xb_S 117 := xa_all_ok (es := xt_117) (pls := xp_117) rfl (by decide +kernel)
def xp_118 : List (List Nat) := [[], [287], [129], [], [], [106], [], [], [], [440, 423, 50, 424], [], [287], [123], [], [], [], [], [], [], [], [], [], [], [], [], [614, 430, 50, 431], []]
set_option maxRecDepth 100000 in
theorem xo_118 : xa_allOK xb_G xb_S 118 := xa_all_ok (es := xt_118) (pls := xp_118) rfl (by decide +kernel)
def xp_119 : List (List Nat) := [[], [], [], [], [], [], [], [], [], [287], [129], [], [], [103], [], [], [], [], [], []]
set_option maxRecDepth 100000 in
theorem xo_119 : xa_allOK xb_G xb_S 119 := xa_all_ok (es := xt_119) (pls := xp_119) rfl (by decide +kernel)
def xp_120 : List (List Nat) := [[], [], [], [], [], [], [], [], [], [], [410, 412, 2, 50, 413], [], [287], [136], [432, 433, 434, 56, 435], [628, 569, 61, 570], [], [], [], [], [], []]
set_option maxRecDepth 100000 in
theorem xo_120 : xa_allOK xb_G xb_S 120 := xa_all_ok (es := xt_120) (pls := xp_120) rfl (by decide +kernel)
def xp_121 : List (List Nat) := [[], [], [], [], [], [], [], [], [], [410, 412, 2, 50, 413], [], [287], [136], [449, 450, 451, 56, 452], [], [], [], [], [], [], []]
set_option maxRecDepth 100000 in
theorem xo_121 : xa_allOK xb_G xb_S 121 := xa_all_ok (es := xt_121) (pls := xp_121) rfl (by decide +kernel)
def xp_122 : List (List Nat) := [[], [], [], [], [], [], [], [], [], [], [], [], [], [], [380, 381, 60, 382], [], [], []]
set_option maxRecDepth 100000 in
theorem xo_122 : xa_allOK xb_G xb_S 122 := xa_all_ok (es := xt_122) (pls := xp_122) rfl (by decide +kernel)
def xp_123 : List (List Nat) := [[], [], [], [], [], [], [], [], [], [], [], [380, 381, 60, 382], [425, 426, 60, 427], [], [], [], [], [], [], [], [], [], [], []]
set_option maxRecDepth 100000 in
theorem xo_123 : xa_allOK xb_G xb_S 123 := xa_all_ok (es := xt_123) (pls := xp_123) rfl (by decide +kernel)
def xp_124 : List (List Nat) := [[], [], [], [], [], [], [], [], [], [], [], [], [], [], [], [], [], [], [], [], [], [], [], [], [], [], [], [], [], [], [], [], [], [], [], [], [], [], [], []]
set_option maxRecDepth 100000 in
theorem xo_124 : xa_allOK xb_G xb_S 124 := xa_all_ok (es := xt_124) (pls := xp_124) rfl (by decide +kernel)
