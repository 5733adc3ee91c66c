/-! EVERY INSTRUCTION IS WHAT ITS TABLE SAYS -/
def xa_all (G : xa_G) (S : xa_M) (mi : Nat) : Nat → List xa_E → List (List Nat) → Bool
  | _, [], _ => true
  | i, en :: es, pls => xa_ok G S mi i en (pls.headD []) && xa_all G S mi (i + 1) es pls.tail
theorem xa_all_of (G : xa_G) (S : xa_M) (mi : Nat) : ∀ (es : List xa_E) (k : Nat) (pls : List (List Nat)), xa_all G S mi k es pls = true → ∀ (i : Nat) (en : xa_E), es[i]? = some en → ∃ pl, xa_ok G S mi (k + i) en pl = true
  | [], k, pls, h, i, en, e => by simp at e
  | a :: es, k, pls, h, i, en, e => by
    rw [xa_all, Bool.and_eq_true] at h
    match i, e with
    | 0, e =>
      simp at e
      subst e
      exact ⟨_, h.1⟩
    | i + 1, e =>
      have := xa_all_of G S mi es (k + 1) pls.tail h.2 i en (by simpa using e)
      rw [show k + (i + 1) = k + 1 + i by omega]
      exact this
theorem xa_all_ok {G : xa_G} {S : xa_M} {mi : Nat} {es : List xa_E} {pls : List (List Nat)} (he : G.1 mi = es) (h : xa_all G S mi 0 es pls = true) : xa_allOK G S mi := by
  intro i en e
  rw [he] at e
  have := xa_all_of G S mi es 0 pls h i en e
  rwa [Nat.zero_add] at this
def xp_0 : List (List Nat) := [[], [209, 73, 74], [], [], [121], [210], [], [], [121], [211], [], [], [121], [212], [], [], [121], [213], [], [], [214], []]
set_option maxRecDepth 100000 in
theorem xo_0 : xa_allOK xb_G xb_S 0 := xa_all_ok (es := xt_0) (pls := xp_0) rfl (by decide +kernel)
def xp_1 : List (List Nat) := [[], [], [547, 433, 434, 56, 435], [], [], [], [548, 455, 456, 56, 457], [], [], [], [], [], [], [], [549, 551, 5, 55, 552], [], [], [], [561, 563, 7, 55, 564], [], [], [], [], [], [], [], [], [], [], [], [], [], [], [], [], [], [568, 569, 61, 570], [], [], [], [], [], [], [574, 576, 8, 55, 577], [], [], [], [], [568, 569, 61, 570], [], [], [], [], []]
set_option maxRecDepth 100000 in
theorem xo_1 : xa_allOK xb_G xb_S 1 := xa_all_ok (es := xt_1) (pls := xp_1) rfl (by decide +kernel)
def xp_2 : List (List Nat) := [[], [], [214], [], [], [], [], [254], [102], [], [], [], [], [], [], [], [], [210], [], [], [], [], [], [553, 419, 420, 56, 421], [], [], [], [257], [], [], [], [554, 556, 6, 55, 557], [], [], [210], [], [], [], [554, 556, 6, 55, 557], [], [], []]
set_option maxRecDepth 100000 in
theorem xo_2 : xa_allOK xb_G xb_S 2 := xa_all_ok (es := xt_2) (pls := xp_2) rfl (by decide +kernel)
def xp_3 : List (List Nat) := [[], [], [], [], [214], [], [211], [], [], [], [211], [], [214], [], [558, 559, 50, 560], [], [], [211], [], [214], [], [], [], [], [214], [], [], [214], []]
set_option maxRecDepth 100000 in
theorem xo_3 : xa_allOK xb_G xb_S 3 := xa_all_ok (es := xt_3) (pls := xp_3) rfl (by decide +kernel)
def xp_4 : List (List Nat) := [[], [], [], [], [], [], [214], [], [], [212], [], [], [211], [], [], [], [257], [], [254], [102], [565, 566, 55, 567], [], [], [], [], [213], [], [], [211], [], [], [], [210], [], [254], [102], [565, 566, 55, 567], [], [], [], [], [], [212], [], [], [], [213], [], [], [], [], [], [], [], [], []]
set_option maxRecDepth 100000 in
theorem xo_4 : xa_allOK xb_G xb_S 4 := xa_all_ok (es := xt_4) (pls := xp_4) rfl (by decide +kernel)
def xp_5 : List (List Nat) := [[], [], [], [], [], [], [], [], [], [], [], [], [], [], [], [], [], [], [], [], [], []]
set_option maxRecDepth 100000 in
theorem xo_5 : xa_allOK xb_G xb_S 5 := xa_all_ok (es := xt_5) (pls := xp_5) rfl (by decide +kernel)
def xp_6 : List (List Nat) := [[], [], [], [], [214], [], [], [212], [], [], [], [], [], [], [], [213], [], [], [], [], [], [], [], [], [548, 455, 456, 56, 457], [], [], [], [], [], [], [], []]
set_option maxRecDepth 100000 in
theorem xo_6 : xa_allOK xb_G xb_S 6 := xa_all_ok (es := xt_6) (pls := xp_6) rfl (by decide +kernel)
def xp_7 : List (List Nat) := [[], [230, 73, 74], [], [], [121], [256], [], [231, 232, 57], [], [233, 234, 57, 235], [259], [], [], [253], [], [], [255], []]
set_option maxRecDepth 100000 in
theorem xo_7 : xa_allOK xb_G xb_S 7 := xa_all_ok (es := xt_7) (pls := xp_7) rfl (by decide +kernel)
def xp_8 : List (List Nat) := [[], [], [], [], [253], [101], [], [], [256], [], [], [], [], [255], [], [253], [95], [], [], [], [], [253], [98], [], [], [418, 419, 420, 56, 421], [], [], [], []]
set_option maxRecDepth 100000 in
theorem xo_8 : xa_allOK xb_G xb_S 8 := xa_all_ok (es := xt_8) (pls := xp_8) rfl (by decide +kernel)
def xp_9 : List (List Nat) := [[], [253], [105], [], [422, 423, 50, 424], [], [253], [89], [], [], [], [428, 378, 50, 379], [], [], [], [253], [105], [], [429, 430, 50, 431], []]
set_option maxRecDepth 100000 in
theorem xo_9 : xa_allOK xb_G xb_S 9 := xa_all_ok (es := xt_9) (pls := xp_9) rfl (by decide +kernel)
def xp_10 : List (List Nat) := [[], [], [], [], [], [], [253], [101], [], [], [253], [98], [], [], [], [], [], [], [256], [], [], [], [], [], [], [], [], [], [], [], [], []]
set_option maxRecDepth 100000 in
theorem xo_10 : xa_allOK xb_G xb_S 10 := xa_all_ok (es := xt_10) (pls := xp_10) rfl (by decide +kernel)
def xp_11 : List (List Nat) := [[], [259], [458, 459, 460, 57, 461], [], [], [], [], [253], [101], [], [], [], [], [], [], [], [], [259], [], [253], [89], [], [], [], [253], [92], [], [], [463, 464, 465, 57, 466], [], [], [], [259], [469, 470, 471, 57, 472], []]
set_option maxRecDepth 100000 in
theorem xo_11 : xa_allOK xb_G xb_S 11 := xa_all_ok (es := xt_11) (pls := xp_11) rfl (by decide +kernel)
def xp_12 : List (List Nat) := [[], [259], [458, 459, 460, 57, 461], [], [], [], [], [253], [101], [], [], [], [], [], [259], [595, 2, 0], [], [], [597, 3, 0], [], [], [463, 464, 465, 57, 466], [], [], [253], [101], [], [], [], [], [], [], [], [], [259], [], [253], [89], [], [], [], [253], [92], [], [], [463, 464, 465, 57, 466], [], [], [], [259], [469, 470, 471, 57, 472], []]
set_option maxRecDepth 100000 in
theorem xo_12 : xa_allOK xb_G xb_S 12 := xa_all_ok (es := xt_12) (pls := xp_12) rfl (by decide +kernel)
def xp_13 : List (List Nat) := [[], [], [], [453, 433, 434, 56, 435], [454, 455, 456, 56, 457], []]
set_option maxRecDepth 100000 in
theorem xo_13 : xa_allOK xb_G xb_S 13 := xa_all_ok (es := xt_13) (pls := xp_13) rfl (by decide +kernel)
def xp_14 : List (List Nat) := [[], [], [], [], [], [], [253], [101], [], [], [253], [98], [], [], [], [], [], [], [253], [98], [], [], [490, 426, 60, 427], [], [], [256], [], [], [], [], [], [], [256], [], [], [490, 426, 60, 427], [], [], [], [], []]
set_option maxRecDepth 100000 in
theorem xo_14 : xa_allOK xb_G xb_S 14 := xa_all_ok (es := xt_14) (pls := xp_14) rfl (by decide +kernel)
def xp_15 : List (List Nat) := [[], [], [485, 450, 451, 56, 452], [], [], [], [486, 488, 3, 56, 489], [], [], [], [], [], [], [], [], [], [], [], [485, 450, 451, 56, 452], [], [], [], [], [], [], [486, 488, 3, 56, 489], [], [], [], [], [], [], []]
set_option maxRecDepth 100000 in
theorem xo_15 : xa_allOK xb_G xb_S 15 := xa_all_ok (es := xt_15) (pls := xp_15) rfl (by decide +kernel)
def xp_16 : List (List Nat) := [[], [], [], [500, 482, 483, 56, 484], [], [], [], [], [], []]
set_option maxRecDepth 100000 in
theorem xo_16 : xa_allOK xb_G xb_S 16 := xa_all_ok (es := xt_16) (pls := xp_16) rfl (by decide +kernel)
def xp_17 : List (List Nat) := [[], [], [], [], [], [], [], [499, 381, 60, 382], [], [500, 482, 483, 56, 484], [], [], [], [], [], [], [], [], [], [], [], [], [], [500, 482, 483, 56, 484], [], [], [], [], []]
set_option maxRecDepth 100000 in
theorem xo_17 : xa_allOK xb_G xb_S 17 := xa_all_ok (es := xt_17) (pls := xp_17) rfl (by decide +kernel)
def xp_18 : List (List Nat) := [[], [], [], [], [], [], [], [], [], [], [], [], [485, 450, 451, 56, 452], [], [], [], [], [], [], [486, 488, 3, 56, 489], [], [], [], [], []]
set_option maxRecDepth 100000 in
theorem xo_18 : xa_allOK xb_G xb_S 18 := xa_all_ok (es := xt_18) (pls := xp_18) rfl (by decide +kernel)
def xp_19 : List (List Nat) := [[], [], [], [], [], [], [], [], [], [], [], [], [], [], [486, 488, 3, 56, 489], [], [], [], [485, 450, 451, 56, 452], [], [], [], [], [], [], [], [], [], [], [], [], [], []]
set_option maxRecDepth 100000 in
theorem xo_19 : xa_allOK xb_G xb_S 19 := xa_all_ok (es := xt_19) (pls := xp_19) rfl (by decide +kernel)
def xp_20 : List (List Nat) := [[], [], [485, 450, 451, 56, 452], [], [], [], [], [], [], [], [], [], [], [253], [101], [], [], [253], [95], [], [], [], [], [], [256], [], [], [], [], [], [253], [98], [], [], [418, 419, 420, 56, 421], [], [], [], [], [], [485, 450, 451, 56, 452], [], [], [], [], [], [586, 527, 528, 56, 529], [], [], [], [], [], [], []]
set_option maxRecDepth 100000 in
theorem xo_20 : xa_allOK xb_G xb_S 20 := xa_all_ok (es := xt_20) (pls := xp_20) rfl (by decide +kernel)
def xp_21 : List (List Nat) := [[], [87, 73, 74], [], [], [121], [88], [], [], [121], [91], [], [], [121], [94], [], [], [121], [97], [], [], [100], [], [], [104], []]
set_option maxRecDepth 100000 in
theorem xo_21 : xa_allOK xb_G xb_S 21 := xa_all_ok (es := xt_21) (pls := xp_21) rfl (by decide +kernel)
def xp_22 : List (List Nat) := [[], [100], [], [], [], [], [], []]
set_option maxRecDepth 100000 in
theorem xo_22 : xa_allOK xb_G xb_S 22 := xa_all_ok (es := xt_22) (pls := xp_22) rfl (by decide +kernel)
def xp_23 : List (List Nat) := [[], [368, 361, 362, 52, 363], [], [], [], [88], [], [100], [], [], [], [91], [], [100], [], [], [], [94], [], [100], [], [], [], [97], [], [100], [], [], [], [], [100], [], [], [100], []]
set_option maxRecDepth 100000 in
theorem xo_23 : xa_allOK xb_G xb_S 23 := xa_all_ok (es := xt_23) (pls := xp_23) rfl (by decide +kernel)
def xp_24 : List (List Nat) := [[], [], [], [], [100], [], [], [], [], [88], [], [], [88], [], [], [], [], [], [], [91], [], [], [91], [], [], [], [], [], [], [94], [], [], [94], [], [], [], [], [], [], [97], [], [], [97], [], [], [], [], [], [], [], [], [], [100], [], [], [100], []]
set_option maxRecDepth 100000 in
theorem xo_24 : xa_allOK xb_G xb_S 24 := xa_all_ok (es := xt_24) (pls := xp_24) rfl (by decide +kernel)
def xp_25 : List (List Nat) := [[], [], [], [], [100], [], [], [88], [], [], [88], [], [], [], [], [91], [], [], [91], [], [], [], [], [94], [], [], [94], [], [], [], [], [97], [], [], [97], [], [], [], [], [], [], [], [100], [100], [], [], [104], [104], []]
set_option maxRecDepth 100000 in
theorem xo_25 : xa_allOK xb_G xb_S 25 := xa_all_ok (es := xt_25) (pls := xp_25) rfl (by decide +kernel)
def xp_26 : List (List Nat) := [[], [236, 73, 74], []]
set_option maxRecDepth 100000 in
theorem xo_26 : xa_allOK xb_G xb_S 26 := xa_all_ok (es := xt_26) (pls := xp_26) rfl (by decide +kernel)
def xp_27 : List (List Nat) := [[], [], [237], [], [462], [238], [], [], [239], [], [], [240], [], [], [241], []]
set_option maxRecDepth 100000 in
theorem xo_27 : xa_allOK xb_G xb_S 27 := xa_all_ok (es := xt_27) (pls := xp_27) rfl (by decide +kernel)
def xp_28 : List (List Nat) := [[], [], [], [], [], [], [], [], [], [], [], [], [], [], [], [240], [], [], [], [241], [], [], [], [], [], [], [239], [], [], [], [], [239], [], [], [], [], [], [], [], [], [237], [], [238], [], [237], [], [462], [238], [], [], [240], [], [467, 1, 0], [], [], [], [], [], [238], [], [239], [], [462], [], [], [], [], [], [238], [], [], [239], [], [], [240], []]
set_option maxRecDepth 100000 in
theorem xo_28 : xa_allOK xb_G xb_S 28 := xa_all_ok (es := xt_28) (pls := xp_28) rfl (by decide +kernel)
def xp_29 : List (List Nat) := [[], [241], [], [], [240], [], [], [], [], [237], [], [238], [], []]
set_option maxRecDepth 100000 in
theorem xo_29 : xa_allOK xb_G xb_S 29 := xa_all_ok (es := xt_29) (pls := xp_29) rfl (by decide +kernel)
def xp_30 : List (List Nat) := [[], [273, 73, 74], [], [], [121], [274], [], [], [276], [], [], [278], []]
set_option maxRecDepth 100000 in
theorem xo_30 : xa_allOK xb_G xb_S 30 := xa_all_ok (es := xt_30) (pls := xp_30) rfl (by decide +kernel)
def xp_31 : List (List Nat) := [[], [276], [], [], [], [], []]
set_option maxRecDepth 100000 in
theorem xo_31 : xa_allOK xb_G xb_S 31 := xa_all_ok (es := xt_31) (pls := xp_31) rfl (by decide +kernel)
def xp_32 : List (List Nat) := [[], [], [276], [], [], [], [], [], [], [278], [], [], [], [], [278], [], [], [274], [], [], [], [], [], []]
set_option maxRecDepth 100000 in
theorem xo_32 : xa_allOK xb_G xb_S 32 := xa_all_ok (es := xt_32) (pls := xp_32) rfl (by decide +kernel)
def xp_33 : List (List Nat) := [[], [276], [], [], [], [274], [], [], [], [], [], [], [274], [], [], [276], [], [], [], [], [], [], [], []]
set_option maxRecDepth 100000 in
theorem xo_33 : xa_allOK xb_G xb_S 33 := xa_all_ok (es := xt_33) (pls := xp_33) rfl (by decide +kernel)
def xp_34 : List (List Nat) := [[], [], [], [], [], [], [278], [], [], [], [278], [], [], [], [], [], [], []]
set_option maxRecDepth 100000 in
theorem xo_34 : xa_allOK xb_G xb_S 34 := xa_all_ok (es := xt_34) (pls := xp_34) rfl (by decide +kernel)
def xp_35 : List (List Nat) := [[], [162, 73, 74], [], [], [121], [163], [], [], [164], [], [], [165], [], [], [167], [], [], [169], [], [], [171], []]
set_option maxRecDepth 100000 in
theorem xo_35 : xa_allOK xb_G xb_S 35 := xa_all_ok (es := xt_35) (pls := xp_35) rfl (by decide +kernel)
def xp_36 : List (List Nat) := [[], [165], [], [], [], [163], [], [165], [], [], [], [], [165], [], [], [165], []]
set_option maxRecDepth 100000 in
theorem xo_36 : xa_allOK xb_G xb_S 36 := xa_all_ok (es := xt_36) (pls := xp_36) rfl (by decide +kernel)
def xp_37 : List (List Nat) := [[], [], [164], [], [668, 669, 670, 53, 671], []]
set_option maxRecDepth 100000 in
theorem xo_37 : xa_allOK xb_G xb_S 37 := xa_all_ok (es := xt_37) (pls := xp_37) rfl (by decide +kernel)
def xp_38 : List (List Nat) := [[], [], [164], [167], [], [167], [], [165], [], [], [163], [], [167], [], [], [], [], [], [167], [], [], [167], [], [], [], [167], [164], [], [], [171], [], [164], [], [165], [], [], [163], [], [164], [], [672, 673, 53, 674], [], [], [], [164], [], [], [164], [], [], [164], [], [167], [], [], [], [169], [], [], [164], [], [165], [], [], [163], [], [164], [], [675, 676, 53, 677], [], [], [171], [], [], [], [], [], [171], [], [], [163], [], [164], [], [], [], [], [171], [], [], [164], [], [], [164], [], [], [164], [], [167], [], [], [], [169], [], [], [167], [], [165], [], [], [], [169], [], [], [], [163], [], [167], [], [], [], [], [], [], [169], [], [], [167], [], [], [164], []]
set_option maxRecDepth 100000 in
theorem xo_38 : xa_allOK xb_G xb_S 38 := xa_all_ok (es := xt_38) (pls := xp_38) rfl (by decide +kernel)
def xp_39 : List (List Nat) := [[], [], [], [], [], [], [], [], [], []]
set_option maxRecDepth 100000 in
theorem xo_39 : xa_allOK xb_G xb_S 39 := xa_all_ok (es := xt_39) (pls := xp_39) rfl (by decide +kernel)
def xp_40 : List (List Nat) := [[], [], [], [], [], [], [], [], [], []]
set_option maxRecDepth 100000 in
theorem xo_40 : xa_allOK xb_G xb_S 40 := xa_all_ok (es := xt_40) (pls := xp_40) rfl (by decide +kernel)
def xp_41 : List (List Nat) := [[], [169], [], [], [], [164], [], [167], [], [], [691, 692, 693, 63, 694], [], [], [], [], [], [], [], [691, 692, 693, 63, 694], [], [], [163], [], [167], [], [], [], [], [], [701, 702, 703, 63, 704], [], [], [], [], [], [], []]
set_option maxRecDepth 100000 in
theorem xo_41 : xa_allOK xb_G xb_S 41 := xa_all_ok (es := xt_41) (pls := xp_41) rfl (by decide +kernel)
def xp_42 : List (List Nat) := [[], [169], [], [], [], [164], [], [167], [], [], [], [], [163], [], [167], [], [], [], [], [], [], [163], [], [167], [], [], [], []]
set_option maxRecDepth 100000 in
theorem xo_42 : xa_allOK xb_G xb_S 42 := xa_all_ok (es := xt_42) (pls := xp_42) rfl (by decide +kernel)
def xp_43 : List (List Nat) := [[], [191, 73, 74], [], [], [194], [], [], [192], [], [], [193], []]
set_option maxRecDepth 100000 in
theorem xo_43 : xa_allOK xb_G xb_S 43 := xa_all_ok (es := xt_43) (pls := xp_43) rfl (by decide +kernel)
def xp_44 : List (List Nat) := [[], [192], [664, 665, 666, 53, 667], [], [], [], [], [], [], [678, 680, 10, 54, 681], [], [], [192], [170], [], [], [], [], [192], [170], [], [], [], [], [192], [739, 669, 670, 53, 671], [], [], [], [], [192], [168], [], []]
set_option maxRecDepth 100000 in
theorem xo_44 : xa_allOK xb_G xb_S 44 := xa_all_ok (es := xt_44) (pls := xp_44) rfl (by decide +kernel)
def xp_45 : List (List Nat) := [[], [0], [683, 685, 11, 54, 686], [], [], [740, 742, 12, 54, 743], [], [], [1], [683, 685, 11, 54, 686], [], [], [752, 754, 14, 54, 755], [], [], [2], [683, 685, 11, 54, 686], [], [], [759, 761, 15, 54, 762], [], [], [], [], []]
set_option maxRecDepth 100000 in
theorem xo_45 : xa_allOK xb_G xb_S 45 := xa_all_ok (es := xt_45) (pls := xp_45) rfl (by decide +kernel)
def xp_46 : List (List Nat) := [[], [], [], [744, 746, 13, 54, 747], [], [], [], [], [194], [], [], [3], [683, 685, 11, 54, 686], [], [], [], [], [744, 746, 13, 54, 747], [], [], [], [], [193], [124], [], [], [194], [], [], [4], [683, 685, 11, 54, 686], [], [], [], [], [], [], [744, 746, 13, 54, 747], [], [], [], [], [193], [127], [], [], [194], [], [], []]
set_option maxRecDepth 100000 in
theorem xo_46 : xa_allOK xb_G xb_S 46 := xa_all_ok (es := xt_46) (pls := xp_46) rfl (by decide +kernel)
def xp_47 : List (List Nat) := [[], [], [], [744, 746, 13, 54, 747], [], [], [], [], [193], [130], [], [194], [], [], [], [5], [683, 685, 11, 54, 686], [], [], [], [107], [], [], [], [6], [683, 685, 11, 54, 686], [], [], [], [107], [], [], [], []]
set_option maxRecDepth 100000 in
theorem xo_47 : xa_allOK xb_G xb_S 47 := xa_all_ok (es := xt_47) (pls := xp_47) rfl (by decide +kernel)
def xp_48 : List (List Nat) := [[], [], [], [744, 746, 13, 54, 747], [], [], [], [], [193], [130], [], [194], [], [], [], [], [], [0], [683, 685, 11, 54, 686], [], [], [], [], [744, 746, 13, 54, 747], [], [], [], [], [194], [], [], [], [], [763, 765, 16, 54, 766], [], [], [], [], [], [], [], [777, 361, 362, 52, 363], [], [], [], [], [], [778, 780, 17, 54, 781], [], [], [], [], [], [763, 765, 16, 54, 766], [], [], [], [], [], [], [], []]
set_option maxRecDepth 100000 in
theorem xo_48 : xa_allOK xb_G xb_S 48 := xa_all_ok (es := xt_48) (pls := xp_48) rfl (by decide +kernel)
def xp_49 : List (List Nat) := [[], [192], [767, 768, 769, 53, 770], [], [], [], [], [192], [7], [687, 688, 689, 53, 690], [], [], [], [], [192], [8], [687, 688, 689, 53, 690], [], [], [], [], [192], [9], [687, 688, 689, 53, 690], [], [], [], [], [192], [10], [687, 688, 689, 53, 690], [], [], [], [], [192], [11], [687, 688, 689, 53, 690], [], [], [], [], [192], [12], [687, 688, 689, 53, 690], [], [], [], [], []]
set_option maxRecDepth 100000 in
theorem xo_49 : xa_allOK xb_G xb_S 49 := xa_all_ok (es := xt_49) (pls := xp_49) rfl (by decide +kernel)
def xp_50 : List (List Nat) := [[], [], [], [], [], [], [], [192], [739, 669, 670, 53, 671], [], [], [], [], [782, 783, 50, 784], [], [], [192], [767, 768, 769, 53, 770], [], [], [], [], [], [], [], [], [], [], [193], [137], [787, 365, 366, 52, 367], [], [192], [739, 669, 670, 53, 671], [], []]
set_option maxRecDepth 100000 in
theorem xo_50 : xa_allOK xb_G xb_S 50 := xa_all_ok (es := xt_50) (pls := xp_50) rfl (by decide +kernel)
def xp_51 : List (List Nat) := [[], [192], [], [687, 688, 689, 53, 690], [], [], [], [], [192], [739, 669, 670, 53, 671], [], []]
set_option maxRecDepth 100000 in
theorem xo_51 : xa_allOK xb_G xb_S 51 := xa_all_ok (es := xt_51) (pls := xp_51) rfl (by decide +kernel)
def xp_52 : List (List Nat) := [[], [192], [170], [], [], [], [192], [172], [], [], [748, 326, 50, 327], [], [], [], [], [], [], [], [], [], [192], [172], [194], [], [192], [739, 669, 670, 53, 671], [], []]
set_option maxRecDepth 100000 in
theorem xo_52 : xa_allOK xb_G xb_S 52 := xa_all_ok (es := xt_52) (pls := xp_52) rfl (by decide +kernel)
def xp_53 : List (List Nat) := [[], [80, 73, 74], [], [], [121], [122], [], [], [121], [125], [], [], [81], [128], [], [], [121], [131], [], [], [121], [133], [], [], [135], [], [], [138], [], [], [], [], [], [], [122], [], [], [], [], [125], [], [], [], [], [], [], [], [], [], [], [], [128], [], [81, 83, 52], [], [84, 85, 52, 86], [], [], [], [], [], [], [], [], [], [133], [], [], [], [], [], []]
set_option maxRecDepth 100000 in
theorem xo_53 : xa_allOK xb_G xb_S 53 := xa_all_ok (es := xt_53) (pls := xp_53) rfl (by decide +kernel)
def xp_54 : List (List Nat) := [[], [122], [], [], [122], [], [], [653, 655, 654, 62], [], [125], [], [], [125], [], [], [653, 655, 654, 62], [], [131], [], [], [131], [], [], [653, 655, 654, 62], [], [133], [], [], [133], [], [], [653, 655, 654, 62], [], [], [], [], [], [], [128], [], [], [], [128], [], [], [656, 657, 658, 52, 659], [], [], [], [], [135], [135], [], [], [138], [138], []]
set_option maxRecDepth 100000 in
theorem xo_54 : xa_allOK xb_G xb_S 54 := xa_all_ok (es := xt_54) (pls := xp_54) rfl (by decide +kernel)
def xp_55 : List (List Nat) := [[], [], [], [], [], [], [131], [], [], [], [], [], [133], [], [], [], [], [], [133], [], [], [], [], [], [131], [], [], [], [], [], [133], [], [], [], [], [], [133], [], [], [], [], [], [], [], [], []]
set_option maxRecDepth 100000 in
theorem xo_55 : xa_allOK xb_G xb_S 55 := xa_all_ok (es := xt_55) (pls := xp_55) rfl (by decide +kernel)
def xp_56 : List (List Nat) := [[], [], [], [], [], [], [], [], [133], [], [], [], [], [], [], [], []]
set_option maxRecDepth 100000 in
theorem xo_56 : xa_allOK xb_G xb_S 56 := xa_all_ok (es := xt_56) (pls := xp_56) rfl (by decide +kernel)
def xp_57 : List (List Nat) := [[], [], [138], [627], [], [], [], [138], [], [138], [], [], []]
set_option maxRecDepth 100000 in
theorem xo_57 : xa_allOK xb_G xb_S 57 := xa_all_ok (es := xt_57) (pls := xp_57) rfl (by decide +kernel)
def xp_58 : List (List Nat) := [[], [72, 73, 74], [], [75, 76, 51], [], [77, 78, 51, 79], [287], [], [75, 76, 51], [], [77, 78, 51, 79], [288], [], [75, 76, 51], [], [77, 78, 51, 79], [289], [], [], [155], [290], [], [157, 158, 53], [], [159, 160, 53, 161], [291], [], [186, 187, 54], [], [], [291], [], [287], [188, 189, 54, 190], [292], [], [], [202], [293], [], [], [121], [294], [], [], [121], [295], [], [204, 205, 55], [], [206, 207, 55, 208], [296], [], [], [297], [], [], [], [], [], [], [290], [], [155, 226, 56], [], [], [287], [129], [], [], [], [287], [123], [227, 228, 56, 229], [], [], [], [], [], [], [], [], [], [293], [], [202, 269, 58], [], [270, 271, 58, 272], [], [], [], []]
set_option maxRecDepth 100000 in
theorem xo_58 : xa_allOK xb_G xb_S 58 := xa_all_ok (es := xt_58) (pls := xp_58) rfl (by decide +kernel)
def xp_59 : List (List Nat) := [[], [], [], [325, 326, 50, 327], [], [], [], [328, 330, 0, 50, 331], [], [], [287], [136], [], [], [], [], [], [], [328, 330, 0, 50, 331], [], [], [287], [], [136], [], [], [136], [], [287], [136], []]
set_option maxRecDepth 100000 in
theorem xo_59 : xa_allOK xb_G xb_S 59 := xa_all_ok (es := xt_59) (pls := xp_59) rfl (by decide +kernel)
def xp_60 : List (List Nat) := [[], [337, 338, 50, 339], [], [], [], [328, 330, 0, 50, 331], [], [], [], [], [], [], [325, 326, 50, 327], [], [], [287], [123], [], [], [340, 341, 50, 342], [], [], [], [], [], [], [], [325, 326, 50, 327], [], [], [287], [126], [], [], [340, 341, 50, 342], [], [], [], [328, 330, 0, 50, 331], []]
set_option maxRecDepth 100000 in
theorem xo_60 : xa_allOK xb_G xb_S 60 := xa_all_ok (es := xt_60) (pls := xp_60) rfl (by decide +kernel)
def xp_61 : List (List Nat) := [[], [347, 348, 50, 349], [], [], [], [328, 330, 0, 50, 331], [], [], [287], [129], [], [], [106], [], [], [287], [129], [], [], [], [106], [], [], [], [], [], []]
set_option maxRecDepth 100000 in
theorem xo_61 : xa_allOK xb_G xb_S 61 := xa_all_ok (es := xt_61) (pls := xp_61) rfl (by decide +kernel)
def xp_62 : List (List Nat) := [[], [347, 348, 50, 349], [], [], [354, 355, 50, 356], [], [], [357, 358, 50, 359], [], [], [337, 338, 50, 339], [], [], [], [328, 330, 0, 50, 331], [], [], [287], [129], [], [], [], [], [360, 361, 362, 52, 363], [], [], [], [328, 330, 0, 50, 331], [], [], [], [], [], [], [287], [136], [364, 365, 366, 52, 367], [], [103], [], [], []]
set_option maxRecDepth 100000 in
theorem xo_62 : xa_allOK xb_G xb_S 62 := xa_all_ok (es := xt_62) (pls := xp_62) rfl (by decide +kernel)
def xp_63 : List (List Nat) := [[], [], [], [373, 375, 1, 50, 376], [], [], [], [328, 330, 0, 50, 331], [], [], [287], [129], [], [], [], [], [], [], [90], [], [], [], [], [93], [], [], [], [], [96], [], [], [], [], [99], [], [], [], [], [90], [], [], [], [287], [123], [], [96], [], [], [], [377, 378, 50, 379], [], [], [], [328, 330, 0, 50, 331], []]
set_option maxRecDepth 100000 in
theorem xo_63 : xa_allOK xb_G xb_S 63 := xa_all_ok (es := xt_63) (pls := xp_63) rfl (by decide +kernel)
def xp_64 : List (List Nat) := [[], [], [], [373, 375, 1, 50, 376], [], [], [354, 355, 50, 356], [], [], [], [328, 330, 0, 50, 331], [], [], [287], [129], [], [], [90], [], [], [340, 341, 50, 342], []]
set_option maxRecDepth 100000 in
theorem xo_64 : xa_allOK xb_G xb_S 64 := xa_all_ok (es := xt_64) (pls := xp_64) rfl (by decide +kernel)
def xp_65 : List (List Nat) := [[], [], [], [373, 375, 1, 50, 376], [], [], [], [328, 330, 0, 50, 331], [], [], [287], [129], [], [], [], [391, 392, 393, 52, 394], [], [287], [], [], [395, 396, 397, 51, 398], [], [287], [129], [], [], [103], []]
set_option maxRecDepth 100000 in
theorem xo_65 : xa_allOK xb_G xb_S 65 := xa_all_ok (es := xt_65) (pls := xp_65) rfl (by decide +kernel)
def xp_66 : List (List Nat) := [[], [], [], [373, 375, 1, 50, 376], [], [], [337, 338, 50, 339], [], [], [], [328, 330, 0, 50, 331], [], [], [287], [129], [], [], [99], [], [], [287], [136], [], [], [287], [129], [], [], [96], [], [], [340, 341, 50, 342], []]
set_option maxRecDepth 100000 in
theorem xo_66 : xa_allOK xb_G xb_S 66 := xa_all_ok (es := xt_66) (pls := xp_66) rfl (by decide +kernel)
def xp_67 : List (List Nat) := [[], [347, 348, 50, 349], [], [], [407, 408, 50, 409], [], [], [], [328, 330, 0, 50, 331], [], [], [], [410, 412, 2, 50, 413], [], [432, 433, 434, 56, 435], []]
set_option maxRecDepth 100000 in
theorem xo_67 : xa_allOK xb_G xb_S 67 := xa_all_ok (es := xt_67) (pls := xp_67) rfl (by decide +kernel)
def xp_68 : List (List Nat) := [[], [], [], [373, 375, 1, 50, 376], [], [], [407, 408, 50, 409], [], [], [], [328, 330, 0, 50, 331], [], [], [287], [129], [], [], [], [], [], [99], [], [], [], [], [], [328, 330, 0, 50, 331], [], [], [106], [], [440, 423, 50, 424], [], [106], [], [99], [], [], [440, 423, 50, 424], [], []]
set_option maxRecDepth 100000 in
theorem xo_68 : xa_allOK xb_G xb_S 68 := xa_all_ok (es := xt_68) (pls := xp_68) rfl (by decide +kernel)
def xp_69 : List (List Nat) := [[], [], [], [373, 375, 1, 50, 376], [], [], [], [328, 330, 0, 50, 331], [], [], [], [410, 412, 2, 50, 413], [258], [], [], [], [], [], [], [], [], [328, 330, 0, 50, 331], [], [], []]
set_option maxRecDepth 100000 in
theorem xo_69 : xa_allOK xb_G xb_S 69 := xa_all_ok (es := xt_69) (pls := xp_69) rfl (by decide +kernel)
def xp_70 : List (List Nat) := [[], [347, 348, 50, 349], [], [], [407, 408, 50, 409], [], [], [], [328, 330, 0, 50, 331], [], [], [], [410, 412, 2, 50, 413], [], [449, 450, 451, 56, 452], []]
set_option maxRecDepth 100000 in
theorem xo_70 : xa_allOK xb_G xb_S 70 := xa_all_ok (es := xt_70) (pls := xp_70) rfl (by decide +kernel)
def xp_71 : List (List Nat) := [[], [347, 348, 50, 349], [], [], [407, 408, 50, 409], [], [], [], [], [325, 326, 50, 327], [], [], [], [328, 330, 0, 50, 331], [], [], [], [410, 412, 2, 50, 413], [], [449, 450, 451, 56, 452], [], [], [], [], [], [], [328, 330, 0, 50, 331], [], [], [], [], [], [], []]
set_option maxRecDepth 100000 in
theorem xo_71 : xa_allOK xb_G xb_S 71 := xa_all_ok (es := xt_71) (pls := xp_71) rfl (by decide +kernel)
def xp_72 : List (List Nat) := [[], [347, 348, 50, 349], [], [], [], [328, 330, 0, 50, 331], [], [], [], [410, 412, 2, 50, 413], [], [287], [136], [], [481, 482, 483, 56, 484], [], [], [], [], [], [], [328, 330, 0, 50, 331], [], [], []]
set_option maxRecDepth 100000 in
theorem xo_72 : xa_allOK xb_G xb_S 72 := xa_all_ok (es := xt_72) (pls := xp_72) rfl (by decide +kernel)
def xp_73 : List (List Nat) := [[], [347, 348, 50, 349], [], [], [407, 408, 50, 409], [], [], [407, 408, 50, 409], [], [], [], [], [], [], [328, 330, 0, 50, 331], [], [], [], [410, 412, 2, 50, 413], [], [], [495, 496, 497, 56, 498], []]
set_option maxRecDepth 100000 in
theorem xo_73 : xa_allOK xb_G xb_S 73 := xa_all_ok (es := xt_73) (pls := xp_73) rfl (by decide +kernel)
def xp_74 : List (List Nat) := [[], [347, 348, 50, 349], [], [], [], [505], [325, 326, 50, 327], [], [], [], [328, 330, 0, 50, 331], [], [], [], [410, 412, 2, 50, 413], [], [], [287], [136], [506, 507, 508, 56, 509], [], [], [], [], [], [], [328, 330, 0, 50, 331], [], [], []]
set_option maxRecDepth 100000 in
theorem xo_74 : xa_allOK xb_G xb_S 74 := xa_all_ok (es := xt_74) (pls := xp_74) rfl (by decide +kernel)
def xp_75 : List (List Nat) := [[], [347, 348, 50, 349], [], [], [], [505], [325, 326, 50, 327], [], [], [], [328, 330, 0, 50, 331], [], [], [], [410, 412, 2, 50, 413], [], [], [287], [136], [514, 515, 516, 56, 517], []]
set_option maxRecDepth 100000 in
theorem xo_75 : xa_allOK xb_G xb_S 75 := xa_all_ok (es := xt_75) (pls := xp_75) rfl (by decide +kernel)
def xp_76 : List (List Nat) := [[], [347, 348, 50, 349], [], [], [347, 348, 50, 349], [], [], [407, 408, 50, 409], [], [], [], [328, 330, 0, 50, 331], [], [], [], [410, 412, 2, 50, 413], [], [449, 450, 451, 56, 452], [], [], [410, 412, 2, 50, 413], [], [449, 450, 451, 56, 452], [], [], [], [], []]
set_option maxRecDepth 100000 in
theorem xo_76 : xa_allOK xb_G xb_S 76 := xa_all_ok (es := xt_76) (pls := xp_76) rfl (by decide +kernel)
def xp_77 : List (List Nat) := [[], [347, 348, 50, 349], [], [], [407, 408, 50, 409], [], [], [], [328, 330, 0, 50, 331], [], [], [], [287], [136], [], [], [], [328, 330, 0, 50, 331], [], [], [], [410, 412, 2, 50, 413], [], [287], [136], [], [526, 527, 528, 56, 529], [], [], [], [], []]
set_option maxRecDepth 100000 in
theorem xo_77 : xa_allOK xb_G xb_S 77 := xa_all_ok (es := xt_77) (pls := xp_77) rfl (by decide +kernel)
def xp_78 : List (List Nat) := [[], [], [], [373, 375, 1, 50, 376], [], [], [], [], [373, 375, 1, 50, 376], [], [], [], [], [], [], [], [325, 326, 50, 327], [], [], [], [328, 330, 0, 50, 331], [], [], [], [410, 412, 2, 50, 413], [], [], [], [], [], [], [], [], [], [], [], [287], [136], [432, 433, 434, 56, 435], [], [], [], [], [], [287], [136], [], [], [], [], [], [], [328, 330, 0, 50, 331], [], [], [], [], [], [], [287], [136], [], [], [534, 536, 4, 50, 537], [], [], [], [], [], [328, 330, 0, 50, 331], [], [], []]
set_option maxRecDepth 100000 in
theorem xo_78 : xa_allOK xb_G xb_S 78 := xa_all_ok (es := xt_78) (pls := xp_78) rfl (by decide +kernel)
def xp_79 : List (List Nat) := [[], [347, 348, 50, 349], [], [], [337, 338, 50, 339], [], [], [], [], [325, 326, 50, 327], [], [], [], [328, 330, 0, 50, 331], [], [], [287], [136], [], [], [], [], [], [], [328, 330, 0, 50, 331], [], [], [296], [], [], [410, 412, 2, 50, 413], [], [287], [123], [], [], [], [287], [136], [], [287], [136], [], [], [543, 544, 545, 55, 546], [], [], [], [], [], [328, 330, 0, 50, 331], [], [], []]
set_option maxRecDepth 100000 in
theorem xo_79 : xa_allOK xb_G xb_S 79 := xa_all_ok (es := xt_79) (pls := xp_79) rfl (by decide +kernel)
def xp_80 : List (List Nat) := [[], [347, 348, 50, 349], [], [], [337, 338, 50, 339], [], [], [], [], [325, 326, 50, 327], [], [], [], [328, 330, 0, 50, 331], [], [], [287], [136], [], [], [], [], [], [], [328, 330, 0, 50, 331], [], [], [], [410, 412, 2, 50, 413], [], [], [287], [136], [], [287], [136], [], [], [582, 583, 584, 56, 585], [], [], [], [], [], [328, 330, 0, 50, 331], [], [], []]
set_option maxRecDepth 100000 in
theorem xo_80 : xa_allOK xb_G xb_S 80 := xa_all_ok (es := xt_80) (pls := xp_80) rfl (by decide +kernel)
def xp_81 : List (List Nat) := [[], [347, 348, 50, 349], [], [], [], [328, 330, 0, 50, 331], [], [], [], [410, 412, 2, 50, 413], [], [], [], [287], [136], [432, 433, 434, 56, 435], [], [], [], [], [], [], [], [287], [129], [], [], [103], [], [], [], [], [], [], [], [], [], [], [591, 592, 593, 56, 594], [], [], [], [], [], [295], [], [], [599, 559, 50, 560], [], [], [295], [], [], [], [], [], [], [], [], [], []]
set_option maxRecDepth 100000 in
theorem xo_81 : xa_allOK xb_G xb_S 81 := xa_all_ok (es := xt_81) (pls := xp_81) rfl (by decide +kernel)
def xp_82 : List (List Nat) := [[], [347, 348, 50, 349], [], [], [], [505], [325, 326, 50, 327], [], [], [], [328, 330, 0, 50, 331], [], [], [], [410, 412, 2, 50, 413], [], [], [], [287], [136], [432, 433, 434, 56, 435], [], [], [], [], [], [287], [129], [], [], [103], [], [], [], [], [], [], [], [], [], [], [591, 592, 593, 56, 594], [], [], [], [], [], [], [604, 2], [], [], [], [], [605, 3], [], [], [], [], [], [], [], [], [], [], [328, 330, 0, 50, 331], []]
set_option maxRecDepth 100000 in
theorem xo_82 : xa_allOK xb_G xb_S 82 := xa_all_ok (es := xt_82) (pls := xp_82) rfl (by decide +kernel)
def xp_83 : List (List Nat) := [[], [347, 348, 50, 349], [], [], [337, 338, 50, 339], [], [], [407, 408, 50, 409], [], [], [], [328, 330, 0, 50, 331], [], [], [], [], [], [610, 612, 9, 50, 613], []]
set_option maxRecDepth 100000 in
theorem xo_83 : xa_allOK xb_G xb_S 83 := xa_all_ok (es := xt_83) (pls := xp_83) rfl (by decide +kernel)
def xp_84 : List (List Nat) := [[], [347, 348, 50, 349], [], [], [337, 338, 50, 339], [], [], [407, 408, 50, 409], [], [], [], [328, 330, 0, 50, 331], [], [], [], [], [], [610, 612, 9, 50, 613], [], [], [], [], [], [328, 330, 0, 50, 331], [], [], [], [], []]
set_option maxRecDepth 100000 in
theorem xo_84 : xa_allOK xb_G xb_S 84 := xa_all_ok (es := xt_84) (pls := xp_84) rfl (by decide +kernel)
def xp_85 : List (List Nat) := [[], [347, 348, 50, 349], [], [], [], [], [325, 326, 50, 327], [], [], [337, 338, 50, 339], [], [], [], [328, 330, 0, 50, 331], [], [], [287], [129], [], [], [], [], [103], [], [], [], [328, 330, 0, 50, 331], [], [], [], [], [], [], [], [], [], [287], [623, 624, 625, 51, 626], [], [103], [], [], [], [99], [], [], [287], [136], [], [], [96], [], [], [], [], [], [], [], [], [], [], [], [], [628, 569, 61, 570], []]
set_option maxRecDepth 100000 in
theorem xo_85 : xa_allOK xb_G xb_S 85 := xa_all_ok (es := xt_85) (pls := xp_85) rfl (by decide +kernel)
def xp_86 : List (List Nat) := [[], [287], [139], [], [], [287], [], [139], [], []]
set_option maxRecDepth 100000 in
theorem xo_86 : xa_allOK xb_G xb_S 86 := xa_all_ok (es := xt_86) (pls := xp_86) rfl (by decide +kernel)
def xp_87 : List (List Nat) := [[], [], [], [325, 326, 50, 327], [], [], [], [328, 330, 0, 50, 331], [], [], [291], [166], [], [], [], [], [], [], [328, 330, 0, 50, 331], [], [], [], [], [], [], [], [], [291], [], [], [], [], [], [], [], [637, 638, 639, 53, 640], [], [], [], [291], [166], []]
set_option maxRecDepth 100000 in
theorem xo_87 : xa_allOK xb_G xb_S 87 := xa_all_ok (es := xt_87) (pls := xp_87) rfl (by decide +kernel)
def xp_88 : List (List Nat) := [[], [291], [166], [], [], [291], [], [166], [], []]
set_option maxRecDepth 100000 in
theorem xo_88 : xa_allOK xb_G xb_S 88 := xa_all_ok (es := xt_88) (pls := xp_88) rfl (by decide +kernel)
def xp_89 : List (List Nat) := [[], [289], [], [287], [649, 650, 651, 51, 652], [], [292], [660, 661, 662, 54, 663], [], [], [291], [], [166], [], [], [], [287], [], [289], [649, 650, 651, 51, 652], [], []]
set_option maxRecDepth 100000 in
theorem xo_89 : xa_allOK xb_G xb_S 89 := xa_all_ok (es := xt_89) (pls := xp_89) rfl (by decide +kernel)
def xp_90 : List (List Nat) := [[], [793, 794, 50, 795], [], [], [347, 348, 50, 349], [], [], [], [], [], [], [], [373, 375, 1, 50, 376], [], [], [], [328, 330, 0, 50, 331], [], [], [287], [132], [], [], [], [], [287], [134], [], [], [], [], []]
set_option maxRecDepth 100000 in
theorem xo_90 : xa_allOK xb_G xb_S 90 := xa_all_ok (es := xt_90) (pls := xp_90) rfl (by decide +kernel)
def xp_91 : List (List Nat) := [[], [793, 794, 50, 795], [], [], [354, 355, 50, 356], [], [], [], [328, 330, 0, 50, 331], [], [], [287], [132], [], [], [], [], [287], [134], [], [], [], [], [], [], [373, 375, 1, 50, 376], [], [], [], [328, 330, 0, 50, 331], [], [], [287], [129], [], [], [90], [], [], [], [800, 783, 50, 784], [], [], [], [328, 330, 0, 50, 331], [], [], [], [], [], [], []]
set_option maxRecDepth 100000 in
theorem xo_91 : xa_allOK xb_G xb_S 91 := xa_all_ok (es := xt_91) (pls := xp_91) rfl (by decide +kernel)
def xp_92 : List (List Nat) := [[], [805, 806, 50, 807], [], [], [], [], [], [], [], [], [], [], [], [], [], [], [328, 330, 0, 50, 331], [], [], [], [], [], [328, 330, 0, 50, 331], [], [], [], [], [], [], [328, 330, 0, 50, 331], [], [], [293], [], [], [], [], [808, 809, 810, 58, 811], [], [293], [], [], [279], []]
set_option maxRecDepth 100000 in
theorem xo_92 : xa_allOK xb_G xb_S 92 := xa_all_ok (es := xt_92) (pls := xp_92) rfl (by decide +kernel)
def xp_93 : List (List Nat) := [[], [805, 806, 50, 807], [], [], [], [328, 330, 0, 50, 331], [], [], [293], [], [], [816, 817, 818, 58, 819], [], [], [], [328, 330, 0, 50, 331], [], [], [], [], [293], [], [], [279], [], [], [325, 326, 50, 327], [], [], [], [328, 330, 0, 50, 331], [], [], [293], [], [], [], [], [820, 821, 822, 58, 823], [], []]
set_option maxRecDepth 100000 in
theorem xo_93 : xa_allOK xb_G xb_S 93 := xa_all_ok (es := xt_93) (pls := xp_93) rfl (by decide +kernel)
def xp_94 : List (List Nat) := [[], [805, 806, 50, 807], [], [], [805, 806, 50, 807], [], [], [], [328, 330, 0, 50, 331], [], [], [293], [], [], [816, 817, 818, 58, 819], [], [], [293], [], [], [816, 817, 818, 58, 819], [], [], [], [328, 330, 0, 50, 331], [], [], [293], [], [], [277], [], [293], [], [], [277], [], [], [], [328, 330, 0, 50, 331], [], [], [293], [], [], [], [], [828, 829, 830, 58, 831], [], [], [293], [], [], [], [], [828, 829, 830, 58, 831], [], [], [], [328, 330, 0, 50, 331], [], [], [293], [], [], [275], [], [], [293], [], [], [275], [], [], [832, 655, 654, 62], [], []]
set_option maxRecDepth 100000 in
theorem xo_94 : xa_allOK xb_G xb_S 94 := xa_all_ok (es := xt_94) (pls := xp_94) rfl (by decide +kernel)
def xp_95 : List (List Nat) := [[], [805, 806, 50, 807], [], [], [], [328, 330, 0, 50, 331], [], [], [293], [], [], [], [], [816, 817, 818, 58, 819], [], [], [], [328, 330, 0, 50, 331], [], [], [347, 348, 50, 349], [], [], [337, 338, 50, 339], [], [], [], [328, 330, 0, 50, 331], [], [], [287], [129], [], [], [], [], [], [], [], [279], [], [], [360, 361, 362, 52, 363], [], [], [275], [], [], [837, 838, 50, 839], [], [], [275], [], [], [], [], [], [], [], [], [], [], [], [], [287], [136], [364, 365, 366, 52, 367], [], [], [], []]
set_option maxRecDepth 100000 in
theorem xo_95 : xa_allOK xb_G xb_S 95 := xa_all_ok (es := xt_95) (pls := xp_95) rfl (by decide +kernel)
def xp_96 : List (List Nat) := [[], [805, 806, 50, 807], [], [], [], [328, 330, 0, 50, 331], [], [], [293], [], [], [], [], [816, 817, 818, 58, 819], [], [], [], [328, 330, 0, 50, 331], [], [], [347, 348, 50, 349], [], [], [407, 408, 50, 409], [], [], [], [328, 330, 0, 50, 331], [], [], [], [410, 412, 2, 50, 413], [], [], [], [], [], [279], [], [], [], [], [], [], [], [], [], [], [449, 450, 451, 56, 452], [], [275], [], [], [], [], [], [], [], [], [], [], []]
set_option maxRecDepth 100000 in
theorem xo_96 : xa_allOK xb_G xb_S 96 := xa_all_ok (es := xt_96) (pls := xp_96) rfl (by decide +kernel)
def xp_97 : List (List Nat) := [[], [288], [], [287], [649, 650, 651, 51, 652], [], [], [297], [], []]
set_option maxRecDepth 100000 in
theorem xo_97 : xa_allOK xb_G xb_S 97 := xa_all_ok (es := xt_97) (pls := xp_97) rfl (by decide +kernel)
def xp_98 : List (List Nat) := [[], [297], [], [], [], [328, 330, 0, 50, 331], [], [], [287], [], [288], [649, 650, 651, 51, 652], [], [287], [136], []]
set_option maxRecDepth 100000 in
theorem xo_98 : xa_allOK xb_G xb_S 98 := xa_all_ok (es := xt_98) (pls := xp_98) rfl (by decide +kernel)
def xp_99 : List (List Nat) := [[], [297], [], [], [], [297], [], [], [], [], [], []]
set_option maxRecDepth 100000 in
theorem xo_99 : xa_allOK xb_G xb_S 99 := xa_all_ok (es := xt_99) (pls := xp_99) rfl (by decide +kernel)
def xp_100 : List (List Nat) := [[], [], [], [287], [136], [], [], [860, 862, 18, 50, 863], [], [], [864, 866, 19, 50, 867], [], [], [868, 870, 20, 50, 871], [], [], [291], [166], [], [], [287], [139], [], [], [287], [872, 873, 874, 51, 875], [], [], [], [328, 330, 0, 50, 331], []]
set_option maxRecDepth 100000 in
theorem xo_100 : xa_allOK xb_G xb_S 100 := xa_all_ok (es := xt_100) (pls := xp_100) rfl (by decide +kernel)
def xp_101 : List (List Nat) := [[], [], [], [325, 326, 50, 327], [], [], [], [328, 330, 0, 50, 331], [], [], [], [], [294], [], [], [], [], [], [], [], [], [], [], [], [], [294], [], [], [], [], [], [], [], []]
set_option maxRecDepth 100000 in
theorem xo_101 : xa_allOK xb_G xb_S 101 := xa_all_ok (es := xt_101) (pls := xp_101) rfl (by decide +kernel)
def xp_102 : List (List Nat) := [[], [294], [], [], [], [], [], [], [332], [], [], []]
set_option maxRecDepth 100000 in
theorem xo_102 : xa_allOK xb_G xb_S 102 := xa_all_ok (es := xt_102) (pls := xp_102) rfl (by decide +kernel)
def xp_103 : List (List Nat) := [[], [], [], [], [], [], [], [], [], []]
set_option maxRecDepth 100000 in
theorem xo_103 : xa_allOK xb_G xb_S 103 := xa_all_ok (es := xt_103) (pls := xp_103) rfl (by decide +kernel)
def xp_104 : List (List Nat) := [[], [], [], [325, 326, 50, 327], []]
set_option maxRecDepth 100000 in
theorem xo_104 : xa_allOK xb_G xb_S 104 := xa_all_ok (es := xt_104) (pls := xp_104) rfl (by decide +kernel)
def xp_105 : List (List Nat) := [[], [], [], [325, 326, 50, 327], []]
set_option maxRecDepth 100000 in
theorem xo_105 : xa_allOK xb_G xb_S 105 := xa_all_ok (es := xt_105) (pls := xp_105) rfl (by decide +kernel)
def xp_106 : List (List Nat) := [[], [], [], [325, 326, 50, 327], []]
set_option maxRecDepth 100000 in
theorem xo_106 : xa_allOK xb_G xb_S 106 := xa_all_ok (es := xt_106) (pls := xp_106) rfl (by decide +kernel)
def xp_107 : List (List Nat) := [[], [], [], [325, 326, 50, 327], []]
set_option maxRecDepth 100000 in
theorem xo_107 : xa_allOK xb_G xb_S 107 := xa_all_ok (es := xt_107) (pls := xp_107) rfl (by decide +kernel)
def xp_108 : List (List Nat) := [[], [], [], [325, 326, 50, 327], []]
set_option maxRecDepth 100000 in
theorem xo_108 : xa_allOK xb_G xb_S 108 := xa_all_ok (es := xt_108) (pls := xp_108) rfl (by decide +kernel)
def xp_109 : List (List Nat) := [[], [], [], [325, 326, 50, 327], []]
set_option maxRecDepth 100000 in
theorem xo_109 : xa_allOK xb_G xb_S 109 := xa_all_ok (es := xt_109) (pls := xp_109) rfl (by decide +kernel)
def xp_110 : List (List Nat) := [[], [], [], [325, 326, 50, 327], []]
set_option maxRecDepth 100000 in
theorem xo_110 : xa_allOK xb_G xb_S 110 := xa_all_ok (es := xt_110) (pls := xp_110) rfl (by decide +kernel)
def xp_111 : List (List Nat) := [[], [347, 348, 50, 349], [], [], [], [], [287], [129], [], [], [103], [], [], [325, 326, 50, 327], [], [], [], [], []]
set_option maxRecDepth 100000 in
theorem xo_111 : xa_allOK xb_G xb_S 111 := xa_all_ok (es := xt_111) (pls := xp_111) rfl (by decide +kernel)
def xp_112 : List (List Nat) := [[], [], [], [], [], [354, 355, 50, 356], [], [], [], [], [357, 358, 50, 359], [], [], [], [], []]
set_option maxRecDepth 100000 in
theorem xo_112 : xa_allOK xb_G xb_S 112 := xa_all_ok (es := xt_112) (pls := xp_112) rfl (by decide +kernel)
def xp_113 : List (List Nat) := [[], [], [], [], [], [], [], [], [], [], [], [], [], [], [785, 0], [], [], [], [], [], [], []]
set_option maxRecDepth 100000 in
theorem xo_113 : xa_allOK xb_G xb_S 113 := xa_all_ok (es := xt_113) (pls := xp_113) rfl (by decide +kernel)
def xp_114 : List (List Nat) := [[], [], [], [], [], [], [], [], [], [], [], [], [], [], [], []]
set_option maxRecDepth 100000 in
theorem xo_114 : xa_allOK xb_G xb_S 114 := xa_all_ok (es := xt_114) (pls := xp_114) rfl (by decide +kernel)
def xp_115 : List (List Nat) := [[], [], [], [], [], [], [], [], [], []]
set_option maxRecDepth 100000 in
theorem xo_115 : xa_allOK xb_G xb_S 115 := xa_all_ok (es := xt_115) (pls := xp_115) rfl (by decide +kernel)
def xp_116 : List (List Nat) := [[], [290], [], [], [414, 415, 416, 56, 417], [], [290], [], [], []]
set_option maxRecDepth 100000 in
theorem xo_116 : xa_allOK xb_G xb_S 116 := xa_all_ok (es := xt_116) (pls := xp_116) rfl (by decide +kernel)
def xp_117 : List (List Nat) := [[], [], [], [], [], [], [], [], [], [], [], [], [], [], [], [287], [126], [], [], [], [287], [126], [], [], [], [], [], [], [], [], [258], [], [], [], [], [287], [123], [], [], [], [287], [136], [538, 419, 420, 56, 421], [], [], [258], [], [], [], [], [287], [123], [], [], [], [287], [136], [538, 419, 420, 56, 421], [], [], [], [287], [136], [], [526, 527, 528, 56, 529], [], [], [], [], [], [], [], [], [], [], [], [], [], [], []]
set_option maxRecDepth 100000 in
theorem xo_117 : xa_allOK xb_G xb_S 117 := xa_all_ok (es := xt_117) (pls := xp_117) rfl (by decide +kernel)
def xp_118 : List (List Nat) := [[], [287], [129], [], [], [106], [], [], [], [440, 423, 50, 424], [], [287], [123], [], [], [], [], [], [], [], [], [], [], [], [], [614, 430, 50, 431], []]
set_option maxRecDepth 100000 in
theorem xo_118 : xa_allOK xb_G xb_S 118 := xa_all_ok (es := xt_118) (pls := xp_118) rfl (by decide +kernel)
def xp_119 : List (List Nat) := [[], [], [], [], [], [], [], [], [], [287], [129], [], [], [103], [], [], [], [], [], []]
set_option maxRecDepth 100000 in
theorem xo_119 : xa_allOK xb_G xb_S 119 := xa_all_ok (es := xt_119) (pls := xp_119) rfl (by decide +kernel)
def xp_120 : List (List Nat) := [[], [], [], [], [], [], [], [], [], [], [410, 412, 2, 50, 413], [], [287], [136], [432, 433, 434, 56, 435], [628, 569, 61, 570], [], [], [], [], [], []]
set_option maxRecDepth 100000 in
theorem xo_120 : xa_allOK xb_G xb_S 120 := xa_all_ok (es := xt_120) (pls := xp_120) rfl (by decide +kernel)
def xp_121 : List (List Nat) := [[], [], [], [], [], [], [], [], [], [410, 412, 2, 50, 413], [], [287], [136], [449, 450, 451, 56, 452], [], [], [], [], [], [], []]
set_option maxRecDepth 100000 in
theorem xo_121 : xa_allOK xb_G xb_S 121 := xa_all_ok (es := xt_121) (pls := xp_121) rfl (by decide +kernel)
def xp_122 : List (List Nat) := [[], [], [], [], [], [], [], [], [], [], [], [], [], [], [380, 381, 60, 382], [], [], []]
set_option maxRecDepth 100000 in
theorem xo_122 : xa_allOK xb_G xb_S 122 := xa_all_ok (es := xt_122) (pls := xp_122) rfl (by decide +kernel)
def xp_123 : List (List Nat) := [[], [], [], [], [], [], [], [], [], [], [], [380, 381, 60, 382], [425, 426, 60, 427], [], [], [], [], [], [], [], [], [], [], []]
set_option maxRecDepth 100000 in
theorem xo_123 : xa_allOK xb_G xb_S 123 := xa_all_ok (es := xt_123) (pls := xp_123) rfl (by decide +kernel)
def xp_124 : List (List Nat) := [[], [], [], [], [], [], [], [], [], [], [], [], [], [], [], [], [], [], [], [], [], [], [], [], [], [], [], [], [], [], [], [], [], [], [], [], [], [], [], []]
set_option maxRecDepth 100000 in
theorem xo_124 : xa_allOK xb_G xb_S 124 := xa_all_ok (es := xt_124) (pls := xp_124) rfl (by decide +kernel)
def xp_125 : List (List Nat) := [[], [885, 73, 74], [], [], [121], [886], [], [], [121], [887], [], [], [121], [888], [], [], [121], [889], [], [], [121], [896], [], [], [121], [897], [], [], [121], [903], [], [], [121], [904], [], [], [121], [905], [], [], [121], [906], [], [886], [], [], [], [], [], [], [], [], [], [886], [], [], [], [], [], [], [886], [], [], [], [], [], [], [], [], [], [], [], [], [], [886], [], [], [], [], [], [], [], []]
set_option maxRecDepth 100000 in
theorem xo_125 : xa_allOK xb_G xb_S 125 := xa_all_ok (es := xt_125) (pls := xp_125) rfl (by decide +kernel)
def xp_126 : List (List Nat) := [[], [], [], [], [], [], [], [], [], [], [], []]
set_option maxRecDepth 100000 in
theorem xo_126 : xa_allOK xb_G xb_S 126 := xa_all_ok (es := xt_126) (pls := xp_126) rfl (by decide +kernel)
def xp_127 : List (List Nat) := [[], [889], [958], [], [], [], [], [], [], [], [], []]
set_option maxRecDepth 100000 in
theorem xo_127 : xa_allOK xb_G xb_S 127 := xa_all_ok (es := xt_127) (pls := xp_127) rfl (by decide +kernel)
def xp_128 : List (List Nat) := [[], [], [], [981], [955, 956, 59, 957], []]
set_option maxRecDepth 100000 in
theorem xo_128 : xa_allOK xb_G xb_S 128 := xa_all_ok (es := xt_128) (pls := xp_128) rfl (by decide +kernel)
def xp_129 : List (List Nat) := [[], [], [], [971], [955, 956, 59, 957], []]
set_option maxRecDepth 100000 in
theorem xo_129 : xa_allOK xb_G xb_S 129 := xa_all_ok (es := xt_129) (pls := xp_129) rfl (by decide +kernel)
def xp_130 : List (List Nat) := [[], [], [], [1031], [955, 956, 59, 957], []]
set_option maxRecDepth 100000 in
theorem xo_130 : xa_allOK xb_G xb_S 130 := xa_all_ok (es := xt_130) (pls := xp_130) rfl (by decide +kernel)
def xp_131 : List (List Nat) := [[], [978, 979, 59, 980], [], [], [], [], [], [886], [], [], [], [], [], [], [], [955, 956, 59, 957], [], [], [], [], []]
set_option maxRecDepth 100000 in
theorem xo_131 : xa_allOK xb_G xb_S 131 := xa_all_ok (es := xt_131) (pls := xp_131) rfl (by decide +kernel)
def xp_132 : List (List Nat) := [[], [], [], [], [], [], [], [], [], []]
set_option maxRecDepth 100000 in
theorem xo_132 : xa_allOK xb_G xb_S 132 := xa_all_ok (es := xt_132) (pls := xp_132) rfl (by decide +kernel)
def xp_133 : List (List Nat) := [[], [], [], [], [], [], [], [], [], [], []]
set_option maxRecDepth 100000 in
theorem xo_133 : xa_allOK xb_G xb_S 133 := xa_all_ok (es := xt_133) (pls := xp_133) rfl (by decide +kernel)
def xp_134 : List (List Nat) := [[], [], [], [], [], [], [], [], [], [], [], [], [], [], [], []]
set_option maxRecDepth 100000 in
theorem xo_134 : xa_allOK xb_G xb_S 134 := xa_all_ok (es := xt_134) (pls := xp_134) rfl (by decide +kernel)
def xp_135 : List (List Nat) := [[], [], [], [954], [955, 956, 59, 957], [], [], [958], [959, 961, 21, 59, 962], [], [], [886], [], [], [], [], [], [], [], [963], [959, 961, 21, 59, 962], [], [], [886], [], [], [], [], [], [], [], [886], [], [], []]
set_option maxRecDepth 100000 in
theorem xo_135 : xa_allOK xb_G xb_S 135 := xa_all_ok (es := xt_135) (pls := xp_135) rfl (by decide +kernel)
def xp_136 : List (List Nat) := [[], [968, 969, 59, 970], [], [], [], [], [], [955, 956, 59, 957], [], [], [], [], [], [], [], [], [], [972], [], [973], [955, 956, 59, 957], [], [], [958], [959, 961, 21, 59, 962], [], [], [], [], [], [], [], [], [], [], [], [], [886], [], [], [], [], [886], [], [], [], [], []]
set_option maxRecDepth 100000 in
theorem xo_136 : xa_allOK xb_G xb_S 136 := xa_all_ok (es := xt_136) (pls := xp_136) rfl (by decide +kernel)
def xp_137 : List (List Nat) := [[], [978, 979, 59, 980], [], [], [958], [959, 961, 21, 59, 962], [], [], [886], [], [], [], [], [], [], [886], [], [], [], [], [], [], [], [], [], [], []]
set_option maxRecDepth 100000 in
theorem xo_137 : xa_allOK xb_G xb_S 137 := xa_all_ok (es := xt_137) (pls := xp_137) rfl (by decide +kernel)
def xp_138 : List (List Nat) := [[], [], [886], [], [], [], [], [992, 993, 59, 994], [], [], [886], [], [], [], [], [886], [], [], [], [], [], [], [886], [], [], [], [], [], [], [886], [], [], [], [], [886], [], [], [], [], [886], [], [], [], [], [], [], [], [], [], [886], [], [], [], [], [], [], []]
set_option maxRecDepth 100000 in
theorem xo_138 : xa_allOK xb_G xb_S 138 := xa_all_ok (es := xt_138) (pls := xp_138) rfl (by decide +kernel)
def xp_139 : List (List Nat) := [[], [978, 979, 59, 980], [], [], [], [], [986], [955, 956, 59, 957], [], [], [], [], [981], [955, 956, 59, 957], [], [], [968, 969, 59, 970], [], [], [958], [959, 961, 21, 59, 962], [], [], [886], [], [], [], [], [], [], [], [987], [959, 961, 21, 59, 962], [], [], [], [], [], [], [988, 990, 22, 59, 991], []]
set_option maxRecDepth 100000 in
theorem xo_139 : xa_allOK xb_G xb_S 139 := xa_all_ok (es := xt_139) (pls := xp_139) rfl (by decide +kernel)
def xp_140 : List (List Nat) := [[], [886], [], [], [886], [], [], [992, 993, 59, 994], [], [], [], [], [], [], [], [886], [], [], [992, 993, 59, 994], [], [], [], [], [], [], [], [], [], [], [], [], [], [], [], [], [], [], [], [], [], [], []]
set_option maxRecDepth 100000 in
theorem xo_140 : xa_allOK xb_G xb_S 140 := xa_all_ok (es := xt_140) (pls := xp_140) rfl (by decide +kernel)
def xp_141 : List (List Nat) := [[], [], [], [999, 1001, 23, 59, 1002], [], [], [], [], [1003], [955, 956, 59, 957], [], [], [958], [959, 961, 21, 59, 962], [], [], [], [], [], [886], [], [], [992, 993, 59, 994], [], [], [], [], [], [], [], [1004, 1006, 24, 59, 1007], []]
set_option maxRecDepth 100000 in
theorem xo_141 : xa_allOK xb_G xb_S 141 := xa_all_ok (es := xt_141) (pls := xp_141) rfl (by decide +kernel)
def xp_142 : List (List Nat) := [[], [], [], [999, 1001, 23, 59, 1002], [], [], [], [], [986], [955, 956, 59, 957], [], [], [958], [959, 961, 21, 59, 962], [], [], [886], [], [], [992, 993, 59, 994], [], [], [], [886], [], [], [992, 993, 59, 994], [], [], [], []]
set_option maxRecDepth 100000 in
theorem xo_142 : xa_allOK xb_G xb_S 142 := xa_all_ok (es := xt_142) (pls := xp_142) rfl (by decide +kernel)
def xp_143 : List (List Nat) := [[], [], [], [999, 1001, 23, 59, 1002], [], [], [958], [959, 961, 21, 59, 962], [], [], [886], [], [], [], [], [], [], [], [], [], [], [992, 993, 59, 994], [], [], [], [], [886], [], [], [], [], [992, 993, 59, 994], [], [], [886], [], [], [886], [], [], [], [], [], [], [], [], [], [], [], [], [], [886], [], [], [], [], [], [], [], [], [], [], [], [], [], [886], [], [], [], [], [], [], [], [], [], [], [], [], [], [], [], [], [], [], [], [], [], [], [], [], [886], [], [], [], [], []]
set_option maxRecDepth 100000 in
theorem xo_143 : xa_allOK xb_G xb_S 143 := xa_all_ok (es := xt_143) (pls := xp_143) rfl (by decide +kernel)
def xp_144 : List (List Nat) := [[], [886], [], [], [992, 993, 59, 994], [], [], [], [], [], [886], [], [], [992, 993, 59, 994], [], [], [], [886], [], [], [], []]
set_option maxRecDepth 100000 in
theorem xo_144 : xa_allOK xb_G xb_S 144 := xa_all_ok (es := xt_144) (pls := xp_144) rfl (by decide +kernel)
def xp_145 : List (List Nat) := [[], [], [], [999, 1001, 23, 59, 1002], [], [], [968, 969, 59, 970], [], [], [958], [959, 961, 21, 59, 962], [], [], [886], [], [], [992, 993, 59, 994], [], [], [], [], [], [], [], [], [1020, 1022, 25, 59, 1023], [], []]
set_option maxRecDepth 100000 in
theorem xo_145 : xa_allOK xb_G xb_S 145 := xa_all_ok (es := xt_145) (pls := xp_145) rfl (by decide +kernel)
def xp_146 : List (List Nat) := [[], [], [], [], [], [], [], [], [], [], [], [], [], [], [], [], [], [], [], [], [], [], []]
set_option maxRecDepth 100000 in
theorem xo_146 : xa_allOK xb_G xb_S 146 := xa_all_ok (es := xt_146) (pls := xp_146) rfl (by decide +kernel)
def xp_147 : List (List Nat) := [[], [], [], [], [886], [], [], [], [], [], [], [], [1044, 1045, 59, 1046], [], [1044, 1045, 59, 1046], [], [], [], [], []]
set_option maxRecDepth 100000 in
theorem xo_147 : xa_allOK xb_G xb_S 147 := xa_all_ok (es := xt_147) (pls := xp_147) rfl (by decide +kernel)
def xp_148 : List (List Nat) := [[], [886], [], [], [992, 993, 59, 994], [], [], [], [], [], [], [], [], [], [], [], [1040, 1042, 28, 59, 1043], [], [], [], [1004, 1006, 24, 59, 1007], [], [], [], [], []]
set_option maxRecDepth 100000 in
theorem xo_148 : xa_allOK xb_G xb_S 148 := xa_all_ok (es := xt_148) (pls := xp_148) rfl (by decide +kernel)
def xp_149 : List (List Nat) := [[], [], [], [], [], [], [886], [], [], [], [], [], [], [], [], [], [], [1036, 1038, 27, 59, 1039], [], [], [], [], [], [], [], [], [], [], [], []]
set_option maxRecDepth 100000 in
theorem xo_149 : xa_allOK xb_G xb_S 149 := xa_all_ok (es := xt_149) (pls := xp_149) rfl (by decide +kernel)
def xp_150 : List (List Nat) := [[], [978, 979, 59, 980], [], [], [1028, 1029, 59, 1030], [], [], [], [], [1032, 1034, 26, 59, 1035], [], [], [958], [959, 961, 21, 59, 962], []]
set_option maxRecDepth 100000 in
theorem xo_150 : xa_allOK xb_G xb_S 150 := xa_all_ok (es := xt_150) (pls := xp_150) rfl (by decide +kernel)
def xp_151 : List (List Nat) := [[], [], [], [999, 1001, 23, 59, 1002], [], [], [1028, 1029, 59, 1030], [], [], [958], [959, 961, 21, 59, 962], [], [], [886], [], [], [992, 993, 59, 994], [], [], [], [], [], [], [], [], [963], [959, 961, 21, 59, 962], [], [], [], [], [], [1040, 1042, 28, 59, 1043], []]
set_option maxRecDepth 100000 in
theorem xo_151 : xa_allOK xb_G xb_S 151 := xa_all_ok (es := xt_151) (pls := xp_151) rfl (by decide +kernel)
def xp_152 : List (List Nat) := [[], [], [], [999, 1001, 23, 59, 1002], [], [], [958], [959, 961, 21, 59, 962], [], [], [886], [], [], [992, 993, 59, 994], [], [], [], [], [], [], [], [], [], [], [], [1036, 1038, 27, 59, 1039], [], [], [], [], [], [], [1055], [959, 961, 21, 59, 962], []]
set_option maxRecDepth 100000 in
theorem xo_152 : xa_allOK xb_G xb_S 152 := xa_all_ok (es := xt_152) (pls := xp_152) rfl (by decide +kernel)
def xp_153 : List (List Nat) := [[], [], [1076], [], [], [], [], [1077], [], [], [], [], [1078], [], [1079], []]
set_option maxRecDepth 100000 in
theorem xo_153 : xa_allOK xb_G xb_S 153 := xa_all_ok (es := xt_153) (pls := xp_153) rfl (by decide +kernel)
def xp_154 : List (List Nat) := [[], [], [891], [], [], [892], [], [], [893], [], [1068], [894], [], [], [895], []]
set_option maxRecDepth 100000 in
theorem xo_154 : xa_allOK xb_G xb_S 154 := xa_all_ok (es := xt_154) (pls := xp_154) rfl (by decide +kernel)
def xp_155 : List (List Nat) := [[], [], [], [], [], [], [], [], [], [], [], [], [], [], [], [], [], [891], [], [], [], [], [], [], [], [], [], [], [], [893], [], [], [], [], [], [892], [], [], [], [], [892], [], [], [], [], [], [894], [], [892], [], [1068], [], [1073, 1074, 59, 1075], [], [], [], [], [], [1073, 1074, 59, 1075], [], [894], [], [], [892], [], [], [891], [], [], [], [], [], [], [895], [], [894], [], [895], [], [1068], [894], [], [], [891], []]
set_option maxRecDepth 100000 in
theorem xo_155 : xa_allOK xb_G xb_S 155 := xa_all_ok (es := xt_155) (pls := xp_155) rfl (by decide +kernel)
def xp_156 : List (List Nat) := [[], [893], [], [], [891], [], [], [895], [], [894], [], [], [], []]
set_option maxRecDepth 100000 in
theorem xo_156 : xa_allOK xb_G xb_S 156 := xa_all_ok (es := xt_156) (pls := xp_156) rfl (by decide +kernel)
def xp_157 : List (List Nat) := [[], [1064, 1066, 30, 59, 1067], [], [], [], [], [886], [], [], [], [], [], [], [], [], [], [1036, 1038, 27, 59, 1039], [], [], [], [886], [], [], [992, 993, 59, 994], [], [], [886], [], [], [992, 993, 59, 994], [], [], [], [1069, 1071, 31, 59, 1072], [], [], [], [1080, 1082, 32, 59, 1083], []]
set_option maxRecDepth 100000 in
theorem xo_157 : xa_allOK xb_G xb_S 157 := xa_all_ok (es := xt_157) (pls := xp_157) rfl (by decide +kernel)
def xp_158 : List (List Nat) := [[], [978, 979, 59, 980], [], [], [1028, 1029, 59, 1030], [], [], [], [], [1060, 1062, 29, 59, 1063], [], [], [958], [959, 961, 21, 59, 962], []]
set_option maxRecDepth 100000 in
theorem xo_158 : xa_allOK xb_G xb_S 158 := xa_all_ok (es := xt_158) (pls := xp_158) rfl (by decide +kernel)
def xp_159 : List (List Nat) := [[], [978, 979, 59, 980], [], [], [1028, 1029, 59, 1030], [], [], [], [], [1088], [955, 956, 59, 957], [], [], [958], [959, 961, 21, 59, 962], [], [], [], [], [1060, 1062, 29, 59, 1063], [], [], [], [], [1055], [959, 961, 21, 59, 962], [], [], [], [], [], [], []]
set_option maxRecDepth 100000 in
theorem xo_159 : xa_allOK xb_G xb_S 159 := xa_all_ok (es := xt_159) (pls := xp_159) rfl (by decide +kernel)
def xp_160 : List (List Nat) := [[], [978, 979, 59, 980], [], [], [958], [959, 961, 21, 59, 962], [], [], [], [], [886], [], [], [1060, 1062, 29, 59, 1063], [], [], [886], [], [], [], [], [], [], [], [], [], [], [], [1060, 1062, 29, 59, 1063], [], [], [], [], [], [], [], [1055], [959, 961, 21, 59, 962], []]
set_option maxRecDepth 100000 in
theorem xo_160 : xa_allOK xb_G xb_S 160 := xa_all_ok (es := xt_160) (pls := xp_160) rfl (by decide +kernel)
def xp_161 : List (List Nat) := [[], [978, 979, 59, 980], [], [], [1028, 1029, 59, 1030], [], [], [1028, 1029, 59, 1030], [], [], [], [], [], [958], [959, 961, 21, 59, 962], [], [], [], [], [], [], [], [], [], [], [], [], [1060, 1062, 29, 59, 1063], [], [], [], [], [], [], [], [], [], [1060, 1062, 29, 59, 1063], [], [], [], [], [], [], [], [], [], [], [], [], [], [], [], []]
set_option maxRecDepth 100000 in
theorem xo_161 : xa_allOK xb_G xb_S 161 := xa_all_ok (es := xt_161) (pls := xp_161) rfl (by decide +kernel)
def xp_162 : List (List Nat) := [[], [978, 979, 59, 980], [], [], [], [1101], [1102], [955, 956, 59, 957], [], [], [958], [959, 961, 21, 59, 962], [], [], [886], [], [], [], [], [], [], [], [], [], [1060, 1062, 29, 59, 1063], [], [], [], [], [], [], [], [1055], [959, 961, 21, 59, 962], []]
set_option maxRecDepth 100000 in
theorem xo_162 : xa_allOK xb_G xb_S 162 := xa_all_ok (es := xt_162) (pls := xp_162) rfl (by decide +kernel)
def xp_163 : List (List Nat) := [[], [978, 979, 59, 980], [], [], [], [1101], [1102], [955, 956, 59, 957], [], [], [958], [959, 961, 21, 59, 962], [], [], [], [], [886], [], [], [], [], [], [], [], [], [], [], [1060, 1062, 29, 59, 1063], [], [], [], [], [], [], [], [], [], [], []]
set_option maxRecDepth 100000 in
theorem xo_163 : xa_allOK xb_G xb_S 163 := xa_all_ok (es := xt_163) (pls := xp_163) rfl (by decide +kernel)
def xp_164 : List (List Nat) := [[], [978, 979, 59, 980], [], [], [978, 979, 59, 980], [], [], [1028, 1029, 59, 1030], [], [], [958], [959, 961, 21, 59, 962], [], [], [], [], [1060, 1062, 29, 59, 1063], [], [], [], [1060, 1062, 29, 59, 1063], [], [], [], [], []]
set_option maxRecDepth 100000 in
theorem xo_164 : xa_allOK xb_G xb_S 164 := xa_all_ok (es := xt_164) (pls := xp_164) rfl (by decide +kernel)
def xp_165 : List (List Nat) := [[], [], [], [886], [], [], [], [], [], [], [], [], [], [], [], [1060, 1062, 29, 59, 1063], [], [], [], [], [], [], [], [], [], []]
set_option maxRecDepth 100000 in
theorem xo_165 : xa_allOK xb_G xb_S 165 := xa_all_ok (es := xt_165) (pls := xp_165) rfl (by decide +kernel)
def xp_166 : List (List Nat) := [[], [978, 979, 59, 980], [], [], [1028, 1029, 59, 1030], [], [], [958], [959, 961, 21, 59, 962], [], [], [], [886], [], [], [], [], [963], [959, 961, 21, 59, 962], [], [], [], [], [], [], [886], [], [], [1060, 1062, 29, 59, 1063], [], [1115, 1117, 33, 59, 1118], [], [], [], [], []]
set_option maxRecDepth 100000 in
theorem xo_166 : xa_allOK xb_G xb_S 166 := xa_all_ok (es := xt_166) (pls := xp_166) rfl (by decide +kernel)
def xp_167 : List (List Nat) := [[], [], [], [], [], [], [888], [], [], [886], [], [], [], [], [], []]
set_option maxRecDepth 100000 in
theorem xo_167 : xa_allOK xb_G xb_S 167 := xa_all_ok (es := xt_167) (pls := xp_167) rfl (by decide +kernel)
def xp_168 : List (List Nat) := [[], [], [], [], [], [], [886], [], [], [888], [], [], [], [], [], []]
set_option maxRecDepth 100000 in
theorem xo_168 : xa_allOK xb_G xb_S 168 := xa_all_ok (es := xt_168) (pls := xp_168) rfl (by decide +kernel)
def xp_169 : List (List Nat) := [[], [], [], [999, 1001, 23, 59, 1002], [], [], [], [], [999, 1001, 23, 59, 1002], [], [], [], [], [], [], [], [1123], [955, 956, 59, 957], [], [], [958], [959, 961, 21, 59, 962], [], [], [886], [], [], [], [], [], [], [], [1036, 1038, 27, 59, 1039], [], [], [], [], [], [1036, 1038, 27, 59, 1039], [], [], [], [], [], [], [], [963], [959, 961, 21, 59, 962], [], [], [], [], [1060, 1062, 29, 59, 1063], [], [], [1124, 1126, 34, 59, 1127], [], [], [], [], [], [], [], [], [], [], [], [], [], [], [], [886], [], [], [], [], [], [886], [], [], [], [], [], [], [], [], [], [], [], [], [], [], [], [1020, 1022, 25, 59, 1023], [], [], [], [], [1020, 1022, 25, 59, 1023], [], [], [], [], [], [], [1115, 1117, 33, 59, 1118], [], [], [], [], [], [], [], [], [], [], [], [], [], [], [1128, 1130, 35, 59, 1131], [], [], [], [1055], [959, 961, 21, 59, 962], [], [], []]
set_option maxRecDepth 100000 in
theorem xo_169 : xa_allOK xb_G xb_S 169 := xa_all_ok (es := xt_169) (pls := xp_169) rfl (by decide +kernel)
def xp_170 : List (List Nat) := [[], [978, 979, 59, 980], [], [], [968, 969, 59, 970], [], [], [], [], [1136], [955, 956, 59, 957], [], [], [958], [959, 961, 21, 59, 962], [], [], [886], [], [], [], [], [], [], [], [], [], [963], [959, 961, 21, 59, 962], [], [], [], [], [1060, 1062, 29, 59, 1063], [], [], [], [], [1032, 1034, 26, 59, 1035], [], [], [1124, 1126, 34, 59, 1127], [], [], [], [], [], [], [], [886], [], [], [], [], [], [], [], [], [], [], [], [], [], [], [], [1137, 1138, 59, 1139], [], [1137, 1138, 59, 1139], [], [], [], [], [], [886], [], [], [], [], [], [], [], [1140, 1141, 59, 1142], [], [], [], [], [], [1020, 1022, 25, 59, 1023], [], [], [], [], [], [], [], [], [1115, 1117, 33, 59, 1118], [], [], [], [], [], [], [1128, 1130, 35, 59, 1131], [], [], [], [], [], [1055], [959, 961, 21, 59, 962], [], [], []]
set_option maxRecDepth 100000 in
theorem xo_170 : xa_allOK xb_G xb_S 170 := xa_all_ok (es := xt_170) (pls := xp_170) rfl (by decide +kernel)
def xp_171 : List (List Nat) := [[], [978, 979, 59, 980], [], [], [968, 969, 59, 970], [], [], [], [], [1136], [955, 956, 59, 957], [], [], [958], [959, 961, 21, 59, 962], [], [], [886], [], [], [], [], [], [], [], [], [], [963], [959, 961, 21, 59, 962], [], [], [], [], [1060, 1062, 29, 59, 1063], [], [], [886], [], [], [], [], [], [], [], [], [], [], [], [], [], [], [], [886], [], [], [], [], [], [], [], [], [], [], [], [1115, 1117, 33, 59, 1118], [], [], [], [], [], [], [], [], [886], [], [], [], [], [], [], [], [], [1055], [959, 961, 21, 59, 962], [], [], []]
set_option maxRecDepth 100000 in
theorem xo_171 : xa_allOK xb_G xb_S 171 := xa_all_ok (es := xt_171) (pls := xp_171) rfl (by decide +kernel)
def xp_172 : List (List Nat) := [[], [1064, 1066, 30, 59, 1067], [], [], [], [], [886], [], [], [], [], [], [], [], [], [], [], [], [1069, 1071, 31, 59, 1072], [], [], [886], [], [], [], [], [], [], [], [], [], [886], [], [], [1036, 1038, 27, 59, 1039], [], [], [], [886], [], [], [992, 993, 59, 994], [], [], [886], [], [], [992, 993, 59, 994], [], [], [], [1069, 1071, 31, 59, 1072], [], [], [], [1080, 1082, 32, 59, 1083], []]
set_option maxRecDepth 100000 in
theorem xo_172 : xa_allOK xb_G xb_S 172 := xa_all_ok (es := xt_172) (pls := xp_172) rfl (by decide +kernel)
def xp_173 : List (List Nat) := [[], [], [], [], [], [], [], [], [], [], [], [], [], [], [], [], [], []]
set_option maxRecDepth 100000 in
theorem xo_173 : xa_allOK xb_G xb_S 173 := xa_all_ok (es := xt_173) (pls := xp_173) rfl (by decide +kernel)
def xp_174 : List (List Nat) := [[], [978, 979, 59, 980], [], [], [958], [959, 961, 21, 59, 962], [], [], [], [], [], [], [], [886], [], [], [], [], [], [], [], [], [], [], [], [], [], [], [], [], [], [1151, 1152, 59, 1153], [], [], [], [], [], [], [1154, 1156, 36, 59, 1157], [], [], [], [], [], [], [], [], [], [], [], [], [], [], [], [], [], [896], [], [], [], [], [], [], [], [], [], [], [], [], [], [896], [], [], [], [], [], [], [], [], [], [], [], []]
set_option maxRecDepth 100000 in
theorem xo_174 : xa_allOK xb_G xb_S 174 := xa_all_ok (es := xt_174) (pls := xp_174) rfl (by decide +kernel)
def xp_175 : List (List Nat) := [[], [978, 979, 59, 980], [], [], [], [], [1102], [955, 956, 59, 957], [], [], [958], [959, 961, 21, 59, 962], [], [], [], [], [], [886], [], [], [], [], [], [], [], [], [], [], [], [], [], [], [], [], [], [1151, 1152, 59, 1153], [], [], [], [], [], [], [1154, 1156, 36, 59, 1157], [], [], [], [], [], [], [], [], [], [], [], [], [], [], [], [], [], [], [], [1055], [959, 961, 21, 59, 962], []]
set_option maxRecDepth 100000 in
theorem xo_175 : xa_allOK xb_G xb_S 175 := xa_all_ok (es := xt_175) (pls := xp_175) rfl (by decide +kernel)
def xp_176 : List (List Nat) := [[], [978, 979, 59, 980], [], [], [968, 969, 59, 970], [], [], [1028, 1029, 59, 1030], [], [], [958], [959, 961, 21, 59, 962], [], [], [], [], [], [], [], [], [], [], [], [1040, 1042, 28, 59, 1043], [], [886], [], [], [], [], [], [], [], [], []]
set_option maxRecDepth 100000 in
theorem xo_176 : xa_allOK xb_G xb_S 176 := xa_all_ok (es := xt_176) (pls := xp_176) rfl (by decide +kernel)
def xp_177 : List (List Nat) := [[], [978, 979, 59, 980], [], [], [968, 969, 59, 970], [], [], [1028, 1029, 59, 1030], [], [], [958], [959, 961, 21, 59, 962], [], [], [], [], [], [], [], [], [], [1040, 1042, 28, 59, 1043], [], [886], [], [], [], [], [], [], [], [], [], [], [1055], [959, 961, 21, 59, 962], [], [], []]
set_option maxRecDepth 100000 in
theorem xo_177 : xa_allOK xb_G xb_S 177 := xa_all_ok (es := xt_177) (pls := xp_177) rfl (by decide +kernel)
def xp_178 : List (List Nat) := [[], [978, 979, 59, 980], [], [], [], [], [1174], [955, 956, 59, 957], [], [], [968, 969, 59, 970], [], [], [958], [959, 961, 21, 59, 962], [], [], [886], [], [], [], [], [], [], [963], [959, 961, 21, 59, 962], [], [], [], [], [], [], [], [], [], [886], [], [], [886], [], [], [1175], [], [], [], [], [], [886], [], [], [], [], [], [886], [], [], [], [], [], [], [], [], [], [], [1020, 1022, 25, 59, 1023], [], [], [], [], [], [], [], [], [], [1137, 1138, 59, 1139], []]
set_option maxRecDepth 100000 in
theorem xo_178 : xa_allOK xb_G xb_S 178 := xa_all_ok (es := xt_178) (pls := xp_178) rfl (by decide +kernel)
def xp_179 : List (List Nat) := [[], [886], [], [], [], [], [886], [], [], [], [], []]
set_option maxRecDepth 100000 in
theorem xo_179 : xa_allOK xb_G xb_S 179 := xa_all_ok (es := xt_179) (pls := xp_179) rfl (by decide +kernel)
def xp_180 : List (List Nat) := [[], [], [], [1003], [955, 956, 59, 957], [], [], [958], [959, 961, 21, 59, 962], [], [], [898], [], [], [], [], [], [987], [959, 961, 21, 59, 962], [], [], [], [], [], [], [], [], [897], [], [898], [], [], [], [], [], [], [], [], [], [], [898], [], [], [898], [], [], [], [898], []]
set_option maxRecDepth 100000 in
theorem xo_180 : xa_allOK xb_G xb_S 180 := xa_all_ok (es := xt_180) (pls := xp_180) rfl (by decide +kernel)
def xp_181 : List (List Nat) := [[], [898], [], [], [], [898], [], []]
set_option maxRecDepth 100000 in
theorem xo_181 : xa_allOK xb_G xb_S 181 := xa_all_ok (es := xt_181) (pls := xp_181) rfl (by decide +kernel)
def xp_182 : List (List Nat) := [[], [], [898], [], [], [897], [], [], [], [], []]
set_option maxRecDepth 100000 in
theorem xo_182 : xa_allOK xb_G xb_S 182 := xa_all_ok (es := xt_182) (pls := xp_182) rfl (by decide +kernel)
def xp_183 : List (List Nat) := [[], [], [1203], [1204], [955, 956, 59, 957], []]
set_option maxRecDepth 100000 in
theorem xo_183 : xa_allOK xb_G xb_S 183 := xa_all_ok (es := xt_183) (pls := xp_183) rfl (by decide +kernel)
def xp_184 : List (List Nat) := [[], [], [1208], [1209], [955, 956, 59, 957], []]
set_option maxRecDepth 100000 in
theorem xo_184 : xa_allOK xb_G xb_S 184 := xa_all_ok (es := xt_184) (pls := xp_184) rfl (by decide +kernel)
def xp_185 : List (List Nat) := [[], [], [900], [899], [], [], [899], [1196, 1198, 38, 59, 1199], [], [], [], [], [899], [], [], [899], [], [], [], [899], [1196, 1198, 38, 59, 1199], [1200, 1201, 59, 1202], [], [], [], [899], [1196, 1198, 38, 59, 1199], [1205, 1206, 59, 1207], [], [], [], [899], [], [898], [], [], [899], [], [], [], [], [899], [900], [], [], [], [], [900], [1196, 1198, 38, 59, 1199], [1200, 1201, 59, 1202], [], [], [], [], [], [900], [1196, 1198, 38, 59, 1199], [1205, 1206, 59, 1207], [], [], [], [900], [], [], [900], [], []]
set_option maxRecDepth 100000 in
theorem xo_185 : xa_allOK xb_G xb_S 185 := xa_all_ok (es := xt_185) (pls := xp_185) rfl (by decide +kernel)
def xp_186 : List (List Nat) := [[], [], [902], [], [], [], [], [], [], [902], [], [902], [], [], [1192, 1194, 37, 59, 1195], []]
set_option maxRecDepth 100000 in
theorem xo_186 : xa_allOK xb_G xb_S 186 := xa_all_ok (es := xt_186) (pls := xp_186) rfl (by decide +kernel)
def xp_187 : List (List Nat) := [[], [], [], [899], [], [], [], [900], [], [], [1218], [], [], [], [], [1219], [], [], [], [897], [], [], [], [], [], [], [], [], [], [], [902], [], [], [], [899], [1196, 1198, 38, 59, 1199], [1200, 1201, 59, 1202], [], [], [], [], []]
set_option maxRecDepth 100000 in
theorem xo_187 : xa_allOK xb_G xb_S 187 := xa_all_ok (es := xt_187) (pls := xp_187) rfl (by decide +kernel)
def xp_188 : List (List Nat) := [[], [902], [], [], [], [], [899], [1196, 1198, 38, 59, 1199], [1205, 1206, 59, 1207], [], [], [], [], [899], [], [], [], [900], [], [], [], [], [], [], [], [], [], [], [], [], [897], [], [], [], [], [], [], [], [], [], [], [901], [], [], [], [], [], [], [], [], [], [955, 956, 59, 957], [], [], [], [], [1225, 1227, 42, 59, 1228], []]
set_option maxRecDepth 100000 in
theorem xo_188 : xa_allOK xb_G xb_S 188 := xa_all_ok (es := xt_188) (pls := xp_188) rfl (by decide +kernel)
def xp_189 : List (List Nat) := [[], [], [1225, 1227, 42, 59, 1228], [], [], [], [1229, 1231, 43, 59, 1232], [], [901], [], [], [], [1214, 1216, 40, 59, 1217], [1233], [], [], [], [], [], [1225, 1227, 42, 59, 1228], [], [], [], [1229, 1231, 43, 59, 1232], [], [901], [], [], [], [], [1214, 1216, 40, 59, 1217], [1234], [], [], [], [], [1225, 1227, 42, 59, 1228], [], [], [], [1229, 1231, 43, 59, 1232], [], [901], [], [], [902], [], [], [886], [], [], [], [], [], [], [886], [], [], [], [], [], [], [886], [], [], [], [], [], [], [], []]
set_option maxRecDepth 100000 in
theorem xo_189 : xa_allOK xb_G xb_S 189 := xa_all_ok (es := xt_189) (pls := xp_189) rfl (by decide +kernel)
def xp_190 : List (List Nat) := [[], [], [1225, 1227, 42, 59, 1228], [], [], [], [1229, 1231, 43, 59, 1232], [], [901], [], [], [1214, 1216, 40, 59, 1217], [1240], [], [], [], [], [], [], [], [], [], [], [1214, 1216, 40, 59, 1217], [1241], [], [], [], [], [], [1225, 1227, 42, 59, 1228], [], [902], [], [], [886], [], [], [], [], [], [], [], [], [], []]
set_option maxRecDepth 100000 in
theorem xo_190 : xa_allOK xb_G xb_S 190 := xa_all_ok (es := xt_190) (pls := xp_190) rfl (by decide +kernel)
def xp_191 : List (List Nat) := [[], [1214, 1216, 40, 59, 1217], [], [], [], [], [], [], [1255], [], [], [], [], [], [1256], [], [], [], [], [], [1257], [], [], [], [], [], [1258], [], [], [], [], [], [1259], [], [], [], [], [], [1260], [], [], [], [], [], [1261], [], [], [], [], [], []]
set_option maxRecDepth 100000 in
theorem xo_191 : xa_allOK xb_G xb_S 191 := xa_all_ok (es := xt_191) (pls := xp_191) rfl (by decide +kernel)
def xp_192 : List (List Nat) := [[], [1251, 1253, 47, 59, 1254], [], [], [1214, 1216, 40, 59, 1217], [], [], [], [], [], [886], [], [], [], [], [], [], [], [], [], [1225, 1227, 42, 59, 1228], [], [], [], [], [], [], [], [1214, 1216, 40, 59, 1217], [], [], [], [], [], [], [], [1255], [], [], [], [], [], [1225, 1227, 42, 59, 1228], [], [902], [], [], [], [], [], [], [], [], [], [1255], [], [], [], [], [], [], [], [], [], [988, 990, 22, 59, 991], [], []]
set_option maxRecDepth 100000 in
theorem xo_192 : xa_allOK xb_G xb_S 192 := xa_all_ok (es := xt_192) (pls := xp_192) rfl (by decide +kernel)
def xp_193 : List (List Nat) := [[], [], [1214, 1216, 40, 59, 1217], [1246], [], [], [], [], [], [1225, 1227, 42, 59, 1228], [], [], [], [1229, 1231, 43, 59, 1232], [], [901], [], [], [], [], [1214, 1216, 40, 59, 1217], [1220], [], [], [], [], [1225, 1227, 42, 59, 1228], [], [], [], [1229, 1231, 43, 59, 1232], [], [901], [], [], [], [], [], [], [902], [], [], [], [], [1247, 1249, 46, 59, 1250], [], [1251, 1253, 47, 59, 1254], [], [], [], [], [], [], []]
set_option maxRecDepth 100000 in
theorem xo_193 : xa_allOK xb_G xb_S 193 := xa_all_ok (es := xt_193) (pls := xp_193) rfl (by decide +kernel)
def xp_194 : List (List Nat) := [[], [1124, 1126, 34, 59, 1127], [], [], [900], [], [], [902], [], [1192, 1194, 37, 59, 1195], [], [], [], [1210, 1212, 39, 59, 1213], [], [902], [], [], [899], [], [898], [], [], [], [], [899], [1196, 1198, 38, 59, 1199], [], [], [], [], [], [1225, 1227, 42, 59, 1228], [], [1210, 1212, 39, 59, 1213], [], [], [], [], [898], [], [902], [], [], [1128, 1130, 35, 59, 1131], [], [], [899], [], [], [], []]
set_option maxRecDepth 100000 in
theorem xo_194 : xa_allOK xb_G xb_S 194 := xa_all_ok (es := xt_194) (pls := xp_194) rfl (by decide +kernel)
def xp_195 : List (List Nat) := [[], [1214, 1216, 40, 59, 1217], [1220], [], [], [], [1221, 1223, 41, 59, 1224], [], [], [1214, 1216, 40, 59, 1217], [1235], [], [], [], [1236, 1238, 44, 59, 1239], [], [], [1242, 1244, 45, 59, 1245], []]
set_option maxRecDepth 100000 in
theorem xo_195 : xa_allOK xb_G xb_S 195 := xa_all_ok (es := xt_195) (pls := xp_195) rfl (by decide +kernel)
def xp_196 : List (List Nat) := [[], [], [], [1266], [955, 956, 59, 957], [], [], [978, 979, 59, 980], [], [], [], [], [], [], [], [999, 1001, 23, 59, 1002], [], [], [958], [959, 961, 21, 59, 962], [], [], [886], [], [], [], [], [], [], [], [], [], [], [], [], [], [], []]
set_option maxRecDepth 100000 in
theorem xo_196 : xa_allOK xb_G xb_S 196 := xa_all_ok (es := xt_196) (pls := xp_196) rfl (by decide +kernel)
def xp_197 : List (List Nat) := [[], [], [], [1266], [955, 956, 59, 957], [], [], [], [], [986], [955, 956, 59, 957], [], [], [958], [959, 961, 21, 59, 962], [], [], [886], [], [], [], [], [], [], [], [], [1271], [959, 961, 21, 59, 962], [], [], [886], [], [], [], [], [], [], [992, 993, 59, 994], [], [], [], [], [], [], [], [], [], [], [], [], [], [], [], [], [], [], [], [], [], [], [], [], [], [], [], [], [], [], [], [1272], [959, 961, 21, 59, 962], []]
set_option maxRecDepth 100000 in
theorem xo_197 : xa_allOK xb_G xb_S 197 := xa_all_ok (es := xt_197) (pls := xp_197) rfl (by decide +kernel)
def xp_198 : List (List Nat) := [[], [], [], [981], [955, 956, 59, 957], []]
set_option maxRecDepth 100000 in
theorem xo_198 : xa_allOK xb_G xb_S 198 := xa_all_ok (es := xt_198) (pls := xp_198) rfl (by decide +kernel)
def xp_199 : List (List Nat) := [[], [1277, 1278, 59, 1279], [], [], [], [], [], [], [], [], [], [], [], [], [], [958], [959, 961, 21, 59, 962], [], [], [], [], [1280], [959, 961, 21, 59, 962], [], [], [], [], [], [958], [959, 961, 21, 59, 962], [], [], [903], [], [], [], [], [904], [], [], [], [], [], [], [], [], [], [], [], [], [], [905], [], [], [], [], [], [], [], [], [], [], [904], [], [], []]
set_option maxRecDepth 100000 in
theorem xo_199 : xa_allOK xb_G xb_S 199 := xa_all_ok (es := xt_199) (pls := xp_199) rfl (by decide +kernel)
def xp_200 : List (List Nat) := [[], [], [], [], [], [], [], [], [], [], [], [], [], []]
set_option maxRecDepth 100000 in
theorem xo_200 : xa_allOK xb_G xb_S 200 := xa_all_ok (es := xt_200) (pls := xp_200) rfl (by decide +kernel)
def xp_201 : List (List Nat) := [[], [1277, 1278, 59, 1279], [], [958], [], [], [903], [], [], [], [1271], [], [], []]
set_option maxRecDepth 100000 in
theorem xo_201 : xa_allOK xb_G xb_S 201 := xa_all_ok (es := xt_201) (pls := xp_201) rfl (by decide +kernel)
def xp_202 : List (List Nat) := [[], [], [1285, 1287, 48, 59, 1288], [], [], [], [], [], [959, 961, 21, 59, 962], [], [], [], [], [], [904], [], [], [], [], [], [955, 956, 59, 957], [], [], [958], [959, 961, 21, 59, 962], [], [], [905], [], [], [], [], [], [], [903], [], [], [], [1289, 1290, 59, 1291], [], [], []]
set_option maxRecDepth 100000 in
theorem xo_202 : xa_allOK xb_G xb_S 202 := xa_all_ok (es := xt_202) (pls := xp_202) rfl (by decide +kernel)
def xp_203 : List (List Nat) := [[], [1277, 1278, 59, 1279], [], [], [1277, 1278, 59, 1279], [], [], [958], [959, 961, 21, 59, 962], [], [], [903], [], [], [], [], [903], [], [], [], [], [1271], [959, 961, 21, 59, 962], [], [], [903], [], [], [], [903], [], [], [], [], [1272], [959, 961, 21, 59, 962], [], [], [], [], [], [], [], [], [], [904], [], [], [], [], [], [], [], [904], [], [], [], [], [], [], [958], [959, 961, 21, 59, 962], [], [], [], [], [], [], [], [906], [], [], [905], [], [], [], [], [], [], [], [], [], [], [], [], [], [], [], [], [], [905], [], [], [], [], [], [], [], [], [906], [], [], [], [], [], [], []]
set_option maxRecDepth 100000 in
theorem xo_203 : xa_allOK xb_G xb_S 203 := xa_all_ok (es := xt_203) (pls := xp_203) rfl (by decide +kernel)
def xp_204 : List (List Nat) := [[], [], [1285, 1287, 48, 59, 1288], [], [], [], [], [], [959, 961, 21, 59, 962], [], [], [978, 979, 59, 980], [], [], [968, 969, 59, 970], [], [], [958], [959, 961, 21, 59, 962], [], [], [], [], [], [], [], [904], [], [], [], [], [905], [], [], [], [], [], [], [], [], [], [], [1300], [955, 956, 59, 957], [], [], [], [], [], [], [], [886], [], [], [], [], [], [], [], [], [], [], [], [], [], [], [], [], [], [988, 990, 22, 59, 991], [], [], [], [], [], []]
set_option maxRecDepth 100000 in
theorem xo_204 : xa_allOK xb_G xb_S 204 := xa_all_ok (es := xt_204) (pls := xp_204) rfl (by decide +kernel)
def xp_205 : List (List Nat) := [[], [], [1285, 1287, 48, 59, 1288], [], [], [], [], [], [959, 961, 21, 59, 962], [], [], [978, 979, 59, 980], [], [], [1028, 1029, 59, 1030], [], [], [958], [959, 961, 21, 59, 962], [], [], [], [], [], [904], [], [], [], [], [], [], [], [], [], [905], [], [], [], [], [], [], [], [], [], [], [], [1060, 1062, 29, 59, 1063], [], [], [], [], [], [], [], [], []]
set_option maxRecDepth 100000 in
theorem xo_205 : xa_allOK xb_G xb_S 205 := xa_all_ok (es := xt_205) (pls := xp_205) rfl (by decide +kernel)
def xp_206 : List (List Nat) := [[], [], [], [], [], [], [887], [], [], [886], [], [], [], [], [], [], [], [890], [], []]
set_option maxRecDepth 100000 in
theorem xo_206 : xa_allOK xb_G xb_S 206 := xa_all_ok (es := xt_206) (pls := xp_206) rfl (by decide +kernel)
def xp_207 : List (List Nat) := [[], [890], [], [], [1055], [959, 961, 21, 59, 962], [], [], [], [], [], [], [], [886], [], [], [887], [], [], [], [], [], [], [886], [], [], []]
set_option maxRecDepth 100000 in
theorem xo_207 : xa_allOK xb_G xb_S 207 := xa_all_ok (es := xt_207) (pls := xp_207) rfl (by decide +kernel)
def xp_208 : List (List Nat) := [[], [890], [], [], [], [], [], [], [], [890], [], []]
set_option maxRecDepth 100000 in
theorem xo_208 : xa_allOK xb_G xb_S 208 := xa_all_ok (es := xt_208) (pls := xp_208) rfl (by decide +kernel)
def xp_209 : List (List Nat) := [[], [], [], [], [], [886], [], [], [], [], [], [], [], [], [], [], [886], [], [], [], [], [], [], [], [], [], [], [], [], [], [], [], [], [], [], [], [886], [], [], [1032, 1034, 26, 59, 1035], [1137, 1138, 59, 1139], [], [], [], [], [], [], [], [], [], [], [], [], [], [], [], [886], [], [], [1060, 1062, 29, 59, 1063], [], [], [], [], [], [], [], [], [], [], [], [898], [], [], [886], [], [], [], [], [], [], [], [], [], [], [886], [], [], [], [], [], [], [], [], [], [], [], [], [], [], [], [958], [959, 961, 21, 59, 962], []]
set_option maxRecDepth 100000 in
theorem xo_209 : xa_allOK xb_G xb_S 209 := xa_all_ok (es := xt_209) (pls := xp_209) rfl (by decide +kernel)
def xp_210 : List (List Nat) := [[], [], [1101], [986], [955, 956, 59, 957], [], [], [958], [959, 961, 21, 59, 962], [], [], [], [], [], [], [], [], [], [], [], [], [], [], [], [889], [], [], [], [], [], [], [], [], [], []]
set_option maxRecDepth 100000 in
theorem xo_210 : xa_allOK xb_G xb_S 210 := xa_all_ok (es := xt_210) (pls := xp_210) rfl (by decide +kernel)
def xp_211 : List (List Nat) := [[], [], [], [], [571], [], [], [], [], [572], [], [], [], [], [572], [], [], [], [], [], [], [], [], [573], [], [], [], [], [], [], [], [], [], [], [], [], [], [], [], [], [], []]
set_option maxRecDepth 100000 in
theorem xo_211 : xa_allOK xb_G xb_S 211 := xa_all_ok (es := xt_211) (pls := xp_211) rfl (by decide +kernel)
def xp_212 : List (List Nat) := [[], [1325], [], [], [695, 696, 697, 63, 698], [], []]
set_option maxRecDepth 100000 in
theorem xo_212 : xa_allOK xb_G xb_S 212 := xa_all_ok (es := xt_212) (pls := xp_212) rfl (by decide +kernel)
def xp_213 : List (List Nat) := [[], [705, 706, 707, 63, 708], [], [], [1325], [], [709, 710, 64, 711], [], [], [1325], [], [], []]
set_option maxRecDepth 100000 in
theorem xo_213 : xa_allOK xb_G xb_S 213 := xa_all_ok (es := xt_213) (pls := xp_213) rfl (by decide +kernel)
def xp_214 : List (List Nat) := [[699, 4], [], [], [1326], [], [], []]
set_option maxRecDepth 100000 in
theorem xo_214 : xa_allOK xb_G xb_S 214 := xa_all_ok (es := xt_214) (pls := xp_214) rfl (by decide +kernel)
def xp_215 : List (List Nat) := [[699, 4], [], [], [1326], [], [], [], [], []]
set_option maxRecDepth 100000 in
theorem xo_215 : xa_allOK xb_G xb_S 215 := xa_all_ok (es := xt_215) (pls := xp_215) rfl (by decide +kernel)
def xp_216 : List (List Nat) := [[], [], [715, 5], [717, 718, 65, 719], [], []]
set_option maxRecDepth 100000 in
theorem xo_216 : xa_allOK xb_G xb_S 216 := xa_all_ok (es := xt_216) (pls := xp_216) rfl (by decide +kernel)
def xp_217 : List (List Nat) := [[], [], [], [712, 713, 63, 714], [], [], [], [], [], [], []]
set_option maxRecDepth 100000 in
theorem xo_217 : xa_allOK xb_G xb_S 217 := xa_all_ok (es := xt_217) (pls := xp_217) rfl (by decide +kernel)
def xp_218 : List (List Nat) := [[], [], [], [], [], [], [], [], [], [], [], []]
set_option maxRecDepth 100000 in
theorem xo_218 : xa_allOK xb_G xb_S 218 := xa_all_ok (es := xt_218) (pls := xp_218) rfl (by decide +kernel)
def xp_219 : List (List Nat) := [[67, 68, 50], [], [69, 70, 50, 71], [], [880, 881, 59], [], [882, 883, 59, 884], [], [], [], [], [], [], [], [], [], [], [], [], [], [], [], [], [], [], [], [], [], [321, 322, 323, 50, 324], [], [], [], [], [], [], [950, 951, 952, 59, 953], [], [], [], [], [], [], [], [], [], [], [], [], [], [], [], [], [], [], [], [333, 334, 335, 50, 336], [], [], [], [], [], [], [], [], [], [], [], [], [], [], [], [], [964, 965, 966, 59, 967], [], [], [], [], [], [], [], [], [], [], [], [], [], [], [], [], [], [], [343, 344, 345, 50, 346], [], [], [], [], [], [], [], [], [], [], [], [], [], [], [], [974, 975, 976, 59, 977], [], [], [], [], [], [], [], [], [], [], [], [], [], [], [], [], [], [], [], [], [], [], [], [], [350, 351, 352, 50, 353], [], [], [], [], [], [], [], [], [], [], [], [], [], [], [], [], [], [], [], [], [], [982, 983, 984, 59, 985], [], [], [], [], [], [], [], [], [], [], [], [], [], [], [], [], [], [], [], [369, 370, 371, 50, 372], [], [], [], [], [], [], [], [], [], [], [], [], [], [], [], [], [995, 996, 997, 59, 998], [], [], [], [], [], [], [], [], [], [], [], [], [], [], [], [], [], [], [], [383, 384, 385, 50, 386], [], [], [], [], [], [], [], [], [], [], [], [], [], [], [], [], [1008, 1009, 1010, 59, 1011], [], [], [], [], [], [], [], [], [], [], [], [], [], [], [387, 388, 389, 50, 390], [], [], [], [], [], [], [], [], [], [], [], [1012, 1013, 1014, 59, 1015], [], [], [], [], [], [], [], [], [], [], [], [], [], [], [], [], [], [], [], [399, 400, 401, 50, 402], [], [], [], [], [], [], [], [], [], [], [], [], [], [], [], [], [1016, 1017, 1018, 59, 1019], [], [], [], [], [], [], [], [], [], [], [], [], [], [], [403, 404, 405, 50, 406], [], [], [], [], [], [], [], [], [], [], [], [1024, 1025, 1026, 59, 1027], [], [], [], [], [], [], [], [], [], [], [], [], [], [], [], [], [], [], [], [436, 437, 438, 50, 439], [], [], [], [], [], [], [], [], [], [], [], [], [], [], [], [], [1047, 1048, 1049, 59, 1050], [], [], [], [], [], [], [], [], [], [], [], [], [], [], [441, 442, 443, 50, 444], [], [], [], [], [], [], [], [], [], [], [], [1051, 1052, 1053, 59, 1054], [], [], [], [], [], [], [], [], [], [], [], [], [], [], [445, 446, 447, 50, 448], [], [], [], [], [], [], [], [], [], [], [], [1056, 1057, 1058, 59, 1059], [], [], [], [], [], [], [], [], [], [], [], [], [], [], [], [], [], [], [], [473, 474, 475, 50, 476], [], [], [], [], [], [], [], [], [], [], [], [], [], [], [], [], [1084, 1085, 1086, 59, 1087], [], [], [], [], [], [], [], [], [], [477, 478, 479, 50, 480], [], [], [], [], [], [], [1089, 1090, 1091, 59, 1092], [], [], [], [], [], [], [], [], [], [], [], [], [], [], [], [], [], [], [], [491, 492, 493, 50, 494], [], [], [], [], [], [], [], [], [], [], [], [], [], [], [], [], [1093, 1094, 1095, 59, 1096], [], [], [], [], [], [], [], [], [], [], [], [], [], [], [501, 502, 503, 50, 504], [], [], [], [], [], [], [], [], [], [], [], [1097, 1098, 1099, 59, 1100], [], [], [], [], [], [], [], [], [], [], [], [], [], [], [510, 511, 512, 50, 513], [], [], [], [], [], [], [], [], [], [], [], [1103, 1104, 1105, 59, 1106], [], [], [], [], [], [], [], [], [], [], [], [], [], [], [], [], [], [], [], [518, 519, 520, 50, 521], [], [], [], [], [], [], [], [], [], [], [], [], [], [], [], [], [1107, 1108, 1109, 59, 1110], [], [], [], [], [], [], [], [], [], [], [], [], [], [], [522, 523, 524, 50, 525], [], [], [], [], [], [], [], [], [], [], [], [1111, 1112, 1113, 59, 1114], [], [], [], [], [], [], [], [], [], [], [], [], [], [], [], [], [], [], [], [], [], [], [], [], [530, 531, 532, 50, 533], [], [], [], [], [], [], [], [], [], [], [], [], [], [], [], [], [], [], [], [], [], [1119, 1120, 1121, 59, 1122], [], [], [], [], [], [], [], [], [], [], [], [], [], [], [], [], [], [], [], [539, 540, 541, 50, 542], [], [], [], [], [], [], [], [], [], [], [], [], [], [], [], [], [1132, 1133, 1134, 59, 1135], [], [], [], [], [], [], [], [], [], [], [], [], [], [], [], [], [], [], [], [578, 579, 580, 50, 581], [], [], [], [], [], [], [], [], [], [], [], [], [], [], [], [], [1143, 1144, 1145, 59, 1146], [], [], [], [], [], [], [], [], [], [587, 588, 589, 50, 590], [], [], [], [], [], [], [1147, 1148, 1149, 59, 1150], [], [], [], [], [], [], [], [], [], [], [], [], [], [], [600, 601, 602, 50, 603], [], [], [], [], [], [], [], [], [], [], [], [1158, 1159, 1160, 59, 1161], [], [], [], [], [], [], [], [], [], [], [], [], [], [], [], [], [], [], [], [606, 607, 608, 50, 609], [], [], [], [], [], [], [], [], [], [], [], [], [], [], [], [], [1162, 1163, 1164, 59, 1165], [], [], [], [], [], [], [], [], [], [], [], [], [], [], [], [], [], [], [], [615, 616, 617, 50, 618], [], [], [], [], [], [], [], [], [], [], [], [], [], [], [], [], [1166, 1167, 1168, 59, 1169], [], [], [], [], [], [], [], [], [], [], [], [], [], [], [], [], [], [], [], [619, 620, 621, 50, 622], [], [], [], [], [], [], [], [], [], [], [], [], [], [], [], [], [1170, 1171, 1172, 59, 1173], [], [], [], [], [], [], [], [], [], [629, 630, 631, 50, 632], [], [], [], [], [], [], [1176, 1177, 1178, 59, 1179], [], [], [], [], [], [], [], [], [], [], [], [], [], [], [633, 634, 635, 50, 636], [], [], [], [], [], [], [], [], [], [], [], [1180, 1181, 1182, 59, 1183], [], [], [], [], [641, 642, 643, 50, 644], [], [1184, 1185, 1186, 59, 1187], [], [], [], [], [645, 646, 647, 50, 648], [], [1188, 1189, 1190, 59, 1191], [], [], [], [], [], [], [], [], [], [], [], [], [], [], [], [], [], [], [], [789, 790, 791, 50, 792], [], [], [], [], [], [], [], [], [], [], [], [], [], [], [], [], [1262, 1263, 1264, 59, 1265], [], [], [], [], [], [], [], [], [], [], [], [], [], [], [796, 797, 798, 50, 799], [], [], [], [], [], [], [], [], [], [], [], [1267, 1268, 1269, 59, 1270], [], [], [], [], [], [], [], [], [], [], [], [], [], [], [], [], [], [], [], [801, 802, 803, 50, 804], [], [], [], [], [], [], [], [], [], [], [], [], [], [], [], [], [1273, 1274, 1275, 59, 1276], [], [], [], [], [], [], [], [], [], [], [], [], [], [], [], [], [], [], [], [812, 813, 814, 50, 815], [], [], [], [], [], [], [], [], [], [], [], [], [], [], [], [], [1281, 1282, 1283, 59, 1284], [], [], [], [], [], [], [], [], [], [], [], [], [], [], [], [], [], [], [], [], [], [], [], [], [], [], [], [], [], [824, 825, 826, 50, 827], [], [], [], [], [], [], [], [], [], [], [], [], [], [], [], [], [], [], [], [], [], [], [], [], [], [], [1292, 1293, 1294, 59, 1295], [], [], [], [], [], [], [], [], [], [], [], [], [], [], [], [], [], [], [], [833, 834, 835, 50, 836], [], [], [], [], [], [], [], [], [], [], [], [], [], [], [], [], [1296, 1297, 1298, 59, 1299], [], [], [], [], [], [], [], [], [], [], [], [], [], [], [], [], [], [], [], [840, 841, 842, 50, 843], [], [], [], [], [], [], [], [], [], [], [], [], [], [], [], [], [1301, 1302, 1303, 59, 1304], [], [], [], [], [844, 845, 846, 50, 847], [], [1305, 1306, 1307, 59, 1308], [], [], [], [], [848, 849, 850, 50, 851], [], [1309, 1310, 1311, 59, 1312], [], [], [], [], [852, 853, 854, 50, 855], [], [1313, 1314, 1315, 59, 1316], [], [], [], [], [], [], [], [], [], [856, 857, 858, 50, 859], [], [], [], [], [], [], [1317, 1318, 1319, 59, 1320], [], [], [], [], [], [], [], [], [], [876, 877, 878, 50, 879], [], [], [], [], [], [], [1321, 1322, 1323, 59, 1324], [], [], [], [], [], [], []]
set_option maxRecDepth 100000 in
theorem xo_219 : xa_allOK xb_G xb_S 219 := xa_all_ok (es := xt_219) (pls := xp_219) rfl (by decide +kernel)
