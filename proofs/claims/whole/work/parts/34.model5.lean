/-! the model: a beginning, what is kept -/
theorem bgV_s (u : Nat → Nat → Int32) {k : Nat} (hk : 114 ≤ k) : ms (bgV u k) 1 k 0 = bgV u (k + 1) := by
  funext o i
  unfold ms bgV
  by_cases h1 : o = 1
  · by_cases h2 : i = k
    · simp [h1, h2, hk]
    · by_cases h3 : i < k
      · simp [h1, h2, h3, show i < k + 1 by omega]
      · simp [h1, h2, h3, show ¬ i < k + 1 by omega]
  · simp [h1]
theorem bgV_0 (u : Nat → Nat → Int32) : bgV u 114 = u := by
  funext o i
  unfold bgV
  rw [if_neg (by omega)]
theorem kmV_s (u : Nat → Nat → Int32) {j : Nat} (hj : j < 159) : ms (kmV u (j + 1)) 1 (168 + (j + 1)) (u 1 (168 + (j + 1) - 4)) = kmV u j := by
  funext o i
  unfold ms kmV
  by_cases h1 : o = 1
  · by_cases h2 : i = 168 + (j + 1)
    · subst h1; subst h2
      rw [if_pos ⟨rfl, rfl⟩, if_pos ⟨rfl, by omega, by omega⟩]
    · rw [if_neg (fun z => h2 z.2)]
      by_cases h3 : 168 + (j + 1) < i ∧ i ≤ 327
      · rw [if_pos ⟨h1, h3⟩, if_pos ⟨h1, by omega, h3.2⟩]
      · rw [if_neg (fun z => h3 z.2), if_neg (by omega)]
  · rw [if_neg (fun z => h1 z.1), if_neg (fun z => h1 z.1), if_neg (fun z => h1 z.1)]
theorem kmV_0 (u : Nat → Nat → Int32) : kmV u 159 = u := by
  funext o i
  unfold kmV
  rw [if_neg (by omega)]
theorem kmV_lt (u : Nat → Nat → Int32) {j i : Nat} (h : i ≤ 168 + j) : kmV u j 1 i = u 1 i := by
  unfold kmV
  rw [if_neg (by omega)]
section MO
variable {h : evH} {m : evM} {c : Nat} {u : Nat → Nat → Int32}
theorem c_begins (hu : mOK h c) {l : Nat} (hl : l < 8) : evX 104 0 [(0, .ref c), (1, .int (nI l))] [] h (evGM m c 9 u) = some (none, h, evGM m c 9 (bgU u l)) := by
  obtain ⟨w0, w1, w2, w3, w4, w5, w6, w7, w8, w9, w10, w11, w12, w13, w14, w15, w16, w17, w18, w19, w20, w21, w22, w23, w24⟩ := id hu
  have l0 : ¬ nI l < 0 := nI_pos (by omega)
  have l1 : (nI l).toNatClampNeg = l := nI_cl l (by omega)
  have st : evX 104 0 [(0, .ref c), (1, .int (nI l))] [] h (evGM m c 9 u) = evX 104 34 [(0, .ref c), (1, .int (nI l)), (2, .int (nI (114 + 0)))] [] h (evGM m c 9 (bgV (ms (ms (ms (ms u 1 7 (nI l)) 1 8 0) 1 9 0) 1 (58 + 7 * l + 1) 1) (114 + 0))) := by
    rw [show 114 + 0 = 114 from rfl, bgV_0]
    simp only [x104_0, x104_1, x104_4, x104_6, x104_7, x104_8, x104_9, x104_12, x104_14, x104_15, x104_16, x104_17, x104_20, x104_22, x104_23, x104_24, x104_25, x104_26, x104_27, x104_28, x104_31, x104_33, evI_i, evJl_i, evJf_i, evJd_i, evA_r, evA_n, evA_q, evLk_c, evS1_d, evS2_d, evFl_n, evFl_c, evGl_n, evGl_c, evIn_n, evIn_c, evCat_i, evCat_l, evCat_f, evCat_d, evCat_r, evCat_z, evCat_q, evBd_some, evTl_s, evTl_n, va_rf_s, va_rf_n, and_true, true_and, and_false, false_and, if_true, if_false, not_true_eq_false, not_false_eq_true, reduceCtorEq, ↓reduceIte, Nat.reduceAdd, Nat.reduceEqDiff, Nat.reduceLT, Nat.reduceLeDiff, Nat.reduceSub, Nat.zero_ne_one, Nat.one_ne_zero, w0, w1, w2, w3, w4, w5, w6, w7, w8, w9, w10, w11, w12, w13, w14, w15, w16, w17, w18, w19, w20, w21, w22, w23, w24, evGM_get, evGM_set, evGM_get0, evGM_set0, lt7, lc7, lt8, lc8, lt9, lc9, lt1, lc1, l0, l1, hl, c_setLot hu, Option.toList, List.cons_append, List.nil_append]
    rfl
  generalize hv : ms (ms (ms (ms u 1 7 (nI l)) 1 8 0) 1 9 0) 1 (58 + 7 * l + 1) 1 = v at st
  have loop := loop_up (G := fun k => evX 104 34 [(0, .ref c), (1, .int (nI l)), (2, .int (nI (114 + k)))] [] h (evGM m c 9 (bgV v (114 + k)))) (n := 214) (fun k hk => by
    have e1 : ¬ (328 : Int32) ≤ nI (114 + k) := nlt (n := 328) (by omega) (by decide)
    have e2 : ¬ nI (114 + k) < 0 := nI_pos (by omega)
    have e3 : (nI (114 + k)).toNatClampNeg = 114 + k := nI_cl _ (by omega)
    have e4 : 114 + k < 328 := by omega
    have e5 : nI (114 + k) + 1 = nI (114 + (k + 1)) := (nI_succ _).symm
    have e6 : ms (bgV v (114 + k)) 1 (114 + k) 0 = bgV v (114 + (k + 1)) := bgV_s v (by omega)
    conv => lhs; rw [x104_34]
    simp only [x104_35, x104_38, x104_41, x104_42, x104_45, x104_46, x104_47, x104_48, x104_51, evI_i, evJl_i, evJf_i, evJd_i, evA_r, evA_n, evA_q, evLk_c, evS1_d, evS2_d, evFl_n, evFl_c, evGl_n, evGl_c, evIn_n, evIn_c, evCat_i, evCat_l, evCat_f, evCat_d, evCat_r, evCat_z, evCat_q, evBd_some, evTl_s, evTl_n, va_rf_s, va_rf_n, and_true, true_and, and_false, false_and, if_true, if_false, not_true_eq_false, not_false_eq_true, reduceCtorEq, ↓reduceIte, Nat.reduceAdd, Nat.reduceEqDiff, Nat.reduceLT, Nat.reduceLeDiff, Nat.reduceSub, Nat.zero_ne_one, Nat.one_ne_zero, w0, w1, w2, w3, w4, w5, w6, w7, w8, w9, w10, w11, w12, w13, w14, w15, w16, w17, w18, w19, w20, w21, w22, w23, w24, evGM_get, evGM_set, evGM_get0, evGM_set0, e1, e2, e3, e4, e5, e6])
  have hge : (328 : Int32) ≤ nI 328 := by decide
  refine st.trans (loop.trans ?_)
  show evX 104 34 [(0, .ref c), (1, .int (nI l)), (2, .int (nI 328))] [] h (evGM m c 9 (bgV v 328)) = _
  simp only [x104_34, x104_35, x104_38, x104_41, x104_42, x104_45, x104_46, x104_47, x104_48, x104_51, x104_54, evI_i, evJl_i, evJf_i, evJd_i, evA_r, evA_n, evA_q, evLk_c, evS1_d, evS2_d, evFl_n, evFl_c, evGl_n, evGl_c, evIn_n, evIn_c, evCat_i, evCat_l, evCat_f, evCat_d, evCat_r, evCat_z, evCat_q, evBd_some, evTl_s, evTl_n, va_rf_s, va_rf_n, and_true, true_and, and_false, false_and, if_true, if_false, not_true_eq_false, not_false_eq_true, reduceCtorEq, ↓reduceIte, Nat.reduceAdd, Nat.reduceEqDiff, Nat.reduceLT, Nat.reduceLeDiff, Nat.reduceSub, Nat.zero_ne_one, Nat.one_ne_zero, w0, w1, w2, w3, w4, w5, w6, w7, w8, w9, w10, w11, w12, w13, w14, w15, w16, w17, w18, w19, w20, w21, w22, w23, w24, evGM_get, evGM_set, evGM_get0, evGM_set0, hge]
  rw [← hv]
  rfl
theorem c_keepsBest (hu : mOK h c) {w x z : Int32} {k : Nat} (hk : k < 6) (hw0 : ¬ w < 0) (hw : w.toNatClampNeg ≤ 126) : evX 105 0 [(0, .ref c), (1, .int w), (2, .int (nI k)), (3, .int x), (4, .int z)] [] h (evGM m c 9 u) = some (none, h, evGM m c 9 (kbU u w.toNatClampNeg k x z)) := by
  obtain ⟨w0, w1, w2, w3, w4, w5, w6, w7, w8, w9, w10, w11, w12, w13, w14, w15, w16, w17, w18, w19, w20, w21, w22, w23, w24⟩ := id hu
  obtain ⟨w', hw', rfl⟩ := nI_of hw0
  rw [nI_clamp hw'] at hw ⊢
  have i1 : nI w' + 2 * nI k = nI (w' + 2 * k) := by
    show nI w' + nI 2 * nI k = _
    rw [pk_mul, nI_add2]
  have i2 : nI (w' + 2 * k) + 1 = nI (w' + 2 * k + 1) := (nI_succ _).symm
  have i3 : ¬ nI (w' + 2 * k) < 0 := nI_pos (by omega)
  have i4 : ¬ nI (w' + 2 * k + 1) < 0 := nI_pos (by omega)
  have i5 : (nI (w' + 2 * k)).toNatClampNeg = w' + 2 * k := nI_cl _ (by omega)
  have i6 : (nI (w' + 2 * k + 1)).toNatClampNeg = w' + 2 * k + 1 := nI_cl _ (by omega)
  have i7 : w' + 2 * k < 328 := by omega
  have i8 : w' + 2 * k + 1 < 328 := by omega
  unfold kbU
  by_cases hx : u 1 (w' + 2 * k) < x
  · have hx' : ¬ x ≤ u 1 (w' + 2 * k) := fun q => i32_ff q hx
    simp only [x105_0, x105_1, x105_2, x105_5, x105_6, x105_7, x105_8, x105_9, x105_10, x105_11, x105_14, x105_15, x105_18, x105_19, x105_20, x105_21, x105_22, x105_23, x105_24, x105_25, x105_26, x105_29, x105_30, x105_31, x105_32, x105_33, x105_34, x105_35, x105_36, x105_38, x105_39, evI_i, evJl_i, evJf_i, evJd_i, evA_r, evA_n, evA_q, evLk_c, evS1_d, evS2_d, evFl_n, evFl_c, evGl_n, evGl_c, evIn_n, evIn_c, evCat_i, evCat_l, evCat_f, evCat_d, evCat_r, evCat_z, evCat_q, evBd_some, evTl_s, evTl_n, va_rf_s, va_rf_n, and_true, true_and, and_false, false_and, if_true, if_false, not_true_eq_false, not_false_eq_true, reduceCtorEq, ↓reduceIte, Nat.reduceAdd, Nat.reduceEqDiff, Nat.reduceLT, Nat.reduceLeDiff, Nat.reduceSub, Nat.zero_ne_one, Nat.one_ne_zero, w0, w1, w2, w3, w4, w5, w6, w7, w8, w9, w10, w11, w12, w13, w14, w15, w16, w17, w18, w19, w20, w21, w22, w23, w24, evGM_get, evGM_set, evGM_get0, evGM_set0, i1, i2, i3, i4, i5, i6, i7, i8, hx, hx']
  · have hx' : x ≤ u 1 (w' + 2 * k) := Int32.not_lt.mp hx
    simp only [x105_0, x105_1, x105_2, x105_5, x105_6, x105_7, x105_8, x105_9, x105_10, x105_11, x105_14, x105_15, x105_18, x105_19, x105_20, x105_21, x105_22, x105_23, x105_24, x105_25, x105_26, x105_29, x105_30, x105_31, x105_32, x105_33, x105_34, x105_35, x105_36, x105_38, x105_39, evI_i, evJl_i, evJf_i, evJd_i, evA_r, evA_n, evA_q, evLk_c, evS1_d, evS2_d, evFl_n, evFl_c, evGl_n, evGl_c, evIn_n, evIn_c, evCat_i, evCat_l, evCat_f, evCat_d, evCat_r, evCat_z, evCat_q, evBd_some, evTl_s, evTl_n, va_rf_s, va_rf_n, and_true, true_and, and_false, false_and, if_true, if_false, not_true_eq_false, not_false_eq_true, reduceCtorEq, ↓reduceIte, Nat.reduceAdd, Nat.reduceEqDiff, Nat.reduceLT, Nat.reduceLeDiff, Nat.reduceSub, Nat.zero_ne_one, Nat.one_ne_zero, w0, w1, w2, w3, w4, w5, w6, w7, w8, w9, w10, w11, w12, w13, w14, w15, w16, w17, w18, w19, w20, w21, w22, w23, w24, evGM_get, evGM_set, evGM_get0, evGM_set0, i1, i2, i3, i4, i5, i6, i7, i8, hx, hx']
theorem c_keepsMade (hu : mOK h c) (b x s : Int32) : evX 106 0 [(0, .ref c), (1, .int b), (2, .int x), (3, .int s)] [] h (evGM m c 9 u) = some (none, h, evGM m c 9 (kmU u b x s)) := by
  obtain ⟨w0, w1, w2, w3, w4, w5, w6, w7, w8, w9, w10, w11, w12, w13, w14, w15, w16, w17, w18, w19, w20, w21, w22, w23, w24⟩ := id hu
  have st : evX 106 0 [(0, .ref c), (1, .int b), (2, .int x), (3, .int s)] [] h (evGM m c 9 u) = evX 106 5 [(0, .ref c), (1, .int b), (2, .int x), (3, .int s), (4, .int (nI (159 - 0)))] [] h (evGM m c 9 (kmV u (159 - 0))) := by
    rw [show 159 - 0 = 159 from rfl, kmV_0]
    simp only [x106_0, x106_3, evI_i, evJl_i, evJf_i, evJd_i, evA_r, evA_n, evA_q, evLk_c, evS1_d, evS2_d, evFl_n, evFl_c, evGl_n, evGl_c, evIn_n, evIn_c, evCat_i, evCat_l, evCat_f, evCat_d, evCat_r, evCat_z, evCat_q, evBd_some, evTl_s, evTl_n, va_rf_s, va_rf_n, and_true, true_and, and_false, false_and, if_true, if_false, not_true_eq_false, not_false_eq_true, reduceCtorEq, ↓reduceIte, Nat.reduceAdd, Nat.reduceEqDiff, Nat.reduceLT, Nat.reduceLeDiff, Nat.reduceSub, Nat.zero_ne_one, Nat.one_ne_zero, w0, w1, w2, w3, w4, w5, w6, w7, w8, w9, w10, w11, w12, w13, w14, w15, w16, w17, w18, w19, w20, w21, w22, w23, w24, evGM_get, evGM_set, evGM_get0, evGM_set0]
    rfl
  have loop := loop_up (G := fun i => evX 106 5 [(0, .ref c), (1, .int b), (2, .int x), (3, .int s), (4, .int (nI (159 - i)))] [] h (evGM m c 9 (kmV u (159 - i)))) (n := 156) (fun i hi => by
    obtain ⟨j, hj⟩ : ∃ j, 159 - i = j + 1 := ⟨159 - i - 1, by omega⟩
    have hj2 : 159 - (i + 1) = j := by omega
    have hj3 : j < 159 := by omega
    have hj4 : 3 ≤ j := by omega
    show evX 106 5 [(0, .ref c), (1, .int b), (2, .int x), (3, .int s), (4, .int (nI (159 - i)))] [] h (evGM m c 9 (kmV u (159 - i))) = evX 106 5 [(0, .ref c), (1, .int b), (2, .int x), (3, .int s), (4, .int (nI (159 - (i + 1))))] [] h (evGM m c 9 (kmV u (159 - (i + 1))))
    rw [hj, hj2]
    have e1 : ¬ nI (j + 1) < 4 := (show ¬ nI (j + 1) < nI 4 from nI_nlt (by omega) (by omega))
    have e2 : (168 : Int32) + nI (j + 1) = nI (168 + (j + 1)) := ix1 168 (j + 1)
    have e3 : nI (168 + (j + 1)) - 4 = nI (168 + (j + 1) - 4) := by
      rw [show 168 + (j + 1) = 168 + (j + 1) - 4 + 4 by omega, ← nI_add2]
      exact Int32.add_sub_cancel _ _
    have e4 : ¬ nI (168 + (j + 1)) < 0 := nI_pos (by omega)
    have e5 : ¬ nI (168 + (j + 1) - 4) < 0 := nI_pos (by omega)
    have e6 : (nI (168 + (j + 1))).toNatClampNeg = 168 + (j + 1) := nI_cl _ (by omega)
    have e7 : (nI (168 + (j + 1) - 4)).toNatClampNeg = 168 + (j + 1) - 4 := nI_cl _ (by omega)
    have e8 : 168 + (j + 1) < 328 := by omega
    have e9 : 168 + (j + 1) - 4 < 328 := by omega
    have ea : kmV u (j + 1) 1 (168 + (j + 1) - 4) = u 1 (168 + (j + 1) - 4) := kmV_lt u (by omega)
    have eb : nI (j + 1) + -1 = nI j := by
      rw [nI_succ, Int32.add_assoc]
      exact Int32.add_zero _
    conv => lhs; rw [x106_5]
    simp only [x106_7, x106_8, x106_11, x106_12, x106_15, x106_18, x106_20, x106_21, x106_22, x106_25, x106_28, x106_30, x106_31, x106_32, x106_33, x106_34, x106_35, x106_38, evI_i, evJl_i, evJf_i, evJd_i, evA_r, evA_n, evA_q, evLk_c, evS1_d, evS2_d, evFl_n, evFl_c, evGl_n, evGl_c, evIn_n, evIn_c, evCat_i, evCat_l, evCat_f, evCat_d, evCat_r, evCat_z, evCat_q, evBd_some, evTl_s, evTl_n, va_rf_s, va_rf_n, and_true, true_and, and_false, false_and, if_true, if_false, not_true_eq_false, not_false_eq_true, reduceCtorEq, ↓reduceIte, Nat.reduceAdd, Nat.reduceEqDiff, Nat.reduceLT, Nat.reduceLeDiff, Nat.reduceSub, Nat.zero_ne_one, Nat.one_ne_zero, w0, w1, w2, w3, w4, w5, w6, w7, w8, w9, w10, w11, w12, w13, w14, w15, w16, w17, w18, w19, w20, w21, w22, w23, w24, evGM_get, evGM_set, evGM_get0, evGM_set0, e1, e2, e3, e4, e5, e6, e7, e8, e9, ea, eb, kmV_s u hj3])
  have h4 : nI 3 < 4 := by decide
  refine st.trans (loop.trans ?_)
  show evX 106 5 [(0, .ref c), (1, .int b), (2, .int x), (3, .int s), (4, .int (nI 3))] [] h (evGM m c 9 (kmV u 3)) = _
  have g4 : kmV u 3 1 4 = u 1 4 := kmV_lt u (by omega)
  have g9 : kmV u 3 1 9 = u 1 9 := kmV_lt u (by omega)
  unfold kmU
  by_cases hs : s = 0
  · by_cases h40 : u 1 9 < 40
    · have h40' : ¬ 40 ≤ u 1 9 := fun q => i32_ff q h40
      simp only [x106_5, x106_7, x106_8, x106_41, x106_42, x106_45, x106_48, x106_49, x106_50, x106_51, x106_54, x106_57, x106_58, x106_59, x106_60, x106_63, x106_66, x106_67, x106_70, x106_71, x106_72, x106_73, x106_74, x106_77, x106_80, x106_81, x106_84, x106_85, x106_88, x106_89, x106_90, x106_91, x106_94, x106_96, x106_97, x106_98, x106_99, x106_102, x106_104, x106_105, x106_107, x106_110, x106_111, x106_114, x106_115, x106_116, x106_117, evI_i, evJl_i, evJf_i, evJd_i, evA_r, evA_n, evA_q, evLk_c, evS1_d, evS2_d, evFl_n, evFl_c, evGl_n, evGl_c, evIn_n, evIn_c, evCat_i, evCat_l, evCat_f, evCat_d, evCat_r, evCat_z, evCat_q, evBd_some, evTl_s, evTl_n, va_rf_s, va_rf_n, and_true, true_and, and_false, false_and, if_true, if_false, not_true_eq_false, not_false_eq_true, reduceCtorEq, ↓reduceIte, Nat.reduceAdd, Nat.reduceEqDiff, Nat.reduceLT, Nat.reduceLeDiff, Nat.reduceSub, Nat.zero_ne_one, Nat.one_ne_zero, w0, w1, w2, w3, w4, w5, w6, w7, w8, w9, w10, w11, w12, w13, w14, w15, w16, w17, w18, w19, w20, w21, w22, w23, w24, evGM_get, evGM_set, evGM_get0, evGM_set0, lt168, lc168, lt169, lc169, lt170, lc170, lt171, lc171, lt4, lc4, lt9, lc9, ms_1, g4, g9, h4, hs, h40, h40']
    · have h40' : 40 ≤ u 1 9 := Int32.not_lt.mp h40
      simp only [x106_5, x106_7, x106_8, x106_41, x106_42, x106_45, x106_48, x106_49, x106_50, x106_51, x106_54, x106_57, x106_58, x106_59, x106_60, x106_63, x106_66, x106_67, x106_70, x106_71, x106_72, x106_73, x106_74, x106_77, x106_80, x106_81, x106_84, x106_85, x106_88, x106_89, x106_90, x106_91, x106_94, x106_96, x106_97, x106_98, x106_99, x106_102, x106_104, x106_105, x106_107, x106_110, x106_111, x106_114, x106_115, x106_116, x106_117, evI_i, evJl_i, evJf_i, evJd_i, evA_r, evA_n, evA_q, evLk_c, evS1_d, evS2_d, evFl_n, evFl_c, evGl_n, evGl_c, evIn_n, evIn_c, evCat_i, evCat_l, evCat_f, evCat_d, evCat_r, evCat_z, evCat_q, evBd_some, evTl_s, evTl_n, va_rf_s, va_rf_n, and_true, true_and, and_false, false_and, if_true, if_false, not_true_eq_false, not_false_eq_true, reduceCtorEq, ↓reduceIte, Nat.reduceAdd, Nat.reduceEqDiff, Nat.reduceLT, Nat.reduceLeDiff, Nat.reduceSub, Nat.zero_ne_one, Nat.one_ne_zero, w0, w1, w2, w3, w4, w5, w6, w7, w8, w9, w10, w11, w12, w13, w14, w15, w16, w17, w18, w19, w20, w21, w22, w23, w24, evGM_get, evGM_set, evGM_get0, evGM_set0, lt168, lc168, lt169, lc169, lt170, lc170, lt171, lc171, lt4, lc4, lt9, lc9, ms_1, g4, g9, h4, hs, h40, h40']
  · by_cases h40 : u 1 9 < 40
    · have h40' : ¬ 40 ≤ u 1 9 := fun q => i32_ff q h40
      simp only [x106_5, x106_7, x106_8, x106_41, x106_42, x106_45, x106_48, x106_49, x106_50, x106_51, x106_54, x106_57, x106_58, x106_59, x106_60, x106_63, x106_66, x106_67, x106_70, x106_71, x106_72, x106_73, x106_74, x106_77, x106_80, x106_81, x106_84, x106_85, x106_88, x106_89, x106_90, x106_91, x106_94, x106_96, x106_97, x106_98, x106_99, x106_102, x106_104, x106_105, x106_107, x106_110, x106_111, x106_114, x106_115, x106_116, x106_117, evI_i, evJl_i, evJf_i, evJd_i, evA_r, evA_n, evA_q, evLk_c, evS1_d, evS2_d, evFl_n, evFl_c, evGl_n, evGl_c, evIn_n, evIn_c, evCat_i, evCat_l, evCat_f, evCat_d, evCat_r, evCat_z, evCat_q, evBd_some, evTl_s, evTl_n, va_rf_s, va_rf_n, and_true, true_and, and_false, false_and, if_true, if_false, not_true_eq_false, not_false_eq_true, reduceCtorEq, ↓reduceIte, Nat.reduceAdd, Nat.reduceEqDiff, Nat.reduceLT, Nat.reduceLeDiff, Nat.reduceSub, Nat.zero_ne_one, Nat.one_ne_zero, w0, w1, w2, w3, w4, w5, w6, w7, w8, w9, w10, w11, w12, w13, w14, w15, w16, w17, w18, w19, w20, w21, w22, w23, w24, evGM_get, evGM_set, evGM_get0, evGM_set0, lt168, lc168, lt169, lc169, lt170, lc170, lt171, lc171, lt4, lc4, lt9, lc9, ms_1, g4, g9, h4, hs, h40, h40']
    · have h40' : 40 ≤ u 1 9 := Int32.not_lt.mp h40
      simp only [x106_5, x106_7, x106_8, x106_41, x106_42, x106_45, x106_48, x106_49, x106_50, x106_51, x106_54, x106_57, x106_58, x106_59, x106_60, x106_63, x106_66, x106_67, x106_70, x106_71, x106_72, x106_73, x106_74, x106_77, x106_80, x106_81, x106_84, x106_85, x106_88, x106_89, x106_90, x106_91, x106_94, x106_96, x106_97, x106_98, x106_99, x106_102, x106_104, x106_105, x106_107, x106_110, x106_111, x106_114, x106_115, x106_116, x106_117, evI_i, evJl_i, evJf_i, evJd_i, evA_r, evA_n, evA_q, evLk_c, evS1_d, evS2_d, evFl_n, evFl_c, evGl_n, evGl_c, evIn_n, evIn_c, evCat_i, evCat_l, evCat_f, evCat_d, evCat_r, evCat_z, evCat_q, evBd_some, evTl_s, evTl_n, va_rf_s, va_rf_n, and_true, true_and, and_false, false_and, if_true, if_false, not_true_eq_false, not_false_eq_true, reduceCtorEq, ↓reduceIte, Nat.reduceAdd, Nat.reduceEqDiff, Nat.reduceLT, Nat.reduceLeDiff, Nat.reduceSub, Nat.zero_ne_one, Nat.one_ne_zero, w0, w1, w2, w3, w4, w5, w6, w7, w8, w9, w10, w11, w12, w13, w14, w15, w16, w17, w18, w19, w20, w21, w22, w23, w24, evGM_get, evGM_set, evGM_get0, evGM_set0, lt168, lc168, lt169, lc169, lt170, lc170, lt171, lc171, lt4, lc4, lt9, lc9, ms_1, g4, g9, h4, hs, h40, h40']
end MO
