/-! the model: what a bidder believes -/
abbrev evT : Type := Int32 × Int32 × Int32
def setB (u : Nat → Nat → Int32) (t : evT) : Nat → Nat → Int32 := fun o j => if o = 0 then (if j = 8 then t.1 else if j = 9 then t.2.1 else if j = 10 then t.2.2 else u 0 j) else u o j
theorem setB_8 (u : Nat → Nat → Int32) (t : evT) : setB u t 0 8 = t.1 := id rfl
theorem setB_9 (u : Nat → Nat → Int32) (t : evT) : setB u t 0 9 = t.2.1 := id rfl
theorem setB_10 (u : Nat → Nat → Int32) (t : evT) : setB u t 0 10 = t.2.2 := id rfl
theorem setB_1 (u : Nat → Nat → Int32) (t : evT) (j : Nat) : setB u t 1 j = u 1 j := id rfl
theorem setB_r1 (u : Nat → Nat → Int32) (t : evT) : setB u t 1 = u 1 := id rfl
theorem setB_s8 (u : Nat → Nat → Int32) (t : evT) (x : Int32) : ms (setB u t) 0 8 x = setB u (x, t.2) := by
  funext o j
  unfold ms setB
  by_cases h1 : o = 0
  · by_cases h2 : j = 8 <;> simp [h1, h2]
  · simp [h1]
theorem setB_s9 (u : Nat → Nat → Int32) (t : evT) (x : Int32) : ms (setB u t) 0 9 x = setB u (t.1, x, t.2.2) := by
  funext o j
  unfold ms setB
  by_cases h1 : o = 0
  · by_cases h2 : j = 9 <;> simp [h1, h2]
  · simp [h1]
theorem setB_s10 (u : Nat → Nat → Int32) (t : evT) (x : Int32) : ms (setB u t) 0 10 x = setB u (t.1, t.2.1, x) := by
  funext o j
  unfold ms setB
  by_cases h1 : o = 0
  · by_cases h2 : j = 10 <;> simp [h1, h2]
  · simp [h1]
theorem setB_id (u : Nat → Nat → Int32) : setB u (u 0 8, u 0 9, u 0 10) = u := by
  funext o j
  unfold setB
  by_cases h1 : o = 0
  · subst h1
    by_cases h2 : j = 8
    · simp [h2]
    · by_cases h3 : j = 9
      · simp [h3]
      · by_cases h4 : j = 10 <;> simp [h2, h3, h4]
  · simp [h1]
theorem setB_2 (u : Nat → Nat → Int32) (t t' : evT) : setB (setB u t) t' = setB u t' := by
  funext o j
  unfold setB
  by_cases h1 : o = 0
  · by_cases h2 : j = 8
    · simp [h1, h2]
    · by_cases h3 : j = 9
      · simp [h1, h3]
      · by_cases h4 : j = 10 <;> simp [h1, h2, h3, h4]
  · simp [h1]
def hearT (t : evT) (x r b : Int32) : evT := if 0 < x ∧ (t.1 < x ∨ x = t.1 ∧ (r < t.2.1 ∨ r = t.2.1 ∧ b < t.2.2)) then (x, r, b) else t
def agesT (r : Nat → Int32) (k lag : Nat) (t : evT) : Nat → evT
  | 0 => t
  | i + 1 => hearT (agesT r k lag t i) (r (138 + 6 * (lag + i) + k)) (r 4 - nI (lag + 1 + i)) (nI k)
def oneT (r : Nat → Int32) (k lag b : Nat) (t : evT) : evT := if k = b then t else agesT r k lag (hearT t (r (126 + 2 * k)) (r (126 + 2 * k + 1)) (nI k)) (5 - lag)
def allT (r : Nat → Int32) (lag b : Nat) : Nat → evT
  | 0 => hearT (0, 0, -6) (r (114 + 2 * b)) (r (114 + 2 * b + 1)) (nI b)
  | k + 1 => oneT r k lag b (allT r lag b k)
section MO
variable {h : evH} {m : evM} {c : Nat} {u : Nat → Nat → Int32}
theorem c_hears (hu : mOK h c) (t : evT) (x r b : Int32) : evX 100 0 [(0, .ref c), (1, .int x), (2, .int r), (3, .int b)] [] h (evGM m c 9 (setB u t)) = some (none, h, evGM m c 9 (setB u (hearT t x r b))) := by
  obtain ⟨w0, w1, w2, w3, w4, w5, w6, w7, w8, w9, w10, w11, w12, w13, w14, w15, w16, w17, w18, w19, w20, w21, w22, w23, w24⟩ := id hu
  obtain ⟨t1, t2, t3⟩ := t
  have n10 : ¬ (1 : Int32) = 0 := by decide
  have irr : ∀ z : Int32, ¬ z < z := fun z q => i32_ff (Int32.le_refl _) q
  unfold hearT
  by_cases h6 : x ≤ 0
  · have h6' : ¬ 0 < x := fun q => i32_ff h6 q
    by_cases h1 : t1 < x
    · simp only [x100_0, x100_1, x100_2, x100_5, x100_8, x100_9, x100_10, x100_13, x100_16, x100_17, x100_18, x100_21, x100_24, x100_25, x100_26, x100_29, x100_32, x100_33, x100_34, x100_37, x100_40, x100_41, x100_44, x100_45, x100_47, x100_48, x100_51, x100_53, x100_56, x100_57, x100_58, x100_61, x100_62, x100_63, x100_66, x100_67, x100_68, x100_71, evI_i, evJl_i, evJf_i, evJd_i, evA_r, evA_n, evA_q, evLk_c, evS1_d, evS2_d, evFl_n, evFl_c, evGl_n, evGl_c, evIn_n, evIn_c, evCat_i, evCat_l, evCat_f, evCat_d, evCat_r, evCat_z, evCat_q, evBd_some, evTl_s, evTl_n, va_rf_s, va_rf_n, and_true, true_and, and_false, false_and, if_true, if_false, not_true_eq_false, not_false_eq_true, reduceCtorEq, ↓reduceIte, Nat.reduceAdd, Nat.reduceEqDiff, Nat.reduceLT, Nat.reduceLeDiff, Nat.reduceSub, Nat.zero_ne_one, Nat.one_ne_zero, w0, w1, w2, w3, w4, w5, w6, w7, w8, w9, w10, w11, w12, w13, w14, w15, w16, w17, w18, w19, w20, w21, w22, w23, w24, evGM_get, evGM_set, evGM_get0, evGM_set0, setB_8, setB_9, setB_10, n10, irr, h1, h6, h6']
    · by_cases h2 : x = t1
      · subst h2
        by_cases h3 : r < t2
        · simp only [x100_0, x100_1, x100_2, x100_5, x100_8, x100_9, x100_10, x100_13, x100_16, x100_17, x100_18, x100_21, x100_24, x100_25, x100_26, x100_29, x100_32, x100_33, x100_34, x100_37, x100_40, x100_41, x100_44, x100_45, x100_47, x100_48, x100_51, x100_53, x100_56, x100_57, x100_58, x100_61, x100_62, x100_63, x100_66, x100_67, x100_68, x100_71, evI_i, evJl_i, evJf_i, evJd_i, evA_r, evA_n, evA_q, evLk_c, evS1_d, evS2_d, evFl_n, evFl_c, evGl_n, evGl_c, evIn_n, evIn_c, evCat_i, evCat_l, evCat_f, evCat_d, evCat_r, evCat_z, evCat_q, evBd_some, evTl_s, evTl_n, va_rf_s, va_rf_n, and_true, true_and, and_false, false_and, if_true, if_false, not_true_eq_false, not_false_eq_true, reduceCtorEq, ↓reduceIte, Nat.reduceAdd, Nat.reduceEqDiff, Nat.reduceLT, Nat.reduceLeDiff, Nat.reduceSub, Nat.zero_ne_one, Nat.one_ne_zero, w0, w1, w2, w3, w4, w5, w6, w7, w8, w9, w10, w11, w12, w13, w14, w15, w16, w17, w18, w19, w20, w21, w22, w23, w24, evGM_get, evGM_set, evGM_get0, evGM_set0, setB_8, setB_9, setB_10, n10, irr, h1, h3, h6, h6']
        · by_cases h4 : r = t2
          · by_cases h5 : b < t3
            · have h5' : ¬ t3 ≤ b := fun q => i32_ff q h5
              simp only [x100_0, x100_1, x100_2, x100_5, x100_8, x100_9, x100_10, x100_13, x100_16, x100_17, x100_18, x100_21, x100_24, x100_25, x100_26, x100_29, x100_32, x100_33, x100_34, x100_37, x100_40, x100_41, x100_44, x100_45, x100_47, x100_48, x100_51, x100_53, x100_56, x100_57, x100_58, x100_61, x100_62, x100_63, x100_66, x100_67, x100_68, x100_71, evI_i, evJl_i, evJf_i, evJd_i, evA_r, evA_n, evA_q, evLk_c, evS1_d, evS2_d, evFl_n, evFl_c, evGl_n, evGl_c, evIn_n, evIn_c, evCat_i, evCat_l, evCat_f, evCat_d, evCat_r, evCat_z, evCat_q, evBd_some, evTl_s, evTl_n, va_rf_s, va_rf_n, and_true, true_and, and_false, false_and, if_true, if_false, not_true_eq_false, not_false_eq_true, reduceCtorEq, ↓reduceIte, Nat.reduceAdd, Nat.reduceEqDiff, Nat.reduceLT, Nat.reduceLeDiff, Nat.reduceSub, Nat.zero_ne_one, Nat.one_ne_zero, w0, w1, w2, w3, w4, w5, w6, w7, w8, w9, w10, w11, w12, w13, w14, w15, w16, w17, w18, w19, w20, w21, w22, w23, w24, evGM_get, evGM_set, evGM_get0, evGM_set0, setB_8, setB_9, setB_10, n10, irr, h1, h3, h4, h5, h5', h6, h6']
            · have h5' : t3 ≤ b := Int32.not_lt.mp h5
              simp only [x100_0, x100_1, x100_2, x100_5, x100_8, x100_9, x100_10, x100_13, x100_16, x100_17, x100_18, x100_21, x100_24, x100_25, x100_26, x100_29, x100_32, x100_33, x100_34, x100_37, x100_40, x100_41, x100_44, x100_45, x100_47, x100_48, x100_51, x100_53, x100_56, x100_57, x100_58, x100_61, x100_62, x100_63, x100_66, x100_67, x100_68, x100_71, evI_i, evJl_i, evJf_i, evJd_i, evA_r, evA_n, evA_q, evLk_c, evS1_d, evS2_d, evFl_n, evFl_c, evGl_n, evGl_c, evIn_n, evIn_c, evCat_i, evCat_l, evCat_f, evCat_d, evCat_r, evCat_z, evCat_q, evBd_some, evTl_s, evTl_n, va_rf_s, va_rf_n, and_true, true_and, and_false, false_and, if_true, if_false, not_true_eq_false, not_false_eq_true, reduceCtorEq, ↓reduceIte, Nat.reduceAdd, Nat.reduceEqDiff, Nat.reduceLT, Nat.reduceLeDiff, Nat.reduceSub, Nat.zero_ne_one, Nat.one_ne_zero, w0, w1, w2, w3, w4, w5, w6, w7, w8, w9, w10, w11, w12, w13, w14, w15, w16, w17, w18, w19, w20, w21, w22, w23, w24, evGM_get, evGM_set, evGM_get0, evGM_set0, setB_8, setB_9, setB_10, n10, irr, h1, h3, h4, h5, h5', h6, h6']
          · simp only [x100_0, x100_1, x100_2, x100_5, x100_8, x100_9, x100_10, x100_13, x100_16, x100_17, x100_18, x100_21, x100_24, x100_25, x100_26, x100_29, x100_32, x100_33, x100_34, x100_37, x100_40, x100_41, x100_44, x100_45, x100_47, x100_48, x100_51, x100_53, x100_56, x100_57, x100_58, x100_61, x100_62, x100_63, x100_66, x100_67, x100_68, x100_71, evI_i, evJl_i, evJf_i, evJd_i, evA_r, evA_n, evA_q, evLk_c, evS1_d, evS2_d, evFl_n, evFl_c, evGl_n, evGl_c, evIn_n, evIn_c, evCat_i, evCat_l, evCat_f, evCat_d, evCat_r, evCat_z, evCat_q, evBd_some, evTl_s, evTl_n, va_rf_s, va_rf_n, and_true, true_and, and_false, false_and, if_true, if_false, not_true_eq_false, not_false_eq_true, reduceCtorEq, ↓reduceIte, Nat.reduceAdd, Nat.reduceEqDiff, Nat.reduceLT, Nat.reduceLeDiff, Nat.reduceSub, Nat.zero_ne_one, Nat.one_ne_zero, w0, w1, w2, w3, w4, w5, w6, w7, w8, w9, w10, w11, w12, w13, w14, w15, w16, w17, w18, w19, w20, w21, w22, w23, w24, evGM_get, evGM_set, evGM_get0, evGM_set0, setB_8, setB_9, setB_10, n10, irr, h1, h3, h4, h6, h6']
      · simp only [x100_0, x100_1, x100_2, x100_5, x100_8, x100_9, x100_10, x100_13, x100_16, x100_17, x100_18, x100_21, x100_24, x100_25, x100_26, x100_29, x100_32, x100_33, x100_34, x100_37, x100_40, x100_41, x100_44, x100_45, x100_47, x100_48, x100_51, x100_53, x100_56, x100_57, x100_58, x100_61, x100_62, x100_63, x100_66, x100_67, x100_68, x100_71, evI_i, evJl_i, evJf_i, evJd_i, evA_r, evA_n, evA_q, evLk_c, evS1_d, evS2_d, evFl_n, evFl_c, evGl_n, evGl_c, evIn_n, evIn_c, evCat_i, evCat_l, evCat_f, evCat_d, evCat_r, evCat_z, evCat_q, evBd_some, evTl_s, evTl_n, va_rf_s, va_rf_n, and_true, true_and, and_false, false_and, if_true, if_false, not_true_eq_false, not_false_eq_true, reduceCtorEq, ↓reduceIte, Nat.reduceAdd, Nat.reduceEqDiff, Nat.reduceLT, Nat.reduceLeDiff, Nat.reduceSub, Nat.zero_ne_one, Nat.one_ne_zero, w0, w1, w2, w3, w4, w5, w6, w7, w8, w9, w10, w11, w12, w13, w14, w15, w16, w17, w18, w19, w20, w21, w22, w23, w24, evGM_get, evGM_set, evGM_get0, evGM_set0, setB_8, setB_9, setB_10, n10, irr, h1, h2, h6, h6']
  · have h6' : 0 < x := Int32.not_le.mp h6
    by_cases h1 : t1 < x
    · simp only [x100_0, x100_1, x100_2, x100_5, x100_8, x100_9, x100_10, x100_13, x100_16, x100_17, x100_18, x100_21, x100_24, x100_25, x100_26, x100_29, x100_32, x100_33, x100_34, x100_37, x100_40, x100_41, x100_44, x100_45, x100_47, x100_48, x100_51, x100_53, x100_56, x100_57, x100_58, x100_61, x100_62, x100_63, x100_66, x100_67, x100_68, x100_71, evI_i, evJl_i, evJf_i, evJd_i, evA_r, evA_n, evA_q, evLk_c, evS1_d, evS2_d, evFl_n, evFl_c, evGl_n, evGl_c, evIn_n, evIn_c, evCat_i, evCat_l, evCat_f, evCat_d, evCat_r, evCat_z, evCat_q, evBd_some, evTl_s, evTl_n, va_rf_s, va_rf_n, and_true, true_and, and_false, false_and, if_true, if_false, not_true_eq_false, not_false_eq_true, reduceCtorEq, ↓reduceIte, Nat.reduceAdd, Nat.reduceEqDiff, Nat.reduceLT, Nat.reduceLeDiff, Nat.reduceSub, Nat.zero_ne_one, Nat.one_ne_zero, w0, w1, w2, w3, w4, w5, w6, w7, w8, w9, w10, w11, w12, w13, w14, w15, w16, w17, w18, w19, w20, w21, w22, w23, w24, evGM_get, evGM_set, evGM_get0, evGM_set0, setB_8, setB_9, setB_10, setB_s8, setB_s9, setB_s10, n10, irr, h1, h6, h6', true_or]
    · by_cases h2 : x = t1
      · subst h2
        by_cases h3 : r < t2
        · simp only [x100_0, x100_1, x100_2, x100_5, x100_8, x100_9, x100_10, x100_13, x100_16, x100_17, x100_18, x100_21, x100_24, x100_25, x100_26, x100_29, x100_32, x100_33, x100_34, x100_37, x100_40, x100_41, x100_44, x100_45, x100_47, x100_48, x100_51, x100_53, x100_56, x100_57, x100_58, x100_61, x100_62, x100_63, x100_66, x100_67, x100_68, x100_71, evI_i, evJl_i, evJf_i, evJd_i, evA_r, evA_n, evA_q, evLk_c, evS1_d, evS2_d, evFl_n, evFl_c, evGl_n, evGl_c, evIn_n, evIn_c, evCat_i, evCat_l, evCat_f, evCat_d, evCat_r, evCat_z, evCat_q, evBd_some, evTl_s, evTl_n, va_rf_s, va_rf_n, and_true, true_and, and_false, false_and, if_true, if_false, not_true_eq_false, not_false_eq_true, reduceCtorEq, ↓reduceIte, Nat.reduceAdd, Nat.reduceEqDiff, Nat.reduceLT, Nat.reduceLeDiff, Nat.reduceSub, Nat.zero_ne_one, Nat.one_ne_zero, w0, w1, w2, w3, w4, w5, w6, w7, w8, w9, w10, w11, w12, w13, w14, w15, w16, w17, w18, w19, w20, w21, w22, w23, w24, evGM_get, evGM_set, evGM_get0, evGM_set0, setB_8, setB_9, setB_10, setB_s8, setB_s9, setB_s10, n10, irr, h1, h3, h6, h6', true_or, or_true]
        · by_cases h4 : r = t2
          · subst h4
            by_cases h5 : b < t3
            · have h5' : ¬ t3 ≤ b := fun q => i32_ff q h5
              simp only [x100_0, x100_1, x100_2, x100_5, x100_8, x100_9, x100_10, x100_13, x100_16, x100_17, x100_18, x100_21, x100_24, x100_25, x100_26, x100_29, x100_32, x100_33, x100_34, x100_37, x100_40, x100_41, x100_44, x100_45, x100_47, x100_48, x100_51, x100_53, x100_56, x100_57, x100_58, x100_61, x100_62, x100_63, x100_66, x100_67, x100_68, x100_71, evI_i, evJl_i, evJf_i, evJd_i, evA_r, evA_n, evA_q, evLk_c, evS1_d, evS2_d, evFl_n, evFl_c, evGl_n, evGl_c, evIn_n, evIn_c, evCat_i, evCat_l, evCat_f, evCat_d, evCat_r, evCat_z, evCat_q, evBd_some, evTl_s, evTl_n, va_rf_s, va_rf_n, and_true, true_and, and_false, false_and, if_true, if_false, not_true_eq_false, not_false_eq_true, reduceCtorEq, ↓reduceIte, Nat.reduceAdd, Nat.reduceEqDiff, Nat.reduceLT, Nat.reduceLeDiff, Nat.reduceSub, Nat.zero_ne_one, Nat.one_ne_zero, w0, w1, w2, w3, w4, w5, w6, w7, w8, w9, w10, w11, w12, w13, w14, w15, w16, w17, w18, w19, w20, w21, w22, w23, w24, evGM_get, evGM_set, evGM_get0, evGM_set0, setB_8, setB_9, setB_10, setB_s8, setB_s9, setB_s10, n10, irr, h1, h3, h5, h5', h6, h6', true_or, or_true]
            · have h5' : t3 ≤ b := Int32.not_lt.mp h5
              simp only [x100_0, x100_1, x100_2, x100_5, x100_8, x100_9, x100_10, x100_13, x100_16, x100_17, x100_18, x100_21, x100_24, x100_25, x100_26, x100_29, x100_32, x100_33, x100_34, x100_37, x100_40, x100_41, x100_44, x100_45, x100_47, x100_48, x100_51, x100_53, x100_56, x100_57, x100_58, x100_61, x100_62, x100_63, x100_66, x100_67, x100_68, x100_71, evI_i, evJl_i, evJf_i, evJd_i, evA_r, evA_n, evA_q, evLk_c, evS1_d, evS2_d, evFl_n, evFl_c, evGl_n, evGl_c, evIn_n, evIn_c, evCat_i, evCat_l, evCat_f, evCat_d, evCat_r, evCat_z, evCat_q, evBd_some, evTl_s, evTl_n, va_rf_s, va_rf_n, and_true, true_and, and_false, false_and, if_true, if_false, not_true_eq_false, not_false_eq_true, reduceCtorEq, ↓reduceIte, Nat.reduceAdd, Nat.reduceEqDiff, Nat.reduceLT, Nat.reduceLeDiff, Nat.reduceSub, Nat.zero_ne_one, Nat.one_ne_zero, w0, w1, w2, w3, w4, w5, w6, w7, w8, w9, w10, w11, w12, w13, w14, w15, w16, w17, w18, w19, w20, w21, w22, w23, w24, evGM_get, evGM_set, evGM_get0, evGM_set0, setB_8, setB_9, setB_10, n10, irr, h1, h3, h5, h5', h6, h6', or_false, or_self]
          · simp only [x100_0, x100_1, x100_2, x100_5, x100_8, x100_9, x100_10, x100_13, x100_16, x100_17, x100_18, x100_21, x100_24, x100_25, x100_26, x100_29, x100_32, x100_33, x100_34, x100_37, x100_40, x100_41, x100_44, x100_45, x100_47, x100_48, x100_51, x100_53, x100_56, x100_57, x100_58, x100_61, x100_62, x100_63, x100_66, x100_67, x100_68, x100_71, evI_i, evJl_i, evJf_i, evJd_i, evA_r, evA_n, evA_q, evLk_c, evS1_d, evS2_d, evFl_n, evFl_c, evGl_n, evGl_c, evIn_n, evIn_c, evCat_i, evCat_l, evCat_f, evCat_d, evCat_r, evCat_z, evCat_q, evBd_some, evTl_s, evTl_n, va_rf_s, va_rf_n, and_true, true_and, and_false, false_and, if_true, if_false, not_true_eq_false, not_false_eq_true, reduceCtorEq, ↓reduceIte, Nat.reduceAdd, Nat.reduceEqDiff, Nat.reduceLT, Nat.reduceLeDiff, Nat.reduceSub, Nat.zero_ne_one, Nat.one_ne_zero, w0, w1, w2, w3, w4, w5, w6, w7, w8, w9, w10, w11, w12, w13, w14, w15, w16, w17, w18, w19, w20, w21, w22, w23, w24, evGM_get, evGM_set, evGM_get0, evGM_set0, setB_8, setB_9, setB_10, n10, irr, h1, h3, h4, h6, h6', or_false, or_self]
      · simp only [x100_0, x100_1, x100_2, x100_5, x100_8, x100_9, x100_10, x100_13, x100_16, x100_17, x100_18, x100_21, x100_24, x100_25, x100_26, x100_29, x100_32, x100_33, x100_34, x100_37, x100_40, x100_41, x100_44, x100_45, x100_47, x100_48, x100_51, x100_53, x100_56, x100_57, x100_58, x100_61, x100_62, x100_63, x100_66, x100_67, x100_68, x100_71, evI_i, evJl_i, evJf_i, evJd_i, evA_r, evA_n, evA_q, evLk_c, evS1_d, evS2_d, evFl_n, evFl_c, evGl_n, evGl_c, evIn_n, evIn_c, evCat_i, evCat_l, evCat_f, evCat_d, evCat_r, evCat_z, evCat_q, evBd_some, evTl_s, evTl_n, va_rf_s, va_rf_n, and_true, true_and, and_false, false_and, if_true, if_false, not_true_eq_false, not_false_eq_true, reduceCtorEq, ↓reduceIte, Nat.reduceAdd, Nat.reduceEqDiff, Nat.reduceLT, Nat.reduceLeDiff, Nat.reduceSub, Nat.zero_ne_one, Nat.one_ne_zero, w0, w1, w2, w3, w4, w5, w6, w7, w8, w9, w10, w11, w12, w13, w14, w15, w16, w17, w18, w19, w20, w21, w22, w23, w24, evGM_get, evGM_set, evGM_get0, evGM_set0, setB_8, setB_9, setB_10, n10, irr, h1, h2, h6, h6', or_false, or_self]
/-- the ages of one bidder -/
theorem c_ages (hu : mOK h c) {k lag : Nat} (hk : k < 6) (hl : lag ≤ 5) (t : evT) (b : Nat) : evX 101 100 [(0, .ref c), (1, .int (nI b)), (2, .int (nI k)), (3, .int (nI (lag + 1)))] [] h (evGM m c 9 (setB u t)) = evX 101 141 [(0, .ref c), (1, .int (nI b)), (2, .int (nI k)), (3, .int (nI 6))] [] h (evGM m c 9 (setB u (agesT (u 1) k lag t (5 - lag)))) := by
  obtain ⟨w0, w1, w2, w3, w4, w5, w6, w7, w8, w9, w10, w11, w12, w13, w14, w15, w16, w17, w18, w19, w20, w21, w22, w23, w24⟩ := id hu
  have loop := loop_up (G := fun i => evX 101 100 [(0, .ref c), (1, .int (nI b)), (2, .int (nI k)), (3, .int (nI (lag + 1 + i)))] [] h (evGM m c 9 (setB u (agesT (u 1) k lag t i)))) (n := 5 - lag) (fun i hi => by
    have e1 : ¬ (5 : Int32) < nI (lag + 1 + i) := nI_nlt (a := 5) (by omega) (by decide)
    have e2 : nI (lag + 1 + i) - 1 = nI (lag + i) := by
      rw [show lag + 1 + i = lag + i + 1 by omega, nI_succ]
      exact Int32.add_sub_cancel _ _
    have e3 : (138 : Int32) + 6 * nI (lag + i) + nI k = nI (138 + 6 * (lag + i) + k) := by
      show nI 138 + nI 6 * nI (lag + i) + nI k = _
      rw [pk_mul, nI_add2, nI_add2]
    have e4 : ¬ nI (138 + 6 * (lag + i) + k) < 0 := nI_pos (by omega)
    have e5 : (nI (138 + 6 * (lag + i) + k)).toNatClampNeg = 138 + 6 * (lag + i) + k := nI_cl _ (by omega)
    have e6 : 138 + 6 * (lag + i) + k < 328 := by omega
    have e7 : nI (lag + 1 + i) + 1 = nI (lag + 1 + (i + 1)) := (nI_succ _).symm
    show _ = evX 101 100 [(0, .ref c), (1, .int (nI b)), (2, .int (nI k)), (3, .int (nI (lag + 1 + (i + 1))))] [] h (evGM m c 9 (setB u (hearT (agesT (u 1) k lag t i) (u 1 (138 + 6 * (lag + i) + k)) (u 1 4 - nI (lag + 1 + i)) (nI k))))
    conv => lhs; rw [x101_100]
    simp only [x101_101, x101_102, x101_105, x101_106, x101_107, x101_110, x101_113, x101_115, x101_116, x101_117, x101_118, x101_119, x101_120, x101_121, x101_122, x101_123, x101_124, x101_127, x101_128, x101_129, x101_130, x101_131, x101_132, x101_135, x101_138, evI_i, evJl_i, evJf_i, evJd_i, evA_r, evA_n, evA_q, evLk_c, evS1_d, evS2_d, evFl_n, evFl_c, evGl_n, evGl_c, evIn_n, evIn_c, evCat_i, evCat_l, evCat_f, evCat_d, evCat_r, evCat_z, evCat_q, evBd_some, evTl_s, evTl_n, va_rf_s, va_rf_n, and_true, true_and, and_false, false_and, if_true, if_false, not_true_eq_false, not_false_eq_true, reduceCtorEq, ↓reduceIte, Nat.reduceAdd, Nat.reduceEqDiff, Nat.reduceLT, Nat.reduceLeDiff, Nat.reduceSub, Nat.zero_ne_one, Nat.one_ne_zero, w0, w1, w2, w3, w4, w5, w6, w7, w8, w9, w10, w11, w12, w13, w14, w15, w16, w17, w18, w19, w20, w21, w22, w23, w24, evGM_get, evGM_set, evGM_get0, evGM_set0, setB_1, lt4, lc4, e1, e2, e3, e4, e5, e6, e7, c_hears hu, Option.toList, List.nil_append])
  have e : lag + 1 + (5 - lag) = 6 := by omega
  refine Eq.trans loop ?_
  show evX 101 100 [(0, .ref c), (1, .int (nI b)), (2, .int (nI k)), (3, .int (nI (lag + 1 + (5 - lag))))] [] h (evGM m c 9 (setB u (agesT (u 1) k lag t (5 - lag)))) = _
  rw [e]
  have h6 : (5 : Int32) < nI 6 := by decide
  simp only [x101_100, x101_101, x101_102, evI_i, evJl_i, evJf_i, evJd_i, evA_r, evA_n, evA_q, evLk_c, evS1_d, evS2_d, evFl_n, evFl_c, evGl_n, evGl_c, evIn_n, evIn_c, evCat_i, evCat_l, evCat_f, evCat_d, evCat_r, evCat_z, evCat_q, evBd_some, evTl_s, evTl_n, va_rf_s, va_rf_n, and_true, true_and, and_false, false_and, if_true, if_false, not_true_eq_false, not_false_eq_true, reduceCtorEq, ↓reduceIte, Nat.reduceAdd, Nat.reduceEqDiff, Nat.reduceLT, Nat.reduceLeDiff, Nat.reduceSub, Nat.zero_ne_one, Nat.one_ne_zero, h6]
end MO
