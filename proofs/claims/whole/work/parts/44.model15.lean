/-! the model: what there is, another lag -/
theorem w_ne7 : ¬ (9 : Int32) = 7 := by decide
section MO
variable {h : evH} {m : evM} {c : Nat} {u : Nat → Nat → Int32}
theorem c_belief (hu : mOK h c) {n lag b : Nat} (hn : n ≤ 6) (hb : b < n) (hl : lag ≤ 5) (h5 : u 1 5 = nI n) (h0 : u 1 0 = nI lag) (w : Int32) : evX 127 0 [(0, .ref c), (1, .int (nI b)), (2, .int w)] [] h (evGM m c 9 u) = some (some (.int (if u 1 7 = -6 then (if w = 7 then 0 else -6) else if w = 7 then (allT (u 1) lag b n).1 else (allT (u 1) lag b n).2.2)), h, evGM m c 9 (if u 1 7 = -6 then u else setB u (allT (u 1) lag b n))) := by
  obtain ⟨w0, w1, w2, w3, w4, w5, w6, w7, w8, w9, w10, w11, w12, w13, w14, w15, w16, w17, w18, w19, w20, w21, w22, w23, w24⟩ := id hu
  have B := c_believes (m := m) (u := u) hu hn hb hl h5 h0
  by_cases h7 : u 1 7 = -6
  · by_cases hw : w = 7
    · simp only [x127_0, x127_1, x127_4, x127_6, x127_7, x127_9, x127_12, x127_13, x127_15, x127_18, x127_19, x127_22, x127_24, x127_25, x127_26, x127_27, x127_30, x127_31, x127_33, x127_36, x127_37, x127_40, x127_43, x127_44, x127_47, evI_i, evJl_i, evJf_i, evJd_i, evA_r, evA_n, evA_q, evLk_c, evS1_d, evS2_d, evFl_n, evFl_c, evGl_n, evGl_c, evIn_n, evIn_c, evCat_i, evCat_l, evCat_f, evCat_d, evCat_r, evCat_z, evCat_q, evBd_some, evTl_s, evTl_n, va_rf_s, va_rf_n, and_true, true_and, and_false, false_and, if_true, if_false, not_true_eq_false, not_false_eq_true, reduceCtorEq, ↓reduceIte, Nat.reduceAdd, Nat.reduceEqDiff, Nat.reduceLT, Nat.reduceLeDiff, Nat.reduceSub, Nat.zero_ne_one, Nat.one_ne_zero, w0, w1, w2, w3, w4, w5, w6, w7, w8, w9, w10, w11, w12, w13, w14, w15, w16, w17, w18, w19, w20, w21, w22, w23, w24, evGM_get, evGM_set, evGM_get0, evGM_set0, lt7, lc7, h7, hw]
    · simp only [x127_0, x127_1, x127_4, x127_6, x127_7, x127_9, x127_12, x127_13, x127_15, x127_18, x127_19, x127_22, x127_24, x127_25, x127_26, x127_27, x127_30, x127_31, x127_33, x127_36, x127_37, x127_40, x127_43, x127_44, x127_47, evI_i, evJl_i, evJf_i, evJd_i, evA_r, evA_n, evA_q, evLk_c, evS1_d, evS2_d, evFl_n, evFl_c, evGl_n, evGl_c, evIn_n, evIn_c, evCat_i, evCat_l, evCat_f, evCat_d, evCat_r, evCat_z, evCat_q, evBd_some, evTl_s, evTl_n, va_rf_s, va_rf_n, and_true, true_and, and_false, false_and, if_true, if_false, not_true_eq_false, not_false_eq_true, reduceCtorEq, ↓reduceIte, Nat.reduceAdd, Nat.reduceEqDiff, Nat.reduceLT, Nat.reduceLeDiff, Nat.reduceSub, Nat.zero_ne_one, Nat.one_ne_zero, w0, w1, w2, w3, w4, w5, w6, w7, w8, w9, w10, w11, w12, w13, w14, w15, w16, w17, w18, w19, w20, w21, w22, w23, w24, evGM_get, evGM_set, evGM_get0, evGM_set0, lt7, lc7, h7, hw]
  · by_cases hw : w = 7
    · simp only [x127_0, x127_1, x127_4, x127_6, x127_7, x127_9, x127_12, x127_13, x127_15, x127_18, x127_19, x127_22, x127_24, x127_25, x127_26, x127_27, x127_30, x127_31, x127_33, x127_36, x127_37, x127_40, x127_43, x127_44, x127_47, evI_i, evJl_i, evJf_i, evJd_i, evA_r, evA_n, evA_q, evLk_c, evS1_d, evS2_d, evFl_n, evFl_c, evGl_n, evGl_c, evIn_n, evIn_c, evCat_i, evCat_l, evCat_f, evCat_d, evCat_r, evCat_z, evCat_q, evBd_some, evTl_s, evTl_n, va_rf_s, va_rf_n, and_true, true_and, and_false, false_and, if_true, if_false, not_true_eq_false, not_false_eq_true, reduceCtorEq, ↓reduceIte, Nat.reduceAdd, Nat.reduceEqDiff, Nat.reduceLT, Nat.reduceLeDiff, Nat.reduceSub, Nat.zero_ne_one, Nat.one_ne_zero, w0, w1, w2, w3, w4, w5, w6, w7, w8, w9, w10, w11, w12, w13, w14, w15, w16, w17, w18, w19, w20, w21, w22, w23, w24, evGM_get, evGM_set, evGM_get0, evGM_set0, lt7, lc7, h7, hw, B, setB_8, setB_10, Option.toList, List.cons_append, List.nil_append]
    · simp only [x127_0, x127_1, x127_4, x127_6, x127_7, x127_9, x127_12, x127_13, x127_15, x127_18, x127_19, x127_22, x127_24, x127_25, x127_26, x127_27, x127_30, x127_31, x127_33, x127_36, x127_37, x127_40, x127_43, x127_44, x127_47, evI_i, evJl_i, evJf_i, evJd_i, evA_r, evA_n, evA_q, evLk_c, evS1_d, evS2_d, evFl_n, evFl_c, evGl_n, evGl_c, evIn_n, evIn_c, evCat_i, evCat_l, evCat_f, evCat_d, evCat_r, evCat_z, evCat_q, evBd_some, evTl_s, evTl_n, va_rf_s, va_rf_n, and_true, true_and, and_false, false_and, if_true, if_false, not_true_eq_false, not_false_eq_true, reduceCtorEq, ↓reduceIte, Nat.reduceAdd, Nat.reduceEqDiff, Nat.reduceLT, Nat.reduceLeDiff, Nat.reduceSub, Nat.zero_ne_one, Nat.one_ne_zero, w0, w1, w2, w3, w4, w5, w6, w7, w8, w9, w10, w11, w12, w13, w14, w15, w16, w17, w18, w19, w20, w21, w22, w23, w24, evGM_get, evGM_set, evGM_get0, evGM_set0, lt7, lc7, h7, hw, B, setB_8, setB_10, Option.toList, List.cons_append, List.nil_append]
def mofV (u : Nat → Nat → Int32) (lag n k : Nat) (w : Int32) : Int32 := if wiB w 0 6 = true then u 1 (10 + 8 * k + w.toNatClampNeg) else if w = 9 then u 1 (10 + 8 * k + 7) else if wiB w 7 8 = true then (if u 1 7 = -6 then (if w = 7 then 0 else -6) else if w = 7 then (allT (u 1) lag k n).1 else (allT (u 1) lag k n).2.2) else -2
def mofU (u : Nat → Nat → Int32) (lag n k : Nat) (w : Int32) : Nat → Nat → Int32 := if wiB w 7 8 = true ∧ ¬ u 1 7 = -6 then setB u (allT (u 1) lag k n) else u
theorem wi06 {w : Int32} (h : wiB w 0 6 = true) : ¬ w < 0 ∧ w.toNatClampNeg < 7 ∧ ¬ wiB w 7 8 = true := by
  obtain ⟨k, hk, rfl⟩ := wiB_nI (n := 7) (by decide) (by rw [show nI 7 - 1 = (6 : Int32) by decide]; exact h)
  refine ⟨nI_pos (by omega), by rw [nI_cl k (by omega)]; exact hk, ?_⟩
  intro q
  unfold wiB at q
  simp only [Bool.and_eq_true, decide_eq_true_eq] at q
  exact i32_ff q.1 (show nI k < nI 7 from (nI_ltI (by omega) (by omega)).mpr hk)
theorem c_mof (hu : mOK h c) {n lag : Nat} (hn : n ≤ 6) (hl : lag ≤ 5) (h5 : u 1 5 = nI n) (h0 : u 1 0 = nI lag) (b w : Int32) : evX 128 0 [(0, .ref c), (1, .int b), (2, .int w)] [] h (evGM m c 9 u) = some (some (.int (if wiB b 0 (nI n - 1) = true then mofV u lag n b.toNatClampNeg w else -1)), h, evGM m c 9 (if wiB b 0 (nI n - 1) = true then mofU u lag n b.toNatClampNeg w else u)) := by
  obtain ⟨w0, w1, w2, w3, w4, w5, w6, w7, w8, w9, w10, w11, w12, w13, w14, w15, w16, w17, w18, w19, w20, w21, w22, w23, w24⟩ := id hu
  have I := c_isBidder (m := m) (u := u) hu b
  rw [h5] at I
  have e1 : ¬ evBl true = 0 := by decide
  by_cases hb : wiB b 0 (nI n - 1) = true
  · rw [hb] at I
    rw [if_pos hb, if_pos hb]
    obtain ⟨k, hk, rfl⟩ := wiB_nI (by omega) hb
    have b0 : ¬ nI k < 0 := nI_pos (by omega)
    have b1 : (nI k).toNatClampNeg = k := nI_cl k (by omega)
    have hk6 : k < 6 := by omega
    rw [b1]
    unfold mofV mofU
    by_cases h6 : wiB w 0 6 = true
    · obtain ⟨x1, x2, x3⟩ := wi06 h6
      have x4 : w.toNatClampNeg < 8 := by omega
      rw [if_pos h6, if_neg (fun z => x3 z.1)]
      simp only [x128_0, x128_1, x128_2, x128_5, x128_8, x128_9, x128_10, x128_11, x128_12, x128_14, x128_17, x128_20, x128_21, x128_22, x128_23, x128_26, x128_27, x128_28, x128_30, x128_33, x128_34, x128_35, x128_37, x128_40, x128_43, x128_44, x128_46, x128_48, x128_51, x128_54, x128_55, x128_56, x128_57, x128_60, x128_63, x128_65, evI_i, evJl_i, evJf_i, evJd_i, evA_r, evA_n, evA_q, evLk_c, evS1_d, evS2_d, evFl_n, evFl_c, evGl_n, evGl_c, evIn_n, evIn_c, evCat_i, evCat_l, evCat_f, evCat_d, evCat_r, evCat_z, evCat_q, evBd_some, evTl_s, evTl_n, va_rf_s, va_rf_n, and_true, true_and, and_false, false_and, if_true, if_false, not_true_eq_false, not_false_eq_true, reduceCtorEq, ↓reduceIte, Nat.reduceAdd, Nat.reduceEqDiff, Nat.reduceLT, Nat.reduceLeDiff, Nat.reduceSub, Nat.zero_ne_one, Nat.one_ne_zero, w0, I, c_within, h6, e1, c_bidderPart hu, b0, b1, hk6, x1, x4, Option.toList, List.cons_append, List.nil_append]
    · have f6 := b_ne h6
      rw [if_neg h6]
      by_cases h9 : w = 9
      · subst h9
        have f9 : wiB 9 0 6 = false := by decide
        rw [if_pos rfl, if_neg (fun z => absurd z.1 (by decide))]
        simp only [x128_0, x128_1, x128_2, x128_5, x128_8, x128_9, x128_10, x128_11, x128_12, x128_14, x128_17, x128_20, x128_21, x128_22, x128_23, x128_26, x128_27, x128_28, x128_30, x128_33, x128_34, x128_35, x128_37, x128_40, x128_43, x128_44, x128_46, x128_48, x128_51, x128_54, x128_55, x128_56, x128_57, x128_60, x128_63, x128_65, evI_i, evJl_i, evJf_i, evJd_i, evA_r, evA_n, evA_q, evLk_c, evS1_d, evS2_d, evFl_n, evFl_c, evGl_n, evGl_c, evIn_n, evIn_c, evCat_i, evCat_l, evCat_f, evCat_d, evCat_r, evCat_z, evCat_q, evBd_some, evTl_s, evTl_n, va_rf_s, va_rf_n, and_true, true_and, and_false, false_and, if_true, if_false, not_true_eq_false, not_false_eq_true, reduceCtorEq, ↓reduceIte, Nat.reduceAdd, Nat.reduceEqDiff, Nat.reduceLT, Nat.reduceLeDiff, Nat.reduceSub, Nat.zero_ne_one, Nat.one_ne_zero, w0, I, c_within, f9, e1, evBl_f, c_bidderPart hu, b0, b1, hk6, lt7, lc7, Option.toList, List.cons_append, List.nil_append]
      · rw [if_neg h9]
        by_cases h7 : wiB w 7 8 = true
        · have B := c_belief (m := m) (u := u) hu hn hk hl h5 h0 w
          have e : (if wiB w 7 8 = true ∧ ¬ u 1 7 = -6 then setB u (allT (u 1) lag k n) else u) = (if u 1 7 = -6 then u else setB u (allT (u 1) lag k n)) := by
            by_cases hq : u 1 7 = -6
            · rw [if_neg (fun z => z.2 hq), if_pos hq]
            · rw [if_pos ⟨h7, hq⟩, if_neg hq]
          rw [if_pos h7, e]
          simp only [x128_0, x128_1, x128_2, x128_5, x128_8, x128_9, x128_10, x128_11, x128_12, x128_14, x128_17, x128_20, x128_21, x128_22, x128_23, x128_26, x128_27, x128_28, x128_30, x128_33, x128_34, x128_35, x128_37, x128_40, x128_43, x128_44, x128_46, x128_48, x128_51, x128_54, x128_55, x128_56, x128_57, x128_60, x128_63, x128_65, evI_i, evJl_i, evJf_i, evJd_i, evA_r, evA_n, evA_q, evLk_c, evS1_d, evS2_d, evFl_n, evFl_c, evGl_n, evGl_c, evIn_n, evIn_c, evCat_i, evCat_l, evCat_f, evCat_d, evCat_r, evCat_z, evCat_q, evBd_some, evTl_s, evTl_n, va_rf_s, va_rf_n, and_true, true_and, and_false, false_and, if_true, if_false, not_true_eq_false, not_false_eq_true, reduceCtorEq, ↓reduceIte, Nat.reduceAdd, Nat.reduceEqDiff, Nat.reduceLT, Nat.reduceLeDiff, Nat.reduceSub, Nat.zero_ne_one, Nat.one_ne_zero, w0, I, c_within, f6, h9, h7, e1, evBl_f, B, Option.toList, List.cons_append, List.nil_append]
        · have f7 := b_ne h7
          rw [if_neg h7, if_neg (fun z => h7 z.1)]
          simp only [x128_0, x128_1, x128_2, x128_5, x128_8, x128_9, x128_10, x128_11, x128_12, x128_14, x128_17, x128_20, x128_21, x128_22, x128_23, x128_26, x128_27, x128_28, x128_30, x128_33, x128_34, x128_35, x128_37, x128_40, x128_43, x128_44, x128_46, x128_48, x128_51, x128_54, x128_55, x128_56, x128_57, x128_60, x128_63, x128_65, evI_i, evJl_i, evJf_i, evJd_i, evA_r, evA_n, evA_q, evLk_c, evS1_d, evS2_d, evFl_n, evFl_c, evGl_n, evGl_c, evIn_n, evIn_c, evCat_i, evCat_l, evCat_f, evCat_d, evCat_r, evCat_z, evCat_q, evBd_some, evTl_s, evTl_n, va_rf_s, va_rf_n, and_true, true_and, and_false, false_and, if_true, if_false, not_true_eq_false, not_false_eq_true, reduceCtorEq, ↓reduceIte, Nat.reduceAdd, Nat.reduceEqDiff, Nat.reduceLT, Nat.reduceLeDiff, Nat.reduceSub, Nat.zero_ne_one, Nat.one_ne_zero, w0, I, c_within, f6, h9, f7, e1, evBl_f, Option.toList, List.cons_append, List.nil_append]
  · have hf := b_ne hb
    rw [hf] at I ⊢
    simp only [x128_0, x128_1, x128_2, x128_5, x128_8, x128_9, x128_10, x128_11, x128_12, x128_14, x128_17, x128_20, x128_21, x128_22, x128_23, x128_26, x128_27, x128_28, x128_30, x128_33, x128_34, x128_35, x128_37, x128_40, x128_43, x128_44, x128_46, x128_48, x128_51, x128_54, x128_55, x128_56, x128_57, x128_60, x128_63, x128_65, evI_i, evJl_i, evJf_i, evJd_i, evA_r, evA_n, evA_q, evLk_c, evS1_d, evS2_d, evFl_n, evFl_c, evGl_n, evGl_c, evIn_n, evIn_c, evCat_i, evCat_l, evCat_f, evCat_d, evCat_r, evCat_z, evCat_q, evBd_some, evTl_s, evTl_n, va_rf_s, va_rf_n, and_true, true_and, and_false, false_and, if_true, if_false, not_true_eq_false, not_false_eq_true, reduceCtorEq, ↓reduceIte, Nat.reduceAdd, Nat.reduceEqDiff, Nat.reduceLT, Nat.reduceLeDiff, Nat.reduceSub, Nat.zero_ne_one, Nat.one_ne_zero, w0, I, evBl_f, Bool.false_eq_true, Option.toList, List.cons_append, List.nil_append]
theorem c_mofLot (hu : mOK h c) {q : Nat} (hq : q ≤ 8) (h6 : u 1 6 = nI q) (b w : Int32) : evX 129 0 [(0, .ref c), (1, .int b), (2, .int w)] [] h (evGM m c 9 u) = some (some (.int (if wiB b 0 (nI q - 1) = true then (if wiB w 0 6 = true then u 1 (58 + 7 * b.toNatClampNeg + w.toNatClampNeg) else -2) else -1)), h, evGM m c 9 u) := by
  obtain ⟨w0, w1, w2, w3, w4, w5, w6, w7, w8, w9, w10, w11, w12, w13, w14, w15, w16, w17, w18, w19, w20, w21, w22, w23, w24⟩ := id hu
  have I := c_isLot (m := m) (u := u) hu b
  rw [h6] at I
  have e1 : ¬ evBl true = 0 := by decide
  by_cases hb : wiB b 0 (nI q - 1) = true
  · rw [hb] at I
    rw [if_pos hb]
    obtain ⟨k, hk, rfl⟩ := wiB_nI (by omega) hb
    have b0 : ¬ nI k < 0 := nI_pos (by omega)
    have b1 : (nI k).toNatClampNeg = k := nI_cl k (by omega)
    have hk8 : k < 8 := by omega
    by_cases h6 : wiB w 0 6 = true
    · obtain ⟨x1, x2, x3⟩ := wi06 h6
      simp only [x129_0, x129_1, x129_2, x129_5, x129_8, x129_9, x129_10, x129_11, x129_12, x129_14, x129_17, x129_20, x129_21, x129_22, x129_23, x129_26, x129_29, x129_31, evI_i, evJl_i, evJf_i, evJd_i, evA_r, evA_n, evA_q, evLk_c, evS1_d, evS2_d, evFl_n, evFl_c, evGl_n, evGl_c, evIn_n, evIn_c, evCat_i, evCat_l, evCat_f, evCat_d, evCat_r, evCat_z, evCat_q, evBd_some, evTl_s, evTl_n, va_rf_s, va_rf_n, and_true, true_and, and_false, false_and, if_true, if_false, not_true_eq_false, not_false_eq_true, reduceCtorEq, ↓reduceIte, Nat.reduceAdd, Nat.reduceEqDiff, Nat.reduceLT, Nat.reduceLeDiff, Nat.reduceSub, Nat.zero_ne_one, Nat.one_ne_zero, w0, I, c_within, h6, e1, c_lotPart hu, b0, b1, hk8, x1, x2, Option.toList, List.cons_append, List.nil_append]
    · have f6 := b_ne h6
      simp only [x129_0, x129_1, x129_2, x129_5, x129_8, x129_9, x129_10, x129_11, x129_12, x129_14, x129_17, x129_20, x129_21, x129_22, x129_23, x129_26, x129_29, x129_31, evI_i, evJl_i, evJf_i, evJd_i, evA_r, evA_n, evA_q, evLk_c, evS1_d, evS2_d, evFl_n, evFl_c, evGl_n, evGl_c, evIn_n, evIn_c, evCat_i, evCat_l, evCat_f, evCat_d, evCat_r, evCat_z, evCat_q, evBd_some, evTl_s, evTl_n, va_rf_s, va_rf_n, and_true, true_and, and_false, false_and, if_true, if_false, not_true_eq_false, not_false_eq_true, reduceCtorEq, ↓reduceIte, Nat.reduceAdd, Nat.reduceEqDiff, Nat.reduceLT, Nat.reduceLeDiff, Nat.reduceSub, Nat.zero_ne_one, Nat.one_ne_zero, w0, I, c_within, f6, e1, evBl_f, Bool.false_eq_true, Option.toList, List.cons_append, List.nil_append]
  · have hf := b_ne hb
    rw [hf] at I ⊢
    simp only [x129_0, x129_1, x129_2, x129_5, x129_8, x129_9, x129_10, x129_11, x129_12, x129_14, x129_17, x129_20, x129_21, x129_22, x129_23, x129_26, x129_29, x129_31, evI_i, evJl_i, evJf_i, evJd_i, evA_r, evA_n, evA_q, evLk_c, evS1_d, evS2_d, evFl_n, evFl_c, evGl_n, evGl_c, evIn_n, evIn_c, evCat_i, evCat_l, evCat_f, evCat_d, evCat_r, evCat_z, evCat_q, evBd_some, evTl_s, evTl_n, va_rf_s, va_rf_n, and_true, true_and, and_false, false_and, if_true, if_false, not_true_eq_false, not_false_eq_true, reduceCtorEq, ↓reduceIte, Nat.reduceAdd, Nat.reduceEqDiff, Nat.reduceLT, Nat.reduceLeDiff, Nat.reduceSub, Nat.zero_ne_one, Nat.one_ne_zero, w0, I, evBl_f, Bool.false_eq_true, Option.toList, List.cons_append, List.nil_append]
theorem c_mmade (hu : mOK h c) {t : Nat} (ht : t ≤ 40) (h9 : u 1 9 = nI t) (a w : Int32) : evX 130 0 [(0, .ref c), (1, .int a), (2, .int w)] [] h (evGM m c 9 u) = some (some (.int (if wiB a 0 (nI t - 1) = true then (if wiB w 0 3 = true then u 1 (168 + 4 * a.toNatClampNeg + w.toNatClampNeg) else -2) else -1)), h, evGM m c 9 u) := by
  obtain ⟨w0, w1, w2, w3, w4, w5, w6, w7, w8, w9, w10, w11, w12, w13, w14, w15, w16, w17, w18, w19, w20, w21, w22, w23, w24⟩ := id hu
  have e1 : ¬ evBl true = 0 := by decide
  by_cases hb : wiB a 0 (nI t - 1) = true
  · rw [if_pos hb]
    have hb' := hb
    obtain ⟨k, hk, rfl⟩ := wiB_nI (by omega) hb
    by_cases h3 : wiB w 0 3 = true
    · obtain ⟨j, hj, rfl⟩ := wiB_nI (n := 4) (by decide) (by rw [show nI 4 - 1 = (3 : Int32) by decide]; exact h3)
      have b1 : (nI k).toNatClampNeg = k := nI_cl k (by omega)
      have j1 : (nI j).toNatClampNeg = j := nI_cl j (by omega)
      have i1 : (168 : Int32) + 4 * nI k + nI j = nI (168 + 4 * k + j) := by
        show nI 168 + nI 4 * nI k + nI j = _
        rw [pk_mul, nI_add2, nI_add2]
      have i2 : ¬ nI (168 + 4 * k + j) < 0 := nI_pos (by omega)
      have i3 : (nI (168 + 4 * k + j)).toNatClampNeg = 168 + 4 * k + j := nI_cl _ (by omega)
      have i4 : 168 + 4 * k + j < 328 := by omega
      simp only [x130_0, x130_1, x130_2, x130_3, x130_6, x130_8, x130_9, x130_10, x130_11, x130_14, x130_17, x130_18, x130_19, x130_20, x130_21, x130_22, x130_25, x130_28, x130_29, x130_32, x130_35, x130_36, x130_37, x130_38, x130_39, x130_40, x130_41, x130_42, x130_45, x130_47, evI_i, evJl_i, evJf_i, evJd_i, evA_r, evA_n, evA_q, evLk_c, evS1_d, evS2_d, evFl_n, evFl_c, evGl_n, evGl_c, evIn_n, evIn_c, evCat_i, evCat_l, evCat_f, evCat_d, evCat_r, evCat_z, evCat_q, evBd_some, evTl_s, evTl_n, va_rf_s, va_rf_n, and_true, true_and, and_false, false_and, if_true, if_false, not_true_eq_false, not_false_eq_true, reduceCtorEq, ↓reduceIte, Nat.reduceAdd, Nat.reduceEqDiff, Nat.reduceLT, Nat.reduceLeDiff, Nat.reduceSub, Nat.zero_ne_one, Nat.one_ne_zero, w0, w1, w2, w3, w4, w5, w6, w7, w8, w9, w10, w11, w12, w13, w14, w15, w16, w17, w18, w19, w20, w21, w22, w23, w24, evGM_get, evGM_set, evGM_get0, evGM_set0, lt9, lc9, h9, c_within, hb', h3, e1, b1, j1, i1, i2, i3, i4, Option.toList, List.cons_append, List.nil_append]
    · have f3 := b_ne h3
      simp only [x130_0, x130_1, x130_2, x130_3, x130_6, x130_8, x130_9, x130_10, x130_11, x130_14, x130_17, x130_18, x130_19, x130_20, x130_21, x130_22, x130_25, x130_28, x130_29, x130_32, x130_35, x130_36, x130_37, x130_38, x130_39, x130_40, x130_41, x130_42, x130_45, x130_47, evI_i, evJl_i, evJf_i, evJd_i, evA_r, evA_n, evA_q, evLk_c, evS1_d, evS2_d, evFl_n, evFl_c, evGl_n, evGl_c, evIn_n, evIn_c, evCat_i, evCat_l, evCat_f, evCat_d, evCat_r, evCat_z, evCat_q, evBd_some, evTl_s, evTl_n, va_rf_s, va_rf_n, and_true, true_and, and_false, false_and, if_true, if_false, not_true_eq_false, not_false_eq_true, reduceCtorEq, ↓reduceIte, Nat.reduceAdd, Nat.reduceEqDiff, Nat.reduceLT, Nat.reduceLeDiff, Nat.reduceSub, Nat.zero_ne_one, Nat.one_ne_zero, w0, w1, w2, w3, w4, w5, w6, w7, w8, w9, w10, w11, w12, w13, w14, w15, w16, w17, w18, w19, w20, w21, w22, w23, w24, evGM_get, evGM_set, evGM_get0, evGM_set0, lt9, lc9, h9, c_within, hb', f3, e1, evBl_f, Bool.false_eq_true, Option.toList, List.cons_append, List.nil_append]
  · have hf := b_ne hb
    simp only [x130_0, x130_1, x130_2, x130_3, x130_6, x130_8, x130_9, x130_10, x130_11, x130_14, x130_17, x130_18, x130_19, x130_20, x130_21, x130_22, x130_25, x130_28, x130_29, x130_32, x130_35, x130_36, x130_37, x130_38, x130_39, x130_40, x130_41, x130_42, x130_45, x130_47, evI_i, evJl_i, evJf_i, evJd_i, evA_r, evA_n, evA_q, evLk_c, evS1_d, evS2_d, evFl_n, evFl_c, evGl_n, evGl_c, evIn_n, evIn_c, evCat_i, evCat_l, evCat_f, evCat_d, evCat_r, evCat_z, evCat_q, evBd_some, evTl_s, evTl_n, va_rf_s, va_rf_n, and_true, true_and, and_false, false_and, if_true, if_false, not_true_eq_false, not_false_eq_true, reduceCtorEq, ↓reduceIte, Nat.reduceAdd, Nat.reduceEqDiff, Nat.reduceLT, Nat.reduceLeDiff, Nat.reduceSub, Nat.zero_ne_one, Nat.one_ne_zero, w0, w1, w2, w3, w4, w5, w6, w7, w8, w9, w10, w11, w12, w13, w14, w15, w16, w17, w18, w19, w20, w21, w22, w23, w24, evGM_get, evGM_set, evGM_get0, evGM_set0, lt9, lc9, h9, c_within, hf, evBl_f, Bool.false_eq_true, Option.toList, List.cons_append, List.nil_append]
end MO
