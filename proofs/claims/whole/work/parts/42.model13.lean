/-! the model: the changes that are called -/
theorem n4z : (-4 : Int32) < 0 := by decide
theorem n2z : (-2 : Int32) < 0 := by decide
theorem n1z : (-1 : Int32) < 0 := by decide
theorem n5z : (-5 : Int32) < 0 := by decide
theorem nI_6 {n : Nat} (hn : n ≤ 6) (h : ¬ nI n = 6) : n < 6 := by
  rcases Nat.lt_or_ge n 6 with q | q
  · exact q
  · exact absurd (by rw [show n = 6 by omega]; rfl) h
theorem nI_8 {n : Nat} (hn : n ≤ 8) (h : ¬ nI n = 8) : n < 8 := by
  rcases Nat.lt_or_ge n 8 with q | q
  · exact q
  · exact absurd (by rw [show n = 8 by omega]; rfl) h
/-- a number from 0 to n - 1 -/
theorem wiB_nI {b : Int32} {n : Nat} (hn : n ≤ 1000) (h : wiB b 0 (nI n - 1) = true) : ∃ k, k < n ∧ b = nI k := by
  unfold wiB at h
  simp only [Bool.and_eq_true, decide_eq_true_eq] at h
  obtain ⟨k, hk, rfl⟩ := nI_of (Int32.not_lt.mpr h.1)
  cases n with
  | zero =>
    exfalso
    have := Int32.le_trans h.1 h.2
    exact absurd this (by decide)
  | succ n =>
    have e : nI (n + 1) - 1 = nI n := by rw [nI_succ]; exact Int32.add_sub_cancel _ _
    rw [e] at h
    refine ⟨k, ?_, rfl⟩
    have : ¬ nI n < nI k := Int32.not_lt.mpr h.2
    rcases Nat.lt_or_ge n k with q | q
    · exact absurd ((nI_ltI (by omega) hk).mpr q) this
    · omega
section MO
variable {h : evH} {m : evM} {c : Nat} {u : Nat → Nat → Int32}
theorem c_mbidder (hu : mOK h c) {r n : Nat} (hr : r ≤ 6) (h3 : u 0 3 = nI r) (hn : n ≤ 6) (h5 : u 1 5 = nI n) (x y : Int32) : evX 118 0 [(0, .ref c), (1, .int x), (2, .int y)] [] h (evGM m c 9 u) = some (some (.int (if whyB u x y = 0 then nI n else whyB u x y)), h, evGM m c 9 (if whyB u x y = 0 then cmU (rcU u r) n x y else u)) := by
  obtain ⟨w0, w1, w2, w3, w4, w5, w6, w7, w8, w9, w10, w11, w12, w13, w14, w15, w16, w17, w18, w19, w20, w21, w22, w23, w24⟩ := id hu
  have R := c_record (m := m) (u := u) hu hr h3
  have W := c_whyB (m := m) (u := u) hu x y
  by_cases hw : whyB u x y = 0
  · have hn6 : n < 6 := by
      apply nI_6 hn
      intro q
      unfold whyB at hw
      split at hw
      · rw [h5, if_pos q] at hw; exact absurd hw (by decide)
      · exact absurd hw (by decide)
    have C := c_comes (m := m) (u := rcU u r) hu hn6 (by rw [rcU_1]; exact h5) x y
    have e : (0 : Int32) ≤ 0 := Int32.le_refl _
    rw [hw] at W
    simp only [x118_0, x118_1, x118_2, x118_3, x118_6, x118_7, x118_8, x118_11, x118_12, x118_13, x118_14, x118_17, x118_18, x118_19, x118_20, x118_23, evI_i, evJl_i, evJf_i, evJd_i, evA_r, evA_n, evA_q, evLk_c, evS1_d, evS2_d, evFl_n, evFl_c, evGl_n, evGl_c, evIn_n, evIn_c, evCat_i, evCat_l, evCat_f, evCat_d, evCat_r, evCat_z, evCat_q, evBd_some, evTl_s, evTl_n, va_rf_s, va_rf_n, and_true, true_and, and_false, false_and, if_true, if_false, not_true_eq_false, not_false_eq_true, reduceCtorEq, ↓reduceIte, Nat.reduceAdd, Nat.reduceEqDiff, Nat.reduceLT, Nat.reduceLeDiff, Nat.reduceSub, Nat.zero_ne_one, Nat.one_ne_zero, w0, W, R, C, hw, e, Option.toList, List.cons_append, List.nil_append]
  · have hneg : ¬ 0 ≤ whyB u x y := by
      unfold whyB at hw ⊢
      split
      · rename_i hc
        rw [if_pos hc] at hw
        split
        · decide
        · rename_i hq
          rw [if_neg hq] at hw
          exact absurd rfl hw
      · decide
    rw [if_neg hw, if_neg hw]
    simp only [x118_0, x118_1, x118_2, x118_3, x118_6, x118_7, x118_8, x118_11, x118_12, x118_13, x118_14, x118_17, x118_18, x118_19, x118_20, x118_23, evI_i, evJl_i, evJf_i, evJd_i, evA_r, evA_n, evA_q, evLk_c, evS1_d, evS2_d, evFl_n, evFl_c, evGl_n, evGl_c, evIn_n, evIn_c, evCat_i, evCat_l, evCat_f, evCat_d, evCat_r, evCat_z, evCat_q, evBd_some, evTl_s, evTl_n, va_rf_s, va_rf_n, and_true, true_and, and_false, false_and, if_true, if_false, not_true_eq_false, not_false_eq_true, reduceCtorEq, ↓reduceIte, Nat.reduceAdd, Nat.reduceEqDiff, Nat.reduceLT, Nat.reduceLeDiff, Nat.reduceSub, Nat.zero_ne_one, Nat.one_ne_zero, w0, W, hneg, Option.toList, List.cons_append, List.nil_append]
theorem c_mlot (hu : mOK h c) {r q : Nat} (hr : r ≤ 6) (h3 : u 0 3 = nI r) (hq : q ≤ 8) (h6 : u 1 6 = nI q) (x : Int32) : evX 122 0 [(0, .ref c), (1, .int x)] [] h (evGM m c 9 u) = some (some (.int (if whyL u x = 0 then nI q else whyL u x)), h, evGM m c 9 (if whyL u x = 0 then ltU (rcU u r) q x else u)) := by
  obtain ⟨w0, w1, w2, w3, w4, w5, w6, w7, w8, w9, w10, w11, w12, w13, w14, w15, w16, w17, w18, w19, w20, w21, w22, w23, w24⟩ := id hu
  have R := c_record (m := m) (u := u) hu hr h3
  have W := c_whyL (m := m) (u := u) hu x
  by_cases hw : whyL u x = 0
  · have hn6 : q < 8 := by
      apply nI_8 hq
      intro q
      unfold whyL at hw
      split at hw
      · rw [h6, if_pos q] at hw; exact absurd hw (by decide)
      · exact absurd hw (by decide)
    have C := c_lotComes (m := m) (u := rcU u r) hu hn6 (by rw [rcU_1]; exact h6) x
    have e : (0 : Int32) ≤ 0 := Int32.le_refl _
    rw [hw] at W
    simp only [x122_0, x122_1, x122_2, x122_5, x122_6, x122_7, x122_10, x122_11, x122_12, x122_13, x122_16, x122_17, x122_18, x122_21, evI_i, evJl_i, evJf_i, evJd_i, evA_r, evA_n, evA_q, evLk_c, evS1_d, evS2_d, evFl_n, evFl_c, evGl_n, evGl_c, evIn_n, evIn_c, evCat_i, evCat_l, evCat_f, evCat_d, evCat_r, evCat_z, evCat_q, evBd_some, evTl_s, evTl_n, va_rf_s, va_rf_n, and_true, true_and, and_false, false_and, if_true, if_false, not_true_eq_false, not_false_eq_true, reduceCtorEq, ↓reduceIte, Nat.reduceAdd, Nat.reduceEqDiff, Nat.reduceLT, Nat.reduceLeDiff, Nat.reduceSub, Nat.zero_ne_one, Nat.one_ne_zero, w0, W, R, C, hw, e, Option.toList, List.cons_append, List.nil_append]
  · have hneg : ¬ 0 ≤ whyL u x := by
      unfold whyL at hw ⊢
      split
      · rename_i hc
        rw [if_pos hc] at hw
        split
        · decide
        · rename_i hq
          rw [if_neg hq] at hw
          exact absurd rfl hw
      · decide
    rw [if_neg hw, if_neg hw]
    simp only [x122_0, x122_1, x122_2, x122_5, x122_6, x122_7, x122_10, x122_11, x122_12, x122_13, x122_16, x122_17, x122_18, x122_21, evI_i, evJl_i, evJf_i, evJd_i, evA_r, evA_n, evA_q, evLk_c, evS1_d, evS2_d, evFl_n, evFl_c, evGl_n, evGl_c, evIn_n, evIn_c, evCat_i, evCat_l, evCat_f, evCat_d, evCat_r, evCat_z, evCat_q, evBd_some, evTl_s, evTl_n, va_rf_s, va_rf_n, and_true, true_and, and_false, false_and, if_true, if_false, not_true_eq_false, not_false_eq_true, reduceCtorEq, ↓reduceIte, Nat.reduceAdd, Nat.reduceEqDiff, Nat.reduceLT, Nat.reduceLeDiff, Nat.reduceSub, Nat.zero_ne_one, Nat.one_ne_zero, w0, W, hneg, Option.toList, List.cons_append, List.nil_append]
theorem c_mbid (hu : mOK h c) {r n : Nat} (hr : r ≤ 6) (h3 : u 0 3 = nI r) (hn : n ≤ 6) (h5 : u 1 5 = nI n) (b x : Int32) : evX 124 0 [(0, .ref c), (1, .int b), (2, .int x)] [] h (evGM m c 9 u) = some (some (.int (if whyT u b x = 0 then u 1 (10 + 8 * b.toNatClampNeg + 7) else whyT u b x)), h, evGM m c 9 (if whyT u b x = 0 then ms (rcU u r) 1 (10 + 8 * b.toNatClampNeg + 7) x else u)) := by
  obtain ⟨w0, w1, w2, w3, w4, w5, w6, w7, w8, w9, w10, w11, w12, w13, w14, w15, w16, w17, w18, w19, w20, w21, w22, w23, w24⟩ := id hu
  have R := c_record (m := m) (u := u) hu hr h3
  have W := c_whyT (m := m) (u := u) hu b x
  by_cases hw : whyT u b x = 0
  · obtain ⟨k, hk, rfl⟩ : ∃ k, k < n ∧ b = nI k := by
      unfold whyT at hw
      split at hw
      · rename_i hc
        rw [h5] at hc
        exact wiB_nI (by omega) hc
      · exact absurd hw (by decide)
    have b0 : ¬ nI k < 0 := nI_pos (by omega)
    have b1 : (nI k).toNatClampNeg = k := nI_cl k (by omega)
    have hk6 : k < 6 := by omega
    have e : (0 : Int32) ≤ 0 := Int32.le_refl _
    rw [hw] at W
    simp only [x124_0, x124_1, x124_2, x124_3, x124_6, x124_7, x124_8, x124_11, x124_12, x124_13, x124_14, x124_17, x124_18, x124_19, x124_21, x124_24, x124_26, x124_27, x124_28, x124_30, x124_31, x124_34, x124_36, evI_i, evJl_i, evJf_i, evJd_i, evA_r, evA_n, evA_q, evLk_c, evS1_d, evS2_d, evFl_n, evFl_c, evGl_n, evGl_c, evIn_n, evIn_c, evCat_i, evCat_l, evCat_f, evCat_d, evCat_r, evCat_z, evCat_q, evBd_some, evTl_s, evTl_n, va_rf_s, va_rf_n, and_true, true_and, and_false, false_and, if_true, if_false, not_true_eq_false, not_false_eq_true, reduceCtorEq, ↓reduceIte, Nat.reduceAdd, Nat.reduceEqDiff, Nat.reduceLT, Nat.reduceLeDiff, Nat.reduceSub, Nat.zero_ne_one, Nat.one_ne_zero, w0, W, R, b0, b1, hk6, lt7, lc7, c_bidderPart hu, c_setBidder hu, rcU_1, hw, e, Option.toList, List.cons_append, List.nil_append]
  · have hneg : ¬ 0 ≤ whyT u b x := by
      unfold whyT at hw ⊢
      split
      · rename_i hc
        rw [if_pos hc] at hw
        split
        · rename_i hq
          rw [if_pos hq] at hw
          exact absurd rfl hw
        · decide
      · decide
    rw [if_neg hw, if_neg hw]
    simp only [x124_0, x124_1, x124_2, x124_3, x124_6, x124_7, x124_8, x124_11, x124_12, x124_13, x124_14, x124_17, x124_18, x124_19, x124_21, x124_24, x124_26, x124_27, x124_28, x124_30, x124_31, x124_34, x124_36, evI_i, evJl_i, evJf_i, evJd_i, evA_r, evA_n, evA_q, evLk_c, evS1_d, evS2_d, evFl_n, evFl_c, evGl_n, evGl_c, evIn_n, evIn_c, evCat_i, evCat_l, evCat_f, evCat_d, evCat_r, evCat_z, evCat_q, evBd_some, evTl_s, evTl_n, va_rf_s, va_rf_n, and_true, true_and, and_false, false_and, if_true, if_false, not_true_eq_false, not_false_eq_true, reduceCtorEq, ↓reduceIte, Nat.reduceAdd, Nat.reduceEqDiff, Nat.reduceLT, Nat.reduceLeDiff, Nat.reduceSub, Nat.zero_ne_one, Nat.one_ne_zero, w0, W, hneg, Option.toList, List.cons_append, List.nil_append]
theorem c_mplan (hu : mOK h c) {r n : Nat} (hr : r ≤ 6) (h3 : u 0 3 = nI r) (hn : n ≤ 6) (h5 : u 1 5 = nI n) (b x : Int32) : evX 119 0 [(0, .ref c), (1, .int b), (2, .int x)] [] h (evGM m c 9 u) = some (some (.int (if wiB b 0 (nI n - 1) = true then (if wiB x 0 200 = true then u 1 (10 + 8 * b.toNatClampNeg + 1) else -2) else -1)), h, evGM m c 9 (if wiB b 0 (nI n - 1) = true ∧ wiB x 0 200 = true then ms (rcU u r) 1 (10 + 8 * b.toNatClampNeg + 1) x else u)) := by
  obtain ⟨w0, w1, w2, w3, w4, w5, w6, w7, w8, w9, w10, w11, w12, w13, w14, w15, w16, w17, w18, w19, w20, w21, w22, w23, w24⟩ := id hu
  have R := c_record (m := m) (u := u) hu hr h3
  have I := c_isBidder (m := m) (u := u) hu b
  rw [h5] at I
  have e1 : ¬ evBl true = 0 := by decide
  by_cases hb : wiB b 0 (nI n - 1) = true
  · rw [hb] at I
    by_cases hx : wiB x 0 200 = true
    · obtain ⟨k, hk, rfl⟩ := wiB_nI (by omega) hb
      have b0 : ¬ nI k < 0 := nI_pos (by omega)
      have b1 : (nI k).toNatClampNeg = k := nI_cl k (by omega)
      have hk6 : k < 6 := by omega
      simp only [x119_0, x119_1, x119_2, x119_5, x119_8, x119_9, x119_10, x119_11, x119_12, x119_15, x119_18, x119_21, x119_23, x119_24, x119_25, x119_28, x119_29, x119_30, x119_31, x119_34, x119_35, x119_36, x119_37, x119_38, x119_39, x119_42, x119_43, evI_i, evJl_i, evJf_i, evJd_i, evA_r, evA_n, evA_q, evLk_c, evS1_d, evS2_d, evFl_n, evFl_c, evGl_n, evGl_c, evIn_n, evIn_c, evCat_i, evCat_l, evCat_f, evCat_d, evCat_r, evCat_z, evCat_q, evBd_some, evTl_s, evTl_n, va_rf_s, va_rf_n, and_true, true_and, and_false, false_and, if_true, if_false, not_true_eq_false, not_false_eq_true, reduceCtorEq, ↓reduceIte, Nat.reduceAdd, Nat.reduceEqDiff, Nat.reduceLT, Nat.reduceLeDiff, Nat.reduceSub, Nat.zero_ne_one, Nat.one_ne_zero, w0, I, hb, hx, e1, R, b0, b1, hk6, lt1, lc1, c_within, c_bidderPart hu, c_setBidder hu, rcU_1, Option.toList, List.cons_append, List.nil_append]
    · have hf := b_ne hx
      simp only [x119_0, x119_1, x119_2, x119_5, x119_8, x119_9, x119_10, x119_11, x119_12, x119_15, x119_18, x119_21, x119_23, x119_24, x119_25, x119_28, x119_29, x119_30, x119_31, x119_34, x119_35, x119_36, x119_37, x119_38, x119_39, x119_42, x119_43, evI_i, evJl_i, evJf_i, evJd_i, evA_r, evA_n, evA_q, evLk_c, evS1_d, evS2_d, evFl_n, evFl_c, evGl_n, evGl_c, evIn_n, evIn_c, evCat_i, evCat_l, evCat_f, evCat_d, evCat_r, evCat_z, evCat_q, evBd_some, evTl_s, evTl_n, va_rf_s, va_rf_n, and_true, true_and, and_false, false_and, if_true, if_false, not_true_eq_false, not_false_eq_true, reduceCtorEq, ↓reduceIte, Nat.reduceAdd, Nat.reduceEqDiff, Nat.reduceLT, Nat.reduceLeDiff, Nat.reduceSub, Nat.zero_ne_one, Nat.one_ne_zero, w0, I, hb, hf, e1, evBl_f, c_within, Bool.false_eq_true, Option.toList, List.cons_append, List.nil_append]
  · have hf := b_ne hb
    rw [hf] at I ⊢
    simp only [x119_0, x119_1, x119_2, x119_5, x119_8, x119_9, x119_10, x119_11, x119_12, x119_15, x119_18, x119_21, x119_23, x119_24, x119_25, x119_28, x119_29, x119_30, x119_31, x119_34, x119_35, x119_36, x119_37, x119_38, x119_39, x119_42, x119_43, evI_i, evJl_i, evJf_i, evJd_i, evA_r, evA_n, evA_q, evLk_c, evS1_d, evS2_d, evFl_n, evFl_c, evGl_n, evGl_c, evIn_n, evIn_c, evCat_i, evCat_l, evCat_f, evCat_d, evCat_r, evCat_z, evCat_q, evBd_some, evTl_s, evTl_n, va_rf_s, va_rf_n, and_true, true_and, and_false, false_and, if_true, if_false, not_true_eq_false, not_false_eq_true, reduceCtorEq, ↓reduceIte, Nat.reduceAdd, Nat.reduceEqDiff, Nat.reduceLT, Nat.reduceLeDiff, Nat.reduceSub, Nat.zero_ne_one, Nat.one_ne_zero, w0, I, evBl_f, Bool.false_eq_true, Option.toList, List.cons_append, List.nil_append]
theorem c_mpass (hu : mOK h c) {r lag n q : Nat} (hr : r ≤ 6) (h3 : u 0 3 = nI r) (hi : mInv u lag n q) (x : Int32) : evX 126 0 [(0, .ref c), (1, .int x)] [] h (evGM m c 9 u) = some (some (.int (if whyP u x = 0 then psI (rcU u r) lag n q x.toNatClampNeg else whyP u x)), h, evGM m c 9 (if whyP u x = 0 then psU (rcU u r) lag n q x.toNatClampNeg else u)) := by
  obtain ⟨w0, w1, w2, w3, w4, w5, w6, w7, w8, w9, w10, w11, w12, w13, w14, w15, w16, w17, w18, w19, w20, w21, w22, w23, w24⟩ := id hu
  have R := c_record (m := m) (u := u) hu hr h3
  have W := c_whyP (m := m) (u := u) hu x
  by_cases hw : whyP u x = 0
  · have hi' : mInv (rcU u r) lag n q := by
      obtain ⟨h1, h2, h3, h4, h5, h6, h7, h8⟩ := hi
      exact ⟨h1, h2, h3, by rw [rcU_1, h4], by rw [rcU_1, h5], by rw [rcU_1, h6], by rw [rcU_1]; exact h7, fun l hl => by rw [rcU_1]; exact h8 l hl⟩
    obtain ⟨k, hk, rfl⟩ : ∃ k, k < 1000 ∧ x = nI k := by
      unfold whyP at hw
      split at hw
      · rename_i hc
        unfold wiB at hc
        simp only [Bool.and_eq_true, decide_eq_true_eq] at hc
        have h0 : ¬ x < 0 := fun q => i32_ff hc.1 (Int32.lt_trans q (by decide))
        obtain ⟨k, hk, rfl⟩ := nI_of h0
        refine ⟨k, ?_, rfl⟩
        have h99 : ¬ nI 99 < nI k := Int32.not_lt.mpr hc.2
        rcases Nat.lt_or_ge 99 k with q | q
        · exact absurd ((nI_ltI (by omega) hk).mpr q) h99
        · omega
      · exact absurd hw (by decide)
    have b1 : (nI k).toNatClampNeg = k := nI_cl k (by omega)
    have P := c_passes (m := m) (u := rcU u r) hu hi' (r := k) (by omega)
    have e : (0 : Int32) ≤ 0 := Int32.le_refl _
    rw [hw] at W
    simp only [x126_0, x126_1, x126_2, x126_5, x126_6, x126_7, x126_10, x126_11, x126_12, x126_13, x126_16, x126_17, x126_18, x126_21, evI_i, evJl_i, evJf_i, evJd_i, evA_r, evA_n, evA_q, evLk_c, evS1_d, evS2_d, evFl_n, evFl_c, evGl_n, evGl_c, evIn_n, evIn_c, evCat_i, evCat_l, evCat_f, evCat_d, evCat_r, evCat_z, evCat_q, evBd_some, evTl_s, evTl_n, va_rf_s, va_rf_n, and_true, true_and, and_false, false_and, if_true, if_false, not_true_eq_false, not_false_eq_true, reduceCtorEq, ↓reduceIte, Nat.reduceAdd, Nat.reduceEqDiff, Nat.reduceLT, Nat.reduceLeDiff, Nat.reduceSub, Nat.zero_ne_one, Nat.one_ne_zero, w0, W, R, P, b1, hw, e, Option.toList, List.cons_append, List.nil_append]
  · have hneg : ¬ 0 ≤ whyP u x := by
      unfold whyP at hw ⊢
      split
      · rename_i hc
        rw [if_pos hc] at hw
        split
        · decide
        · rename_i hq
          rw [if_neg hq] at hw
          exact absurd rfl hw
      · decide
    rw [if_neg hw, if_neg hw]
    simp only [x126_0, x126_1, x126_2, x126_5, x126_6, x126_7, x126_10, x126_11, x126_12, x126_13, x126_16, x126_17, x126_18, x126_21, evI_i, evJl_i, evJf_i, evJd_i, evA_r, evA_n, evA_q, evLk_c, evS1_d, evS2_d, evFl_n, evFl_c, evGl_n, evGl_c, evIn_n, evIn_c, evCat_i, evCat_l, evCat_f, evCat_d, evCat_r, evCat_z, evCat_q, evBd_some, evTl_s, evTl_n, va_rf_s, va_rf_n, and_true, true_and, and_false, false_and, if_true, if_false, not_true_eq_false, not_false_eq_true, reduceCtorEq, ↓reduceIte, Nat.reduceAdd, Nat.reduceEqDiff, Nat.reduceLT, Nat.reduceLeDiff, Nat.reduceSub, Nat.zero_ne_one, Nat.one_ne_zero, w0, W, hneg, Option.toList, List.cons_append, List.nil_append]
end MO
