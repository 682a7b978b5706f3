/-! the hall's plain methods -/
def setAt (v : evVt) (x : Int32) : Int32 := if 0 ≤ x ∧ x < 4 then v 0 x.toNatClampNeg 0 else -2
def bAt (v : evVt) (b : Nat) (x : Int32) : Option Nat := if 0 ≤ x ∧ x < v 1 0 0 ∧ x < 6 then some (hB b x.toNatClampNeg) else none
def lAt (v : evVt) (b : Nat) (x : Int32) : Option Nat := if 0 ≤ x ∧ x < v 1 1 0 ∧ x < 8 then some (hL b x.toNatClampNeg) else none
section H1
variable {h : evH} {m : evM} {b : Nat} {v : evVt}
theorem c_settingAt (hH : evHall h b) (x : Int32) : evX 12 0 [(0, .ref b), (1, .int x)] [] h (putV m b v) = some (some (.int (setAt v x)), h, putV m b v) := by
  obtain ⟨q0, ⟨q1, r1⟩, ⟨q2, r2⟩, ⟨q3, r3⟩, ⟨q4, r4⟩, q5, ⟨q6, r6⟩, q7, q8, q9, f0, f6, f7, f8, f9, f10⟩ := id hH
  have h4 : Int32.ofNat 4 = 4 := rfl
  unfold setAt
  by_cases h1 : x < 0
  · have h1' : ¬ 0 ≤ x := fun q => i32_ff q h1
    simp only [x12_0, x12_1, x12_4, x12_5, x12_6, x12_9s, x12_10, x12_13, x12_14, x12_17, x12_18, x12_18s, x12_19, x12_22, x12_24, x12_9i, x12_9b, x12_9d, x12_9h, x12_9l, evI_i, evJl_i, evJf_i, evJd_i, evA_r, evA_n, evA_q, evLk_c, evS1_d, evS2_d, evFl_n, evFl_c, evGl_n, evGl_c, evIn_n, evIn_c, evCat_i, evCat_l, evCat_f, evCat_d, evCat_r, evCat_z, evCat_q, evBd_some, evTl_s, evTl_n, va_rf_s, va_rf_n, and_true, true_and, and_false, false_and, if_true, if_false, not_true_eq_false, not_false_eq_true, reduceCtorEq, ↓reduceIte, Nat.reduceAdd, Nat.reduceEqDiff, Nat.reduceLT, Nat.reduceLeDiff, Nat.reduceSub, Nat.zero_ne_one, Nat.one_ne_zero, q0, q1, r1, q2, r2, q3, r3, q4, r4, q5, q6, r6, f0, f6, f7, f8, f9, f10, pv_H1, pv_H2, pv_H3, pv_H4, pv_H5, pv_St, pv_Rc, pv_Rr, ps_H1, ps_H2, ps_H3, ps_H4, ps_H5, ps_St, ps_Rc, ps_Rr, h1, h1', h4]
  · have h1' : 0 ≤ x := Int32.not_lt.mp h1
    by_cases h2 : x < 4
    · have h2' : ¬ 4 ≤ x := fun q => i32_ff q h2
      have h3 : x.toNatClampNeg < 4 := i32_cl (by decide) h1 h2
      simp only [x12_0, x12_1, x12_4, x12_5, x12_6, x12_9s, x12_10, x12_13, x12_14, x12_17, x12_18, x12_18s, x12_19, x12_22, x12_24, x12_9i, x12_9b, x12_9d, x12_9h, x12_9l, evI_i, evJl_i, evJf_i, evJd_i, evA_r, evA_n, evA_q, evLk_c, evS1_d, evS2_d, evFl_n, evFl_c, evGl_n, evGl_c, evIn_n, evIn_c, evCat_i, evCat_l, evCat_f, evCat_d, evCat_r, evCat_z, evCat_q, evBd_some, evTl_s, evTl_n, va_rf_s, va_rf_n, and_true, true_and, and_false, false_and, if_true, if_false, not_true_eq_false, not_false_eq_true, reduceCtorEq, ↓reduceIte, Nat.reduceAdd, Nat.reduceEqDiff, Nat.reduceLT, Nat.reduceLeDiff, Nat.reduceSub, Nat.zero_ne_one, Nat.one_ne_zero, q0, q1, r1, q2, r2, q3, r3, q4, r4, q5, q6, r6, f0, f6, f7, f8, f9, f10, pv_H1, pv_H2, pv_H3, pv_H4, pv_H5, pv_St, pv_Rc, pv_Rr, ps_H1, ps_H2, ps_H3, ps_H4, ps_H5, ps_St, ps_Rc, ps_Rr, h1, h1', h2, h2', h3, h4, and_self]
    · have h2' : 4 ≤ x := Int32.not_lt.mp h2
      simp only [x12_0, x12_1, x12_4, x12_5, x12_6, x12_9s, x12_10, x12_13, x12_14, x12_17, x12_18, x12_18s, x12_19, x12_22, x12_24, x12_9i, x12_9b, x12_9d, x12_9h, x12_9l, evI_i, evJl_i, evJf_i, evJd_i, evA_r, evA_n, evA_q, evLk_c, evS1_d, evS2_d, evFl_n, evFl_c, evGl_n, evGl_c, evIn_n, evIn_c, evCat_i, evCat_l, evCat_f, evCat_d, evCat_r, evCat_z, evCat_q, evBd_some, evTl_s, evTl_n, va_rf_s, va_rf_n, and_true, true_and, and_false, false_and, if_true, if_false, not_true_eq_false, not_false_eq_true, reduceCtorEq, ↓reduceIte, Nat.reduceAdd, Nat.reduceEqDiff, Nat.reduceLT, Nat.reduceLeDiff, Nat.reduceSub, Nat.zero_ne_one, Nat.one_ne_zero, q0, q1, r1, q2, r2, q3, r3, q4, r4, q5, q6, r6, f0, f6, f7, f8, f9, f10, pv_H1, pv_H2, pv_H3, pv_H4, pv_H5, pv_St, pv_Rc, pv_Rr, ps_H1, ps_H2, ps_H3, ps_H4, ps_H5, ps_St, ps_Rc, ps_Rr, h1, h1', h2, h2', h4, and_self]
theorem c_bidderAt (hH : evHall h b) (x : Int32) : evX 10 0 [(0, .ref b), (1, .int x)] [] h (putV m b v) = some (some (va_rf (bAt v b x)), h, putV m b v) := by
  obtain ⟨q0, ⟨q1, r1⟩, ⟨q2, r2⟩, ⟨q3, r3⟩, ⟨q4, r4⟩, q5, ⟨q6, r6⟩, q7, q8, q9, f0, f6, f7, f8, f9, f10⟩ := id hH
  have h4 : Int32.ofNat 6 = 6 := rfl
  unfold bAt
  by_cases h1 : x < 0
  · have h1' : ¬ 0 ≤ x := fun q => i32_ff q h1
    simp only [x10_0, x10_1, x10_4, x10_5, x10_6, x10_9, x10_12, x10_13, x10_14, x10_17s, x10_18, x10_21, x10_22, x10_25, x10_27, x10_30, x10_31q, x10_31, x10_17i, x10_17b, x10_17d, x10_17h, x10_17l, x10_26b, x10_26d, x10_26h, x10_26l, x10_31n, evI_i, evJl_i, evJf_i, evJd_i, evA_r, evA_n, evA_q, evLk_c, evS1_d, evS2_d, evFl_n, evFl_c, evGl_n, evGl_c, evIn_n, evIn_c, evCat_i, evCat_l, evCat_f, evCat_d, evCat_r, evCat_z, evCat_q, evBd_some, evTl_s, evTl_n, va_rf_s, va_rf_n, and_true, true_and, and_false, false_and, if_true, if_false, not_true_eq_false, not_false_eq_true, reduceCtorEq, ↓reduceIte, Nat.reduceAdd, Nat.reduceEqDiff, Nat.reduceLT, Nat.reduceLeDiff, Nat.reduceSub, Nat.zero_ne_one, Nat.one_ne_zero, q0, q1, r1, q2, r2, q3, r3, q4, r4, q5, q6, r6, f0, f6, f7, f8, f9, f10, pv_H1, pv_H2, pv_H3, pv_H4, pv_H5, pv_St, pv_Rc, pv_Rr, ps_H1, ps_H2, ps_H3, ps_H4, ps_H5, ps_St, ps_Rc, ps_Rr, h1, h1', h4, false_and]
  · have h1' : 0 ≤ x := Int32.not_lt.mp h1
    by_cases h5 : x < v 1 0 0
    · have h5' : ¬ v 1 0 0 ≤ x := fun q => i32_ff q h5
      by_cases h2 : x < 6
      · have h2' : ¬ 6 ≤ x := fun q => i32_ff q h2
        have h3 : x.toNatClampNeg < 6 := i32_cl (by decide) h1 h2
        obtain ⟨u1, u2, u3, u4⟩ := q7 _ h3
        simp only [x10_0, x10_1, x10_4, x10_5, x10_6, x10_9, x10_12, x10_13, x10_14, x10_17s, x10_18, x10_21, x10_22, x10_25, x10_27, x10_30, x10_31q, x10_31, x10_17i, x10_17b, x10_17d, x10_17h, x10_17l, x10_26b, x10_26d, x10_26h, x10_26l, x10_31n, evI_i, evJl_i, evJf_i, evJd_i, evA_r, evA_n, evA_q, evLk_c, evS1_d, evS2_d, evFl_n, evFl_c, evGl_n, evGl_c, evIn_n, evIn_c, evCat_i, evCat_l, evCat_f, evCat_d, evCat_r, evCat_z, evCat_q, evBd_some, evTl_s, evTl_n, va_rf_s, va_rf_n, and_true, true_and, and_false, false_and, if_true, if_false, not_true_eq_false, not_false_eq_true, reduceCtorEq, ↓reduceIte, Nat.reduceAdd, Nat.reduceEqDiff, Nat.reduceLT, Nat.reduceLeDiff, Nat.reduceSub, Nat.zero_ne_one, Nat.one_ne_zero, q0, q1, r1, q2, r2, q3, r3, q4, r4, q5, q6, r6, f0, f6, f7, f8, f9, f10, pv_H1, pv_H2, pv_H3, pv_H4, pv_H5, pv_St, pv_Rc, pv_Rr, ps_H1, ps_H2, ps_H3, ps_H4, ps_H5, ps_St, ps_Rc, ps_Rr, h1, h1', h2, h2', h3, h4, h5, h5', and_self, u3]
      · have h2' : 6 ≤ x := Int32.not_lt.mp h2
        simp only [x10_0, x10_1, x10_4, x10_5, x10_6, x10_9, x10_12, x10_13, x10_14, x10_17s, x10_18, x10_21, x10_22, x10_25, x10_27, x10_30, x10_31q, x10_31, x10_17i, x10_17b, x10_17d, x10_17h, x10_17l, x10_26b, x10_26d, x10_26h, x10_26l, x10_31n, evI_i, evJl_i, evJf_i, evJd_i, evA_r, evA_n, evA_q, evLk_c, evS1_d, evS2_d, evFl_n, evFl_c, evGl_n, evGl_c, evIn_n, evIn_c, evCat_i, evCat_l, evCat_f, evCat_d, evCat_r, evCat_z, evCat_q, evBd_some, evTl_s, evTl_n, va_rf_s, va_rf_n, and_true, true_and, and_false, false_and, if_true, if_false, not_true_eq_false, not_false_eq_true, reduceCtorEq, ↓reduceIte, Nat.reduceAdd, Nat.reduceEqDiff, Nat.reduceLT, Nat.reduceLeDiff, Nat.reduceSub, Nat.zero_ne_one, Nat.one_ne_zero, q0, q1, r1, q2, r2, q3, r3, q4, r4, q5, q6, r6, f0, f6, f7, f8, f9, f10, pv_H1, pv_H2, pv_H3, pv_H4, pv_H5, pv_St, pv_Rc, pv_Rr, ps_H1, ps_H2, ps_H3, ps_H4, ps_H5, ps_St, ps_Rc, ps_Rr, h1, h1', h2, h2', h4, h5, h5', and_self, and_false]
    · have h5' : v 1 0 0 ≤ x := Int32.not_lt.mp h5
      simp only [x10_0, x10_1, x10_4, x10_5, x10_6, x10_9, x10_12, x10_13, x10_14, x10_17s, x10_18, x10_21, x10_22, x10_25, x10_27, x10_30, x10_31q, x10_31, x10_17i, x10_17b, x10_17d, x10_17h, x10_17l, x10_26b, x10_26d, x10_26h, x10_26l, x10_31n, evI_i, evJl_i, evJf_i, evJd_i, evA_r, evA_n, evA_q, evLk_c, evS1_d, evS2_d, evFl_n, evFl_c, evGl_n, evGl_c, evIn_n, evIn_c, evCat_i, evCat_l, evCat_f, evCat_d, evCat_r, evCat_z, evCat_q, evBd_some, evTl_s, evTl_n, va_rf_s, va_rf_n, and_true, true_and, and_false, false_and, if_true, if_false, not_true_eq_false, not_false_eq_true, reduceCtorEq, ↓reduceIte, Nat.reduceAdd, Nat.reduceEqDiff, Nat.reduceLT, Nat.reduceLeDiff, Nat.reduceSub, Nat.zero_ne_one, Nat.one_ne_zero, q0, q1, r1, q2, r2, q3, r3, q4, r4, q5, q6, r6, f0, f6, f7, f8, f9, f10, pv_H1, pv_H2, pv_H3, pv_H4, pv_H5, pv_St, pv_Rc, pv_Rr, ps_H1, ps_H2, ps_H3, ps_H4, ps_H5, ps_St, ps_Rc, ps_Rr, h1, h1', h5, h5', h4, and_self, false_and, and_false]
theorem c_lotAt (hH : evHall h b) (x : Int32) : evX 11 0 [(0, .ref b), (1, .int x)] [] h (putV m b v) = some (some (va_rf (lAt v b x)), h, putV m b v) := by
  obtain ⟨q0, ⟨q1, r1⟩, ⟨q2, r2⟩, ⟨q3, r3⟩, ⟨q4, r4⟩, q5, ⟨q6, r6⟩, q7, q8, q9, f0, f6, f7, f8, f9, f10⟩ := id hH
  have h4 : Int32.ofNat 8 = 8 := rfl
  unfold lAt
  by_cases h1 : x < 0
  · have h1' : ¬ 0 ≤ x := fun q => i32_ff q h1
    simp only [x11_0, x11_1, x11_4, x11_5, x11_6, x11_9, x11_12, x11_13, x11_14, x11_17s, x11_18, x11_21, x11_22, x11_25, x11_27, x11_30, x11_31q, x11_31, x11_17i, x11_17b, x11_17d, x11_17h, x11_17l, x11_26b, x11_26d, x11_26h, x11_26l, x11_31n, evI_i, evJl_i, evJf_i, evJd_i, evA_r, evA_n, evA_q, evLk_c, evS1_d, evS2_d, evFl_n, evFl_c, evGl_n, evGl_c, evIn_n, evIn_c, evCat_i, evCat_l, evCat_f, evCat_d, evCat_r, evCat_z, evCat_q, evBd_some, evTl_s, evTl_n, va_rf_s, va_rf_n, and_true, true_and, and_false, false_and, if_true, if_false, not_true_eq_false, not_false_eq_true, reduceCtorEq, ↓reduceIte, Nat.reduceAdd, Nat.reduceEqDiff, Nat.reduceLT, Nat.reduceLeDiff, Nat.reduceSub, Nat.zero_ne_one, Nat.one_ne_zero, q0, q1, r1, q2, r2, q3, r3, q4, r4, q5, q6, r6, f0, f6, f7, f8, f9, f10, pv_H1, pv_H2, pv_H3, pv_H4, pv_H5, pv_St, pv_Rc, pv_Rr, ps_H1, ps_H2, ps_H3, ps_H4, ps_H5, ps_St, ps_Rc, ps_Rr, h1, h1', h4, false_and]
  · have h1' : 0 ≤ x := Int32.not_lt.mp h1
    by_cases h5 : x < v 1 1 0
    · have h5' : ¬ v 1 1 0 ≤ x := fun q => i32_ff q h5
      by_cases h2 : x < 8
      · have h2' : ¬ 8 ≤ x := fun q => i32_ff q h2
        have h3 : x.toNatClampNeg < 8 := i32_cl (by decide) h1 h2
        obtain ⟨u1, u2, u3, u4⟩ := q8 _ h3
        simp only [x11_0, x11_1, x11_4, x11_5, x11_6, x11_9, x11_12, x11_13, x11_14, x11_17s, x11_18, x11_21, x11_22, x11_25, x11_27, x11_30, x11_31q, x11_31, x11_17i, x11_17b, x11_17d, x11_17h, x11_17l, x11_26b, x11_26d, x11_26h, x11_26l, x11_31n, evI_i, evJl_i, evJf_i, evJd_i, evA_r, evA_n, evA_q, evLk_c, evS1_d, evS2_d, evFl_n, evFl_c, evGl_n, evGl_c, evIn_n, evIn_c, evCat_i, evCat_l, evCat_f, evCat_d, evCat_r, evCat_z, evCat_q, evBd_some, evTl_s, evTl_n, va_rf_s, va_rf_n, and_true, true_and, and_false, false_and, if_true, if_false, not_true_eq_false, not_false_eq_true, reduceCtorEq, ↓reduceIte, Nat.reduceAdd, Nat.reduceEqDiff, Nat.reduceLT, Nat.reduceLeDiff, Nat.reduceSub, Nat.zero_ne_one, Nat.one_ne_zero, q0, q1, r1, q2, r2, q3, r3, q4, r4, q5, q6, r6, f0, f6, f7, f8, f9, f10, pv_H1, pv_H2, pv_H3, pv_H4, pv_H5, pv_St, pv_Rc, pv_Rr, ps_H1, ps_H2, ps_H3, ps_H4, ps_H5, ps_St, ps_Rc, ps_Rr, h1, h1', h2, h2', h3, h4, h5, h5', and_self, u3]
      · have h2' : 8 ≤ x := Int32.not_lt.mp h2
        simp only [x11_0, x11_1, x11_4, x11_5, x11_6, x11_9, x11_12, x11_13, x11_14, x11_17s, x11_18, x11_21, x11_22, x11_25, x11_27, x11_30, x11_31q, x11_31, x11_17i, x11_17b, x11_17d, x11_17h, x11_17l, x11_26b, x11_26d, x11_26h, x11_26l, x11_31n, evI_i, evJl_i, evJf_i, evJd_i, evA_r, evA_n, evA_q, evLk_c, evS1_d, evS2_d, evFl_n, evFl_c, evGl_n, evGl_c, evIn_n, evIn_c, evCat_i, evCat_l, evCat_f, evCat_d, evCat_r, evCat_z, evCat_q, evBd_some, evTl_s, evTl_n, va_rf_s, va_rf_n, and_true, true_and, and_false, false_and, if_true, if_false, not_true_eq_false, not_false_eq_true, reduceCtorEq, ↓reduceIte, Nat.reduceAdd, Nat.reduceEqDiff, Nat.reduceLT, Nat.reduceLeDiff, Nat.reduceSub, Nat.zero_ne_one, Nat.one_ne_zero, q0, q1, r1, q2, r2, q3, r3, q4, r4, q5, q6, r6, f0, f6, f7, f8, f9, f10, pv_H1, pv_H2, pv_H3, pv_H4, pv_H5, pv_St, pv_Rc, pv_Rr, ps_H1, ps_H2, ps_H3, ps_H4, ps_H5, ps_St, ps_Rc, ps_Rr, h1, h1', h2, h2', h4, h5, h5', and_self, and_false]
    · have h5' : v 1 1 0 ≤ x := Int32.not_lt.mp h5
      simp only [x11_0, x11_1, x11_4, x11_5, x11_6, x11_9, x11_12, x11_13, x11_14, x11_17s, x11_18, x11_21, x11_22, x11_25, x11_27, x11_30, x11_31q, x11_31, x11_17i, x11_17b, x11_17d, x11_17h, x11_17l, x11_26b, x11_26d, x11_26h, x11_26l, x11_31n, evI_i, evJl_i, evJf_i, evJd_i, evA_r, evA_n, evA_q, evLk_c, evS1_d, evS2_d, evFl_n, evFl_c, evGl_n, evGl_c, evIn_n, evIn_c, evCat_i, evCat_l, evCat_f, evCat_d, evCat_r, evCat_z, evCat_q, evBd_some, evTl_s, evTl_n, va_rf_s, va_rf_n, and_true, true_and, and_false, false_and, if_true, if_false, not_true_eq_false, not_false_eq_true, reduceCtorEq, ↓reduceIte, Nat.reduceAdd, Nat.reduceEqDiff, Nat.reduceLT, Nat.reduceLeDiff, Nat.reduceSub, Nat.zero_ne_one, Nat.one_ne_zero, q0, q1, r1, q2, r2, q3, r3, q4, r4, q5, q6, r6, f0, f6, f7, f8, f9, f10, pv_H1, pv_H2, pv_H3, pv_H4, pv_H5, pv_St, pv_Rc, pv_Rr, ps_H1, ps_H2, ps_H3, ps_H4, ps_H5, ps_St, ps_Rc, ps_Rr, h1, h1', h5, h5', h4, and_self, false_and, and_false]
theorem bAt_in {k n : Nat} (hk : k < n) (hn : n ≤ 6) (hv : v 1 0 0 = nI n) : bAt v b (nI k) = some (hB b k) := by
  unfold bAt
  rw [hv, if_pos ⟨nI_pos' (by omega), nI_lt hk (by omega), nI_lt (b := 6) (by omega) (by decide)⟩, nI_clamp (by omega)]
theorem lAt_in {k n : Nat} (hk : k < n) (hn : n ≤ 8) (hv : v 1 1 0 = nI n) : lAt v b (nI k) = some (hL b k) := by
  unfold lAt
  rw [hv, if_pos ⟨nI_pos' (by omega), nI_lt hk (by omega), nI_lt (b := 8) (by omega) (by decide)⟩, nI_clamp (by omega)]
theorem bAt_of {n : Nat} {x : Int32} (hn : n ≤ 6) (hv : v 1 0 0 = nI n) : (∃ k, k < n ∧ x = nI k ∧ bAt v b x = some (hB b k)) ∨ (bAt v b x = none ∧ ∀ k, k < n → x ≠ nI k) := by
  by_cases h0 : x < 0
  · right
    refine ⟨if_neg (fun q => i32_ff q.1 h0), fun k hk e => ?_⟩
    rw [e] at h0
    exact nI_pos (by omega) h0
  · obtain ⟨j, hj, rfl⟩ := nI_of h0
    by_cases hjn : j < n
    · exact Or.inl ⟨j, hjn, rfl, bAt_in hjn hn hv⟩
    · right
      refine ⟨if_neg (fun q => ?_), fun k hk e => ?_⟩
      · have := q.2.1
        rw [hv] at this
        exact hjn ((nI_ltI hj (by omega)).mp this)
      · have := (nI_eq hj (by omega)).mp e
        omega
theorem lAt_of {n : Nat} {x : Int32} (hn : n ≤ 8) (hv : v 1 1 0 = nI n) : (∃ k, k < n ∧ x = nI k ∧ lAt v b x = some (hL b k)) ∨ (lAt v b x = none ∧ ∀ k, k < n → x ≠ nI k) := by
  by_cases h0 : x < 0
  · right
    refine ⟨if_neg (fun q => i32_ff q.1 h0), fun k hk e => ?_⟩
    rw [e] at h0
    exact nI_pos (by omega) h0
  · obtain ⟨j, hj, rfl⟩ := nI_of h0
    by_cases hjn : j < n
    · exact Or.inl ⟨j, hjn, rfl, lAt_in hjn hn hv⟩
    · right
      refine ⟨if_neg (fun q => ?_), fun k hk e => ?_⟩
      · have := q.2.1
        rw [hv] at this
        exact hjn ((nI_ltI hj (by omega)).mp this)
      · have := (nI_eq hj (by omega)).mp e
        omega
theorem c_hasLots (hH : evHall h b) : evX 20 0 [(0, .ref b)] [] h (putV m b v) = some (some (.int (evBl (!decide (v 1 3 0 = -6) || decide (v 1 2 0 < v 1 1 0)))), h, putV m b v) := by
  obtain ⟨q0, ⟨q1, r1⟩, ⟨q2, r2⟩, ⟨q3, r3⟩, ⟨q4, r4⟩, q5, ⟨q6, r6⟩, q7, q8, q9, f0, f6, f7, f8, f9, f10⟩ := id hH
  by_cases h1 : v 1 3 0 = -6
  · by_cases h2 : v 1 2 0 < v 1 1 0
    · have h2' : ¬ v 1 1 0 ≤ v 1 2 0 := fun q => i32_ff q h2
      simp only [x20_0, x20_1, x20_4, x20_6, x20_9, x20_10, x20_13, x20_14, x20_17, x20_20, x20_21, x20_24, x20_25_0, x20_25_1, x20_25b, evI_i, evJl_i, evJf_i, evJd_i, evA_r, evA_n, evA_q, evLk_c, evS1_d, evS2_d, evFl_n, evFl_c, evGl_n, evGl_c, evIn_n, evIn_c, evCat_i, evCat_l, evCat_f, evCat_d, evCat_r, evCat_z, evCat_q, evBd_some, evTl_s, evTl_n, va_rf_s, va_rf_n, and_true, true_and, and_false, false_and, if_true, if_false, not_true_eq_false, not_false_eq_true, reduceCtorEq, ↓reduceIte, Nat.reduceAdd, Nat.reduceEqDiff, Nat.reduceLT, Nat.reduceLeDiff, Nat.reduceSub, Nat.zero_ne_one, Nat.one_ne_zero, q0, q1, r1, q2, r2, q3, r3, q4, r4, q5, q6, r6, f0, f6, f7, f8, f9, f10, pv_H1, pv_H2, pv_H3, pv_H4, pv_H5, pv_St, pv_Rc, pv_Rr, ps_H1, ps_H2, ps_H3, ps_H4, ps_H5, ps_St, ps_Rc, ps_Rr, h1, h2, h2', decide_true, Bool.not_true, Bool.or_true, evBl_t]
    · have h2' : v 1 1 0 ≤ v 1 2 0 := Int32.not_lt.mp h2
      simp only [x20_0, x20_1, x20_4, x20_6, x20_9, x20_10, x20_13, x20_14, x20_17, x20_20, x20_21, x20_24, x20_25_0, x20_25_1, x20_25b, evI_i, evJl_i, evJf_i, evJd_i, evA_r, evA_n, evA_q, evLk_c, evS1_d, evS2_d, evFl_n, evFl_c, evGl_n, evGl_c, evIn_n, evIn_c, evCat_i, evCat_l, evCat_f, evCat_d, evCat_r, evCat_z, evCat_q, evBd_some, evTl_s, evTl_n, va_rf_s, va_rf_n, and_true, true_and, and_false, false_and, if_true, if_false, not_true_eq_false, not_false_eq_true, reduceCtorEq, ↓reduceIte, Nat.reduceAdd, Nat.reduceEqDiff, Nat.reduceLT, Nat.reduceLeDiff, Nat.reduceSub, Nat.zero_ne_one, Nat.one_ne_zero, q0, q1, r1, q2, r2, q3, r3, q4, r4, q5, q6, r6, f0, f6, f7, f8, f9, f10, pv_H1, pv_H2, pv_H3, pv_H4, pv_H5, pv_St, pv_Rc, pv_Rr, ps_H1, ps_H2, ps_H3, ps_H4, ps_H5, ps_St, ps_Rc, ps_Rr, h1, h2, h2', decide_true, decide_false, Bool.not_true, Bool.or_self, evBl_f]
  · simp only [x20_0, x20_1, x20_4, x20_6, x20_9, x20_10, x20_13, x20_14, x20_17, x20_20, x20_21, x20_24, x20_25_0, x20_25_1, x20_25b, evI_i, evJl_i, evJf_i, evJd_i, evA_r, evA_n, evA_q, evLk_c, evS1_d, evS2_d, evFl_n, evFl_c, evGl_n, evGl_c, evIn_n, evIn_c, evCat_i, evCat_l, evCat_f, evCat_d, evCat_r, evCat_z, evCat_q, evBd_some, evTl_s, evTl_n, va_rf_s, va_rf_n, and_true, true_and, and_false, false_and, if_true, if_false, not_true_eq_false, not_false_eq_true, reduceCtorEq, ↓reduceIte, Nat.reduceAdd, Nat.reduceEqDiff, Nat.reduceLT, Nat.reduceLeDiff, Nat.reduceSub, Nat.zero_ne_one, Nat.one_ne_zero, q0, q1, r1, q2, r2, q3, r3, q4, r4, q5, q6, r6, f0, f6, f7, f8, f9, f10, pv_H1, pv_H2, pv_H3, pv_H4, pv_H5, pv_St, pv_Rc, pv_Rr, ps_H1, ps_H2, ps_H3, ps_H4, ps_H5, ps_St, ps_Rc, ps_Rr, h1, decide_false, Bool.not_false, Bool.true_or, evBl_t]
theorem c_tellBid (hH : evHall h b) {n : Nat} (hn : n ≤ 6) (hv : v 1 0 0 = nI n) (x y : Int32) : evX 17 0 [(0, .ref b), (1, .int x), (2, .int y)] [] h (putV m b v) = if bAt v b x = none then some (some (.int (-1)), h, putV m b v) else if y < 1 ∨ 9999 < y then some (some (.int (-2)), h, putV m b v) else some (some (.int (v 2 x.toNatClampNeg 2)), h, putV m b (vs v 2 x.toNatClampNeg 2 y)) := by
  obtain ⟨q0, ⟨q1, r1⟩, ⟨q2, r2⟩, ⟨q3, r3⟩, ⟨q4, r4⟩, q5, ⟨q6, r6⟩, q7, q8, q9, f0, f6, f7, f8, f9, f10⟩ := id hH
  rcases bAt_of (b := b) (x := x) hn hv with ⟨k, hk, rfl, hb⟩ | ⟨hb, -⟩
  · obtain ⟨u1, u2, u3, u4⟩ := q7 k (by omega)
    have hk6 : k < 6 := by omega
    have e1 : evSetM (putV m b v) (hB b k) 2 y = putV m b (vs v 2 k 2 y) := ps_B hk6 (by omega)
    have e2 : putV m b v (hB b k) 2 = v 2 k 2 := pv_B hk6 (by omega)
    by_cases h1 : y < 1
    · simp only [x17_0, x17_1, x17_2, x17_5, x17_5n, x17_5q, x17_6, x17_7n, x17_7, x17_7q, x17_10, x17_11, x17_12, x17_13, x17_14, x17_17, x17_18, x17_21, x17_24, x17_26, x17_27, x17_28, x17_31, x17_33, x17_34, x17_35, x17_38, x17_40, evI_i, evJl_i, evJf_i, evJd_i, evA_r, evA_n, evA_q, evLk_c, evS1_d, evS2_d, evFl_n, evFl_c, evGl_n, evGl_c, evIn_n, evIn_c, evCat_i, evCat_l, evCat_f, evCat_d, evCat_r, evCat_z, evCat_q, evBd_some, evTl_s, evTl_n, va_rf_s, va_rf_n, and_true, true_and, and_false, false_and, if_true, if_false, not_true_eq_false, not_false_eq_true, reduceCtorEq, ↓reduceIte, Nat.reduceAdd, Nat.reduceEqDiff, Nat.reduceLT, Nat.reduceLeDiff, Nat.reduceSub, Nat.zero_ne_one, Nat.one_ne_zero, q0, c_bidderAt hH, hb, u1, h1, true_or]
    · by_cases h2 : 9999 < y
      · have h2' : ¬ y ≤ 9999 := fun q => i32_ff q h2
        have h1' : 1 ≤ y := Int32.not_lt.mp h1
        simp only [x17_0, x17_1, x17_2, x17_5, x17_5n, x17_5q, x17_6, x17_7n, x17_7, x17_7q, x17_10, x17_11, x17_12, x17_13, x17_14, x17_17, x17_18, x17_21, x17_24, x17_26, x17_27, x17_28, x17_31, x17_33, x17_34, x17_35, x17_38, x17_40, evI_i, evJl_i, evJf_i, evJd_i, evA_r, evA_n, evA_q, evLk_c, evS1_d, evS2_d, evFl_n, evFl_c, evGl_n, evGl_c, evIn_n, evIn_c, evCat_i, evCat_l, evCat_f, evCat_d, evCat_r, evCat_z, evCat_q, evBd_some, evTl_s, evTl_n, va_rf_s, va_rf_n, and_true, true_and, and_false, false_and, if_true, if_false, not_true_eq_false, not_false_eq_true, reduceCtorEq, ↓reduceIte, Nat.reduceAdd, Nat.reduceEqDiff, Nat.reduceLT, Nat.reduceLeDiff, Nat.reduceSub, Nat.zero_ne_one, Nat.one_ne_zero, q0, c_bidderAt hH, hb, u1, h1, h1', h2, h2', or_true]
      · have h2' : y ≤ 9999 := Int32.not_lt.mp h2
        have h1' : 1 ≤ y := Int32.not_lt.mp h1
        simp only [x17_0, x17_1, x17_2, x17_5, x17_5n, x17_5q, x17_6, x17_7n, x17_7, x17_7q, x17_10, x17_11, x17_12, x17_13, x17_14, x17_17, x17_18, x17_21, x17_24, x17_26, x17_27, x17_28, x17_31, x17_33, x17_34, x17_35, x17_38, x17_40, evI_i, evJl_i, evJf_i, evJd_i, evA_r, evA_n, evA_q, evLk_c, evS1_d, evS2_d, evFl_n, evFl_c, evGl_n, evGl_c, evIn_n, evIn_c, evCat_i, evCat_l, evCat_f, evCat_d, evCat_r, evCat_z, evCat_q, evBd_some, evTl_s, evTl_n, va_rf_s, va_rf_n, and_true, true_and, and_false, false_and, if_true, if_false, not_true_eq_false, not_false_eq_true, reduceCtorEq, ↓reduceIte, Nat.reduceAdd, Nat.reduceEqDiff, Nat.reduceLT, Nat.reduceLeDiff, Nat.reduceSub, Nat.zero_ne_one, Nat.one_ne_zero, q0, c_bidderAt hH, hb, u1, h1, h1', h2, h2', or_self, e1, e2, nI_cl k (by omega)]
  · simp only [x17_0, x17_1, x17_2, x17_5, x17_5n, x17_5q, x17_6, x17_7n, x17_7, x17_7q, x17_10, x17_11, x17_12, x17_13, x17_14, x17_17, x17_18, x17_21, x17_24, x17_26, x17_27, x17_28, x17_31, x17_33, x17_34, x17_35, x17_38, x17_40, evI_i, evJl_i, evJf_i, evJd_i, evA_r, evA_n, evA_q, evLk_c, evS1_d, evS2_d, evFl_n, evFl_c, evGl_n, evGl_c, evIn_n, evIn_c, evCat_i, evCat_l, evCat_f, evCat_d, evCat_r, evCat_z, evCat_q, evBd_some, evTl_s, evTl_n, va_rf_s, va_rf_n, and_true, true_and, and_false, false_and, if_true, if_false, not_true_eq_false, not_false_eq_true, reduceCtorEq, ↓reduceIte, Nat.reduceAdd, Nat.reduceEqDiff, Nat.reduceLT, Nat.reduceLeDiff, Nat.reduceSub, Nat.zero_ne_one, Nat.one_ne_zero, q0, c_bidderAt hH, hb]
theorem c_changePlan (hH : evHall h b) {n : Nat} (hn : n ≤ 6) (hv : v 1 0 0 = nI n) (x y : Int32) : evX 15 0 [(0, .ref b), (1, .int x), (2, .int y)] [] h (putV m b v) = if bAt v b x = none then some (some (.int (-1)), h, putV m b v) else if y < 0 ∨ 200 < y then some (some (.int (-2)), h, putV m b v) else some (some (.int (v 2 x.toNatClampNeg 1)), h, putV m b (vs v 2 x.toNatClampNeg 1 y)) := by
  obtain ⟨q0, ⟨q1, r1⟩, ⟨q2, r2⟩, ⟨q3, r3⟩, ⟨q4, r4⟩, q5, ⟨q6, r6⟩, q7, q8, q9, f0, f6, f7, f8, f9, f10⟩ := id hH
  rcases bAt_of (b := b) (x := x) hn hv with ⟨k, hk, rfl, hb⟩ | ⟨hb, -⟩
  · obtain ⟨u1, u2, u3, u4⟩ := q7 k (by omega)
    have hk6 : k < 6 := by omega
    have e1 : evSetM (putV m b v) (hB b k) 1 y = putV m b (vs v 2 k 1 y) := ps_B hk6 (by omega)
    have e2 : putV m b v (hB b k) 1 = v 2 k 1 := pv_B hk6 (by omega)
    by_cases h1 : y < 0
    · simp only [x15_0, x15_1, x15_2, x15_5, x15_5n, x15_5q, x15_6, x15_7n, x15_7, x15_7q, x15_10, x15_11, x15_12, x15_13, x15_16, x15_17, x15_20, x15_23, x15_25, x15_26, x15_27, x15_30, x15_32, x15_33, x15_34, x15_37, x15_39, evI_i, evJl_i, evJf_i, evJd_i, evA_r, evA_n, evA_q, evLk_c, evS1_d, evS2_d, evFl_n, evFl_c, evGl_n, evGl_c, evIn_n, evIn_c, evCat_i, evCat_l, evCat_f, evCat_d, evCat_r, evCat_z, evCat_q, evBd_some, evTl_s, evTl_n, va_rf_s, va_rf_n, and_true, true_and, and_false, false_and, if_true, if_false, not_true_eq_false, not_false_eq_true, reduceCtorEq, ↓reduceIte, Nat.reduceAdd, Nat.reduceEqDiff, Nat.reduceLT, Nat.reduceLeDiff, Nat.reduceSub, Nat.zero_ne_one, Nat.one_ne_zero, q0, c_bidderAt hH, hb, u1, h1, true_or]
    · by_cases h2 : 200 < y
      · have h2' : ¬ y ≤ 200 := fun q => i32_ff q h2
        simp only [x15_0, x15_1, x15_2, x15_5, x15_5n, x15_5q, x15_6, x15_7n, x15_7, x15_7q, x15_10, x15_11, x15_12, x15_13, x15_16, x15_17, x15_20, x15_23, x15_25, x15_26, x15_27, x15_30, x15_32, x15_33, x15_34, x15_37, x15_39, evI_i, evJl_i, evJf_i, evJd_i, evA_r, evA_n, evA_q, evLk_c, evS1_d, evS2_d, evFl_n, evFl_c, evGl_n, evGl_c, evIn_n, evIn_c, evCat_i, evCat_l, evCat_f, evCat_d, evCat_r, evCat_z, evCat_q, evBd_some, evTl_s, evTl_n, va_rf_s, va_rf_n, and_true, true_and, and_false, false_and, if_true, if_false, not_true_eq_false, not_false_eq_true, reduceCtorEq, ↓reduceIte, Nat.reduceAdd, Nat.reduceEqDiff, Nat.reduceLT, Nat.reduceLeDiff, Nat.reduceSub, Nat.zero_ne_one, Nat.one_ne_zero, q0, c_bidderAt hH, hb, u1, h1, h2, h2', or_true]
      · have h2' : y ≤ 200 := Int32.not_lt.mp h2
        simp only [x15_0, x15_1, x15_2, x15_5, x15_5n, x15_5q, x15_6, x15_7n, x15_7, x15_7q, x15_10, x15_11, x15_12, x15_13, x15_16, x15_17, x15_20, x15_23, x15_25, x15_26, x15_27, x15_30, x15_32, x15_33, x15_34, x15_37, x15_39, evI_i, evJl_i, evJf_i, evJd_i, evA_r, evA_n, evA_q, evLk_c, evS1_d, evS2_d, evFl_n, evFl_c, evGl_n, evGl_c, evIn_n, evIn_c, evCat_i, evCat_l, evCat_f, evCat_d, evCat_r, evCat_z, evCat_q, evBd_some, evTl_s, evTl_n, va_rf_s, va_rf_n, and_true, true_and, and_false, false_and, if_true, if_false, not_true_eq_false, not_false_eq_true, reduceCtorEq, ↓reduceIte, Nat.reduceAdd, Nat.reduceEqDiff, Nat.reduceLT, Nat.reduceLeDiff, Nat.reduceSub, Nat.zero_ne_one, Nat.one_ne_zero, q0, c_bidderAt hH, hb, u1, h1, h2, h2', or_self, e1, e2, nI_cl k (by omega)]
  · simp only [x15_0, x15_1, x15_2, x15_5, x15_5n, x15_5q, x15_6, x15_7n, x15_7, x15_7q, x15_10, x15_11, x15_12, x15_13, x15_16, x15_17, x15_20, x15_23, x15_25, x15_26, x15_27, x15_30, x15_32, x15_33, x15_34, x15_37, x15_39, evI_i, evJl_i, evJf_i, evJd_i, evA_r, evA_n, evA_q, evLk_c, evS1_d, evS2_d, evFl_n, evFl_c, evGl_n, evGl_c, evIn_n, evIn_c, evCat_i, evCat_l, evCat_f, evCat_d, evCat_r, evCat_z, evCat_q, evBd_some, evTl_s, evTl_n, va_rf_s, va_rf_n, and_true, true_and, and_false, false_and, if_true, if_false, not_true_eq_false, not_false_eq_true, reduceCtorEq, ↓reduceIte, Nat.reduceAdd, Nat.reduceEqDiff, Nat.reduceLT, Nat.reduceLeDiff, Nat.reduceSub, Nat.zero_ne_one, Nat.one_ne_zero, q0, c_bidderAt hH, hb]
end H1
