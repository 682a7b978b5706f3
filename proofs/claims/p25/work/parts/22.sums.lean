/-! sums over the bidders; a new bidder, a new lot, a setting -/
def sumV (v : evVt) (p : Nat) : Nat → Int32
  | 0 => 0
  | k + 1 => sumV v p k + v 2 k p
def soldV (v : evVt) : Nat → Int32
  | 0 => 0
  | k + 1 => if v 4 k 1 = 2 then soldV v k + 1 else soldV v k
theorem sumV_s (v : evVt) (p k : Nat) : sumV v p (k + 1) = sumV v p k + v 2 k p := rfl
theorem soldV_s (v : evVt) (k : Nat) : soldV v (k + 1) = if v 4 k 1 = 2 then soldV v k + 1 else soldV v k := rfl
section SM
variable {h : evH} {m : evM} {b : Nat} {v : evVt}
def lvS (b : Nat) (s : Int32) (k : Nat) : evL := match k with
  | 0 => [(0, .ref b), (1, .int s), (2, .int (nI 0))]
  | k + 1 => [(0, .ref b), (1, .int s), (2, .int (nI (k + 1))), (3, .ref (hB b k))]
def lvSl (b : Nat) (s : Int32) (k : Nat) : evL := match k with
  | 0 => [(0, .ref b), (1, .int s), (2, .int (nI 0))]
  | k + 1 => [(0, .ref b), (1, .int s), (2, .int (nI (k + 1))), (3, .ref (hL b k))]
theorem c_coinsPaid (hH : evHall h b) {n : Nat} (hn : n ≤ 6) (hv : v 1 0 0 = nI n) : evX 31 0 [(0, .ref b)] [] h (putV m b v) = some (some (.int (sumV v 4 n)), h, putV m b v) := by
  obtain ⟨q0, ⟨q1, r1⟩, ⟨q2, r2⟩, ⟨q3, r3⟩, ⟨q4, r4⟩, q5, ⟨q6, r6⟩, q7, q8, q9, f0, f6, f7, f8, f9, f10⟩ := id hH
  have loop := loop_up (G := fun k => evX 31 4 (lvS b (sumV v 4 k) k) [] h (putV m b v)) (n := n) (fun k hk => by
    have hk6 : k < 6 := by omega
    obtain ⟨u1, u2, u3, u4⟩ := q7 k hk6
    have d1 : putV m b v (hB b k) 4 = v 2 k 4 := pv_B hk6 (by omega)
    have hlt : ¬ nI n ≤ nI k := nI_ge hk (by omega)
    have hs : nI k + 1 = nI (k + 1) := (nI_succ k).symm
    have hb := bAt_in (b := b) hk hn hv
    show _ = evX 31 4 [(0, .ref b), (1, .int (sumV v 4 (k + 1))), (2, .int (nI (k + 1))), (3, .ref (hB b k))] [] h (putV m b v)
    rw [sumV_s]
    cases k <;>
      (conv => lhs; unfold lvS; rw [x31_4]) <;>
      simp only [x31_0, x31_1, x31_2, x31_3, x31_5, x31_6, x31_9, x31_12, x31_13, x31_14, x31_17, x31_17n, x31_17q, x31_18, x31_19, x31_20n, x31_20, x31_20q, x31_23, x31_24, x31_27, x31_28, x31_31, x31_32, x31_33, x31_36, x31_39, x31_40, evI_i, evJl_i, evJf_i, evJd_i, evA_r, evA_n, evA_q, evLk_c, evS1_d, evS2_d, evFl_n, evFl_c, evGl_n, evGl_c, evIn_n, evIn_c, evCat_i, evCat_l, evCat_f, evCat_d, evCat_r, evCat_z, evCat_q, evBd_some, evTl_s, evTl_n, va_rf_s, va_rf_n, and_true, true_and, and_false, false_and, if_true, if_false, not_true_eq_false, not_false_eq_true, reduceCtorEq, ↓reduceIte, Nat.reduceAdd, Nat.reduceEqDiff, Nat.reduceLT, Nat.reduceLeDiff, Nat.reduceSub, Nat.zero_ne_one, Nat.one_ne_zero, q0, q1, r1, q2, r2, q3, r3, q4, r4, q5, q6, r6, f0, f6, f7, f8, f9, f10, pv_H1, pv_H2, pv_H3, pv_H4, pv_H5, pv_St, pv_Rc, pv_Rr, ps_H1, ps_H2, ps_H3, ps_H4, ps_H5, ps_St, ps_Rc, ps_Rr, hv, hlt, c_bidderAt hH, hb, u1, d1, hs])
  have start : evX 31 0 [(0, .ref b)] [] h (putV m b v) = evX 31 4 (lvS b (sumV v 4 0) 0) [] h (putV m b v) := by
    simp only [x31_0, x31_1, x31_2, x31_3, evI_i, evJl_i, evJf_i, evJd_i, evA_r, evA_n, evA_q, evLk_c, evS1_d, evS2_d, evFl_n, evFl_c, evGl_n, evGl_c, evIn_n, evIn_c, evCat_i, evCat_l, evCat_f, evCat_d, evCat_r, evCat_z, evCat_q, evBd_some, evTl_s, evTl_n, va_rf_s, va_rf_n, and_true, true_and, and_false, false_and, if_true, if_false, not_true_eq_false, not_false_eq_true, reduceCtorEq, ↓reduceIte, Nat.reduceAdd, Nat.reduceEqDiff, Nat.reduceLT, Nat.reduceLeDiff, Nat.reduceSub, Nat.zero_ne_one, Nat.one_ne_zero]
    rfl
  rw [start]
  refine loop.trans ?_
  have hge : nI n ≤ nI n := Int32.le_refl _
  show evX 31 4 (lvS b (sumV v 4 n) n) [] h (putV m b v) = _
  cases n <;> (unfold lvS; simp only [x31_0, x31_1, x31_2, x31_3, x31_4, x31_5, x31_6, x31_9, x31_12, x31_13, x31_14, x31_17, x31_17n, x31_17q, x31_18, x31_19, x31_20n, x31_20, x31_20q, x31_23, x31_24, x31_27, x31_28, x31_31, x31_32, x31_33, x31_36, x31_39, x31_40, evI_i, evJl_i, evJf_i, evJd_i, evA_r, evA_n, evA_q, evLk_c, evS1_d, evS2_d, evFl_n, evFl_c, evGl_n, evGl_c, evIn_n, evIn_c, evCat_i, evCat_l, evCat_f, evCat_d, evCat_r, evCat_z, evCat_q, evBd_some, evTl_s, evTl_n, va_rf_s, va_rf_n, and_true, true_and, and_false, false_and, if_true, if_false, not_true_eq_false, not_false_eq_true, reduceCtorEq, ↓reduceIte, Nat.reduceAdd, Nat.reduceEqDiff, Nat.reduceLT, Nat.reduceLeDiff, Nat.reduceSub, Nat.zero_ne_one, Nat.one_ne_zero, q0, q1, r1, q2, r2, q3, r3, q4, r4, q5, q6, r6, f0, f6, f7, f8, f9, f10, pv_H1, pv_H2, pv_H3, pv_H4, pv_H5, pv_St, pv_Rc, pv_Rr, ps_H1, ps_H2, ps_H3, ps_H4, ps_H5, ps_St, ps_Rc, ps_Rr, hv, hge])
theorem c_bidsMade (hH : evHall h b) {n : Nat} (hn : n ≤ 6) (hv : v 1 0 0 = nI n) : evX 32 0 [(0, .ref b)] [] h (putV m b v) = some (some (.int (sumV v 6 n)), h, putV m b v) := by
  obtain ⟨q0, ⟨q1, r1⟩, ⟨q2, r2⟩, ⟨q3, r3⟩, ⟨q4, r4⟩, q5, ⟨q6, r6⟩, q7, q8, q9, f0, f6, f7, f8, f9, f10⟩ := id hH
  have loop := loop_up (G := fun k => evX 32 4 (lvS b (sumV v 6 k) k) [] h (putV m b v)) (n := n) (fun k hk => by
    have hk6 : k < 6 := by omega
    obtain ⟨u1, u2, u3, u4⟩ := q7 k hk6
    have d1 : putV m b v (hB b k) 6 = v 2 k 6 := pv_B hk6 (by omega)
    have hlt : ¬ nI n ≤ nI k := nI_ge hk (by omega)
    have hs : nI k + 1 = nI (k + 1) := (nI_succ k).symm
    have hb := bAt_in (b := b) hk hn hv
    show _ = evX 32 4 [(0, .ref b), (1, .int (sumV v 6 (k + 1))), (2, .int (nI (k + 1))), (3, .ref (hB b k))] [] h (putV m b v)
    rw [sumV_s]
    cases k <;>
      (conv => lhs; unfold lvS; rw [x32_4]) <;>
      simp only [x32_0, x32_1, x32_2, x32_3, x32_5, x32_6, x32_9, x32_12, x32_13, x32_14, x32_17, x32_17n, x32_17q, x32_18, x32_19, x32_20n, x32_20, x32_20q, x32_23, x32_24, x32_27, x32_28, x32_31, x32_32, x32_33, x32_36, x32_39, x32_40, evI_i, evJl_i, evJf_i, evJd_i, evA_r, evA_n, evA_q, evLk_c, evS1_d, evS2_d, evFl_n, evFl_c, evGl_n, evGl_c, evIn_n, evIn_c, evCat_i, evCat_l, evCat_f, evCat_d, evCat_r, evCat_z, evCat_q, evBd_some, evTl_s, evTl_n, va_rf_s, va_rf_n, and_true, true_and, and_false, false_and, if_true, if_false, not_true_eq_false, not_false_eq_true, reduceCtorEq, ↓reduceIte, Nat.reduceAdd, Nat.reduceEqDiff, Nat.reduceLT, Nat.reduceLeDiff, Nat.reduceSub, Nat.zero_ne_one, Nat.one_ne_zero, q0, q1, r1, q2, r2, q3, r3, q4, r4, q5, q6, r6, f0, f6, f7, f8, f9, f10, pv_H1, pv_H2, pv_H3, pv_H4, pv_H5, pv_St, pv_Rc, pv_Rr, ps_H1, ps_H2, ps_H3, ps_H4, ps_H5, ps_St, ps_Rc, ps_Rr, hv, hlt, c_bidderAt hH, hb, u1, d1, hs])
  have start : evX 32 0 [(0, .ref b)] [] h (putV m b v) = evX 32 4 (lvS b (sumV v 6 0) 0) [] h (putV m b v) := by
    simp only [x32_0, x32_1, x32_2, x32_3, evI_i, evJl_i, evJf_i, evJd_i, evA_r, evA_n, evA_q, evLk_c, evS1_d, evS2_d, evFl_n, evFl_c, evGl_n, evGl_c, evIn_n, evIn_c, evCat_i, evCat_l, evCat_f, evCat_d, evCat_r, evCat_z, evCat_q, evBd_some, evTl_s, evTl_n, va_rf_s, va_rf_n, and_true, true_and, and_false, false_and, if_true, if_false, not_true_eq_false, not_false_eq_true, reduceCtorEq, ↓reduceIte, Nat.reduceAdd, Nat.reduceEqDiff, Nat.reduceLT, Nat.reduceLeDiff, Nat.reduceSub, Nat.zero_ne_one, Nat.one_ne_zero]
    rfl
  rw [start]
  refine loop.trans ?_
  have hge : nI n ≤ nI n := Int32.le_refl _
  show evX 32 4 (lvS b (sumV v 6 n) n) [] h (putV m b v) = _
  cases n <;> (unfold lvS; simp only [x32_0, x32_1, x32_2, x32_3, x32_4, x32_5, x32_6, x32_9, x32_12, x32_13, x32_14, x32_17, x32_17n, x32_17q, x32_18, x32_19, x32_20n, x32_20, x32_20q, x32_23, x32_24, x32_27, x32_28, x32_31, x32_32, x32_33, x32_36, x32_39, x32_40, evI_i, evJl_i, evJf_i, evJd_i, evA_r, evA_n, evA_q, evLk_c, evS1_d, evS2_d, evFl_n, evFl_c, evGl_n, evGl_c, evIn_n, evIn_c, evCat_i, evCat_l, evCat_f, evCat_d, evCat_r, evCat_z, evCat_q, evBd_some, evTl_s, evTl_n, va_rf_s, va_rf_n, and_true, true_and, and_false, false_and, if_true, if_false, not_true_eq_false, not_false_eq_true, reduceCtorEq, ↓reduceIte, Nat.reduceAdd, Nat.reduceEqDiff, Nat.reduceLT, Nat.reduceLeDiff, Nat.reduceSub, Nat.zero_ne_one, Nat.one_ne_zero, q0, q1, r1, q2, r2, q3, r3, q4, r4, q5, q6, r6, f0, f6, f7, f8, f9, f10, pv_H1, pv_H2, pv_H3, pv_H4, pv_H5, pv_St, pv_Rc, pv_Rr, ps_H1, ps_H2, ps_H3, ps_H4, ps_H5, ps_St, ps_Rc, ps_Rr, hv, hge])
theorem c_shadowsMade (hH : evHall h b) {n : Nat} (hn : n ≤ 6) (hv : v 1 0 0 = nI n) : evX 33 0 [(0, .ref b)] [] h (putV m b v) = some (some (.int (sumV v 7 n)), h, putV m b v) := by
  obtain ⟨q0, ⟨q1, r1⟩, ⟨q2, r2⟩, ⟨q3, r3⟩, ⟨q4, r4⟩, q5, ⟨q6, r6⟩, q7, q8, q9, f0, f6, f7, f8, f9, f10⟩ := id hH
  have loop := loop_up (G := fun k => evX 33 4 (lvS b (sumV v 7 k) k) [] h (putV m b v)) (n := n) (fun k hk => by
    have hk6 : k < 6 := by omega
    obtain ⟨u1, u2, u3, u4⟩ := q7 k hk6
    have d1 : putV m b v (hB b k) 7 = v 2 k 7 := pv_B hk6 (by omega)
    have hlt : ¬ nI n ≤ nI k := nI_ge hk (by omega)
    have hs : nI k + 1 = nI (k + 1) := (nI_succ k).symm
    have hb := bAt_in (b := b) hk hn hv
    show _ = evX 33 4 [(0, .ref b), (1, .int (sumV v 7 (k + 1))), (2, .int (nI (k + 1))), (3, .ref (hB b k))] [] h (putV m b v)
    rw [sumV_s]
    cases k <;>
      (conv => lhs; unfold lvS; rw [x33_4]) <;>
      simp only [x33_0, x33_1, x33_2, x33_3, x33_5, x33_6, x33_9, x33_12, x33_13, x33_14, x33_17, x33_17n, x33_17q, x33_18, x33_19, x33_20n, x33_20, x33_20q, x33_23, x33_24, x33_27, x33_28, x33_31, x33_32, x33_33, x33_36, x33_39, x33_40, evI_i, evJl_i, evJf_i, evJd_i, evA_r, evA_n, evA_q, evLk_c, evS1_d, evS2_d, evFl_n, evFl_c, evGl_n, evGl_c, evIn_n, evIn_c, evCat_i, evCat_l, evCat_f, evCat_d, evCat_r, evCat_z, evCat_q, evBd_some, evTl_s, evTl_n, va_rf_s, va_rf_n, and_true, true_and, and_false, false_and, if_true, if_false, not_true_eq_false, not_false_eq_true, reduceCtorEq, ↓reduceIte, Nat.reduceAdd, Nat.reduceEqDiff, Nat.reduceLT, Nat.reduceLeDiff, Nat.reduceSub, Nat.zero_ne_one, Nat.one_ne_zero, q0, q1, r1, q2, r2, q3, r3, q4, r4, q5, q6, r6, f0, f6, f7, f8, f9, f10, pv_H1, pv_H2, pv_H3, pv_H4, pv_H5, pv_St, pv_Rc, pv_Rr, ps_H1, ps_H2, ps_H3, ps_H4, ps_H5, ps_St, ps_Rc, ps_Rr, hv, hlt, c_bidderAt hH, hb, u1, d1, hs])
  have start : evX 33 0 [(0, .ref b)] [] h (putV m b v) = evX 33 4 (lvS b (sumV v 7 0) 0) [] h (putV m b v) := by
    simp only [x33_0, x33_1, x33_2, x33_3, evI_i, evJl_i, evJf_i, evJd_i, evA_r, evA_n, evA_q, evLk_c, evS1_d, evS2_d, evFl_n, evFl_c, evGl_n, evGl_c, evIn_n, evIn_c, evCat_i, evCat_l, evCat_f, evCat_d, evCat_r, evCat_z, evCat_q, evBd_some, evTl_s, evTl_n, va_rf_s, va_rf_n, and_true, true_and, and_false, false_and, if_true, if_false, not_true_eq_false, not_false_eq_true, reduceCtorEq, ↓reduceIte, Nat.reduceAdd, Nat.reduceEqDiff, Nat.reduceLT, Nat.reduceLeDiff, Nat.reduceSub, Nat.zero_ne_one, Nat.one_ne_zero]
    rfl
  rw [start]
  refine loop.trans ?_
  have hge : nI n ≤ nI n := Int32.le_refl _
  show evX 33 4 (lvS b (sumV v 7 n) n) [] h (putV m b v) = _
  cases n <;> (unfold lvS; simp only [x33_0, x33_1, x33_2, x33_3, x33_4, x33_5, x33_6, x33_9, x33_12, x33_13, x33_14, x33_17, x33_17n, x33_17q, x33_18, x33_19, x33_20n, x33_20, x33_20q, x33_23, x33_24, x33_27, x33_28, x33_31, x33_32, x33_33, x33_36, x33_39, x33_40, evI_i, evJl_i, evJf_i, evJd_i, evA_r, evA_n, evA_q, evLk_c, evS1_d, evS2_d, evFl_n, evFl_c, evGl_n, evGl_c, evIn_n, evIn_c, evCat_i, evCat_l, evCat_f, evCat_d, evCat_r, evCat_z, evCat_q, evBd_some, evTl_s, evTl_n, va_rf_s, va_rf_n, and_true, true_and, and_false, false_and, if_true, if_false, not_true_eq_false, not_false_eq_true, reduceCtorEq, ↓reduceIte, Nat.reduceAdd, Nat.reduceEqDiff, Nat.reduceLT, Nat.reduceLeDiff, Nat.reduceSub, Nat.zero_ne_one, Nat.one_ne_zero, q0, q1, r1, q2, r2, q3, r3, q4, r4, q5, q6, r6, f0, f6, f7, f8, f9, f10, pv_H1, pv_H2, pv_H3, pv_H4, pv_H5, pv_St, pv_Rc, pv_Rr, ps_H1, ps_H2, ps_H3, ps_H4, ps_H5, ps_St, ps_Rc, ps_Rr, hv, hge])
theorem c_lotsSold (hH : evHall h b) {n : Nat} (hn : n ≤ 8) (hv : v 1 1 0 = nI n) : evX 30 0 [(0, .ref b)] [] h (putV m b v) = some (some (.int (soldV v n)), h, putV m b v) := by
  obtain ⟨q0, ⟨q1, r1⟩, ⟨q2, r2⟩, ⟨q3, r3⟩, ⟨q4, r4⟩, q5, ⟨q6, r6⟩, q7, q8, q9, f0, f6, f7, f8, f9, f10⟩ := id hH
  have loop := loop_up (G := fun k => evX 30 4 (lvSl b (soldV v k) k) [] h (putV m b v)) (n := n) (fun k hk => by
    have hk8 : k < 8 := by omega
    obtain ⟨u1, u2, u3, u4⟩ := q8 k hk8
    have d1 : putV m b v (hL b k) 1 = v 4 k 1 := pv_L hk8 (by omega)
    have hlt : ¬ nI n ≤ nI k := nI_ge hk (by omega)
    have hs : nI k + 1 = nI (k + 1) := (nI_succ k).symm
    have hb := lAt_in (b := b) hk hn hv
    show _ = evX 30 4 [(0, .ref b), (1, .int (soldV v (k + 1))), (2, .int (nI (k + 1))), (3, .ref (hL b k))] [] h (putV m b v)
    rw [soldV_s]
    by_cases h2 : v 4 k 1 = 2 <;>
    cases k <;>
      (conv => lhs; unfold lvSl; rw [x30_4]) <;>
      simp only [x30_0, x30_1, x30_2, x30_3, x30_5, x30_6, x30_9, x30_12, x30_13, x30_14, x30_17, x30_17n, x30_17q, x30_18, x30_19n, x30_19, x30_19q, x30_22, x30_23, x30_26, x30_27, x30_30, x30_33, x30_36, x30_39, x30_40, evI_i, evJl_i, evJf_i, evJd_i, evA_r, evA_n, evA_q, evLk_c, evS1_d, evS2_d, evFl_n, evFl_c, evGl_n, evGl_c, evIn_n, evIn_c, evCat_i, evCat_l, evCat_f, evCat_d, evCat_r, evCat_z, evCat_q, evBd_some, evTl_s, evTl_n, va_rf_s, va_rf_n, and_true, true_and, and_false, false_and, if_true, if_false, not_true_eq_false, not_false_eq_true, reduceCtorEq, ↓reduceIte, Nat.reduceAdd, Nat.reduceEqDiff, Nat.reduceLT, Nat.reduceLeDiff, Nat.reduceSub, Nat.zero_ne_one, Nat.one_ne_zero, q0, q1, r1, q2, r2, q3, r3, q4, r4, q5, q6, r6, f0, f6, f7, f8, f9, f10, pv_H1, pv_H2, pv_H3, pv_H4, pv_H5, pv_St, pv_Rc, pv_Rr, ps_H1, ps_H2, ps_H3, ps_H4, ps_H5, ps_St, ps_Rc, ps_Rr, hv, hlt, c_lotAt hH, hb, u1, d1, hs, h2])
  have start : evX 30 0 [(0, .ref b)] [] h (putV m b v) = evX 30 4 (lvSl b (soldV v 0) 0) [] h (putV m b v) := by
    simp only [x30_0, x30_1, x30_2, x30_3, evI_i, evJl_i, evJf_i, evJd_i, evA_r, evA_n, evA_q, evLk_c, evS1_d, evS2_d, evFl_n, evFl_c, evGl_n, evGl_c, evIn_n, evIn_c, evCat_i, evCat_l, evCat_f, evCat_d, evCat_r, evCat_z, evCat_q, evBd_some, evTl_s, evTl_n, va_rf_s, va_rf_n, and_true, true_and, and_false, false_and, if_true, if_false, not_true_eq_false, not_false_eq_true, reduceCtorEq, ↓reduceIte, Nat.reduceAdd, Nat.reduceEqDiff, Nat.reduceLT, Nat.reduceLeDiff, Nat.reduceSub, Nat.zero_ne_one, Nat.one_ne_zero]
    rfl
  rw [start]
  refine loop.trans ?_
  have hge : nI n ≤ nI n := Int32.le_refl _
  show evX 30 4 (lvSl b (soldV v n) n) [] h (putV m b v) = _
  cases n <;> (unfold lvSl; simp only [x30_0, x30_1, x30_2, x30_3, x30_4, x30_5, x30_6, x30_9, x30_12, x30_13, x30_14, x30_17, x30_17n, x30_17q, x30_18, x30_19n, x30_19, x30_19q, x30_22, x30_23, x30_26, x30_27, x30_30, x30_33, x30_36, x30_39, x30_40, evI_i, evJl_i, evJf_i, evJd_i, evA_r, evA_n, evA_q, evLk_c, evS1_d, evS2_d, evFl_n, evFl_c, evGl_n, evGl_c, evIn_n, evIn_c, evCat_i, evCat_l, evCat_f, evCat_d, evCat_r, evCat_z, evCat_q, evBd_some, evTl_s, evTl_n, va_rf_s, va_rf_n, and_true, true_and, and_false, false_and, if_true, if_false, not_true_eq_false, not_false_eq_true, reduceCtorEq, ↓reduceIte, Nat.reduceAdd, Nat.reduceEqDiff, Nat.reduceLT, Nat.reduceLeDiff, Nat.reduceSub, Nat.zero_ne_one, Nat.one_ne_zero, q0, q1, r1, q2, r2, q3, r3, q4, r4, q5, q6, r6, f0, f6, f7, f8, f9, f10, pv_H1, pv_H2, pv_H3, pv_H4, pv_H5, pv_St, pv_Rc, pv_Rr, ps_H1, ps_H2, ps_H3, ps_H4, ps_H5, ps_St, ps_Rc, ps_Rr, hv, hge])
theorem c_addBidder (hH : evHall h b) {n : Nat} (hn : n ≤ 6) (hv : v 1 0 0 = nI n) (x y : Int32) : evX 14 0 [(0, .ref b), (1, .int x), (2, .int y)] [] h (putV m b v) = if (x < 0 ∨ 9999 < x) ∨ (y < 0 ∨ 200 < y) then some (some (.int (-2)), h, putV m b v) else if n = 6 then some (some (.int (-4)), h, putV m b v) else some (some (.int (nI n)), h, putV m b (vs (vs (vs v 1 0 0 (nI (n + 1))) 2 n 0 x) 2 n 1 y)) := by
  obtain ⟨q0, ⟨q1, r1⟩, ⟨q2, r2⟩, ⟨q3, r3⟩, ⟨q4, r4⟩, q5, ⟨q6, r6⟩, q7, q8, q9, f0, f6, f7, f8, f9, f10⟩ := id hH
  by_cases h1 : x < 0
  · simp only [x14_0, x14_1, x14_4, x14_5, x14_8, x14_11, x14_12, x14_15, x14_16, x14_19, x14_22, x14_24, x14_25, x14_26, x14_29, x14_31, x14_34, x14_36, x14_37, x14_38, x14_39, x14_42, x14_43, evI_i, evJl_i, evJf_i, evJd_i, evA_r, evA_n, evA_q, evLk_c, evS1_d, evS2_d, evFl_n, evFl_c, evGl_n, evGl_c, evIn_n, evIn_c, evCat_i, evCat_l, evCat_f, evCat_d, evCat_r, evCat_z, evCat_q, evBd_some, evTl_s, evTl_n, va_rf_s, va_rf_n, and_true, true_and, and_false, false_and, if_true, if_false, not_true_eq_false, not_false_eq_true, reduceCtorEq, ↓reduceIte, Nat.reduceAdd, Nat.reduceEqDiff, Nat.reduceLT, Nat.reduceLeDiff, Nat.reduceSub, Nat.zero_ne_one, Nat.one_ne_zero, h1, true_or]
  · have h1' : 0 ≤ x := Int32.not_lt.mp h1
    by_cases h2 : 9999 < x
    · have h2' : ¬ x ≤ 9999 := fun q => i32_ff q h2
      simp only [x14_0, x14_1, x14_4, x14_5, x14_8, x14_11, x14_12, x14_15, x14_16, x14_19, x14_22, x14_24, x14_25, x14_26, x14_29, x14_31, x14_34, x14_36, x14_37, x14_38, x14_39, x14_42, x14_43, evI_i, evJl_i, evJf_i, evJd_i, evA_r, evA_n, evA_q, evLk_c, evS1_d, evS2_d, evFl_n, evFl_c, evGl_n, evGl_c, evIn_n, evIn_c, evCat_i, evCat_l, evCat_f, evCat_d, evCat_r, evCat_z, evCat_q, evBd_some, evTl_s, evTl_n, va_rf_s, va_rf_n, and_true, true_and, and_false, false_and, if_true, if_false, not_true_eq_false, not_false_eq_true, reduceCtorEq, ↓reduceIte, Nat.reduceAdd, Nat.reduceEqDiff, Nat.reduceLT, Nat.reduceLeDiff, Nat.reduceSub, Nat.zero_ne_one, Nat.one_ne_zero, h1, h1', h2, h2', true_or, or_true]
    · have h2' : x ≤ 9999 := Int32.not_lt.mp h2
      by_cases h3 : y < 0
      · simp only [x14_0, x14_1, x14_4, x14_5, x14_8, x14_11, x14_12, x14_15, x14_16, x14_19, x14_22, x14_24, x14_25, x14_26, x14_29, x14_31, x14_34, x14_36, x14_37, x14_38, x14_39, x14_42, x14_43, evI_i, evJl_i, evJf_i, evJd_i, evA_r, evA_n, evA_q, evLk_c, evS1_d, evS2_d, evFl_n, evFl_c, evGl_n, evGl_c, evIn_n, evIn_c, evCat_i, evCat_l, evCat_f, evCat_d, evCat_r, evCat_z, evCat_q, evBd_some, evTl_s, evTl_n, va_rf_s, va_rf_n, and_true, true_and, and_false, false_and, if_true, if_false, not_true_eq_false, not_false_eq_true, reduceCtorEq, ↓reduceIte, Nat.reduceAdd, Nat.reduceEqDiff, Nat.reduceLT, Nat.reduceLeDiff, Nat.reduceSub, Nat.zero_ne_one, Nat.one_ne_zero, h1, h1', h2, h2', h3, true_or, or_true]
      · have h3' : 0 ≤ y := Int32.not_lt.mp h3
        by_cases h4 : 200 < y
        · have h4' : ¬ y ≤ 200 := fun q => i32_ff q h4
          simp only [x14_0, x14_1, x14_4, x14_5, x14_8, x14_11, x14_12, x14_15, x14_16, x14_19, x14_22, x14_24, x14_25, x14_26, x14_29, x14_31, x14_34, x14_36, x14_37, x14_38, x14_39, x14_42, x14_43, evI_i, evJl_i, evJf_i, evJd_i, evA_r, evA_n, evA_q, evLk_c, evS1_d, evS2_d, evFl_n, evFl_c, evGl_n, evGl_c, evIn_n, evIn_c, evCat_i, evCat_l, evCat_f, evCat_d, evCat_r, evCat_z, evCat_q, evBd_some, evTl_s, evTl_n, va_rf_s, va_rf_n, and_true, true_and, and_false, false_and, if_true, if_false, not_true_eq_false, not_false_eq_true, reduceCtorEq, ↓reduceIte, Nat.reduceAdd, Nat.reduceEqDiff, Nat.reduceLT, Nat.reduceLeDiff, Nat.reduceSub, Nat.zero_ne_one, Nat.one_ne_zero, h1, h1', h2, h2', h3, h3', h4, h4', or_true]
        · have h4' : y ≤ 200 := Int32.not_lt.mp h4
          by_cases h5 : n = 6
          · have h5' : (6 : Int32) ≤ v 1 0 0 := by rw [hv, h5]; decide
            have h5'' : ¬ v 1 0 0 < 6 := fun q => i32_ff h5' q
            simp only [x14_0, x14_1, x14_4, x14_5, x14_8, x14_11, x14_12, x14_15, x14_16, x14_19, x14_22, x14_24, x14_25, x14_26, x14_29, x14_31, x14_34, x14_36, x14_37, x14_38, x14_39, x14_42, x14_43, evI_i, evJl_i, evJf_i, evJd_i, evA_r, evA_n, evA_q, evLk_c, evS1_d, evS2_d, evFl_n, evFl_c, evGl_n, evGl_c, evIn_n, evIn_c, evCat_i, evCat_l, evCat_f, evCat_d, evCat_r, evCat_z, evCat_q, evBd_some, evTl_s, evTl_n, va_rf_s, va_rf_n, and_true, true_and, and_false, false_and, if_true, if_false, not_true_eq_false, not_false_eq_true, reduceCtorEq, ↓reduceIte, Nat.reduceAdd, Nat.reduceEqDiff, Nat.reduceLT, Nat.reduceLeDiff, Nat.reduceSub, Nat.zero_ne_one, Nat.one_ne_zero, q0, q1, r1, q2, r2, q3, r3, q4, r4, q5, q6, r6, f0, f6, f7, f8, f9, f10, pv_H1, pv_H2, pv_H3, pv_H4, pv_H5, pv_St, pv_Rc, pv_Rr, ps_H1, ps_H2, ps_H3, ps_H4, ps_H5, ps_St, ps_Rc, ps_Rr, h1, h1', h2, h2', h3, h3', h4, h4', h5, h5', h5'', or_self]
          · have h5' : v 1 0 0 < (6 : Int32) := by rw [hv]; exact nI_lt (b := 6) (by omega) (by decide)
            have h5'' : ¬ (6 : Int32) ≤ v 1 0 0 := fun q => i32_ff q h5'
            have e1 : v 1 0 0 + 1 = nI (n + 1) := by rw [hv]; exact (nI_succ n).symm
            have e2 : nI (n + 1) - 1 = nI n := nI_pred n
            have hb : bAt (vs v 1 0 0 (nI (n + 1))) b (nI n) = some (hB b n) := bAt_in (n := n + 1) (by omega) (by omega) (by rw [vs_at, if_pos ⟨rfl, rfl, rfl⟩])
            obtain ⟨u1, u2, u3, u4⟩ := q7 n (by omega)
            have s0 : ∀ (v : evVt) (x : Int32), evSetM (putV m b v) (hB b n) 0 x = putV m b (vs v 2 n 0 x) := fun v x => ps_B (by omega) (by omega)
            have s1 : ∀ (v : evVt) (x : Int32), evSetM (putV m b v) (hB b n) 1 x = putV m b (vs v 2 n 1 x) := fun v x => ps_B (by omega) (by omega)
            simp only [x14_0, x14_1, x14_4, x14_5, x14_8, x14_11, x14_12, x14_15, x14_16, x14_19, x14_22, x14_24, x14_25, x14_26, x14_29, x14_31, x14_34, x14_36, x14_37, x14_38, x14_39, x14_42, x14_43, x14_44, x14_47, x14_48, x14_49, x14_52, x14_53, x14_54, x14_57, x14_57n, x14_57q, x14_58, x14_59n, x14_59, x14_59q, x14_62, x14_63, x14_64, x14_67, x14_68, x14_69, x14_72, x14_73, x14_76, x14_77, x14_78, evI_i, evJl_i, evJf_i, evJd_i, evA_r, evA_n, evA_q, evLk_c, evS1_d, evS2_d, evFl_n, evFl_c, evGl_n, evGl_c, evIn_n, evIn_c, evCat_i, evCat_l, evCat_f, evCat_d, evCat_r, evCat_z, evCat_q, evBd_some, evTl_s, evTl_n, va_rf_s, va_rf_n, and_true, true_and, and_false, false_and, if_true, if_false, not_true_eq_false, not_false_eq_true, reduceCtorEq, ↓reduceIte, Nat.reduceAdd, Nat.reduceEqDiff, Nat.reduceLT, Nat.reduceLeDiff, Nat.reduceSub, Nat.zero_ne_one, Nat.one_ne_zero, q0, q1, r1, q2, r2, q3, r3, q4, r4, q5, q6, r6, f0, f6, f7, f8, f9, f10, pv_H1, pv_H2, pv_H3, pv_H4, pv_H5, pv_St, pv_Rc, pv_Rr, ps_H1, ps_H2, ps_H3, ps_H4, ps_H5, ps_St, ps_Rc, ps_Rr, h1, h1', h2, h2', h3, h3', h4, h4', h5, h5', h5'', or_self, e1, e2, c_bidderAt hH, hb, u1, s0, s1, vs_at, and_self]
theorem c_addLot (hH : evHall h b) {n : Nat} (hn : n ≤ 8) (hv : v 1 1 0 = nI n) (x : Int32) : evX 16 0 [(0, .ref b), (1, .int x)] [] h (putV m b v) = if x < 0 ∨ 999 < x then some (some (.int (-2)), h, putV m b v) else if n = 8 then some (some (.int (-4)), h, putV m b v) else some (some (.int (nI n)), h, putV m b (vs (vs v 1 1 0 (nI (n + 1))) 4 n 0 x)) := by
  obtain ⟨q0, ⟨q1, r1⟩, ⟨q2, r2⟩, ⟨q3, r3⟩, ⟨q4, r4⟩, q5, ⟨q6, r6⟩, q7, q8, q9, f0, f6, f7, f8, f9, f10⟩ := id hH
  by_cases h1 : x < 0
  · simp only [x16_0, x16_1, x16_4, x16_5, x16_8, x16_11, x16_13, x16_14, x16_15, x16_18, x16_20, x16_23, x16_25, x16_26, x16_27, x16_28, evI_i, evJl_i, evJf_i, evJd_i, evA_r, evA_n, evA_q, evLk_c, evS1_d, evS2_d, evFl_n, evFl_c, evGl_n, evGl_c, evIn_n, evIn_c, evCat_i, evCat_l, evCat_f, evCat_d, evCat_r, evCat_z, evCat_q, evBd_some, evTl_s, evTl_n, va_rf_s, va_rf_n, and_true, true_and, and_false, false_and, if_true, if_false, not_true_eq_false, not_false_eq_true, reduceCtorEq, ↓reduceIte, Nat.reduceAdd, Nat.reduceEqDiff, Nat.reduceLT, Nat.reduceLeDiff, Nat.reduceSub, Nat.zero_ne_one, Nat.one_ne_zero, h1, true_or]
  · have h1' : 0 ≤ x := Int32.not_lt.mp h1
    by_cases h2 : 999 < x
    · have h2' : ¬ x ≤ 999 := fun q => i32_ff q h2
      simp only [x16_0, x16_1, x16_4, x16_5, x16_8, x16_11, x16_13, x16_14, x16_15, x16_18, x16_20, x16_23, x16_25, x16_26, x16_27, x16_28, evI_i, evJl_i, evJf_i, evJd_i, evA_r, evA_n, evA_q, evLk_c, evS1_d, evS2_d, evFl_n, evFl_c, evGl_n, evGl_c, evIn_n, evIn_c, evCat_i, evCat_l, evCat_f, evCat_d, evCat_r, evCat_z, evCat_q, evBd_some, evTl_s, evTl_n, va_rf_s, va_rf_n, and_true, true_and, and_false, false_and, if_true, if_false, not_true_eq_false, not_false_eq_true, reduceCtorEq, ↓reduceIte, Nat.reduceAdd, Nat.reduceEqDiff, Nat.reduceLT, Nat.reduceLeDiff, Nat.reduceSub, Nat.zero_ne_one, Nat.one_ne_zero, h1, h1', h2, h2', or_true]
    · have h2' : x ≤ 999 := Int32.not_lt.mp h2
      by_cases h5 : n = 8
      · have h5' : (8 : Int32) ≤ v 1 1 0 := by rw [hv, h5]; decide
        have h5'' : ¬ v 1 1 0 < 8 := fun q => i32_ff h5' q
        simp only [x16_0, x16_1, x16_4, x16_5, x16_8, x16_11, x16_13, x16_14, x16_15, x16_18, x16_20, x16_23, x16_25, x16_26, x16_27, x16_28, evI_i, evJl_i, evJf_i, evJd_i, evA_r, evA_n, evA_q, evLk_c, evS1_d, evS2_d, evFl_n, evFl_c, evGl_n, evGl_c, evIn_n, evIn_c, evCat_i, evCat_l, evCat_f, evCat_d, evCat_r, evCat_z, evCat_q, evBd_some, evTl_s, evTl_n, va_rf_s, va_rf_n, and_true, true_and, and_false, false_and, if_true, if_false, not_true_eq_false, not_false_eq_true, reduceCtorEq, ↓reduceIte, Nat.reduceAdd, Nat.reduceEqDiff, Nat.reduceLT, Nat.reduceLeDiff, Nat.reduceSub, Nat.zero_ne_one, Nat.one_ne_zero, q0, q1, r1, q2, r2, q3, r3, q4, r4, q5, q6, r6, f0, f6, f7, f8, f9, f10, pv_H1, pv_H2, pv_H3, pv_H4, pv_H5, pv_St, pv_Rc, pv_Rr, ps_H1, ps_H2, ps_H3, ps_H4, ps_H5, ps_St, ps_Rc, ps_Rr, h1, h1', h2, h2', h5, h5', h5'', or_self]
      · have h5' : v 1 1 0 < (8 : Int32) := by rw [hv]; exact nI_lt (b := 8) (by omega) (by decide)
        have h5'' : ¬ (8 : Int32) ≤ v 1 1 0 := fun q => i32_ff q h5'
        have e1 : v 1 1 0 + 1 = nI (n + 1) := by rw [hv]; exact (nI_succ n).symm
        have e2 : nI (n + 1) - 1 = nI n := nI_pred n
        have hb : lAt (vs v 1 1 0 (nI (n + 1))) b (nI n) = some (hL b n) := lAt_in (n := n + 1) (by omega) (by omega) (by rw [vs_at, if_pos ⟨rfl, rfl, rfl⟩])
        obtain ⟨u1, u2, u3, u4⟩ := q8 n (by omega)
        have s0 : ∀ (v : evVt) (x : Int32), evSetM (putV m b v) (hL b n) 0 x = putV m b (vs v 4 n 0 x) := fun v x => ps_L (by omega) (by omega)
        simp only [x16_0, x16_1, x16_4, x16_5, x16_8, x16_11, x16_13, x16_14, x16_15, x16_18, x16_20, x16_23, x16_25, x16_26, x16_27, x16_28, x16_31, x16_32, x16_33, x16_36, x16_37, x16_38, x16_41, x16_42, x16_43, x16_46, x16_46n, x16_46q, x16_47, x16_48n, x16_48, x16_48q, x16_51, x16_52, x16_53, x16_56, x16_57, x16_60, x16_61, x16_62, evI_i, evJl_i, evJf_i, evJd_i, evA_r, evA_n, evA_q, evLk_c, evS1_d, evS2_d, evFl_n, evFl_c, evGl_n, evGl_c, evIn_n, evIn_c, evCat_i, evCat_l, evCat_f, evCat_d, evCat_r, evCat_z, evCat_q, evBd_some, evTl_s, evTl_n, va_rf_s, va_rf_n, and_true, true_and, and_false, false_and, if_true, if_false, not_true_eq_false, not_false_eq_true, reduceCtorEq, ↓reduceIte, Nat.reduceAdd, Nat.reduceEqDiff, Nat.reduceLT, Nat.reduceLeDiff, Nat.reduceSub, Nat.zero_ne_one, Nat.one_ne_zero, q0, q1, r1, q2, r2, q3, r3, q4, r4, q5, q6, r6, f0, f6, f7, f8, f9, f10, pv_H1, pv_H2, pv_H3, pv_H4, pv_H5, pv_St, pv_Rc, pv_Rr, ps_H1, ps_H2, ps_H3, ps_H4, ps_H5, ps_St, ps_Rc, ps_Rr, h1, h1', h2, h2', h5, h5', h5'', or_self, e1, e2, c_lotAt hH, hb, u1, s0, vs_at, and_self]
theorem c_changeSetting (hH : evHall h b) (hs0 : evSp h 0 = (4, evGv 0)) (hs1 : evSp h 1 = (4, evGv 1)) (x y : Int32) : evX 13 0 [(0, .ref b), (1, .int x), (2, .int y)] [] h (putV m b v) = if x < 0 ∨ 4 ≤ x then some (some (.int (-2)), h, putV m b v) else if y < evGv 0 x.toNatClampNeg ∨ evGv 1 x.toNatClampNeg < y then some (some (.int (-2)), h, putV m b v) else some (some (.int (v 0 x.toNatClampNeg 0)), h, putV m b (vs v 0 x.toNatClampNeg 0 y)) := by
  obtain ⟨q0, ⟨q1, r1⟩, ⟨q2, r2⟩, ⟨q3, r3⟩, ⟨q4, r4⟩, q5, ⟨q6, r6⟩, q7, q8, q9, f0, f6, f7, f8, f9, f10⟩ := id hH
  have h4 : Int32.ofNat 4 = 4 := rfl
  by_cases h1 : x < 0
  · simp only [x13_0, x13_1, x13_4, x13_5, x13_6, x13_9s, x13_10, x13_13, x13_14, x13_17s, x13_18, x13_21, x13_22, x13_25s, x13_26, x13_29, x13_31, x13_32, x13_33, x13_9i, x13_9b, x13_9d, x13_9h, x13_9l, x13_17i, x13_17b, x13_17d, x13_17h, x13_17l, x13_25i, x13_25b, x13_25d, x13_25h, x13_25l, evI_i, evJl_i, evJf_i, evJd_i, evA_r, evA_n, evA_q, evLk_c, evS1_d, evS2_d, evFl_n, evFl_c, evGl_n, evGl_c, evIn_n, evIn_c, evCat_i, evCat_l, evCat_f, evCat_d, evCat_r, evCat_z, evCat_q, evBd_some, evTl_s, evTl_n, va_rf_s, va_rf_n, and_true, true_and, and_false, false_and, if_true, if_false, not_true_eq_false, not_false_eq_true, reduceCtorEq, ↓reduceIte, Nat.reduceAdd, Nat.reduceEqDiff, Nat.reduceLT, Nat.reduceLeDiff, Nat.reduceSub, Nat.zero_ne_one, Nat.one_ne_zero, h1, true_or]
  · have h1' : 0 ≤ x := Int32.not_lt.mp h1
    by_cases h2 : 4 ≤ x
    · have h2' : ¬ x < 4 := fun q => i32_ff h2 q
      simp only [x13_0, x13_1, x13_4, x13_5, x13_6, x13_9s, x13_10, x13_13, x13_14, x13_17s, x13_18, x13_21, x13_22, x13_25s, x13_26, x13_29, x13_31, x13_32, x13_33, x13_9i, x13_9b, x13_9d, x13_9h, x13_9l, x13_17i, x13_17b, x13_17d, x13_17h, x13_17l, x13_25i, x13_25b, x13_25d, x13_25h, x13_25l, evI_i, evJl_i, evJf_i, evJd_i, evA_r, evA_n, evA_q, evLk_c, evS1_d, evS2_d, evFl_n, evFl_c, evGl_n, evGl_c, evIn_n, evIn_c, evCat_i, evCat_l, evCat_f, evCat_d, evCat_r, evCat_z, evCat_q, evBd_some, evTl_s, evTl_n, va_rf_s, va_rf_n, and_true, true_and, and_false, false_and, if_true, if_false, not_true_eq_false, not_false_eq_true, reduceCtorEq, ↓reduceIte, Nat.reduceAdd, Nat.reduceEqDiff, Nat.reduceLT, Nat.reduceLeDiff, Nat.reduceSub, Nat.zero_ne_one, Nat.one_ne_zero, q0, q1, r1, q2, r2, q3, r3, q4, r4, q5, q6, r6, f0, f6, f7, f8, f9, f10, h1, h1', h2, h2', h4, or_true]
    · have h2' : x < 4 := Int32.not_le.mp h2
      have hc : x.toNatClampNeg < 4 := i32_cl (by decide) h1 h2'
      have z3 : (0 : Nat) < 3 := by decide
      have o3 : (1 : Nat) < 3 := by decide
      by_cases h5 : y < evGv 0 x.toNatClampNeg
      · have h5' : ¬ evGv 0 x.toNatClampNeg ≤ y := fun q => i32_ff q h5
        simp only [x13_0, x13_1, x13_4, x13_5, x13_6, x13_9s, x13_10, x13_13, x13_14, x13_17s, x13_18, x13_21, x13_22, x13_25s, x13_26, x13_29, x13_31, x13_32, x13_33, x13_36, x13_37, x13_37s, x13_38, x13_41, x13_42, x13_45, x13_46, x13_46s, x13_47, x13_50, x13_52, x13_53, x13_54, x13_57, x13_58, x13_58s, x13_9i, x13_9b, x13_9d, x13_9h, x13_9l, x13_17i, x13_17b, x13_17d, x13_17h, x13_17l, x13_25i, x13_25b, x13_25d, x13_25h, x13_25l, evI_i, evJl_i, evJf_i, evJd_i, evA_r, evA_n, evA_q, evLk_c, evS1_d, evS2_d, evFl_n, evFl_c, evGl_n, evGl_c, evIn_n, evIn_c, evCat_i, evCat_l, evCat_f, evCat_d, evCat_r, evCat_z, evCat_q, evBd_some, evTl_s, evTl_n, va_rf_s, va_rf_n, and_true, true_and, and_false, false_and, if_true, if_false, not_true_eq_false, not_false_eq_true, reduceCtorEq, ↓reduceIte, Nat.reduceAdd, Nat.reduceEqDiff, Nat.reduceLT, Nat.reduceLeDiff, Nat.reduceSub, Nat.zero_ne_one, Nat.one_ne_zero, q0, q1, r1, q2, r2, q3, r3, q4, r4, q5, q6, r6, f0, f6, f7, f8, f9, f10, hs0, hs1, h1, h1', h2, h2', h4, or_self, hc, z3, o3, h5, h5', true_or]
      · have h5' : evGv 0 x.toNatClampNeg ≤ y := Int32.not_lt.mp h5
        by_cases h6 : evGv 1 x.toNatClampNeg < y
        · have h6' : ¬ y ≤ evGv 1 x.toNatClampNeg := fun q => i32_ff q h6
          simp only [x13_0, x13_1, x13_4, x13_5, x13_6, x13_9s, x13_10, x13_13, x13_14, x13_17s, x13_18, x13_21, x13_22, x13_25s, x13_26, x13_29, x13_31, x13_32, x13_33, x13_36, x13_37, x13_37s, x13_38, x13_41, x13_42, x13_45, x13_46, x13_46s, x13_47, x13_50, x13_52, x13_53, x13_54, x13_57, x13_58, x13_58s, x13_9i, x13_9b, x13_9d, x13_9h, x13_9l, x13_17i, x13_17b, x13_17d, x13_17h, x13_17l, x13_25i, x13_25b, x13_25d, x13_25h, x13_25l, evI_i, evJl_i, evJf_i, evJd_i, evA_r, evA_n, evA_q, evLk_c, evS1_d, evS2_d, evFl_n, evFl_c, evGl_n, evGl_c, evIn_n, evIn_c, evCat_i, evCat_l, evCat_f, evCat_d, evCat_r, evCat_z, evCat_q, evBd_some, evTl_s, evTl_n, va_rf_s, va_rf_n, and_true, true_and, and_false, false_and, if_true, if_false, not_true_eq_false, not_false_eq_true, reduceCtorEq, ↓reduceIte, Nat.reduceAdd, Nat.reduceEqDiff, Nat.reduceLT, Nat.reduceLeDiff, Nat.reduceSub, Nat.zero_ne_one, Nat.one_ne_zero, q0, q1, r1, q2, r2, q3, r3, q4, r4, q5, q6, r6, f0, f6, f7, f8, f9, f10, hs0, hs1, h1, h1', h2, h2', h4, or_self, hc, z3, o3, h5, h5', h6, h6', or_true]
        · have h6' : y ≤ evGv 1 x.toNatClampNeg := Int32.not_lt.mp h6
          simp only [x13_0, x13_1, x13_4, x13_5, x13_6, x13_9s, x13_10, x13_13, x13_14, x13_17s, x13_18, x13_21, x13_22, x13_25s, x13_26, x13_29, x13_31, x13_32, x13_33, x13_36, x13_37, x13_37s, x13_38, x13_41, x13_42, x13_45, x13_46, x13_46s, x13_47, x13_50, x13_52, x13_53, x13_54, x13_57, x13_58, x13_58s, x13_59, x13_60, x13_61, x13_64, x13_65, x13_66, x13_67, x13_68, x13_9i, x13_9b, x13_9d, x13_9h, x13_9l, x13_17i, x13_17b, x13_17d, x13_17h, x13_17l, x13_25i, x13_25b, x13_25d, x13_25h, x13_25l, evI_i, evJl_i, evJf_i, evJd_i, evA_r, evA_n, evA_q, evLk_c, evS1_d, evS2_d, evFl_n, evFl_c, evGl_n, evGl_c, evIn_n, evIn_c, evCat_i, evCat_l, evCat_f, evCat_d, evCat_r, evCat_z, evCat_q, evBd_some, evTl_s, evTl_n, va_rf_s, va_rf_n, and_true, true_and, and_false, false_and, if_true, if_false, not_true_eq_false, not_false_eq_true, reduceCtorEq, ↓reduceIte, Nat.reduceAdd, Nat.reduceEqDiff, Nat.reduceLT, Nat.reduceLeDiff, Nat.reduceSub, Nat.zero_ne_one, Nat.one_ne_zero, q0, q1, r1, q2, r2, q3, r3, q4, r4, q5, q6, r6, f0, f6, f7, f8, f9, f10, pv_H1, pv_H2, pv_H3, pv_H4, pv_H5, pv_St, pv_Rc, pv_Rr, ps_H1, ps_H2, ps_H3, ps_H4, ps_H5, ps_St, ps_Rc, ps_Rr, hs0, hs1, h1, h1', h2, h2', h4, or_self, hc, z3, o3, h5, h5', h6, h6']
end SM
