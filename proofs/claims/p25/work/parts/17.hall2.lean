/-! what a bidder believes, chooses, notes -/
def hrd (v : evVt) : Int32 := fmod (v 1 4 0 - 1 - setAt v 0) 6
def blC (v : evVt) (k : Nat) : Bool := decide (0 ≤ hrd v) && (decide (hrd v < 6) && abv (v 6 (hrd v).toNatClampNeg 0) (v 6 (hrd v).toNatClampNeg 1) (v 6 (hrd v).toNatClampNeg 2) (v 3 k 0) (v 3 k 1) (v 3 k 2))
def blA (v : evVt) (b k : Nat) : Nat := if blC v k then hE b (hrd v).toNatClampNeg else hBb b k
def blP (v : evVt) (k p : Nat) : Int32 := if blC v k then v 6 (hrd v).toNatClampNeg p else v 3 k p
theorem ne6 : ¬ (6 : Int32) = 0 := by decide
section H2
variable {h : evH} {m : evM} {b : Nat} {v : evVt}
theorem blA_at (hH : evHall h b) {k : Nat} (hk : k < 6) : evAt h (blA v b k) 0 := by
  obtain ⟨q0, ⟨q1, r1⟩, ⟨q2, r2⟩, ⟨q3, r3⟩, ⟨q4, r4⟩, q5, ⟨q6, r6⟩, q7, q8, q9, f0, f6, f7, f8, f9, f10⟩ := id hH
  unfold blA
  split
  · rename_i hc
    unfold blC at hc
    simp only [Bool.and_eq_true, decide_eq_true_eq] at hc
    exact (q9 _ (i32_cl (by decide) (fun q => i32_ff hc.1 q) hc.2.1)).1
  · exact (q7 _ hk).2.1
theorem blP_at {k p : Nat} (hk : k < 6) (hp : p < 3) : putV m b v (blA v b k) p = blP v k p := by
  unfold blA blP
  split
  · rename_i hc
    unfold blC at hc
    simp only [Bool.and_eq_true, decide_eq_true_eq] at hc
    exact pv_E (i32_cl (by decide) (fun q => i32_ff hc.1 q) hc.2.1) hp
  · exact pv_Bb hk hp
set_option maxHeartbeats 1000000 in
theorem c_believed (hH : evHall h b) {k : Nat} (hk : k < 6) : evX 25 0 [(0, .ref b), (1, .ref (hB b k))] [] h (putV m b v) = some (some (.ref (blA v b k)), h, putV m b v) := by
  obtain ⟨q0, ⟨q1, r1⟩, ⟨q2, r2⟩, ⟨q3, r3⟩, ⟨q4, r4⟩, q5, ⟨q6, r6⟩, q7, q8, q9, f0, f6, f7, f8, f9, f10⟩ := id hH
  obtain ⟨u1, u2, u3, u4⟩ := q7 k hk
  have h4 : Int32.ofNat 6 = 6 := rfl
  have e : fmod (v 1 4 0 - 1 - setAt v 0) 6 = hrd v := rfl
  simp only [x25_0, x25_1, x25_4, x25_5, x25_6, x25_7, x25_8, x25_11, x25_12, x25_14, evI_i, evJl_i, evJf_i, evJd_i, evA_r, evA_n, evA_q, evLk_c, evS1_d, evS2_d, evFl_n, evFl_c, evGl_n, evGl_c, evIn_n, evIn_c, evCat_i, evCat_l, evCat_f, evCat_d, evCat_r, evCat_z, evCat_q, evBd_some, evTl_s, evTl_n, va_rf_s, va_rf_n, and_true, true_and, and_false, false_and, if_true, if_false, not_true_eq_false, not_false_eq_true, reduceCtorEq, ↓reduceIte, Nat.reduceAdd, Nat.reduceEqDiff, Nat.reduceLT, Nat.reduceLeDiff, Nat.reduceSub, Nat.zero_ne_one, Nat.one_ne_zero, q0, q1, r1, q2, r2, q3, r3, q4, r4, q5, q6, r6, f0, f6, f7, f8, f9, f10, pv_H1, pv_H2, pv_H3, pv_H4, pv_H5, pv_St, pv_Rc, pv_Rr, ps_H1, ps_H2, ps_H3, ps_H4, ps_H5, ps_St, ps_Rc, ps_Rr, c_settingAt hH, c_floorMod, ne6, e]
  have d0 : putV m b v (hBb b k) 0 = v 3 k 0 := pv_Bb hk (by omega)
  have d1 : putV m b v (hBb b k) 1 = v 3 k 1 := pv_Bb hk (by omega)
  have d2 : putV m b v (hBb b k) 2 = v 3 k 2 := pv_Bb hk (by omega)
  unfold blA blC
  by_cases h1 : hrd v < 0
  · have h1' : ¬ 0 ≤ hrd v := fun q => i32_ff q h1
    simp only [x25_17, x25_18, x25_19, x25_22, x25_23, x25_24, x25_27s, x25_28, x25_31, x25_32, x25_35, x25_37n, x25_37, x25_37q, x25_40, x25_41, x25_44, x25_46, x25_47, x25_50, x25_53, x25_56, x25_57, x25_60, x25_62q, x25_62, x25_63, x25_64, x25_67q, x25_67, x25_27i, x25_27b, x25_27d, x25_27h, x25_27l, x25_36b, x25_36d, x25_36h, x25_36l, x25_45b, x25_45d, x25_45h, x25_45l, x25_61b, x25_61d, x25_61h, x25_61l, x25_62n, x25_67n, evI_i, evJl_i, evJf_i, evJd_i, evA_r, evA_n, evA_q, evLk_c, evS1_d, evS2_d, evFl_n, evFl_c, evGl_n, evGl_c, evIn_n, evIn_c, evCat_i, evCat_l, evCat_f, evCat_d, evCat_r, evCat_z, evCat_q, evBd_some, evTl_s, evTl_n, va_rf_s, va_rf_n, and_true, true_and, and_false, false_and, if_true, if_false, not_true_eq_false, not_false_eq_true, reduceCtorEq, ↓reduceIte, Nat.reduceAdd, Nat.reduceEqDiff, Nat.reduceLT, Nat.reduceLeDiff, Nat.reduceSub, Nat.zero_ne_one, Nat.one_ne_zero, q0, q1, r1, q2, r2, q3, r3, q4, r4, q5, q6, r6, f0, f6, f7, f8, f9, f10, pv_H1, pv_H2, pv_H3, pv_H4, pv_H5, pv_St, pv_Rc, pv_Rr, ps_H1, ps_H2, ps_H3, ps_H4, ps_H5, ps_St, ps_Rc, ps_Rr, h1, h1', u1, u4, decide_false, Bool.false_and, Bool.false_eq_true]
  · have h1' : 0 ≤ hrd v := Int32.not_lt.mp h1
    by_cases h2 : hrd v < 6
    · have h2' : ¬ 6 ≤ hrd v := fun q => i32_ff q h2
      have h3 : (hrd v).toNatClampNeg < 6 := i32_cl (by decide) h1 h2
      obtain ⟨w1, w2⟩ := q9 _ h3
      have c0 : putV m b v (hE b (hrd v).toNatClampNeg) 0 = v 6 (hrd v).toNatClampNeg 0 := pv_E h3 (by omega)
      have c1 : putV m b v (hE b (hrd v).toNatClampNeg) 1 = v 6 (hrd v).toNatClampNeg 1 := pv_E h3 (by omega)
      have c2 : putV m b v (hE b (hrd v).toNatClampNeg) 2 = v 6 (hrd v).toNatClampNeg 2 := pv_E h3 (by omega)
      cases ha : abv (v 6 (hrd v).toNatClampNeg 0) (v 6 (hrd v).toNatClampNeg 1) (v 6 (hrd v).toNatClampNeg 2) (v 3 k 0) (v 3 k 1) (v 3 k 2)
      · simp only [x25_17, x25_18, x25_19, x25_22, x25_23, x25_24, x25_27s, x25_28, x25_31, x25_32, x25_35, x25_37n, x25_37, x25_37q, x25_40, x25_41, x25_44, x25_46, x25_47, x25_50, x25_53, x25_56, x25_57, x25_60, x25_62q, x25_62, x25_63, x25_64, x25_67q, x25_67, x25_27i, x25_27b, x25_27d, x25_27h, x25_27l, x25_36b, x25_36d, x25_36h, x25_36l, x25_45b, x25_45d, x25_45h, x25_45l, x25_61b, x25_61d, x25_61h, x25_61l, x25_62n, x25_67n, evI_i, evJl_i, evJf_i, evJd_i, evA_r, evA_n, evA_q, evLk_c, evS1_d, evS2_d, evFl_n, evFl_c, evGl_n, evGl_c, evIn_n, evIn_c, evCat_i, evCat_l, evCat_f, evCat_d, evCat_r, evCat_z, evCat_q, evBd_some, evTl_s, evTl_n, va_rf_s, va_rf_n, and_true, true_and, and_false, false_and, if_true, if_false, not_true_eq_false, not_false_eq_true, reduceCtorEq, ↓reduceIte, Nat.reduceAdd, Nat.reduceEqDiff, Nat.reduceLT, Nat.reduceLeDiff, Nat.reduceSub, Nat.zero_ne_one, Nat.one_ne_zero, q0, q1, r1, q2, r2, q3, r3, q4, r4, q5, q6, r6, f0, f6, f7, f8, f9, f10, pv_H1, pv_H2, pv_H3, pv_H4, pv_H5, pv_St, pv_Rc, pv_Rr, ps_H1, ps_H2, ps_H3, ps_H4, ps_H5, ps_St, ps_Rc, ps_Rr, h1, h1', h2, h2', h3, h4, u1, u2, u4, w1, w2, c0, c1, c2, d0, d1, d2, c_Bid_above, ha, evBl_f, decide_true, Bool.true_and, Bool.false_eq_true]
      · simp only [x25_17, x25_18, x25_19, x25_22, x25_23, x25_24, x25_27s, x25_28, x25_31, x25_32, x25_35, x25_37n, x25_37, x25_37q, x25_40, x25_41, x25_44, x25_46, x25_47, x25_50, x25_53, x25_56, x25_57, x25_60, x25_62q, x25_62, x25_63, x25_64, x25_67q, x25_67, x25_27i, x25_27b, x25_27d, x25_27h, x25_27l, x25_36b, x25_36d, x25_36h, x25_36l, x25_45b, x25_45d, x25_45h, x25_45l, x25_61b, x25_61d, x25_61h, x25_61l, x25_62n, x25_67n, evI_i, evJl_i, evJf_i, evJd_i, evA_r, evA_n, evA_q, evLk_c, evS1_d, evS2_d, evFl_n, evFl_c, evGl_n, evGl_c, evIn_n, evIn_c, evCat_i, evCat_l, evCat_f, evCat_d, evCat_r, evCat_z, evCat_q, evBd_some, evTl_s, evTl_n, va_rf_s, va_rf_n, and_true, true_and, and_false, false_and, if_true, if_false, not_true_eq_false, not_false_eq_true, reduceCtorEq, ↓reduceIte, Nat.reduceAdd, Nat.reduceEqDiff, Nat.reduceLT, Nat.reduceLeDiff, Nat.reduceSub, Nat.zero_ne_one, Nat.one_ne_zero, q0, q1, r1, q2, r2, q3, r3, q4, r4, q5, q6, r6, f0, f6, f7, f8, f9, f10, pv_H1, pv_H2, pv_H3, pv_H4, pv_H5, pv_St, pv_Rc, pv_Rr, ps_H1, ps_H2, ps_H3, ps_H4, ps_H5, ps_St, ps_Rc, ps_Rr, h1, h1', h2, h2', h3, h4, u1, u2, u4, w1, w2, c0, c1, c2, d0, d1, d2, c_Bid_above, ha, evBl_t, decide_true, Bool.true_and, show ¬ (1 : Int32) = 0 by decide]
    · have h2' : 6 ≤ hrd v := Int32.not_lt.mp h2
      simp only [x25_17, x25_18, x25_19, x25_22, x25_23, x25_24, x25_27s, x25_28, x25_31, x25_32, x25_35, x25_37n, x25_37, x25_37q, x25_40, x25_41, x25_44, x25_46, x25_47, x25_50, x25_53, x25_56, x25_57, x25_60, x25_62q, x25_62, x25_63, x25_64, x25_67q, x25_67, x25_27i, x25_27b, x25_27d, x25_27h, x25_27l, x25_36b, x25_36d, x25_36h, x25_36l, x25_45b, x25_45d, x25_45h, x25_45l, x25_61b, x25_61d, x25_61h, x25_61l, x25_62n, x25_67n, evI_i, evJl_i, evJf_i, evJd_i, evA_r, evA_n, evA_q, evLk_c, evS1_d, evS2_d, evFl_n, evFl_c, evGl_n, evGl_c, evIn_n, evIn_c, evCat_i, evCat_l, evCat_f, evCat_d, evCat_r, evCat_z, evCat_q, evBd_some, evTl_s, evTl_n, va_rf_s, va_rf_n, and_true, true_and, and_false, false_and, if_true, if_false, not_true_eq_false, not_false_eq_true, reduceCtorEq, ↓reduceIte, Nat.reduceAdd, Nat.reduceEqDiff, Nat.reduceLT, Nat.reduceLeDiff, Nat.reduceSub, Nat.zero_ne_one, Nat.one_ne_zero, q0, q1, r1, q2, r2, q3, r3, q4, r4, q5, q6, r6, f0, f6, f7, f8, f9, f10, pv_H1, pv_H2, pv_H3, pv_H4, pv_H5, pv_St, pv_Rc, pv_Rr, ps_H1, ps_H2, ps_H3, ps_H4, ps_H5, ps_St, ps_Rc, ps_Rr, h1, h1', h2, h2', h4, u1, u4, decide_true, decide_false, Bool.false_and, Bool.and_false, Bool.false_eq_true]
/-- what a bidder bids: told, or by its belief (whose, how much) -/
def chB (v : evVt) (k : Nat) (num worth who coins : Int32) : Int32 :=
  if 0 < v 2 k 2 ∧ v 2 k 2 ≤ v 2 k 0 then v 2 k 2 else if who = num then 0 else if coins + setAt v 1 ≤ imin (worth * v 2 k 1 / 100) (v 2 k 0) then coins + setAt v 1 else 0
theorem ne100 : ¬ (100 : Int32) = 0 := by decide
set_option maxHeartbeats 1000000 in
theorem c_choose (hH : evHall h b) {k p : Nat} (hk : k < 6) (hp : evAt h p 0) (x y : Int32) : evX 24 0 [(0, .ref b), (1, .ref (hB b k)), (2, .int x), (3, .int y), (4, .ref p)] [] h (putV m b v) = some (some (.int (chB v k x y (putV m b v p 0) (putV m b v p 1))), h, putV m b v) := by
  obtain ⟨q0, ⟨q1, r1⟩, ⟨q2, r2⟩, ⟨q3, r3⟩, ⟨q4, r4⟩, q5, ⟨q6, r6⟩, q7, q8, q9, f0, f6, f7, f8, f9, f10⟩ := id hH
  obtain ⟨u1, u2, u3, u4⟩ := q7 k hk
  have d0 : putV m b v (hB b k) 0 = v 2 k 0 := pv_B hk (by omega)
  have d1 : putV m b v (hB b k) 1 = v 2 k 1 := pv_B hk (by omega)
  have d2 : putV m b v (hB b k) 2 = v 2 k 2 := pv_B hk (by omega)
  unfold chB
  by_cases h1 : 0 < v 2 k 2
  · have h1' : ¬ v 2 k 2 ≤ 0 := fun q => i32_ff q h1
    by_cases h2 : v 2 k 2 ≤ v 2 k 0
    · have h2' : ¬ v 2 k 0 < v 2 k 2 := fun q => i32_ff h2 q
      simp only [x24_0, x24_1, x24_4, x24_7, x24_8, x24_11, x24_12, x24_15, x24_18, x24_19, x24_22, x24_23, x24_25, x24_28, x24_29, x24_32, x24_33, x24_34, x24_35, x24_36, x24_39, x24_40, x24_42, x24_43, x24_44, x24_47, x24_50, x24_52, x24_54, x24_57, x24_58, x24_59, x24_62, x24_63, x24_65, x24_67, x24_69, x24_72, x24_74, x24_77, x24_78, evI_i, evJl_i, evJf_i, evJd_i, evA_r, evA_n, evA_q, evLk_c, evS1_d, evS2_d, evFl_n, evFl_c, evGl_n, evGl_c, evIn_n, evIn_c, evCat_i, evCat_l, evCat_f, evCat_d, evCat_r, evCat_z, evCat_q, evBd_some, evTl_s, evTl_n, va_rf_s, va_rf_n, and_true, true_and, and_false, false_and, if_true, if_false, not_true_eq_false, not_false_eq_true, reduceCtorEq, ↓reduceIte, Nat.reduceAdd, Nat.reduceEqDiff, Nat.reduceLT, Nat.reduceLeDiff, Nat.reduceSub, Nat.zero_ne_one, Nat.one_ne_zero, u1, hp, d0, d1, d2, h1, h1', h2, h2', and_self]
    · have h2' : v 2 k 0 < v 2 k 2 := Int32.not_le.mp h2
      simp only [x24_0, x24_1, x24_4, x24_7, x24_8, x24_11, x24_12, x24_15, x24_18, x24_19, x24_22, x24_23, x24_25, x24_28, x24_29, x24_32, x24_33, x24_34, x24_35, x24_36, x24_39, x24_40, x24_42, x24_43, x24_44, x24_47, x24_50, x24_52, x24_54, x24_57, x24_58, x24_59, x24_62, x24_63, x24_65, x24_67, x24_69, x24_72, x24_74, x24_77, x24_78, evI_i, evJl_i, evJf_i, evJd_i, evA_r, evA_n, evA_q, evLk_c, evS1_d, evS2_d, evFl_n, evFl_c, evGl_n, evGl_c, evIn_n, evIn_c, evCat_i, evCat_l, evCat_f, evCat_d, evCat_r, evCat_z, evCat_q, evBd_some, evTl_s, evTl_n, va_rf_s, va_rf_n, and_true, true_and, and_false, false_and, if_true, if_false, not_true_eq_false, not_false_eq_true, reduceCtorEq, ↓reduceIte, Nat.reduceAdd, Nat.reduceEqDiff, Nat.reduceLT, Nat.reduceLeDiff, Nat.reduceSub, Nat.zero_ne_one, Nat.one_ne_zero, q0, q1, r1, q2, r2, q3, r3, q4, r4, q5, q6, r6, f0, f6, f7, f8, f9, f10, u1, hp, d0, d1, d2, h1, h1', h2, h2', and_self, c_settingAt hH, c_min, ne100]
      repeat' split
      all_goals first | rfl | (simp_all; done) | grind
  · have h1' : v 2 k 2 ≤ 0 := Int32.not_lt.mp h1
    simp only [x24_0, x24_1, x24_4, x24_7, x24_8, x24_11, x24_12, x24_15, x24_18, x24_19, x24_22, x24_23, x24_25, x24_28, x24_29, x24_32, x24_33, x24_34, x24_35, x24_36, x24_39, x24_40, x24_42, x24_43, x24_44, x24_47, x24_50, x24_52, x24_54, x24_57, x24_58, x24_59, x24_62, x24_63, x24_65, x24_67, x24_69, x24_72, x24_74, x24_77, x24_78, evI_i, evJl_i, evJf_i, evJd_i, evA_r, evA_n, evA_q, evLk_c, evS1_d, evS2_d, evFl_n, evFl_c, evGl_n, evGl_c, evIn_n, evIn_c, evCat_i, evCat_l, evCat_f, evCat_d, evCat_r, evCat_z, evCat_q, evBd_some, evTl_s, evTl_n, va_rf_s, va_rf_n, and_true, true_and, and_false, false_and, if_true, if_false, not_true_eq_false, not_false_eq_true, reduceCtorEq, ↓reduceIte, Nat.reduceAdd, Nat.reduceEqDiff, Nat.reduceLT, Nat.reduceLeDiff, Nat.reduceSub, Nat.zero_ne_one, Nat.one_ne_zero, q0, q1, r1, q2, r2, q3, r3, q4, r4, q5, q6, r6, f0, f6, f7, f8, f9, f10, u1, hp, d0, d1, d2, h1, h1', and_self, c_settingAt hH, c_min, ne100]
    repeat' split
    all_goals first | rfl | (simp_all; done) | grind
/-- a bid is noted -/
def noteV (v : evVt) (k : Nat) (num coins sh : Int32) (t : Nat) : evVt :=
  let v2 := vs (vs v 2 k 6 (v 2 k 6 + 1)) 2 k 7 (v 2 k 7 + sh)
  let v3 := if v 3 k 1 < coins then vs (vs (vs v2 3 k 0 num) 3 k 1 coins) 3 k 2 (v 1 4 0) else v2
  vs (vs (vs (vs (vs v3 8 (4 * (t % 40)) 0 num) 8 (4 * (t % 40) + 1) 0 coins) 8 (4 * (t % 40) + 2) 0 (v 1 4 0)) 8 (4 * (t % 40) + 3) 0 sh) 7 0 0 (nI (t + 1))
set_option maxHeartbeats 1000000 in
theorem c_note (hH : evHall h b) {k t : Nat} (hk : k < 6) (ht : v 7 0 0 = nI t) (ht2 : t < 2 ^ 30) (x y z : Int32) : evX 26 0 [(0, .ref b), (1, .ref (hB b k)), (2, .int x), (3, .int y), (4, .int z)] [] h (putV m b v) = some (none, h, putV m b (noteV v k x y z t)) := by
  obtain ⟨q0, ⟨q1, r1⟩, ⟨q2, r2⟩, ⟨q3, r3⟩, ⟨q4, r4⟩, q5, ⟨q6, r6⟩, q7, q8, q9, f0, f6, f7, f8, f9, f10⟩ := id hH
  obtain ⟨u1, u2, u3, u4⟩ := q7 k hk
  have d6 : ∀ v : evVt, putV m b v (hB b k) 6 = v 2 k 6 := fun v => pv_B hk (by omega)
  have d7 : ∀ v : evVt, putV m b v (hB b k) 7 = v 2 k 7 := fun v => pv_B hk (by omega)
  have s6 : ∀ (v : evVt) (x : Int32), evSetM (putV m b v) (hB b k) 6 x = putV m b (vs v 2 k 6 x) := fun v x => ps_B hk (by omega)
  have s7 : ∀ (v : evVt) (x : Int32), evSetM (putV m b v) (hB b k) 7 x = putV m b (vs v 2 k 7 x) := fun v x => ps_B hk (by omega)
  have e1 : ∀ v : evVt, putV m b v (hBb b k) 1 = v 3 k 1 := fun v => pv_Bb hk (by omega)
  have w0 : ∀ (v : evVt) (x : Int32), evSetM (putV m b v) (hBb b k) 0 x = putV m b (vs v 3 k 0 x) := fun v x => ps_Bb hk (by omega)
  have w1 : ∀ (v : evVt) (x : Int32), evSetM (putV m b v) (hBb b k) 1 x = putV m b (vs v 3 k 1 x) := fun v x => ps_Bb hk (by omega)
  have w2 : ∀ (v : evVt) (x : Int32), evSetM (putV m b v) (hBb b k) 2 x = putV m b (vs v 3 k 2 x) := fun v x => ps_Bb hk (by omega)
  have radd : ∀ (w : evVt) (x y z u : Int32), w 7 0 0 = nI t → evX 43 0 [(0, .ref (hRc b)), (1, .int x), (2, .int y), (3, .int z), (4, .int u)] [] h (putV m b w) = some (none, h, putV m b (vs (vs (vs (vs (vs w 8 (4 * (t % 40)) 0 x) 8 (4 * (t % 40) + 1) 0 y) 8 (4 * (t % 40) + 2) 0 z) 8 (4 * (t % 40) + 3) 0 u) 7 0 0 (nI (t + 1)))) := by
    intro w x y z u hw
    rw [c_Recent_add h (putV m b w) (hRc b) (hRr b) t x y z u q5 f10 q6 r6 (pv_Rc.trans hw) ht2]
    have z0 : 4 * (t % 40) < 160 := by omega
    have z1 : 4 * (t % 40) + 1 < 160 := by omega
    have z2 : 4 * (t % 40) + 2 < 160 := by omega
    have z3 : 4 * (t % 40) + 3 < 160 := by omega
    unfold rcAdd
    simp only [ps_Rr, ps_Rc, z0, z1, z2, z3]
  unfold noteV
  by_cases h1 : v 3 k 1 < y
  · have h1' : ¬ y ≤ v 3 k 1 := fun q => i32_ff q h1
    simp only [x26_0, x26_1, x26_2, x26_5, x26_6, x26_7, x26_10, x26_11, x26_12, x26_15, x26_17, x26_18, x26_21, x26_22, x26_23, x26_26, x26_29, x26_32, x26_33, x26_36, x26_37, x26_38, x26_39, x26_42, x26_45, x26_46, x26_49, x26_50, x26_51, x26_52, x26_55, x26_57, x26_60, evI_i, evJl_i, evJf_i, evJd_i, evA_r, evA_n, evA_q, evLk_c, evS1_d, evS2_d, evFl_n, evFl_c, evGl_n, evGl_c, evIn_n, evIn_c, evCat_i, evCat_l, evCat_f, evCat_d, evCat_r, evCat_z, evCat_q, evBd_some, evTl_s, evTl_n, va_rf_s, va_rf_n, and_true, true_and, and_false, false_and, if_true, if_false, not_true_eq_false, not_false_eq_true, reduceCtorEq, ↓reduceIte, Nat.reduceAdd, Nat.reduceEqDiff, Nat.reduceLT, Nat.reduceLeDiff, Nat.reduceSub, Nat.zero_ne_one, Nat.one_ne_zero, q0, q1, r1, q2, r2, q3, r3, q4, r4, q5, q6, r6, f0, f6, f7, f8, f9, f10, pv_H1, pv_H2, pv_H3, pv_H4, pv_H5, pv_St, pv_Rc, pv_Rr, ps_H1, ps_H2, ps_H3, ps_H4, ps_H5, ps_St, ps_Rc, ps_Rr, u1, u2, u4, d6, d7, s6, s7, e1, vs_at, h1, h1', c_Bid_write, w0, w1, w2, radd, ht, Nat.reduceEqDiff, and_self]
  · have h1' : y ≤ v 3 k 1 := Int32.not_lt.mp h1
    simp only [x26_0, x26_1, x26_2, x26_5, x26_6, x26_7, x26_10, x26_11, x26_12, x26_15, x26_17, x26_18, x26_21, x26_22, x26_23, x26_26, x26_29, x26_32, x26_33, x26_36, x26_37, x26_38, x26_39, x26_42, x26_45, x26_46, x26_49, x26_50, x26_51, x26_52, x26_55, x26_57, x26_60, evI_i, evJl_i, evJf_i, evJd_i, evA_r, evA_n, evA_q, evLk_c, evS1_d, evS2_d, evFl_n, evFl_c, evGl_n, evGl_c, evIn_n, evIn_c, evCat_i, evCat_l, evCat_f, evCat_d, evCat_r, evCat_z, evCat_q, evBd_some, evTl_s, evTl_n, va_rf_s, va_rf_n, and_true, true_and, and_false, false_and, if_true, if_false, not_true_eq_false, not_false_eq_true, reduceCtorEq, ↓reduceIte, Nat.reduceAdd, Nat.reduceEqDiff, Nat.reduceLT, Nat.reduceLeDiff, Nat.reduceSub, Nat.zero_ne_one, Nat.one_ne_zero, q0, q1, r1, q2, r2, q3, r3, q4, r4, q5, q6, r6, f0, f6, f7, f8, f9, f10, pv_H1, pv_H2, pv_H3, pv_H4, pv_H5, pv_St, pv_Rc, pv_Rr, ps_H1, ps_H2, ps_H3, ps_H4, ps_H5, ps_St, ps_Rc, ps_Rr, u1, u2, u4, d6, d7, s6, s7, e1, vs_at, h1, h1', c_Bid_write, w0, w1, w2, radd, ht, Nat.reduceEqDiff, and_self]
end H2
