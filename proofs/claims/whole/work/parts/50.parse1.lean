/-! the model: the characters of the pad -/
def chV (u : Nat → Nat → Int32) (L p : Nat) : Int32 := if p < L then u 6 p else -1
section MO
variable {h : evH} {m : evM} {c : Nat} {u : Nat → Nat → Int32}
theorem c_char (hu : mOK h c) {L p : Nat} (hL : L ≤ 80) (hp : p < 1000) (h7 : u 0 7 = nI L) : evX 142 0 [(0, .ref c), (1, .int (nI p))] [] h (evGM m c 9 u) = some (some (.int (chV u L p)), h, evGM m c 9 u) := by
  obtain ⟨w0, w1, w2, w3, w4, w5, w6, w7, w8, w9, w10, w11, w12, w13, w14, w15, w16, w17, w18, w19, w20, w21, w22, w23, w24⟩ := id hu
  have b0 : ¬ nI p < 0 := nI_pos (by omega)
  have b1 : (nI p).toNatClampNeg = p := nI_cl p (by omega)
  unfold chV
  by_cases hq : p < L
  · have e : ¬ nI L ≤ nI p := nlt hq (by omega)
    have hp80 : p < 80 := by omega
    simp only [x142_0, x142_1, x142_2, x142_5, x142_8, x142_9, x142_12, x142_13, x142_14, x142_17, x142_18, evI_i, evJl_i, evJf_i, evJd_i, evA_r, evA_n, evA_q, evLk_c, evS1_d, evS2_d, evFl_n, evFl_c, evGl_n, evGl_c, evIn_n, evIn_c, evCat_i, evCat_l, evCat_f, evCat_d, evCat_r, evCat_z, evCat_q, evBd_some, evTl_s, evTl_n, va_rf_s, va_rf_n, and_true, true_and, and_false, false_and, if_true, if_false, not_true_eq_false, not_false_eq_true, reduceCtorEq, ↓reduceIte, Nat.reduceAdd, Nat.reduceEqDiff, Nat.reduceLT, Nat.reduceLeDiff, Nat.reduceSub, Nat.zero_ne_one, Nat.one_ne_zero, w0, w1, w2, w3, w4, w5, w6, w7, w8, w9, w10, w11, w12, w13, w14, w15, w16, w17, w18, w19, w20, w21, w22, w23, w24, evGM_get, evGM_set, evGM_get0, evGM_set0, h7, e, b0, b1, hq, hp80]
  · have e : nI L ≤ nI p := Int32.not_lt.mp (nI_nlt (by omega) (by omega))
    simp only [x142_0, x142_1, x142_2, x142_5, x142_8, x142_9, x142_12, x142_13, x142_14, x142_17, x142_18, evI_i, evJl_i, evJf_i, evJd_i, evA_r, evA_n, evA_q, evLk_c, evS1_d, evS2_d, evFl_n, evFl_c, evGl_n, evGl_c, evIn_n, evIn_c, evCat_i, evCat_l, evCat_f, evCat_d, evCat_r, evCat_z, evCat_q, evBd_some, evTl_s, evTl_n, va_rf_s, va_rf_n, and_true, true_and, and_false, false_and, if_true, if_false, not_true_eq_false, not_false_eq_true, reduceCtorEq, ↓reduceIte, Nat.reduceAdd, Nat.reduceEqDiff, Nat.reduceLT, Nat.reduceLeDiff, Nat.reduceSub, Nat.zero_ne_one, Nat.one_ne_zero, w0, w1, w2, w3, w4, w5, w6, w7, w8, w9, w10, w11, w12, w13, w14, w15, w16, w17, w18, w19, w20, w21, w22, w23, w24, evGM_get, evGM_set, evGM_get0, evGM_set0, h7, e, hq]
end MO
