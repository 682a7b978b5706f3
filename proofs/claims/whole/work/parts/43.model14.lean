/-! the model: lots left, going far, undo, saving -/
def hlB (u : Nat → Nat → Int32) (q : Nat) : Bool := if u 1 7 = -6 then (if fwF (u 1) q q = -6 then false else true) else true
def farU (u : Nat → Nat → Int32) (lag n q : Nat) : Nat → Nat → Nat → Int32
  | 0 => u
  | k + 1 => if hlB (farU u lag n q k) q = true then rdU (farU u lag n q k) lag n q else farU u lag n q k
theorem farU_inv {u : Nat → Nat → Int32} {lag n q : Nat} (hi : mInv u lag n q) (k : Nat) : mInv (farU u lag n q k) lag n q := by
  induction k with
  | zero => exact hi
  | succ k ih =>
    show mInv (if hlB (farU u lag n q k) q = true then rdU (farU u lag n q k) lag n q else farU u lag n q k) lag n q
    split
    · exact rdU_inv ih
    · exact ih
theorem farU_stop {u : Nat → Nat → Int32} {lag n q k : Nat} (hs : ¬ hlB (farU u lag n q k) q = true) (d : Nat) : farU u lag n q (k + d) = farU u lag n q k := by
  induction d with
  | zero => rfl
  | succ d ih =>
    show (if hlB (farU u lag n q (k + d)) q = true then rdU (farU u lag n q (k + d)) lag n q else farU u lag n q (k + d)) = _
    rw [ih, if_neg hs]
section MO
variable {h : evH} {m : evM} {c : Nat} {u : Nat → Nat → Int32}
theorem c_mhasLots (hu : mOK h c) {q : Nat} (hq : q ≤ 8) (h6 : u 1 6 = nI q) : evX 134 0 [(0, .ref c)] [] h (evGM m c 9 u) = some (some (.int (evBl (hlB u q))), h, evGM m c 9 u) := by
  obtain ⟨w0, w1, w2, w3, w4, w5, w6, w7, w8, w9, w10, w11, w12, w13, w14, w15, w16, w17, w18, w19, w20, w21, w22, w23, w24⟩ := id hu
  have FW := c_firstWaiting (m := m) (u := u) hu hq h6
  unfold hlB
  by_cases h7 : u 1 7 = -6
  · by_cases hf : fwF (u 1) q q = -6
    · simp only [x134_0, x134_1, x134_4, x134_6, x134_7, x134_9, x134_12, x134_13, x134_16, x134_18, x134_21, x134_22, x134_25, x134_26_0, x134_26_1, x134_26b, evI_i, evJl_i, evJf_i, evJd_i, evA_r, evA_n, evA_q, evLk_c, evS1_d, evS2_d, evFl_n, evFl_c, evGl_n, evGl_c, evIn_n, evIn_c, evCat_i, evCat_l, evCat_f, evCat_d, evCat_r, evCat_z, evCat_q, evBd_some, evTl_s, evTl_n, va_rf_s, va_rf_n, and_true, true_and, and_false, false_and, if_true, if_false, not_true_eq_false, not_false_eq_true, reduceCtorEq, ↓reduceIte, Nat.reduceAdd, Nat.reduceEqDiff, Nat.reduceLT, Nat.reduceLeDiff, Nat.reduceSub, Nat.zero_ne_one, Nat.one_ne_zero, w0, w1, w2, w3, w4, w5, w6, w7, w8, w9, w10, w11, w12, w13, w14, w15, w16, w17, w18, w19, w20, w21, w22, w23, w24, evGM_get, evGM_set, evGM_get0, evGM_set0, lt7, lc7, FW, h7, hf, evBl_f, Option.toList, List.cons_append, List.nil_append]
    · simp only [x134_0, x134_1, x134_4, x134_6, x134_7, x134_9, x134_12, x134_13, x134_16, x134_18, x134_21, x134_22, x134_25, x134_26_0, x134_26_1, x134_26b, evI_i, evJl_i, evJf_i, evJd_i, evA_r, evA_n, evA_q, evLk_c, evS1_d, evS2_d, evFl_n, evFl_c, evGl_n, evGl_c, evIn_n, evIn_c, evCat_i, evCat_l, evCat_f, evCat_d, evCat_r, evCat_z, evCat_q, evBd_some, evTl_s, evTl_n, va_rf_s, va_rf_n, and_true, true_and, and_false, false_and, if_true, if_false, not_true_eq_false, not_false_eq_true, reduceCtorEq, ↓reduceIte, Nat.reduceAdd, Nat.reduceEqDiff, Nat.reduceLT, Nat.reduceLeDiff, Nat.reduceSub, Nat.zero_ne_one, Nat.one_ne_zero, w0, w1, w2, w3, w4, w5, w6, w7, w8, w9, w10, w11, w12, w13, w14, w15, w16, w17, w18, w19, w20, w21, w22, w23, w24, evGM_get, evGM_set, evGM_get0, evGM_set0, lt7, lc7, FW, h7, hf, evBl_t, Option.toList, List.cons_append, List.nil_append]
  · simp only [x134_0, x134_1, x134_4, x134_6, x134_7, x134_9, x134_12, x134_13, x134_16, x134_18, x134_21, x134_22, x134_25, x134_26_0, x134_26_1, x134_26b, evI_i, evJl_i, evJf_i, evJd_i, evA_r, evA_n, evA_q, evLk_c, evS1_d, evS2_d, evFl_n, evFl_c, evGl_n, evGl_c, evIn_n, evIn_c, evCat_i, evCat_l, evCat_f, evCat_d, evCat_r, evCat_z, evCat_q, evBd_some, evTl_s, evTl_n, va_rf_s, va_rf_n, and_true, true_and, and_false, false_and, if_true, if_false, not_true_eq_false, not_false_eq_true, reduceCtorEq, ↓reduceIte, Nat.reduceAdd, Nat.reduceEqDiff, Nat.reduceLT, Nat.reduceLeDiff, Nat.reduceSub, Nat.zero_ne_one, Nat.one_ne_zero, w0, w1, w2, w3, w4, w5, w6, w7, w8, w9, w10, w11, w12, w13, w14, w15, w16, w17, w18, w19, w20, w21, w22, w23, w24, evGM_get, evGM_set, evGM_get0, evGM_set0, lt7, lc7, h7, evBl_t]
theorem c_goesFar (hu : mOK h c) {lag n q : Nat} (hi : mInv u lag n q) : evX 136 0 [(0, .ref c)] [] h (evGM m c 9 u) = some (none, h, evGM m c 9 (farU u lag n q 1000)) := by
  obtain ⟨w0, w1, w2, w3, w4, w5, w6, w7, w8, w9, w10, w11, w12, w13, w14, w15, w16, w17, w18, w19, w20, w21, w22, w23, w24⟩ := id hu
  have e1 : ¬ evBl true = 0 := by decide
  have st : evX 136 0 [(0, .ref c)] [] h (evGM m c 9 u) = evX 136 2 [(0, .ref c), (1, .int (nI 0))] [] h (evGM m c 9 (farU u lag n q 0)) := by
    simp only [x136_0, x136_1, evI_i, evJl_i, evJf_i, evJd_i, evA_r, evA_n, evA_q, evLk_c, evS1_d, evS2_d, evFl_n, evFl_c, evGl_n, evGl_c, evIn_n, evIn_c, evCat_i, evCat_l, evCat_f, evCat_d, evCat_r, evCat_z, evCat_q, evBd_some, evTl_s, evTl_n, va_rf_s, va_rf_n, and_true, true_and, and_false, false_and, if_true, if_false, not_true_eq_false, not_false_eq_true, reduceCtorEq, ↓reduceIte, Nat.reduceAdd, Nat.reduceEqDiff, Nat.reduceLT, Nat.reduceLeDiff, Nat.reduceSub, Nat.zero_ne_one, Nat.one_ne_zero]
    rfl
  refine st.trans (loop_dn (G := fun k => evX 136 2 [(0, .ref c), (1, .int (nI k))] [] h (evGM m c 9 (farU u lag n q k))) (n := 1000) (fun k hk => ?_) ?_)
  · have e0 : ¬ (1000 : Int32) ≤ nI k := nlt (n := 1000) hk (by decide)
    have hs : nI k + 1 = nI (k + 1) := (nI_succ k).symm
    have I := farU_inv hi k
    have HL := c_mhasLots (m := m) (u := farU u lag n q k) hu I.2.2.1 I.2.2.2.2.2.1
    have RD := c_round (m := m) (u := farU u lag n q k) hu I
    by_cases hh : hlB (farU u lag n q k) q = true
    · left
      show _ = evX 136 2 [(0, .ref c), (1, .int (nI (k + 1)))] [] h (evGM m c 9 (if hlB (farU u lag n q k) q = true then rdU (farU u lag n q k) lag n q else farU u lag n q k))
      rw [if_pos hh]
      rw [hh] at HL
      conv => lhs; rw [x136_2]
      simp only [x136_3, x136_6, x136_9, x136_10, x136_13, x136_16, x136_17, x136_20, x136_21, x136_24, evI_i, evJl_i, evJf_i, evJd_i, evA_r, evA_n, evA_q, evLk_c, evS1_d, evS2_d, evFl_n, evFl_c, evGl_n, evGl_c, evIn_n, evIn_c, evCat_i, evCat_l, evCat_f, evCat_d, evCat_r, evCat_z, evCat_q, evBd_some, evTl_s, evTl_n, va_rf_s, va_rf_n, and_true, true_and, and_false, false_and, if_true, if_false, not_true_eq_false, not_false_eq_true, reduceCtorEq, ↓reduceIte, Nat.reduceAdd, Nat.reduceEqDiff, Nat.reduceLT, Nat.reduceLeDiff, Nat.reduceSub, Nat.zero_ne_one, Nat.one_ne_zero, w0, w1, w2, w3, w4, w5, w6, w7, w8, w9, w10, w11, w12, w13, w14, w15, w16, w17, w18, w19, w20, w21, w22, w23, w24, evGM_get, evGM_set, evGM_get0, evGM_set0, e0, hs, HL, RD, e1, Option.toList, List.cons_append, List.nil_append]
    · right
      have hf := b_ne hh
      have e := farU_stop hh (1000 - k)
      rw [show k + (1000 - k) = 1000 by omega] at e
      rw [e]
      rw [hf] at HL
      simp only [x136_2, x136_3, x136_6, x136_9, x136_10, x136_13, x136_16, x136_17, x136_20, x136_21, x136_24, x136_27, evI_i, evJl_i, evJf_i, evJd_i, evA_r, evA_n, evA_q, evLk_c, evS1_d, evS2_d, evFl_n, evFl_c, evGl_n, evGl_c, evIn_n, evIn_c, evCat_i, evCat_l, evCat_f, evCat_d, evCat_r, evCat_z, evCat_q, evBd_some, evTl_s, evTl_n, va_rf_s, va_rf_n, and_true, true_and, and_false, false_and, if_true, if_false, not_true_eq_false, not_false_eq_true, reduceCtorEq, ↓reduceIte, Nat.reduceAdd, Nat.reduceEqDiff, Nat.reduceLT, Nat.reduceLeDiff, Nat.reduceSub, Nat.zero_ne_one, Nat.one_ne_zero, w0, w1, w2, w3, w4, w5, w6, w7, w8, w9, w10, w11, w12, w13, w14, w15, w16, w17, w18, w19, w20, w21, w22, w23, w24, evGM_get, evGM_set, evGM_get0, evGM_set0, e0, HL, evBl_f, Option.toList, List.cons_append, List.nil_append]
  · have hge : (1000 : Int32) ≤ nI 1000 := by decide
    simp only [x136_2, x136_3, x136_6, x136_9, x136_10, x136_13, x136_16, x136_17, x136_20, x136_21, x136_24, x136_27, evI_i, evJl_i, evJf_i, evJd_i, evA_r, evA_n, evA_q, evLk_c, evS1_d, evS2_d, evFl_n, evFl_c, evGl_n, evGl_c, evIn_n, evIn_c, evCat_i, evCat_l, evCat_f, evCat_d, evCat_r, evCat_z, evCat_q, evBd_some, evTl_s, evTl_n, va_rf_s, va_rf_n, and_true, true_and, and_false, false_and, if_true, if_false, not_true_eq_false, not_false_eq_true, reduceCtorEq, ↓reduceIte, Nat.reduceAdd, Nat.reduceEqDiff, Nat.reduceLT, Nat.reduceLeDiff, Nat.reduceSub, Nat.zero_ne_one, Nat.one_ne_zero, hge]
theorem c_gainOf (hu : mOK h c) {b : Nat} (hb : b < 6) : evX 138 0 [(0, .ref c), (1, .int (nI b))] [] h (evGM m c 9 u) = some (some (.int (u 1 (10 + 8 * b + 4) - u 1 (10 + 8 * b + 3))), h, evGM m c 9 u) := by
  obtain ⟨w0, w1, w2, w3, w4, w5, w6, w7, w8, w9, w10, w11, w12, w13, w14, w15, w16, w17, w18, w19, w20, w21, w22, w23, w24⟩ := id hu
  have b0 : ¬ nI b < 0 := nI_pos (by omega)
  have b1 : (nI b).toNatClampNeg = b := nI_cl b (by omega)
  simp only [x138_0, x138_1, x138_2, x138_3, x138_6, x138_7, x138_8, x138_9, x138_12, x138_13, evI_i, evJl_i, evJf_i, evJd_i, evA_r, evA_n, evA_q, evLk_c, evS1_d, evS2_d, evFl_n, evFl_c, evGl_n, evGl_c, evIn_n, evIn_c, evCat_i, evCat_l, evCat_f, evCat_d, evCat_r, evCat_z, evCat_q, evBd_some, evTl_s, evTl_n, va_rf_s, va_rf_n, and_true, true_and, and_false, false_and, if_true, if_false, not_true_eq_false, not_false_eq_true, reduceCtorEq, ↓reduceIte, Nat.reduceAdd, Nat.reduceEqDiff, Nat.reduceLT, Nat.reduceLeDiff, Nat.reduceSub, Nat.zero_ne_one, Nat.one_ne_zero, w0, w1, w2, w3, w4, w5, w6, w7, w8, w9, w10, w11, w12, w13, w14, w15, w16, w17, w18, w19, w20, w21, w22, w23, w24, evGM_get, evGM_set, evGM_get0, evGM_set0, c_bidderPart hu, b0, b1, hb, lt4, lc4, lt3, lc3, Option.toList, List.cons_append, List.nil_append]
theorem c_mwipe (hu : mOK h c) : evX 141 0 [(0, .ref c)] [] h (evGM m c 9 u) = some (some (.int (u 0 7)), h, evGM m c 9 (ms u 0 7 0)) := by
  obtain ⟨w0, w1, w2, w3, w4, w5, w6, w7, w8, w9, w10, w11, w12, w13, w14, w15, w16, w17, w18, w19, w20, w21, w22, w23, w24⟩ := id hu
  simp only [x141_0, x141_1, x141_4, x141_5, x141_6, x141_7, x141_10, x141_11, evI_i, evJl_i, evJf_i, evJd_i, evA_r, evA_n, evA_q, evLk_c, evS1_d, evS2_d, evFl_n, evFl_c, evGl_n, evGl_c, evIn_n, evIn_c, evCat_i, evCat_l, evCat_f, evCat_d, evCat_r, evCat_z, evCat_q, evBd_some, evTl_s, evTl_n, va_rf_s, va_rf_n, and_true, true_and, and_false, false_and, if_true, if_false, not_true_eq_false, not_false_eq_true, reduceCtorEq, ↓reduceIte, Nat.reduceAdd, Nat.reduceEqDiff, Nat.reduceLT, Nat.reduceLeDiff, Nat.reduceSub, Nat.zero_ne_one, Nat.one_ne_zero, w0, w1, w2, w3, w4, w5, w6, w7, w8, w9, w10, w11, w12, w13, w14, w15, w16, w17, w18, w19, w20, w21, w22, w23, w24, evGM_get, evGM_set, evGM_get0, evGM_set0]
theorem c_mundo (hu : mOK h c) {r : Nat} (hr : r ≤ 6) (h3 : u 0 3 = nI r) : evX 154 0 [(0, .ref c)] [] h (evGM m c 9 u) = some (some (.int (if r = 0 then -5 else nI (r - 1))), h, evGM m c 9 (if r = 0 then u else mvU (ms u 0 3 (nI (r - 1))) 3 ((r - 1) * 328) 1 0 328)) := by
  obtain ⟨w0, w1, w2, w3, w4, w5, w6, w7, w8, w9, w10, w11, w12, w13, w14, w15, w16, w17, w18, w19, w20, w21, w22, w23, w24⟩ := id hu
  cases r with
  | zero =>
    have z : (nI 0 : Int32) = 0 := rfl
    rw [if_pos rfl, if_pos rfl]
    simp only [x154_0, x154_1, x154_4, x154_7, x154_9, x154_10, x154_11, x154_12, x154_15, x154_16, x154_17, x154_20, x154_21, x154_24, x154_25, x154_28, x154_31, x154_32, x154_33, x154_36, x154_37, x154_40, x154_41, x154_44, evI_i, evJl_i, evJf_i, evJd_i, evA_r, evA_n, evA_q, evLk_c, evS1_d, evS2_d, evFl_n, evFl_c, evGl_n, evGl_c, evIn_n, evIn_c, evCat_i, evCat_l, evCat_f, evCat_d, evCat_r, evCat_z, evCat_q, evBd_some, evTl_s, evTl_n, va_rf_s, va_rf_n, and_true, true_and, and_false, false_and, if_true, if_false, not_true_eq_false, not_false_eq_true, reduceCtorEq, ↓reduceIte, Nat.reduceAdd, Nat.reduceEqDiff, Nat.reduceLT, Nat.reduceLeDiff, Nat.reduceSub, Nat.zero_ne_one, Nat.one_ne_zero, w0, w1, w2, w3, w4, w5, w6, w7, w8, w9, w10, w11, w12, w13, w14, w15, w16, w17, w18, w19, w20, w21, w22, w23, w24, evGM_get, evGM_set, evGM_get0, evGM_set0, h3, z]
  | succ r =>
    rw [if_neg (by omega), if_neg (by omega), Nat.add_sub_cancel]
    have z : ¬ nI (r + 1) = 0 := by
      intro q
      have := congrArg Int32.toNatClampNeg q
      rw [nI_cl _ (by omega)] at this
      exact absurd (this.trans (by decide : (0 : Int32).toNatClampNeg = 0)) (by omega)
    have e1 : nI (r + 1) - 1 = nI r := by rw [nI_succ]; exact Int32.add_sub_cancel _ _
    have e2 : nI r * 328 = nI (r * 328) := pk_mul r 328
    have M := c_moves (m := m) (u := ms u 0 3 (nI r)) (f := r * 328) (t := 0) w11 w9 w19 w17 (by omega) (by omega) (by omega) (by omega) (by decide) (by decide) (by decide)
    have M' : evX 87 0 [(0, .ref (c + 3)), (1, .int (nI (r * 328))), (2, .ref (c + 1)), (3, .int 0)] [] h (evGM m c 9 (ms u 0 3 (nI r))) = some (none, h, evGM m c 9 (mvU (ms u 0 3 (nI r)) 3 (r * 328) 1 0 328)) := M
    have g1 : ms u 0 3 (nI r) 0 3 = nI r := by rw [ms_at, if_pos ⟨rfl, rfl⟩]
    have g2 : mvU (ms u 0 3 (nI r)) 3 (r * 328) 1 0 328 0 3 = nI r := by rw [mvU_o _ _ _ _ _ _ _ (by decide), g1]
    simp only [x154_0, x154_1, x154_4, x154_7, x154_9, x154_10, x154_11, x154_12, x154_15, x154_16, x154_17, x154_20, x154_21, x154_24, x154_25, x154_28, x154_31, x154_32, x154_33, x154_36, x154_37, x154_40, x154_41, x154_44, evI_i, evJl_i, evJf_i, evJd_i, evA_r, evA_n, evA_q, evLk_c, evS1_d, evS2_d, evFl_n, evFl_c, evGl_n, evGl_c, evIn_n, evIn_c, evCat_i, evCat_l, evCat_f, evCat_d, evCat_r, evCat_z, evCat_q, evBd_some, evTl_s, evTl_n, va_rf_s, va_rf_n, and_true, true_and, and_false, false_and, if_true, if_false, not_true_eq_false, not_false_eq_true, reduceCtorEq, ↓reduceIte, Nat.reduceAdd, Nat.reduceEqDiff, Nat.reduceLT, Nat.reduceLeDiff, Nat.reduceSub, Nat.zero_ne_one, Nat.one_ne_zero, w0, w1, w2, w3, w4, w5, w6, w7, w8, w9, w10, w11, w12, w13, w14, w15, w16, w17, w18, w19, w20, w21, w22, w23, w24, evGM_get, evGM_set, evGM_get0, evGM_set0, h3, z, e1, e2, g1, g2, M', Option.toList, List.cons_append, List.nil_append]
theorem wiB_01 {s : Int32} (h : wiB s 0 1 = true) : ∃ k, k < 2 ∧ s = nI k := wiB_nI (n := 2) (by decide) (by rw [show nI 2 - 1 = (1 : Int32) by decide]; exact h)
theorem c_msave (hu : mOK h c) (s : Int32) : evX 155 0 [(0, .ref c), (1, .int s)] [] h (evGM m c 9 u) = some (some (.int (if wiB s 0 1 = true then u 1 6 else -2)), h, evGM m c 9 (if wiB s 0 1 = true then ms (mvU u 1 0 4 (328 * s.toNatClampNeg) 328) 5 s.toNatClampNeg 1 else u)) := by
  obtain ⟨w0, w1, w2, w3, w4, w5, w6, w7, w8, w9, w10, w11, w12, w13, w14, w15, w16, w17, w18, w19, w20, w21, w22, w23, w24⟩ := id hu
  have n1 : ¬ evBl true = 0 := by decide
  by_cases hs : wiB s 0 1 = true
  · rw [if_pos hs, if_pos hs]
    obtain ⟨k, hk, rfl⟩ := wiB_01 hs
    have b0 : ¬ nI k < 0 := nI_pos (by omega)
    have b1 : (nI k).toNatClampNeg = k := nI_cl k (by omega)
    have e2 : (328 : Int32) * nI k = nI (328 * k) := pk_mul 328 k
    rw [b1]
    have M := c_moves (m := m) (u := u) (f := 0) (t := 328 * k) w9 w12 w17 w20 (by omega) (by omega) (by omega) (by omega) (by decide) (by decide) (by decide)
    have M' : evX 87 0 [(0, .ref (c + 1)), (1, .int 0), (2, .ref (c + 4)), (3, .int (nI (328 * k)))] [] h (evGM m c 9 u) = some (none, h, evGM m c 9 (mvU u 1 0 4 (328 * k) 328)) := M
    have g6 : ms (mvU u 1 0 4 (328 * k) 328) 5 k 1 1 6 = u 1 6 := by rw [ms_at, if_neg (by omega), mvU_o _ _ _ _ _ _ _ (by decide)]
    simp only [x155_0, x155_1, x155_2, x155_3, x155_6, x155_9, x155_11, x155_12, x155_13, x155_16, x155_17, x155_18, x155_21, x155_24, x155_25, x155_26, x155_29, x155_30, x155_33, x155_34, x155_35, x155_36, x155_37, x155_40, x155_42, x155_43, evI_i, evJl_i, evJf_i, evJd_i, evA_r, evA_n, evA_q, evLk_c, evS1_d, evS2_d, evFl_n, evFl_c, evGl_n, evGl_c, evIn_n, evIn_c, evCat_i, evCat_l, evCat_f, evCat_d, evCat_r, evCat_z, evCat_q, evBd_some, evTl_s, evTl_n, va_rf_s, va_rf_n, and_true, true_and, and_false, false_and, if_true, if_false, not_true_eq_false, not_false_eq_true, reduceCtorEq, ↓reduceIte, Nat.reduceAdd, Nat.reduceEqDiff, Nat.reduceLT, Nat.reduceLeDiff, Nat.reduceSub, Nat.zero_ne_one, Nat.one_ne_zero, w0, w1, w2, w3, w4, w5, w6, w7, w8, w9, w10, w11, w12, w13, w14, w15, w16, w17, w18, w19, w20, w21, w22, w23, w24, evGM_get, evGM_set, evGM_get0, evGM_set0, c_within, hs, n1, b0, b1, hk, e2, M', g6, lt6, lc6, Option.toList, List.cons_append, List.nil_append]
  · have hf := b_ne hs
    simp only [x155_0, x155_1, x155_2, x155_3, x155_6, x155_9, x155_11, x155_12, x155_13, x155_16, x155_17, x155_18, x155_21, x155_24, x155_25, x155_26, x155_29, x155_30, x155_33, x155_34, x155_35, x155_36, x155_37, x155_40, x155_42, x155_43, evI_i, evJl_i, evJf_i, evJd_i, evA_r, evA_n, evA_q, evLk_c, evS1_d, evS2_d, evFl_n, evFl_c, evGl_n, evGl_c, evIn_n, evIn_c, evCat_i, evCat_l, evCat_f, evCat_d, evCat_r, evCat_z, evCat_q, evBd_some, evTl_s, evTl_n, va_rf_s, va_rf_n, and_true, true_and, and_false, false_and, if_true, if_false, not_true_eq_false, not_false_eq_true, reduceCtorEq, ↓reduceIte, Nat.reduceAdd, Nat.reduceEqDiff, Nat.reduceLT, Nat.reduceLeDiff, Nat.reduceSub, Nat.zero_ne_one, Nat.one_ne_zero, w0, w1, w2, w3, w4, w5, w6, w7, w8, w9, w10, w11, w12, w13, w14, w15, w16, w17, w18, w19, w20, w21, w22, w23, w24, evGM_get, evGM_set, evGM_get0, evGM_set0, c_within, hf, evBl_f, Bool.false_eq_true, Option.toList, List.cons_append, List.nil_append]
theorem c_mrestore (hu : mOK h c) {r : Nat} (hr : r ≤ 6) (h3 : u 0 3 = nI r) (s : Int32) : evX 156 0 [(0, .ref c), (1, .int s)] [] h (evGM m c 9 u) = some (some (.int (if wiB s 0 1 = true then (if u 5 s.toNatClampNeg = 0 then -5 else u 4 (328 * s.toNatClampNeg + 6)) else -2)), h, evGM m c 9 (if wiB s 0 1 = true ∧ ¬ u 5 s.toNatClampNeg = 0 then mvU (rcU u r) 4 (328 * s.toNatClampNeg) 1 0 328 else u)) := by
  obtain ⟨w0, w1, w2, w3, w4, w5, w6, w7, w8, w9, w10, w11, w12, w13, w14, w15, w16, w17, w18, w19, w20, w21, w22, w23, w24⟩ := id hu
  have n1 : ¬ evBl true = 0 := by decide
  have R := c_record (m := m) (u := u) hu hr h3
  by_cases hs : wiB s 0 1 = true
  · obtain ⟨k, hk, rfl⟩ := wiB_01 hs
    have b0 : ¬ nI k < 0 := nI_pos (by omega)
    have b1 : (nI k).toNatClampNeg = k := nI_cl k (by omega)
    have e2 : (328 : Int32) * nI k = nI (328 * k) := pk_mul 328 k
    rw [b1]
    by_cases hz : u 5 k = 0
    · simp only [x156_0, x156_1, x156_2, x156_3, x156_6, x156_9, x156_11, x156_12, x156_13, x156_16, x156_17, x156_18, x156_21, x156_23, x156_24, x156_25, x156_28, x156_29, x156_32, x156_35, x156_36, x156_37, x156_38, x156_41, x156_42, x156_45, x156_46, x156_49, x156_51, x156_52, evI_i, evJl_i, evJf_i, evJd_i, evA_r, evA_n, evA_q, evLk_c, evS1_d, evS2_d, evFl_n, evFl_c, evGl_n, evGl_c, evIn_n, evIn_c, evCat_i, evCat_l, evCat_f, evCat_d, evCat_r, evCat_z, evCat_q, evBd_some, evTl_s, evTl_n, va_rf_s, va_rf_n, and_true, true_and, and_false, false_and, if_true, if_false, not_true_eq_false, not_false_eq_true, reduceCtorEq, ↓reduceIte, Nat.reduceAdd, Nat.reduceEqDiff, Nat.reduceLT, Nat.reduceLeDiff, Nat.reduceSub, Nat.zero_ne_one, Nat.one_ne_zero, w0, w1, w2, w3, w4, w5, w6, w7, w8, w9, w10, w11, w12, w13, w14, w15, w16, w17, w18, w19, w20, w21, w22, w23, w24, evGM_get, evGM_set, evGM_get0, evGM_set0, c_within, hs, n1, b0, b1, hk, hz, Option.toList, List.cons_append, List.nil_append]
    · have M := c_moves (m := m) (u := rcU u r) (f := 328 * k) (t := 0) w12 w9 w20 w17 (by omega) (by omega) (by omega) (by omega) (by decide) (by decide) (by decide)
      have M' : evX 87 0 [(0, .ref (c + 4)), (1, .int (nI (328 * k))), (2, .ref (c + 1)), (3, .int 0)] [] h (evGM m c 9 (rcU u r)) = some (none, h, evGM m c 9 (mvU (rcU u r) 4 (328 * k) 1 0 328)) := M
      have g6 : mvU (rcU u r) 4 (328 * k) 1 0 328 1 6 = u 4 (328 * k + 6) := by
        unfold mvU
        rw [if_pos (by omega)]
        exact rcU_o u r _ (by decide) (by decide)
      simp only [x156_0, x156_1, x156_2, x156_3, x156_6, x156_9, x156_11, x156_12, x156_13, x156_16, x156_17, x156_18, x156_21, x156_23, x156_24, x156_25, x156_28, x156_29, x156_32, x156_35, x156_36, x156_37, x156_38, x156_41, x156_42, x156_45, x156_46, x156_49, x156_51, x156_52, evI_i, evJl_i, evJf_i, evJd_i, evA_r, evA_n, evA_q, evLk_c, evS1_d, evS2_d, evFl_n, evFl_c, evGl_n, evGl_c, evIn_n, evIn_c, evCat_i, evCat_l, evCat_f, evCat_d, evCat_r, evCat_z, evCat_q, evBd_some, evTl_s, evTl_n, va_rf_s, va_rf_n, and_true, true_and, and_false, false_and, if_true, if_false, not_true_eq_false, not_false_eq_true, reduceCtorEq, ↓reduceIte, Nat.reduceAdd, Nat.reduceEqDiff, Nat.reduceLT, Nat.reduceLeDiff, Nat.reduceSub, Nat.zero_ne_one, Nat.one_ne_zero, w0, w1, w2, w3, w4, w5, w6, w7, w8, w9, w10, w11, w12, w13, w14, w15, w16, w17, w18, w19, w20, w21, w22, w23, w24, evGM_get, evGM_set, evGM_get0, evGM_set0, c_within, hs, n1, b0, b1, hk, hz, e2, R, M', g6, lt6, lc6, Option.toList, List.cons_append, List.nil_append]
  · have hf := b_ne hs
    simp only [x156_0, x156_1, x156_2, x156_3, x156_6, x156_9, x156_11, x156_12, x156_13, x156_16, x156_17, x156_18, x156_21, x156_23, x156_24, x156_25, x156_28, x156_29, x156_32, x156_35, x156_36, x156_37, x156_38, x156_41, x156_42, x156_45, x156_46, x156_49, x156_51, x156_52, evI_i, evJl_i, evJf_i, evJd_i, evA_r, evA_n, evA_q, evLk_c, evS1_d, evS2_d, evFl_n, evFl_c, evGl_n, evGl_c, evIn_n, evIn_c, evCat_i, evCat_l, evCat_f, evCat_d, evCat_r, evCat_z, evCat_q, evBd_some, evTl_s, evTl_n, va_rf_s, va_rf_n, and_true, true_and, and_false, false_and, if_true, if_false, not_true_eq_false, not_false_eq_true, reduceCtorEq, ↓reduceIte, Nat.reduceAdd, Nat.reduceEqDiff, Nat.reduceLT, Nat.reduceLeDiff, Nat.reduceSub, Nat.zero_ne_one, Nat.one_ne_zero, w0, w1, w2, w3, w4, w5, w6, w7, w8, w9, w10, w11, w12, w13, w14, w15, w16, w17, w18, w19, w20, w21, w22, w23, w24, evGM_get, evGM_set, evGM_get0, evGM_set0, c_within, hf, evBl_f, Bool.false_eq_true, Option.toList, List.cons_append, List.nil_append]
end MO
