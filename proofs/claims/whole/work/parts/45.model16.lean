/-! the model: another lag, counts -/
theorem mvU_row (u : Nat → Nat → Int32) {i : Nat} (hi : i < 328) (o1 o2 : Nat) : mvU u o1 0 o2 0 328 o2 i = u o1 i := by
  unfold mvU
  rw [if_pos ⟨rfl, by omega, by omega⟩, show 0 + (i - 0) = i by omega]
theorem mInv_lag {u : Nat → Nat → Int32} {lag n q k : Nat} (hi : mInv u lag n q) (hk : k ≤ 5) : mInv (ms (mvU u 1 0 2 0 328) 1 0 (nI k)) k n q := by
  obtain ⟨h1, h2, h3, h4, h5, h6, h7, h8⟩ := hi
  have e : ∀ j, j ≠ 0 → ms (mvU u 1 0 2 0 328) 1 0 (nI k) 1 j = u 1 j := fun j hj => by
    rw [ms_at, if_neg (fun z => hj z.2), mvU_o _ _ _ _ _ _ _ (by decide)]
  refine ⟨h1, hk, h3, by rw [e 5 (by decide), h4], by rw [ms_at, if_pos ⟨rfl, rfl⟩], by rw [e 6 (by decide), h6], by rw [e 7 (by decide)]; exact h7, fun l hl => ?_⟩
  rw [e _ (by omega)]
  exact h8 l hl
def ilU (u : Nat → Nat → Int32) (k n q : Nat) : Nat → Nat → Int32 := farU (ms (mvU u 1 0 2 0 328) 1 0 (nI k)) k n q 1000
def mcnt (u : Nat → Nat → Int32) (n q : Nat) (w : Int32) : Int32 := if wiB w 8 11 = true then u 1 (w - 8).toNatClampNeg else if w = 0 then u 1 4 else if w = 1 then u 1 5 else if w = 2 then u 1 6 else if w = 3 then u 1 7 else if w = 4 then mHow (u 1) 2 q else if w = 5 then mSum (u 1) 3 n else if w = 6 then mSum (u 1) 5 n else if w = 7 then mSum (u 1) 6 n else if w = 12 then u 0 7 else if w = 13 then u 0 3 else -2
section MO
variable {h : evH} {m : evM} {c : Nat} {u : Nat → Nat → Int32}
theorem c_mifLag (hu : mOK h c) {lag n q : Nat} (hi : mInv u lag n q) (x : Int32) : evX 137 0 [(0, .ref c), (1, .int x)] [] h (evGM m c 9 u) = some (some (.int (if wiB x 0 5 = true then mSum (ilU u x.toNatClampNeg n q 1) 3 n - mSum (u 1) 3 n else -2)), h, evGM m c 9 (if wiB x 0 5 = true then mvU (ilU u x.toNatClampNeg n q) 2 0 1 0 328 else u)) := by
  obtain ⟨w0, w1, w2, w3, w4, w5, w6, w7, w8, w9, w10, w11, w12, w13, w14, w15, w16, w17, w18, w19, w20, w21, w22, w23, w24⟩ := id hu
  have e1 : ¬ evBl true = 0 := by decide
  by_cases hx : wiB x 0 5 = true
  · obtain ⟨k, hk, rfl⟩ := wiB_nI (n := 6) (by decide) (by rw [show nI 6 - 1 = (5 : Int32) by decide]; exact hx)
    have b1 : (nI k).toNatClampNeg = k := nI_cl k (by omega)
    rw [if_pos hx, if_pos hx, b1]
    have M1 : evX 87 0 [(0, .ref (c + 1)), (1, .int 0), (2, .ref (c + 2)), (3, .int 0)] [] h (evGM m c 9 u) = some (none, h, evGM m c 9 (mvU u 1 0 2 0 328)) := c_moves (m := m) (u := u) (f := 0) (t := 0) w9 w10 w17 w18 (by omega) (by omega) (by omega) (by omega) (by decide) (by decide) (by decide)
    have M2 : ∀ v, evX 87 0 [(0, .ref (c + 2)), (1, .int 0), (2, .ref (c + 1)), (3, .int 0)] [] h (evGM m c 9 v) = some (none, h, evGM m c 9 (mvU v 2 0 1 0 328)) := fun v => c_moves (m := m) (u := v) (f := 0) (t := 0) w10 w9 w18 w17 (by omega) (by omega) (by omega) (by omega) (by decide) (by decide) (by decide)
    have A1 := c_ofAll (m := m) (u := mvU u 1 0 2 0 328) hu hi.1 (by rw [mvU_o _ _ _ _ _ _ _ (by decide)]; exact hi.2.2.2.1) lt3 (by decide)
    have r1 : mvU u 1 0 2 0 328 1 = u 1 := by funext j; exact mvU_o _ _ _ _ _ _ _ (by decide)
    rw [r1, lc3] at A1
    have I := mInv_lag hi (k := k) (by omega)
    have G := c_goesFar (m := m) hu I
    have I2 := farU_inv I 1000
    have A2 := c_ofAll (m := m) (u := ilU u k n q) hu hi.1 I2.2.2.2.1 lt3 (by decide)
    rw [lc3] at A2
    have G' : evX 136 0 [(0, .ref c)] [] h (evGM m c 9 (ms (mvU u 1 0 2 0 328) 1 0 (nI k))) = some (none, h, evGM m c 9 (ilU u k n q)) := G
    simp only [x137_0, x137_1, x137_2, x137_3, x137_6, x137_9, x137_11, x137_12, x137_13, x137_16, x137_17, x137_18, x137_21, x137_22, x137_25, x137_26, x137_27, x137_30, x137_31, x137_32, x137_35, x137_36, x137_37, x137_38, x137_39, x137_42, x137_43, x137_44, x137_47, x137_48, x137_49, x137_50, x137_51, x137_54, x137_55, x137_56, x137_59, x137_60, x137_63, x137_64, evI_i, evJl_i, evJf_i, evJd_i, evA_r, evA_n, evA_q, evLk_c, evS1_d, evS2_d, evFl_n, evFl_c, evGl_n, evGl_c, evIn_n, evIn_c, evCat_i, evCat_l, evCat_f, evCat_d, evCat_r, evCat_z, evCat_q, evBd_some, evTl_s, evTl_n, va_rf_s, va_rf_n, and_true, true_and, and_false, false_and, if_true, if_false, not_true_eq_false, not_false_eq_true, reduceCtorEq, ↓reduceIte, Nat.reduceAdd, Nat.reduceEqDiff, Nat.reduceLT, Nat.reduceLeDiff, Nat.reduceSub, Nat.zero_ne_one, Nat.one_ne_zero, w0, w1, w2, w3, w4, w5, w6, w7, w8, w9, w10, w11, w12, w13, w14, w15, w16, w17, w18, w19, w20, w21, w22, w23, w24, evGM_get, evGM_set, evGM_get0, evGM_set0, c_within, hx, e1, M1, M2, A1, A2, G', lt0, lc0, Option.toList, List.cons_append, List.nil_append]
  · have hf := b_ne hx
    simp only [x137_0, x137_1, x137_2, x137_3, x137_6, x137_9, x137_11, x137_12, x137_13, x137_16, x137_17, x137_18, x137_21, x137_22, x137_25, x137_26, x137_27, x137_30, x137_31, x137_32, x137_35, x137_36, x137_37, x137_38, x137_39, x137_42, x137_43, x137_44, x137_47, x137_48, x137_49, x137_50, x137_51, x137_54, x137_55, x137_56, x137_59, x137_60, x137_63, x137_64, evI_i, evJl_i, evJf_i, evJd_i, evA_r, evA_n, evA_q, evLk_c, evS1_d, evS2_d, evFl_n, evFl_c, evGl_n, evGl_c, evIn_n, evIn_c, evCat_i, evCat_l, evCat_f, evCat_d, evCat_r, evCat_z, evCat_q, evBd_some, evTl_s, evTl_n, va_rf_s, va_rf_n, and_true, true_and, and_false, false_and, if_true, if_false, not_true_eq_false, not_false_eq_true, reduceCtorEq, ↓reduceIte, Nat.reduceAdd, Nat.reduceEqDiff, Nat.reduceLT, Nat.reduceLeDiff, Nat.reduceSub, Nat.zero_ne_one, Nat.one_ne_zero, w0, w1, w2, w3, w4, w5, w6, w7, w8, w9, w10, w11, w12, w13, w14, w15, w16, w17, w18, w19, w20, w21, w22, w23, w24, evGM_get, evGM_set, evGM_get0, evGM_set0, c_within, hf, evBl_f, Bool.false_eq_true, Option.toList, List.cons_append, List.nil_append]
theorem c_mcount (hu : mOK h c) {n q : Nat} (hn : n ≤ 6) (hq : q ≤ 8) (h5 : u 1 5 = nI n) (h6 : u 1 6 = nI q) (w : Int32) : evX 131 0 [(0, .ref c), (1, .int w)] [] h (evGM m c 9 u) = some (some (.int (mcnt u n q w)), h, evGM m c 9 u) := by
  obtain ⟨w0, w1, w2, w3, w4, w5, w6, w7, w8, w9, w10, w11, w12, w13, w14, w15, w16, w17, w18, w19, w20, w21, w22, w23, w24⟩ := id hu
  have e1 : ¬ evBl true = 0 := by decide
  have A := fun (x : Int32) (h0 : ¬ x < 0) (h8 : x.toNatClampNeg < 8) => c_ofAll (m := m) (u := u) hu hn h5 (x := x) h0 h8
  have H := c_withHow (m := m) (u := u) hu hq h6 2
  unfold mcnt
  by_cases hw : wiB w 8 11 = true
  · rw [if_pos hw]
    have hx : ¬ (w - 8) < 0 ∧ (w - 8).toNatClampNeg < 328 := by
      have hw' := hw
      unfold wiB at hw'
      simp only [Bool.and_eq_true, decide_eq_true_eq] at hw'
      have h0 : ¬ w < 0 := fun q => i32_ff hw'.1 (Int32.lt_trans q (by decide))
      obtain ⟨k, hk, rfl⟩ := nI_of h0
      have k1 : ¬ nI k < nI 8 := Int32.not_lt.mpr hw'.1
      have k2 : ¬ nI 11 < nI k := Int32.not_lt.mpr hw'.2
      have k3 : 8 ≤ k := by
        rcases Nat.lt_or_ge k 8 with q | q
        · exact absurd ((nI_ltI (by omega) (by omega)).mpr q) k1
        · exact q
      have k4 : k ≤ 11 := by
        rcases Nat.lt_or_ge 11 k with q | q
        · exact absurd ((nI_ltI (by omega) hk).mpr q) k2
        · exact q
      have e : nI k - 8 = nI (k - 8) := by
        rw [show k = k - 8 + 8 by omega, ← nI_add2]
        rw [Nat.add_sub_cancel]
        exact Int32.add_sub_cancel _ _
      rw [e]
      exact ⟨nI_pos (by omega), by rw [nI_cl _ (by omega)]; omega⟩
    simp only [x131_0, x131_1, x131_3, x131_5, x131_8, x131_11, x131_12, x131_15, x131_16, x131_18, x131_19, x131_20, x131_21, x131_22, x131_92, x131_93, x131_96, x131_97, x131_98, x131_99, x131_100, x131_103, x131_104, x131_105, x131_106, x131_107, x131_110, x131_112, x131_113, x131_114, x131_115, x131_118, x131_120, x131_121, x131_122, x131_123, x131_124, x131_127, x131_128, x131_129, x131_130, x131_133, x131_134, x131_135, x131_136, x131_139, x131_140, x131_141, x131_143, x131_146, x131_147, x131_148, x131_151, x131_152, x131_153, x131_156, x131_157, x131_159, evI_i, evJl_i, evJf_i, evJd_i, evA_r, evA_n, evA_q, evLk_c, evS1_d, evS2_d, evFl_n, evFl_c, evGl_n, evGl_c, evIn_n, evIn_c, evCat_i, evCat_l, evCat_f, evCat_d, evCat_r, evCat_z, evCat_q, evBd_some, evTl_s, evTl_n, va_rf_s, va_rf_n, and_true, true_and, and_false, false_and, if_true, if_false, not_true_eq_false, not_false_eq_true, reduceCtorEq, ↓reduceIte, Nat.reduceAdd, Nat.reduceEqDiff, Nat.reduceLT, Nat.reduceLeDiff, Nat.reduceSub, Nat.zero_ne_one, Nat.one_ne_zero, w0, w1, w2, w3, w4, w5, w6, w7, w8, w9, w10, w11, w12, w13, w14, w15, w16, w17, w18, w19, w20, w21, w22, w23, w24, evGM_get, evGM_set, evGM_get0, evGM_set0, c_within, hw, e1, hx.1, hx.2, Option.toList, List.cons_append, List.nil_append]
  · have hf := b_ne hw
    rw [if_neg hw]
    have st : evX 131 0 [(0, .ref c), (1, .int w)] [] h (evGM m c 9 u) = evX 131 22 [(0, .ref c), (1, .int w)] [.int w] h (evGM m c 9 u) := by
      simp only [x131_0, x131_1, x131_3, x131_5, x131_8, x131_11, x131_12, x131_15, x131_16, x131_18, x131_19, x131_20, x131_21, evI_i, evJl_i, evJf_i, evJd_i, evA_r, evA_n, evA_q, evLk_c, evS1_d, evS2_d, evFl_n, evFl_c, evGl_n, evGl_c, evIn_n, evIn_c, evCat_i, evCat_l, evCat_f, evCat_d, evCat_r, evCat_z, evCat_q, evBd_some, evTl_s, evTl_n, va_rf_s, va_rf_n, and_true, true_and, and_false, false_and, if_true, if_false, not_true_eq_false, not_false_eq_true, reduceCtorEq, ↓reduceIte, Nat.reduceAdd, Nat.reduceEqDiff, Nat.reduceLT, Nat.reduceLeDiff, Nat.reduceSub, Nat.zero_ne_one, Nat.one_ne_zero, w0, w1, w2, w3, w4, w5, w6, w7, w8, w9, w10, w11, w12, w13, w14, w15, w16, w17, w18, w19, w20, w21, w22, w23, w24, evGM_get, evGM_set, evGM_get0, evGM_set0, c_within, hf, evBl_f, Option.toList, List.cons_append, List.nil_append]
    rw [st]
    clear st
    have n8 : w = 8 → False := fun q => by subst q; exact absurd hf (by decide)
    have n9 : w = 9 → False := fun q => by subst q; exact absurd hf (by decide)
    have n10 : w = 10 → False := fun q => by subst q; exact absurd hf (by decide)
    have n11 : w = 11 → False := fun q => by subst q; exact absurd hf (by decide)
    have m8 : (w = 8) = False := eq_false n8
    have m9 : (w = 9) = False := eq_false n9
    have m10 : (w = 10) = False := eq_false n10
    have m11 : (w = 11) = False := eq_false n11
    rw [x131_22]
    simp only [m8, m9, m10, m11, if_false]
    have B0 : evX 131 92 [(0, .ref c), (1, .int w)] [] h (evGM m c 9 u) = some (some (.int (u 1 4)), h, evGM m c 9 u) := by simp only [x131_92, x131_93, x131_96, x131_97, x131_98, evI_i, evJl_i, evJf_i, evJd_i, evA_r, evA_n, evA_q, evLk_c, evS1_d, evS2_d, evFl_n, evFl_c, evGl_n, evGl_c, evIn_n, evIn_c, evCat_i, evCat_l, evCat_f, evCat_d, evCat_r, evCat_z, evCat_q, evBd_some, evTl_s, evTl_n, va_rf_s, va_rf_n, and_true, true_and, and_false, false_and, if_true, if_false, not_true_eq_false, not_false_eq_true, reduceCtorEq, ↓reduceIte, Nat.reduceAdd, Nat.reduceEqDiff, Nat.reduceLT, Nat.reduceLeDiff, Nat.reduceSub, Nat.zero_ne_one, Nat.one_ne_zero, w0, w1, w2, w3, w4, w5, w6, w7, w8, w9, w10, w11, w12, w13, w14, w15, w16, w17, w18, w19, w20, w21, w22, w23, w24, evGM_get, evGM_set, evGM_get0, evGM_set0, lt4, lc4]
    have B1 : evX 131 99 [(0, .ref c), (1, .int w)] [] h (evGM m c 9 u) = some (some (.int (u 1 5)), h, evGM m c 9 u) := by simp only [x131_99, x131_100, x131_103, x131_104, x131_105, evI_i, evJl_i, evJf_i, evJd_i, evA_r, evA_n, evA_q, evLk_c, evS1_d, evS2_d, evFl_n, evFl_c, evGl_n, evGl_c, evIn_n, evIn_c, evCat_i, evCat_l, evCat_f, evCat_d, evCat_r, evCat_z, evCat_q, evBd_some, evTl_s, evTl_n, va_rf_s, va_rf_n, and_true, true_and, and_false, false_and, if_true, if_false, not_true_eq_false, not_false_eq_true, reduceCtorEq, ↓reduceIte, Nat.reduceAdd, Nat.reduceEqDiff, Nat.reduceLT, Nat.reduceLeDiff, Nat.reduceSub, Nat.zero_ne_one, Nat.one_ne_zero, w0, w1, w2, w3, w4, w5, w6, w7, w8, w9, w10, w11, w12, w13, w14, w15, w16, w17, w18, w19, w20, w21, w22, w23, w24, evGM_get, evGM_set, evGM_get0, evGM_set0, lt5, lc5]
    have B2 : evX 131 106 [(0, .ref c), (1, .int w)] [] h (evGM m c 9 u) = some (some (.int (u 1 6)), h, evGM m c 9 u) := by simp only [x131_106, x131_107, x131_110, x131_112, x131_113, evI_i, evJl_i, evJf_i, evJd_i, evA_r, evA_n, evA_q, evLk_c, evS1_d, evS2_d, evFl_n, evFl_c, evGl_n, evGl_c, evIn_n, evIn_c, evCat_i, evCat_l, evCat_f, evCat_d, evCat_r, evCat_z, evCat_q, evBd_some, evTl_s, evTl_n, va_rf_s, va_rf_n, and_true, true_and, and_false, false_and, if_true, if_false, not_true_eq_false, not_false_eq_true, reduceCtorEq, ↓reduceIte, Nat.reduceAdd, Nat.reduceEqDiff, Nat.reduceLT, Nat.reduceLeDiff, Nat.reduceSub, Nat.zero_ne_one, Nat.one_ne_zero, w0, w1, w2, w3, w4, w5, w6, w7, w8, w9, w10, w11, w12, w13, w14, w15, w16, w17, w18, w19, w20, w21, w22, w23, w24, evGM_get, evGM_set, evGM_get0, evGM_set0, lt6, lc6]
    have B3 : evX 131 114 [(0, .ref c), (1, .int w)] [] h (evGM m c 9 u) = some (some (.int (u 1 7)), h, evGM m c 9 u) := by simp only [x131_114, x131_115, x131_118, x131_120, x131_121, evI_i, evJl_i, evJf_i, evJd_i, evA_r, evA_n, evA_q, evLk_c, evS1_d, evS2_d, evFl_n, evFl_c, evGl_n, evGl_c, evIn_n, evIn_c, evCat_i, evCat_l, evCat_f, evCat_d, evCat_r, evCat_z, evCat_q, evBd_some, evTl_s, evTl_n, va_rf_s, va_rf_n, and_true, true_and, and_false, false_and, if_true, if_false, not_true_eq_false, not_false_eq_true, reduceCtorEq, ↓reduceIte, Nat.reduceAdd, Nat.reduceEqDiff, Nat.reduceLT, Nat.reduceLeDiff, Nat.reduceSub, Nat.zero_ne_one, Nat.one_ne_zero, w0, w1, w2, w3, w4, w5, w6, w7, w8, w9, w10, w11, w12, w13, w14, w15, w16, w17, w18, w19, w20, w21, w22, w23, w24, evGM_get, evGM_set, evGM_get0, evGM_set0, lt7, lc7]
    have B4 : evX 131 122 [(0, .ref c), (1, .int w)] [] h (evGM m c 9 u) = some (some (.int (mHow (u 1) 2 q)), h, evGM m c 9 u) := by simp only [x131_122, x131_123, x131_124, x131_127, evI_i, evJl_i, evJf_i, evJd_i, evA_r, evA_n, evA_q, evLk_c, evS1_d, evS2_d, evFl_n, evFl_c, evGl_n, evGl_c, evIn_n, evIn_c, evCat_i, evCat_l, evCat_f, evCat_d, evCat_r, evCat_z, evCat_q, evBd_some, evTl_s, evTl_n, va_rf_s, va_rf_n, and_true, true_and, and_false, false_and, if_true, if_false, not_true_eq_false, not_false_eq_true, reduceCtorEq, ↓reduceIte, Nat.reduceAdd, Nat.reduceEqDiff, Nat.reduceLT, Nat.reduceLeDiff, Nat.reduceSub, Nat.zero_ne_one, Nat.one_ne_zero, w0, w1, w2, w3, w4, w5, w6, w7, w8, w9, w10, w11, w12, w13, w14, w15, w16, w17, w18, w19, w20, w21, w22, w23, w24, evGM_get, evGM_set, evGM_get0, evGM_set0, H, Option.toList, List.cons_append, List.nil_append]
    have B5 : evX 131 128 [(0, .ref c), (1, .int w)] [] h (evGM m c 9 u) = some (some (.int (mSum (u 1) 3 n)), h, evGM m c 9 u) := by simp only [x131_128, x131_129, x131_130, x131_133, evI_i, evJl_i, evJf_i, evJd_i, evA_r, evA_n, evA_q, evLk_c, evS1_d, evS2_d, evFl_n, evFl_c, evGl_n, evGl_c, evIn_n, evIn_c, evCat_i, evCat_l, evCat_f, evCat_d, evCat_r, evCat_z, evCat_q, evBd_some, evTl_s, evTl_n, va_rf_s, va_rf_n, and_true, true_and, and_false, false_and, if_true, if_false, not_true_eq_false, not_false_eq_true, reduceCtorEq, ↓reduceIte, Nat.reduceAdd, Nat.reduceEqDiff, Nat.reduceLT, Nat.reduceLeDiff, Nat.reduceSub, Nat.zero_ne_one, Nat.one_ne_zero, w0, w1, w2, w3, w4, w5, w6, w7, w8, w9, w10, w11, w12, w13, w14, w15, w16, w17, w18, w19, w20, w21, w22, w23, w24, evGM_get, evGM_set, evGM_get0, evGM_set0, A, lt3, lc3, Option.toList, List.cons_append, List.nil_append]
    have B6 : evX 131 134 [(0, .ref c), (1, .int w)] [] h (evGM m c 9 u) = some (some (.int (mSum (u 1) 5 n)), h, evGM m c 9 u) := by simp only [x131_134, x131_135, x131_136, x131_139, evI_i, evJl_i, evJf_i, evJd_i, evA_r, evA_n, evA_q, evLk_c, evS1_d, evS2_d, evFl_n, evFl_c, evGl_n, evGl_c, evIn_n, evIn_c, evCat_i, evCat_l, evCat_f, evCat_d, evCat_r, evCat_z, evCat_q, evBd_some, evTl_s, evTl_n, va_rf_s, va_rf_n, and_true, true_and, and_false, false_and, if_true, if_false, not_true_eq_false, not_false_eq_true, reduceCtorEq, ↓reduceIte, Nat.reduceAdd, Nat.reduceEqDiff, Nat.reduceLT, Nat.reduceLeDiff, Nat.reduceSub, Nat.zero_ne_one, Nat.one_ne_zero, w0, w1, w2, w3, w4, w5, w6, w7, w8, w9, w10, w11, w12, w13, w14, w15, w16, w17, w18, w19, w20, w21, w22, w23, w24, evGM_get, evGM_set, evGM_get0, evGM_set0, A, lt5, lc5, Option.toList, List.cons_append, List.nil_append]
    have B7 : evX 131 140 [(0, .ref c), (1, .int w)] [] h (evGM m c 9 u) = some (some (.int (mSum (u 1) 6 n)), h, evGM m c 9 u) := by simp only [x131_140, x131_141, x131_143, x131_146, evI_i, evJl_i, evJf_i, evJd_i, evA_r, evA_n, evA_q, evLk_c, evS1_d, evS2_d, evFl_n, evFl_c, evGl_n, evGl_c, evIn_n, evIn_c, evCat_i, evCat_l, evCat_f, evCat_d, evCat_r, evCat_z, evCat_q, evBd_some, evTl_s, evTl_n, va_rf_s, va_rf_n, and_true, true_and, and_false, false_and, if_true, if_false, not_true_eq_false, not_false_eq_true, reduceCtorEq, ↓reduceIte, Nat.reduceAdd, Nat.reduceEqDiff, Nat.reduceLT, Nat.reduceLeDiff, Nat.reduceSub, Nat.zero_ne_one, Nat.one_ne_zero, w0, w1, w2, w3, w4, w5, w6, w7, w8, w9, w10, w11, w12, w13, w14, w15, w16, w17, w18, w19, w20, w21, w22, w23, w24, evGM_get, evGM_set, evGM_get0, evGM_set0, A, lt6, lc6, Option.toList, List.cons_append, List.nil_append]
    have B8 : evX 131 147 [(0, .ref c), (1, .int w)] [] h (evGM m c 9 u) = some (some (.int (u 0 7)), h, evGM m c 9 u) := by simp only [x131_147, x131_148, x131_151, evI_i, evJl_i, evJf_i, evJd_i, evA_r, evA_n, evA_q, evLk_c, evS1_d, evS2_d, evFl_n, evFl_c, evGl_n, evGl_c, evIn_n, evIn_c, evCat_i, evCat_l, evCat_f, evCat_d, evCat_r, evCat_z, evCat_q, evBd_some, evTl_s, evTl_n, va_rf_s, va_rf_n, and_true, true_and, and_false, false_and, if_true, if_false, not_true_eq_false, not_false_eq_true, reduceCtorEq, ↓reduceIte, Nat.reduceAdd, Nat.reduceEqDiff, Nat.reduceLT, Nat.reduceLeDiff, Nat.reduceSub, Nat.zero_ne_one, Nat.one_ne_zero, w0, w1, w2, w3, w4, w5, w6, w7, w8, w9, w10, w11, w12, w13, w14, w15, w16, w17, w18, w19, w20, w21, w22, w23, w24, evGM_get, evGM_set, evGM_get0, evGM_set0]
    have B9 : evX 131 152 [(0, .ref c), (1, .int w)] [] h (evGM m c 9 u) = some (some (.int (u 0 3)), h, evGM m c 9 u) := by simp only [x131_152, x131_153, x131_156, evI_i, evJl_i, evJf_i, evJd_i, evA_r, evA_n, evA_q, evLk_c, evS1_d, evS2_d, evFl_n, evFl_c, evGl_n, evGl_c, evIn_n, evIn_c, evCat_i, evCat_l, evCat_f, evCat_d, evCat_r, evCat_z, evCat_q, evBd_some, evTl_s, evTl_n, va_rf_s, va_rf_n, and_true, true_and, and_false, false_and, if_true, if_false, not_true_eq_false, not_false_eq_true, reduceCtorEq, ↓reduceIte, Nat.reduceAdd, Nat.reduceEqDiff, Nat.reduceLT, Nat.reduceLeDiff, Nat.reduceSub, Nat.zero_ne_one, Nat.one_ne_zero, w0, w1, w2, w3, w4, w5, w6, w7, w8, w9, w10, w11, w12, w13, w14, w15, w16, w17, w18, w19, w20, w21, w22, w23, w24, evGM_get, evGM_set, evGM_get0, evGM_set0]
    have BA : evX 131 157 [(0, .ref c), (1, .int w)] [] h (evGM m c 9 u) = some (some (.int (-2)), h, evGM m c 9 u) := by simp only [x131_157, x131_159, evI_i, evJl_i, evJf_i, evJd_i, evA_r, evA_n, evA_q, evLk_c, evS1_d, evS2_d, evFl_n, evFl_c, evGl_n, evGl_c, evIn_n, evIn_c, evCat_i, evCat_l, evCat_f, evCat_d, evCat_r, evCat_z, evCat_q, evBd_some, evTl_s, evTl_n, va_rf_s, va_rf_n, and_true, true_and, and_false, false_and, if_true, if_false, not_true_eq_false, not_false_eq_true, reduceCtorEq, ↓reduceIte, Nat.reduceAdd, Nat.reduceEqDiff, Nat.reduceLT, Nat.reduceLeDiff, Nat.reduceSub, Nat.zero_ne_one, Nat.one_ne_zero, w0, w1, w2, w3, w4, w5, w6, w7, w8, w9, w10, w11, w12, w13, w14, w15, w16, w17, w18, w19, w20, w21, w22, w23, w24, evGM_get, evGM_set, evGM_get0, evGM_set0]
    rw [B0, B1, B2, B3, B4, B5, B6, B7, B8, B9, BA]
    repeat' split
    all_goals rfl
end MO
