/-! the model: the best plan is answered -/
section MO
variable {h : evH} {m : evM} {c : Nat} {u : Nat → Nat → Int32}
theorem c_mbestPlan (hu : mOK h c) {lag n q : Nat} (hi : mInv u lag n q) (b w : Int32) : evX 139 0 [(0, .ref c), (1, .int b), (2, .int w)] [] h (evGM m c 9 u) = some (some (.int (if wiB b 0 (nI n - 1) = true then (if wiB w 0 1 = true then (if w = 0 then (bpR u lag n q b.toNatClampNeg 21).1 else (bpR u lag n q b.toNatClampNeg 21).2 + 100000) else -2) else -1)), h, evGM m c 9 (if wiB b 0 (nI n - 1) = true ∧ wiB w 0 1 = true then bpZ u lag n q b.toNatClampNeg 21 else u)) := by
  obtain ⟨w0, w1, w2, w3, w4, w5, w6, w7, w8, w9, w10, w11, w12, w13, w14, w15, w16, w17, w18, w19, w20, w21, w22, w23, w24⟩ := id hu
  have e1 : ¬ evBl true = 0 := by decide
  have I := c_isBidder (m := m) (u := u) hu b
  rw [hi.2.2.2.1] at I
  by_cases hb : wiB b 0 (nI n - 1) = true
  · rw [hb] at I
    rw [if_pos hb]
    by_cases hw : wiB w 0 1 = true
    · rw [if_pos hw, if_pos (And.intro hb hw)]
      have hn := hi.1
      obtain ⟨k, hk, rfl⟩ := wiB_nI (by omega) hb
      have b1 : (nI k).toNatClampNeg = k := nI_cl k (by omega)
      have hk6 : k < 6 := by omega
      rw [b1]
      have M1 : evX 87 0 [(0, .ref (c + 1)), (1, .int 0), (2, .ref (c + 2)), (3, .int 0)] [] h (evGM m c 9 u) = some (none, h, evGM m c 9 (bpZ u lag n q k 0)) := c_moves (m := m) (u := u) (f := 0) (t := 0) w9 w10 w17 w18 (by omega) (by omega) (by omega) (by omega) (by decide) (by decide) (by decide)
      have GO := c_gainOf (m := m) (u := bpZ u lag n q k 0) hu hk6
      rw [bpZ_1 _ _ _ _ _ _ (by omega), bpZ_1 _ _ _ _ _ _ (by omega)] at GO
      have st : evX 139 0 [(0, .ref c), (1, .int (nI k)), (2, .int w)] [] h (evGM m c 9 u) = evX 139 51 ([(0, .ref c), (1, .int (nI k)), (2, .int w), (3, .int (u 1 (10 + 8 * k + 4) - u 1 (10 + 8 * k + 3))), (4, .int (bpR u lag n q k 0).1), (5, .int (bpR u lag n q k 0).2), (6, .int (nI (10 * 0)))] ++ []) [] h (evGM m c 9 (bpZ u lag n q k 0)) := by
        simp only [x139_0, x139_1, x139_2, x139_5, x139_8, x139_9, x139_10, x139_11, x139_12, x139_13, x139_16, x139_19, x139_21, x139_22, x139_23, x139_26, x139_27, x139_28, x139_31, x139_32, x139_35, x139_36, x139_37, x139_40, x139_41, x139_43, x139_45, x139_46, x139_48, x139_49, evI_i, evJl_i, evJf_i, evJd_i, evA_r, evA_n, evA_q, evLk_c, evS1_d, evS2_d, evFl_n, evFl_c, evGl_n, evGl_c, evIn_n, evIn_c, evCat_i, evCat_l, evCat_f, evCat_d, evCat_r, evCat_z, evCat_q, evBd_some, evTl_s, evTl_n, va_rf_s, va_rf_n, and_true, true_and, and_false, false_and, if_true, if_false, not_true_eq_false, not_false_eq_true, reduceCtorEq, ↓reduceIte, Nat.reduceAdd, Nat.reduceEqDiff, Nat.reduceLT, Nat.reduceLeDiff, Nat.reduceSub, Nat.zero_ne_one, Nat.one_ne_zero, w0, w1, w2, w3, w4, w5, w6, w7, w8, w9, w10, w11, w12, w13, w14, w15, w16, w17, w18, w19, w20, w21, w22, w23, w24, evGM_get, evGM_set, evGM_get0, evGM_set0, I, c_within, hw, e1, M1, GO, Option.toList, List.cons_append, List.nil_append, List.append_nil]
        rfl
      have P : ∀ j, j ≤ 21 → ∃ e : evL, (e = [] ∨ ∃ x y, e = [(7, .int x), (8, .int y)]) ∧ evX 139 0 [(0, .ref c), (1, .int (nI k)), (2, .int w)] [] h (evGM m c 9 u) = evX 139 51 ([(0, .ref c), (1, .int (nI k)), (2, .int w), (3, .int (u 1 (10 + 8 * k + 4) - u 1 (10 + 8 * k + 3))), (4, .int (bpR u lag n q k j).1), (5, .int (bpR u lag n q k j).2), (6, .int (nI (10 * j)))] ++ e) [] h (evGM m c 9 (bpZ u lag n q k j)) := by
        intro j
        induction j with
        | zero => intro _; exact ⟨[], Or.inl rfl, st⟩
        | succ j ih =>
          intro hj
          obtain ⟨e, he, x1⟩ := ih (by omega)
          obtain ⟨e', he', x2⟩ := c_bpStep (m := m) hu hk6 (by omega : j ≤ 20) hi w e he
          exact ⟨e', he', x1.trans x2⟩
      obtain ⟨e, he, x1⟩ := P 21 (Nat.le_refl 21)
      rw [x1]
      generalize bpR u lag n q k 21 = r
      have hgt : (200 : Int32) < nI (10 * 21) := by decide
      rcases he with rfl | ⟨x, y, rfl⟩
      · by_cases h0 : w = 0
        · simp only [x139_51, x139_53, x139_56, x139_148, x139_149, x139_152, x139_154, x139_157, x139_159, x139_161, x139_162, evI_i, evJl_i, evJf_i, evJd_i, evA_r, evA_n, evA_q, evLk_c, evS1_d, evS2_d, evFl_n, evFl_c, evGl_n, evGl_c, evIn_n, evIn_c, evCat_i, evCat_l, evCat_f, evCat_d, evCat_r, evCat_z, evCat_q, evBd_some, evTl_s, evTl_n, va_rf_s, va_rf_n, and_true, true_and, and_false, false_and, if_true, if_false, not_true_eq_false, not_false_eq_true, reduceCtorEq, ↓reduceIte, Nat.reduceAdd, Nat.reduceEqDiff, Nat.reduceLT, Nat.reduceLeDiff, Nat.reduceSub, Nat.zero_ne_one, Nat.one_ne_zero, hgt, h0, List.cons_append, List.nil_append, List.append_nil]
        · simp only [x139_51, x139_53, x139_56, x139_148, x139_149, x139_152, x139_154, x139_157, x139_159, x139_161, x139_162, evI_i, evJl_i, evJf_i, evJd_i, evA_r, evA_n, evA_q, evLk_c, evS1_d, evS2_d, evFl_n, evFl_c, evGl_n, evGl_c, evIn_n, evIn_c, evCat_i, evCat_l, evCat_f, evCat_d, evCat_r, evCat_z, evCat_q, evBd_some, evTl_s, evTl_n, va_rf_s, va_rf_n, and_true, true_and, and_false, false_and, if_true, if_false, not_true_eq_false, not_false_eq_true, reduceCtorEq, ↓reduceIte, Nat.reduceAdd, Nat.reduceEqDiff, Nat.reduceLT, Nat.reduceLeDiff, Nat.reduceSub, Nat.zero_ne_one, Nat.one_ne_zero, hgt, h0, List.cons_append, List.nil_append, List.append_nil]
      · by_cases h0 : w = 0
        · simp only [x139_51, x139_53, x139_56, x139_148, x139_149, x139_152, x139_154, x139_157, x139_159, x139_161, x139_162, evI_i, evJl_i, evJf_i, evJd_i, evA_r, evA_n, evA_q, evLk_c, evS1_d, evS2_d, evFl_n, evFl_c, evGl_n, evGl_c, evIn_n, evIn_c, evCat_i, evCat_l, evCat_f, evCat_d, evCat_r, evCat_z, evCat_q, evBd_some, evTl_s, evTl_n, va_rf_s, va_rf_n, and_true, true_and, and_false, false_and, if_true, if_false, not_true_eq_false, not_false_eq_true, reduceCtorEq, ↓reduceIte, Nat.reduceAdd, Nat.reduceEqDiff, Nat.reduceLT, Nat.reduceLeDiff, Nat.reduceSub, Nat.zero_ne_one, Nat.one_ne_zero, hgt, h0, List.cons_append, List.nil_append, List.append_nil]
        · simp only [x139_51, x139_53, x139_56, x139_148, x139_149, x139_152, x139_154, x139_157, x139_159, x139_161, x139_162, evI_i, evJl_i, evJf_i, evJd_i, evA_r, evA_n, evA_q, evLk_c, evS1_d, evS2_d, evFl_n, evFl_c, evGl_n, evGl_c, evIn_n, evIn_c, evCat_i, evCat_l, evCat_f, evCat_d, evCat_r, evCat_z, evCat_q, evBd_some, evTl_s, evTl_n, va_rf_s, va_rf_n, and_true, true_and, and_false, false_and, if_true, if_false, not_true_eq_false, not_false_eq_true, reduceCtorEq, ↓reduceIte, Nat.reduceAdd, Nat.reduceEqDiff, Nat.reduceLT, Nat.reduceLeDiff, Nat.reduceSub, Nat.zero_ne_one, Nat.one_ne_zero, hgt, h0, List.cons_append, List.nil_append, List.append_nil]
    · have hf := b_ne hw
      rw [if_neg hw, if_neg (fun z => hw z.2)]
      simp only [x139_0, x139_1, x139_2, x139_5, x139_8, x139_9, x139_10, x139_11, x139_12, x139_13, x139_16, x139_19, x139_21, x139_22, x139_23, x139_26, x139_27, x139_28, x139_31, x139_32, x139_35, x139_36, x139_37, x139_40, x139_41, x139_43, x139_45, x139_46, x139_48, x139_49, x139_51, x139_53, x139_56, x139_59, x139_60, x139_61, x139_62, x139_64, x139_67, x139_68, x139_71, x139_72, x139_73, x139_76, x139_77, x139_78, x139_80, x139_81, x139_84, x139_85, x139_86, x139_89, x139_90, x139_93, x139_95, x139_97, x139_100, x139_102, x139_104, x139_107, x139_108, x139_111, x139_112, x139_114, x139_116, x139_119, x139_121, x139_124, x139_126, x139_128, x139_130, x139_133, x139_135, x139_138, x139_140, x139_142, x139_145, x139_148, x139_149, x139_152, x139_154, x139_157, x139_159, x139_161, x139_162, evI_i, evJl_i, evJf_i, evJd_i, evA_r, evA_n, evA_q, evLk_c, evS1_d, evS2_d, evFl_n, evFl_c, evGl_n, evGl_c, evIn_n, evIn_c, evCat_i, evCat_l, evCat_f, evCat_d, evCat_r, evCat_z, evCat_q, evBd_some, evTl_s, evTl_n, va_rf_s, va_rf_n, and_true, true_and, and_false, false_and, if_true, if_false, not_true_eq_false, not_false_eq_true, reduceCtorEq, ↓reduceIte, Nat.reduceAdd, Nat.reduceEqDiff, Nat.reduceLT, Nat.reduceLeDiff, Nat.reduceSub, Nat.zero_ne_one, Nat.one_ne_zero, w0, I, c_within, hf, e1, evBl_f, Option.toList, List.cons_append, List.nil_append]
  · have hf := b_ne hb
    rw [if_neg hb, if_neg (fun z => hb z.1)]
    rw [hf] at I
    simp only [x139_0, x139_1, x139_2, x139_5, x139_8, x139_9, x139_10, x139_11, x139_12, x139_13, x139_16, x139_19, x139_21, x139_22, x139_23, x139_26, x139_27, x139_28, x139_31, x139_32, x139_35, x139_36, x139_37, x139_40, x139_41, x139_43, x139_45, x139_46, x139_48, x139_49, x139_51, x139_53, x139_56, x139_59, x139_60, x139_61, x139_62, x139_64, x139_67, x139_68, x139_71, x139_72, x139_73, x139_76, x139_77, x139_78, x139_80, x139_81, x139_84, x139_85, x139_86, x139_89, x139_90, x139_93, x139_95, x139_97, x139_100, x139_102, x139_104, x139_107, x139_108, x139_111, x139_112, x139_114, x139_116, x139_119, x139_121, x139_124, x139_126, x139_128, x139_130, x139_133, x139_135, x139_138, x139_140, x139_142, x139_145, x139_148, x139_149, x139_152, x139_154, x139_157, x139_159, x139_161, x139_162, evI_i, evJl_i, evJf_i, evJd_i, evA_r, evA_n, evA_q, evLk_c, evS1_d, evS2_d, evFl_n, evFl_c, evGl_n, evGl_c, evIn_n, evIn_c, evCat_i, evCat_l, evCat_f, evCat_d, evCat_r, evCat_z, evCat_q, evBd_some, evTl_s, evTl_n, va_rf_s, va_rf_n, and_true, true_and, and_false, false_and, if_true, if_false, not_true_eq_false, not_false_eq_true, reduceCtorEq, ↓reduceIte, Nat.reduceAdd, Nat.reduceEqDiff, Nat.reduceLT, Nat.reduceLeDiff, Nat.reduceSub, Nat.zero_ne_one, Nat.one_ne_zero, w0, I, evBl_f, Option.toList, List.cons_append, List.nil_append]
end MO
