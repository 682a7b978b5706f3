/-! the law's round, as the machine runs it: pieces -/
theorem rdx {k n : Nat} (h : k < n) (hn : n ≤ 1000) : ¬ nI k < 0 ∧ (nI k).toNatClampNeg = k ∧ k < n := ⟨nI_pos (by omega), nI_cl k (by omega), h⟩
theorem mul7 (k : Nat) : (7 : Int32) * nI k = nI (7 * k) := (Int32.ofNat_mul 7 k).symm
theorem mul8 (k : Nat) : (8 : Int32) * nI k = nI (8 * k) := (Int32.ofNat_mul 8 k).symm
theorem nA1 (k : Nat) : nI k + 1 = nI (k + 1) := nI_add k 1
theorem nA2 (k : Nat) : nI k + 2 = nI (k + 2) := nI_add k 2
theorem nA3 (k : Nat) : nI k + 3 = nI (k + 3) := nI_add k 3
theorem nA4 (k : Nat) : nI k + 4 = nI (k + 4) := nI_add k 4
theorem nA5 (k : Nat) : nI k + 5 = nI (k + 5) := nI_add k 5
theorem nA6 (k : Nat) : nI k + 6 = nI (k + 6) := nI_add k 6
theorem nA7 (k : Nat) : nI k + 7 = nI (k + 7) := nI_add k 7
section LB
variable {h : evH} {m : evM} {c N l n q : Nat} {w : Nat → Nat → Int32} {f : Nat → Int32} {now : Int32}
theorem itG {j : Nat} (hN : c + 5 ≤ N) : evGM (evRowM m N f) c 5 w N j = f j := by
  unfold evGM evRowM
  rw [if_neg (by omega), if_pos rfl]
theorem itS {j : Nat} {x : Int32} (hN : c + 5 ≤ N) : evSetM (evGM (evRowM m N f) c 5 w) N j x = evGM (evRowM m N (rwS f j x)) c 5 w := by
  funext a i
  unfold evSetM evGM evRowM
  by_cases ha : a = N
  · subst ha
    by_cases hi : i = j
    · rw [if_pos ⟨rfl, hi⟩, if_neg (by omega), if_pos rfl, rwS_at, if_pos hi]
    · have e : ¬ (c ≤ a ∧ a < c + 5) := by omega
      rw [if_neg (fun z => hi z.2), if_neg e, if_pos rfl, if_neg e, if_pos rfl, rwS_at, if_neg hi]
  · rw [if_neg (fun z => ha z.1), if_neg ha, if_neg ha]
theorem itZ (hN : c + 5 ≤ evN h) : evNewM h (evGM m c 5 w) = evGM (evRowM m (evN h) (fun _ => 0)) c 5 w := by
  funext a j
  show (if a = evN h then 0 else evGM m c 5 w a j) = _
  unfold evGM evRowM
  by_cases ha : a = evN h
  · rw [if_pos ha, if_neg (by omega), if_pos ha]
  · rw [if_neg ha, if_neg ha]
def lv5 (c : Nat) : evL := [(0, .ref c), (1, .ref (c + 1)), (2, .ref (c + 2)), (3, .ref (c + 3)), (4, .ref (c + 4))]
theorem r_beg (hl : lR h c) (hq : q ≤ 8) (h6 : w 0 6 = nI q) (hn : w 0 7 < 0) (d : Nat) (hd : d ≤ q) : ∃ x, evX 71 3 [(0, .ref c), (1, .ref (c + 1)), (2, .ref (c + 2)), (3, .ref (c + 3)), (4, .ref (c + 4)), (5, .int (nI (q - d)))] [] h (evGM m c 5 w) = evX 71 66 [(0, .ref c), (1, .ref (c + 1)), (2, .ref (c + 2)), (3, .ref (c + 3)), (4, .ref (c + 4)), (5, .int x)] [] h (evGM m c 5 (bgF w q d)) := by
  obtain ⟨ra0, ra1, ra2, ra3, ra4, rn0, rn1, rn2, rn3, rn4⟩ := id hl
  have hn' : ¬ 0 ≤ w 0 7 := Int32.not_le.mpr hn
  induction d with
  | zero =>
    have hge : nI q ≤ nI q := Int32.le_refl _
    refine ⟨nI q, ?_⟩
    conv => lhs; rw [x71_3]
    simp only [Nat.sub_zero, x71_5, x71_6, x71_8, x71_8s, x71_9, x71_12, x71_13, x71_15, x71_15s, x71_16, x71_19, x71_20, x71_22, x71_24, x71_25, x71_26, x71_27, x71_27s, x71_28, x71_31, x71_34, x71_35, x71_37, x71_39, x71_40, x71_41, x71_42, x71_43, x71_44, x71_45, x71_47, x71_49, x71_50, x71_51, x71_53, x71_54, x71_55, x71_56, x71_58, x71_59, x71_60, x71_63, evI_i, evJl_i, evJf_i, evJd_i, evA_r, evA_n, evA_q, evLk_c, evS1_d, evS2_d, evFl_n, evFl_c, evGl_n, evGl_c, evIn_n, evIn_c, evCat_i, evCat_l, evCat_f, evCat_d, evCat_r, evCat_z, evCat_q, evBd_some, evTl_s, evTl_n, va_rf_s, va_rf_n, and_true, true_and, and_false, false_and, if_true, if_false, not_true_eq_false, not_false_eq_true, reduceCtorEq, ↓reduceIte, Nat.reduceAdd, Nat.reduceEqDiff, Nat.reduceLT, Nat.reduceLeDiff, Nat.reduceSub, Nat.zero_ne_one, Nat.one_ne_zero, ra0, ra1, ra2, ra3, ra4, rn0, rn1, rn2, rn3, rn4, evGM_get, evGM_set, evGM_get0, evGM_set0, lt0, lt1, lt2, lt3, lt4, lt5, lt6, lt7, lt8, lt9, lt10, lc0, lc1, lc2, lc3, lc4, lc5, lc6, lc7, lc8, lc9, lc10, h6, hge]
    rfl
  | succ d ih =>
    have hk : q - (d + 1) < q := by omega
    have hlt : ¬ nI q ≤ nI (q - (d + 1)) := nI_ge hk (by omega)
    obtain ⟨i1_p, i1_c, i1_l⟩ := rdx (k := 7 * (q - (d + 1)) + 1) (n := 56) (by omega) (by decide)
    rw [bgF_s]
    by_cases h0 : w 2 (7 * (q - (d + 1)) + 1) = 0
    · rw [if_pos h0]
      have st : evX 71 3 [(0, .ref c), (1, .ref (c + 1)), (2, .ref (c + 2)), (3, .ref (c + 3)), (4, .ref (c + 4)), (5, .int (nI (q - (d + 1))))] [] h (evGM m c 5 w) = evX 71 3 [(0, .ref c), (1, .ref (c + 1)), (2, .ref (c + 2)), (3, .ref (c + 3)), (4, .ref (c + 4)), (5, .int (nI (q - (d + 1) + 1)))] [] h (evGM m c 5 (bgL w (q - (d + 1)))) := by
        conv => lhs; rw [x71_3]
        simp only [x71_5, x71_6, x71_8, x71_8s, x71_9, x71_12, x71_13, x71_15, x71_15s, x71_16, x71_19, x71_20, x71_22, x71_24, x71_25, x71_26, x71_27, x71_27s, x71_28, x71_31, x71_34, x71_35, x71_37, x71_39, x71_40, x71_41, x71_42, x71_43, x71_44, x71_45, x71_47, x71_49, x71_50, x71_51, x71_53, x71_54, x71_55, x71_56, x71_58, x71_59, x71_60, x71_63, evI_i, evJl_i, evJf_i, evJd_i, evA_r, evA_n, evA_q, evLk_c, evS1_d, evS2_d, evFl_n, evFl_c, evGl_n, evGl_c, evIn_n, evIn_c, evCat_i, evCat_l, evCat_f, evCat_d, evCat_r, evCat_z, evCat_q, evBd_some, evTl_s, evTl_n, va_rf_s, va_rf_n, and_true, true_and, and_false, false_and, if_true, if_false, not_true_eq_false, not_false_eq_true, reduceCtorEq, ↓reduceIte, Nat.reduceAdd, Nat.reduceEqDiff, Nat.reduceLT, Nat.reduceLeDiff, Nat.reduceSub, Nat.zero_ne_one, Nat.one_ne_zero, ra0, ra1, ra2, ra3, ra4, rn0, rn1, rn2, rn3, rn4, evGM_get, evGM_set, evGM_get0, evGM_set0, lt0, lt1, lt2, lt3, lt4, lt5, lt6, lt7, lt8, lt9, lt10, lc0, lc1, lc2, lc3, lc4, lc5, lc6, lc7, lc8, lc9, lc10, h6, hlt, hn', h0, mul7, nA1, i1_p, i1_c, i1_l]
        rfl
      rw [st]
      generalize hL : bgL w (q - (d + 1)) = w'
      have g6 : w' 0 6 = nI q := by rw [← hL, bgL_0, if_neg (by omega), if_neg (by omega), if_neg (by omega)]; exact h6
      have g7 : 0 ≤ w' 0 7 := by rw [← hL, bgL_0, if_neg (by omega), if_neg (by omega), if_pos rfl]; exact nI_pos' (by omega)
      refine ⟨nI (q - (d + 1) + 1), ?_⟩
      conv => lhs; rw [x71_3]
      by_cases hc : nI q ≤ nI (q - (d + 1) + 1)
      · simp only [x71_5, x71_6, x71_8, x71_8s, x71_9, x71_12, x71_13, x71_15, x71_15s, x71_16, x71_19, x71_20, x71_22, x71_24, x71_25, x71_26, x71_27, x71_27s, x71_28, x71_31, x71_34, x71_35, x71_37, x71_39, x71_40, x71_41, x71_42, x71_43, x71_44, x71_45, x71_47, x71_49, x71_50, x71_51, x71_53, x71_54, x71_55, x71_56, x71_58, x71_59, x71_60, x71_63, evI_i, evJl_i, evJf_i, evJd_i, evA_r, evA_n, evA_q, evLk_c, evS1_d, evS2_d, evFl_n, evFl_c, evGl_n, evGl_c, evIn_n, evIn_c, evCat_i, evCat_l, evCat_f, evCat_d, evCat_r, evCat_z, evCat_q, evBd_some, evTl_s, evTl_n, va_rf_s, va_rf_n, and_true, true_and, and_false, false_and, if_true, if_false, not_true_eq_false, not_false_eq_true, reduceCtorEq, ↓reduceIte, Nat.reduceAdd, Nat.reduceEqDiff, Nat.reduceLT, Nat.reduceLeDiff, Nat.reduceSub, Nat.zero_ne_one, Nat.one_ne_zero, ra0, ra1, ra2, ra3, ra4, rn0, rn1, rn2, rn3, rn4, evGM_get, evGM_set, evGM_get0, evGM_set0, lt0, lt1, lt2, lt3, lt4, lt5, lt6, lt7, lt8, lt9, lt10, lc0, lc1, lc2, lc3, lc4, lc5, lc6, lc7, lc8, lc9, lc10, g6, g7, hc]
      · simp only [x71_5, x71_6, x71_8, x71_8s, x71_9, x71_12, x71_13, x71_15, x71_15s, x71_16, x71_19, x71_20, x71_22, x71_24, x71_25, x71_26, x71_27, x71_27s, x71_28, x71_31, x71_34, x71_35, x71_37, x71_39, x71_40, x71_41, x71_42, x71_43, x71_44, x71_45, x71_47, x71_49, x71_50, x71_51, x71_53, x71_54, x71_55, x71_56, x71_58, x71_59, x71_60, x71_63, evI_i, evJl_i, evJf_i, evJd_i, evA_r, evA_n, evA_q, evLk_c, evS1_d, evS2_d, evFl_n, evFl_c, evGl_n, evGl_c, evIn_n, evIn_c, evCat_i, evCat_l, evCat_f, evCat_d, evCat_r, evCat_z, evCat_q, evBd_some, evTl_s, evTl_n, va_rf_s, va_rf_n, and_true, true_and, and_false, false_and, if_true, if_false, not_true_eq_false, not_false_eq_true, reduceCtorEq, ↓reduceIte, Nat.reduceAdd, Nat.reduceEqDiff, Nat.reduceLT, Nat.reduceLeDiff, Nat.reduceSub, Nat.zero_ne_one, Nat.one_ne_zero, ra0, ra1, ra2, ra3, ra4, rn0, rn1, rn2, rn3, rn4, evGM_get, evGM_set, evGM_get0, evGM_set0, lt0, lt1, lt2, lt3, lt4, lt5, lt6, lt7, lt8, lt9, lt10, lc0, lc1, lc2, lc3, lc4, lc5, lc6, lc7, lc8, lc9, lc10, g6, g7, hc]
    · rw [if_neg h0]
      obtain ⟨x, hx⟩ := ih (by omega)
      refine ⟨x, Eq.trans ?_ hx⟩
      have e : q - d = q - (d + 1) + 1 := by omega
      conv => lhs; rw [x71_3]
      simp only [x71_5, x71_6, x71_8, x71_8s, x71_9, x71_12, x71_13, x71_15, x71_15s, x71_16, x71_19, x71_20, x71_22, x71_24, x71_25, x71_26, x71_27, x71_27s, x71_28, x71_31, x71_34, x71_35, x71_37, x71_39, x71_40, x71_41, x71_42, x71_43, x71_44, x71_45, x71_47, x71_49, x71_50, x71_51, x71_53, x71_54, x71_55, x71_56, x71_58, x71_59, x71_60, x71_63, evI_i, evJl_i, evJf_i, evJd_i, evA_r, evA_n, evA_q, evLk_c, evS1_d, evS2_d, evFl_n, evFl_c, evGl_n, evGl_c, evIn_n, evIn_c, evCat_i, evCat_l, evCat_f, evCat_d, evCat_r, evCat_z, evCat_q, evBd_some, evTl_s, evTl_n, va_rf_s, va_rf_n, and_true, true_and, and_false, false_and, if_true, if_false, not_true_eq_false, not_false_eq_true, reduceCtorEq, ↓reduceIte, Nat.reduceAdd, Nat.reduceEqDiff, Nat.reduceLT, Nat.reduceLeDiff, Nat.reduceSub, Nat.zero_ne_one, Nat.one_ne_zero, ra0, ra1, ra2, ra3, ra4, rn0, rn1, rn2, rn3, rn4, evGM_get, evGM_set, evGM_get0, evGM_set0, lt0, lt1, lt2, lt3, lt4, lt5, lt6, lt7, lt8, lt9, lt10, lc0, lc1, lc2, lc3, lc4, lc5, lc6, lc7, lc8, lc9, lc10, h6, hlt, hn', h0, mul7, nA1, e, i1_p, i1_c, i1_l]
theorem r_begin (hl : lR h c) (hq : q ≤ 8) (h6 : w 0 6 = nI q) : ∃ x, evX 71 0 [(0, .ref c), (1, .ref (c + 1)), (2, .ref (c + 2)), (3, .ref (c + 3)), (4, .ref (c + 4))] [] h (evGM m c 5 w) = evX 71 66 [(0, .ref c), (1, .ref (c + 1)), (2, .ref (c + 2)), (3, .ref (c + 3)), (4, .ref (c + 4)), (5, .int x)] [] h (evGM m c 5 (bgA w q)) := by
  have st : evX 71 0 [(0, .ref c), (1, .ref (c + 1)), (2, .ref (c + 2)), (3, .ref (c + 3)), (4, .ref (c + 4))] [] h (evGM m c 5 w) = evX 71 3 [(0, .ref c), (1, .ref (c + 1)), (2, .ref (c + 2)), (3, .ref (c + 3)), (4, .ref (c + 4)), (5, .int (nI 0))] [] h (evGM m c 5 w) := by
    simp only [x71_0, x71_1, evI_i, evJl_i, evJf_i, evJd_i, evA_r, evA_n, evA_q, evLk_c, evS1_d, evS2_d, evFl_n, evFl_c, evGl_n, evGl_c, evIn_n, evIn_c, evCat_i, evCat_l, evCat_f, evCat_d, evCat_r, evCat_z, evCat_q, evBd_some, evTl_s, evTl_n, va_rf_s, va_rf_n, and_true, true_and, and_false, false_and, if_true, if_false, not_true_eq_false, not_false_eq_true, reduceCtorEq, ↓reduceIte, Nat.reduceAdd, Nat.reduceEqDiff, Nat.reduceLT, Nat.reduceLeDiff, Nat.reduceSub, Nat.zero_ne_one, Nat.one_ne_zero]
    rfl
  rw [st]
  unfold bgA
  by_cases hn : w 0 7 < 0
  · rw [if_pos hn]
    have R := r_beg (h := h) (m := m) hl hq h6 hn q (Nat.le_refl q)
    rw [Nat.sub_self] at R
    exact R
  · rw [if_neg hn]
    obtain ⟨ra0, ra1, ra2, ra3, ra4, rn0, rn1, rn2, rn3, rn4⟩ := id hl
    have g7 : 0 ≤ w 0 7 := Int32.not_lt.mp hn
    refine ⟨nI 0, ?_⟩
    conv => lhs; rw [x71_3]
    by_cases hc : nI q ≤ nI 0
    · simp only [x71_5, x71_6, x71_8, x71_8s, x71_9, x71_12, x71_13, x71_15, x71_15s, x71_16, x71_19, x71_20, x71_22, x71_24, x71_25, x71_26, x71_27, x71_27s, x71_28, x71_31, x71_34, x71_35, x71_37, x71_39, x71_40, x71_41, x71_42, x71_43, x71_44, x71_45, x71_47, x71_49, x71_50, x71_51, x71_53, x71_54, x71_55, x71_56, x71_58, x71_59, x71_60, x71_63, evI_i, evJl_i, evJf_i, evJd_i, evA_r, evA_n, evA_q, evLk_c, evS1_d, evS2_d, evFl_n, evFl_c, evGl_n, evGl_c, evIn_n, evIn_c, evCat_i, evCat_l, evCat_f, evCat_d, evCat_r, evCat_z, evCat_q, evBd_some, evTl_s, evTl_n, va_rf_s, va_rf_n, and_true, true_and, and_false, false_and, if_true, if_false, not_true_eq_false, not_false_eq_true, reduceCtorEq, ↓reduceIte, Nat.reduceAdd, Nat.reduceEqDiff, Nat.reduceLT, Nat.reduceLeDiff, Nat.reduceSub, Nat.zero_ne_one, Nat.one_ne_zero, ra0, ra1, ra2, ra3, ra4, rn0, rn1, rn2, rn3, rn4, evGM_get, evGM_set, evGM_get0, evGM_set0, lt0, lt1, lt2, lt3, lt4, lt5, lt6, lt7, lt8, lt9, lt10, lc0, lc1, lc2, lc3, lc4, lc5, lc6, lc7, lc8, lc9, lc10, h6, g7, hc]
    · simp only [x71_5, x71_6, x71_8, x71_8s, x71_9, x71_12, x71_13, x71_15, x71_15s, x71_16, x71_19, x71_20, x71_22, x71_24, x71_25, x71_26, x71_27, x71_27s, x71_28, x71_31, x71_34, x71_35, x71_37, x71_39, x71_40, x71_41, x71_42, x71_43, x71_44, x71_45, x71_47, x71_49, x71_50, x71_51, x71_53, x71_54, x71_55, x71_56, x71_58, x71_59, x71_60, x71_63, evI_i, evJl_i, evJf_i, evJd_i, evA_r, evA_n, evA_q, evLk_c, evS1_d, evS2_d, evFl_n, evFl_c, evGl_n, evGl_c, evIn_n, evIn_c, evCat_i, evCat_l, evCat_f, evCat_d, evCat_r, evCat_z, evCat_q, evBd_some, evTl_s, evTl_n, va_rf_s, va_rf_n, and_true, true_and, and_false, false_and, if_true, if_false, not_true_eq_false, not_false_eq_true, reduceCtorEq, ↓reduceIte, Nat.reduceAdd, Nat.reduceEqDiff, Nat.reduceLT, Nat.reduceLeDiff, Nat.reduceSub, Nat.zero_ne_one, Nat.one_ne_zero, ra0, ra1, ra2, ra3, ra4, rn0, rn1, rn2, rn3, rn4, evGM_get, evGM_set, evGM_get0, evGM_set0, lt0, lt1, lt2, lt3, lt4, lt5, lt6, lt7, lt8, lt9, lt10, lc0, lc1, lc2, lc3, lc4, lc5, lc6, lc7, lc8, lc9, lc10, h6, g7, hc]
theorem ms_back (w : Nat → Nat → Int32) (o j : Nat) (x : Int32) : ms (ms w o j x) o j (w o j) = w := by
  funext a i
  rw [ms_at, ms_at]
  by_cases hx : a = o ∧ i = j
  · rw [if_pos hx, hx.1, hx.2]
  · rw [if_neg hx, if_neg hx]
theorem r_none (hl : lR h c) (h7 : w 0 7 < 0) (x : Int32) : evX 71 66 [(0, .ref c), (1, .ref (c + 1)), (2, .ref (c + 2)), (3, .ref (c + 3)), (4, .ref (c + 4)), (5, .int x)] [] h (evGM m c 5 w) = some (some (.int 0), h, evGM m c 5 (ms w 0 4 (w 0 4 + 1))) := by
  obtain ⟨ra0, ra1, ra2, ra3, ra4, rn0, rn1, rn2, rn3, rn4⟩ := id hl
  have h7' : ¬ 0 ≤ w 0 7 := Int32.not_le.mpr h7
  simp only [x71_66, x71_67, x71_68, x71_69, x71_69s, x71_70, x71_71, x71_72, x71_73, x71_74, x71_76, x71_76s, x71_77, x71_80, x71_81, evI_i, evJl_i, evJf_i, evJd_i, evA_r, evA_n, evA_q, evLk_c, evS1_d, evS2_d, evFl_n, evFl_c, evGl_n, evGl_c, evIn_n, evIn_c, evCat_i, evCat_l, evCat_f, evCat_d, evCat_r, evCat_z, evCat_q, evBd_some, evTl_s, evTl_n, va_rf_s, va_rf_n, and_true, true_and, and_false, false_and, if_true, if_false, not_true_eq_false, not_false_eq_true, reduceCtorEq, ↓reduceIte, Nat.reduceAdd, Nat.reduceEqDiff, Nat.reduceLT, Nat.reduceLeDiff, Nat.reduceSub, Nat.zero_ne_one, Nat.one_ne_zero, ra0, ra1, ra2, ra3, ra4, rn0, rn1, rn2, rn3, rn4, evGM_get, evGM_set, evGM_get0, evGM_set0, lt0, lt1, lt2, lt3, lt4, lt5, lt6, lt7, lt8, lt9, lt10, lc0, lc1, lc2, lc3, lc4, lc5, lc6, lc7, lc8, lc9, lc10, ms_at, h7']
theorem r_runs (hl : lR h c) (hN : c + 5 ≤ evN h) (h9 : evN h < evO9) (hl8 : l < 8) (h7 : w 0 7 = nI l) (x : Int32) : evX 71 66 [(0, .ref c), (1, .ref (c + 1)), (2, .ref (c + 2)), (3, .ref (c + 3)), (4, .ref (c + 4)), (5, .int x)] [] h (evGM m c 5 w) = evX 71 112 [(0, .ref c), (1, .ref (c + 1)), (2, .ref (c + 2)), (3, .ref (c + 3)), (4, .ref (c + 4)), (5, .int (nI (7 * l))), (6, .int (w 0 4)), (7, .ref (evN h)), (8, .int (nI 0))] [] (evNew h 9 6) (evGM (evRowM m (evN h) (fun _ => 0)) c 5 (tzW w 0)) := by
  obtain ⟨ra0, ra1, ra2, ra3, ra4, rn0, rn1, rn2, rn3, rn4⟩ := id hl
  have h7' : 0 ≤ nI l := nI_pos' (by omega)
  have z1 : ¬ (6 : Int32) < 0 := by decide
  have z2 : (6 : Int32).toNatClampNeg = 6 := by decide
  have e4 : w 0 4 + 1 - 1 = w 0 4 := Int32.add_sub_cancel _ _
  have b0 : evAt (evNew h 9 6) c 9 := evAt_same (by rw [evNew_K, if_neg (by omega)]) (by rw [evNew_N]; omega) ra0
  have b1 : evLen (evNew h 9 6) c = 11 := by rw [evNew_len, if_neg (by omega)]; exact rn0
  simp only [x71_66, x71_67, x71_68, x71_69, x71_69s, x71_70, x71_71, x71_72, x71_73, x71_74, x71_76, x71_76s, x71_77, x71_80, x71_81, x71_82, x71_84, x71_85, x71_87, x71_87s, x71_88, x71_89, x71_91, x71_92, x71_93, x71_93s, x71_94, x71_95, x71_96, x71_98, x71_100, x71_102, x71_102n, x71_102q, x71_104, x71_105, x71_106, x71_108, x71_109, x71_110, evI_i, evJl_i, evJf_i, evJd_i, evA_r, evA_n, evA_q, evLk_c, evS1_d, evS2_d, evFl_n, evFl_c, evGl_n, evGl_c, evIn_n, evIn_c, evCat_i, evCat_l, evCat_f, evCat_d, evCat_r, evCat_z, evCat_q, evBd_some, evTl_s, evTl_n, va_rf_s, va_rf_n, and_true, true_and, and_false, false_and, if_true, if_false, not_true_eq_false, not_false_eq_true, reduceCtorEq, ↓reduceIte, Nat.reduceAdd, Nat.reduceEqDiff, Nat.reduceLT, Nat.reduceLeDiff, Nat.reduceSub, Nat.zero_ne_one, Nat.one_ne_zero, ra0, ra1, ra2, ra3, ra4, rn0, rn1, rn2, rn3, rn4, evGM_get, evGM_set, evGM_get0, evGM_set0, lt0, lt1, lt2, lt3, lt4, lt5, lt6, lt7, lt8, lt9, lt10, lc0, lc1, lc2, lc3, lc4, lc5, lc6, lc7, lc8, lc9, lc10, ms_at, h7, h7', mul7, e4, z1, z2, h9, b0, b1, itZ hN, ms_back]
  rfl
end LB
