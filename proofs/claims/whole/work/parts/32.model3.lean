/-! the model: beliefs, bids, beginnings -/
theorem lc7' : (7 : Int32).toNatClampNeg = 7 := by decide
theorem n100 : ¬ (100 : Int32) = 0 := by decide
theorem nlt {n k : Nat} (hk : k < n) (hn : n < 2 ^ 31) : ¬ nI n ≤ nI k := nI_ge hk hn
theorem ix1 (a b : Nat) : (nI a : Int32) + nI b = nI (a + b) := nI_add2 a b
def limT (r : Nat → Int32) (l b : Nat) : Int32 := if r (58 + 7 * l + 0) * r (10 + 8 * b + 1) / 100 < r (10 + 8 * b + 0) then r (58 + 7 * l + 0) * r (10 + 8 * b + 1) / 100 else r (10 + 8 * b + 0)
def toldB (r : Nat → Int32) (b : Nat) : Bool := decide (0 < r (10 + 8 * b + 7)) && decide (r (10 + 8 * b + 7) ≤ r (10 + 8 * b + 0))
def bidT (r : Nat → Int32) (lag n b : Nat) (t : evT) : evT := if toldB r b = true then t else allT r lag b n
def bidV (r : Nat → Int32) (lag n l b : Nat) : Int32 := if toldB r b = true then r (10 + 8 * b + 7) else if ¬ (allT r lag b n).2.2 = nI b ∧ (allT r lag b n).1 + r 1 ≤ limT r l b then (allT r lag b n).1 + r 1 else 0
section MO
variable {h : evH} {m : evM} {c : Nat} {u : Nat → Nat → Int32}
set_option maxHeartbeats 1000000 in
theorem c_believes (hu : mOK h c) {n lag b : Nat} (hn : n ≤ 6) (hb : b < n) (hl : lag ≤ 5) (h5 : u 1 5 = nI n) (h0 : u 1 0 = nI lag) : evX 101 0 [(0, .ref c), (1, .int (nI b))] [] h (evGM m c 9 u) = some (none, h, evGM m c 9 (setB u (allT (u 1) lag b n))) := by
  obtain ⟨w0, w1, w2, w3, w4, w5, w6, w7, w8, w9, w10, w11, w12, w13, w14, w15, w16, w17, w18, w19, w20, w21, w22, w23, w24⟩ := id hu
  have ix : ∀ (w k : Nat), nI w + nI 2 * nI k = nI (w + 2 * k) := fun w k => by rw [pk_mul, nI_add2]
  have i1 : (114 : Int32) + 2 * nI b = nI (114 + 2 * b) := ix 114 b
  have i2 : nI (114 + 2 * b) + 1 = nI (114 + 2 * b + 1) := (nI_succ _).symm
  have i3 : ¬ nI (114 + 2 * b) < 0 := nI_pos (by omega)
  have i4 : ¬ nI (114 + 2 * b + 1) < 0 := nI_pos (by omega)
  have i5 : (nI (114 + 2 * b)).toNatClampNeg = 114 + 2 * b := nI_cl _ (by omega)
  have i6 : (nI (114 + 2 * b + 1)).toNatClampNeg = 114 + 2 * b + 1 := nI_cl _ (by omega)
  have i7 : 114 + 2 * b < 328 := by omega
  have i8 : 114 + 2 * b + 1 < 328 := by omega
  have st : evX 101 0 [(0, .ref c), (1, .int (nI b))] [] h (evGM m c 9 u) = evX 101 47 [(0, .ref c), (1, .int (nI b)), (2, .int (nI 0))] [] h (evGM m c 9 (setB u (allT (u 1) lag b 0))) := by
    rw [← setB_id u]
    generalize (u 0 8, u 0 9, u 0 10) = t
    simp only [x101_0, x101_1, x101_2, x101_5, x101_6, x101_7, x101_10, x101_11, x101_13, x101_16, x101_17, x101_18, x101_21, x101_23, x101_24, x101_25, x101_26, x101_27, x101_28, x101_29, x101_32, x101_34, x101_35, x101_36, x101_37, x101_38, x101_39, x101_40, x101_41, x101_42, x101_45, x101_46, evI_i, evJl_i, evJf_i, evJd_i, evA_r, evA_n, evA_q, evLk_c, evS1_d, evS2_d, evFl_n, evFl_c, evGl_n, evGl_c, evIn_n, evIn_c, evCat_i, evCat_l, evCat_f, evCat_d, evCat_r, evCat_z, evCat_q, evBd_some, evTl_s, evTl_n, va_rf_s, va_rf_n, and_true, true_and, and_false, false_and, if_true, if_false, not_true_eq_false, not_false_eq_true, reduceCtorEq, ↓reduceIte, Nat.reduceAdd, Nat.reduceEqDiff, Nat.reduceLT, Nat.reduceLeDiff, Nat.reduceSub, Nat.zero_ne_one, Nat.one_ne_zero, w0, w1, w2, w3, w4, w5, w6, w7, w8, w9, w10, w11, w12, w13, w14, w15, w16, w17, w18, w19, w20, w21, w22, w23, w24, evGM_get, evGM_set, evGM_get0, evGM_set0, setB_s8, setB_s9, setB_s10, setB_1, i1, i2, i3, i4, i5, i6, i7, i8, c_hears hu, Option.toList, List.nil_append, setB_2]
    rfl
  have key : ∀ (k : Nat), k < n → ∀ e : evL, (e = [] ∨ e = [(3, .int (nI 6))]) → ∀ t : evT, ∃ e' : evL, (e' = [] ∨ e' = [(3, .int (nI 6))]) ∧ evX 101 47 ([(0, .ref c), (1, .int (nI b)), (2, .int (nI k))] ++ e) [] h (evGM m c 9 (setB u t)) = evX 101 47 ([(0, .ref c), (1, .int (nI b)), (2, .int (nI (k + 1)))] ++ e') [] h (evGM m c 9 (setB u (oneT (u 1) k lag b t))) := by
    intro k hk e he t
    have e0 : ¬ nI n ≤ nI k := nlt hk (by omega)
    have hs : nI k + 1 = nI (k + 1) := (nI_succ k).symm
    have j1 : (126 : Int32) + 2 * nI k = nI (126 + 2 * k) := ix 126 k
    have j2 : nI (126 + 2 * k) + 1 = nI (126 + 2 * k + 1) := (nI_succ _).symm
    have j3 : ¬ nI (126 + 2 * k) < 0 := nI_pos (by omega)
    have j4 : ¬ nI (126 + 2 * k + 1) < 0 := nI_pos (by omega)
    have j5 : (nI (126 + 2 * k)).toNatClampNeg = 126 + 2 * k := nI_cl _ (by omega)
    have j6 : (nI (126 + 2 * k + 1)).toNatClampNeg = 126 + 2 * k + 1 := nI_cl _ (by omega)
    have j7 : 126 + 2 * k < 328 := by omega
    have j8 : 126 + 2 * k + 1 < 328 := by omega
    have j9 : nI lag + 1 = nI (lag + 1) := (nI_succ _).symm
    have hk6 : k < 6 := by omega
    by_cases hkb : k = b
    · refine ⟨e, he, ?_⟩
      unfold oneT
      rw [if_pos hkb]
      subst hkb
      conv => lhs; rw [x101_47]
      rcases he with rfl | rfl
      · simp only [x101_48, x101_49, x101_52, x101_53, x101_54, x101_57, x101_58, x101_59, x101_141, x101_144, evI_i, evJl_i, evJf_i, evJd_i, evA_r, evA_n, evA_q, evLk_c, evS1_d, evS2_d, evFl_n, evFl_c, evGl_n, evGl_c, evIn_n, evIn_c, evCat_i, evCat_l, evCat_f, evCat_d, evCat_r, evCat_z, evCat_q, evBd_some, evTl_s, evTl_n, va_rf_s, va_rf_n, and_true, true_and, and_false, false_and, if_true, if_false, not_true_eq_false, not_false_eq_true, reduceCtorEq, ↓reduceIte, Nat.reduceAdd, Nat.reduceEqDiff, Nat.reduceLT, Nat.reduceLeDiff, Nat.reduceSub, Nat.zero_ne_one, Nat.one_ne_zero, w0, w1, w2, w3, w4, w5, w6, w7, w8, w9, w10, w11, w12, w13, w14, w15, w16, w17, w18, w19, w20, w21, w22, w23, w24, evGM_get, evGM_set, evGM_get0, evGM_set0, setB_1, lt5, lc5, h5, e0, hs, List.cons_append, List.nil_append, List.append_nil]
      · simp only [x101_48, x101_49, x101_52, x101_53, x101_54, x101_57, x101_58, x101_59, x101_141, x101_144, evI_i, evJl_i, evJf_i, evJd_i, evA_r, evA_n, evA_q, evLk_c, evS1_d, evS2_d, evFl_n, evFl_c, evGl_n, evGl_c, evIn_n, evIn_c, evCat_i, evCat_l, evCat_f, evCat_d, evCat_r, evCat_z, evCat_q, evBd_some, evTl_s, evTl_n, va_rf_s, va_rf_n, and_true, true_and, and_false, false_and, if_true, if_false, not_true_eq_false, not_false_eq_true, reduceCtorEq, ↓reduceIte, Nat.reduceAdd, Nat.reduceEqDiff, Nat.reduceLT, Nat.reduceLeDiff, Nat.reduceSub, Nat.zero_ne_one, Nat.one_ne_zero, w0, w1, w2, w3, w4, w5, w6, w7, w8, w9, w10, w11, w12, w13, w14, w15, w16, w17, w18, w19, w20, w21, w22, w23, w24, evGM_get, evGM_set, evGM_get0, evGM_set0, setB_1, lt5, lc5, h5, e0, hs, List.cons_append, List.nil_append, List.append_nil]
    · refine ⟨[(3, .int (nI 6))], Or.inr rfl, ?_⟩
      have hne : ¬ nI k = nI b := fun q => hkb (by
        have := congrArg Int32.toNatClampNeg q
        rwa [nI_cl k (by omega), nI_cl b (by omega)] at this)
      unfold oneT
      rw [if_neg hkb]
      conv => lhs; rw [x101_47]
      rcases he with rfl | rfl
      · simp only [x101_48, x101_49, x101_52, x101_53, x101_54, x101_57, x101_58, x101_59, x101_62, x101_63, x101_64, x101_67, x101_69, x101_70, x101_71, x101_72, x101_73, x101_74, x101_75, x101_78, x101_80, x101_81, x101_82, x101_83, x101_84, x101_85, x101_86, x101_87, x101_88, x101_91, x101_92, x101_95, x101_96, x101_97, x101_98, x101_99, x101_141, x101_144, evI_i, evJl_i, evJf_i, evJd_i, evA_r, evA_n, evA_q, evLk_c, evS1_d, evS2_d, evFl_n, evFl_c, evGl_n, evGl_c, evIn_n, evIn_c, evCat_i, evCat_l, evCat_f, evCat_d, evCat_r, evCat_z, evCat_q, evBd_some, evTl_s, evTl_n, va_rf_s, va_rf_n, and_true, true_and, and_false, false_and, if_true, if_false, not_true_eq_false, not_false_eq_true, reduceCtorEq, ↓reduceIte, Nat.reduceAdd, Nat.reduceEqDiff, Nat.reduceLT, Nat.reduceLeDiff, Nat.reduceSub, Nat.zero_ne_one, Nat.one_ne_zero, w0, w1, w2, w3, w4, w5, w6, w7, w8, w9, w10, w11, w12, w13, w14, w15, w16, w17, w18, w19, w20, w21, w22, w23, w24, evGM_get, evGM_set, evGM_get0, evGM_set0, setB_1, lt5, lc5, lt0, lc0, h5, h0, hne, e0, hs, j1, j2, j3, j4, j5, j6, j7, j8, j9, c_hears hu, c_ages hu hk6 hl, Option.toList, List.cons_append, List.nil_append, List.append_nil]
      · simp only [x101_48, x101_49, x101_52, x101_53, x101_54, x101_57, x101_58, x101_59, x101_62, x101_63, x101_64, x101_67, x101_69, x101_70, x101_71, x101_72, x101_73, x101_74, x101_75, x101_78, x101_80, x101_81, x101_82, x101_83, x101_84, x101_85, x101_86, x101_87, x101_88, x101_91, x101_92, x101_95, x101_96, x101_97, x101_98, x101_99, x101_141, x101_144, evI_i, evJl_i, evJf_i, evJd_i, evA_r, evA_n, evA_q, evLk_c, evS1_d, evS2_d, evFl_n, evFl_c, evGl_n, evGl_c, evIn_n, evIn_c, evCat_i, evCat_l, evCat_f, evCat_d, evCat_r, evCat_z, evCat_q, evBd_some, evTl_s, evTl_n, va_rf_s, va_rf_n, and_true, true_and, and_false, false_and, if_true, if_false, not_true_eq_false, not_false_eq_true, reduceCtorEq, ↓reduceIte, Nat.reduceAdd, Nat.reduceEqDiff, Nat.reduceLT, Nat.reduceLeDiff, Nat.reduceSub, Nat.zero_ne_one, Nat.one_ne_zero, w0, w1, w2, w3, w4, w5, w6, w7, w8, w9, w10, w11, w12, w13, w14, w15, w16, w17, w18, w19, w20, w21, w22, w23, w24, evGM_get, evGM_set, evGM_get0, evGM_set0, setB_1, lt5, lc5, lt0, lc0, h5, h0, hne, e0, hs, j1, j2, j3, j4, j5, j6, j7, j8, j9, c_hears hu, c_ages hu hk6 hl, Option.toList, List.cons_append, List.nil_append, List.append_nil]
  have P : ∀ k, k ≤ n → ∃ e : evL, (e = [] ∨ e = [(3, .int (nI 6))]) ∧ evX 101 0 [(0, .ref c), (1, .int (nI b))] [] h (evGM m c 9 u) = evX 101 47 ([(0, .ref c), (1, .int (nI b)), (2, .int (nI k))] ++ e) [] h (evGM m c 9 (setB u (allT (u 1) lag b k))) := by
    intro k
    induction k with
    | zero => intro _; exact ⟨[], Or.inl rfl, st⟩
    | succ k ih =>
      intro hk
      obtain ⟨e, he, e1⟩ := ih (by omega)
      obtain ⟨e', he', e2⟩ := key k (by omega) e he (allT (u 1) lag b k)
      exact ⟨e', he', e1.trans e2⟩
  obtain ⟨e, he, e1⟩ := P n (Nat.le_refl n)
  have hge : nI n ≤ nI n := Int32.le_refl _
  rw [e1]
  rcases he with rfl | rfl
  · simp only [x101_47, x101_48, x101_49, x101_52, x101_53, x101_54, x101_147, evI_i, evJl_i, evJf_i, evJd_i, evA_r, evA_n, evA_q, evLk_c, evS1_d, evS2_d, evFl_n, evFl_c, evGl_n, evGl_c, evIn_n, evIn_c, evCat_i, evCat_l, evCat_f, evCat_d, evCat_r, evCat_z, evCat_q, evBd_some, evTl_s, evTl_n, va_rf_s, va_rf_n, and_true, true_and, and_false, false_and, if_true, if_false, not_true_eq_false, not_false_eq_true, reduceCtorEq, ↓reduceIte, Nat.reduceAdd, Nat.reduceEqDiff, Nat.reduceLT, Nat.reduceLeDiff, Nat.reduceSub, Nat.zero_ne_one, Nat.one_ne_zero, w0, w1, w2, w3, w4, w5, w6, w7, w8, w9, w10, w11, w12, w13, w14, w15, w16, w17, w18, w19, w20, w21, w22, w23, w24, evGM_get, evGM_set, evGM_get0, evGM_set0, setB_1, lt5, lc5, h5, hge, List.cons_append, List.nil_append, List.append_nil]
  · simp only [x101_47, x101_48, x101_49, x101_52, x101_53, x101_54, x101_147, evI_i, evJl_i, evJf_i, evJd_i, evA_r, evA_n, evA_q, evLk_c, evS1_d, evS2_d, evFl_n, evFl_c, evGl_n, evGl_c, evIn_n, evIn_c, evCat_i, evCat_l, evCat_f, evCat_d, evCat_r, evCat_z, evCat_q, evBd_some, evTl_s, evTl_n, va_rf_s, va_rf_n, and_true, true_and, and_false, false_and, if_true, if_false, not_true_eq_false, not_false_eq_true, reduceCtorEq, ↓reduceIte, Nat.reduceAdd, Nat.reduceEqDiff, Nat.reduceLT, Nat.reduceLeDiff, Nat.reduceSub, Nat.zero_ne_one, Nat.one_ne_zero, w0, w1, w2, w3, w4, w5, w6, w7, w8, w9, w10, w11, w12, w13, w14, w15, w16, w17, w18, w19, w20, w21, w22, w23, w24, evGM_get, evGM_set, evGM_get0, evGM_set0, setB_1, lt5, lc5, h5, hge, List.cons_append, List.nil_append, List.append_nil]
theorem c_limitOf (hu : mOK h c) {l b : Nat} (hb : b < 6) (hl : l < 8) (h7 : u 1 7 = nI l) : evX 102 0 [(0, .ref c), (1, .int (nI b))] [] h (evGM m c 9 u) = some (some (.int (limT (u 1) l b)), h, evGM m c 9 u) := by
  obtain ⟨w0, w1, w2, w3, w4, w5, w6, w7, w8, w9, w10, w11, w12, w13, w14, w15, w16, w17, w18, w19, w20, w21, w22, w23, w24⟩ := id hu
  have b0 : ¬ nI b < 0 := nI_pos (by omega)
  have b1 : (nI b).toNatClampNeg = b := nI_cl b (by omega)
  have l0 : ¬ nI l < 0 := nI_pos (by omega)
  have l1 : (nI l).toNatClampNeg = l := nI_cl l (by omega)
  unfold limT
  by_cases hc : u 1 (58 + 7 * l + 0) * u 1 (10 + 8 * b + 1) / 100 < u 1 (10 + 8 * b + 0)
  · have hc' : ¬ u 1 (10 + 8 * b + 0) ≤ u 1 (58 + 7 * l + 0) * u 1 (10 + 8 * b + 1) / 100 := fun q => i32_ff q hc
    simp only [x102_0, x102_1, x102_2, x102_5, x102_7, x102_8, x102_9, x102_12, x102_13, x102_14, x102_15, x102_18, x102_19, x102_21, x102_22, x102_23, x102_24, x102_25, x102_26, x102_27, x102_30, x102_33, x102_34, x102_37, x102_38, x102_39, x102_40, x102_43, evI_i, evJl_i, evJf_i, evJd_i, evA_r, evA_n, evA_q, evLk_c, evS1_d, evS2_d, evFl_n, evFl_c, evGl_n, evGl_c, evIn_n, evIn_c, evCat_i, evCat_l, evCat_f, evCat_d, evCat_r, evCat_z, evCat_q, evBd_some, evTl_s, evTl_n, va_rf_s, va_rf_n, and_true, true_and, and_false, false_and, if_true, if_false, not_true_eq_false, not_false_eq_true, reduceCtorEq, ↓reduceIte, Nat.reduceAdd, Nat.reduceEqDiff, Nat.reduceLT, Nat.reduceLeDiff, Nat.reduceSub, Nat.zero_ne_one, Nat.one_ne_zero, w0, w1, w2, w3, w4, w5, w6, w7, w8, w9, w10, w11, w12, w13, w14, w15, w16, w17, w18, w19, w20, w21, w22, w23, w24, evGM_get, evGM_set, evGM_get0, evGM_set0, n100, lt7, lc7, lt0, lc0, lt1, lc1, h7, b0, b1, l0, l1, hb, hl, c_lotPart hu, c_bidderPart hu, hc, hc', Option.toList, List.cons_append, List.nil_append]
  · have hc' : u 1 (10 + 8 * b + 0) ≤ u 1 (58 + 7 * l + 0) * u 1 (10 + 8 * b + 1) / 100 := Int32.not_lt.mp hc
    simp only [x102_0, x102_1, x102_2, x102_5, x102_7, x102_8, x102_9, x102_12, x102_13, x102_14, x102_15, x102_18, x102_19, x102_21, x102_22, x102_23, x102_24, x102_25, x102_26, x102_27, x102_30, x102_33, x102_34, x102_37, x102_38, x102_39, x102_40, x102_43, evI_i, evJl_i, evJf_i, evJd_i, evA_r, evA_n, evA_q, evLk_c, evS1_d, evS2_d, evFl_n, evFl_c, evGl_n, evGl_c, evIn_n, evIn_c, evCat_i, evCat_l, evCat_f, evCat_d, evCat_r, evCat_z, evCat_q, evBd_some, evTl_s, evTl_n, va_rf_s, va_rf_n, and_true, true_and, and_false, false_and, if_true, if_false, not_true_eq_false, not_false_eq_true, reduceCtorEq, ↓reduceIte, Nat.reduceAdd, Nat.reduceEqDiff, Nat.reduceLT, Nat.reduceLeDiff, Nat.reduceSub, Nat.zero_ne_one, Nat.one_ne_zero, w0, w1, w2, w3, w4, w5, w6, w7, w8, w9, w10, w11, w12, w13, w14, w15, w16, w17, w18, w19, w20, w21, w22, w23, w24, evGM_get, evGM_set, evGM_get0, evGM_set0, n100, lt7, lc7, lt0, lc0, lt1, lc1, h7, b0, b1, l0, l1, hb, hl, c_lotPart hu, c_bidderPart hu, hc, hc', Option.toList, List.cons_append, List.nil_append]
end MO
