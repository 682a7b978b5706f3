/-! the ten rows by their cells; copying -/
section RW
variable {h : evH} {u p a b : Nat → Nat → Int32} {V : Nat → evVt} {j : Nat} {x : Int32}
theorem mG0 : memW u p V 0 375 j = u 0 j := memW_row (o := 0) (by omega)
theorem mS0 : evSetM (memW u p V 0) 375 j x = memW (ms u 0 j x) p V 0 := memW_rowS (o := 0) (by omega)
theorem mG1 : memW u p V 0 376 j = u 1 j := memW_row (o := 1) (by omega)
theorem mS1 : evSetM (memW u p V 0) 376 j x = memW (ms u 1 j x) p V 0 := memW_rowS (o := 1) (by omega)
theorem mG2 : memW u p V 0 377 j = u 2 j := memW_row (o := 2) (by omega)
theorem mS2 : evSetM (memW u p V 0) 377 j x = memW (ms u 2 j x) p V 0 := memW_rowS (o := 2) (by omega)
theorem mG3 : memW u p V 0 378 j = u 3 j := memW_row (o := 3) (by omega)
theorem mS3 : evSetM (memW u p V 0) 378 j x = memW (ms u 3 j x) p V 0 := memW_rowS (o := 3) (by omega)
theorem mG4 : memW u p V 0 379 j = u 4 j := memW_row (o := 4) (by omega)
theorem mS4 : evSetM (memW u p V 0) 379 j x = memW (ms u 4 j x) p V 0 := memW_rowS (o := 4) (by omega)
theorem mG5 : memW u p V 0 380 j = u 5 j := memW_row (o := 5) (by omega)
theorem mS5 : evSetM (memW u p V 0) 380 j x = memW (ms u 5 j x) p V 0 := memW_rowS (o := 5) (by omega)
theorem mG6 : memW u p V 0 381 j = u 6 j := memW_row (o := 6) (by omega)
theorem mS6 : evSetM (memW u p V 0) 381 j x = memW (ms u 6 j x) p V 0 := memW_rowS (o := 6) (by omega)
theorem mG7 : memW u p V 0 382 j = u 7 j := memW_row (o := 7) (by omega)
theorem mS7 : evSetM (memW u p V 0) 382 j x = memW (ms u 7 j x) p V 0 := memW_rowS (o := 7) (by omega)
theorem mG8 : memW u p V 0 383 j = u 8 j := memW_row (o := 8) (by omega)
theorem mS8 : evSetM (memW u p V 0) 383 j x = memW (ms u 8 j x) p V 0 := memW_rowS (o := 8) (by omega)
theorem mG9 : memW u p V 0 384 j = u 9 j := memW_row (o := 9) (by omega)
theorem mS9 : evSetM (memW u p V 0) 384 j x = memW (ms u 9 j x) p V 0 := memW_rowS (o := 9) (by omega)
theorem xP_a (hx : xP h) : evAt h 375 9 ∧ evLen h 375 = 11 ∧ evAt h 376 9 ∧ evLen h 376 = 24 ∧ evAt h 377 9 ∧ evLen h 377 = 56 ∧ evAt h 378 9 ∧ evLen h 378 = 64 ∧ evAt h 379 9 ∧ evLen h 379 = 64 ∧ evAt h 380 9 ∧ evLen h 380 = 11 ∧ evAt h 381 9 ∧ evLen h 381 = 24 ∧ evAt h 382 9 ∧ evLen h 382 = 56 ∧ evAt h 383 9 ∧ evLen h 383 = 64 ∧ evAt h 384 9 ∧ evLen h 384 = 64 := by
  obtain ⟨-, h1, h2⟩ := hx
  obtain ⟨a0, a1, a2, a3, a4, n0, n1, n2, n3, n4⟩ := h1
  obtain ⟨b0, b1, b2, b3, b4, m0, m1, m2, m3, m4⟩ := h2
  exact ⟨a0, n0, a1, n1, a2, n2, a3, n3, a4, n4, b0, m0, b1, m1, b2, m2, b3, m3, b4, m4⟩
def cpU (u : Nat → Nat → Int32) : Nat → Nat → Int32 := cpV (cpV (cpV (cpV (cpV u 5 11) 6 24) 7 56) 8 64) 9 64
set_option maxHeartbeats 1000000 in
theorem c_copy (hx : xP h) : evX 73 0 [(0, .ref 375), (1, .ref 376), (2, .ref 377), (3, .ref 378), (4, .ref 379), (5, .ref 380), (6, .ref 381), (7, .ref 382), (8, .ref 383), (9, .ref 384)] [] h (memW u p V 0) = some (none, h, memW (cpU u) p V 0) := by
  obtain ⟨sa0, sn0, sa1, sn1, sa2, sn2, sa3, sn3, sa4, sn4, sa5, sn5, sa6, sn6, sa7, sn7, sa8, sn8, sa9, sn9⟩ := xP_a hx
  have st : evX 73 0 [(0, .ref 375), (1, .ref 376), (2, .ref 377), (3, .ref 378), (4, .ref 379), (5, .ref 380), (6, .ref 381), (7, .ref 382), (8, .ref 383), (9, .ref 384)] [] h (memW u p V 0) = evX 73 3 [(0, .ref 375), (1, .ref 376), (2, .ref 377), (3, .ref 378), (4, .ref 379), (5, .ref 380), (6, .ref 381), (7, .ref 382), (8, .ref 383), (9, .ref 384), (10, .int (nI 0))] [] h (memW (cpV u 5 0) p V 0) := by
    rw [cpV_0]
    simp only [x73_0, x73_1, evI_i, evJl_i, evJf_i, evJd_i, evA_r, evA_n, evA_q, evLk_c, evS1_d, evS2_d, evFl_n, evFl_c, evGl_n, evGl_c, evIn_n, evIn_c, evCat_i, evCat_l, evCat_f, evCat_d, evCat_r, evCat_z, evCat_q, evBd_some, evTl_s, evTl_n, va_rf_s, va_rf_n, and_true, true_and, and_false, false_and, if_true, if_false, not_true_eq_false, not_false_eq_true, reduceCtorEq, ↓reduceIte, Nat.reduceAdd, Nat.reduceEqDiff, Nat.reduceLT, Nat.reduceLeDiff, Nat.reduceSub, Nat.zero_ne_one, Nat.one_ne_zero]
    rfl
  have l5 := loop_up (G := fun k => evX 73 3 [(0, .ref 375), (1, .ref 376), (2, .ref 377), (3, .ref 378), (4, .ref 379), (5, .ref 380), (6, .ref 381), (7, .ref 382), (8, .ref 383), (9, .ref 384), (10, .int (nI k))] [] h (memW (cpV (u) 5 k) p V 0)) (n := 11) (fun k hk => by
    have hlt : ¬ (11 : Int32) ≤ nI k := nI_ge (b := 11) hk (by omega)
    obtain ⟨ik_p, ik_c, ik_l⟩ := rdx (k := k) (n := 11) (by omega) (by decide)
    have e : cpV (u) 5 k 0 k = (u) 0 k := cpV_o _ _ _ (by omega)
    show _ = evX 73 3 [(0, .ref 375), (1, .ref 376), (2, .ref 377), (3, .ref 378), (4, .ref 379), (5, .ref 380), (6, .ref 381), (7, .ref 382), (8, .ref 383), (9, .ref 384), (10, .int (nI (k + 1)))] [] h (memW (cpV (u) 5 (k + 1)) p V 0)
    rw [← cpV_s (u) 5 k]
    conv => lhs; rw [x73_3]
    simp only [x73_5, x73_7, x73_10, x73_12, x73_14, x73_15, x73_17, x73_17s, x73_18, x73_19, x73_22, evI_i, evJl_i, evJf_i, evJd_i, evA_r, evA_n, evA_q, evLk_c, evS1_d, evS2_d, evFl_n, evFl_c, evGl_n, evGl_c, evIn_n, evIn_c, evCat_i, evCat_l, evCat_f, evCat_d, evCat_r, evCat_z, evCat_q, evBd_some, evTl_s, evTl_n, va_rf_s, va_rf_n, and_true, true_and, and_false, false_and, if_true, if_false, not_true_eq_false, not_false_eq_true, reduceCtorEq, ↓reduceIte, Nat.reduceAdd, Nat.reduceEqDiff, Nat.reduceLT, Nat.reduceLeDiff, Nat.reduceSub, Nat.zero_ne_one, Nat.one_ne_zero, sa0, sn0, sa1, sn1, sa2, sn2, sa3, sn3, sa4, sn4, sa5, sn5, sa6, sn6, sa7, sn7, sa8, sn8, sa9, sn9, mG0, mS0, mG1, mS1, mG2, mS2, mG3, mS3, mG4, mS4, mG5, mS5, mG6, mS6, mG7, mS7, mG8, mS8, mG9, mS9, lt0, lt1, lt2, lt3, lt4, lt5, lt6, lt7, lt8, lt9, lt10, lc0, lc1, lc2, lc3, lc4, lc5, lc6, lc7, lc8, lc9, lc10, hlt, e, nA1, ik_p, ik_c, ik_l])
  have m5 : evX 73 3 [(0, .ref 375), (1, .ref 376), (2, .ref 377), (3, .ref 378), (4, .ref 379), (5, .ref 380), (6, .ref 381), (7, .ref 382), (8, .ref 383), (9, .ref 384), (10, .int (nI 11))] [] h (memW (cpV (u) 5 11) p V 0) = evX 73 28 [(0, .ref 375), (1, .ref 376), (2, .ref 377), (3, .ref 378), (4, .ref 379), (5, .ref 380), (6, .ref 381), (7, .ref 382), (8, .ref 383), (9, .ref 384), (10, .int (nI 0))] [] h (memW (cpV (cpV (u) 5 11) 6 0) p V 0) := by
    have hge : (11 : Int32) ≤ nI 11 := Int32.le_refl _
    rw [cpV_0]
    conv => lhs; rw [x73_3]
    simp only [x73_5, x73_7, x73_25, x73_26, evI_i, evJl_i, evJf_i, evJd_i, evA_r, evA_n, evA_q, evLk_c, evS1_d, evS2_d, evFl_n, evFl_c, evGl_n, evGl_c, evIn_n, evIn_c, evCat_i, evCat_l, evCat_f, evCat_d, evCat_r, evCat_z, evCat_q, evBd_some, evTl_s, evTl_n, va_rf_s, va_rf_n, and_true, true_and, and_false, false_and, if_true, if_false, not_true_eq_false, not_false_eq_true, reduceCtorEq, ↓reduceIte, Nat.reduceAdd, Nat.reduceEqDiff, Nat.reduceLT, Nat.reduceLeDiff, Nat.reduceSub, Nat.zero_ne_one, Nat.one_ne_zero, hge]
    rfl
  have l6 := loop_up (G := fun k => evX 73 28 [(0, .ref 375), (1, .ref 376), (2, .ref 377), (3, .ref 378), (4, .ref 379), (5, .ref 380), (6, .ref 381), (7, .ref 382), (8, .ref 383), (9, .ref 384), (10, .int (nI k))] [] h (memW (cpV (cpV (u) 5 11) 6 k) p V 0)) (n := 24) (fun k hk => by
    have hlt : ¬ (24 : Int32) ≤ nI k := nI_ge (b := 24) hk (by omega)
    obtain ⟨ik_p, ik_c, ik_l⟩ := rdx (k := k) (n := 24) (by omega) (by decide)
    have e : cpV (cpV (u) 5 11) 6 k 1 k = (cpV (u) 5 11) 1 k := cpV_o _ _ _ (by omega)
    show _ = evX 73 28 [(0, .ref 375), (1, .ref 376), (2, .ref 377), (3, .ref 378), (4, .ref 379), (5, .ref 380), (6, .ref 381), (7, .ref 382), (8, .ref 383), (9, .ref 384), (10, .int (nI (k + 1)))] [] h (memW (cpV (cpV (u) 5 11) 6 (k + 1)) p V 0)
    rw [← cpV_s (cpV (u) 5 11) 6 k]
    conv => lhs; rw [x73_28]
    simp only [x73_30, x73_32, x73_35, x73_37, x73_39, x73_40, x73_42, x73_42s, x73_43, x73_44, x73_47, evI_i, evJl_i, evJf_i, evJd_i, evA_r, evA_n, evA_q, evLk_c, evS1_d, evS2_d, evFl_n, evFl_c, evGl_n, evGl_c, evIn_n, evIn_c, evCat_i, evCat_l, evCat_f, evCat_d, evCat_r, evCat_z, evCat_q, evBd_some, evTl_s, evTl_n, va_rf_s, va_rf_n, and_true, true_and, and_false, false_and, if_true, if_false, not_true_eq_false, not_false_eq_true, reduceCtorEq, ↓reduceIte, Nat.reduceAdd, Nat.reduceEqDiff, Nat.reduceLT, Nat.reduceLeDiff, Nat.reduceSub, Nat.zero_ne_one, Nat.one_ne_zero, sa0, sn0, sa1, sn1, sa2, sn2, sa3, sn3, sa4, sn4, sa5, sn5, sa6, sn6, sa7, sn7, sa8, sn8, sa9, sn9, mG0, mS0, mG1, mS1, mG2, mS2, mG3, mS3, mG4, mS4, mG5, mS5, mG6, mS6, mG7, mS7, mG8, mS8, mG9, mS9, lt0, lt1, lt2, lt3, lt4, lt5, lt6, lt7, lt8, lt9, lt10, lc0, lc1, lc2, lc3, lc4, lc5, lc6, lc7, lc8, lc9, lc10, hlt, e, nA1, ik_p, ik_c, ik_l])
  have m6 : evX 73 28 [(0, .ref 375), (1, .ref 376), (2, .ref 377), (3, .ref 378), (4, .ref 379), (5, .ref 380), (6, .ref 381), (7, .ref 382), (8, .ref 383), (9, .ref 384), (10, .int (nI 24))] [] h (memW (cpV (cpV (u) 5 11) 6 24) p V 0) = evX 73 53 [(0, .ref 375), (1, .ref 376), (2, .ref 377), (3, .ref 378), (4, .ref 379), (5, .ref 380), (6, .ref 381), (7, .ref 382), (8, .ref 383), (9, .ref 384), (10, .int (nI 0))] [] h (memW (cpV (cpV (cpV (u) 5 11) 6 24) 7 0) p V 0) := by
    have hge : (24 : Int32) ≤ nI 24 := Int32.le_refl _
    rw [cpV_0]
    conv => lhs; rw [x73_28]
    simp only [x73_30, x73_32, x73_50, x73_51, evI_i, evJl_i, evJf_i, evJd_i, evA_r, evA_n, evA_q, evLk_c, evS1_d, evS2_d, evFl_n, evFl_c, evGl_n, evGl_c, evIn_n, evIn_c, evCat_i, evCat_l, evCat_f, evCat_d, evCat_r, evCat_z, evCat_q, evBd_some, evTl_s, evTl_n, va_rf_s, va_rf_n, and_true, true_and, and_false, false_and, if_true, if_false, not_true_eq_false, not_false_eq_true, reduceCtorEq, ↓reduceIte, Nat.reduceAdd, Nat.reduceEqDiff, Nat.reduceLT, Nat.reduceLeDiff, Nat.reduceSub, Nat.zero_ne_one, Nat.one_ne_zero, hge]
    rfl
  have l7 := loop_up (G := fun k => evX 73 53 [(0, .ref 375), (1, .ref 376), (2, .ref 377), (3, .ref 378), (4, .ref 379), (5, .ref 380), (6, .ref 381), (7, .ref 382), (8, .ref 383), (9, .ref 384), (10, .int (nI k))] [] h (memW (cpV (cpV (cpV (u) 5 11) 6 24) 7 k) p V 0)) (n := 56) (fun k hk => by
    have hlt : ¬ (56 : Int32) ≤ nI k := nI_ge (b := 56) hk (by omega)
    obtain ⟨ik_p, ik_c, ik_l⟩ := rdx (k := k) (n := 56) (by omega) (by decide)
    have e : cpV (cpV (cpV (u) 5 11) 6 24) 7 k 2 k = (cpV (cpV (u) 5 11) 6 24) 2 k := cpV_o _ _ _ (by omega)
    show _ = evX 73 53 [(0, .ref 375), (1, .ref 376), (2, .ref 377), (3, .ref 378), (4, .ref 379), (5, .ref 380), (6, .ref 381), (7, .ref 382), (8, .ref 383), (9, .ref 384), (10, .int (nI (k + 1)))] [] h (memW (cpV (cpV (cpV (u) 5 11) 6 24) 7 (k + 1)) p V 0)
    rw [← cpV_s (cpV (cpV (u) 5 11) 6 24) 7 k]
    conv => lhs; rw [x73_53]
    simp only [x73_55, x73_57, x73_60, x73_62, x73_64, x73_65, x73_67, x73_67s, x73_68, x73_69, x73_72, evI_i, evJl_i, evJf_i, evJd_i, evA_r, evA_n, evA_q, evLk_c, evS1_d, evS2_d, evFl_n, evFl_c, evGl_n, evGl_c, evIn_n, evIn_c, evCat_i, evCat_l, evCat_f, evCat_d, evCat_r, evCat_z, evCat_q, evBd_some, evTl_s, evTl_n, va_rf_s, va_rf_n, and_true, true_and, and_false, false_and, if_true, if_false, not_true_eq_false, not_false_eq_true, reduceCtorEq, ↓reduceIte, Nat.reduceAdd, Nat.reduceEqDiff, Nat.reduceLT, Nat.reduceLeDiff, Nat.reduceSub, Nat.zero_ne_one, Nat.one_ne_zero, sa0, sn0, sa1, sn1, sa2, sn2, sa3, sn3, sa4, sn4, sa5, sn5, sa6, sn6, sa7, sn7, sa8, sn8, sa9, sn9, mG0, mS0, mG1, mS1, mG2, mS2, mG3, mS3, mG4, mS4, mG5, mS5, mG6, mS6, mG7, mS7, mG8, mS8, mG9, mS9, lt0, lt1, lt2, lt3, lt4, lt5, lt6, lt7, lt8, lt9, lt10, lc0, lc1, lc2, lc3, lc4, lc5, lc6, lc7, lc8, lc9, lc10, hlt, e, nA1, ik_p, ik_c, ik_l])
  have m7 : evX 73 53 [(0, .ref 375), (1, .ref 376), (2, .ref 377), (3, .ref 378), (4, .ref 379), (5, .ref 380), (6, .ref 381), (7, .ref 382), (8, .ref 383), (9, .ref 384), (10, .int (nI 56))] [] h (memW (cpV (cpV (cpV (u) 5 11) 6 24) 7 56) p V 0) = evX 73 78 [(0, .ref 375), (1, .ref 376), (2, .ref 377), (3, .ref 378), (4, .ref 379), (5, .ref 380), (6, .ref 381), (7, .ref 382), (8, .ref 383), (9, .ref 384), (10, .int (nI 0))] [] h (memW (cpV (cpV (cpV (cpV (cpV (u) 5 11) 6 24) 7 56) 8 0) 9 0) p V 0) := by
    have hge : (56 : Int32) ≤ nI 56 := Int32.le_refl _
    rw [cpV_0, cpV_0]
    conv => lhs; rw [x73_53]
    simp only [x73_55, x73_57, x73_75, x73_76, evI_i, evJl_i, evJf_i, evJd_i, evA_r, evA_n, evA_q, evLk_c, evS1_d, evS2_d, evFl_n, evFl_c, evGl_n, evGl_c, evIn_n, evIn_c, evCat_i, evCat_l, evCat_f, evCat_d, evCat_r, evCat_z, evCat_q, evBd_some, evTl_s, evTl_n, va_rf_s, va_rf_n, and_true, true_and, and_false, false_and, if_true, if_false, not_true_eq_false, not_false_eq_true, reduceCtorEq, ↓reduceIte, Nat.reduceAdd, Nat.reduceEqDiff, Nat.reduceLT, Nat.reduceLeDiff, Nat.reduceSub, Nat.zero_ne_one, Nat.one_ne_zero, hge]
    rfl
  have l8 := loop_up (G := fun k => evX 73 78 [(0, .ref 375), (1, .ref 376), (2, .ref 377), (3, .ref 378), (4, .ref 379), (5, .ref 380), (6, .ref 381), (7, .ref 382), (8, .ref 383), (9, .ref 384), (10, .int (nI k))] [] h (memW (cpV (cpV (cpV (cpV (cpV (u) 5 11) 6 24) 7 56) 8 k) 9 k) p V 0)) (n := 64) (fun k hk => by
    have hlt : ¬ (64 : Int32) ≤ nI k := nI_ge (b := 64) hk (by omega)
    obtain ⟨ik_p, ik_c, ik_l⟩ := rdx (k := k) (n := 64) (by omega) (by decide)
    have e3 : cpV (cpV (cpV (cpV (cpV (u) 5 11) 6 24) 7 56) 8 k) 9 k 3 k = (cpV (cpV (cpV (u) 5 11) 6 24) 7 56) 3 k := by
      generalize cpV (cpV (cpV (u) 5 11) 6 24) 7 56 = z
      rw [cpV_o (cpV z 8 k) 9 k (by omega), cpV_o z 8 k (by omega)]
    have e4 : ms (cpV (cpV (cpV (cpV (cpV (u) 5 11) 6 24) 7 56) 8 k) 9 k) 8 k ((cpV (cpV (cpV (u) 5 11) 6 24) 7 56) 3 k) 4 k = cpV (cpV (cpV (cpV (u) 5 11) 6 24) 7 56) 8 (k + 1) 4 k := by
      generalize cpV (cpV (cpV (u) 5 11) 6 24) 7 56 = z
      rw [ms_at, if_neg (by omega), cpV_o (cpV z 8 k) 9 k (by omega), cpV_o z 8 k (by omega), cpV_o z 8 (k + 1) (by omega)]
    have e9 : ms (ms (cpV (cpV (cpV (cpV (cpV (u) 5 11) 6 24) 7 56) 8 k) 9 k) 8 k ((cpV (cpV (cpV (u) 5 11) 6 24) 7 56) 3 k)) 9 k (cpV (cpV (cpV (cpV (u) 5 11) 6 24) 7 56) 8 (k + 1) 4 k) = cpV (cpV (cpV (cpV (cpV (u) 5 11) 6 24) 7 56) 8 (k + 1)) 9 (k + 1) := by
      generalize cpV (cpV (cpV (u) 5 11) 6 24) 7 56 = z
      rw [← cpV_s (cpV z 8 (k + 1)) 9 k]
      congr 1
      rw [← cpV_s z 8 k]
      funext o' j
      rw [ms_at]
      unfold cpV
      by_cases h1 : o' = 9 ∧ j < k
      · rw [if_pos h1, if_pos h1, if_neg (by omega), ms_at, if_neg (by omega), if_neg (by omega)]
      · rw [if_neg h1, if_neg h1, ms_at]
    show _ = evX 73 78 [(0, .ref 375), (1, .ref 376), (2, .ref 377), (3, .ref 378), (4, .ref 379), (5, .ref 380), (6, .ref 381), (7, .ref 382), (8, .ref 383), (9, .ref 384), (10, .int (nI (k + 1)))] [] h (memW (cpV (cpV (cpV (cpV (cpV (u) 5 11) 6 24) 7 56) 8 (k + 1)) 9 (k + 1)) p V 0)
    rw [← e9]
    conv => lhs; rw [x73_78]
    simp only [x73_80, x73_82, x73_85, x73_87, x73_89, x73_90, x73_92, x73_92s, x73_93, x73_94, x73_96, x73_98, x73_100, x73_102, x73_102s, x73_103, x73_104, x73_107, evI_i, evJl_i, evJf_i, evJd_i, evA_r, evA_n, evA_q, evLk_c, evS1_d, evS2_d, evFl_n, evFl_c, evGl_n, evGl_c, evIn_n, evIn_c, evCat_i, evCat_l, evCat_f, evCat_d, evCat_r, evCat_z, evCat_q, evBd_some, evTl_s, evTl_n, va_rf_s, va_rf_n, and_true, true_and, and_false, false_and, if_true, if_false, not_true_eq_false, not_false_eq_true, reduceCtorEq, ↓reduceIte, Nat.reduceAdd, Nat.reduceEqDiff, Nat.reduceLT, Nat.reduceLeDiff, Nat.reduceSub, Nat.zero_ne_one, Nat.one_ne_zero, sa0, sn0, sa1, sn1, sa2, sn2, sa3, sn3, sa4, sn4, sa5, sn5, sa6, sn6, sa7, sn7, sa8, sn8, sa9, sn9, mG0, mS0, mG1, mS1, mG2, mS2, mG3, mS3, mG4, mS4, mG5, mS5, mG6, mS6, mG7, mS7, mG8, mS8, mG9, mS9, lt0, lt1, lt2, lt3, lt4, lt5, lt6, lt7, lt8, lt9, lt10, lc0, lc1, lc2, lc3, lc4, lc5, lc6, lc7, lc8, lc9, lc10, hlt, e3, e4, nA1, ik_p, ik_c, ik_l])
  rw [st]
  refine (l5.trans m5).trans ((l6.trans m6).trans ((l7.trans m7).trans (l8.trans ?_)))
  have hge : (64 : Int32) ≤ nI 64 := Int32.le_refl _
  show evX 73 78 [(0, .ref 375), (1, .ref 376), (2, .ref 377), (3, .ref 378), (4, .ref 379), (5, .ref 380), (6, .ref 381), (7, .ref 382), (8, .ref 383), (9, .ref 384), (10, .int (nI 64))] [] h (memW (cpV (cpV (cpV (cpV (cpV (u) 5 11) 6 24) 7 56) 8 64) 9 64) p V 0) = _
  simp only [x73_78, x73_80, x73_82, x73_110, evI_i, evJl_i, evJf_i, evJd_i, evA_r, evA_n, evA_q, evLk_c, evS1_d, evS2_d, evFl_n, evFl_c, evGl_n, evGl_c, evIn_n, evIn_c, evCat_i, evCat_l, evCat_f, evCat_d, evCat_r, evCat_z, evCat_q, evBd_some, evTl_s, evTl_n, va_rf_s, va_rf_n, and_true, true_and, and_false, false_and, if_true, if_false, not_true_eq_false, not_false_eq_true, reduceCtorEq, ↓reduceIte, Nat.reduceAdd, Nat.reduceEqDiff, Nat.reduceLT, Nat.reduceLeDiff, Nat.reduceSub, Nat.zero_ne_one, Nat.one_ne_zero, hge]
  rfl
end RW
/-- how long the rows are -/
def lnO (o : Nat) : Nat := if o = 0 then 11 else if o = 1 then 24 else if o = 2 then 56 else 64
def cpB (a b : Nat → Nat → Int32) : Nat → Nat → Int32 := fun o j => if o < 5 ∧ j < lnO o then a o j else b o j
theorem cpU_two (a b : Nat → Nat → Int32) : cpU (two a b) = two a (cpB a b) := by
  funext o j
  unfold cpU cpV two cpB lnO
  rcases (show o < 5 ∨ o = 5 ∨ o = 6 ∨ o = 7 ∨ o = 8 ∨ o = 9 ∨ 10 ≤ o by omega) with h | rfl | rfl | rfl | rfl | rfl | h
  · simp [h, show ¬ o = 9 by omega, show ¬ o = 8 by omega, show ¬ o = 7 by omega, show ¬ o = 6 by omega, show ¬ o = 5 by omega]
  · simp
  · simp
  · simp
  · simp
  · simp
  · simp [show ¬ o < 5 by omega, show ¬ o = 9 by omega, show ¬ o = 8 by omega, show ¬ o = 7 by omega, show ¬ o = 6 by omega, show ¬ o = 5 by omega, show ¬ o - 5 < 5 by omega]
/-- rows that are alike where the rows reach -/
def lkW (a b : Nat → Nat → Int32) : Prop := ∀ o j, o < 5 → j < lnO o → b o j = a o j
theorem lk_cp (a b : Nat → Nat → Int32) : lkW a (cpB a b) := fun o j ho hj => if_pos ⟨ho, hj⟩
section LK
variable {v : evVt} {u a b : Nat → Nat → Int32} {n q T lag g tot : Nat}
theorem lk_bid (K : lkW a b) {k : Nat} (hk : k < 128) : bidE (b 3) (b 4) k = bidE (a 3) (a 4) k := by
  unfold bidE
  split
  · exact K 3 k (by omega) (by unfold lnO; simp; omega)
  · exact K 4 _ (by omega) (by unfold lnO; simp; omega)
theorem lk_0 (K : lkW a b) {j : Nat} (hj : j < 11) : b 0 j = a 0 j := K 0 j (by omega) hj
theorem lk_1 (K : lkW a b) {j : Nat} (hj : j < 24) : b 1 j = a 1 j := K 1 j (by omega) hj
theorem lk_2 (K : lkW a b) {j : Nat} (hj : j < 56) : b 2 j = a 2 j := K 2 j (by omega) hj
theorem lI_lk (K : lkW a b) (I : lI a n q) : lI b n q := by
  obtain ⟨i1, i2, i3, i4, i5, i6, i7, i8⟩ := I
  refine ⟨i1, i2, i3, by rw [lk_0 K (by omega)]; exact i4, by rw [lk_0 K (by omega)]; exact i5, by rw [lk_0 K (by omega)]; exact i6, by rw [lk_0 K (by omega)]; exact i7, fun l hl => ?_⟩
  rw [lk_2 K (by omega), lk_2 K (by omega)]
  exact i8 l hl
theorem pRel_lk (K : lkW a b) (P : pRel v u a n q T lag g tot) : pRel v u b n q T lag g tot := by
  obtain ⟨HF, ⟨hn3, hT⟩, HE, HZ, L, len, ⟨h9, hlen, w10⟩, hL, hO, hN, HR⟩ := P
  have hq8 := HF.1.1.1.2.1
  refine ⟨HF, ⟨hn3, hT⟩, ⟨fun j hj => ?_, fun i j hi hj => ?_, fun i j hi hj => ?_⟩, ⟨fun j h1 h2 => ?_, fun j h1 h2 => ?_⟩, L, len, ⟨?_, hlen, ?_⟩, fun i hi => ?_, hO, hN, ?_⟩
  · rw [lk_0 K (by omega)]; exact HE.1 j hj
  · rw [lk_1 K (by omega)]; exact HE.2.1 i j hi hj
  · rw [lk_2 K (by omega)]; exact HE.2.2 i j hi hj
  · rw [lk_1 K h2]; exact HZ.1 j h1 h2
  · rw [lk_2 K h2]; exact HZ.2 j h1 h2
  · rw [lk_0 K (by omega)]; exact h9
  · rw [lk_0 K (by omega)]; exact w10
  · rw [lk_bid K (by omega)]; exact hL i hi
  · rcases HR with h | ⟨l, G, a1, a2, a3, a4, a5, a6, a7⟩
    · exact Or.inl h
    · exact Or.inr ⟨l, G, a1, a2, a3, a4, a5, a6, by rw [lk_0 K (by omega)]; exact a7⟩
end LK
