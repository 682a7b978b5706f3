/-! the model: when a lot ends -/
def eiF (v : Nat → Nat → Int32) (lag n q : Nat) : Nat → Nat → Int32
  | 0, _ => -6
  | d + 1, k => if rdI (rdA (psU v lag n q k) q) lag n = true then nI (k + 1) else eiF v lag n q d (k + 1)
section MO
variable {h : evH} {m : evM} {c : Nat} {u : Nat → Nat → Int32}
theorem c_eiLoop (hu : mOK h c) {v : Nat → Nat → Int32} {lag n q : Nat} (hi : mInv v lag n q) (d : Nat) : ∀ k, k + d = 500 → ∃ (j : Nat) (a b : Int32), evX 135 23 [(0, .ref c), (1, .int (nI k)), (2, .int 1), (3, .int (-6))] [] h (evGM m c 9 (psU v lag n q k)) = evX 135 64 [(0, .ref c), (1, .int a), (2, .int b), (3, .int (eiF v lag n q d k))] [] h (evGM m c 9 (psU v lag n q j)) := by
  have n10 : ¬ (1 : Int32) = 0 := by decide
  induction d with
  | zero =>
    intro k hk
    have hge : (500 : Int32) ≤ nI k := by rw [show k = 500 by omega]; decide
    refine ⟨k, nI k, 1, ?_⟩
    show _ = evX 135 64 [(0, .ref c), (1, .int (nI k)), (2, .int 1), (3, .int (-6))] [] h (evGM m c 9 (psU v lag n q k))
    simp only [x135_23, x135_24, x135_27, x135_28, x135_31, evI_i, evJl_i, evJf_i, evJd_i, evA_r, evA_n, evA_q, evLk_c, evS1_d, evS2_d, evFl_n, evFl_c, evGl_n, evGl_c, evIn_n, evIn_c, evCat_i, evCat_l, evCat_f, evCat_d, evCat_r, evCat_z, evCat_q, evBd_some, evTl_s, evTl_n, va_rf_s, va_rf_n, and_true, true_and, and_false, false_and, if_true, if_false, not_true_eq_false, not_false_eq_true, reduceCtorEq, ↓reduceIte, Nat.reduceAdd, Nat.reduceEqDiff, Nat.reduceLT, Nat.reduceLeDiff, Nat.reduceSub, Nat.zero_ne_one, Nat.one_ne_zero, n10, hge]
  | succ d ih =>
    intro k hk
    obtain ⟨w0, w1, w2, w3, w4, w5, w6, w7, w8, w9, w10, w11, w12, w13, w14, w15, w16, w17, w18, w19, w20, w21, w22, w23, w24⟩ := id hu
    have e0 : ¬ (500 : Int32) ≤ nI k := nlt (n := 500) (by omega) (by decide)
    have hs : nI k + 1 = nI (k + 1) := (nI_succ k).symm
    have R := c_round (m := m) (u := psU v lag n q k) hu (psU_inv hi k)
    by_cases hr : rdI (rdA (psU v lag n q k) q) lag n = true
    · refine ⟨k + 1, nI (k + 1), 0, ?_⟩
      show _ = evX 135 64 [(0, .ref c), (1, .int (nI (k + 1))), (2, .int 0), (3, .int (if rdI (rdA (psU v lag n q k) q) lag n = true then nI (k + 1) else eiF v lag n q d (k + 1)))] [] h (evGM m c 9 (rdU (psU v lag n q k) lag n q))
      rw [if_pos hr]
      rw [hr, evBl_t] at R
      simp only [x135_23, x135_24, x135_27, x135_28, x135_31, x135_34, x135_37, x135_38, x135_41, x135_44, x135_45, x135_48, x135_49, x135_50, x135_51, x135_54, x135_56, x135_59, x135_60, x135_61, evI_i, evJl_i, evJf_i, evJd_i, evA_r, evA_n, evA_q, evLk_c, evS1_d, evS2_d, evFl_n, evFl_c, evGl_n, evGl_c, evIn_n, evIn_c, evCat_i, evCat_l, evCat_f, evCat_d, evCat_r, evCat_z, evCat_q, evBd_some, evTl_s, evTl_n, va_rf_s, va_rf_n, and_true, true_and, and_false, false_and, if_true, if_false, not_true_eq_false, not_false_eq_true, reduceCtorEq, ↓reduceIte, Nat.reduceAdd, Nat.reduceEqDiff, Nat.reduceLT, Nat.reduceLeDiff, Nat.reduceSub, Nat.zero_ne_one, Nat.one_ne_zero, w0, n10, e0, hs, R, Option.toList, List.cons_append, List.nil_append]
    · have hf := b_ne hr
      obtain ⟨j, a, b, e⟩ := ih (k + 1) (by omega)
      refine ⟨j, a, b, ?_⟩
      show _ = evX 135 64 [(0, .ref c), (1, .int a), (2, .int b), (3, .int (if rdI (rdA (psU v lag n q k) q) lag n = true then nI (k + 1) else eiF v lag n q d (k + 1)))] [] h (evGM m c 9 (psU v lag n q j))
      rw [if_neg hr]
      refine Eq.trans ?_ e
      rw [hf, evBl_f] at R
      show _ = evX 135 23 [(0, .ref c), (1, .int (nI (k + 1))), (2, .int 1), (3, .int (-6))] [] h (evGM m c 9 (rdU (psU v lag n q k) lag n q))
      conv => lhs; rw [x135_23]
      simp only [x135_24, x135_27, x135_28, x135_31, x135_34, x135_37, x135_38, x135_41, x135_44, x135_45, x135_48, x135_49, x135_50, x135_51, x135_54, x135_56, x135_59, x135_60, x135_61, evI_i, evJl_i, evJf_i, evJd_i, evA_r, evA_n, evA_q, evLk_c, evS1_d, evS2_d, evFl_n, evFl_c, evGl_n, evGl_c, evIn_n, evIn_c, evCat_i, evCat_l, evCat_f, evCat_d, evCat_r, evCat_z, evCat_q, evBd_some, evTl_s, evTl_n, va_rf_s, va_rf_n, and_true, true_and, and_false, false_and, if_true, if_false, not_true_eq_false, not_false_eq_true, reduceCtorEq, ↓reduceIte, Nat.reduceAdd, Nat.reduceEqDiff, Nat.reduceLT, Nat.reduceLeDiff, Nat.reduceSub, Nat.zero_ne_one, Nat.one_ne_zero, w0, n10, e0, hs, R, Option.toList, List.cons_append, List.nil_append]
theorem c_mendsIn (hu : mOK h c) {lag n q : Nat} (hi : mInv u lag n q) : ∃ j, evX 135 0 [(0, .ref c)] [] h (evGM m c 9 u) = some (some (.int (if hlB u q = true then eiF (mvU u 1 0 2 0 328) lag n q 500 0 else -6)), h, evGM m c 9 (mvU (psU (mvU u 1 0 2 0 328) lag n q j) 2 0 1 0 328)) := by
  obtain ⟨w0, w1, w2, w3, w4, w5, w6, w7, w8, w9, w10, w11, w12, w13, w14, w15, w16, w17, w18, w19, w20, w21, w22, w23, w24⟩ := id hu
  have n10 : ¬ (1 : Int32) = 0 := by decide
  have M1 : evX 87 0 [(0, .ref (c + 1)), (1, .int 0), (2, .ref (c + 2)), (3, .int 0)] [] h (evGM m c 9 u) = some (none, h, evGM m c 9 (mvU u 1 0 2 0 328)) := c_moves (m := m) (u := u) (f := 0) (t := 0) w9 w10 w17 w18 (by omega) (by omega) (by omega) (by omega) (by decide) (by decide) (by decide)
  have M2 : ∀ v, evX 87 0 [(0, .ref (c + 2)), (1, .int 0), (2, .ref (c + 1)), (3, .int 0)] [] h (evGM m c 9 v) = some (none, h, evGM m c 9 (mvU v 2 0 1 0 328)) := fun v => c_moves (m := m) (u := v) (f := 0) (t := 0) w10 w9 w18 w17 (by omega) (by omega) (by omega) (by omega) (by decide) (by decide) (by decide)
  have r1 : ∀ j, mvU u 1 0 2 0 328 1 j = u 1 j := fun j => mvU_o _ _ _ _ _ _ _ (by decide)
  have r1' : mvU u 1 0 2 0 328 1 = u 1 := funext r1
  have hi' : mInv (mvU u 1 0 2 0 328) lag n q := by
    obtain ⟨h1, h2, h3, h4, h5, h6, h7, h8⟩ := hi
    exact ⟨h1, h2, h3, by rw [r1, h4], by rw [r1, h5], by rw [r1, h6], by rw [r1]; exact h7, fun l hl => by rw [r1]; exact h8 l hl⟩
  have HL := c_mhasLots (m := m) (u := mvU u 1 0 2 0 328) hu hi'.2.2.1 hi'.2.2.2.2.2.1
  have eh : hlB (mvU u 1 0 2 0 328) q = hlB u q := by unfold hlB; rw [r1']
  rw [eh] at HL
  generalize mvU u 1 0 2 0 328 = v at M1 hi' HL
  by_cases hh : hlB u q = true
  · obtain ⟨j, a, b, e⟩ := c_eiLoop (m := m) hu hi' 500 0 rfl
    refine ⟨j, ?_⟩
    rw [if_pos hh]
    rw [hh, evBl_t] at HL
    have st : evX 135 0 [(0, .ref c)] [] h (evGM m c 9 u) = evX 135 23 [(0, .ref c), (1, .int (nI 0)), (2, .int 1), (3, .int (-6))] [] h (evGM m c 9 (psU v lag n q 0)) := by
      simp only [x135_0, x135_1, x135_4, x135_5, x135_6, x135_9, x135_10, x135_13, x135_14, x135_15, x135_16, x135_19, x135_20, x135_22, evI_i, evJl_i, evJf_i, evJd_i, evA_r, evA_n, evA_q, evLk_c, evS1_d, evS2_d, evFl_n, evFl_c, evGl_n, evGl_c, evIn_n, evIn_c, evCat_i, evCat_l, evCat_f, evCat_d, evCat_r, evCat_z, evCat_q, evBd_some, evTl_s, evTl_n, va_rf_s, va_rf_n, and_true, true_and, and_false, false_and, if_true, if_false, not_true_eq_false, not_false_eq_true, reduceCtorEq, ↓reduceIte, Nat.reduceAdd, Nat.reduceEqDiff, Nat.reduceLT, Nat.reduceLeDiff, Nat.reduceSub, Nat.zero_ne_one, Nat.one_ne_zero, w0, w1, w2, w3, w4, w5, w6, w7, w8, w9, w10, w11, w12, w13, w14, w15, w16, w17, w18, w19, w20, w21, w22, w23, w24, evGM_get, evGM_set, evGM_get0, evGM_set0, M1, HL, Option.toList, List.cons_append, List.nil_append]
      rfl
    rw [st, e]
    generalize psU v lag n q j = z
    simp only [x135_64, x135_65, x135_68, x135_69, x135_70, x135_73, x135_74, x135_77, x135_78, evI_i, evJl_i, evJf_i, evJd_i, evA_r, evA_n, evA_q, evLk_c, evS1_d, evS2_d, evFl_n, evFl_c, evGl_n, evGl_c, evIn_n, evIn_c, evCat_i, evCat_l, evCat_f, evCat_d, evCat_r, evCat_z, evCat_q, evBd_some, evTl_s, evTl_n, va_rf_s, va_rf_n, and_true, true_and, and_false, false_and, if_true, if_false, not_true_eq_false, not_false_eq_true, reduceCtorEq, ↓reduceIte, Nat.reduceAdd, Nat.reduceEqDiff, Nat.reduceLT, Nat.reduceLeDiff, Nat.reduceSub, Nat.zero_ne_one, Nat.one_ne_zero, w0, w1, w2, w3, w4, w5, w6, w7, w8, w9, w10, w11, w12, w13, w14, w15, w16, w17, w18, w19, w20, w21, w22, w23, w24, evGM_get, evGM_set, evGM_get0, evGM_set0, M2, Option.toList, List.cons_append, List.nil_append]
  · have hf := b_ne hh
    refine ⟨0, ?_⟩
    rw [if_neg hh]
    rw [hf, evBl_f] at HL
    show evX 135 0 [(0, .ref c)] [] h (evGM m c 9 u) = some (some (Value.int (-6)), h, evGM m c 9 (mvU v 2 0 1 0 328))
    simp only [x135_0, x135_1, x135_4, x135_5, x135_6, x135_9, x135_10, x135_13, x135_14, x135_15, x135_16, x135_19, x135_20, x135_22, x135_23, x135_24, x135_27, x135_28, x135_31, x135_34, x135_37, x135_38, x135_41, x135_44, x135_45, x135_48, x135_49, x135_50, x135_51, x135_54, x135_56, x135_59, x135_60, x135_61, x135_64, x135_65, x135_68, x135_69, x135_70, x135_73, x135_74, x135_77, x135_78, evI_i, evJl_i, evJf_i, evJd_i, evA_r, evA_n, evA_q, evLk_c, evS1_d, evS2_d, evFl_n, evFl_c, evGl_n, evGl_c, evIn_n, evIn_c, evCat_i, evCat_l, evCat_f, evCat_d, evCat_r, evCat_z, evCat_q, evBd_some, evTl_s, evTl_n, va_rf_s, va_rf_n, and_true, true_and, and_false, false_and, if_true, if_false, not_true_eq_false, not_false_eq_true, reduceCtorEq, ↓reduceIte, Nat.reduceAdd, Nat.reduceEqDiff, Nat.reduceLT, Nat.reduceLeDiff, Nat.reduceSub, Nat.zero_ne_one, Nat.one_ne_zero, w0, w1, w2, w3, w4, w5, w6, w7, w8, w9, w10, w11, w12, w13, w14, w15, w16, w17, w18, w19, w20, w21, w22, w23, w24, evGM_get, evGM_set, evGM_get0, evGM_set0, M1, M2, HL, Option.toList, List.cons_append, List.nil_append]
end MO
