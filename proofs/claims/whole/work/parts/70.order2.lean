/-! the class's pad: an order, the text's fault -/
section PO
variable {h : evH} {u p : Nat → Nat → Int32} {V : Nat → evVt} {n : Nat} {s : Nat → Option Nat}
/-- an order that stands there, at the text's end; with more behind it; a fault -/
theorem P_readOrder (hx : xOK h n s) {L a : Nat} (hL : L ≤ 80) (ha : a ≤ L) (h1 : p 1 1 = nI L) (k f c : Int32) :
    ((ordF (gC p L) a).1 = true → (ordF (gC p L) a).2.1 = L → ∃ c', (gC p L a = 43 ∨ gC p L a = 98 → c' = (ordF (gC p L) a).2.2.2) ∧ evX 47 0 [(0, .ref 372)] [] h (memW u (pcU p a false true k f c) V n) = some (some (.int (evBl true)), h, memW u (pcU p L false false (gC p L a) (ordF (gC p L) a).2.2.1 c') V n)) ∧
    ((ordF (gC p L) a).1 = true → (ordF (gC p L) a).2.1 < L → gC p L (ordF (gC p L) a).2.1 = 59 → ∃ c', (gC p L a = 43 ∨ gC p L a = 98 → c' = (ordF (gC p L) a).2.2.2) ∧ evX 47 0 [(0, .ref 372)] [] h (memW u (pcU p a false true k f c) V n) = some (some (.int (evBl true)), h, memW u (pcU p ((ordF (gC p L) a).2.1 + 1) false true (gC p L a) (ordF (gC p L) a).2.2.1 c') V n)) ∧
    (¬ ((ordF (gC p L) a).1 = true ∧ ((ordF (gC p L) a).2.1 = L ∨ gC p L (ordF (gC p L) a).2.1 = 59)) → ∃ mo k' f' c', evX 47 0 [(0, .ref 372)] [] h (memW u (pcU p a false true k f c) V n) = some (some (.int (evBl false)), h, memW u (pcU p (ordF (gC p L) a).2.1 true mo k' f' c') V n)) := by
  obtain ⟨hn2, hN, a0, b0, b1, b2, b3, b4, a83, a84, l84, r83, r84, a372, r372, a373, l373, a374, l374, r374, rss, hH⟩ := id hx
  have hg := fun i => @gC_D p L i
  have hc1 := fun i => @gC_n1 p L i
  have t1 : ¬ evBl true = 0 := by decide
  have n10 : ¬ (1 : Int32) = 0 := by decide
  have n42 : (42 : Int32) ≠ 0 := by decide
  have n42' : (42 : Int32) ≠ -1 := by decide
  have n61 : (61 : Int32) ≠ 0 := by decide
  have n61' : (61 : Int32) ≠ -1 := by decide
  have n59 : (59 : Int32) ≠ 0 := by decide
  have n59' : (59 : Int32) ≠ -1 := by decide
  have n98 : ¬ (98 : Int32) = 43 := by decide
  have n108 : ¬ (108 : Int32) = 43 := by decide
  have n108' : ¬ (108 : Int32) = 98 := by decide
  have n116 : ¬ (116 : Int32) = 43 := by decide
  have n116' : ¬ (116 : Int32) = 98 := by decide
  have n116'' : ¬ (116 : Int32) = 108 := by decide
  have S := fun k f c => P_sign (u := u) (V := V) hx hL (show a < 1000 by omega) h1 false true k f c
  have RN : ∀ q st mo k f c, q < 900 → evX 52 0 [(0, .ref 372)] [] h (memW u (pcU p q st mo k f c) V n) = some (some (.int (if st = false ∧ isD (gC p L) q = true then (nuA (gC p L) q).2 else 0)), h, memW u (if st = false ∧ isD (gC p L) q = true then pcU p (nuA (gC p L) q).1 (isD (gC p L) (nuA (gC p L) q).1) mo k f c else pcU p q true mo k f c) V n) := fun q st mo k f c hq => P_readNumber (u := u) (V := V) hx hL hq h1 st mo k f c
  have RD : ∀ q st mo k f c, q < 900 → evX 51 0 [(0, .ref 372)] [] h (memW u (pcU p q st mo k f c) V n) = some (some (.int (if st = false ∧ isD (gC p L) q = true then gC p L q - 48 else 0)), h, memW u (if st = false ∧ isD (gC p L) q = true then pcU p (q + 1) false mo k f c else pcU p q true mo k f c) V n) := fun q st mo k f c hq => P_readDigit (u := u) (V := V) hx hL (show q < 1000 by omega) h1 st mo k f c
  have E42 : ∀ q st mo k f c, q < 900 → evX 50 0 [(0, .ref 372), (1, .int 42)] [] h (memW u (pcU p q st mo k f c) V n) = some (none, h, memW u (if st = false ∧ gC p L q = 42 then pcU p (q + 1) false mo k f c else pcU p q true mo k f c) V n) := fun q st mo k f c hq => P_expect (u := u) (V := V) hx hL (show q < 1000 by omega) h1 st mo k f c n42 n42'
  have E61 : ∀ q st mo k f c, q < 900 → evX 50 0 [(0, .ref 372), (1, .int 61)] [] h (memW u (pcU p q st mo k f c) V n) = some (none, h, memW u (if st = false ∧ gC p L q = 61 then pcU p (q + 1) false mo k f c else pcU p q true mo k f c) V n) := fun q st mo k f c hq => P_expect (u := u) (V := V) hx hL (show q < 1000 by omega) h1 st mo k f c n61 n61'
  have E59 : ∀ q st mo k f c, q < 900 → evX 50 0 [(0, .ref 372), (1, .int 59)] [] h (memW u (pcU p q st mo k f c) V n) = some (none, h, memW u (if st = false ∧ gC p L q = 59 then pcU p (q + 1) false mo k f c else pcU p q true mo k f c) V n) := fun q st mo k f c hq => P_expect (u := u) (V := V) hx hL (show q < 1000 by omega) h1 st mo k f c n59 n59'
  -- the end, from 168 on
  have T : ∀ q st mo k f c, q ≤ L → evX 47 168 [(0, .ref 372)] [] h (memW u (pcU p q st mo k f c) V n) = if q < L then (if st = false ∧ gC p L q = 59 then some (some (.int (evBl true)), h, memW u (pcU p (q + 1) false true k f c) V n) else some (some (.int (evBl false)), h, memW u (pcU p q true true k f c) V n)) else some (some (.int (evBl (!st))), h, memW u (pcU p q st false k f c) V n) := by
    intro q st mo k f c hq
    by_cases hqL : q < L
    · have e1 : ¬ nI L ≤ nI q := nlt hqL (by omega)
      rw [if_pos hqL]
      by_cases h59 : st = false ∧ gC p L q = 59
      · rw [if_pos h59]
        have X := E59 q st true k f c (by omega)
        rw [if_pos h59] at X
        simp only [x47_168, x47_169, x47_170, x47_173, x47_174, x47_177, x47_180, x47_181, x47_184, x47_185_0, x47_185_1, x47_185b, x47_188, x47_189, x47_192, x47_195, x47_196, x47_198, x47_201, x47_202, x47_205, x47_208, x47_209, x47_212, x47_213_0, x47_213_1, x47_213b, evI_i, evJl_i, evJf_i, evJd_i, evA_r, evA_n, evA_q, evLk_c, evS1_d, evS2_d, evFl_n, evFl_c, evGl_n, evGl_c, evIn_n, evIn_c, evCat_i, evCat_l, evCat_f, evCat_d, evCat_r, evCat_z, evCat_q, evBd_some, evTl_s, evTl_n, va_rf_s, va_rf_n, and_true, true_and, and_false, false_and, if_true, if_false, not_true_eq_false, not_false_eq_true, reduceCtorEq, ↓reduceIte, Nat.reduceAdd, Nat.reduceEqDiff, Nat.reduceLT, Nat.reduceLeDiff, Nat.reduceSub, Nat.zero_ne_one, Nat.one_ne_zero, a0, b0, b1, b2, b3, b4, a83, a84, l84, r83, a372, r372, a373, l373, a374, l374, memW_83, memW_372, memW_373, memW_s83, memW_s372, memW_s373, pc_g2, pc_g1, h1, e1, pc_4t, pc_g4, t1, n10, X, pc_g3, evBl_f, evBl_t, Option.toList, List.nil_append, List.cons_append]
      · rw [if_neg h59]
        have X := E59 q st true k f c (by omega)
        rw [if_neg h59] at X
        simp only [x47_168, x47_169, x47_170, x47_173, x47_174, x47_177, x47_180, x47_181, x47_184, x47_185_0, x47_185_1, x47_185b, x47_188, x47_189, x47_192, x47_195, x47_196, x47_198, x47_201, x47_202, x47_205, x47_208, x47_209, x47_212, x47_213_0, x47_213_1, x47_213b, evI_i, evJl_i, evJf_i, evJd_i, evA_r, evA_n, evA_q, evLk_c, evS1_d, evS2_d, evFl_n, evFl_c, evGl_n, evGl_c, evIn_n, evIn_c, evCat_i, evCat_l, evCat_f, evCat_d, evCat_r, evCat_z, evCat_q, evBd_some, evTl_s, evTl_n, va_rf_s, va_rf_n, and_true, true_and, and_false, false_and, if_true, if_false, not_true_eq_false, not_false_eq_true, reduceCtorEq, ↓reduceIte, Nat.reduceAdd, Nat.reduceEqDiff, Nat.reduceLT, Nat.reduceLeDiff, Nat.reduceSub, Nat.zero_ne_one, Nat.one_ne_zero, a0, b0, b1, b2, b3, b4, a83, a84, l84, r83, a372, r372, a373, l373, a374, l374, memW_83, memW_372, memW_373, memW_s83, memW_s372, memW_s373, pc_g2, pc_g1, h1, e1, pc_4t, pc_g4, t1, X, pc_g3, evBl_f, Option.toList, List.nil_append, List.cons_append]
    · have e1 : nI L ≤ nI q := nI_le (by omega) (by omega)
      rw [if_neg hqL]
      cases st with
      | true => simp only [x47_168, x47_169, x47_170, x47_173, x47_174, x47_177, x47_180, x47_181, x47_184, x47_185_0, x47_185_1, x47_185b, x47_188, x47_189, x47_192, x47_195, x47_196, x47_198, x47_201, x47_202, x47_205, x47_208, x47_209, x47_212, x47_213_0, x47_213_1, x47_213b, evI_i, evJl_i, evJf_i, evJd_i, evA_r, evA_n, evA_q, evLk_c, evS1_d, evS2_d, evFl_n, evFl_c, evGl_n, evGl_c, evIn_n, evIn_c, evCat_i, evCat_l, evCat_f, evCat_d, evCat_r, evCat_z, evCat_q, evBd_some, evTl_s, evTl_n, va_rf_s, va_rf_n, and_true, true_and, and_false, false_and, if_true, if_false, not_true_eq_false, not_false_eq_true, reduceCtorEq, ↓reduceIte, Nat.reduceAdd, Nat.reduceEqDiff, Nat.reduceLT, Nat.reduceLeDiff, Nat.reduceSub, Nat.zero_ne_one, Nat.one_ne_zero, a0, b0, b1, b2, b3, b4, a83, a84, l84, r83, a372, r372, a373, l373, a374, l374, memW_83, memW_372, memW_373, memW_s83, memW_s372, memW_s373, pc_g2, pc_g1, h1, e1, pc_4f, pc_g4, pc_g3, t1, evBl_f, Bool.not_true, Option.toList, List.nil_append, List.cons_append]
      | false => simp only [x47_168, x47_169, x47_170, x47_173, x47_174, x47_177, x47_180, x47_181, x47_184, x47_185_0, x47_185_1, x47_185b, x47_188, x47_189, x47_192, x47_195, x47_196, x47_198, x47_201, x47_202, x47_205, x47_208, x47_209, x47_212, x47_213_0, x47_213_1, x47_213b, evI_i, evJl_i, evJf_i, evJd_i, evA_r, evA_n, evA_q, evLk_c, evS1_d, evS2_d, evFl_n, evFl_c, evGl_n, evGl_c, evIn_n, evIn_c, evCat_i, evCat_l, evCat_f, evCat_d, evCat_r, evCat_z, evCat_q, evBd_some, evTl_s, evTl_n, va_rf_s, va_rf_n, and_true, true_and, and_false, false_and, if_true, if_false, not_true_eq_false, not_false_eq_true, reduceCtorEq, ↓reduceIte, Nat.reduceAdd, Nat.reduceEqDiff, Nat.reduceLT, Nat.reduceLeDiff, Nat.reduceSub, Nat.zero_ne_one, Nat.one_ne_zero, a0, b0, b1, b2, b3, b4, a83, a84, l84, r83, a372, r372, a373, l373, a374, l374, memW_83, memW_372, memW_373, memW_s83, memW_s372, memW_s373, pc_g2, pc_g1, h1, e1, pc_4f, pc_g4, pc_g3, evBl_f, evBl_t, Bool.not_false, Option.toList, List.nil_append, List.cons_append]
  have hle := ordF_le hg hc1 ha
  -- the middle: to 168
  have M : (∃ k' f' c', evX 47 0 [(0, .ref 372)] [] h (memW u (pcU p a false true k f c) V n) = evX 47 168 [(0, .ref 372)] [] h (memW u (pcU p (ordF (gC p L) a).2.1 (!(ordF (gC p L) a).1 || isD (gC p L) (ordF (gC p L) a).2.1) true k' f' c') V n) ∧ ((ordF (gC p L) a).1 = true → k' = gC p L a ∧ f' = (ordF (gC p L) a).2.2.1 ∧ (gC p L a = 43 ∨ gC p L a = 98 → c' = (ordF (gC p L) a).2.2.2))) := by
    have e1 : nI a + 1 = nI (a + 1) := (nI_succ a).symm
    have q1 : a + 1 < 900 := by omega
    have q2 : a + 2 < 900 := by omega
    have q3 : a + 3 < 900 := by omega
    have s12 : a + 1 + 1 = a + 2 := rfl
    have s23 : a + 2 + 1 = a + 3 := rfl
    unfold ordF
    by_cases h43 : gC p L a = 43
    · have hs : sgV p L a = 43 := by rw [sg_eq (by decide) (by decide)]; exact h43
      rw [if_pos h43]
      by_cases d1 : isD (gC p L) (a + 1) = true
      · rw [if_pos d1]
        have a1 := nuA_le hg d1
        have r1 : (nuA (gC p L) (a + 1)).1 < 900 := by omega
        have r1' : (nuA (gC p L) (a + 1)).1 + 1 < 900 := by omega
        by_cases h42 : gC p L (nuA (gC p L) (a + 1)).1 = 42
        · have nd : isD (gC p L) (nuA (gC p L) (a + 1)).1 = false := by unfold isD; rw [h42]; decide
          rw [if_pos h42]
          by_cases d2 : isD (gC p L) ((nuA (gC p L) (a + 1)).1 + 1) = true
          · rw [if_pos d2]
            refine ⟨43, (nuA (gC p L) (a + 1)).2, (nuA (gC p L) ((nuA (gC p L) (a + 1)).1 + 1)).2, ?_, fun _ => ⟨h43.symm, rfl, fun _ => rfl⟩⟩
            simp only [x47_0, x47_1, x47_4, x47_7, x47_8, x47_11, x47_14, x47_15_0, x47_15_1, x47_15b, x47_16, x47_17, x47_18, x47_21, x47_24, x47_25, x47_28, x47_72, x47_73, x47_74, x47_77, x47_78, x47_79, x47_82, x47_83, x47_84, x47_87, x47_90, x47_91, x47_93, x47_96, x47_97, x47_98, x47_101, x47_104, evI_i, evJl_i, evJf_i, evJd_i, evA_r, evA_n, evA_q, evLk_c, evS1_d, evS2_d, evFl_n, evFl_c, evGl_n, evGl_c, evIn_n, evIn_c, evCat_i, evCat_l, evCat_f, evCat_d, evCat_r, evCat_z, evCat_q, evBd_some, evTl_s, evTl_n, va_rf_s, va_rf_n, and_true, true_and, and_false, false_and, if_true, if_false, not_true_eq_false, not_false_eq_true, reduceCtorEq, ↓reduceIte, Nat.reduceAdd, Nat.reduceEqDiff, Nat.reduceLT, Nat.reduceLeDiff, Nat.reduceSub, Nat.zero_ne_one, Nat.one_ne_zero, a0, b0, b1, b2, b3, b4, a83, a84, l84, r83, a372, r372, a373, l373, a374, l374, memW_83, memW_372, memW_373, memW_s83, memW_s372, memW_s373, pc_g2, pc_g3, pc_g4, pc_g5, evBl_f, t1, S, hs, pc_5, pc_7, pc_6, pc_2, e1, RN, q1, d1, E42, r1, nd, h42, r1', d2, Bool.not_true, Bool.false_or, Option.toList, List.nil_append, List.cons_append]
          · have d2f := b_ne d2
            rw [if_neg d2]
            refine ⟨43, (nuA (gC p L) (a + 1)).2, 0, ?_, fun z => by cases z⟩
            simp only [x47_0, x47_1, x47_4, x47_7, x47_8, x47_11, x47_14, x47_15_0, x47_15_1, x47_15b, x47_16, x47_17, x47_18, x47_21, x47_24, x47_25, x47_28, x47_72, x47_73, x47_74, x47_77, x47_78, x47_79, x47_82, x47_83, x47_84, x47_87, x47_90, x47_91, x47_93, x47_96, x47_97, x47_98, x47_101, x47_104, evI_i, evJl_i, evJf_i, evJd_i, evA_r, evA_n, evA_q, evLk_c, evS1_d, evS2_d, evFl_n, evFl_c, evGl_n, evGl_c, evIn_n, evIn_c, evCat_i, evCat_l, evCat_f, evCat_d, evCat_r, evCat_z, evCat_q, evBd_some, evTl_s, evTl_n, va_rf_s, va_rf_n, and_true, true_and, and_false, false_and, if_true, if_false, not_true_eq_false, not_false_eq_true, reduceCtorEq, ↓reduceIte, Nat.reduceAdd, Nat.reduceEqDiff, Nat.reduceLT, Nat.reduceLeDiff, Nat.reduceSub, Nat.zero_ne_one, Nat.one_ne_zero, a0, b0, b1, b2, b3, b4, a83, a84, l84, r83, a372, r372, a373, l373, a374, l374, memW_83, memW_372, memW_373, memW_s83, memW_s372, memW_s373, pc_g2, pc_g3, pc_g4, pc_g5, evBl_f, t1, S, hs, pc_5, pc_7, pc_6, pc_2, e1, RN, q1, d1, E42, r1, nd, h42, r1', d2f, Bool.not_false, Bool.true_or, Bool.false_eq_true, Option.toList, List.nil_append, List.cons_append]
        · rw [if_neg h42]
          refine ⟨43, (nuA (gC p L) (a + 1)).2, 0, ?_, fun z => by cases z⟩
          simp only [x47_0, x47_1, x47_4, x47_7, x47_8, x47_11, x47_14, x47_15_0, x47_15_1, x47_15b, x47_16, x47_17, x47_18, x47_21, x47_24, x47_25, x47_28, x47_72, x47_73, x47_74, x47_77, x47_78, x47_79, x47_82, x47_83, x47_84, x47_87, x47_90, x47_91, x47_93, x47_96, x47_97, x47_98, x47_101, x47_104, evI_i, evJl_i, evJf_i, evJd_i, evA_r, evA_n, evA_q, evLk_c, evS1_d, evS2_d, evFl_n, evFl_c, evGl_n, evGl_c, evIn_n, evIn_c, evCat_i, evCat_l, evCat_f, evCat_d, evCat_r, evCat_z, evCat_q, evBd_some, evTl_s, evTl_n, va_rf_s, va_rf_n, and_true, true_and, and_false, false_and, if_true, if_false, not_true_eq_false, not_false_eq_true, reduceCtorEq, ↓reduceIte, Nat.reduceAdd, Nat.reduceEqDiff, Nat.reduceLT, Nat.reduceLeDiff, Nat.reduceSub, Nat.zero_ne_one, Nat.one_ne_zero, a0, b0, b1, b2, b3, b4, a83, a84, l84, r83, a372, r372, a373, l373, a374, l374, memW_83, memW_372, memW_373, memW_s83, memW_s372, memW_s373, pc_g2, pc_g3, pc_g4, pc_g5, evBl_f, t1, S, hs, pc_5, pc_7, pc_6, pc_2, e1, RN, q1, d1, E42, r1, h42, Bool.not_false, Bool.true_or, Bool.true_eq_false, Option.toList, List.nil_append, List.cons_append]
      · have d1f := b_ne d1
        rw [if_neg d1]
        refine ⟨43, 0, 0, ?_, fun z => by cases z⟩
        simp only [x47_0, x47_1, x47_4, x47_7, x47_8, x47_11, x47_14, x47_15_0, x47_15_1, x47_15b, x47_16, x47_17, x47_18, x47_21, x47_24, x47_25, x47_28, x47_72, x47_73, x47_74, x47_77, x47_78, x47_79, x47_82, x47_83, x47_84, x47_87, x47_90, x47_91, x47_93, x47_96, x47_97, x47_98, x47_101, x47_104, evI_i, evJl_i, evJf_i, evJd_i, evA_r, evA_n, evA_q, evLk_c, evS1_d, evS2_d, evFl_n, evFl_c, evGl_n, evGl_c, evIn_n, evIn_c, evCat_i, evCat_l, evCat_f, evCat_d, evCat_r, evCat_z, evCat_q, evBd_some, evTl_s, evTl_n, va_rf_s, va_rf_n, and_true, true_and, and_false, false_and, if_true, if_false, not_true_eq_false, not_false_eq_true, reduceCtorEq, ↓reduceIte, Nat.reduceAdd, Nat.reduceEqDiff, Nat.reduceLT, Nat.reduceLeDiff, Nat.reduceSub, Nat.zero_ne_one, Nat.one_ne_zero, a0, b0, b1, b2, b3, b4, a83, a84, l84, r83, a372, r372, a373, l373, a374, l374, memW_83, memW_372, memW_373, memW_s83, memW_s372, memW_s373, pc_g2, pc_g3, pc_g4, pc_g5, evBl_f, t1, S, hs, pc_5, pc_7, pc_6, pc_2, e1, RN, q1, d1f, E42, Bool.not_false, Bool.true_or, Bool.false_eq_true, Bool.true_eq_false, Option.toList, List.nil_append, List.cons_append]
    · rw [if_neg h43]
      by_cases h98 : gC p L a = 98
      · have hs : sgV p L a = 98 := by rw [sg_eq (by decide) (by decide)]; exact h98
        rw [if_pos h98]
        by_cases d1 : isD (gC p L) (a + 1) = true
        · rw [if_pos d1]
          by_cases h61 : gC p L (a + 2) = 61
          · rw [if_pos h61]
            by_cases d2 : isD (gC p L) (a + 3) = true
            · rw [if_pos d2]
              refine ⟨98, gC p L (a + 1) - 48, (nuA (gC p L) (a + 3)).2, ?_, fun _ => ⟨h98.symm, rfl, fun _ => rfl⟩⟩
              simp only [x47_0, x47_1, x47_4, x47_7, x47_8, x47_11, x47_14, x47_15_0, x47_15_1, x47_15b, x47_16, x47_17, x47_18, x47_21, x47_24, x47_25, x47_28, x47_72, x47_73, x47_74, x47_77, x47_78, x47_79, x47_82, x47_83, x47_84, x47_87, x47_90, x47_91, x47_93, x47_96, x47_97, x47_98, x47_101, x47_104, x47_107, x47_108, x47_109, x47_112, x47_113, x47_114, x47_117, x47_118, x47_119, x47_122, x47_125, x47_126, x47_128, x47_131, x47_132, x47_133, x47_136, x47_139, evI_i, evJl_i, evJf_i, evJd_i, evA_r, evA_n, evA_q, evLk_c, evS1_d, evS2_d, evFl_n, evFl_c, evGl_n, evGl_c, evIn_n, evIn_c, evCat_i, evCat_l, evCat_f, evCat_d, evCat_r, evCat_z, evCat_q, evBd_some, evTl_s, evTl_n, va_rf_s, va_rf_n, and_true, true_and, and_false, false_and, if_true, if_false, not_true_eq_false, not_false_eq_true, reduceCtorEq, ↓reduceIte, Nat.reduceAdd, Nat.reduceEqDiff, Nat.reduceLT, Nat.reduceLeDiff, Nat.reduceSub, Nat.zero_ne_one, Nat.one_ne_zero, a0, b0, b1, b2, b3, b4, a83, a84, l84, r83, a372, r372, a373, l373, a374, l374, memW_83, memW_372, memW_373, memW_s83, memW_s372, memW_s373, pc_g2, pc_g3, pc_g4, pc_g5, evBl_f, t1, S, hs, n98, pc_5, pc_7, pc_6, pc_2, e1, RN, RD, q1, d1, s12, s23, q2, q3, E61, h61, d2, Bool.not_true, Bool.false_or, Option.toList, List.nil_append, List.cons_append]
            · have d2f := b_ne d2
              rw [if_neg d2]
              refine ⟨98, gC p L (a + 1) - 48, 0, ?_, fun z => by cases z⟩
              simp only [x47_0, x47_1, x47_4, x47_7, x47_8, x47_11, x47_14, x47_15_0, x47_15_1, x47_15b, x47_16, x47_17, x47_18, x47_21, x47_24, x47_25, x47_28, x47_72, x47_73, x47_74, x47_77, x47_78, x47_79, x47_82, x47_83, x47_84, x47_87, x47_90, x47_91, x47_93, x47_96, x47_97, x47_98, x47_101, x47_104, x47_107, x47_108, x47_109, x47_112, x47_113, x47_114, x47_117, x47_118, x47_119, x47_122, x47_125, x47_126, x47_128, x47_131, x47_132, x47_133, x47_136, x47_139, evI_i, evJl_i, evJf_i, evJd_i, evA_r, evA_n, evA_q, evLk_c, evS1_d, evS2_d, evFl_n, evFl_c, evGl_n, evGl_c, evIn_n, evIn_c, evCat_i, evCat_l, evCat_f, evCat_d, evCat_r, evCat_z, evCat_q, evBd_some, evTl_s, evTl_n, va_rf_s, va_rf_n, and_true, true_and, and_false, false_and, if_true, if_false, not_true_eq_false, not_false_eq_true, reduceCtorEq, ↓reduceIte, Nat.reduceAdd, Nat.reduceEqDiff, Nat.reduceLT, Nat.reduceLeDiff, Nat.reduceSub, Nat.zero_ne_one, Nat.one_ne_zero, a0, b0, b1, b2, b3, b4, a83, a84, l84, r83, a372, r372, a373, l373, a374, l374, memW_83, memW_372, memW_373, memW_s83, memW_s372, memW_s373, pc_g2, pc_g3, pc_g4, pc_g5, evBl_f, t1, S, hs, n98, pc_5, pc_7, pc_6, pc_2, e1, RN, RD, q1, d1, s12, s23, q2, q3, E61, h61, d2f, Bool.not_false, Bool.true_or, Bool.false_eq_true, Option.toList, List.nil_append, List.cons_append]
          · rw [if_neg h61]
            refine ⟨98, gC p L (a + 1) - 48, 0, ?_, fun z => by cases z⟩
            simp only [x47_0, x47_1, x47_4, x47_7, x47_8, x47_11, x47_14, x47_15_0, x47_15_1, x47_15b, x47_16, x47_17, x47_18, x47_21, x47_24, x47_25, x47_28, x47_72, x47_73, x47_74, x47_77, x47_78, x47_79, x47_82, x47_83, x47_84, x47_87, x47_90, x47_91, x47_93, x47_96, x47_97, x47_98, x47_101, x47_104, x47_107, x47_108, x47_109, x47_112, x47_113, x47_114, x47_117, x47_118, x47_119, x47_122, x47_125, x47_126, x47_128, x47_131, x47_132, x47_133, x47_136, x47_139, evI_i, evJl_i, evJf_i, evJd_i, evA_r, evA_n, evA_q, evLk_c, evS1_d, evS2_d, evFl_n, evFl_c, evGl_n, evGl_c, evIn_n, evIn_c, evCat_i, evCat_l, evCat_f, evCat_d, evCat_r, evCat_z, evCat_q, evBd_some, evTl_s, evTl_n, va_rf_s, va_rf_n, and_true, true_and, and_false, false_and, if_true, if_false, not_true_eq_false, not_false_eq_true, reduceCtorEq, ↓reduceIte, Nat.reduceAdd, Nat.reduceEqDiff, Nat.reduceLT, Nat.reduceLeDiff, Nat.reduceSub, Nat.zero_ne_one, Nat.one_ne_zero, a0, b0, b1, b2, b3, b4, a83, a84, l84, r83, a372, r372, a373, l373, a374, l374, memW_83, memW_372, memW_373, memW_s83, memW_s372, memW_s373, pc_g2, pc_g3, pc_g4, pc_g5, evBl_f, t1, S, hs, n98, pc_5, pc_7, pc_6, pc_2, e1, RN, RD, q1, d1, s12, s23, q2, q3, E61, h61, Bool.not_false, Bool.true_or, Bool.true_eq_false, Option.toList, List.nil_append, List.cons_append]
        · have d1f := b_ne d1
          rw [if_neg d1]
          refine ⟨98, 0, 0, ?_, fun z => by cases z⟩
          simp only [x47_0, x47_1, x47_4, x47_7, x47_8, x47_11, x47_14, x47_15_0, x47_15_1, x47_15b, x47_16, x47_17, x47_18, x47_21, x47_24, x47_25, x47_28, x47_72, x47_73, x47_74, x47_77, x47_78, x47_79, x47_82, x47_83, x47_84, x47_87, x47_90, x47_91, x47_93, x47_96, x47_97, x47_98, x47_101, x47_104, x47_107, x47_108, x47_109, x47_112, x47_113, x47_114, x47_117, x47_118, x47_119, x47_122, x47_125, x47_126, x47_128, x47_131, x47_132, x47_133, x47_136, x47_139, evI_i, evJl_i, evJf_i, evJd_i, evA_r, evA_n, evA_q, evLk_c, evS1_d, evS2_d, evFl_n, evFl_c, evGl_n, evGl_c, evIn_n, evIn_c, evCat_i, evCat_l, evCat_f, evCat_d, evCat_r, evCat_z, evCat_q, evBd_some, evTl_s, evTl_n, va_rf_s, va_rf_n, and_true, true_and, and_false, false_and, if_true, if_false, not_true_eq_false, not_false_eq_true, reduceCtorEq, ↓reduceIte, Nat.reduceAdd, Nat.reduceEqDiff, Nat.reduceLT, Nat.reduceLeDiff, Nat.reduceSub, Nat.zero_ne_one, Nat.one_ne_zero, a0, b0, b1, b2, b3, b4, a83, a84, l84, r83, a372, r372, a373, l373, a374, l374, memW_83, memW_372, memW_373, memW_s83, memW_s372, memW_s373, pc_g2, pc_g3, pc_g4, pc_g5, evBl_f, t1, S, hs, n98, pc_5, pc_7, pc_6, pc_2, e1, RN, RD, q1, d1f, E61, Bool.not_false, Bool.true_or, Bool.false_eq_true, Bool.true_eq_false, Option.toList, List.nil_append, List.cons_append]
      · rw [if_neg h98]
        by_cases h108 : gC p L a = 108
        · have hs : sgV p L a = 108 := by rw [sg_eq (by decide) (by decide)]; exact h108
          rw [if_pos (Or.inl h108)]
          by_cases d1 : isD (gC p L) (a + 1) = true
          · rw [if_pos d1]
            refine ⟨108, (nuA (gC p L) (a + 1)).2, c, ?_, fun _ => ⟨h108.symm, rfl, fun z => absurd (h108 ▸ z) (by decide)⟩⟩
            simp only [x47_0, x47_1, x47_4, x47_7, x47_8, x47_11, x47_14, x47_15_0, x47_15_1, x47_15b, x47_16, x47_17, x47_18, x47_21, x47_24, x47_25, x47_28, x47_142, x47_143, x47_144, x47_147, x47_148, x47_149, x47_152, x47_153, x47_154, x47_157, x47_160, evI_i, evJl_i, evJf_i, evJd_i, evA_r, evA_n, evA_q, evLk_c, evS1_d, evS2_d, evFl_n, evFl_c, evGl_n, evGl_c, evIn_n, evIn_c, evCat_i, evCat_l, evCat_f, evCat_d, evCat_r, evCat_z, evCat_q, evBd_some, evTl_s, evTl_n, va_rf_s, va_rf_n, and_true, true_and, and_false, false_and, if_true, if_false, not_true_eq_false, not_false_eq_true, reduceCtorEq, ↓reduceIte, Nat.reduceAdd, Nat.reduceEqDiff, Nat.reduceLT, Nat.reduceLeDiff, Nat.reduceSub, Nat.zero_ne_one, Nat.one_ne_zero, a0, b0, b1, b2, b3, b4, a83, a84, l84, r83, a372, r372, a373, l373, a374, l374, memW_83, memW_372, memW_373, memW_s83, memW_s372, memW_s373, pc_g2, pc_g3, pc_g4, pc_g5, evBl_f, t1, S, hs, n108, n108', pc_5, pc_7, pc_6, pc_2, e1, RN, q1, d1, Bool.not_true, Bool.false_or, Option.toList, List.nil_append, List.cons_append]
          · have d1f := b_ne d1
            rw [if_neg d1]
            refine ⟨108, 0, c, ?_, fun z => by cases z⟩
            simp only [x47_0, x47_1, x47_4, x47_7, x47_8, x47_11, x47_14, x47_15_0, x47_15_1, x47_15b, x47_16, x47_17, x47_18, x47_21, x47_24, x47_25, x47_28, x47_142, x47_143, x47_144, x47_147, x47_148, x47_149, x47_152, x47_153, x47_154, x47_157, x47_160, evI_i, evJl_i, evJf_i, evJd_i, evA_r, evA_n, evA_q, evLk_c, evS1_d, evS2_d, evFl_n, evFl_c, evGl_n, evGl_c, evIn_n, evIn_c, evCat_i, evCat_l, evCat_f, evCat_d, evCat_r, evCat_z, evCat_q, evBd_some, evTl_s, evTl_n, va_rf_s, va_rf_n, and_true, true_and, and_false, false_and, if_true, if_false, not_true_eq_false, not_false_eq_true, reduceCtorEq, ↓reduceIte, Nat.reduceAdd, Nat.reduceEqDiff, Nat.reduceLT, Nat.reduceLeDiff, Nat.reduceSub, Nat.zero_ne_one, Nat.one_ne_zero, a0, b0, b1, b2, b3, b4, a83, a84, l84, r83, a372, r372, a373, l373, a374, l374, memW_83, memW_372, memW_373, memW_s83, memW_s372, memW_s373, pc_g2, pc_g3, pc_g4, pc_g5, evBl_f, t1, S, hs, n108, n108', pc_5, pc_7, pc_6, pc_2, e1, RN, q1, d1f, Bool.not_false, Bool.true_or, Bool.false_eq_true, Option.toList, List.nil_append, List.cons_append]
        · by_cases h116 : gC p L a = 116
          · have hs : sgV p L a = 116 := by rw [sg_eq (by decide) (by decide)]; exact h116
            rw [if_pos (Or.inr h116)]
            by_cases d1 : isD (gC p L) (a + 1) = true
            · rw [if_pos d1]
              refine ⟨116, (nuA (gC p L) (a + 1)).2, c, ?_, fun _ => ⟨h116.symm, rfl, fun z => absurd (h116 ▸ z) (by decide)⟩⟩
              simp only [x47_0, x47_1, x47_4, x47_7, x47_8, x47_11, x47_14, x47_15_0, x47_15_1, x47_15b, x47_16, x47_17, x47_18, x47_21, x47_24, x47_25, x47_28, x47_142, x47_143, x47_144, x47_147, x47_148, x47_149, x47_152, x47_153, x47_154, x47_157, x47_160, evI_i, evJl_i, evJf_i, evJd_i, evA_r, evA_n, evA_q, evLk_c, evS1_d, evS2_d, evFl_n, evFl_c, evGl_n, evGl_c, evIn_n, evIn_c, evCat_i, evCat_l, evCat_f, evCat_d, evCat_r, evCat_z, evCat_q, evBd_some, evTl_s, evTl_n, va_rf_s, va_rf_n, and_true, true_and, and_false, false_and, if_true, if_false, not_true_eq_false, not_false_eq_true, reduceCtorEq, ↓reduceIte, Nat.reduceAdd, Nat.reduceEqDiff, Nat.reduceLT, Nat.reduceLeDiff, Nat.reduceSub, Nat.zero_ne_one, Nat.one_ne_zero, a0, b0, b1, b2, b3, b4, a83, a84, l84, r83, a372, r372, a373, l373, a374, l374, memW_83, memW_372, memW_373, memW_s83, memW_s372, memW_s373, pc_g2, pc_g3, pc_g4, pc_g5, evBl_f, t1, S, hs, n116, n116', n116'', pc_5, pc_7, pc_6, pc_2, e1, RN, q1, d1, Bool.not_true, Bool.false_or, Option.toList, List.nil_append, List.cons_append]
            · have d1f := b_ne d1
              rw [if_neg d1]
              refine ⟨116, 0, c, ?_, fun z => by cases z⟩
              simp only [x47_0, x47_1, x47_4, x47_7, x47_8, x47_11, x47_14, x47_15_0, x47_15_1, x47_15b, x47_16, x47_17, x47_18, x47_21, x47_24, x47_25, x47_28, x47_142, x47_143, x47_144, x47_147, x47_148, x47_149, x47_152, x47_153, x47_154, x47_157, x47_160, evI_i, evJl_i, evJf_i, evJd_i, evA_r, evA_n, evA_q, evLk_c, evS1_d, evS2_d, evFl_n, evFl_c, evGl_n, evGl_c, evIn_n, evIn_c, evCat_i, evCat_l, evCat_f, evCat_d, evCat_r, evCat_z, evCat_q, evBd_some, evTl_s, evTl_n, va_rf_s, va_rf_n, and_true, true_and, and_false, false_and, if_true, if_false, not_true_eq_false, not_false_eq_true, reduceCtorEq, ↓reduceIte, Nat.reduceAdd, Nat.reduceEqDiff, Nat.reduceLT, Nat.reduceLeDiff, Nat.reduceSub, Nat.zero_ne_one, Nat.one_ne_zero, a0, b0, b1, b2, b3, b4, a83, a84, l84, r83, a372, r372, a373, l373, a374, l374, memW_83, memW_372, memW_373, memW_s83, memW_s372, memW_s373, pc_g2, pc_g3, pc_g4, pc_g5, evBl_f, t1, S, hs, n116, n116', n116'', pc_5, pc_7, pc_6, pc_2, e1, RN, q1, d1f, Bool.not_false, Bool.true_or, Bool.false_eq_true, Option.toList, List.nil_append, List.cons_append]
          · rw [if_neg (by rintro (z | z) <;> contradiction)]
            have g43 : ¬ sgV p L a = 43 := by rw [sg_eq (by decide) (by decide)]; exact h43
            have g98 : ¬ sgV p L a = 98 := by rw [sg_eq (by decide) (by decide)]; exact h98
            have g108 : ¬ sgV p L a = 108 := by rw [sg_eq (by decide) (by decide)]; exact h108
            have g116 : ¬ sgV p L a = 116 := by rw [sg_eq (by decide) (by decide)]; exact h116
            refine ⟨sgV p L a, f, c, ?_, fun z => by cases z⟩
            simp only [x47_0, x47_1, x47_4, x47_7, x47_8, x47_11, x47_14, x47_15_0, x47_15_1, x47_15b, x47_16, x47_17, x47_18, x47_21, x47_24, x47_25, x47_28, x47_163, x47_164, x47_165_0, x47_165_1, x47_165b, evI_i, evJl_i, evJf_i, evJd_i, evA_r, evA_n, evA_q, evLk_c, evS1_d, evS2_d, evFl_n, evFl_c, evGl_n, evGl_c, evIn_n, evIn_c, evCat_i, evCat_l, evCat_f, evCat_d, evCat_r, evCat_z, evCat_q, evBd_some, evTl_s, evTl_n, va_rf_s, va_rf_n, and_true, true_and, and_false, false_and, if_true, if_false, not_true_eq_false, not_false_eq_true, reduceCtorEq, ↓reduceIte, Nat.reduceAdd, Nat.reduceEqDiff, Nat.reduceLT, Nat.reduceLeDiff, Nat.reduceSub, Nat.zero_ne_one, Nat.one_ne_zero, a0, b0, b1, b2, b3, b4, a83, a84, l84, r83, a372, r372, a373, l373, a374, l374, memW_83, memW_372, memW_373, memW_s83, memW_s372, memW_s373, pc_g2, pc_g3, pc_g4, pc_g5, evBl_f, t1, S, g43, g98, g108, g116, pc_5, pc_7, pc_3t, Bool.not_false, Bool.true_or, Option.toList, List.nil_append, List.cons_append]
  obtain ⟨k', f', c', E, hok⟩ := M
  rw [E]
  refine ⟨fun h1' h2 => ?_, fun h1' h2 h3 => ?_, fun hno => ?_⟩
  · obtain ⟨rfl, rfl, hc'⟩ := hok h1'
    refine ⟨c', hc', ?_⟩
    have nd : isD (gC p L) L = false := by
      rcases hb : isD (gC p L) L with _ | _
      · rfl
      · exact absurd (hg L hb) (Nat.lt_irrefl L)
    rw [T _ _ _ _ _ _ hle.1, h2, h1', nd, if_neg (Nat.lt_irrefl L)]
    rfl
  · obtain ⟨rfl, rfl, hc'⟩ := hok h1'
    refine ⟨c', hc', ?_⟩
    have nd : isD (gC p L) (ordF (gC p L) a).2.1 = false := by unfold isD; rw [h3]; decide
    rw [T _ _ _ _ _ _ hle.1, if_pos h2, h1', nd, if_pos ⟨rfl, h3⟩]
  · rw [T _ _ _ _ _ _ hle.1]
    by_cases hq : (ordF (gC p L) a).2.1 < L
    · rw [if_pos hq]
      by_cases h59 : (!(ordF (gC p L) a).1 || isD (gC p L) (ordF (gC p L) a).2.1) = false ∧ gC p L (ordF (gC p L) a).2.1 = 59
      · exfalso
        have := h59.1
        rw [Bool.or_eq_false_iff, Bool.not_eq_false'] at this
        exact hno ⟨this.1, Or.inr h59.2⟩
      · rw [if_neg h59]
        exact ⟨_, _, _, _, rfl⟩
    · rw [if_neg hq]
      have hqL : (ordF (gC p L) a).2.1 = L := by omega
      have : (ordF (gC p L) a).1 = false := by
        rcases hb : (ordF (gC p L) a).1 with _ | _
        · rfl
        · exact absurd ⟨hb, Or.inl hqL⟩ hno
      rw [this]
      exact ⟨_, _, _, _, rfl⟩
theorem P_stop (hx : xOK h n s) (a : Nat) (st mo : Bool) (hs : st = true ∨ mo = false) (k f c : Int32) : evX 47 0 [(0, .ref 372)] [] h (memW u (pcU p a st mo k f c) V n) = some (some (.int (evBl false)), h, memW u (pcU p a st mo k f c) V n) := by
  obtain ⟨hn2, hN, a0, b0, b1, b2, b3, b4, a83, a84, l84, r83, r84, a372, r372, a373, l373, a374, l374, r374, rss, hH⟩ := id hx
  have t1 : ¬ evBl true = 0 := by decide
  cases st with
  | true => simp only [x47_0, x47_1, x47_4, x47_7, x47_8, x47_11, x47_14, x47_15_0, x47_15_1, x47_15b, evI_i, evJl_i, evJf_i, evJd_i, evA_r, evA_n, evA_q, evLk_c, evS1_d, evS2_d, evFl_n, evFl_c, evGl_n, evGl_c, evIn_n, evIn_c, evCat_i, evCat_l, evCat_f, evCat_d, evCat_r, evCat_z, evCat_q, evBd_some, evTl_s, evTl_n, va_rf_s, va_rf_n, and_true, true_and, and_false, false_and, if_true, if_false, not_true_eq_false, not_false_eq_true, reduceCtorEq, ↓reduceIte, Nat.reduceAdd, Nat.reduceEqDiff, Nat.reduceLT, Nat.reduceLeDiff, Nat.reduceSub, Nat.zero_ne_one, Nat.one_ne_zero, a0, b0, b1, b2, b3, b4, a83, a84, l84, r83, a372, r372, a373, l373, a374, l374, memW_83, memW_372, memW_373, memW_s83, memW_s372, memW_s373, pc_g3, t1, evBl_f]
  | false =>
    have : mo = false := by rcases hs with z | z; cases z; exact z
    subst this
    simp only [x47_0, x47_1, x47_4, x47_7, x47_8, x47_11, x47_14, x47_15_0, x47_15_1, x47_15b, evI_i, evJl_i, evJf_i, evJd_i, evA_r, evA_n, evA_q, evLk_c, evS1_d, evS2_d, evFl_n, evFl_c, evGl_n, evGl_c, evIn_n, evIn_c, evCat_i, evCat_l, evCat_f, evCat_d, evCat_r, evCat_z, evCat_q, evBd_some, evTl_s, evTl_n, va_rf_s, va_rf_n, and_true, true_and, and_false, false_and, if_true, if_false, not_true_eq_false, not_false_eq_true, reduceCtorEq, ↓reduceIte, Nat.reduceAdd, Nat.reduceEqDiff, Nat.reduceLT, Nat.reduceLeDiff, Nat.reduceSub, Nat.zero_ne_one, Nat.one_ne_zero, a0, b0, b1, b2, b3, b4, a83, a84, l84, r83, a372, r372, a373, l373, a374, l374, memW_83, memW_372, memW_373, memW_s83, memW_s372, memW_s373, pc_g3, pc_g4, evBl_f]
theorem P_rewind (hx : xOK h n s) : evX 46 0 [(0, .ref 372)] [] h (memW u p V n) = some (none, h, memW u (pcU p 0 false true (p 1 5) (p 1 6) (p 1 7)) V n) := by
  obtain ⟨hn2, hN, a0, b0, b1, b2, b3, b4, a83, a84, l84, r83, r84, a372, r372, a373, l373, a374, l374, r374, rss, hH⟩ := id hx
  simp only [x46_0, x46_1, x46_2, x46_5, x46_6, x46_7_0, x46_7_1, x46_7b, x46_10, x46_11, x46_12_0, x46_12_1, x46_12b, x46_15, evI_i, evJl_i, evJf_i, evJd_i, evA_r, evA_n, evA_q, evLk_c, evS1_d, evS2_d, evFl_n, evFl_c, evGl_n, evGl_c, evIn_n, evIn_c, evCat_i, evCat_l, evCat_f, evCat_d, evCat_r, evCat_z, evCat_q, evBd_some, evTl_s, evTl_n, va_rf_s, va_rf_n, and_true, true_and, and_false, false_and, if_true, if_false, not_true_eq_false, not_false_eq_true, reduceCtorEq, ↓reduceIte, Nat.reduceAdd, Nat.reduceEqDiff, Nat.reduceLT, Nat.reduceLeDiff, Nat.reduceSub, Nat.zero_ne_one, Nat.one_ne_zero, a0, b0, b1, b2, b3, b4, a83, a84, l84, r83, a372, r372, a373, l373, a374, l374, memW_83, memW_372, memW_373, memW_s83, memW_s372, memW_s373, pc_i]
theorem P_findFault (hx : xOK h n s) {L : Nat} (hL : L ≤ 80) (h1 : p 1 1 = nI L) : ∃ a st mo k f c, evX 45 0 [(0, .ref 372)] [] h (memW u p V n) = some (some (.int (fauF (gC p L) L 81 0)), h, memW u (pcU p a st mo k f c) V n) := by
  obtain ⟨hn2, hN, a0, b0, b1, b2, b3, b4, a83, a84, l84, r83, r84, a372, r372, a373, l373, a374, l374, r374, rss, hH⟩ := id hx
  have t1 : ¬ evBl true = 0 := by decide
  have hg := fun i => @gC_D p L i
  have hc1 := fun i => @gC_n1 p L i
  have lp : ∀ (f a d : Nat) (k f' c : Int32), a ≤ L → L + 1 ≤ a + f → 3 * d ≤ a → ∃ a' st mo k' f'' c', evX 45 6 [(0, .ref 372), (1, .int (nI d))] [] h (memW u (pcU p a false true k f' c) V n) = some (some (.int (fauF (gC p L) L f a)), h, memW u (pcU p a' st mo k' f'' c') V n) := by
    intro f
    induction f with
    | zero => intro a d k f' c h1 h2; omega
    | succ f ih =>
      intro a d k f' c ha hf hd
      have hle := ordF_le hg hc1 ha
      obtain ⟨R1, R2, R3⟩ := P_readOrder (u := u) (V := V) hx hL ha h1 k f' c
      have e0 : ¬ (80 : Int32) ≤ nI d := nI_ge (b := 80) (by omega) (by omega)
      have e1 : nI d + 1 = nI (d + 1) := (nI_succ d).symm
      have e2 : ¬ (80 : Int32) ≤ nI (d + 1) := nI_ge (b := 80) (by omega) (by omega)
      unfold fauF
      by_cases ho : (ordF (gC p L) a).1 = true
      · rw [if_pos ho]
        by_cases hq : (ordF (gC p L) a).2.1 = L
        · rw [if_pos hq]
          obtain ⟨c1, -, R⟩ := R1 ho hq
          have PS := fun k f c => P_stop (u := u) (p := p) (V := V) hx L false false (Or.inr rfl) k f c
          refine ⟨L, false, false, gC p L a, (ordF (gC p L) a).2.2.1, c1, ?_⟩
          conv => lhs; rw [x45_6]
          simp only [x45_7, x45_9, x45_12, x45_13, x45_16, x45_19, x45_22, evI_i, evJl_i, evJf_i, evJd_i, evA_r, evA_n, evA_q, evLk_c, evS1_d, evS2_d, evFl_n, evFl_c, evGl_n, evGl_c, evIn_n, evIn_c, evCat_i, evCat_l, evCat_f, evCat_d, evCat_r, evCat_z, evCat_q, evBd_some, evTl_s, evTl_n, va_rf_s, va_rf_n, and_true, true_and, and_false, false_and, if_true, if_false, not_true_eq_false, not_false_eq_true, reduceCtorEq, ↓reduceIte, Nat.reduceAdd, Nat.reduceEqDiff, Nat.reduceLT, Nat.reduceLeDiff, Nat.reduceSub, Nat.zero_ne_one, Nat.one_ne_zero, a0, b0, b1, b2, b3, b4, a83, a84, l84, r83, a372, r372, a373, l373, a374, l374, memW_83, memW_372, memW_373, memW_s83, memW_s372, memW_s373, R, t1, e0, e1, Option.toList, List.nil_append, List.cons_append]
          simp only [x45_6, x45_7, x45_9, x45_12, x45_13, x45_16, x45_25, x45_26, x45_29, x45_32, x45_33, x45_36, x45_39, x45_41, evI_i, evJl_i, evJf_i, evJd_i, evA_r, evA_n, evA_q, evLk_c, evS1_d, evS2_d, evFl_n, evFl_c, evGl_n, evGl_c, evIn_n, evIn_c, evCat_i, evCat_l, evCat_f, evCat_d, evCat_r, evCat_z, evCat_q, evBd_some, evTl_s, evTl_n, va_rf_s, va_rf_n, and_true, true_and, and_false, false_and, if_true, if_false, not_true_eq_false, not_false_eq_true, reduceCtorEq, ↓reduceIte, Nat.reduceAdd, Nat.reduceEqDiff, Nat.reduceLT, Nat.reduceLeDiff, Nat.reduceSub, Nat.zero_ne_one, Nat.one_ne_zero, a0, b0, b1, b2, b3, b4, a83, a84, l84, r83, a372, r372, a373, l373, a374, l374, memW_83, memW_372, memW_373, memW_s83, memW_s372, memW_s373, PS, e2, pc_g3, evBl_f, Option.toList, List.nil_append, List.cons_append]
        · rw [if_neg hq]
          by_cases h59 : gC p L (ordF (gC p L) a).2.1 = 59
          · rw [if_pos h59]
            have hok := ordF_ok hg ho
            obtain ⟨c1, -, R⟩ := R2 ho (by omega) h59
            obtain ⟨a', st, mo, k', f'', c', IH⟩ := ih ((ordF (gC p L) a).2.1 + 1) (d + 1) (gC p L a) (ordF (gC p L) a).2.2.1 c1 (by omega) (by omega) (by omega)
            refine ⟨a', st, mo, k', f'', c', ?_⟩
            rw [← IH]
            conv => lhs; rw [x45_6]
            simp only [x45_7, x45_9, x45_12, x45_13, x45_16, x45_19, x45_22, evI_i, evJl_i, evJf_i, evJd_i, evA_r, evA_n, evA_q, evLk_c, evS1_d, evS2_d, evFl_n, evFl_c, evGl_n, evGl_c, evIn_n, evIn_c, evCat_i, evCat_l, evCat_f, evCat_d, evCat_r, evCat_z, evCat_q, evBd_some, evTl_s, evTl_n, va_rf_s, va_rf_n, and_true, true_and, and_false, false_and, if_true, if_false, not_true_eq_false, not_false_eq_true, reduceCtorEq, ↓reduceIte, Nat.reduceAdd, Nat.reduceEqDiff, Nat.reduceLT, Nat.reduceLeDiff, Nat.reduceSub, Nat.zero_ne_one, Nat.one_ne_zero, a0, b0, b1, b2, b3, b4, a83, a84, l84, r83, a372, r372, a373, l373, a374, l374, memW_83, memW_372, memW_373, memW_s83, memW_s372, memW_s373, R, t1, e0, e1, Option.toList, List.nil_append, List.cons_append]
          · rw [if_neg h59]
            obtain ⟨mo, k', f'', c', R⟩ := R3 (fun z => z.2.elim hq h59)
            refine ⟨(ordF (gC p L) a).2.1, true, mo, k', f'', c', ?_⟩
            simp only [x45_6, x45_7, x45_9, x45_12, x45_13, x45_16, x45_25, x45_26, x45_29, x45_32, x45_33, x45_36, x45_39, x45_41, evI_i, evJl_i, evJf_i, evJd_i, evA_r, evA_n, evA_q, evLk_c, evS1_d, evS2_d, evFl_n, evFl_c, evGl_n, evGl_c, evIn_n, evIn_c, evCat_i, evCat_l, evCat_f, evCat_d, evCat_r, evCat_z, evCat_q, evBd_some, evTl_s, evTl_n, va_rf_s, va_rf_n, and_true, true_and, and_false, false_and, if_true, if_false, not_true_eq_false, not_false_eq_true, reduceCtorEq, ↓reduceIte, Nat.reduceAdd, Nat.reduceEqDiff, Nat.reduceLT, Nat.reduceLeDiff, Nat.reduceSub, Nat.zero_ne_one, Nat.one_ne_zero, a0, b0, b1, b2, b3, b4, a83, a84, l84, r83, a372, r372, a373, l373, a374, l374, memW_83, memW_372, memW_373, memW_s83, memW_s372, memW_s373, R, e0, pc_g3, pc_g2, t1, evBl_f, Option.toList, List.nil_append, List.cons_append]
      · rw [if_neg ho]
        obtain ⟨mo, k', f'', c', R⟩ := R3 (fun z => ho z.1)
        refine ⟨(ordF (gC p L) a).2.1, true, mo, k', f'', c', ?_⟩
        simp only [x45_6, x45_7, x45_9, x45_12, x45_13, x45_16, x45_25, x45_26, x45_29, x45_32, x45_33, x45_36, x45_39, x45_41, evI_i, evJl_i, evJf_i, evJd_i, evA_r, evA_n, evA_q, evLk_c, evS1_d, evS2_d, evFl_n, evFl_c, evGl_n, evGl_c, evIn_n, evIn_c, evCat_i, evCat_l, evCat_f, evCat_d, evCat_r, evCat_z, evCat_q, evBd_some, evTl_s, evTl_n, va_rf_s, va_rf_n, and_true, true_and, and_false, false_and, if_true, if_false, not_true_eq_false, not_false_eq_true, reduceCtorEq, ↓reduceIte, Nat.reduceAdd, Nat.reduceEqDiff, Nat.reduceLT, Nat.reduceLeDiff, Nat.reduceSub, Nat.zero_ne_one, Nat.one_ne_zero, a0, b0, b1, b2, b3, b4, a83, a84, l84, r83, a372, r372, a373, l373, a374, l374, memW_83, memW_372, memW_373, memW_s83, memW_s372, memW_s373, R, e0, pc_g3, pc_g2, t1, evBl_f, Option.toList, List.nil_append, List.cons_append]
  obtain ⟨a', st, mo, k', f', c', LP⟩ := lp 81 0 0 (p 1 5) (p 1 6) (p 1 7) (by omega) (by omega) (by omega)
  refine ⟨a', st, mo, k', f', c', ?_⟩
  rw [← LP]
  have RW := P_rewind (u := u) (p := p) (V := V) hx
  simp only [x45_0, x45_1, x45_4, x45_5, evI_i, evJl_i, evJf_i, evJd_i, evA_r, evA_n, evA_q, evLk_c, evS1_d, evS2_d, evFl_n, evFl_c, evGl_n, evGl_c, evIn_n, evIn_c, evCat_i, evCat_l, evCat_f, evCat_d, evCat_r, evCat_z, evCat_q, evBd_some, evTl_s, evTl_n, va_rf_s, va_rf_n, and_true, true_and, and_false, false_and, if_true, if_false, not_true_eq_false, not_false_eq_true, reduceCtorEq, ↓reduceIte, Nat.reduceAdd, Nat.reduceEqDiff, Nat.reduceLT, Nat.reduceLeDiff, Nat.reduceSub, Nat.zero_ne_one, Nat.one_ne_zero, a0, b0, b1, b2, b3, b4, a83, a84, l84, r83, a372, r372, a373, l373, a374, l374, memW_83, memW_372, memW_373, memW_s83, memW_s372, memW_s373, RW, Option.toList, List.nil_append, List.cons_append]
  rfl
theorem W_fault (hx : xOK h n s) {L : Nat} (hL : L ≤ 80) (h1 : p 1 1 = nI L) : ∃ a st mo k f c, evX 77 0 [(0, .ref 0)] [] h (memW u p V n) = some (some (.int (fauF (gC p L) L 81 0)), h, memW u (pcU p a st mo k f c) V n) := by
  obtain ⟨hn2, hN, a0, b0, b1, b2, b3, b4, a83, a84, l84, r83, r84, a372, r372, a373, l373, a374, l374, r374, rss, hH⟩ := id hx
  obtain ⟨a, st, mo, k, f, c, F⟩ := P_findFault (u := u) (V := V) hx hL h1
  refine ⟨a, st, mo, k, f, c, ?_⟩
  simp only [x77_0, x77_1, x77_4, x77_7, evI_i, evJl_i, evJf_i, evJd_i, evA_r, evA_n, evA_q, evLk_c, evS1_d, evS2_d, evFl_n, evFl_c, evGl_n, evGl_c, evIn_n, evIn_c, evCat_i, evCat_l, evCat_f, evCat_d, evCat_r, evCat_z, evCat_q, evBd_some, evTl_s, evTl_n, va_rf_s, va_rf_n, and_true, true_and, and_false, false_and, if_true, if_false, not_true_eq_false, not_false_eq_true, reduceCtorEq, ↓reduceIte, Nat.reduceAdd, Nat.reduceEqDiff, Nat.reduceLT, Nat.reduceLeDiff, Nat.reduceSub, Nat.zero_ne_one, Nat.one_ne_zero, a0, b0, b1, b2, b3, b4, a83, a84, l84, r83, a372, r372, a373, l373, a374, l374, memW_83, memW_372, memW_373, memW_s83, memW_s372, memW_s373, F, Option.toList, List.nil_append, List.cons_append]
theorem P_empty (hx : xOK h n s) : evX 44 0 [(0, .ref 372)] [] h (memW u p V n) = some (some (.int (p 1 1)), h, memW u (ms p 1 1 0) V n) := by
  obtain ⟨hn2, hN, a0, b0, b1, b2, b3, b4, a83, a84, l84, r83, r84, a372, r372, a373, l373, a374, l374, r374, rss, hH⟩ := id hx
  simp only [x44_0, x44_1, x44_4, x44_5, x44_6, x44_7, x44_10, x44_11, evI_i, evJl_i, evJf_i, evJd_i, evA_r, evA_n, evA_q, evLk_c, evS1_d, evS2_d, evFl_n, evFl_c, evGl_n, evGl_c, evIn_n, evIn_c, evCat_i, evCat_l, evCat_f, evCat_d, evCat_r, evCat_z, evCat_q, evBd_some, evTl_s, evTl_n, va_rf_s, va_rf_n, and_true, true_and, and_false, false_and, if_true, if_false, not_true_eq_false, not_false_eq_true, reduceCtorEq, ↓reduceIte, Nat.reduceAdd, Nat.reduceEqDiff, Nat.reduceLT, Nat.reduceLeDiff, Nat.reduceSub, Nat.zero_ne_one, Nat.one_ne_zero, a0, b0, b1, b2, b3, b4, a83, a84, l84, r83, a372, r372, a373, l373, a374, l374, memW_83, memW_372, memW_373, memW_s83, memW_s372, memW_s373]
theorem W_wipe (hx : xOK h n s) : evX 76 0 [(0, .ref 0)] [] h (memW u p V n) = some (some (.int (p 1 1)), h, memW u (ms p 1 1 0) V n) := by
  obtain ⟨hn2, hN, a0, b0, b1, b2, b3, b4, a83, a84, l84, r83, r84, a372, r372, a373, l373, a374, l374, r374, rss, hH⟩ := id hx
  have E := P_empty (u := u) (p := p) (V := V) hx
  simp only [x76_0, x76_1, x76_4, x76_7, evI_i, evJl_i, evJf_i, evJd_i, evA_r, evA_n, evA_q, evLk_c, evS1_d, evS2_d, evFl_n, evFl_c, evGl_n, evGl_c, evIn_n, evIn_c, evCat_i, evCat_l, evCat_f, evCat_d, evCat_r, evCat_z, evCat_q, evBd_some, evTl_s, evTl_n, va_rf_s, va_rf_n, and_true, true_and, and_false, false_and, if_true, if_false, not_true_eq_false, not_false_eq_true, reduceCtorEq, ↓reduceIte, Nat.reduceAdd, Nat.reduceEqDiff, Nat.reduceLT, Nat.reduceLeDiff, Nat.reduceSub, Nat.zero_ne_one, Nat.one_ne_zero, a0, b0, b1, b2, b3, b4, a83, a84, l84, r83, a372, r372, a373, l373, a374, l374, memW_83, memW_372, memW_373, memW_s83, memW_s372, memW_s373, E, Option.toList, List.nil_append, List.cons_append]
end PO
