/-! the model: orders and the text's fault -/
def fauF (g : Nat → Int32) (L : Nat) : Nat → Nat → Int32
  | 0, _ => -6
  | k + 1, p => if (ordF g p).1 = true then (if (ordF g p).2.1 = L then -6 else if g (ordF g p).2.1 = 59 then fauF g L k ((ordF g p).2.1 + 1) else nI (ordF g p).2.1) else nI (ordF g p).2.1
theorem chV_n1 {u : Nat → Nat → Int32} {L p : Nat} (h : chV u L p ≠ -1) : p < L := by
  unfold chV at h
  by_cases hp : p < L
  · exact hp
  · rw [if_neg hp] at h
    exact absurd rfl h
theorem ordF_le {g : Nat → Int32} {L : Nat} (hg : ∀ p, isD g p = true → p < L) (hc : ∀ p, g p ≠ -1 → p < L) {p : Nat} (hp : p ≤ L) : (ordF g p).2.1 ≤ L ∧ p ≤ (ordF g p).2.1 := by
  unfold ordF
  have k43 : (43 : Int32) ≠ -1 := by decide
  have k98 : (98 : Int32) ≠ -1 := by decide
  have k108 : (108 : Int32) ≠ -1 := by decide
  have k116 : (116 : Int32) ≠ -1 := by decide
  have k42 : (42 : Int32) ≠ -1 := by decide
  have k61 : (61 : Int32) ≠ -1 := by decide
  split
  · rename_i h1
    have a1 := hc p (by rw [h1]; exact k43)
    split
    · rename_i h2
      have a2 := nuA_le hg h2
      split
      · rename_i h3
        have a3 := hc _ (by rw [h3]; exact k42)
        split
        · rename_i h4
          have a4 := nuA_le hg h4
          show (nuA g ((nuA g (p + 1)).1 + 1)).1 ≤ L ∧ p ≤ (nuA g ((nuA g (p + 1)).1 + 1)).1
          omega
        · show (nuA g (p + 1)).1 + 1 ≤ L ∧ p ≤ (nuA g (p + 1)).1 + 1
          omega
      · show (nuA g (p + 1)).1 ≤ L ∧ p ≤ (nuA g (p + 1)).1
        omega
    · show p + 1 ≤ L ∧ p ≤ p + 1
      omega
  · split
    · rename_i h1
      have a1 := hc p (by rw [h1]; exact k98)
      split
      · rename_i h2
        have a2 := hg _ h2
        split
        · rename_i h3
          have a3 := hc _ (by rw [h3]; exact k61)
          split
          · rename_i h4
            have a4 := nuA_le hg h4
            show (nuA g (p + 3)).1 ≤ L ∧ p ≤ (nuA g (p + 3)).1
            omega
          · show p + 3 ≤ L ∧ p ≤ p + 3
            omega
        · show p + 2 ≤ L ∧ p ≤ p + 2
          omega
      · show p + 1 ≤ L ∧ p ≤ p + 1
        omega
    · split
      · rename_i h1
        have a1 := hc p (by rcases h1 with h1 | h1 <;> rw [h1] <;> assumption)
        split
        · rename_i h2
          have a2 := nuA_le hg h2
          show (nuA g (p + 1)).1 ≤ L ∧ p ≤ (nuA g (p + 1)).1
          omega
        · show p + 1 ≤ L ∧ p ≤ p + 1
          omega
      · exact ⟨hp, Nat.le_refl _⟩
theorem ordF_ok {g : Nat → Int32} {L : Nat} (hg : ∀ p, isD g p = true → p < L) {p : Nat} (ho : (ordF g p).1 = true) : p + 2 ≤ (ordF g p).2.1 ∧ (g p = 43 ∨ g p = 98 ∨ g p = 108 ∨ g p = 116) := by
  unfold ordF at ho ⊢
  split at ho
  · rename_i h1
    rw [if_pos h1]
    split at ho
    · rename_i h2
      rw [if_pos h2]
      have a2 := nuA_le hg h2
      split at ho
      · rename_i h3
        rw [if_pos h3]
        split at ho
        · rename_i h4
          rw [if_pos h4]
          have a4 := nuA_le hg h4
          exact ⟨by show p + 2 ≤ (nuA g ((nuA g (p + 1)).1 + 1)).1; omega, Or.inl h1⟩
        · cases ho
      · cases ho
    · cases ho
  · rename_i h0
    rw [if_neg h0]
    split at ho
    · rename_i h1
      rw [if_pos h1]
      split at ho
      · rename_i h2
        rw [if_pos h2]
        split at ho
        · rename_i h3
          rw [if_pos h3]
          split at ho
          · rename_i h4
            rw [if_pos h4]
            have a4 := nuA_le hg h4
            exact ⟨by show p + 2 ≤ (nuA g (p + 3)).1; omega, Or.inr (Or.inl h1)⟩
          · cases ho
        · cases ho
      · cases ho
    · rename_i h00
      rw [if_neg h00]
      split at ho
      · rename_i h1
        rw [if_pos h1]
        split at ho
        · rename_i h2
          rw [if_pos h2]
          have a2 := nuA_le hg h2
          exact ⟨by show p + 2 ≤ (nuA g (p + 1)).1; omega, Or.inr (Or.inr h1)⟩
        · cases ho
      · cases ho
theorem pdU_self {u : Nat → Nat → Int32} {p : Nat} (h12 : u 0 12 = nI p) : u = pdU u p (u 0 13) (u 0 15) (u 8 0) (u 8 1) := by
  funext o j
  unfold pdU
  grind
section MO
variable {h : evH} {m : evM} {c : Nat} {u : Nat → Nat → Int32}
theorem c_readsOrder (hu : mOK h c) {L p : Nat} (hL : L ≤ 80) (hp : p ≤ L) (h7 : u 0 7 = nI L) (l k a b : Int32) : ∃ k' a' b', (∀ m : evM, evX 148 0 [(0, .ref c)] [] h (evGM m c 9 (pdU u p l k a b)) = some (some (.int (evBl (ordF (chV u L) p).1)), h, evGM m c 9 (pdU u (ordF (chV u L) p).2.1 (chV u L p) k' a' b'))) ∧ ((ordF (chV u L) p).1 = true → a' = (ordF (chV u L) p).2.2.1 ∧ ((chV u L p = 43 ∨ chV u L p = 98) → b' = (ordF (chV u L) p).2.2.2)) := by
  obtain ⟨w0, w1, w2, w3, w4, w5, w6, w7, w8, w9, w10, w11, w12, w13, w14, w15, w16, w17, w18, w19, w20, w21, w22, w23, w24⟩ := id hu
  have e1 : nI p + 1 = nI (p + 1) := (nI_succ p).symm
  have t1 : ¬ evBl true = 0 := by decide
  have n1 : ¬ (1 : Int32) = 0 := by decide
  have CH := fun m : evM => c_chr (m := m) (u := u) hu hL (p := p) (by omega) h7 p
  have TN0 : ∀ (m : evM) q l a b, q < 900 → evX 147 0 [(0, .ref c)] [] h (evGM m c 9 (pdU u q l 0 a b)) = some (some (.int (evBl (isD (chV u L) q))), h, evGM m c 9 (if isD (chV u L) q = true then pdU u (nuA (chV u L) q).1 l 1 (nuA (chV u L) q).2 b else pdU u q l 0 a b)) := fun m q l a b hq => c_takesNumber (m := m) (u := u) hu hL hq h7 l a b (k := 0) (by omega)
  have TN1 : ∀ (m : evM) q l a b, q < 900 → evX 147 0 [(0, .ref c)] [] h (evGM m c 9 (pdU u q l 1 a b)) = some (some (.int (evBl (isD (chV u L) q))), h, evGM m c 9 (if isD (chV u L) q = true then pdU u (nuA (chV u L) q).1 l 2 a (nuA (chV u L) q).2 else pdU u q l 1 a b)) := fun m q l a b hq => c_takesNumber (m := m) (u := u) hu hL hq h7 l a b (k := 1) (by omega)
  have TD0 : ∀ (m : evM) q l a b, q < 900 → evX 146 0 [(0, .ref c)] [] h (evGM m c 9 (pdU u q l 0 a b)) = some (some (.int (evBl (isD (chV u L) q))), h, evGM m c 9 (if isD (chV u L) q = true then pdU u (q + 1) l 1 (chV u L q - 48) b else pdU u q l 0 a b)) := fun m q l a b hq => c_takesDigit (m := m) (u := u) hu hL hq h7 l a b (k := 0) (by omega)
  have IN : ∀ (m : evM) q l k a b x, q < 900 → evX 143 0 [(0, .ref c), (1, .int x)] [] h (evGM m c 9 (pdU u q l k a b)) = some (some (.int (evBl (decide (chV u L q = x)))), h, evGM m c 9 (if chV u L q = x then pdU u (q + 1) l k a b else pdU u q l k a b)) := fun m q l k a b x hq => c_isN (m := m) (u := u) hu hL (by omega) h7 l k a b x
  have hg := fun p => @chV_D u L p
  have q1 : p + 1 < 900 := by omega
  have q3 : p + 3 < 900 := by omega
  have q2 : p + 2 < 900 := by omega
  have n98 : ¬ (98 : Int32) = 43 := by decide
  have n108 : ¬ (108 : Int32) = 43 := by decide
  have n108' : ¬ (108 : Int32) = 98 := by decide
  have n116 : ¬ (116 : Int32) = 43 := by decide
  have n116' : ¬ (116 : Int32) = 98 := by decide
  have n116'' : ¬ (116 : Int32) = 108 := by decide
  have s12 : p + 1 + 1 = p + 2 := rfl
  have s23 : p + 2 + 1 = p + 3 := rfl
  unfold ordF
  by_cases h43 : chV u L p = 43
  · rw [if_pos h43]
    by_cases d1 : isD (chV u L) (p + 1) = true
    · rw [if_pos d1]
      have a1 := nuA_le hg d1
      have r1 : (nuA (chV u L) (p + 1)).1 < 900 := by omega
      have r1' : (nuA (chV u L) (p + 1)).1 + 1 < 900 := by omega
      by_cases h42 : chV u L (nuA (chV u L) (p + 1)).1 = 42
      · rw [if_pos h42]
        by_cases d2 : isD (chV u L) ((nuA (chV u L) (p + 1)).1 + 1) = true
        · rw [if_pos d2]
          refine ⟨2, (nuA (chV u L) (p + 1)).2, (nuA (chV u L) ((nuA (chV u L) (p + 1)).1 + 1)).2, fun m => ?_, fun _ => ⟨rfl, fun _ => rfl⟩⟩
          simp only [x148_0, x148_1, x148_2, x148_5, x148_6, x148_7, x148_8, x148_11, x148_14, x148_17, x148_18, x148_19, x148_22, x148_23, x148_24, x148_27, x148_28, x148_31, x148_72, x148_73, x148_76, x148_79, x148_80, x148_82, x148_85, x148_88, x148_89, x148_92, x148_95, x148_96, x148_99, x148_100_0, x148_100_1, x148_100b, x148_101, x148_102, x148_105_0, x148_105_1, x148_105b, x148_106, x148_107, x148_110, x148_113, x148_114, x148_116, x148_119, x148_122, x148_123, x148_126, x148_129, x148_130, x148_133, x148_134_0, x148_134_1, x148_134b, x148_135, x148_136, x148_137, x148_140, x148_141, x148_142, x148_145, x148_146_0, x148_146_1, x148_146b, evI_i, evJl_i, evJf_i, evJd_i, evA_r, evA_n, evA_q, evLk_c, evS1_d, evS2_d, evFl_n, evFl_c, evGl_n, evGl_c, evIn_n, evIn_c, evCat_i, evCat_l, evCat_f, evCat_d, evCat_r, evCat_z, evCat_q, evBd_some, evTl_s, evTl_n, va_rf_s, va_rf_n, and_true, true_and, and_false, false_and, if_true, if_false, not_true_eq_false, not_false_eq_true, reduceCtorEq, ↓reduceIte, Nat.reduceAdd, Nat.reduceEqDiff, Nat.reduceLT, Nat.reduceLeDiff, Nat.reduceSub, Nat.zero_ne_one, Nat.one_ne_zero, w0, w1, w2, w3, w4, w5, w6, w7, w8, w9, w10, w11, w12, w13, w14, w15, w16, w17, w18, w19, w20, w21, w22, w23, w24, evGM_get, evGM_set, evGM_get0, evGM_set0, pdU_g12, pdU_g13, pdU_12, pdU_13, pdU_15, CH, e1, h43, TN0, TN1, IN, q1, d1, t1, h42, r1, r1', d2, decide_true, evBl_t, n1, Option.toList, List.cons_append, List.nil_append]
        · have d2f := b_ne d2
          rw [if_neg d2]
          refine ⟨1, (nuA (chV u L) (p + 1)).2, b, fun m => ?_, fun z => by cases z⟩
          simp only [x148_0, x148_1, x148_2, x148_5, x148_6, x148_7, x148_8, x148_11, x148_14, x148_17, x148_18, x148_19, x148_22, x148_23, x148_24, x148_27, x148_28, x148_31, x148_72, x148_73, x148_76, x148_79, x148_80, x148_82, x148_85, x148_88, x148_89, x148_92, x148_95, x148_96, x148_99, x148_100_0, x148_100_1, x148_100b, x148_101, x148_102, x148_105_0, x148_105_1, x148_105b, x148_106, x148_107, x148_110, x148_113, x148_114, x148_116, x148_119, x148_122, x148_123, x148_126, x148_129, x148_130, x148_133, x148_134_0, x148_134_1, x148_134b, x148_135, x148_136, x148_137, x148_140, x148_141, x148_142, x148_145, x148_146_0, x148_146_1, x148_146b, evI_i, evJl_i, evJf_i, evJd_i, evA_r, evA_n, evA_q, evLk_c, evS1_d, evS2_d, evFl_n, evFl_c, evGl_n, evGl_c, evIn_n, evIn_c, evCat_i, evCat_l, evCat_f, evCat_d, evCat_r, evCat_z, evCat_q, evBd_some, evTl_s, evTl_n, va_rf_s, va_rf_n, and_true, true_and, and_false, false_and, if_true, if_false, not_true_eq_false, not_false_eq_true, reduceCtorEq, ↓reduceIte, Nat.reduceAdd, Nat.reduceEqDiff, Nat.reduceLT, Nat.reduceLeDiff, Nat.reduceSub, Nat.zero_ne_one, Nat.one_ne_zero, w0, w1, w2, w3, w4, w5, w6, w7, w8, w9, w10, w11, w12, w13, w14, w15, w16, w17, w18, w19, w20, w21, w22, w23, w24, evGM_get, evGM_set, evGM_get0, evGM_set0, pdU_g12, pdU_g13, pdU_12, pdU_13, pdU_15, CH, e1, h43, TN0, TN1, IN, q1, d1, t1, h42, r1, r1', d2f, decide_true, evBl_f, n1, Bool.false_eq_true, Option.toList, List.cons_append, List.nil_append]
      · rw [if_neg h42]
        refine ⟨1, (nuA (chV u L) (p + 1)).2, b, fun m => ?_, fun z => by cases z⟩
        simp only [x148_0, x148_1, x148_2, x148_5, x148_6, x148_7, x148_8, x148_11, x148_14, x148_17, x148_18, x148_19, x148_22, x148_23, x148_24, x148_27, x148_28, x148_31, x148_72, x148_73, x148_76, x148_79, x148_80, x148_82, x148_85, x148_88, x148_89, x148_92, x148_95, x148_96, x148_99, x148_100_0, x148_100_1, x148_100b, x148_101, x148_102, x148_105_0, x148_105_1, x148_105b, x148_106, x148_107, x148_110, x148_113, x148_114, x148_116, x148_119, x148_122, x148_123, x148_126, x148_129, x148_130, x148_133, x148_134_0, x148_134_1, x148_134b, x148_135, x148_136, x148_137, x148_140, x148_141, x148_142, x148_145, x148_146_0, x148_146_1, x148_146b, evI_i, evJl_i, evJf_i, evJd_i, evA_r, evA_n, evA_q, evLk_c, evS1_d, evS2_d, evFl_n, evFl_c, evGl_n, evGl_c, evIn_n, evIn_c, evCat_i, evCat_l, evCat_f, evCat_d, evCat_r, evCat_z, evCat_q, evBd_some, evTl_s, evTl_n, va_rf_s, va_rf_n, and_true, true_and, and_false, false_and, if_true, if_false, not_true_eq_false, not_false_eq_true, reduceCtorEq, ↓reduceIte, Nat.reduceAdd, Nat.reduceEqDiff, Nat.reduceLT, Nat.reduceLeDiff, Nat.reduceSub, Nat.zero_ne_one, Nat.one_ne_zero, w0, w1, w2, w3, w4, w5, w6, w7, w8, w9, w10, w11, w12, w13, w14, w15, w16, w17, w18, w19, w20, w21, w22, w23, w24, evGM_get, evGM_set, evGM_get0, evGM_set0, pdU_g12, pdU_g13, pdU_12, pdU_13, pdU_15, CH, e1, h43, TN0, TN1, IN, q1, d1, t1, h42, r1, r1', decide_false, evBl_f, n1, Option.toList, List.cons_append, List.nil_append]
    · have d1f := b_ne d1
      rw [if_neg d1]
      refine ⟨0, a, b, fun m => ?_, fun z => by cases z⟩
      simp only [x148_0, x148_1, x148_2, x148_5, x148_6, x148_7, x148_8, x148_11, x148_14, x148_17, x148_18, x148_19, x148_22, x148_23, x148_24, x148_27, x148_28, x148_31, x148_72, x148_73, x148_76, x148_79, x148_80, x148_82, x148_85, x148_88, x148_89, x148_92, x148_95, x148_96, x148_99, x148_100_0, x148_100_1, x148_100b, x148_101, x148_102, x148_105_0, x148_105_1, x148_105b, x148_106, x148_107, x148_110, x148_113, x148_114, x148_116, x148_119, x148_122, x148_123, x148_126, x148_129, x148_130, x148_133, x148_134_0, x148_134_1, x148_134b, x148_135, x148_136, x148_137, x148_140, x148_141, x148_142, x148_145, x148_146_0, x148_146_1, x148_146b, evI_i, evJl_i, evJf_i, evJd_i, evA_r, evA_n, evA_q, evLk_c, evS1_d, evS2_d, evFl_n, evFl_c, evGl_n, evGl_c, evIn_n, evIn_c, evCat_i, evCat_l, evCat_f, evCat_d, evCat_r, evCat_z, evCat_q, evBd_some, evTl_s, evTl_n, va_rf_s, va_rf_n, and_true, true_and, and_false, false_and, if_true, if_false, not_true_eq_false, not_false_eq_true, reduceCtorEq, ↓reduceIte, Nat.reduceAdd, Nat.reduceEqDiff, Nat.reduceLT, Nat.reduceLeDiff, Nat.reduceSub, Nat.zero_ne_one, Nat.one_ne_zero, w0, w1, w2, w3, w4, w5, w6, w7, w8, w9, w10, w11, w12, w13, w14, w15, w16, w17, w18, w19, w20, w21, w22, w23, w24, evGM_get, evGM_set, evGM_get0, evGM_set0, pdU_g12, pdU_g13, pdU_12, pdU_13, pdU_15, CH, e1, h43, TN0, q1, d1f, evBl_f, Bool.false_eq_true, Option.toList, List.cons_append, List.nil_append]
  · rw [if_neg h43]
    by_cases h98 : chV u L p = 98
    · rw [if_pos h98]
      by_cases d1 : isD (chV u L) (p + 1) = true
      · rw [if_pos d1]
        by_cases h42 : chV u L (p + 2) = 61
        · rw [if_pos h42]
          by_cases d2 : isD (chV u L) (p + 3) = true
          · rw [if_pos d2]
            refine ⟨2, chV u L (p + 1) - 48, (nuA (chV u L) (p + 3)).2, fun m => ?_, fun _ => ⟨rfl, fun _ => rfl⟩⟩
            simp only [x148_0, x148_1, x148_2, x148_5, x148_6, x148_7, x148_8, x148_11, x148_14, x148_17, x148_18, x148_19, x148_22, x148_23, x148_24, x148_27, x148_28, x148_31, x148_72, x148_73, x148_76, x148_79, x148_80, x148_82, x148_85, x148_88, x148_89, x148_92, x148_95, x148_96, x148_99, x148_100_0, x148_100_1, x148_100b, x148_101, x148_102, x148_105_0, x148_105_1, x148_105b, x148_106, x148_107, x148_110, x148_113, x148_114, x148_116, x148_119, x148_122, x148_123, x148_126, x148_129, x148_130, x148_133, x148_134_0, x148_134_1, x148_134b, x148_135, x148_136, x148_137, x148_140, x148_141, x148_142, x148_145, x148_146_0, x148_146_1, x148_146b, evI_i, evJl_i, evJf_i, evJd_i, evA_r, evA_n, evA_q, evLk_c, evS1_d, evS2_d, evFl_n, evFl_c, evGl_n, evGl_c, evIn_n, evIn_c, evCat_i, evCat_l, evCat_f, evCat_d, evCat_r, evCat_z, evCat_q, evBd_some, evTl_s, evTl_n, va_rf_s, va_rf_n, and_true, true_and, and_false, false_and, if_true, if_false, not_true_eq_false, not_false_eq_true, reduceCtorEq, ↓reduceIte, Nat.reduceAdd, Nat.reduceEqDiff, Nat.reduceLT, Nat.reduceLeDiff, Nat.reduceSub, Nat.zero_ne_one, Nat.one_ne_zero, w0, w1, w2, w3, w4, w5, w6, w7, w8, w9, w10, w11, w12, w13, w14, w15, w16, w17, w18, w19, w20, w21, w22, w23, w24, evGM_get, evGM_set, evGM_get0, evGM_set0, pdU_g12, pdU_g13, pdU_12, pdU_13, pdU_15, CH, e1, h98, n98, TD0, TN1, IN, q1, q2, q3, s12, s23, d1, t1, h42, d2, decide_true, evBl_t, n1, Option.toList, List.cons_append, List.nil_append]
          · have d2f := b_ne d2
            rw [if_neg d2]
            refine ⟨1, chV u L (p + 1) - 48, b, fun m => ?_, fun z => by cases z⟩
            simp only [x148_0, x148_1, x148_2, x148_5, x148_6, x148_7, x148_8, x148_11, x148_14, x148_17, x148_18, x148_19, x148_22, x148_23, x148_24, x148_27, x148_28, x148_31, x148_72, x148_73, x148_76, x148_79, x148_80, x148_82, x148_85, x148_88, x148_89, x148_92, x148_95, x148_96, x148_99, x148_100_0, x148_100_1, x148_100b, x148_101, x148_102, x148_105_0, x148_105_1, x148_105b, x148_106, x148_107, x148_110, x148_113, x148_114, x148_116, x148_119, x148_122, x148_123, x148_126, x148_129, x148_130, x148_133, x148_134_0, x148_134_1, x148_134b, x148_135, x148_136, x148_137, x148_140, x148_141, x148_142, x148_145, x148_146_0, x148_146_1, x148_146b, evI_i, evJl_i, evJf_i, evJd_i, evA_r, evA_n, evA_q, evLk_c, evS1_d, evS2_d, evFl_n, evFl_c, evGl_n, evGl_c, evIn_n, evIn_c, evCat_i, evCat_l, evCat_f, evCat_d, evCat_r, evCat_z, evCat_q, evBd_some, evTl_s, evTl_n, va_rf_s, va_rf_n, and_true, true_and, and_false, false_and, if_true, if_false, not_true_eq_false, not_false_eq_true, reduceCtorEq, ↓reduceIte, Nat.reduceAdd, Nat.reduceEqDiff, Nat.reduceLT, Nat.reduceLeDiff, Nat.reduceSub, Nat.zero_ne_one, Nat.one_ne_zero, w0, w1, w2, w3, w4, w5, w6, w7, w8, w9, w10, w11, w12, w13, w14, w15, w16, w17, w18, w19, w20, w21, w22, w23, w24, evGM_get, evGM_set, evGM_get0, evGM_set0, pdU_g12, pdU_g13, pdU_12, pdU_13, pdU_15, CH, e1, h98, n98, TD0, TN1, IN, q1, q2, q3, s12, s23, d1, t1, h42, d2f, decide_true, evBl_f, n1, Bool.false_eq_true, Option.toList, List.cons_append, List.nil_append]
        · rw [if_neg h42]
          refine ⟨1, chV u L (p + 1) - 48, b, fun m => ?_, fun z => by cases z⟩
          simp only [x148_0, x148_1, x148_2, x148_5, x148_6, x148_7, x148_8, x148_11, x148_14, x148_17, x148_18, x148_19, x148_22, x148_23, x148_24, x148_27, x148_28, x148_31, x148_72, x148_73, x148_76, x148_79, x148_80, x148_82, x148_85, x148_88, x148_89, x148_92, x148_95, x148_96, x148_99, x148_100_0, x148_100_1, x148_100b, x148_101, x148_102, x148_105_0, x148_105_1, x148_105b, x148_106, x148_107, x148_110, x148_113, x148_114, x148_116, x148_119, x148_122, x148_123, x148_126, x148_129, x148_130, x148_133, x148_134_0, x148_134_1, x148_134b, x148_135, x148_136, x148_137, x148_140, x148_141, x148_142, x148_145, x148_146_0, x148_146_1, x148_146b, evI_i, evJl_i, evJf_i, evJd_i, evA_r, evA_n, evA_q, evLk_c, evS1_d, evS2_d, evFl_n, evFl_c, evGl_n, evGl_c, evIn_n, evIn_c, evCat_i, evCat_l, evCat_f, evCat_d, evCat_r, evCat_z, evCat_q, evBd_some, evTl_s, evTl_n, va_rf_s, va_rf_n, and_true, true_and, and_false, false_and, if_true, if_false, not_true_eq_false, not_false_eq_true, reduceCtorEq, ↓reduceIte, Nat.reduceAdd, Nat.reduceEqDiff, Nat.reduceLT, Nat.reduceLeDiff, Nat.reduceSub, Nat.zero_ne_one, Nat.one_ne_zero, w0, w1, w2, w3, w4, w5, w6, w7, w8, w9, w10, w11, w12, w13, w14, w15, w16, w17, w18, w19, w20, w21, w22, w23, w24, evGM_get, evGM_set, evGM_get0, evGM_set0, pdU_g12, pdU_g13, pdU_12, pdU_13, pdU_15, CH, e1, h98, n98, TD0, TN1, IN, q1, q2, s12, d1, t1, h42, decide_false, evBl_f, n1, Option.toList, List.cons_append, List.nil_append]
      · have d1f := b_ne d1
        rw [if_neg d1]
        refine ⟨0, a, b, fun m => ?_, fun z => by cases z⟩
        simp only [x148_0, x148_1, x148_2, x148_5, x148_6, x148_7, x148_8, x148_11, x148_14, x148_17, x148_18, x148_19, x148_22, x148_23, x148_24, x148_27, x148_28, x148_31, x148_72, x148_73, x148_76, x148_79, x148_80, x148_82, x148_85, x148_88, x148_89, x148_92, x148_95, x148_96, x148_99, x148_100_0, x148_100_1, x148_100b, x148_101, x148_102, x148_105_0, x148_105_1, x148_105b, x148_106, x148_107, x148_110, x148_113, x148_114, x148_116, x148_119, x148_122, x148_123, x148_126, x148_129, x148_130, x148_133, x148_134_0, x148_134_1, x148_134b, x148_135, x148_136, x148_137, x148_140, x148_141, x148_142, x148_145, x148_146_0, x148_146_1, x148_146b, evI_i, evJl_i, evJf_i, evJd_i, evA_r, evA_n, evA_q, evLk_c, evS1_d, evS2_d, evFl_n, evFl_c, evGl_n, evGl_c, evIn_n, evIn_c, evCat_i, evCat_l, evCat_f, evCat_d, evCat_r, evCat_z, evCat_q, evBd_some, evTl_s, evTl_n, va_rf_s, va_rf_n, and_true, true_and, and_false, false_and, if_true, if_false, not_true_eq_false, not_false_eq_true, reduceCtorEq, ↓reduceIte, Nat.reduceAdd, Nat.reduceEqDiff, Nat.reduceLT, Nat.reduceLeDiff, Nat.reduceSub, Nat.zero_ne_one, Nat.one_ne_zero, w0, w1, w2, w3, w4, w5, w6, w7, w8, w9, w10, w11, w12, w13, w14, w15, w16, w17, w18, w19, w20, w21, w22, w23, w24, evGM_get, evGM_set, evGM_get0, evGM_set0, pdU_g12, pdU_g13, pdU_12, pdU_13, pdU_15, CH, e1, h98, n98, TD0, q1, d1f, evBl_f, Bool.false_eq_true, Option.toList, List.cons_append, List.nil_append]
    · rw [if_neg h98]
      by_cases h108 : chV u L p = 108
      · rw [if_pos (Or.inl h108)]
        by_cases d1 : isD (chV u L) (p + 1) = true
        · rw [if_pos d1]
          refine ⟨1, (nuA (chV u L) (p + 1)).2, b, fun m => ?_, fun _ => ⟨rfl, fun z => by rcases z with z | z <;> contradiction⟩⟩
          simp only [x148_0, x148_1, x148_2, x148_5, x148_6, x148_7, x148_8, x148_11, x148_14, x148_17, x148_18, x148_19, x148_22, x148_23, x148_24, x148_27, x148_28, x148_31, x148_72, x148_73, x148_76, x148_79, x148_80, x148_82, x148_85, x148_88, x148_89, x148_92, x148_95, x148_96, x148_99, x148_100_0, x148_100_1, x148_100b, x148_101, x148_102, x148_105_0, x148_105_1, x148_105b, x148_106, x148_107, x148_110, x148_113, x148_114, x148_116, x148_119, x148_122, x148_123, x148_126, x148_129, x148_130, x148_133, x148_134_0, x148_134_1, x148_134b, x148_135, x148_136, x148_137, x148_140, x148_141, x148_142, x148_145, x148_146_0, x148_146_1, x148_146b, evI_i, evJl_i, evJf_i, evJd_i, evA_r, evA_n, evA_q, evLk_c, evS1_d, evS2_d, evFl_n, evFl_c, evGl_n, evGl_c, evIn_n, evIn_c, evCat_i, evCat_l, evCat_f, evCat_d, evCat_r, evCat_z, evCat_q, evBd_some, evTl_s, evTl_n, va_rf_s, va_rf_n, and_true, true_and, and_false, false_and, if_true, if_false, not_true_eq_false, not_false_eq_true, reduceCtorEq, ↓reduceIte, Nat.reduceAdd, Nat.reduceEqDiff, Nat.reduceLT, Nat.reduceLeDiff, Nat.reduceSub, Nat.zero_ne_one, Nat.one_ne_zero, w0, w1, w2, w3, w4, w5, w6, w7, w8, w9, w10, w11, w12, w13, w14, w15, w16, w17, w18, w19, w20, w21, w22, w23, w24, evGM_get, evGM_set, evGM_get0, evGM_set0, pdU_g12, pdU_g13, pdU_12, pdU_13, pdU_15, CH, e1, h108, n108, n108', TN0, q1, d1, Option.toList, List.cons_append, List.nil_append]
        · have d1f := b_ne d1
          rw [if_neg d1]
          refine ⟨0, a, b, fun m => ?_, fun z => by cases z⟩
          simp only [x148_0, x148_1, x148_2, x148_5, x148_6, x148_7, x148_8, x148_11, x148_14, x148_17, x148_18, x148_19, x148_22, x148_23, x148_24, x148_27, x148_28, x148_31, x148_72, x148_73, x148_76, x148_79, x148_80, x148_82, x148_85, x148_88, x148_89, x148_92, x148_95, x148_96, x148_99, x148_100_0, x148_100_1, x148_100b, x148_101, x148_102, x148_105_0, x148_105_1, x148_105b, x148_106, x148_107, x148_110, x148_113, x148_114, x148_116, x148_119, x148_122, x148_123, x148_126, x148_129, x148_130, x148_133, x148_134_0, x148_134_1, x148_134b, x148_135, x148_136, x148_137, x148_140, x148_141, x148_142, x148_145, x148_146_0, x148_146_1, x148_146b, evI_i, evJl_i, evJf_i, evJd_i, evA_r, evA_n, evA_q, evLk_c, evS1_d, evS2_d, evFl_n, evFl_c, evGl_n, evGl_c, evIn_n, evIn_c, evCat_i, evCat_l, evCat_f, evCat_d, evCat_r, evCat_z, evCat_q, evBd_some, evTl_s, evTl_n, va_rf_s, va_rf_n, and_true, true_and, and_false, false_and, if_true, if_false, not_true_eq_false, not_false_eq_true, reduceCtorEq, ↓reduceIte, Nat.reduceAdd, Nat.reduceEqDiff, Nat.reduceLT, Nat.reduceLeDiff, Nat.reduceSub, Nat.zero_ne_one, Nat.one_ne_zero, w0, w1, w2, w3, w4, w5, w6, w7, w8, w9, w10, w11, w12, w13, w14, w15, w16, w17, w18, w19, w20, w21, w22, w23, w24, evGM_get, evGM_set, evGM_get0, evGM_set0, pdU_g12, pdU_g13, pdU_12, pdU_13, pdU_15, CH, e1, h108, n108, n108', TN0, q1, d1f, Bool.false_eq_true, Option.toList, List.cons_append, List.nil_append]
      · by_cases h116 : chV u L p = 116
        · rw [if_pos (Or.inr h116)]
          by_cases d1 : isD (chV u L) (p + 1) = true
          · rw [if_pos d1]
            refine ⟨1, (nuA (chV u L) (p + 1)).2, b, fun m => ?_, fun _ => ⟨rfl, fun z => by rcases z with z | z <;> contradiction⟩⟩
            simp only [x148_0, x148_1, x148_2, x148_5, x148_6, x148_7, x148_8, x148_11, x148_14, x148_17, x148_18, x148_19, x148_22, x148_23, x148_24, x148_27, x148_28, x148_31, x148_72, x148_73, x148_76, x148_79, x148_80, x148_82, x148_85, x148_88, x148_89, x148_92, x148_95, x148_96, x148_99, x148_100_0, x148_100_1, x148_100b, x148_101, x148_102, x148_105_0, x148_105_1, x148_105b, x148_106, x148_107, x148_110, x148_113, x148_114, x148_116, x148_119, x148_122, x148_123, x148_126, x148_129, x148_130, x148_133, x148_134_0, x148_134_1, x148_134b, x148_135, x148_136, x148_137, x148_140, x148_141, x148_142, x148_145, x148_146_0, x148_146_1, x148_146b, evI_i, evJl_i, evJf_i, evJd_i, evA_r, evA_n, evA_q, evLk_c, evS1_d, evS2_d, evFl_n, evFl_c, evGl_n, evGl_c, evIn_n, evIn_c, evCat_i, evCat_l, evCat_f, evCat_d, evCat_r, evCat_z, evCat_q, evBd_some, evTl_s, evTl_n, va_rf_s, va_rf_n, and_true, true_and, and_false, false_and, if_true, if_false, not_true_eq_false, not_false_eq_true, reduceCtorEq, ↓reduceIte, Nat.reduceAdd, Nat.reduceEqDiff, Nat.reduceLT, Nat.reduceLeDiff, Nat.reduceSub, Nat.zero_ne_one, Nat.one_ne_zero, w0, w1, w2, w3, w4, w5, w6, w7, w8, w9, w10, w11, w12, w13, w14, w15, w16, w17, w18, w19, w20, w21, w22, w23, w24, evGM_get, evGM_set, evGM_get0, evGM_set0, pdU_g12, pdU_g13, pdU_12, pdU_13, pdU_15, CH, e1, h116, n116, n116', n116'', TN0, q1, d1, Option.toList, List.cons_append, List.nil_append]
          · have d1f := b_ne d1
            rw [if_neg d1]
            refine ⟨0, a, b, fun m => ?_, fun z => by cases z⟩
            simp only [x148_0, x148_1, x148_2, x148_5, x148_6, x148_7, x148_8, x148_11, x148_14, x148_17, x148_18, x148_19, x148_22, x148_23, x148_24, x148_27, x148_28, x148_31, x148_72, x148_73, x148_76, x148_79, x148_80, x148_82, x148_85, x148_88, x148_89, x148_92, x148_95, x148_96, x148_99, x148_100_0, x148_100_1, x148_100b, x148_101, x148_102, x148_105_0, x148_105_1, x148_105b, x148_106, x148_107, x148_110, x148_113, x148_114, x148_116, x148_119, x148_122, x148_123, x148_126, x148_129, x148_130, x148_133, x148_134_0, x148_134_1, x148_134b, x148_135, x148_136, x148_137, x148_140, x148_141, x148_142, x148_145, x148_146_0, x148_146_1, x148_146b, evI_i, evJl_i, evJf_i, evJd_i, evA_r, evA_n, evA_q, evLk_c, evS1_d, evS2_d, evFl_n, evFl_c, evGl_n, evGl_c, evIn_n, evIn_c, evCat_i, evCat_l, evCat_f, evCat_d, evCat_r, evCat_z, evCat_q, evBd_some, evTl_s, evTl_n, va_rf_s, va_rf_n, and_true, true_and, and_false, false_and, if_true, if_false, not_true_eq_false, not_false_eq_true, reduceCtorEq, ↓reduceIte, Nat.reduceAdd, Nat.reduceEqDiff, Nat.reduceLT, Nat.reduceLeDiff, Nat.reduceSub, Nat.zero_ne_one, Nat.one_ne_zero, w0, w1, w2, w3, w4, w5, w6, w7, w8, w9, w10, w11, w12, w13, w14, w15, w16, w17, w18, w19, w20, w21, w22, w23, w24, evGM_get, evGM_set, evGM_get0, evGM_set0, pdU_g12, pdU_g13, pdU_12, pdU_13, pdU_15, CH, e1, h116, n116, n116', n116'', TN0, q1, d1f, Bool.false_eq_true, Option.toList, List.cons_append, List.nil_append]
        · rw [if_neg (by rintro (z | z) <;> contradiction)]
          have e2 : nI (p + 1) - 1 = nI p := nI_pred p
          refine ⟨0, a, b, fun m => ?_, fun z => by cases z⟩
          simp only [x148_0, x148_1, x148_2, x148_5, x148_6, x148_7, x148_8, x148_11, x148_14, x148_17, x148_18, x148_19, x148_22, x148_23, x148_24, x148_27, x148_28, x148_31, x148_72, x148_73, x148_76, x148_79, x148_80, x148_82, x148_85, x148_88, x148_89, x148_92, x148_95, x148_96, x148_99, x148_100_0, x148_100_1, x148_100b, x148_101, x148_102, x148_105_0, x148_105_1, x148_105b, x148_106, x148_107, x148_110, x148_113, x148_114, x148_116, x148_119, x148_122, x148_123, x148_126, x148_129, x148_130, x148_133, x148_134_0, x148_134_1, x148_134b, x148_135, x148_136, x148_137, x148_140, x148_141, x148_142, x148_145, x148_146_0, x148_146_1, x148_146b, evI_i, evJl_i, evJf_i, evJd_i, evA_r, evA_n, evA_q, evLk_c, evS1_d, evS2_d, evFl_n, evFl_c, evGl_n, evGl_c, evIn_n, evIn_c, evCat_i, evCat_l, evCat_f, evCat_d, evCat_r, evCat_z, evCat_q, evBd_some, evTl_s, evTl_n, va_rf_s, va_rf_n, and_true, true_and, and_false, false_and, if_true, if_false, not_true_eq_false, not_false_eq_true, reduceCtorEq, ↓reduceIte, Nat.reduceAdd, Nat.reduceEqDiff, Nat.reduceLT, Nat.reduceLeDiff, Nat.reduceSub, Nat.zero_ne_one, Nat.one_ne_zero, w0, w1, w2, w3, w4, w5, w6, w7, w8, w9, w10, w11, w12, w13, w14, w15, w16, w17, w18, w19, w20, w21, w22, w23, w24, evGM_get, evGM_set, evGM_get0, evGM_set0, pdU_g12, pdU_g13, pdU_12, pdU_13, pdU_15, CH, e1, e2, h43, h98, h108, h116, evBl_f, Option.toList, List.cons_append, List.nil_append]
theorem c_mfindFault (hu : mOK h c) {L : Nat} (hL : L ≤ 80) (h7 : u 0 7 = nI L) : ∃ p l k a b, ∀ m : evM, evX 149 0 [(0, .ref c)] [] h (evGM m c 9 u) = some (some (.int (fauF (chV u L) L 81 0)), h, evGM m c 9 (pdU u p l k a b)) := by
  obtain ⟨w0, w1, w2, w3, w4, w5, w6, w7, w8, w9, w10, w11, w12, w13, w14, w15, w16, w17, w18, w19, w20, w21, w22, w23, w24⟩ := id hu
  have t1 : ¬ evBl true = 0 := by decide
  have hg := fun p => @chV_D u L p
  have lp : ∀ (f p : Nat) (l k a b : Int32), p ≤ L → L + 1 ≤ p + f → ∃ p' l' k' a' b', ∀ m : evM, evX 149 5 [(0, .ref c)] [] h (evGM m c 9 (pdU u p l k a b)) = some (some (.int (fauF (chV u L) L f p)), h, evGM m c 9 (pdU u p' l' k' a' b')) := by
    intro f
    induction f with
    | zero => intro p l k a b h1 h2; omega
    | succ f ih =>
      intro p l k a b hp hf
      obtain ⟨k', a', b', RO, _⟩ := c_readsOrder (u := u) hu hL hp h7 l k a b
      have hle := ordF_le hg (fun p => @chV_n1 u L p) hp
      have IN := fun m : evM => c_isN (m := m) (u := u) hu hL (p := (ordF (chV u L) p).2.1) (by omega) h7 (chV u L p) k' a' b' 59
      unfold fauF
      by_cases ho : (ordF (chV u L) p).1 = true
      · rw [if_pos ho]
        rw [ho] at RO
        by_cases hq : (ordF (chV u L) p).2.1 = L
        · rw [if_pos hq]
          refine ⟨(ordF (chV u L) p).2.1, chV u L p, k', a', b', fun m => ?_⟩
          simp only [x149_5, x149_6, x149_9, x149_12, x149_13, x149_16, x149_17, x149_18, x149_21, x149_22, x149_25, x149_28, x149_30, evI_i, evJl_i, evJf_i, evJd_i, evA_r, evA_n, evA_q, evLk_c, evS1_d, evS2_d, evFl_n, evFl_c, evGl_n, evGl_c, evIn_n, evIn_c, evCat_i, evCat_l, evCat_f, evCat_d, evCat_r, evCat_z, evCat_q, evBd_some, evTl_s, evTl_n, va_rf_s, va_rf_n, and_true, true_and, and_false, false_and, if_true, if_false, not_true_eq_false, not_false_eq_true, reduceCtorEq, ↓reduceIte, Nat.reduceAdd, Nat.reduceEqDiff, Nat.reduceLT, Nat.reduceLeDiff, Nat.reduceSub, Nat.zero_ne_one, Nat.one_ne_zero, w0, w1, w2, w3, w4, w5, w6, w7, w8, w9, w10, w11, w12, w13, w14, w15, w16, w17, w18, w19, w20, w21, w22, w23, w24, evGM_get, evGM_set, evGM_get0, evGM_set0, RO, t1, pdU_g12, pdU_g7, h7, hq, Option.toList, List.cons_append, List.nil_append]
        · rw [if_neg hq]
          have nq : ¬ nI (ordF (chV u L) p).2.1 = nI L := fun z => hq ((nI_eq (by omega) (by omega)).mp z)
          by_cases h59 : chV u L (ordF (chV u L) p).2.1 = 59
          · rw [if_pos h59]
            have hok := ordF_ok hg ho
            obtain ⟨p'', l'', k'', a'', b'', IH⟩ := ih ((ordF (chV u L) p).2.1 + 1) (chV u L p) k' a' b' (by omega) (by omega)
            refine ⟨p'', l'', k'', a'', b'', fun m => ?_⟩
            rw [← IH m]
            conv => lhs; rw [x149_5]
            simp only [x149_6, x149_9, x149_12, x149_13, x149_16, x149_17, x149_18, x149_21, x149_22, x149_25, x149_28, x149_30, x149_31, x149_32, x149_34, x149_37, x149_40, evI_i, evJl_i, evJf_i, evJd_i, evA_r, evA_n, evA_q, evLk_c, evS1_d, evS2_d, evFl_n, evFl_c, evGl_n, evGl_c, evIn_n, evIn_c, evCat_i, evCat_l, evCat_f, evCat_d, evCat_r, evCat_z, evCat_q, evBd_some, evTl_s, evTl_n, va_rf_s, va_rf_n, and_true, true_and, and_false, false_and, if_true, if_false, not_true_eq_false, not_false_eq_true, reduceCtorEq, ↓reduceIte, Nat.reduceAdd, Nat.reduceEqDiff, Nat.reduceLT, Nat.reduceLeDiff, Nat.reduceSub, Nat.zero_ne_one, Nat.one_ne_zero, w0, w1, w2, w3, w4, w5, w6, w7, w8, w9, w10, w11, w12, w13, w14, w15, w16, w17, w18, w19, w20, w21, w22, w23, w24, evGM_get, evGM_set, evGM_get0, evGM_set0, RO, t1, pdU_g12, pdU_g7, h7, nq, IN, h59, decide_true, Option.toList, List.cons_append, List.nil_append]
          · rw [if_neg h59]
            refine ⟨(ordF (chV u L) p).2.1, chV u L p, k', a', b', fun m => ?_⟩
            simp only [x149_5, x149_6, x149_9, x149_12, x149_13, x149_16, x149_17, x149_18, x149_21, x149_22, x149_25, x149_28, x149_30, x149_31, x149_32, x149_34, x149_37, x149_40, x149_41, x149_44, evI_i, evJl_i, evJf_i, evJd_i, evA_r, evA_n, evA_q, evLk_c, evS1_d, evS2_d, evFl_n, evFl_c, evGl_n, evGl_c, evIn_n, evIn_c, evCat_i, evCat_l, evCat_f, evCat_d, evCat_r, evCat_z, evCat_q, evBd_some, evTl_s, evTl_n, va_rf_s, va_rf_n, and_true, true_and, and_false, false_and, if_true, if_false, not_true_eq_false, not_false_eq_true, reduceCtorEq, ↓reduceIte, Nat.reduceAdd, Nat.reduceEqDiff, Nat.reduceLT, Nat.reduceLeDiff, Nat.reduceSub, Nat.zero_ne_one, Nat.one_ne_zero, w0, w1, w2, w3, w4, w5, w6, w7, w8, w9, w10, w11, w12, w13, w14, w15, w16, w17, w18, w19, w20, w21, w22, w23, w24, evGM_get, evGM_set, evGM_get0, evGM_set0, RO, t1, pdU_g12, pdU_g7, h7, nq, IN, h59, decide_false, evBl_f, Option.toList, List.cons_append, List.nil_append]
      · have hof := b_ne ho
        rw [if_neg ho]
        rw [hof] at RO
        refine ⟨(ordF (chV u L) p).2.1, chV u L p, k', a', b', fun m => ?_⟩
        simp only [x149_5, x149_6, x149_9, x149_12, x149_13, x149_16, evI_i, evJl_i, evJf_i, evJd_i, evA_r, evA_n, evA_q, evLk_c, evS1_d, evS2_d, evFl_n, evFl_c, evGl_n, evGl_c, evIn_n, evIn_c, evCat_i, evCat_l, evCat_f, evCat_d, evCat_r, evCat_z, evCat_q, evBd_some, evTl_s, evTl_n, va_rf_s, va_rf_n, and_true, true_and, and_false, false_and, if_true, if_false, not_true_eq_false, not_false_eq_true, reduceCtorEq, ↓reduceIte, Nat.reduceAdd, Nat.reduceEqDiff, Nat.reduceLT, Nat.reduceLeDiff, Nat.reduceSub, Nat.zero_ne_one, Nat.one_ne_zero, w0, w1, w2, w3, w4, w5, w6, w7, w8, w9, w10, w11, w12, w13, w14, w15, w16, w17, w18, w19, w20, w21, w22, w23, w24, evGM_get, evGM_set, evGM_get0, evGM_set0, RO, evBl_f, pdU_g12, Option.toList, List.cons_append, List.nil_append]
  obtain ⟨p', l', k', a', b', LP⟩ := lp 81 0 (u 0 13) (u 0 15) (u 8 0) (u 8 1) (by omega) (by omega)
  refine ⟨p', l', k', a', b', fun m => ?_⟩
  have e0 : ms u 0 12 0 = pdU u 0 (u 0 13) (u 0 15) (u 8 0) (u 8 1) := pdU_i u 0
  rw [← LP m]
  simp only [x149_0, x149_1, x149_2, evI_i, evJl_i, evJf_i, evJd_i, evA_r, evA_n, evA_q, evLk_c, evS1_d, evS2_d, evFl_n, evFl_c, evGl_n, evGl_c, evIn_n, evIn_c, evCat_i, evCat_l, evCat_f, evCat_d, evCat_r, evCat_z, evCat_q, evBd_some, evTl_s, evTl_n, va_rf_s, va_rf_n, and_true, true_and, and_false, false_and, if_true, if_false, not_true_eq_false, not_false_eq_true, reduceCtorEq, ↓reduceIte, Nat.reduceAdd, Nat.reduceEqDiff, Nat.reduceLT, Nat.reduceLeDiff, Nat.reduceSub, Nat.zero_ne_one, Nat.one_ne_zero, w0, w1, w2, w3, w4, w5, w6, w7, w8, w9, w10, w11, w12, w13, w14, w15, w16, w17, w18, w19, w20, w21, w22, w23, w24, evGM_get, evGM_set, evGM_get0, evGM_set0, e0]
theorem c_mfault (hu : mOK h c) {L : Nat} (hL : L ≤ 80) (h7 : u 0 7 = nI L) : ∃ p l k a b, evX 150 0 [(0, .ref c)] [] h (evGM m c 9 u) = some (some (.int (fauF (chV u L) L 81 0)), h, evGM m c 9 (pdU u p l k a b)) := by
  obtain ⟨w0, w1, w2, w3, w4, w5, w6, w7, w8, w9, w10, w11, w12, w13, w14, w15, w16, w17, w18, w19, w20, w21, w22, w23, w24⟩ := id hu
  obtain ⟨p, l, k, a, b, F⟩ := c_mfindFault (u := u) hu hL h7
  refine ⟨p, l, k, a, b, ?_⟩
  simp only [x150_0, x150_1, x150_4, evI_i, evJl_i, evJf_i, evJd_i, evA_r, evA_n, evA_q, evLk_c, evS1_d, evS2_d, evFl_n, evFl_c, evGl_n, evGl_c, evIn_n, evIn_c, evCat_i, evCat_l, evCat_f, evCat_d, evCat_r, evCat_z, evCat_q, evBd_some, evTl_s, evTl_n, va_rf_s, va_rf_n, and_true, true_and, and_false, false_and, if_true, if_false, not_true_eq_false, not_false_eq_true, reduceCtorEq, ↓reduceIte, Nat.reduceAdd, Nat.reduceEqDiff, Nat.reduceLT, Nat.reduceLeDiff, Nat.reduceSub, Nat.zero_ne_one, Nat.one_ne_zero, w0, w1, w2, w3, w4, w5, w6, w7, w8, w9, w10, w11, w12, w13, w14, w15, w16, w17, w18, w19, w20, w21, w22, w23, w24, evGM_get, evGM_set, evGM_get0, evGM_set0, F, Option.toList, List.cons_append, List.nil_append]
def whyF (u : Nat → Nat → Int32) (l a b : Int32) : Int32 := if l = 43 then whyB u a b else if l = 98 then whyT u a b else if l = 108 then whyL u a else whyP u a
theorem c_whyF (hu : mOK h c) : evX 151 0 [(0, .ref c)] [] h (evGM m c 9 u) = some (some (.int (whyF u (u 0 13) (u 8 0) (u 8 1))), h, evGM m c 9 u) := by
  obtain ⟨w0, w1, w2, w3, w4, w5, w6, w7, w8, w9, w10, w11, w12, w13, w14, w15, w16, w17, w18, w19, w20, w21, w22, w23, w24⟩ := id hu
  unfold whyF
  have WB := c_whyB (m := m) (u := u) hu
  have WL := c_whyL (m := m) (u := u) hu
  have WT := c_whyT (m := m) (u := u) hu
  have WP := c_whyP (m := m) (u := u) hu
  by_cases h43 : u 0 13 = 43
  · simp only [x151_0, x151_1, x151_4, x151_40, x151_41, x151_42, x151_45, x151_46, x151_47, x151_48, x151_51, x151_52, x151_53, x151_56, x151_57, x151_58, x151_59, x151_62, x151_63, x151_64, x151_67, x151_68, x151_69, x151_70, x151_73, x151_74, x151_75, x151_76, x151_79, x151_80, x151_81, x151_84, x151_85, x151_86, x151_87, x151_90, x151_91, x151_92, x151_95, evI_i, evJl_i, evJf_i, evJd_i, evA_r, evA_n, evA_q, evLk_c, evS1_d, evS2_d, evFl_n, evFl_c, evGl_n, evGl_c, evIn_n, evIn_c, evCat_i, evCat_l, evCat_f, evCat_d, evCat_r, evCat_z, evCat_q, evBd_some, evTl_s, evTl_n, va_rf_s, va_rf_n, and_true, true_and, and_false, false_and, if_true, if_false, not_true_eq_false, not_false_eq_true, reduceCtorEq, ↓reduceIte, Nat.reduceAdd, Nat.reduceEqDiff, Nat.reduceLT, Nat.reduceLeDiff, Nat.reduceSub, Nat.zero_ne_one, Nat.one_ne_zero, w0, w1, w2, w3, w4, w5, w6, w7, w8, w9, w10, w11, w12, w13, w14, w15, w16, w17, w18, w19, w20, w21, w22, w23, w24, evGM_get, evGM_set, evGM_get0, evGM_set0, h43, WB, lt0, lc0, lt1, lc1, Option.toList, List.cons_append, List.nil_append]
  · by_cases h98 : u 0 13 = 98
    · have n98 : ¬ (98 : Int32) = 43 := by decide
      simp only [x151_0, x151_1, x151_4, x151_40, x151_41, x151_42, x151_45, x151_46, x151_47, x151_48, x151_51, x151_52, x151_53, x151_56, x151_57, x151_58, x151_59, x151_62, x151_63, x151_64, x151_67, x151_68, x151_69, x151_70, x151_73, x151_74, x151_75, x151_76, x151_79, x151_80, x151_81, x151_84, x151_85, x151_86, x151_87, x151_90, x151_91, x151_92, x151_95, evI_i, evJl_i, evJf_i, evJd_i, evA_r, evA_n, evA_q, evLk_c, evS1_d, evS2_d, evFl_n, evFl_c, evGl_n, evGl_c, evIn_n, evIn_c, evCat_i, evCat_l, evCat_f, evCat_d, evCat_r, evCat_z, evCat_q, evBd_some, evTl_s, evTl_n, va_rf_s, va_rf_n, and_true, true_and, and_false, false_and, if_true, if_false, not_true_eq_false, not_false_eq_true, reduceCtorEq, ↓reduceIte, Nat.reduceAdd, Nat.reduceEqDiff, Nat.reduceLT, Nat.reduceLeDiff, Nat.reduceSub, Nat.zero_ne_one, Nat.one_ne_zero, w0, w1, w2, w3, w4, w5, w6, w7, w8, w9, w10, w11, w12, w13, w14, w15, w16, w17, w18, w19, w20, w21, w22, w23, w24, evGM_get, evGM_set, evGM_get0, evGM_set0, h98, n98, WT, lt0, lc0, lt1, lc1, Option.toList, List.cons_append, List.nil_append]
    · by_cases h108 : u 0 13 = 108
      · have n108 : ¬ (108 : Int32) = 43 := by decide
        have n108' : ¬ (108 : Int32) = 98 := by decide
        simp only [x151_0, x151_1, x151_4, x151_40, x151_41, x151_42, x151_45, x151_46, x151_47, x151_48, x151_51, x151_52, x151_53, x151_56, x151_57, x151_58, x151_59, x151_62, x151_63, x151_64, x151_67, x151_68, x151_69, x151_70, x151_73, x151_74, x151_75, x151_76, x151_79, x151_80, x151_81, x151_84, x151_85, x151_86, x151_87, x151_90, x151_91, x151_92, x151_95, evI_i, evJl_i, evJf_i, evJd_i, evA_r, evA_n, evA_q, evLk_c, evS1_d, evS2_d, evFl_n, evFl_c, evGl_n, evGl_c, evIn_n, evIn_c, evCat_i, evCat_l, evCat_f, evCat_d, evCat_r, evCat_z, evCat_q, evBd_some, evTl_s, evTl_n, va_rf_s, va_rf_n, and_true, true_and, and_false, false_and, if_true, if_false, not_true_eq_false, not_false_eq_true, reduceCtorEq, ↓reduceIte, Nat.reduceAdd, Nat.reduceEqDiff, Nat.reduceLT, Nat.reduceLeDiff, Nat.reduceSub, Nat.zero_ne_one, Nat.one_ne_zero, w0, w1, w2, w3, w4, w5, w6, w7, w8, w9, w10, w11, w12, w13, w14, w15, w16, w17, w18, w19, w20, w21, w22, w23, w24, evGM_get, evGM_set, evGM_get0, evGM_set0, h108, n108, n108', WL, lt0, lc0, lt1, lc1, Option.toList, List.cons_append, List.nil_append]
      · simp only [x151_0, x151_1, x151_4, x151_40, x151_41, x151_42, x151_45, x151_46, x151_47, x151_48, x151_51, x151_52, x151_53, x151_56, x151_57, x151_58, x151_59, x151_62, x151_63, x151_64, x151_67, x151_68, x151_69, x151_70, x151_73, x151_74, x151_75, x151_76, x151_79, x151_80, x151_81, x151_84, x151_85, x151_86, x151_87, x151_90, x151_91, x151_92, x151_95, evI_i, evJl_i, evJf_i, evJd_i, evA_r, evA_n, evA_q, evLk_c, evS1_d, evS2_d, evFl_n, evFl_c, evGl_n, evGl_c, evIn_n, evIn_c, evCat_i, evCat_l, evCat_f, evCat_d, evCat_r, evCat_z, evCat_q, evBd_some, evTl_s, evTl_n, va_rf_s, va_rf_n, and_true, true_and, and_false, false_and, if_true, if_false, not_true_eq_false, not_false_eq_true, reduceCtorEq, ↓reduceIte, Nat.reduceAdd, Nat.reduceEqDiff, Nat.reduceLT, Nat.reduceLeDiff, Nat.reduceSub, Nat.zero_ne_one, Nat.one_ne_zero, w0, w1, w2, w3, w4, w5, w6, w7, w8, w9, w10, w11, w12, w13, w14, w15, w16, w17, w18, w19, w20, w21, w22, w23, w24, evGM_get, evGM_set, evGM_get0, evGM_set0, h43, h98, h108, WP, lt0, lc0, lt1, lc1, Option.toList, List.cons_append, List.nil_append]
end MO
