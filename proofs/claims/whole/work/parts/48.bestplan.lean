/-! the model: the best plan -/
def bpZ (u : Nat → Nat → Int32) (lag n q b : Nat) : Nat → Nat → Nat → Int32
  | 0 => mvU u 1 0 2 0 328
  | k + 1 => mvU (farU (ms (bpZ u lag n q b k) 1 (10 + 8 * b + 1) (nI (10 * k))) lag n q 1000) 2 0 1 0 328
def bpF (u : Nat → Nat → Int32) (lag n q b k : Nat) : Nat → Nat → Int32 := farU (ms (bpZ u lag n q b k) 1 (10 + 8 * b + 1) (nI (10 * k))) lag n q 1000
def bpG (u : Nat → Nat → Int32) (lag n q b k : Nat) : Int32 := bpF u lag n q b k 1 (10 + 8 * b + 4) - bpF u lag n q b k 1 (10 + 8 * b + 3) - (u 1 (10 + 8 * b + 4) - u 1 (10 + 8 * b + 3))
def bpR (u : Nat → Nat → Int32) (lag n q b : Nat) : Nat → Int32 × Int32
  | 0 => (-6, 0)
  | k + 1 => if (bpR u lag n q b k).1 = -6 ∨ (bpR u lag n q b k).2 < bpG u lag n q b k then (nI (10 * k), bpG u lag n q b k) else bpR u lag n q b k
theorem bpZ_2 (u : Nat → Nat → Int32) (lag n q b k : Nat) {j : Nat} (hj : j < 328) : bpZ u lag n q b k 2 j = u 1 j := by
  induction k with
  | zero => exact mvU_row u hj 1 2
  | succ k ih =>
    show mvU (bpF u lag n q b k) 2 0 1 0 328 2 j = _
    rw [mvU_o _ _ _ _ _ _ _ (by decide)]
    unfold bpF
    rw [farU_o _ _ _ _ _ _ (by decide) (by decide) (by decide), ms_at, if_neg (by omega), ih]
theorem bpZ_1 (u : Nat → Nat → Int32) (lag n q b k : Nat) {j : Nat} (hj : j < 328) : bpZ u lag n q b k 1 j = u 1 j := by
  cases k with
  | zero => exact mvU_o _ _ _ _ _ _ _ (by decide)
  | succ k =>
    show mvU (bpF u lag n q b k) 2 0 1 0 328 1 j = _
    rw [mvU_row _ hj]
    unfold bpF
    rw [farU_o _ _ _ _ _ _ (by decide) (by decide) (by decide), ms_at, if_neg (by omega), bpZ_2 _ _ _ _ _ _ hj]
theorem bpZ_inv {u : Nat → Nat → Int32} {lag n q b : Nat} (hb : b < 6) (hi : mInv u lag n q) (k : Nat) (x : Int32) : mInv (ms (bpZ u lag n q b k) 1 (10 + 8 * b + 1) x) lag n q := by
  obtain ⟨h1, h2, h3, h4, h5, h6, h7, h8⟩ := hi
  have e : ∀ j, j < 328 → (j < 10 ∨ 58 ≤ j) → ms (bpZ u lag n q b k) 1 (10 + 8 * b + 1) x 1 j = u 1 j := fun j hj hd => by
    rw [ms_at, if_neg (by omega), bpZ_1 _ _ _ _ _ _ hj]
  refine ⟨h1, h2, h3, by rw [e 5 (by decide) (by decide), h4], by rw [e 0 (by decide) (by decide), h5], by rw [e 6 (by decide) (by decide), h6], by rw [e 7 (by decide) (by decide)]; exact h7, fun l hl => ?_⟩
  rw [e _ (by omega) (by omega)]
  exact h8 l hl
section MO
variable {h : evH} {m : evM} {c : Nat} {u : Nat → Nat → Int32}
theorem c_bpStep (hu : mOK h c) {lag n q b k : Nat} (hb : b < 6) (hk : k ≤ 20) (hi : mInv u lag n q) (w : Int32) (e : evL) (he : e = [] ∨ ∃ x y, e = [(7, .int x), (8, .int y)]) : ∃ e', (e' = [] ∨ ∃ x y, e' = [(7, .int x), (8, .int y)]) ∧ evX 139 51 ([(0, .ref c), (1, .int (nI b)), (2, .int w), (3, .int (u 1 (10 + 8 * b + 4) - u 1 (10 + 8 * b + 3))), (4, .int (bpR u lag n q b k).1), (5, .int (bpR u lag n q b k).2), (6, .int (nI (10 * k)))] ++ e) [] h (evGM m c 9 (bpZ u lag n q b k)) = evX 139 51 ([(0, .ref c), (1, .int (nI b)), (2, .int w), (3, .int (u 1 (10 + 8 * b + 4) - u 1 (10 + 8 * b + 3))), (4, .int (bpR u lag n q b (k + 1)).1), (5, .int (bpR u lag n q b (k + 1)).2), (6, .int (nI (10 * (k + 1))))] ++ e') [] h (evGM m c 9 (bpZ u lag n q b (k + 1))) := by
  obtain ⟨w0, w1, w2, w3, w4, w5, w6, w7, w8, w9, w10, w11, w12, w13, w14, w15, w16, w17, w18, w19, w20, w21, w22, w23, w24⟩ := id hu
  have n10 : ¬ (1 : Int32) = 0 := by decide
  have b0 : ¬ nI b < 0 := nI_pos (by omega)
  have b1 : (nI b).toNatClampNeg = b := nI_cl b (by omega)
  have e0 : ¬ (200 : Int32) < nI (10 * k) := (show ¬ nI 200 < nI (10 * k) from nI_nlt (by omega) (by omega))
  have hs : nI (10 * k) + 10 = nI (10 * (k + 1)) := (nI_add2 (10 * k) 10).trans (congrArg nI (by omega))
  have S := c_setBidder (m := m) (u := bpZ u lag n q b k) hu (b := nI b) (x := 1) (y := nI (10 * k)) b0 (by rw [b1]; exact hb) lt1 (by decide)
  rw [b1, lc1] at S
  have F : evX 136 0 [(0, .ref c)] [] h (evGM m c 9 (ms (bpZ u lag n q b k) 1 (10 + 8 * b + 1) (nI (10 * k)))) = some (none, h, evGM m c 9 (bpF u lag n q b k)) := c_goesFar hu (bpZ_inv hb hi k _)
  have GO := c_gainOf (m := m) (u := bpF u lag n q b k) hu hb
  have M2 : evX 87 0 [(0, .ref (c + 2)), (1, .int 0), (2, .ref (c + 1)), (3, .int 0)] [] h (evGM m c 9 (bpF u lag n q b k)) = some (none, h, evGM m c 9 (bpZ u lag n q b (k + 1))) := c_moves (m := m) (u := bpF u lag n q b k) (f := 0) (t := 0) w10 w9 w18 w17 (by omega) (by omega) (by omega) (by omega) (by decide) (by decide) (by decide)
  have hG : bpF u lag n q b k 1 (10 + 8 * b + 4) - bpF u lag n q b k 1 (10 + 8 * b + 3) - (u 1 (10 + 8 * b + 4) - u 1 (10 + 8 * b + 3)) = bpG u lag n q b k := rfl
  have hR : bpR u lag n q b (k + 1) = if (bpR u lag n q b k).1 = -6 ∨ (bpR u lag n q b k).2 < bpG u lag n q b k then (nI (10 * k), bpG u lag n q b k) else bpR u lag n q b k := rfl
  generalize bpR u lag n q b (k + 1) = r' at hR
  generalize bpR u lag n q b k = r at hR
  have B : ∃ y : Int32, evX 139 51 ([(0, .ref c), (1, .int (nI b)), (2, .int w), (3, .int (u 1 (10 + 8 * b + 4) - u 1 (10 + 8 * b + 3))), (4, .int r.1), (5, .int r.2), (6, .int (nI (10 * k)))] ++ e) [] h (evGM m c 9 (bpZ u lag n q b k)) = evX 139 51 ([(0, .ref c), (1, .int (nI b)), (2, .int w), (3, .int (u 1 (10 + 8 * b + 4) - u 1 (10 + 8 * b + 3))), (4, .int r'.1), (5, .int r'.2), (6, .int (nI (10 * (k + 1))))] ++ [(7, .int (bpG u lag n q b k)), (8, .int y)]) [] h (evGM m c 9 (bpZ u lag n q b (k + 1))) := by
    by_cases h1 : r.1 = -6
    · refine ⟨1, ?_⟩
      rw [hR, if_pos (Or.inl h1)]
      conv => lhs; rw [x139_51]
      rcases he with rfl | ⟨x, y, rfl⟩
      · simp only [x139_53, x139_56, x139_59, x139_60, x139_61, x139_62, x139_64, x139_67, x139_68, x139_71, x139_72, x139_73, x139_76, x139_77, x139_78, x139_80, x139_81, x139_84, x139_85, x139_86, x139_89, x139_90, x139_93, x139_95, x139_97, x139_100, x139_102, x139_104, x139_107, x139_108, x139_111, x139_112, x139_114, x139_116, x139_119, x139_121, x139_124, x139_126, x139_128, x139_130, x139_133, x139_135, x139_138, x139_140, x139_142, x139_145, evI_i, evJl_i, evJf_i, evJd_i, evA_r, evA_n, evA_q, evLk_c, evS1_d, evS2_d, evFl_n, evFl_c, evGl_n, evGl_c, evIn_n, evIn_c, evCat_i, evCat_l, evCat_f, evCat_d, evCat_r, evCat_z, evCat_q, evBd_some, evTl_s, evTl_n, va_rf_s, va_rf_n, and_true, true_and, and_false, false_and, if_true, if_false, not_true_eq_false, not_false_eq_true, reduceCtorEq, ↓reduceIte, Nat.reduceAdd, Nat.reduceEqDiff, Nat.reduceLT, Nat.reduceLeDiff, Nat.reduceSub, Nat.zero_ne_one, Nat.one_ne_zero, w0, w1, w2, w3, w4, w5, w6, w7, w8, w9, w10, w11, w12, w13, w14, w15, w16, w17, w18, w19, w20, w21, w22, w23, w24, evGM_get, evGM_set, evGM_get0, evGM_set0, e0, hs, S, F, GO, hG, M2, h1, n10, Option.toList, List.cons_append, List.nil_append, List.append_nil]
      · simp only [x139_53, x139_56, x139_59, x139_60, x139_61, x139_62, x139_64, x139_67, x139_68, x139_71, x139_72, x139_73, x139_76, x139_77, x139_78, x139_80, x139_81, x139_84, x139_85, x139_86, x139_89, x139_90, x139_93, x139_95, x139_97, x139_100, x139_102, x139_104, x139_107, x139_108, x139_111, x139_112, x139_114, x139_116, x139_119, x139_121, x139_124, x139_126, x139_128, x139_130, x139_133, x139_135, x139_138, x139_140, x139_142, x139_145, evI_i, evJl_i, evJf_i, evJd_i, evA_r, evA_n, evA_q, evLk_c, evS1_d, evS2_d, evFl_n, evFl_c, evGl_n, evGl_c, evIn_n, evIn_c, evCat_i, evCat_l, evCat_f, evCat_d, evCat_r, evCat_z, evCat_q, evBd_some, evTl_s, evTl_n, va_rf_s, va_rf_n, and_true, true_and, and_false, false_and, if_true, if_false, not_true_eq_false, not_false_eq_true, reduceCtorEq, ↓reduceIte, Nat.reduceAdd, Nat.reduceEqDiff, Nat.reduceLT, Nat.reduceLeDiff, Nat.reduceSub, Nat.zero_ne_one, Nat.one_ne_zero, w0, w1, w2, w3, w4, w5, w6, w7, w8, w9, w10, w11, w12, w13, w14, w15, w16, w17, w18, w19, w20, w21, w22, w23, w24, evGM_get, evGM_set, evGM_get0, evGM_set0, e0, hs, S, F, GO, hG, M2, h1, n10, Option.toList, List.cons_append, List.nil_append, List.append_nil]
    · by_cases h2 : r.2 < bpG u lag n q b k
      · have h2' : ¬ bpG u lag n q b k ≤ r.2 := fun z => i32_ff z h2
        refine ⟨1, ?_⟩
        rw [hR, if_pos (Or.inr h2)]
        conv => lhs; rw [x139_51]
        rcases he with rfl | ⟨x, y, rfl⟩
        · simp only [x139_53, x139_56, x139_59, x139_60, x139_61, x139_62, x139_64, x139_67, x139_68, x139_71, x139_72, x139_73, x139_76, x139_77, x139_78, x139_80, x139_81, x139_84, x139_85, x139_86, x139_89, x139_90, x139_93, x139_95, x139_97, x139_100, x139_102, x139_104, x139_107, x139_108, x139_111, x139_112, x139_114, x139_116, x139_119, x139_121, x139_124, x139_126, x139_128, x139_130, x139_133, x139_135, x139_138, x139_140, x139_142, x139_145, evI_i, evJl_i, evJf_i, evJd_i, evA_r, evA_n, evA_q, evLk_c, evS1_d, evS2_d, evFl_n, evFl_c, evGl_n, evGl_c, evIn_n, evIn_c, evCat_i, evCat_l, evCat_f, evCat_d, evCat_r, evCat_z, evCat_q, evBd_some, evTl_s, evTl_n, va_rf_s, va_rf_n, and_true, true_and, and_false, false_and, if_true, if_false, not_true_eq_false, not_false_eq_true, reduceCtorEq, ↓reduceIte, Nat.reduceAdd, Nat.reduceEqDiff, Nat.reduceLT, Nat.reduceLeDiff, Nat.reduceSub, Nat.zero_ne_one, Nat.one_ne_zero, w0, w1, w2, w3, w4, w5, w6, w7, w8, w9, w10, w11, w12, w13, w14, w15, w16, w17, w18, w19, w20, w21, w22, w23, w24, evGM_get, evGM_set, evGM_get0, evGM_set0, e0, hs, S, F, GO, hG, M2, h1, h2', n10, Option.toList, List.cons_append, List.nil_append, List.append_nil]
        · simp only [x139_53, x139_56, x139_59, x139_60, x139_61, x139_62, x139_64, x139_67, x139_68, x139_71, x139_72, x139_73, x139_76, x139_77, x139_78, x139_80, x139_81, x139_84, x139_85, x139_86, x139_89, x139_90, x139_93, x139_95, x139_97, x139_100, x139_102, x139_104, x139_107, x139_108, x139_111, x139_112, x139_114, x139_116, x139_119, x139_121, x139_124, x139_126, x139_128, x139_130, x139_133, x139_135, x139_138, x139_140, x139_142, x139_145, evI_i, evJl_i, evJf_i, evJd_i, evA_r, evA_n, evA_q, evLk_c, evS1_d, evS2_d, evFl_n, evFl_c, evGl_n, evGl_c, evIn_n, evIn_c, evCat_i, evCat_l, evCat_f, evCat_d, evCat_r, evCat_z, evCat_q, evBd_some, evTl_s, evTl_n, va_rf_s, va_rf_n, and_true, true_and, and_false, false_and, if_true, if_false, not_true_eq_false, not_false_eq_true, reduceCtorEq, ↓reduceIte, Nat.reduceAdd, Nat.reduceEqDiff, Nat.reduceLT, Nat.reduceLeDiff, Nat.reduceSub, Nat.zero_ne_one, Nat.one_ne_zero, w0, w1, w2, w3, w4, w5, w6, w7, w8, w9, w10, w11, w12, w13, w14, w15, w16, w17, w18, w19, w20, w21, w22, w23, w24, evGM_get, evGM_set, evGM_get0, evGM_set0, e0, hs, S, F, GO, hG, M2, h1, h2', n10, Option.toList, List.cons_append, List.nil_append, List.append_nil]
      · have h2' : bpG u lag n q b k ≤ r.2 := Int32.not_lt.mp h2
        refine ⟨0, ?_⟩
        rw [hR, if_neg (fun z => z.elim h1 h2)]
        conv => lhs; rw [x139_51]
        rcases he with rfl | ⟨x, y, rfl⟩
        · simp only [x139_53, x139_56, x139_59, x139_60, x139_61, x139_62, x139_64, x139_67, x139_68, x139_71, x139_72, x139_73, x139_76, x139_77, x139_78, x139_80, x139_81, x139_84, x139_85, x139_86, x139_89, x139_90, x139_93, x139_95, x139_97, x139_100, x139_102, x139_104, x139_107, x139_108, x139_111, x139_112, x139_114, x139_116, x139_119, x139_121, x139_124, x139_126, x139_128, x139_130, x139_133, x139_135, x139_138, x139_140, x139_142, x139_145, evI_i, evJl_i, evJf_i, evJd_i, evA_r, evA_n, evA_q, evLk_c, evS1_d, evS2_d, evFl_n, evFl_c, evGl_n, evGl_c, evIn_n, evIn_c, evCat_i, evCat_l, evCat_f, evCat_d, evCat_r, evCat_z, evCat_q, evBd_some, evTl_s, evTl_n, va_rf_s, va_rf_n, and_true, true_and, and_false, false_and, if_true, if_false, not_true_eq_false, not_false_eq_true, reduceCtorEq, ↓reduceIte, Nat.reduceAdd, Nat.reduceEqDiff, Nat.reduceLT, Nat.reduceLeDiff, Nat.reduceSub, Nat.zero_ne_one, Nat.one_ne_zero, w0, w1, w2, w3, w4, w5, w6, w7, w8, w9, w10, w11, w12, w13, w14, w15, w16, w17, w18, w19, w20, w21, w22, w23, w24, evGM_get, evGM_set, evGM_get0, evGM_set0, e0, hs, S, F, GO, hG, M2, h1, h2', n10, Option.toList, List.cons_append, List.nil_append, List.append_nil]
        · simp only [x139_53, x139_56, x139_59, x139_60, x139_61, x139_62, x139_64, x139_67, x139_68, x139_71, x139_72, x139_73, x139_76, x139_77, x139_78, x139_80, x139_81, x139_84, x139_85, x139_86, x139_89, x139_90, x139_93, x139_95, x139_97, x139_100, x139_102, x139_104, x139_107, x139_108, x139_111, x139_112, x139_114, x139_116, x139_119, x139_121, x139_124, x139_126, x139_128, x139_130, x139_133, x139_135, x139_138, x139_140, x139_142, x139_145, evI_i, evJl_i, evJf_i, evJd_i, evA_r, evA_n, evA_q, evLk_c, evS1_d, evS2_d, evFl_n, evFl_c, evGl_n, evGl_c, evIn_n, evIn_c, evCat_i, evCat_l, evCat_f, evCat_d, evCat_r, evCat_z, evCat_q, evBd_some, evTl_s, evTl_n, va_rf_s, va_rf_n, and_true, true_and, and_false, false_and, if_true, if_false, not_true_eq_false, not_false_eq_true, reduceCtorEq, ↓reduceIte, Nat.reduceAdd, Nat.reduceEqDiff, Nat.reduceLT, Nat.reduceLeDiff, Nat.reduceSub, Nat.zero_ne_one, Nat.one_ne_zero, w0, w1, w2, w3, w4, w5, w6, w7, w8, w9, w10, w11, w12, w13, w14, w15, w16, w17, w18, w19, w20, w21, w22, w23, w24, evGM_get, evGM_set, evGM_get0, evGM_set0, e0, hs, S, F, GO, hG, M2, h1, h2', n10, Option.toList, List.cons_append, List.nil_append, List.append_nil]
  obtain ⟨y, B⟩ := B
  exact ⟨_, Or.inr ⟨_, _, rfl⟩, B⟩
end MO
