/-! the class's object: what there is -/
def ofS (v : evVt) (k : Nat) (w : Int32) : Int32 := if w = 0 then v 2 k 0 else if w = 1 then v 2 k 1 else if w = 2 then v 2 k 3 else if w = 3 then v 2 k 4 else if w = 4 then v 2 k 5 else if w = 5 then v 2 k 6 else if w = 6 then v 2 k 7 else if w = 7 then (if v 1 3 0 = -6 then 0 else blP v k 1) else if w = 8 then (if v 1 3 0 = -6 then -6 else blP v k 0) else if w = 9 then v 2 k 2 else -2
def ofL (v : evVt) (k : Nat) (w : Int32) : Int32 := if w = 0 then v 4 k 0 else if w = 1 then v 4 k 1 else if w = 2 then (if v 4 k 1 = 2 then v 5 k 0 else -6) else if w = 3 then (if v 4 k 1 = 2 then v 4 k 2 else -6) else if w = 4 then v 4 k 3 else if w = 5 then v 5 k 1 else if w = 6 then v 5 k 0 else -2
def cntC (v : evVt) (p : Nat → Nat → Int32) (b q : Nat) (w : Int32) : Int32 := if w = 0 then v 1 4 0 else if w = 1 then v 1 0 0 else if w = 2 then v 1 1 0 else if w = 3 then v 1 3 0 else if w = 4 then soldV v q else if w = 5 then sumV v 4 b else if w = 6 then sumV v 6 b else if w = 7 then sumV v 7 b else if w = 8 then setAt v 0 else if w = 9 then setAt v 1 else if w = 10 then setAt v 2 else if w = 11 then setAt v 3 else if w = 12 then p 1 1 else if w = 13 then p 0 2 else -2
theorem itI {c : Prop} [Decidable c] (a b : Int32) (h : evH) (m : evM) : (some (some (Value.int (if c then a else b)), h, m) : Option evO) = if c then some (some (.int a), h, m) else some (some (.int b), h, m) := by split <;> rfl
section WA
variable {h : evH} {u p : Nat → Nat → Int32} {V : Nat → evVt} {n : Nat} {s : Nat → Option Nat}
theorem mW_at {i : Nat} (hi : i < 9 + n) (hn : n ≤ 2) (a j : Nat) : memW u p V n a j = putV (memW u p V n) (hb i) (V i) a j := congrFun (congrFun (memW_self hi hn) a) j
theorem W_of (hx : xOK h n s) {b : Nat} (hb6 : b ≤ 6) (hv : V 0 1 0 0 = nI b) (x w : Int32) : evX 53 0 [(0, .ref 0), (1, .int x), (2, .int w)] [] h (memW u p V n) = some (some (.int (if bAt (V 0) 0 x = none then -1 else ofS (V 0) x.toNatClampNeg w)), h, memW u p V n) := by
  obtain ⟨hn2, hN, a0, b0, b1, b2, b3, b4, a83, a84, l84, r83, r84, a372, r372, a373, l373, a374, l374, r374, rss, hH⟩ := id hx
  have h0 : 0 < 9 + n := by omega
  have H0 := hH 0 h0
  have h01 : evAt h 1 2 := H0.1
  have B := c_bidderAt (m := memW u p V n) (v := V 0) H0 x
  rw [← memW_self h0 hn2, hb0] at B
  have eb : (bAt (V 0) 1 x = none) = (bAt (V 0) 0 x = none) := bAt_n0 x
  rcases bAt_of (b := 1) (x := x) hb6 hv with ⟨k, hk, rfl, hbk⟩ | ⟨hbk, -⟩
  · have hk6 : k < 6 := by omega
    have hq : ¬ bAt (V 0) 0 (nI k) = none := by rw [← eb, hbk]; exact fun z => by cases z
    rw [if_neg hq, nI_cl k (by omega)]
    rw [hbk] at B
    have u1 : evAt h (hB 1 k) 1 := (H0.2.2.2.2.2.2.2.1 k hk6).1
    have D : ∀ j, j < 8 → memW u p V n (hB 1 k) j = V 0 2 k j := fun j hj => (mW_at h0 hn2 _ _).trans (pv_B hk6 hj)
    have d0 := D 0 (by omega)
    have d1 := D 1 (by omega)
    have d2 := D 2 (by omega)
    have d3 := D 3 (by omega)
    have d4 := D 4 (by omega)
    have d5 := D 5 (by omega)
    have d6 := D 6 (by omega)
    have d7 := D 7 (by omega)
    have dr : memW u p V n 1 4 = V 0 1 3 0 := (mW_at h0 hn2 _ _).trans (pv_H4 (b := 1))
    have BL := c_believed (m := memW u p V n) (v := V 0) H0 hk6
    rw [← memW_self h0 hn2, hb0] at BL
    have u2 : evAt h (blA (V 0) 1 k) 0 := blA_at H0 hk6
    have c0 : memW u p V n (blA (V 0) 1 k) 0 = blP (V 0) k 0 := (mW_at h0 hn2 _ _).trans (blP_at hk6 (by omega))
    have c1 : memW u p V n (blA (V 0) 1 k) 1 = blP (V 0) k 1 := (mW_at h0 hn2 _ _).trans (blP_at hk6 (by omega))
    simp only [x53_0, x53_1, x53_4, x53_5, x53_8, x53_8n, x53_8q, x53_9, x53_10n, x53_10, x53_10q, x53_13, x53_14, x53_15, x53_16, x53_72, x53_73, x53_76, x53_77, x53_78, x53_81, x53_82, x53_83, x53_86, x53_87, x53_88, x53_91, x53_92, x53_93, x53_96, x53_97, x53_98, x53_101, x53_102, x53_103, x53_106, x53_107, x53_108, x53_111, x53_114, x53_116, x53_119, x53_120, x53_123, x53_124, x53_127, x53_128, x53_131, x53_134, x53_135, x53_136, x53_139, x53_142, x53_144, x53_147, x53_149, x53_152, x53_153, x53_156, x53_157, x53_160, x53_163, x53_164, x53_165, x53_168, x53_169, x53_171, evI_i, evJl_i, evJf_i, evJd_i, evA_r, evA_n, evA_q, evLk_c, evS1_d, evS2_d, evFl_n, evFl_c, evGl_n, evGl_c, evIn_n, evIn_c, evCat_i, evCat_l, evCat_f, evCat_d, evCat_r, evCat_z, evCat_q, evBd_some, evTl_s, evTl_n, va_rf_s, va_rf_n, and_true, true_and, and_false, false_and, if_true, if_false, not_true_eq_false, not_false_eq_true, reduceCtorEq, ↓reduceIte, Nat.reduceAdd, Nat.reduceEqDiff, Nat.reduceLT, Nat.reduceLeDiff, Nat.reduceSub, Nat.zero_ne_one, Nat.one_ne_zero, a0, b0, b1, b2, b3, b4, a83, a84, l84, r83, a372, r372, a373, l373, a374, l374, memW_83, memW_372, memW_373, memW_s83, memW_s372, memW_s373, h01, B, u1, d0, d1, d2, d3, d4, d5, d6, d7, dr, BL, u2, c0, c1, Option.toList, List.nil_append, List.cons_append]
    unfold ofS
    simp only [itI, ite_not]
  · have hq : bAt (V 0) 0 x = none := by rw [← eb]; exact hbk
    rw [if_pos hq]
    rw [hbk] at B
    simp only [x53_0, x53_1, x53_4, x53_5, x53_8, x53_8n, x53_8q, x53_9, x53_10n, x53_10, x53_10q, x53_13, x53_14, x53_15, x53_16, x53_72, x53_73, x53_76, x53_77, x53_78, x53_81, x53_82, x53_83, x53_86, x53_87, x53_88, x53_91, x53_92, x53_93, x53_96, x53_97, x53_98, x53_101, x53_102, x53_103, x53_106, x53_107, x53_108, x53_111, x53_114, x53_116, x53_119, x53_120, x53_123, x53_124, x53_127, x53_128, x53_131, x53_134, x53_135, x53_136, x53_139, x53_142, x53_144, x53_147, x53_149, x53_152, x53_153, x53_156, x53_157, x53_160, x53_163, x53_164, x53_165, x53_168, x53_169, x53_171, evI_i, evJl_i, evJf_i, evJd_i, evA_r, evA_n, evA_q, evLk_c, evS1_d, evS2_d, evFl_n, evFl_c, evGl_n, evGl_c, evIn_n, evIn_c, evCat_i, evCat_l, evCat_f, evCat_d, evCat_r, evCat_z, evCat_q, evBd_some, evTl_s, evTl_n, va_rf_s, va_rf_n, and_true, true_and, and_false, false_and, if_true, if_false, not_true_eq_false, not_false_eq_true, reduceCtorEq, ↓reduceIte, Nat.reduceAdd, Nat.reduceEqDiff, Nat.reduceLT, Nat.reduceLeDiff, Nat.reduceSub, Nat.zero_ne_one, Nat.one_ne_zero, a0, b0, b1, b2, b3, b4, a83, a84, l84, r83, a372, r372, a373, l373, a374, l374, memW_83, memW_372, memW_373, memW_s83, memW_s372, memW_s373, h01, B, Option.toList, List.nil_append, List.cons_append]
theorem W_ofLot (hx : xOK h n s) {q : Nat} (hq8 : q ≤ 8) (hv : V 0 1 1 0 = nI q) (x w : Int32) : evX 54 0 [(0, .ref 0), (1, .int x), (2, .int w)] [] h (memW u p V n) = some (some (.int (if lAt (V 0) 0 x = none then -1 else ofL (V 0) x.toNatClampNeg w)), h, memW u p V n) := by
  obtain ⟨hn2, hN, a0, b0, b1, b2, b3, b4, a83, a84, l84, r83, r84, a372, r372, a373, l373, a374, l374, r374, rss, hH⟩ := id hx
  have h0 : 0 < 9 + n := by omega
  have H0 := hH 0 h0
  have h01 : evAt h 1 2 := H0.1
  have B := c_lotAt (m := memW u p V n) (v := V 0) H0 x
  rw [← memW_self h0 hn2, hb0] at B
  have eb : (lAt (V 0) 1 x = none) = (lAt (V 0) 0 x = none) := lAt_n0 x
  rcases lAt_of (b := 1) (x := x) hq8 hv with ⟨k, hk, rfl, hbk⟩ | ⟨hbk, -⟩
  · have hk8 : k < 8 := by omega
    have hq : ¬ lAt (V 0) 0 (nI k) = none := by rw [← eb, hbk]; exact fun z => by cases z
    rw [if_neg hq, nI_cl k (by omega)]
    rw [hbk] at B
    obtain ⟨u1, u2, u3, u4⟩ := H0.2.2.2.2.2.2.2.2.1 k hk8
    rw [hb0] at u1 u2 u3 u4
    have D : ∀ j, j < 5 → memW u p V n (hL 1 k) j = V 0 4 k j := fun j hj => (mW_at h0 hn2 _ _).trans (pv_L hk8 hj)
    have d0 := D 0 (by omega)
    have d1 := D 1 (by omega)
    have d2 := D 2 (by omega)
    have d3 := D 3 (by omega)
    have c0 : memW u p V n (hLh 1 k) 0 = V 0 5 k 0 := (mW_at h0 hn2 _ _).trans (pv_Lh hk8 (by omega))
    have c1 : memW u p V n (hLh 1 k) 1 = V 0 5 k 1 := (mW_at h0 hn2 _ _).trans (pv_Lh hk8 (by omega))
    simp only [x54_0, x54_1, x54_4, x54_5, x54_8, x54_8n, x54_8q, x54_9, x54_10n, x54_10, x54_10q, x54_13, x54_14, x54_15, x54_16, x54_60, x54_61, x54_64, x54_65, x54_66, x54_69, x54_70, x54_71, x54_74, x54_75, x54_78, x54_79, x54_82, x54_85, x54_88, x54_90, x54_91, x54_92, x54_95, x54_96, x54_99, x54_100, x54_103, x54_106, x54_108, x54_109, x54_110, x54_113, x54_114, x54_115, x54_118, x54_121, x54_122, x54_123, x54_126, x54_129, x54_130, x54_132, evI_i, evJl_i, evJf_i, evJd_i, evA_r, evA_n, evA_q, evLk_c, evS1_d, evS2_d, evFl_n, evFl_c, evGl_n, evGl_c, evIn_n, evIn_c, evCat_i, evCat_l, evCat_f, evCat_d, evCat_r, evCat_z, evCat_q, evBd_some, evTl_s, evTl_n, va_rf_s, va_rf_n, and_true, true_and, and_false, false_and, if_true, if_false, not_true_eq_false, not_false_eq_true, reduceCtorEq, ↓reduceIte, Nat.reduceAdd, Nat.reduceEqDiff, Nat.reduceLT, Nat.reduceLeDiff, Nat.reduceSub, Nat.zero_ne_one, Nat.one_ne_zero, a0, b0, b1, b2, b3, b4, a83, a84, l84, r83, a372, r372, a373, l373, a374, l374, memW_83, memW_372, memW_373, memW_s83, memW_s372, memW_s373, h01, B, u1, u2, u4, d0, d1, d2, d3, c0, c1, Option.toList, List.nil_append, List.cons_append]
    unfold ofL
    simp only [itI, ite_not]
  · have hq : lAt (V 0) 0 x = none := by rw [← eb]; exact hbk
    rw [if_pos hq]
    rw [hbk] at B
    simp only [x54_0, x54_1, x54_4, x54_5, x54_8, x54_8n, x54_8q, x54_9, x54_10n, x54_10, x54_10q, x54_13, x54_14, x54_15, x54_16, x54_60, x54_61, x54_64, x54_65, x54_66, x54_69, x54_70, x54_71, x54_74, x54_75, x54_78, x54_79, x54_82, x54_85, x54_88, x54_90, x54_91, x54_92, x54_95, x54_96, x54_99, x54_100, x54_103, x54_106, x54_108, x54_109, x54_110, x54_113, x54_114, x54_115, x54_118, x54_121, x54_122, x54_123, x54_126, x54_129, x54_130, x54_132, evI_i, evJl_i, evJf_i, evJd_i, evA_r, evA_n, evA_q, evLk_c, evS1_d, evS2_d, evFl_n, evFl_c, evGl_n, evGl_c, evIn_n, evIn_c, evCat_i, evCat_l, evCat_f, evCat_d, evCat_r, evCat_z, evCat_q, evBd_some, evTl_s, evTl_n, va_rf_s, va_rf_n, and_true, true_and, and_false, false_and, if_true, if_false, not_true_eq_false, not_false_eq_true, reduceCtorEq, ↓reduceIte, Nat.reduceAdd, Nat.reduceEqDiff, Nat.reduceLT, Nat.reduceLeDiff, Nat.reduceSub, Nat.zero_ne_one, Nat.one_ne_zero, a0, b0, b1, b2, b3, b4, a83, a84, l84, r83, a372, r372, a373, l373, a374, l374, memW_83, memW_372, memW_373, memW_s83, memW_s372, memW_s373, h01, B, Option.toList, List.nil_append, List.cons_append]
theorem W_count (hx : xOK h n s) {b q : Nat} (hb6 : b ≤ 6) (hv : V 0 1 0 0 = nI b) (hq8 : q ≤ 8) (hv1 : V 0 1 1 0 = nI q) (w : Int32) : evX 56 0 [(0, .ref 0), (1, .int w)] [] h (memW u p V n) = some (some (.int (cntC (V 0) p b q w)), h, memW u p V n) := by
  obtain ⟨hn2, hN, a0, b0, b1, b2, b3, b4, a83, a84, l84, r83, r84, a372, r372, a373, l373, a374, l374, r374, rss, hH⟩ := id hx
  have h0 : 0 < 9 + n := by omega
  have H0 := hH 0 h0
  have h01 : evAt h 1 2 := H0.1
  have S1 := c_lotsSold (m := memW u p V n) (v := V 0) H0 hq8 hv1
  have S2 := c_coinsPaid (m := memW u p V n) (v := V 0) H0 hb6 hv
  have S3 := c_bidsMade (m := memW u p V n) (v := V 0) H0 hb6 hv
  have S4 := c_shadowsMade (m := memW u p V n) (v := V 0) H0 hb6 hv
  have S5 : ∀ x, evX 12 0 [(0, .ref 1), (1, .int x)] [] h (memW u p V n) = some (some (.int (setAt (V 0) x)), h, memW u p V n) := fun x => by
    have C := c_settingAt (m := memW u p V n) (v := V 0) H0 x
    rw [← memW_self h0 hn2, hb0] at C
    exact C
  rw [← memW_self h0 hn2, hb0] at S1 S2 S3 S4
  have d1 : memW u p V n 1 1 = V 0 1 0 0 := (mW_at h0 hn2 _ _).trans (pv_H1 (b := 1))
  have d2 : memW u p V n 1 2 = V 0 1 1 0 := (mW_at h0 hn2 _ _).trans (pv_H2 (b := 1))
  have d4 : memW u p V n 1 4 = V 0 1 3 0 := (mW_at h0 hn2 _ _).trans (pv_H4 (b := 1))
  have d5 : memW u p V n 1 5 = V 0 1 4 0 := (mW_at h0 hn2 _ _).trans (pv_H5 (b := 1))
  simp only [x56_0, x56_1, x56_72, x56_73, x56_76, x56_79, x56_80, x56_81, x56_84, x56_87, x56_88, x56_89, x56_92, x56_95, x56_96, x56_97, x56_100, x56_103, x56_104, x56_105, x56_108, x56_111, x56_112, x56_113, x56_116, x56_119, x56_120, x56_121, x56_124, x56_127, x56_128, x56_129, x56_132, x56_135, x56_136, x56_137, x56_140, x56_141, x56_144, x56_145, x56_146, x56_149, x56_150, x56_153, x56_154, x56_155, x56_158, x56_159, x56_162, x56_163, x56_164, x56_167, x56_168, x56_171, x56_172, x56_173, x56_176, x56_179, x56_180, x56_181, x56_184, x56_187, x56_188, x56_190, evI_i, evJl_i, evJf_i, evJd_i, evA_r, evA_n, evA_q, evLk_c, evS1_d, evS2_d, evFl_n, evFl_c, evGl_n, evGl_c, evIn_n, evIn_c, evCat_i, evCat_l, evCat_f, evCat_d, evCat_r, evCat_z, evCat_q, evBd_some, evTl_s, evTl_n, va_rf_s, va_rf_n, and_true, true_and, and_false, false_and, if_true, if_false, not_true_eq_false, not_false_eq_true, reduceCtorEq, ↓reduceIte, Nat.reduceAdd, Nat.reduceEqDiff, Nat.reduceLT, Nat.reduceLeDiff, Nat.reduceSub, Nat.zero_ne_one, Nat.one_ne_zero, a0, b0, b1, b2, b3, b4, a83, a84, l84, r83, a372, r372, a373, l373, a374, l374, memW_83, memW_372, memW_373, memW_s83, memW_s372, memW_s373, h01, S1, S2, S3, S4, S5, d1, d2, d4, d5, Option.toList, List.nil_append, List.cons_append]
  unfold cntC
  simp only [itI, ite_not]
theorem W_made (hx : xOK h n s) (x w : Int32) : evX 55 0 [(0, .ref 0), (1, .int x), (2, .int w)] [] h (memW u p V n) = some (some (.int (if rcK x (V 0 7 0 0) = true then (if w < 0 ∨ 4 ≤ w then -2 else rcAt (memW u p V n (hRr 1)) (V 0 7 0 0) x w) else -1)), h, memW u p V n) := by
  obtain ⟨hn2, hN, a0, b0, b1, b2, b3, b4, a83, a84, l84, r83, r84, a372, r372, a373, l373, a374, l374, r374, rss, hH⟩ := id hx
  have h0 : 0 < 9 + n := by omega
  have H0 := hH 0 h0
  have h01 : evAt h 1 2 := H0.1
  obtain ⟨-, -, -, -, -, q5, ⟨q6, r6⟩, -, -, -, -, -, -, -, f9, f10⟩ := id H0
  rw [hb0] at q5 q6 r6 f9 f10
  have d : memW u p V n (hRc 1) 1 = V 0 7 0 0 := (mW_at h0 hn2 _ _).trans (pv_Rc (b := 1))
  have K := c_Recent_knows h (memW u p V n) (hRc 1) x q5
  have A := c_Recent_at h (memW u p V n) (hRc 1) (hRr 1) x w q5 f10 q6 r6
  rw [d] at K A
  have e1 : ¬ evBl true = 0 := by decide
  by_cases hk : rcK x (V 0 7 0 0) = true
  · rw [if_pos hk]
    rw [hk] at K
    by_cases h1 : w < 0
    · rw [if_pos (Or.inl h1)]
      simp only [x55_0, x55_1, x55_4, x55_7, x55_8, x55_11, x55_14, x55_15, x55_16, x55_17, x55_20, x55_21, x55_22, x55_25, x55_27, x55_28, x55_29, x55_32, x55_35, x55_36, x55_37, x55_40, evI_i, evJl_i, evJf_i, evJd_i, evA_r, evA_n, evA_q, evLk_c, evS1_d, evS2_d, evFl_n, evFl_c, evGl_n, evGl_c, evIn_n, evIn_c, evCat_i, evCat_l, evCat_f, evCat_d, evCat_r, evCat_z, evCat_q, evBd_some, evTl_s, evTl_n, va_rf_s, va_rf_n, and_true, true_and, and_false, false_and, if_true, if_false, not_true_eq_false, not_false_eq_true, reduceCtorEq, ↓reduceIte, Nat.reduceAdd, Nat.reduceEqDiff, Nat.reduceLT, Nat.reduceLeDiff, Nat.reduceSub, Nat.zero_ne_one, Nat.one_ne_zero, a0, b0, b1, b2, b3, b4, a83, a84, l84, r83, a372, r372, a373, l373, a374, l374, memW_83, memW_372, memW_373, memW_s83, memW_s372, memW_s373, h01, q5, f9, K, e1, h1, Option.toList, List.nil_append, List.cons_append]
    · by_cases h2 : 4 ≤ w
      · rw [if_pos (Or.inr h2)]
        have h2' : ¬ w < 4 := Int32.not_lt.mpr h2
        simp only [x55_0, x55_1, x55_4, x55_7, x55_8, x55_11, x55_14, x55_15, x55_16, x55_17, x55_20, x55_21, x55_22, x55_25, x55_27, x55_28, x55_29, x55_32, x55_35, x55_36, x55_37, x55_40, evI_i, evJl_i, evJf_i, evJd_i, evA_r, evA_n, evA_q, evLk_c, evS1_d, evS2_d, evFl_n, evFl_c, evGl_n, evGl_c, evIn_n, evIn_c, evCat_i, evCat_l, evCat_f, evCat_d, evCat_r, evCat_z, evCat_q, evBd_some, evTl_s, evTl_n, va_rf_s, va_rf_n, and_true, true_and, and_false, false_and, if_true, if_false, not_true_eq_false, not_false_eq_true, reduceCtorEq, ↓reduceIte, Nat.reduceAdd, Nat.reduceEqDiff, Nat.reduceLT, Nat.reduceLeDiff, Nat.reduceSub, Nat.zero_ne_one, Nat.one_ne_zero, a0, b0, b1, b2, b3, b4, a83, a84, l84, r83, a372, r372, a373, l373, a374, l374, memW_83, memW_372, memW_373, memW_s83, memW_s372, memW_s373, h01, q5, f9, K, e1, h1, h2, h2', Option.toList, List.nil_append, List.cons_append]
      · rw [if_neg (fun z => z.elim h1 h2)]
        have h2' : w < 4 := Int32.not_le.mp h2
        simp only [x55_0, x55_1, x55_4, x55_7, x55_8, x55_11, x55_14, x55_15, x55_16, x55_17, x55_20, x55_21, x55_22, x55_25, x55_27, x55_28, x55_29, x55_32, x55_35, x55_36, x55_37, x55_40, evI_i, evJl_i, evJf_i, evJd_i, evA_r, evA_n, evA_q, evLk_c, evS1_d, evS2_d, evFl_n, evFl_c, evGl_n, evGl_c, evIn_n, evIn_c, evCat_i, evCat_l, evCat_f, evCat_d, evCat_r, evCat_z, evCat_q, evBd_some, evTl_s, evTl_n, va_rf_s, va_rf_n, and_true, true_and, and_false, false_and, if_true, if_false, not_true_eq_false, not_false_eq_true, reduceCtorEq, ↓reduceIte, Nat.reduceAdd, Nat.reduceEqDiff, Nat.reduceLT, Nat.reduceLeDiff, Nat.reduceSub, Nat.zero_ne_one, Nat.one_ne_zero, a0, b0, b1, b2, b3, b4, a83, a84, l84, r83, a372, r372, a373, l373, a374, l374, memW_83, memW_372, memW_373, memW_s83, memW_s372, memW_s373, h01, q5, f9, K, A, e1, h1, h2, h2', Option.toList, List.nil_append, List.cons_append]
  · rw [if_neg hk]
    rw [b_ne hk] at K
    simp only [x55_0, x55_1, x55_4, x55_7, x55_8, x55_11, x55_14, x55_15, x55_16, x55_17, x55_20, x55_21, x55_22, x55_25, x55_27, x55_28, x55_29, x55_32, x55_35, x55_36, x55_37, x55_40, evI_i, evJl_i, evJf_i, evJd_i, evA_r, evA_n, evA_q, evLk_c, evS1_d, evS2_d, evFl_n, evFl_c, evGl_n, evGl_c, evIn_n, evIn_c, evCat_i, evCat_l, evCat_f, evCat_d, evCat_r, evCat_z, evCat_q, evBd_some, evTl_s, evTl_n, va_rf_s, va_rf_n, and_true, true_and, and_false, false_and, if_true, if_false, not_true_eq_false, not_false_eq_true, reduceCtorEq, ↓reduceIte, Nat.reduceAdd, Nat.reduceEqDiff, Nat.reduceLT, Nat.reduceLeDiff, Nat.reduceSub, Nat.zero_ne_one, Nat.one_ne_zero, a0, b0, b1, b2, b3, b4, a83, a84, l84, r83, a372, r372, a373, l373, a374, l374, memW_83, memW_372, memW_373, memW_s83, memW_s372, memW_s373, h01, q5, f9, K, evBl_f, Option.toList, List.nil_append, List.cons_append]
end WA
