/-! the class's object: what there is -/
def ofS (v : evVt) (k : Nat) (w : Int32) : Int32 := if w = 0 then v 2 k 0 else if w = 1 then v 2 k 1 else if w = 2 then v 2 k 3 else if w = 3 then v 2 k 4 else if w = 4 then v 2 k 5 else if w = 5 then v 2 k 6 else if w = 6 then v 2 k 7 else if w = 7 then (if v 1 3 0 = -6 then 0 else blP v k 1) else if w = 8 then (if v 1 3 0 = -6 then -6 else blP v k 0) else if w = 9 then v 2 k 2 else -2
def ofL (v : evVt) (k : Nat) (w : Int32) : Int32 := if w = 0 then v 4 k 0 else if w = 1 then v 4 k 1 else if w = 2 then (if v 4 k 1 = 2 then v 5 k 0 else -6) else if w = 3 then (if v 4 k 1 = 2 then v 4 k 2 else -6) else if w = 4 then v 4 k 3 else if w = 5 then v 5 k 1 else if w = 6 then v 5 k 0 else -2
def cntC (v : evVt) (p : Nat → Nat → Int32) (b q : Nat) (w : Int32) : Int32 := if w = 0 then v 1 4 0 else if w = 1 then v 1 0 0 else if w = 2 then v 1 1 0 else if w = 3 then v 1 3 0 else if w = 4 then soldV v q else if w = 5 then sumV v 4 b else if w = 6 then sumV v 6 b else if w = 7 then sumV v 7 b else if w = 8 then setAt v 0 else if w = 9 then setAt v 1 else if w = 10 then setAt v 2 else if w = 11 then setAt v 3 else if w = 12 then p 1 1 else if w = 13 then p 0 2 else -2
theorem itI {c : Prop} [Decidable c] (a b : Int32) (h : evH) (m : evM) : (some (some (Value.int (if c then a else b)), h, m) : Option evO) = if c then some (some (.int a), h, m) else some (some (.int b), h, m) := by split <;> rfl
section WA
variable {h : evH} {u p : Nat → Nat → Int32} {V : Nat → evVt} {n : Nat} {s : Nat → Option Nat}
theorem mW_at {i : Nat} (hi : i < 9 + n) (hn : n ≤ 2) (a j : Nat) : memW u p V n a j = putV (memW u p V n) (hb i) (V i) a j := congrFun (congrFun (memW_self hi hn) a) j
theorem W_of (hx : xOK h n s) {b : Nat} (hb6 : b ≤ 6) (hv : V 0 1 0 0 = nI b) (x w : Int32) : evX 66 0 [(0, .ref 0), (1, .int x), (2, .int w)] [] h (memW u p V n) = some (some (.int (if bAt (V 0) 0 x = none then -1 else ofS (V 0) x.toNatClampNeg w)), h, memW u p V n) := by
  obtain ⟨hn2, hN, a0, b0, b1, b2, b3, b4, a83, a84, l84, r83, r84, a372, r372, a373, l373, a374, l374, r374, rss, hH⟩ := id hx
  have h0 : 0 < 9 + n := by omega
  have H0 := hH 0 h0
  have h01 : evAt h 1 2 := H0.1
  have B := c_bidderAt (m := memW u p V n) (v := V 0) H0 x
  rw [← memW_self h0 hn2, hb0] at B
  have eb : (bAt (V 0) 1 x = none) = (bAt (V 0) 0 x = none) := bAt_n0 x
  rcases bAt_of (b := 1) (x := x) hb6 hv with ⟨k, hk, rfl, hbk⟩ | ⟨hbk, -⟩
  · have hk6 : k < 6 := by omega
    have hq : ¬ bAt (V 0) 0 (nI k) = none := by rw [← eb, hbk]; exact fun z => by cases z
    rw [if_neg hq, nI_cl k (by omega)]
    rw [hbk] at B
    have u1 : evAt h (hB 1 k) 1 := (H0.2.2.2.2.2.2.2.1 k hk6).1
    have D : ∀ j, j < 8 → memW u p V n (hB 1 k) j = V 0 2 k j := fun j hj => (mW_at h0 hn2 _ _).trans (pv_B hk6 hj)
    have d0 := D 0 (by omega)
    have d1 := D 1 (by omega)
    have d2 := D 2 (by omega)
    have d3 := D 3 (by omega)
    have d4 := D 4 (by omega)
    have d5 := D 5 (by omega)
    have d6 := D 6 (by omega)
    have d7 := D 7 (by omega)
    have dr : memW u p V n 1 4 = V 0 1 3 0 := (mW_at h0 hn2 _ _).trans (pv_H4 (b := 1))
    have BL := c_believed (m := memW u p V n) (v := V 0) H0 hk6
    rw [← memW_self h0 hn2, hb0] at BL
    have u2 : evAt h (blA (V 0) 1 k) 0 := blA_at H0 hk6
    have c0 : memW u p V n (blA (V 0) 1 k) 0 = blP (V 0) k 0 := (mW_at h0 hn2 _ _).trans (blP_at hk6 (by omega))
    have c1 : memW u p V n (blA (V 0) 1 k) 1 = blP (V 0) k 1 := (mW_at h0 hn2 _ _).trans (blP_at hk6 (by omega))
    simp only [x66_0, x66_1, x66_4, x66_5, x66_8, x66_8n, x66_8q, x66_9, x66_10n, x66_10, x66_10q, x66_13, x66_14, x66_15, x66_16, x66_72, x66_73, x66_76, x66_77, x66_78, x66_81, x66_82, x66_83, x66_86, x66_87, x66_88, x66_91, x66_92, x66_93, x66_96, x66_97, x66_98, x66_101, x66_102, x66_103, x66_106, x66_107, x66_108, x66_111, x66_114, x66_116, x66_119, x66_120, x66_123, x66_124, x66_127, x66_128, x66_131, x66_134, x66_135, x66_136, x66_139, x66_142, x66_144, x66_147, x66_149, x66_152, x66_153, x66_156, x66_157, x66_160, x66_163, x66_164, x66_165, x66_168, x66_169, x66_171, evI_i, evJl_i, evJf_i, evJd_i, evA_r, evA_n, evA_q, evLk_c, evS1_d, evS2_d, evFl_n, evFl_c, evGl_n, evGl_c, evIn_n, evIn_c, evCat_i, evCat_l, evCat_f, evCat_d, evCat_r, evCat_z, evCat_q, evBd_some, evTl_s, evTl_n, va_rf_s, va_rf_n, and_true, true_and, and_false, false_and, if_true, if_false, not_true_eq_false, not_false_eq_true, reduceCtorEq, ↓reduceIte, Nat.reduceAdd, Nat.reduceEqDiff, Nat.reduceLT, Nat.reduceLeDiff, Nat.reduceSub, Nat.zero_ne_one, Nat.one_ne_zero, a0, b0, b1, b2, b3, b4, a83, a84, l84, r83, a372, r372, a373, l373, a374, l374, memW_83, memW_372, memW_373, memW_s83, memW_s372, memW_s373, h01, B, u1, d0, d1, d2, d3, d4, d5, d6, d7, dr, BL, u2, c0, c1, Option.toList, List.nil_append, List.cons_append]
    unfold ofS
    simp only [itI, ite_not]
  · have hq : bAt (V 0) 0 x = none := by rw [← eb]; exact hbk
    rw [if_pos hq]
    rw [hbk] at B
    simp only [x66_0, x66_1, x66_4, x66_5, x66_8, x66_8n, x66_8q, x66_9, x66_10n, x66_10, x66_10q, x66_13, x66_14, x66_15, x66_16, x66_72, x66_73, x66_76, x66_77, x66_78, x66_81, x66_82, x66_83, x66_86, x66_87, x66_88, x66_91, x66_92, x66_93, x66_96, x66_97, x66_98, x66_101, x66_102, x66_103, x66_106, x66_107, x66_108, x66_111, x66_114, x66_116, x66_119, x66_120, x66_123, x66_124, x66_127, x66_128, x66_131, x66_134, x66_135, x66_136, x66_139, x66_142, x66_144, x66_147, x66_149, x66_152, x66_153, x66_156, x66_157, x66_160, x66_163, x66_164, x66_165, x66_168, x66_169, x66_171, evI_i, evJl_i, evJf_i, evJd_i, evA_r, evA_n, evA_q, evLk_c, evS1_d, evS2_d, evFl_n, evFl_c, evGl_n, evGl_c, evIn_n, evIn_c, evCat_i, evCat_l, evCat_f, evCat_d, evCat_r, evCat_z, evCat_q, evBd_some, evTl_s, evTl_n, va_rf_s, va_rf_n, and_true, true_and, and_false, false_and, if_true, if_false, not_true_eq_false, not_false_eq_true, reduceCtorEq, ↓reduceIte, Nat.reduceAdd, Nat.reduceEqDiff, Nat.reduceLT, Nat.reduceLeDiff, Nat.reduceSub, Nat.zero_ne_one, Nat.one_ne_zero, a0, b0, b1, b2, b3, b4, a83, a84, l84, r83, a372, r372, a373, l373, a374, l374, memW_83, memW_372, memW_373, memW_s83, memW_s372, memW_s373, h01, B, Option.toList, List.nil_append, List.cons_append]
theorem W_ofLot (hx : xOK h n s) {q : Nat} (hq8 : q ≤ 8) (hv : V 0 1 1 0 = nI q) (x w : Int32) : evX 67 0 [(0, .ref 0), (1, .int x), (2, .int w)] [] h (memW u p V n) = some (some (.int (if lAt (V 0) 0 x = none then -1 else ofL (V 0) x.toNatClampNeg w)), h, memW u p V n) := by
  obtain ⟨hn2, hN, a0, b0, b1, b2, b3, b4, a83, a84, l84, r83, r84, a372, r372, a373, l373, a374, l374, r374, rss, hH⟩ := id hx
  have h0 : 0 < 9 + n := by omega
  have H0 := hH 0 h0
  have h01 : evAt h 1 2 := H0.1
  have B := c_lotAt (m := memW u p V n) (v := V 0) H0 x
  rw [← memW_self h0 hn2, hb0] at B
  have eb : (lAt (V 0) 1 x = none) = (lAt (V 0) 0 x = none) := lAt_n0 x
  rcases lAt_of (b := 1) (x := x) hq8 hv with ⟨k, hk, rfl, hbk⟩ | ⟨hbk, -⟩
  · have hk8 : k < 8 := by omega
    have hq : ¬ lAt (V 0) 0 (nI k) = none := by rw [← eb, hbk]; exact fun z => by cases z
    rw [if_neg hq, nI_cl k (by omega)]
    rw [hbk] at B
    obtain ⟨u1, u2, u3, u4⟩ := H0.2.2.2.2.2.2.2.2.1 k hk8
    rw [hb0] at u1 u2 u3 u4
    have D : ∀ j, j < 5 → memW u p V n (hL 1 k) j = V 0 4 k j := fun j hj => (mW_at h0 hn2 _ _).trans (pv_L hk8 hj)
    have d0 := D 0 (by omega)
    have d1 := D 1 (by omega)
    have d2 := D 2 (by omega)
    have d3 := D 3 (by omega)
    have c0 : memW u p V n (hLh 1 k) 0 = V 0 5 k 0 := (mW_at h0 hn2 _ _).trans (pv_Lh hk8 (by omega))
    have c1 : memW u p V n (hLh 1 k) 1 = V 0 5 k 1 := (mW_at h0 hn2 _ _).trans (pv_Lh hk8 (by omega))
    simp only [x67_0, x67_1, x67_4, x67_5, x67_8, x67_8n, x67_8q, x67_9, x67_10n, x67_10, x67_10q, x67_13, x67_14, x67_15, x67_16, x67_60, x67_61, x67_64, x67_65, x67_66, x67_69, x67_70, x67_71, x67_74, x67_75, x67_78, x67_79, x67_82, x67_85, x67_88, x67_90, x67_91, x67_92, x67_95, x67_96, x67_99, x67_100, x67_103, x67_106, x67_108, x67_109, x67_110, x67_113, x67_114, x67_115, x67_118, x67_121, x67_122, x67_123, x67_126, x67_129, x67_130, x67_132, evI_i, evJl_i, evJf_i, evJd_i, evA_r, evA_n, evA_q, evLk_c, evS1_d, evS2_d, evFl_n, evFl_c, evGl_n, evGl_c, evIn_n, evIn_c, evCat_i, evCat_l, evCat_f, evCat_d, evCat_r, evCat_z, evCat_q, evBd_some, evTl_s, evTl_n, va_rf_s, va_rf_n, and_true, true_and, and_false, false_and, if_true, if_false, not_true_eq_false, not_false_eq_true, reduceCtorEq, ↓reduceIte, Nat.reduceAdd, Nat.reduceEqDiff, Nat.reduceLT, Nat.reduceLeDiff, Nat.reduceSub, Nat.zero_ne_one, Nat.one_ne_zero, a0, b0, b1, b2, b3, b4, a83, a84, l84, r83, a372, r372, a373, l373, a374, l374, memW_83, memW_372, memW_373, memW_s83, memW_s372, memW_s373, h01, B, u1, u2, u4, d0, d1, d2, d3, c0, c1, Option.toList, List.nil_append, List.cons_append]
    unfold ofL
    simp only [itI, ite_not]
  · have hq : lAt (V 0) 0 x = none := by rw [← eb]; exact hbk
    rw [if_pos hq]
    rw [hbk] at B
    simp only [x67_0, x67_1, x67_4, x67_5, x67_8, x67_8n, x67_8q, x67_9, x67_10n, x67_10, x67_10q, x67_13, x67_14, x67_15, x67_16, x67_60, x67_61, x67_64, x67_65, x67_66, x67_69, x67_70, x67_71, x67_74, x67_75, x67_78, x67_79, x67_82, x67_85, x67_88, x67_90, x67_91, x67_92, x67_95, x67_96, x67_99, x67_100, x67_103, x67_106, x67_108, x67_109, x67_110, x67_113, x67_114, x67_115, x67_118, x67_121, x67_122, x67_123, x67_126, x67_129, x67_130, x67_132, evI_i, evJl_i, evJf_i, evJd_i, evA_r, evA_n, evA_q, evLk_c, evS1_d, evS2_d, evFl_n, evFl_c, evGl_n, evGl_c, evIn_n, evIn_c, evCat_i, evCat_l, evCat_f, evCat_d, evCat_r, evCat_z, evCat_q, evBd_some, evTl_s, evTl_n, va_rf_s, va_rf_n, and_true, true_and, and_false, false_and, if_true, if_false, not_true_eq_false, not_false_eq_true, reduceCtorEq, ↓reduceIte, Nat.reduceAdd, Nat.reduceEqDiff, Nat.reduceLT, Nat.reduceLeDiff, Nat.reduceSub, Nat.zero_ne_one, Nat.one_ne_zero, a0, b0, b1, b2, b3, b4, a83, a84, l84, r83, a372, r372, a373, l373, a374, l374, memW_83, memW_372, memW_373, memW_s83, memW_s372, memW_s373, h01, B, Option.toList, List.nil_append, List.cons_append]
theorem W_count (hx : xOK h n s) {b q : Nat} (hb6 : b ≤ 6) (hv : V 0 1 0 0 = nI b) (hq8 : q ≤ 8) (hv1 : V 0 1 1 0 = nI q) (w : Int32) : evX 69 0 [(0, .ref 0), (1, .int w)] [] h (memW u p V n) = some (some (.int (cntC (V 0) p b q w)), h, memW u p V n) := by
  obtain ⟨hn2, hN, a0, b0, b1, b2, b3, b4, a83, a84, l84, r83, r84, a372, r372, a373, l373, a374, l374, r374, rss, hH⟩ := id hx
  have h0 : 0 < 9 + n := by omega
  have H0 := hH 0 h0
  have h01 : evAt h 1 2 := H0.1
  have S1 := c_lotsSold (m := memW u p V n) (v := V 0) H0 hq8 hv1
  have S2 := c_coinsPaid (m := memW u p V n) (v := V 0) H0 hb6 hv
  have S3 := c_bidsMade (m := memW u p V n) (v := V 0) H0 hb6 hv
  have S4 := c_shadowsMade (m := memW u p V n) (v := V 0) H0 hb6 hv
  have S5 : ∀ x, evX 12 0 [(0, .ref 1), (1, .int x)] [] h (memW u p V n) = some (some (.int (setAt (V 0) x)), h, memW u p V n) := fun x => by
    have C := c_settingAt (m := memW u p V n) (v := V 0) H0 x
    rw [← memW_self h0 hn2, hb0] at C
    exact C
  rw [← memW_self h0 hn2, hb0] at S1 S2 S3 S4
  have d1 : memW u p V n 1 1 = V 0 1 0 0 := (mW_at h0 hn2 _ _).trans (pv_H1 (b := 1))
  have d2 : memW u p V n 1 2 = V 0 1 1 0 := (mW_at h0 hn2 _ _).trans (pv_H2 (b := 1))
  have d4 : memW u p V n 1 4 = V 0 1 3 0 := (mW_at h0 hn2 _ _).trans (pv_H4 (b := 1))
  have d5 : memW u p V n 1 5 = V 0 1 4 0 := (mW_at h0 hn2 _ _).trans (pv_H5 (b := 1))
  simp only [x69_0, x69_1, x69_72, x69_73, x69_76, x69_79, x69_80, x69_81, x69_84, x69_87, x69_88, x69_89, x69_92, x69_95, x69_96, x69_97, x69_100, x69_103, x69_104, x69_105, x69_108, x69_111, x69_112, x69_113, x69_116, x69_119, x69_120, x69_121, x69_124, x69_127, x69_128, x69_129, x69_132, x69_135, x69_136, x69_137, x69_140, x69_141, x69_144, x69_145, x69_146, x69_149, x69_150, x69_153, x69_154, x69_155, x69_158, x69_159, x69_162, x69_163, x69_164, x69_167, x69_168, x69_171, x69_172, x69_173, x69_176, x69_179, x69_180, x69_181, x69_184, x69_187, x69_188, x69_190, evI_i, evJl_i, evJf_i, evJd_i, evA_r, evA_n, evA_q, evLk_c, evS1_d, evS2_d, evFl_n, evFl_c, evGl_n, evGl_c, evIn_n, evIn_c, evCat_i, evCat_l, evCat_f, evCat_d, evCat_r, evCat_z, evCat_q, evBd_some, evTl_s, evTl_n, va_rf_s, va_rf_n, and_true, true_and, and_false, false_and, if_true, if_false, not_true_eq_false, not_false_eq_true, reduceCtorEq, ↓reduceIte, Nat.reduceAdd, Nat.reduceEqDiff, Nat.reduceLT, Nat.reduceLeDiff, Nat.reduceSub, Nat.zero_ne_one, Nat.one_ne_zero, a0, b0, b1, b2, b3, b4, a83, a84, l84, r83, a372, r372, a373, l373, a374, l374, memW_83, memW_372, memW_373, memW_s83, memW_s372, memW_s373, h01, S1, S2, S3, S4, S5, d1, d2, d4, d5, Option.toList, List.nil_append, List.cons_append]
  unfold cntC
  simp only [itI, ite_not]
theorem W_made (hx : xOK h n s) (x w : Int32) : evX 68 0 [(0, .ref 0), (1, .int x), (2, .int w)] [] h (memW u p V n) = some (some (.int (if rcK x (V 0 7 0 0) = true then (if w < 0 ∨ 4 ≤ w then -2 else rcAt (memW u p V n (hRr 1)) (V 0 7 0 0) x w) else -1)), h, memW u p V n) := by
  obtain ⟨hn2, hN, a0, b0, b1, b2, b3, b4, a83, a84, l84, r83, r84, a372, r372, a373, l373, a374, l374, r374, rss, hH⟩ := id hx
  have h0 : 0 < 9 + n := by omega
  have H0 := hH 0 h0
  have h01 : evAt h 1 2 := H0.1
  obtain ⟨-, -, -, -, -, q5, ⟨q6, r6⟩, -, -, -, -, -, -, -, f9, f10⟩ := id H0
  rw [hb0] at q5 q6 r6 f9 f10
  have d : memW u p V n (hRc 1) 1 = V 0 7 0 0 := (mW_at h0 hn2 _ _).trans (pv_Rc (b := 1))
  have K := c_Recent_knows h (memW u p V n) (hRc 1) x q5
  have A := c_Recent_at h (memW u p V n) (hRc 1) (hRr 1) x w q5 f10 q6 r6
  rw [d] at K A
  have e1 : ¬ evBl true = 0 := by decide
  by_cases hk : rcK x (V 0 7 0 0) = true
  · rw [if_pos hk]
    rw [hk] at K
    by_cases h1 : w < 0
    · rw [if_pos (Or.inl h1)]
      simp only [x68_0, x68_1, x68_4, x68_7, x68_8, x68_11, x68_14, x68_15, x68_16, x68_17, x68_20, x68_21, x68_22, x68_25, x68_27, x68_28, x68_29, x68_32, x68_35, x68_36, x68_37, x68_40, evI_i, evJl_i, evJf_i, evJd_i, evA_r, evA_n, evA_q, evLk_c, evS1_d, evS2_d, evFl_n, evFl_c, evGl_n, evGl_c, evIn_n, evIn_c, evCat_i, evCat_l, evCat_f, evCat_d, evCat_r, evCat_z, evCat_q, evBd_some, evTl_s, evTl_n, va_rf_s, va_rf_n, and_true, true_and, and_false, false_and, if_true, if_false, not_true_eq_false, not_false_eq_true, reduceCtorEq, ↓reduceIte, Nat.reduceAdd, Nat.reduceEqDiff, Nat.reduceLT, Nat.reduceLeDiff, Nat.reduceSub, Nat.zero_ne_one, Nat.one_ne_zero, a0, b0, b1, b2, b3, b4, a83, a84, l84, r83, a372, r372, a373, l373, a374, l374, memW_83, memW_372, memW_373, memW_s83, memW_s372, memW_s373, h01, q5, f9, K, e1, h1, Option.toList, List.nil_append, List.cons_append]
    · by_cases h2 : 4 ≤ w
      · rw [if_pos (Or.inr h2)]
        have h2' : ¬ w < 4 := Int32.not_lt.mpr h2
        simp only [x68_0, x68_1, x68_4, x68_7, x68_8, x68_11, x68_14, x68_15, x68_16, x68_17, x68_20, x68_21, x68_22, x68_25, x68_27, x68_28, x68_29, x68_32, x68_35, x68_36, x68_37, x68_40, evI_i, evJl_i, evJf_i, evJd_i, evA_r, evA_n, evA_q, evLk_c, evS1_d, evS2_d, evFl_n, evFl_c, evGl_n, evGl_c, evIn_n, evIn_c, evCat_i, evCat_l, evCat_f, evCat_d, evCat_r, evCat_z, evCat_q, evBd_some, evTl_s, evTl_n, va_rf_s, va_rf_n, and_true, true_and, and_false, false_and, if_true, if_false, not_true_eq_false, not_false_eq_true, reduceCtorEq, ↓reduceIte, Nat.reduceAdd, Nat.reduceEqDiff, Nat.reduceLT, Nat.reduceLeDiff, Nat.reduceSub, Nat.zero_ne_one, Nat.one_ne_zero, a0, b0, b1, b2, b3, b4, a83, a84, l84, r83, a372, r372, a373, l373, a374, l374, memW_83, memW_372, memW_373, memW_s83, memW_s372, memW_s373, h01, q5, f9, K, e1, h1, h2, h2', Option.toList, List.nil_append, List.cons_append]
      · rw [if_neg (fun z => z.elim h1 h2)]
        have h2' : w < 4 := Int32.not_le.mp h2
        simp only [x68_0, x68_1, x68_4, x68_7, x68_8, x68_11, x68_14, x68_15, x68_16, x68_17, x68_20, x68_21, x68_22, x68_25, x68_27, x68_28, x68_29, x68_32, x68_35, x68_36, x68_37, x68_40, evI_i, evJl_i, evJf_i, evJd_i, evA_r, evA_n, evA_q, evLk_c, evS1_d, evS2_d, evFl_n, evFl_c, evGl_n, evGl_c, evIn_n, evIn_c, evCat_i, evCat_l, evCat_f, evCat_d, evCat_r, evCat_z, evCat_q, evBd_some, evTl_s, evTl_n, va_rf_s, va_rf_n, and_true, true_and, and_false, false_and, if_true, if_false, not_true_eq_false, not_false_eq_true, reduceCtorEq, ↓reduceIte, Nat.reduceAdd, Nat.reduceEqDiff, Nat.reduceLT, Nat.reduceLeDiff, Nat.reduceSub, Nat.zero_ne_one, Nat.one_ne_zero, a0, b0, b1, b2, b3, b4, a83, a84, l84, r83, a372, r372, a373, l373, a374, l374, memW_83, memW_372, memW_373, memW_s83, memW_s372, memW_s373, h01, q5, f9, K, A, e1, h1, h2, h2', Option.toList, List.nil_append, List.cons_append]
  · rw [if_neg hk]
    rw [b_ne hk] at K
    simp only [x68_0, x68_1, x68_4, x68_7, x68_8, x68_11, x68_14, x68_15, x68_16, x68_17, x68_20, x68_21, x68_22, x68_25, x68_27, x68_28, x68_29, x68_32, x68_35, x68_36, x68_37, x68_40, evI_i, evJl_i, evJf_i, evJd_i, evA_r, evA_n, evA_q, evLk_c, evS1_d, evS2_d, evFl_n, evFl_c, evGl_n, evGl_c, evIn_n, evIn_c, evCat_i, evCat_l, evCat_f, evCat_d, evCat_r, evCat_z, evCat_q, evBd_some, evTl_s, evTl_n, va_rf_s, va_rf_n, and_true, true_and, and_false, false_and, if_true, if_false, not_true_eq_false, not_false_eq_true, reduceCtorEq, ↓reduceIte, Nat.reduceAdd, Nat.reduceEqDiff, Nat.reduceLT, Nat.reduceLeDiff, Nat.reduceSub, Nat.zero_ne_one, Nat.one_ne_zero, a0, b0, b1, b2, b3, b4, a83, a84, l84, r83, a372, r372, a373, l373, a374, l374, memW_83, memW_372, memW_373, memW_s83, memW_s372, memW_s373, h01, q5, f9, K, evBl_f, Option.toList, List.nil_append, List.cons_append]
end WA
