/-! the law's loop: a case each -/
def lwL (i : Nat) : evL := [(0, .ref (evO9 + 2)), (1, .ref 0), (2, .ref 375), (3, .int (nI (3 * i)))]
def stepD (h : evH) (n : Nat) (u p : Nat → Nat → Int32) (V : Nat → evVt) : Prop := ∃ (a : Int64) (h' : evH) (s' : Nat → Option Nat) (n' : Nat) (u' p' : Nat → Nat → Int32) (V' : Nat → evVt) (x' k' L' : Nat), evX 71 0 [(0, .ref 0)] [] h (memW u p V n) = some (some (.long a), h', memW u p' V' n') ∧ evX 133 0 [(0, .ref 375)] [] h' (memW u p' V' n') = some (some (.long a), h', memW u' p' V' n') ∧ LR h' s' n' u' p' V' x' k' L' ∧ evSp h' = evSp h
theorem cmp_self (a : Int64) : lg_cmp a a = 0 := by
  unfold lg_cmp
  rw [if_neg (fun z => Int64.lt_irrefl z), if_pos rfl]
theorem sw_0 (lv : evL) (st : List Value) (h : evH) (mi : evM) : evX 164 32 lv (.int 0 :: st) h mi = evX 164 136 lv st h mi := by
  rw [x164_32, if_pos rfl]
theorem sw_1 (lv : evL) (st : List Value) (h : evH) (mi : evM) : evX 164 32 lv (.int 1 :: st) h mi = evX 164 169 lv st h mi := by
  rw [x164_32, if_neg (by decide), if_pos rfl]
theorem sw_2 (lv : evL) (st : List Value) (h : evH) (mi : evM) : evX 164 32 lv (.int 2 :: st) h mi = evX 164 202 lv st h mi := by
  rw [x164_32, if_neg (by decide), if_neg (by decide), if_pos rfl]
theorem sw_3 (lv : evL) (st : List Value) (h : evH) (mi : evM) : evX 164 32 lv (.int 3 :: st) h mi = evX 164 235 lv st h mi := by
  rw [x164_32, if_neg (by decide), if_neg (by decide), if_neg (by decide), if_pos rfl]
theorem sw_4 (lv : evL) (st : List Value) (h : evH) (mi : evM) : evX 164 32 lv (.int 4 :: st) h mi = evX 164 258 lv st h mi := by
  rw [x164_32, if_neg (by decide), if_neg (by decide), if_neg (by decide), if_neg (by decide), if_pos rfl]
theorem sw_5 (lv : evL) (st : List Value) (h : evH) (mi : evM) : evX 164 32 lv (.int 5 :: st) h mi = evX 164 291 lv st h mi := by
  rw [x164_32, if_neg (by decide), if_neg (by decide), if_neg (by decide), if_neg (by decide), if_neg (by decide), if_pos rfl]
theorem sw_6 (lv : evL) (st : List Value) (h : evH) (mi : evM) : evX 164 32 lv (.int 6 :: st) h mi = evX 164 314 lv st h mi := by
  rw [x164_32, if_neg (by decide), if_neg (by decide), if_neg (by decide), if_neg (by decide), if_neg (by decide), if_neg (by decide), if_pos rfl]
theorem sw_7 (lv : evL) (st : List Value) (h : evH) (mi : evM) : evX 164 32 lv (.int 7 :: st) h mi = evX 164 347 lv st h mi := by
  rw [x164_32, if_neg (by decide), if_neg (by decide), if_neg (by decide), if_neg (by decide), if_neg (by decide), if_neg (by decide), if_neg (by decide), if_pos rfl]
theorem sw_8 (lv : evL) (st : List Value) (h : evH) (mi : evM) : evX 164 32 lv (.int 8 :: st) h mi = evX 164 380 lv st h mi := by
  rw [x164_32, if_neg (by decide), if_neg (by decide), if_neg (by decide), if_neg (by decide), if_neg (by decide), if_neg (by decide), if_neg (by decide), if_neg (by decide), if_pos rfl]
theorem sw_9 (lv : evL) (st : List Value) (h : evH) (mi : evM) : evX 164 32 lv (.int 9 :: st) h mi = evX 164 413 lv st h mi := by
  rw [x164_32, if_neg (by decide), if_neg (by decide), if_neg (by decide), if_neg (by decide), if_neg (by decide), if_neg (by decide), if_neg (by decide), if_neg (by decide), if_neg (by decide), if_pos rfl]
theorem sw_10 (lv : evL) (st : List Value) (h : evH) (mi : evM) : evX 164 32 lv (.int 10 :: st) h mi = evX 164 436 lv st h mi := by
  rw [x164_32, if_neg (by decide), if_neg (by decide), if_neg (by decide), if_neg (by decide), if_neg (by decide), if_neg (by decide), if_neg (by decide), if_neg (by decide), if_neg (by decide), if_neg (by decide), if_pos rfl]
theorem sw_11 (lv : evL) (st : List Value) (h : evH) (mi : evM) : evX 164 32 lv (.int 11 :: st) h mi = evX 164 449 lv st h mi := by
  rw [x164_32, if_neg (by decide), if_neg (by decide), if_neg (by decide), if_neg (by decide), if_neg (by decide), if_neg (by decide), if_neg (by decide), if_neg (by decide), if_neg (by decide), if_neg (by decide), if_neg (by decide), if_pos rfl]
theorem sw_12 (lv : evL) (st : List Value) (h : evH) (mi : evM) : evX 164 32 lv (.int 12 :: st) h mi = evX 164 463 lv st h mi := by
  rw [x164_32, if_neg (by decide), if_neg (by decide), if_neg (by decide), if_neg (by decide), if_neg (by decide), if_neg (by decide), if_neg (by decide), if_neg (by decide), if_neg (by decide), if_neg (by decide), if_neg (by decide), if_neg (by decide), if_pos rfl]
theorem sw_13 (lv : evL) (st : List Value) (h : evH) (mi : evM) : evX 164 32 lv (.int 13 :: st) h mi = evX 164 476 lv st h mi := by
  rw [x164_32, if_neg (by decide), if_neg (by decide), if_neg (by decide), if_neg (by decide), if_neg (by decide), if_neg (by decide), if_neg (by decide), if_neg (by decide), if_neg (by decide), if_neg (by decide), if_neg (by decide), if_neg (by decide), if_neg (by decide), if_pos rfl]
theorem sw_14 (lv : evL) (st : List Value) (h : evH) (mi : evM) : evX 164 32 lv (.int 14 :: st) h mi = evX 164 499 lv st h mi := by
  rw [x164_32, if_neg (by decide), if_neg (by decide), if_neg (by decide), if_neg (by decide), if_neg (by decide), if_neg (by decide), if_neg (by decide), if_neg (by decide), if_neg (by decide), if_neg (by decide), if_neg (by decide), if_neg (by decide), if_neg (by decide), if_neg (by decide), if_pos rfl]
theorem sw_15 (lv : evL) (st : List Value) (h : evH) (mi : evM) : evX 164 32 lv (.int 15 :: st) h mi = evX 164 532 lv st h mi := by
  rw [x164_32, if_neg (by decide), if_neg (by decide), if_neg (by decide), if_neg (by decide), if_neg (by decide), if_neg (by decide), if_neg (by decide), if_neg (by decide), if_neg (by decide), if_neg (by decide), if_neg (by decide), if_neg (by decide), if_neg (by decide), if_neg (by decide), if_neg (by decide), if_pos rfl]
theorem sw_16 (lv : evL) (st : List Value) (h : evH) (mi : evM) : evX 164 32 lv (.int 16 :: st) h mi = evX 164 585 lv st h mi := by
  rw [x164_32, if_neg (by decide), if_neg (by decide), if_neg (by decide), if_neg (by decide), if_neg (by decide), if_neg (by decide), if_neg (by decide), if_neg (by decide), if_neg (by decide), if_neg (by decide), if_neg (by decide), if_neg (by decide), if_neg (by decide), if_neg (by decide), if_neg (by decide), if_neg (by decide), if_pos rfl]
theorem sw_17 (lv : evL) (st : List Value) (h : evH) (mi : evM) : evX 164 32 lv (.int 17 :: st) h mi = evX 164 598 lv st h mi := by
  rw [x164_32, if_neg (by decide), if_neg (by decide), if_neg (by decide), if_neg (by decide), if_neg (by decide), if_neg (by decide), if_neg (by decide), if_neg (by decide), if_neg (by decide), if_neg (by decide), if_neg (by decide), if_neg (by decide), if_neg (by decide), if_neg (by decide), if_neg (by decide), if_neg (by decide), if_neg (by decide), if_pos rfl]
theorem sw_18 (lv : evL) (st : List Value) (h : evH) (mi : evM) : evX 164 32 lv (.int 18 :: st) h mi = evX 164 611 lv st h mi := by
  rw [x164_32, if_neg (by decide), if_neg (by decide), if_neg (by decide), if_neg (by decide), if_neg (by decide), if_neg (by decide), if_neg (by decide), if_neg (by decide), if_neg (by decide), if_neg (by decide), if_neg (by decide), if_neg (by decide), if_neg (by decide), if_neg (by decide), if_neg (by decide), if_neg (by decide), if_neg (by decide), if_neg (by decide), if_pos rfl]
theorem sw_19 (lv : evL) (st : List Value) (h : evH) (mi : evM) : evX 164 32 lv (.int 19 :: st) h mi = evX 164 624 lv st h mi := by
  rw [x164_32, if_neg (by decide), if_neg (by decide), if_neg (by decide), if_neg (by decide), if_neg (by decide), if_neg (by decide), if_neg (by decide), if_neg (by decide), if_neg (by decide), if_neg (by decide), if_neg (by decide), if_neg (by decide), if_neg (by decide), if_neg (by decide), if_neg (by decide), if_neg (by decide), if_neg (by decide), if_neg (by decide), if_neg (by decide), if_pos rfl]
theorem sw_20 (lv : evL) (st : List Value) (h : evH) (mi : evM) : evX 164 32 lv (.int 20 :: st) h mi = evX 164 637 lv st h mi := by
  rw [x164_32, if_neg (by decide), if_neg (by decide), if_neg (by decide), if_neg (by decide), if_neg (by decide), if_neg (by decide), if_neg (by decide), if_neg (by decide), if_neg (by decide), if_neg (by decide), if_neg (by decide), if_neg (by decide), if_neg (by decide), if_neg (by decide), if_neg (by decide), if_neg (by decide), if_neg (by decide), if_neg (by decide), if_neg (by decide), if_neg (by decide), if_pos rfl]
theorem sw_21 (lv : evL) (st : List Value) (h : evH) (mi : evM) : evX 164 32 lv (.int 21 :: st) h mi = evX 164 660 lv st h mi := by
  rw [x164_32, if_neg (by decide), if_neg (by decide), if_neg (by decide), if_neg (by decide), if_neg (by decide), if_neg (by decide), if_neg (by decide), if_neg (by decide), if_neg (by decide), if_neg (by decide), if_neg (by decide), if_neg (by decide), if_neg (by decide), if_neg (by decide), if_neg (by decide), if_neg (by decide), if_neg (by decide), if_neg (by decide), if_neg (by decide), if_neg (by decide), if_neg (by decide), if_pos rfl]
section LP
variable {h : evH} {s : Nat → Option Nat} {n : Nat} {u p : Nat → Nat → Int32} {V : Nat → evVt} {x k Lp L : Nat} {xs : Nat → Int32}
def nxt (i L : Nat) (xs : Nat → Int32) (h : evH) (n : Nat) (u p : Nat → Nat → Int32) (V : Nat → evVt) : Prop := ∃ (h' : evH) (s' : Nat → Option Nat) (n' : Nat) (u' p' : Nat → Nat → Int32) (V' : Nat → evVt) (x' k' L' : Nat), evX 164 18 (lwL i) [] h (memW u p V n) = evX 164 18 (lwL (i + 1)) [] h' (memW u' p' V' n') ∧ LR h' s' n' u' p' V' x' k' L' ∧ evSp h' = evSp0 L xs
theorem hd_i {i : Nat} (hsp : evSp h = evSp0 L xs) (hi : 3 * i + 3 ≤ L) (hL : L ≤ 1536) (mi : evM) : evX 164 18 (lwL i) [] h mi = evX 164 32 (lwL i) [.int (xs (3 * i) &&& 31)] h mi := by
  have hs2 : evSp h 2 = (L, xs) := by rw [hsp]; rfl
  have e3 : Int32.ofNat L - 3 = nI (L - 3) := pk_sub (a := L) (b := 3) (by omega)
  have e4 : ¬ nI (L - 3) < nI (3 * i) := nI_nlt (by omega) (by omega)
  have e5 : ¬ nI (3 * i) < 0 := nI_pos (by omega)
  have e6 : (nI (3 * i)).toNatClampNeg = 3 * i := nI_cl _ (by omega)
  have e7 : 3 * i < L := by omega
  have l2 : 2 < 3 := by decide
  unfold lwL
  simp only [x164_18, x164_19, x164_20s, x164_21, x164_22, x164_23, x164_26, x164_27, x164_28, x164_28s, x164_29, x164_31, x164_20i, x164_20b, x164_20d, x164_20h, x164_20l, evI_i, evJl_i, evJf_i, evJd_i, evA_r, evA_n, evA_q, evLk_c, evS1_d, evS2_d, evFl_n, evFl_c, evGl_n, evGl_c, evIn_n, evIn_c, evCat_i, evCat_l, evCat_f, evCat_d, evCat_r, evCat_z, evCat_q, evBd_some, evTl_s, evTl_n, va_rf_s, va_rf_n, and_true, true_and, and_false, false_and, if_true, if_false, not_true_eq_false, not_false_eq_true, reduceCtorEq, ↓reduceIte, Nat.reduceAdd, Nat.reduceEqDiff, Nat.reduceLT, Nat.reduceLeDiff, Nat.reduceSub, Nat.zero_ne_one, Nat.one_ne_zero, hs2, e3, e4, e5, e6, e7, l2]
theorem lc_0 (H : LR h s n u p V x k Lp) (hsp : evSp h = evSp0 L xs) {i : Nat} (hi : 3 * i + 3 ≤ L) (hL : L ≤ 1536) (hw : xs (3 * i) &&& 31 = 0) : nxt i L xs h n u p V := by
  obtain ⟨a, h', s', n', u', p', V', x', k', L', S1, S2, H', hsp'⟩ := S_set H (xs (3 * i + 1)) (xs (3 * i + 2))
  have hs2 : evSp h 2 = (L, xs) := by rw [hsp]; rfl
  have hs2' : evSp h' 2 = (L, xs) := by rw [hsp', hsp]; rfl
  have a0 : evAt h 0 7 := H.1.2.2.1
  have b0 : evAt h' 375 8 := H'.2.1.1
  have f1 : nI (3 * i) + 1 = nI (3 * i + 1) := (nI_succ _).symm
  have f2 : nI (3 * i) + 2 = nI (3 * i + 2) := nI_add (3 * i) 2
  have g1 : ¬ nI (3 * i + 1) < 0 := nI_pos (by omega)
  have g2 : ¬ nI (3 * i + 2) < 0 := nI_pos (by omega)
  have c1 : (nI (3 * i + 1)).toNatClampNeg = 3 * i + 1 := nI_cl _ (by omega)
  have c2 : (nI (3 * i + 2)).toNatClampNeg = 3 * i + 2 := nI_cl _ (by omega)
  have k1 : 3 * i + 1 < L := by omega
  have k2 : 3 * i + 2 < L := by omega
  have l2 : 2 < 3 := by decide
  have f3 : nI (3 * i) + 3 = nI (3 * (i + 1)) := nI_add (3 * i) 3
  refine ⟨h', s', n', u', p', V', x', k', L', ?_, H', hsp'.trans hsp⟩
  rw [hd_i hsp hi hL, hw, sw_0]
  unfold lwL
  simp only [x164_136, x164_137, x164_138, x164_139, x164_140, x164_141, x164_141s, x164_142, x164_143, x164_144, x164_145, x164_146, x164_146s, x164_147, x164_150, x164_151, x164_152, x164_153, x164_154, x164_155, x164_155s, x164_156, x164_157, x164_158, x164_159, x164_160, x164_160s, x164_161, x164_164, x164_167, x164_168_0, x164_168_1, x164_168b, x164_683, x164_686, evI_i, evJl_i, evJf_i, evJd_i, evA_r, evA_n, evA_q, evLk_c, evS1_d, evS2_d, evFl_n, evFl_c, evGl_n, evGl_c, evIn_n, evIn_c, evCat_i, evCat_l, evCat_f, evCat_d, evCat_r, evCat_z, evCat_q, evBd_some, evTl_s, evTl_n, va_rf_s, va_rf_n, and_true, true_and, and_false, false_and, if_true, if_false, not_true_eq_false, not_false_eq_true, reduceCtorEq, ↓reduceIte, Nat.reduceAdd, Nat.reduceEqDiff, Nat.reduceLT, Nat.reduceLeDiff, Nat.reduceSub, Nat.zero_ne_one, Nat.one_ne_zero, hs2, hs2', a0, b0, f1, f2, g1, g2, c1, c2, k1, k2, l2, f3, S1, S2, cmp_self, Option.toList, List.nil_append, List.cons_append]
theorem lc_1 (H : LR h s n u p V x k Lp) (hsp : evSp h = evSp0 L xs) {i : Nat} (hi : 3 * i + 3 ≤ L) (hL : L ≤ 1536) (hw : xs (3 * i) &&& 31 = 1) : nxt i L xs h n u p V := by
  obtain ⟨a, h', s', n', u', p', V', x', k', L', S1, S2, H', hsp'⟩ := S_bidder H (xs (3 * i + 1)) (xs (3 * i + 2))
  have hs2 : evSp h 2 = (L, xs) := by rw [hsp]; rfl
  have hs2' : evSp h' 2 = (L, xs) := by rw [hsp', hsp]; rfl
  have a0 : evAt h 0 7 := H.1.2.2.1
  have b0 : evAt h' 375 8 := H'.2.1.1
  have f1 : nI (3 * i) + 1 = nI (3 * i + 1) := (nI_succ _).symm
  have f2 : nI (3 * i) + 2 = nI (3 * i + 2) := nI_add (3 * i) 2
  have g1 : ¬ nI (3 * i + 1) < 0 := nI_pos (by omega)
  have g2 : ¬ nI (3 * i + 2) < 0 := nI_pos (by omega)
  have c1 : (nI (3 * i + 1)).toNatClampNeg = 3 * i + 1 := nI_cl _ (by omega)
  have c2 : (nI (3 * i + 2)).toNatClampNeg = 3 * i + 2 := nI_cl _ (by omega)
  have k1 : 3 * i + 1 < L := by omega
  have k2 : 3 * i + 2 < L := by omega
  have l2 : 2 < 3 := by decide
  have f3 : nI (3 * i) + 3 = nI (3 * (i + 1)) := nI_add (3 * i) 3
  refine ⟨h', s', n', u', p', V', x', k', L', ?_, H', hsp'.trans hsp⟩
  rw [hd_i hsp hi hL, hw, sw_1]
  unfold lwL
  simp only [x164_169, x164_170, x164_171, x164_172, x164_173, x164_174, x164_174s, x164_175, x164_176, x164_177, x164_178, x164_179, x164_179s, x164_180, x164_183, x164_184, x164_185, x164_186, x164_187, x164_188, x164_188s, x164_189, x164_190, x164_191, x164_192, x164_193, x164_193s, x164_194, x164_197, x164_200, x164_201_0, x164_201_1, x164_201b, x164_683, x164_686, evI_i, evJl_i, evJf_i, evJd_i, evA_r, evA_n, evA_q, evLk_c, evS1_d, evS2_d, evFl_n, evFl_c, evGl_n, evGl_c, evIn_n, evIn_c, evCat_i, evCat_l, evCat_f, evCat_d, evCat_r, evCat_z, evCat_q, evBd_some, evTl_s, evTl_n, va_rf_s, va_rf_n, and_true, true_and, and_false, false_and, if_true, if_false, not_true_eq_false, not_false_eq_true, reduceCtorEq, ↓reduceIte, Nat.reduceAdd, Nat.reduceEqDiff, Nat.reduceLT, Nat.reduceLeDiff, Nat.reduceSub, Nat.zero_ne_one, Nat.one_ne_zero, hs2, hs2', a0, b0, f1, f2, g1, g2, c1, c2, k1, k2, l2, f3, S1, S2, cmp_self, Option.toList, List.nil_append, List.cons_append]
theorem lc_2 (H : LR h s n u p V x k Lp) (hsp : evSp h = evSp0 L xs) {i : Nat} (hi : 3 * i + 3 ≤ L) (hL : L ≤ 1536) (hw : xs (3 * i) &&& 31 = 2) : nxt i L xs h n u p V := by
  obtain ⟨a, h', s', n', u', p', V', x', k', L', S1, S2, H', hsp'⟩ := S_plan H (xs (3 * i + 1)) (xs (3 * i + 2))
  have hs2 : evSp h 2 = (L, xs) := by rw [hsp]; rfl
  have hs2' : evSp h' 2 = (L, xs) := by rw [hsp', hsp]; rfl
  have a0 : evAt h 0 7 := H.1.2.2.1
  have b0 : evAt h' 375 8 := H'.2.1.1
  have f1 : nI (3 * i) + 1 = nI (3 * i + 1) := (nI_succ _).symm
  have f2 : nI (3 * i) + 2 = nI (3 * i + 2) := nI_add (3 * i) 2
  have g1 : ¬ nI (3 * i + 1) < 0 := nI_pos (by omega)
  have g2 : ¬ nI (3 * i + 2) < 0 := nI_pos (by omega)
  have c1 : (nI (3 * i + 1)).toNatClampNeg = 3 * i + 1 := nI_cl _ (by omega)
  have c2 : (nI (3 * i + 2)).toNatClampNeg = 3 * i + 2 := nI_cl _ (by omega)
  have k1 : 3 * i + 1 < L := by omega
  have k2 : 3 * i + 2 < L := by omega
  have l2 : 2 < 3 := by decide
  have f3 : nI (3 * i) + 3 = nI (3 * (i + 1)) := nI_add (3 * i) 3
  refine ⟨h', s', n', u', p', V', x', k', L', ?_, H', hsp'.trans hsp⟩
  rw [hd_i hsp hi hL, hw, sw_2]
  unfold lwL
  simp only [x164_202, x164_203, x164_204, x164_205, x164_206, x164_207, x164_207s, x164_208, x164_209, x164_210, x164_211, x164_212, x164_212s, x164_213, x164_216, x164_217, x164_218, x164_219, x164_220, x164_221, x164_221s, x164_222, x164_223, x164_224, x164_225, x164_226, x164_226s, x164_227, x164_230, x164_233, x164_234_0, x164_234_1, x164_234b, x164_683, x164_686, evI_i, evJl_i, evJf_i, evJd_i, evA_r, evA_n, evA_q, evLk_c, evS1_d, evS2_d, evFl_n, evFl_c, evGl_n, evGl_c, evIn_n, evIn_c, evCat_i, evCat_l, evCat_f, evCat_d, evCat_r, evCat_z, evCat_q, evBd_some, evTl_s, evTl_n, va_rf_s, va_rf_n, and_true, true_and, and_false, false_and, if_true, if_false, not_true_eq_false, not_false_eq_true, reduceCtorEq, ↓reduceIte, Nat.reduceAdd, Nat.reduceEqDiff, Nat.reduceLT, Nat.reduceLeDiff, Nat.reduceSub, Nat.zero_ne_one, Nat.one_ne_zero, hs2, hs2', a0, b0, f1, f2, g1, g2, c1, c2, k1, k2, l2, f3, S1, S2, cmp_self, Option.toList, List.nil_append, List.cons_append]
theorem lc_3 (H : LR h s n u p V x k Lp) (hsp : evSp h = evSp0 L xs) {i : Nat} (hi : 3 * i + 3 ≤ L) (hL : L ≤ 1536) (hw : xs (3 * i) &&& 31 = 3) : nxt i L xs h n u p V := by
  obtain ⟨a, h', s', n', u', p', V', x', k', L', S1, S2, H', hsp'⟩ := S_lot H (xs (3 * i + 1))
  have hs2 : evSp h 2 = (L, xs) := by rw [hsp]; rfl
  have hs2' : evSp h' 2 = (L, xs) := by rw [hsp', hsp]; rfl
  have a0 : evAt h 0 7 := H.1.2.2.1
  have b0 : evAt h' 375 8 := H'.2.1.1
  have f1 : nI (3 * i) + 1 = nI (3 * i + 1) := (nI_succ _).symm
  have f2 : nI (3 * i) + 2 = nI (3 * i + 2) := nI_add (3 * i) 2
  have g1 : ¬ nI (3 * i + 1) < 0 := nI_pos (by omega)
  have g2 : ¬ nI (3 * i + 2) < 0 := nI_pos (by omega)
  have c1 : (nI (3 * i + 1)).toNatClampNeg = 3 * i + 1 := nI_cl _ (by omega)
  have c2 : (nI (3 * i + 2)).toNatClampNeg = 3 * i + 2 := nI_cl _ (by omega)
  have k1 : 3 * i + 1 < L := by omega
  have k2 : 3 * i + 2 < L := by omega
  have l2 : 2 < 3 := by decide
  have f3 : nI (3 * i) + 3 = nI (3 * (i + 1)) := nI_add (3 * i) 3
  refine ⟨h', s', n', u', p', V', x', k', L', ?_, H', hsp'.trans hsp⟩
  rw [hd_i hsp hi hL, hw, sw_3]
  unfold lwL
  simp only [x164_235, x164_236, x164_237, x164_238, x164_239, x164_240, x164_240s, x164_241, x164_244, x164_245, x164_246, x164_247, x164_248, x164_249, x164_249s, x164_250, x164_253, x164_256, x164_257_0, x164_257_1, x164_257b, x164_683, x164_686, evI_i, evJl_i, evJf_i, evJd_i, evA_r, evA_n, evA_q, evLk_c, evS1_d, evS2_d, evFl_n, evFl_c, evGl_n, evGl_c, evIn_n, evIn_c, evCat_i, evCat_l, evCat_f, evCat_d, evCat_r, evCat_z, evCat_q, evBd_some, evTl_s, evTl_n, va_rf_s, va_rf_n, and_true, true_and, and_false, false_and, if_true, if_false, not_true_eq_false, not_false_eq_true, reduceCtorEq, ↓reduceIte, Nat.reduceAdd, Nat.reduceEqDiff, Nat.reduceLT, Nat.reduceLeDiff, Nat.reduceSub, Nat.zero_ne_one, Nat.one_ne_zero, hs2, hs2', a0, b0, f1, f2, g1, g2, c1, c2, k1, k2, l2, f3, S1, S2, cmp_self, Option.toList, List.nil_append, List.cons_append]
theorem lc_4 (H : LR h s n u p V x k Lp) (hsp : evSp h = evSp0 L xs) {i : Nat} (hi : 3 * i + 3 ≤ L) (hL : L ≤ 1536) (hw : xs (3 * i) &&& 31 = 4) : nxt i L xs h n u p V := by
  obtain ⟨a, h', s', n', u', p', V', x', k', L', S1, S2, H', hsp'⟩ := S_bid H (xs (3 * i + 1)) (xs (3 * i + 2))
  have hs2 : evSp h 2 = (L, xs) := by rw [hsp]; rfl
  have hs2' : evSp h' 2 = (L, xs) := by rw [hsp', hsp]; rfl
  have a0 : evAt h 0 7 := H.1.2.2.1
  have b0 : evAt h' 375 8 := H'.2.1.1
  have f1 : nI (3 * i) + 1 = nI (3 * i + 1) := (nI_succ _).symm
  have f2 : nI (3 * i) + 2 = nI (3 * i + 2) := nI_add (3 * i) 2
  have g1 : ¬ nI (3 * i + 1) < 0 := nI_pos (by omega)
  have g2 : ¬ nI (3 * i + 2) < 0 := nI_pos (by omega)
  have c1 : (nI (3 * i + 1)).toNatClampNeg = 3 * i + 1 := nI_cl _ (by omega)
  have c2 : (nI (3 * i + 2)).toNatClampNeg = 3 * i + 2 := nI_cl _ (by omega)
  have k1 : 3 * i + 1 < L := by omega
  have k2 : 3 * i + 2 < L := by omega
  have l2 : 2 < 3 := by decide
  have f3 : nI (3 * i) + 3 = nI (3 * (i + 1)) := nI_add (3 * i) 3
  refine ⟨h', s', n', u', p', V', x', k', L', ?_, H', hsp'.trans hsp⟩
  rw [hd_i hsp hi hL, hw, sw_4]
  unfold lwL
  simp only [x164_258, x164_259, x164_260, x164_261, x164_262, x164_263, x164_263s, x164_264, x164_265, x164_266, x164_267, x164_268, x164_268s, x164_269, x164_272, x164_273, x164_274, x164_275, x164_276, x164_277, x164_277s, x164_278, x164_279, x164_280, x164_281, x164_282, x164_282s, x164_283, x164_286, x164_289, x164_290_0, x164_290_1, x164_290b, x164_683, x164_686, evI_i, evJl_i, evJf_i, evJd_i, evA_r, evA_n, evA_q, evLk_c, evS1_d, evS2_d, evFl_n, evFl_c, evGl_n, evGl_c, evIn_n, evIn_c, evCat_i, evCat_l, evCat_f, evCat_d, evCat_r, evCat_z, evCat_q, evBd_some, evTl_s, evTl_n, va_rf_s, va_rf_n, and_true, true_and, and_false, false_and, if_true, if_false, not_true_eq_false, not_false_eq_true, reduceCtorEq, ↓reduceIte, Nat.reduceAdd, Nat.reduceEqDiff, Nat.reduceLT, Nat.reduceLeDiff, Nat.reduceSub, Nat.zero_ne_one, Nat.one_ne_zero, hs2, hs2', a0, b0, f1, f2, g1, g2, c1, c2, k1, k2, l2, f3, S1, S2, cmp_self, Option.toList, List.nil_append, List.cons_append]
theorem lc_5 (H : LR h s n u p V x k Lp) (hsp : evSp h = evSp0 L xs) {i : Nat} (hi : 3 * i + 3 ≤ L) (hL : L ≤ 1536) (hw : xs (3 * i) &&& 31 = 5) : nxt i L xs h n u p V := by
  obtain ⟨a, h', s', n', u', p', V', x', k', L', S1, S2, H', hsp'⟩ := S_pass H (xs (3 * i + 1))
  have hs2 : evSp h 2 = (L, xs) := by rw [hsp]; rfl
  have hs2' : evSp h' 2 = (L, xs) := by rw [hsp', hsp]; rfl
  have a0 : evAt h 0 7 := H.1.2.2.1
  have b0 : evAt h' 375 8 := H'.2.1.1
  have f1 : nI (3 * i) + 1 = nI (3 * i + 1) := (nI_succ _).symm
  have f2 : nI (3 * i) + 2 = nI (3 * i + 2) := nI_add (3 * i) 2
  have g1 : ¬ nI (3 * i + 1) < 0 := nI_pos (by omega)
  have g2 : ¬ nI (3 * i + 2) < 0 := nI_pos (by omega)
  have c1 : (nI (3 * i + 1)).toNatClampNeg = 3 * i + 1 := nI_cl _ (by omega)
  have c2 : (nI (3 * i + 2)).toNatClampNeg = 3 * i + 2 := nI_cl _ (by omega)
  have k1 : 3 * i + 1 < L := by omega
  have k2 : 3 * i + 2 < L := by omega
  have l2 : 2 < 3 := by decide
  have f3 : nI (3 * i) + 3 = nI (3 * (i + 1)) := nI_add (3 * i) 3
  refine ⟨h', s', n', u', p', V', x', k', L', ?_, H', hsp'.trans hsp⟩
  rw [hd_i hsp hi hL, hw, sw_5]
  unfold lwL
  simp only [x164_291, x164_292, x164_293, x164_294, x164_295, x164_296, x164_296s, x164_297, x164_300, x164_301, x164_302, x164_303, x164_304, x164_305, x164_305s, x164_306, x164_309, x164_312, x164_313_0, x164_313_1, x164_313b, x164_683, x164_686, evI_i, evJl_i, evJf_i, evJd_i, evA_r, evA_n, evA_q, evLk_c, evS1_d, evS2_d, evFl_n, evFl_c, evGl_n, evGl_c, evIn_n, evIn_c, evCat_i, evCat_l, evCat_f, evCat_d, evCat_r, evCat_z, evCat_q, evBd_some, evTl_s, evTl_n, va_rf_s, va_rf_n, and_true, true_and, and_false, false_and, if_true, if_false, not_true_eq_false, not_false_eq_true, reduceCtorEq, ↓reduceIte, Nat.reduceAdd, Nat.reduceEqDiff, Nat.reduceLT, Nat.reduceLeDiff, Nat.reduceSub, Nat.zero_ne_one, Nat.one_ne_zero, hs2, hs2', a0, b0, f1, f2, g1, g2, c1, c2, k1, k2, l2, f3, S1, S2, cmp_self, Option.toList, List.nil_append, List.cons_append]
theorem lc_6 (H : LR h s n u p V x k Lp) (hsp : evSp h = evSp0 L xs) {i : Nat} (hi : 3 * i + 3 ≤ L) (hL : L ≤ 1536) (hw : xs (3 * i) &&& 31 = 6) : nxt i L xs h n u p V := by
  obtain ⟨a, h', s', n', u', p', V', x', k', L', S1, S2, H', hsp'⟩ := S_of H (xs (3 * i + 1)) (xs (3 * i + 2))
  have hs2 : evSp h 2 = (L, xs) := by rw [hsp]; rfl
  have hs2' : evSp h' 2 = (L, xs) := by rw [hsp', hsp]; rfl
  have a0 : evAt h 0 7 := H.1.2.2.1
  have b0 : evAt h' 375 8 := H'.2.1.1
  have f1 : nI (3 * i) + 1 = nI (3 * i + 1) := (nI_succ _).symm
  have f2 : nI (3 * i) + 2 = nI (3 * i + 2) := nI_add (3 * i) 2
  have g1 : ¬ nI (3 * i + 1) < 0 := nI_pos (by omega)
  have g2 : ¬ nI (3 * i + 2) < 0 := nI_pos (by omega)
  have c1 : (nI (3 * i + 1)).toNatClampNeg = 3 * i + 1 := nI_cl _ (by omega)
  have c2 : (nI (3 * i + 2)).toNatClampNeg = 3 * i + 2 := nI_cl _ (by omega)
  have k1 : 3 * i + 1 < L := by omega
  have k2 : 3 * i + 2 < L := by omega
  have l2 : 2 < 3 := by decide
  have f3 : nI (3 * i) + 3 = nI (3 * (i + 1)) := nI_add (3 * i) 3
  refine ⟨h', s', n', u', p', V', x', k', L', ?_, H', hsp'.trans hsp⟩
  rw [hd_i hsp hi hL, hw, sw_6]
  unfold lwL
  simp only [x164_314, x164_315, x164_316, x164_317, x164_318, x164_319, x164_319s, x164_320, x164_321, x164_322, x164_323, x164_324, x164_324s, x164_325, x164_328, x164_329, x164_330, x164_331, x164_332, x164_333, x164_333s, x164_334, x164_335, x164_336, x164_337, x164_338, x164_338s, x164_339, x164_342, x164_345, x164_346_0, x164_346_1, x164_346b, x164_683, x164_686, evI_i, evJl_i, evJf_i, evJd_i, evA_r, evA_n, evA_q, evLk_c, evS1_d, evS2_d, evFl_n, evFl_c, evGl_n, evGl_c, evIn_n, evIn_c, evCat_i, evCat_l, evCat_f, evCat_d, evCat_r, evCat_z, evCat_q, evBd_some, evTl_s, evTl_n, va_rf_s, va_rf_n, and_true, true_and, and_false, false_and, if_true, if_false, not_true_eq_false, not_false_eq_true, reduceCtorEq, ↓reduceIte, Nat.reduceAdd, Nat.reduceEqDiff, Nat.reduceLT, Nat.reduceLeDiff, Nat.reduceSub, Nat.zero_ne_one, Nat.one_ne_zero, hs2, hs2', a0, b0, f1, f2, g1, g2, c1, c2, k1, k2, l2, f3, S1, S2, cmp_self, Option.toList, List.nil_append, List.cons_append]
theorem lc_7 (H : LR h s n u p V x k Lp) (hsp : evSp h = evSp0 L xs) {i : Nat} (hi : 3 * i + 3 ≤ L) (hL : L ≤ 1536) (hw : xs (3 * i) &&& 31 = 7) : nxt i L xs h n u p V := by
  obtain ⟨a, h', s', n', u', p', V', x', k', L', S1, S2, H', hsp'⟩ := S_ofLot H (xs (3 * i + 1)) (xs (3 * i + 2))
  have hs2 : evSp h 2 = (L, xs) := by rw [hsp]; rfl
  have hs2' : evSp h' 2 = (L, xs) := by rw [hsp', hsp]; rfl
  have a0 : evAt h 0 7 := H.1.2.2.1
  have b0 : evAt h' 375 8 := H'.2.1.1
  have f1 : nI (3 * i) + 1 = nI (3 * i + 1) := (nI_succ _).symm
  have f2 : nI (3 * i) + 2 = nI (3 * i + 2) := nI_add (3 * i) 2
  have g1 : ¬ nI (3 * i + 1) < 0 := nI_pos (by omega)
  have g2 : ¬ nI (3 * i + 2) < 0 := nI_pos (by omega)
  have c1 : (nI (3 * i + 1)).toNatClampNeg = 3 * i + 1 := nI_cl _ (by omega)
  have c2 : (nI (3 * i + 2)).toNatClampNeg = 3 * i + 2 := nI_cl _ (by omega)
  have k1 : 3 * i + 1 < L := by omega
  have k2 : 3 * i + 2 < L := by omega
  have l2 : 2 < 3 := by decide
  have f3 : nI (3 * i) + 3 = nI (3 * (i + 1)) := nI_add (3 * i) 3
  refine ⟨h', s', n', u', p', V', x', k', L', ?_, H', hsp'.trans hsp⟩
  rw [hd_i hsp hi hL, hw, sw_7]
  unfold lwL
  simp only [x164_347, x164_348, x164_349, x164_350, x164_351, x164_352, x164_352s, x164_353, x164_354, x164_355, x164_356, x164_357, x164_357s, x164_358, x164_361, x164_362, x164_363, x164_364, x164_365, x164_366, x164_366s, x164_367, x164_368, x164_369, x164_370, x164_371, x164_371s, x164_372, x164_375, x164_378, x164_379_0, x164_379_1, x164_379b, x164_683, x164_686, evI_i, evJl_i, evJf_i, evJd_i, evA_r, evA_n, evA_q, evLk_c, evS1_d, evS2_d, evFl_n, evFl_c, evGl_n, evGl_c, evIn_n, evIn_c, evCat_i, evCat_l, evCat_f, evCat_d, evCat_r, evCat_z, evCat_q, evBd_some, evTl_s, evTl_n, va_rf_s, va_rf_n, and_true, true_and, and_false, false_and, if_true, if_false, not_true_eq_false, not_false_eq_true, reduceCtorEq, ↓reduceIte, Nat.reduceAdd, Nat.reduceEqDiff, Nat.reduceLT, Nat.reduceLeDiff, Nat.reduceSub, Nat.zero_ne_one, Nat.one_ne_zero, hs2, hs2', a0, b0, f1, f2, g1, g2, c1, c2, k1, k2, l2, f3, S1, S2, cmp_self, Option.toList, List.nil_append, List.cons_append]
theorem lc_8 (H : LR h s n u p V x k Lp) (hsp : evSp h = evSp0 L xs) {i : Nat} (hi : 3 * i + 3 ≤ L) (hL : L ≤ 1536) (hw : xs (3 * i) &&& 31 = 8) : nxt i L xs h n u p V := by
  obtain ⟨a, h', s', n', u', p', V', x', k', L', S1, S2, H', hsp'⟩ := S_made H (xs (3 * i + 1)) (xs (3 * i + 2))
  have hs2 : evSp h 2 = (L, xs) := by rw [hsp]; rfl
  have hs2' : evSp h' 2 = (L, xs) := by rw [hsp', hsp]; rfl
  have a0 : evAt h 0 7 := H.1.2.2.1
  have b0 : evAt h' 375 8 := H'.2.1.1
  have f1 : nI (3 * i) + 1 = nI (3 * i + 1) := (nI_succ _).symm
  have f2 : nI (3 * i) + 2 = nI (3 * i + 2) := nI_add (3 * i) 2
  have g1 : ¬ nI (3 * i + 1) < 0 := nI_pos (by omega)
  have g2 : ¬ nI (3 * i + 2) < 0 := nI_pos (by omega)
  have c1 : (nI (3 * i + 1)).toNatClampNeg = 3 * i + 1 := nI_cl _ (by omega)
  have c2 : (nI (3 * i + 2)).toNatClampNeg = 3 * i + 2 := nI_cl _ (by omega)
  have k1 : 3 * i + 1 < L := by omega
  have k2 : 3 * i + 2 < L := by omega
  have l2 : 2 < 3 := by decide
  have f3 : nI (3 * i) + 3 = nI (3 * (i + 1)) := nI_add (3 * i) 3
  refine ⟨h', s', n', u', p', V', x', k', L', ?_, H', hsp'.trans hsp⟩
  rw [hd_i hsp hi hL, hw, sw_8]
  unfold lwL
  simp only [x164_380, x164_381, x164_382, x164_383, x164_384, x164_385, x164_385s, x164_386, x164_387, x164_388, x164_389, x164_390, x164_390s, x164_391, x164_394, x164_395, x164_396, x164_397, x164_398, x164_399, x164_399s, x164_400, x164_401, x164_402, x164_403, x164_404, x164_404s, x164_405, x164_408, x164_411, x164_412_0, x164_412_1, x164_412b, x164_683, x164_686, evI_i, evJl_i, evJf_i, evJd_i, evA_r, evA_n, evA_q, evLk_c, evS1_d, evS2_d, evFl_n, evFl_c, evGl_n, evGl_c, evIn_n, evIn_c, evCat_i, evCat_l, evCat_f, evCat_d, evCat_r, evCat_z, evCat_q, evBd_some, evTl_s, evTl_n, va_rf_s, va_rf_n, and_true, true_and, and_false, false_and, if_true, if_false, not_true_eq_false, not_false_eq_true, reduceCtorEq, ↓reduceIte, Nat.reduceAdd, Nat.reduceEqDiff, Nat.reduceLT, Nat.reduceLeDiff, Nat.reduceSub, Nat.zero_ne_one, Nat.one_ne_zero, hs2, hs2', a0, b0, f1, f2, g1, g2, c1, c2, k1, k2, l2, f3, S1, S2, cmp_self, Option.toList, List.nil_append, List.cons_append]
theorem lc_9 (H : LR h s n u p V x k Lp) (hsp : evSp h = evSp0 L xs) {i : Nat} (hi : 3 * i + 3 ≤ L) (hL : L ≤ 1536) (hw : xs (3 * i) &&& 31 = 9) : nxt i L xs h n u p V := by
  obtain ⟨a, h', s', n', u', p', V', x', k', L', S1, S2, H', hsp'⟩ := S_count H (xs (3 * i + 1))
  have hs2 : evSp h 2 = (L, xs) := by rw [hsp]; rfl
  have hs2' : evSp h' 2 = (L, xs) := by rw [hsp', hsp]; rfl
  have a0 : evAt h 0 7 := H.1.2.2.1
  have b0 : evAt h' 375 8 := H'.2.1.1
  have f1 : nI (3 * i) + 1 = nI (3 * i + 1) := (nI_succ _).symm
  have f2 : nI (3 * i) + 2 = nI (3 * i + 2) := nI_add (3 * i) 2
  have g1 : ¬ nI (3 * i + 1) < 0 := nI_pos (by omega)
  have g2 : ¬ nI (3 * i + 2) < 0 := nI_pos (by omega)
  have c1 : (nI (3 * i + 1)).toNatClampNeg = 3 * i + 1 := nI_cl _ (by omega)
  have c2 : (nI (3 * i + 2)).toNatClampNeg = 3 * i + 2 := nI_cl _ (by omega)
  have k1 : 3 * i + 1 < L := by omega
  have k2 : 3 * i + 2 < L := by omega
  have l2 : 2 < 3 := by decide
  have f3 : nI (3 * i) + 3 = nI (3 * (i + 1)) := nI_add (3 * i) 3
  refine ⟨h', s', n', u', p', V', x', k', L', ?_, H', hsp'.trans hsp⟩
  rw [hd_i hsp hi hL, hw, sw_9]
  unfold lwL
  simp only [x164_413, x164_414, x164_415, x164_416, x164_417, x164_418, x164_418s, x164_419, x164_422, x164_423, x164_424, x164_425, x164_426, x164_427, x164_427s, x164_428, x164_431, x164_434, x164_435_0, x164_435_1, x164_435b, x164_683, x164_686, evI_i, evJl_i, evJf_i, evJd_i, evA_r, evA_n, evA_q, evLk_c, evS1_d, evS2_d, evFl_n, evFl_c, evGl_n, evGl_c, evIn_n, evIn_c, evCat_i, evCat_l, evCat_f, evCat_d, evCat_r, evCat_z, evCat_q, evBd_some, evTl_s, evTl_n, va_rf_s, va_rf_n, and_true, true_and, and_false, false_and, if_true, if_false, not_true_eq_false, not_false_eq_true, reduceCtorEq, ↓reduceIte, Nat.reduceAdd, Nat.reduceEqDiff, Nat.reduceLT, Nat.reduceLeDiff, Nat.reduceSub, Nat.zero_ne_one, Nat.one_ne_zero, hs2, hs2', a0, b0, f1, f2, g1, g2, c1, c2, k1, k2, l2, f3, S1, S2, cmp_self, Option.toList, List.nil_append, List.cons_append]
theorem lc_10 (H : LR h s n u p V x k Lp) (hsp : evSp h = evSp0 L xs) {i : Nat} (hi : 3 * i + 3 ≤ L) (hL : L ≤ 1536) (hw : xs (3 * i) &&& 31 = 10) (hsh : stepI 70 132 [] h n u p V) : nxt i L xs h n u p V := by
  obtain ⟨a, h', s', n', u', p', V', x', k', L', S1, S2, H', hsp'⟩ := hsh
  have hs2 : evSp h 2 = (L, xs) := by rw [hsp]; rfl
  have hs2' : evSp h' 2 = (L, xs) := by rw [hsp', hsp]; rfl
  have a0 : evAt h 0 7 := H.1.2.2.1
  have b0 : evAt h' 375 8 := H'.2.1.1
  have f1 : nI (3 * i) + 1 = nI (3 * i + 1) := (nI_succ _).symm
  have f2 : nI (3 * i) + 2 = nI (3 * i + 2) := nI_add (3 * i) 2
  have g1 : ¬ nI (3 * i + 1) < 0 := nI_pos (by omega)
  have g2 : ¬ nI (3 * i + 2) < 0 := nI_pos (by omega)
  have c1 : (nI (3 * i + 1)).toNatClampNeg = 3 * i + 1 := nI_cl _ (by omega)
  have c2 : (nI (3 * i + 2)).toNatClampNeg = 3 * i + 2 := nI_cl _ (by omega)
  have k1 : 3 * i + 1 < L := by omega
  have k2 : 3 * i + 2 < L := by omega
  have l2 : 2 < 3 := by decide
  have f3 : nI (3 * i) + 3 = nI (3 * (i + 1)) := nI_add (3 * i) 3
  refine ⟨h', s', n', u', p', V', x', k', L', ?_, H', hsp'.trans hsp⟩
  rw [hd_i hsp hi hL, hw, sw_10]
  unfold lwL
  simp only [x164_436, x164_437, x164_440, x164_441, x164_444, x164_447, x164_448_0, x164_448_1, x164_448b, x164_683, x164_686, evI_i, evJl_i, evJf_i, evJd_i, evA_r, evA_n, evA_q, evLk_c, evS1_d, evS2_d, evFl_n, evFl_c, evGl_n, evGl_c, evIn_n, evIn_c, evCat_i, evCat_l, evCat_f, evCat_d, evCat_r, evCat_z, evCat_q, evBd_some, evTl_s, evTl_n, va_rf_s, va_rf_n, and_true, true_and, and_false, false_and, if_true, if_false, not_true_eq_false, not_false_eq_true, reduceCtorEq, ↓reduceIte, Nat.reduceAdd, Nat.reduceEqDiff, Nat.reduceLT, Nat.reduceLeDiff, Nat.reduceSub, Nat.zero_ne_one, Nat.one_ne_zero, hs2, hs2', a0, b0, f1, f2, g1, g2, c1, c2, k1, k2, l2, f3, S1, S2, cmp_self, Option.toList, List.nil_append, List.cons_append]
theorem lc_11 (H : LR h s n u p V x k Lp) (hsp : evSp h = evSp0 L xs) {i : Nat} (hi : 3 * i + 3 ≤ L) (hL : L ≤ 1536) (hw : xs (3 * i) &&& 31 = 11) (hde : stepD h n u p V) : nxt i L xs h n u p V := by
  obtain ⟨a, h', s', n', u', p', V', x', k', L', S1, S2, H', hsp'⟩ := hde
  have hs2 : evSp h 2 = (L, xs) := by rw [hsp]; rfl
  have hs2' : evSp h' 2 = (L, xs) := by rw [hsp', hsp]; rfl
  have a0 : evAt h 0 7 := H.1.2.2.1
  have b0 : evAt h' 375 8 := H'.2.1.1
  have f1 : nI (3 * i) + 1 = nI (3 * i + 1) := (nI_succ _).symm
  have f2 : nI (3 * i) + 2 = nI (3 * i + 2) := nI_add (3 * i) 2
  have g1 : ¬ nI (3 * i + 1) < 0 := nI_pos (by omega)
  have g2 : ¬ nI (3 * i + 2) < 0 := nI_pos (by omega)
  have c1 : (nI (3 * i + 1)).toNatClampNeg = 3 * i + 1 := nI_cl _ (by omega)
  have c2 : (nI (3 * i + 2)).toNatClampNeg = 3 * i + 2 := nI_cl _ (by omega)
  have k1 : 3 * i + 1 < L := by omega
  have k2 : 3 * i + 2 < L := by omega
  have l2 : 2 < 3 := by decide
  have f3 : nI (3 * i) + 3 = nI (3 * (i + 1)) := nI_add (3 * i) 3
  refine ⟨h', s', n', u', p', V', x', k', L', ?_, H', hsp'.trans hsp⟩
  rw [hd_i hsp hi hL, hw, sw_11]
  unfold lwL
  simp only [x164_449, x164_450, x164_453, x164_454, x164_457, x164_458, x164_461, x164_462_0, x164_462_1, x164_462b, x164_683, x164_686, evI_i, evJl_i, evJf_i, evJd_i, evA_r, evA_n, evA_q, evLk_c, evS1_d, evS2_d, evFl_n, evFl_c, evGl_n, evGl_c, evIn_n, evIn_c, evCat_i, evCat_l, evCat_f, evCat_d, evCat_r, evCat_z, evCat_q, evBd_some, evTl_s, evTl_n, va_rf_s, va_rf_n, and_true, true_and, and_false, false_and, if_true, if_false, not_true_eq_false, not_false_eq_true, reduceCtorEq, ↓reduceIte, Nat.reduceAdd, Nat.reduceEqDiff, Nat.reduceLT, Nat.reduceLeDiff, Nat.reduceSub, Nat.zero_ne_one, Nat.one_ne_zero, hs2, hs2', a0, b0, f1, f2, g1, g2, c1, c2, k1, k2, l2, f3, S1, S2, cmp_self, Option.toList, List.nil_append, List.cons_append]
theorem lc_12 (H : LR h s n u p V x k Lp) (hsp : evSp h = evSp0 L xs) {i : Nat} (hi : 3 * i + 3 ≤ L) (hL : L ≤ 1536) (hw : xs (3 * i) &&& 31 = 12) : nxt i L xs h n u p V := by
  obtain ⟨a, h', s', n', u', p', V', x', k', L', S1, S2, H', hsp'⟩ := S_endsIn H
  have hs2 : evSp h 2 = (L, xs) := by rw [hsp]; rfl
  have hs2' : evSp h' 2 = (L, xs) := by rw [hsp', hsp]; rfl
  have a0 : evAt h 0 7 := H.1.2.2.1
  have b0 : evAt h' 375 8 := H'.2.1.1
  have f1 : nI (3 * i) + 1 = nI (3 * i + 1) := (nI_succ _).symm
  have f2 : nI (3 * i) + 2 = nI (3 * i + 2) := nI_add (3 * i) 2
  have g1 : ¬ nI (3 * i + 1) < 0 := nI_pos (by omega)
  have g2 : ¬ nI (3 * i + 2) < 0 := nI_pos (by omega)
  have c1 : (nI (3 * i + 1)).toNatClampNeg = 3 * i + 1 := nI_cl _ (by omega)
  have c2 : (nI (3 * i + 2)).toNatClampNeg = 3 * i + 2 := nI_cl _ (by omega)
  have k1 : 3 * i + 1 < L := by omega
  have k2 : 3 * i + 2 < L := by omega
  have l2 : 2 < 3 := by decide
  have f3 : nI (3 * i) + 3 = nI (3 * (i + 1)) := nI_add (3 * i) 3
  refine ⟨h', s', n', u', p', V', x', k', L', ?_, H', hsp'.trans hsp⟩
  rw [hd_i hsp hi hL, hw, sw_12]
  unfold lwL
  simp only [x164_463, x164_464, x164_467, x164_468, x164_471, x164_474, x164_475_0, x164_475_1, x164_475b, x164_683, x164_686, evI_i, evJl_i, evJf_i, evJd_i, evA_r, evA_n, evA_q, evLk_c, evS1_d, evS2_d, evFl_n, evFl_c, evGl_n, evGl_c, evIn_n, evIn_c, evCat_i, evCat_l, evCat_f, evCat_d, evCat_r, evCat_z, evCat_q, evBd_some, evTl_s, evTl_n, va_rf_s, va_rf_n, and_true, true_and, and_false, false_and, if_true, if_false, not_true_eq_false, not_false_eq_true, reduceCtorEq, ↓reduceIte, Nat.reduceAdd, Nat.reduceEqDiff, Nat.reduceLT, Nat.reduceLeDiff, Nat.reduceSub, Nat.zero_ne_one, Nat.one_ne_zero, hs2, hs2', a0, b0, f1, f2, g1, g2, c1, c2, k1, k2, l2, f3, S1, S2, cmp_self, Option.toList, List.nil_append, List.cons_append]
theorem lc_13 (H : LR h s n u p V x k Lp) (hsp : evSp h = evSp0 L xs) {i : Nat} (hi : 3 * i + 3 ≤ L) (hL : L ≤ 1536) (hw : xs (3 * i) &&& 31 = 13) : nxt i L xs h n u p V := by
  obtain ⟨a, h', s', n', u', p', V', x', k', L', S1, S2, H', hsp'⟩ := S_ifLag H (xs (3 * i + 1))
  have hs2 : evSp h 2 = (L, xs) := by rw [hsp]; rfl
  have hs2' : evSp h' 2 = (L, xs) := by rw [hsp', hsp]; rfl
  have a0 : evAt h 0 7 := H.1.2.2.1
  have b0 : evAt h' 375 8 := H'.2.1.1
  have f1 : nI (3 * i) + 1 = nI (3 * i + 1) := (nI_succ _).symm
  have f2 : nI (3 * i) + 2 = nI (3 * i + 2) := nI_add (3 * i) 2
  have g1 : ¬ nI (3 * i + 1) < 0 := nI_pos (by omega)
  have g2 : ¬ nI (3 * i + 2) < 0 := nI_pos (by omega)
  have c1 : (nI (3 * i + 1)).toNatClampNeg = 3 * i + 1 := nI_cl _ (by omega)
  have c2 : (nI (3 * i + 2)).toNatClampNeg = 3 * i + 2 := nI_cl _ (by omega)
  have k1 : 3 * i + 1 < L := by omega
  have k2 : 3 * i + 2 < L := by omega
  have l2 : 2 < 3 := by decide
  have f3 : nI (3 * i) + 3 = nI (3 * (i + 1)) := nI_add (3 * i) 3
  refine ⟨h', s', n', u', p', V', x', k', L', ?_, H', hsp'.trans hsp⟩
  rw [hd_i hsp hi hL, hw, sw_13]
  unfold lwL
  simp only [x164_476, x164_477, x164_478, x164_479, x164_480, x164_481, x164_481s, x164_482, x164_485, x164_486, x164_487, x164_488, x164_489, x164_490, x164_490s, x164_491, x164_494, x164_497, x164_498_0, x164_498_1, x164_498b, x164_683, x164_686, evI_i, evJl_i, evJf_i, evJd_i, evA_r, evA_n, evA_q, evLk_c, evS1_d, evS2_d, evFl_n, evFl_c, evGl_n, evGl_c, evIn_n, evIn_c, evCat_i, evCat_l, evCat_f, evCat_d, evCat_r, evCat_z, evCat_q, evBd_some, evTl_s, evTl_n, va_rf_s, va_rf_n, and_true, true_and, and_false, false_and, if_true, if_false, not_true_eq_false, not_false_eq_true, reduceCtorEq, ↓reduceIte, Nat.reduceAdd, Nat.reduceEqDiff, Nat.reduceLT, Nat.reduceLeDiff, Nat.reduceSub, Nat.zero_ne_one, Nat.one_ne_zero, hs2, hs2', a0, b0, f1, f2, g1, g2, c1, c2, k1, k2, l2, f3, S1, S2, cmp_self, Option.toList, List.nil_append, List.cons_append]
theorem lc_14 (H : LR h s n u p V x k Lp) (hsp : evSp h = evSp0 L xs) {i : Nat} (hi : 3 * i + 3 ≤ L) (hL : L ≤ 1536) (hw : xs (3 * i) &&& 31 = 14) : nxt i L xs h n u p V := by
  obtain ⟨a, h', s', n', u', p', V', x', k', L', S1, S2, H', hsp'⟩ := S_bestPlan H (xs (3 * i + 1)) (xs (3 * i + 2))
  have hs2 : evSp h 2 = (L, xs) := by rw [hsp]; rfl
  have hs2' : evSp h' 2 = (L, xs) := by rw [hsp', hsp]; rfl
  have a0 : evAt h 0 7 := H.1.2.2.1
  have b0 : evAt h' 375 8 := H'.2.1.1
  have f1 : nI (3 * i) + 1 = nI (3 * i + 1) := (nI_succ _).symm
  have f2 : nI (3 * i) + 2 = nI (3 * i + 2) := nI_add (3 * i) 2
  have g1 : ¬ nI (3 * i + 1) < 0 := nI_pos (by omega)
  have g2 : ¬ nI (3 * i + 2) < 0 := nI_pos (by omega)
  have c1 : (nI (3 * i + 1)).toNatClampNeg = 3 * i + 1 := nI_cl _ (by omega)
  have c2 : (nI (3 * i + 2)).toNatClampNeg = 3 * i + 2 := nI_cl _ (by omega)
  have k1 : 3 * i + 1 < L := by omega
  have k2 : 3 * i + 2 < L := by omega
  have l2 : 2 < 3 := by decide
  have f3 : nI (3 * i) + 3 = nI (3 * (i + 1)) := nI_add (3 * i) 3
  refine ⟨h', s', n', u', p', V', x', k', L', ?_, H', hsp'.trans hsp⟩
  rw [hd_i hsp hi hL, hw, sw_14]
  unfold lwL
  simp only [x164_499, x164_500, x164_501, x164_502, x164_503, x164_504, x164_504s, x164_505, x164_506, x164_507, x164_508, x164_509, x164_509s, x164_510, x164_513, x164_514, x164_515, x164_516, x164_517, x164_518, x164_518s, x164_519, x164_520, x164_521, x164_522, x164_523, x164_523s, x164_524, x164_527, x164_530, x164_531_0, x164_531_1, x164_531b, x164_683, x164_686, evI_i, evJl_i, evJf_i, evJd_i, evA_r, evA_n, evA_q, evLk_c, evS1_d, evS2_d, evFl_n, evFl_c, evGl_n, evGl_c, evIn_n, evIn_c, evCat_i, evCat_l, evCat_f, evCat_d, evCat_r, evCat_z, evCat_q, evBd_some, evTl_s, evTl_n, va_rf_s, va_rf_n, and_true, true_and, and_false, false_and, if_true, if_false, not_true_eq_false, not_false_eq_true, reduceCtorEq, ↓reduceIte, Nat.reduceAdd, Nat.reduceEqDiff, Nat.reduceLT, Nat.reduceLeDiff, Nat.reduceSub, Nat.zero_ne_one, Nat.one_ne_zero, hs2, hs2', a0, b0, f1, f2, g1, g2, c1, c2, k1, k2, l2, f3, S1, S2, cmp_self, Option.toList, List.nil_append, List.cons_append]
theorem lc_15 (H : LR h s n u p V x k Lp) (hsp : evSp h = evSp0 L xs) {i : Nat} (hi : 3 * i + 3 ≤ L) (hL : L ≤ 1536) (hw : xs (3 * i) &&& 31 = 15) : nxt i L xs h n u p V := by
  obtain ⟨a, h', s', n', u', p', V', x', k', L', S1, S2, H', hsp'⟩ := S_put H ((xs (3 * i + 1)).toInt64 <<< ((32 : Int32).toInt64 &&& 63) ||| (xs (3 * i + 2)).toInt64 &&& 4294967295)
  have hs2 : evSp h 2 = (L, xs) := by rw [hsp]; rfl
  have hs2' : evSp h' 2 = (L, xs) := by rw [hsp', hsp]; rfl
  have a0 : evAt h 0 7 := H.1.2.2.1
  have b0 : evAt h' 375 8 := H'.2.1.1
  have f1 : nI (3 * i) + 1 = nI (3 * i + 1) := (nI_succ _).symm
  have f2 : nI (3 * i) + 2 = nI (3 * i + 2) := nI_add (3 * i) 2
  have g1 : ¬ nI (3 * i + 1) < 0 := nI_pos (by omega)
  have g2 : ¬ nI (3 * i + 2) < 0 := nI_pos (by omega)
  have c1 : (nI (3 * i + 1)).toNatClampNeg = 3 * i + 1 := nI_cl _ (by omega)
  have c2 : (nI (3 * i + 2)).toNatClampNeg = 3 * i + 2 := nI_cl _ (by omega)
  have k1 : 3 * i + 1 < L := by omega
  have k2 : 3 * i + 2 < L := by omega
  have l2 : 2 < 3 := by decide
  have f3 : nI (3 * i) + 3 = nI (3 * (i + 1)) := nI_add (3 * i) 3
  refine ⟨h', s', n', u', p', V', x', k', L', ?_, H', hsp'.trans hsp⟩
  rw [hd_i hsp hi hL, hw, sw_15]
  unfold lwL
  simp only [x164_532, x164_533, x164_534, x164_535, x164_536, x164_537, x164_537s, x164_538, x164_539, x164_541, x164_542, x164_543, x164_544, x164_545, x164_546, x164_546s, x164_547, x164_548, x164_551, x164_552, x164_553, x164_556, x164_557, x164_558, x164_559, x164_560, x164_561, x164_561s, x164_562, x164_563, x164_565, x164_566, x164_567, x164_568, x164_569, x164_570, x164_570s, x164_571, x164_572, x164_575, x164_576, x164_577, x164_580, x164_583, x164_584_0, x164_584_1, x164_584b, x164_683, x164_686, evI_i, evJl_i, evJf_i, evJd_i, evA_r, evA_n, evA_q, evLk_c, evS1_d, evS2_d, evFl_n, evFl_c, evGl_n, evGl_c, evIn_n, evIn_c, evCat_i, evCat_l, evCat_f, evCat_d, evCat_r, evCat_z, evCat_q, evBd_some, evTl_s, evTl_n, va_rf_s, va_rf_n, and_true, true_and, and_false, false_and, if_true, if_false, not_true_eq_false, not_false_eq_true, reduceCtorEq, ↓reduceIte, Nat.reduceAdd, Nat.reduceEqDiff, Nat.reduceLT, Nat.reduceLeDiff, Nat.reduceSub, Nat.zero_ne_one, Nat.one_ne_zero, hs2, hs2', a0, b0, f1, f2, g1, g2, c1, c2, k1, k2, l2, f3, S1, S2, cmp_self, Option.toList, List.nil_append, List.cons_append]
theorem lc_16 (H : LR h s n u p V x k Lp) (hsp : evSp h = evSp0 L xs) {i : Nat} (hi : 3 * i + 3 ≤ L) (hL : L ≤ 1536) (hw : xs (3 * i) &&& 31 = 16) : nxt i L xs h n u p V := by
  obtain ⟨a, h', s', n', u', p', V', x', k', L', S1, S2, H', hsp'⟩ := S_wipe H
  have hs2 : evSp h 2 = (L, xs) := by rw [hsp]; rfl
  have hs2' : evSp h' 2 = (L, xs) := by rw [hsp', hsp]; rfl
  have a0 : evAt h 0 7 := H.1.2.2.1
  have b0 : evAt h' 375 8 := H'.2.1.1
  have f1 : nI (3 * i) + 1 = nI (3 * i + 1) := (nI_succ _).symm
  have f2 : nI (3 * i) + 2 = nI (3 * i + 2) := nI_add (3 * i) 2
  have g1 : ¬ nI (3 * i + 1) < 0 := nI_pos (by omega)
  have g2 : ¬ nI (3 * i + 2) < 0 := nI_pos (by omega)
  have c1 : (nI (3 * i + 1)).toNatClampNeg = 3 * i + 1 := nI_cl _ (by omega)
  have c2 : (nI (3 * i + 2)).toNatClampNeg = 3 * i + 2 := nI_cl _ (by omega)
  have k1 : 3 * i + 1 < L := by omega
  have k2 : 3 * i + 2 < L := by omega
  have l2 : 2 < 3 := by decide
  have f3 : nI (3 * i) + 3 = nI (3 * (i + 1)) := nI_add (3 * i) 3
  refine ⟨h', s', n', u', p', V', x', k', L', ?_, H', hsp'.trans hsp⟩
  rw [hd_i hsp hi hL, hw, sw_16]
  unfold lwL
  simp only [x164_585, x164_586, x164_589, x164_590, x164_593, x164_596, x164_597_0, x164_597_1, x164_597b, x164_683, x164_686, evI_i, evJl_i, evJf_i, evJd_i, evA_r, evA_n, evA_q, evLk_c, evS1_d, evS2_d, evFl_n, evFl_c, evGl_n, evGl_c, evIn_n, evIn_c, evCat_i, evCat_l, evCat_f, evCat_d, evCat_r, evCat_z, evCat_q, evBd_some, evTl_s, evTl_n, va_rf_s, va_rf_n, and_true, true_and, and_false, false_and, if_true, if_false, not_true_eq_false, not_false_eq_true, reduceCtorEq, ↓reduceIte, Nat.reduceAdd, Nat.reduceEqDiff, Nat.reduceLT, Nat.reduceLeDiff, Nat.reduceSub, Nat.zero_ne_one, Nat.one_ne_zero, hs2, hs2', a0, b0, f1, f2, g1, g2, c1, c2, k1, k2, l2, f3, S1, S2, cmp_self, Option.toList, List.nil_append, List.cons_append]
theorem lc_17 (H : LR h s n u p V x k Lp) (hsp : evSp h = evSp0 L xs) {i : Nat} (hi : 3 * i + 3 ≤ L) (hL : L ≤ 1536) (hw : xs (3 * i) &&& 31 = 17) : nxt i L xs h n u p V := by
  obtain ⟨a, h', s', n', u', p', V', x', k', L', S1, S2, H', hsp'⟩ := S_fault H
  have hs2 : evSp h 2 = (L, xs) := by rw [hsp]; rfl
  have hs2' : evSp h' 2 = (L, xs) := by rw [hsp', hsp]; rfl
  have a0 : evAt h 0 7 := H.1.2.2.1
  have b0 : evAt h' 375 8 := H'.2.1.1
  have f1 : nI (3 * i) + 1 = nI (3 * i + 1) := (nI_succ _).symm
  have f2 : nI (3 * i) + 2 = nI (3 * i + 2) := nI_add (3 * i) 2
  have g1 : ¬ nI (3 * i + 1) < 0 := nI_pos (by omega)
  have g2 : ¬ nI (3 * i + 2) < 0 := nI_pos (by omega)
  have c1 : (nI (3 * i + 1)).toNatClampNeg = 3 * i + 1 := nI_cl _ (by omega)
  have c2 : (nI (3 * i + 2)).toNatClampNeg = 3 * i + 2 := nI_cl _ (by omega)
  have k1 : 3 * i + 1 < L := by omega
  have k2 : 3 * i + 2 < L := by omega
  have l2 : 2 < 3 := by decide
  have f3 : nI (3 * i) + 3 = nI (3 * (i + 1)) := nI_add (3 * i) 3
  refine ⟨h', s', n', u', p', V', x', k', L', ?_, H', hsp'.trans hsp⟩
  rw [hd_i hsp hi hL, hw, sw_17]
  unfold lwL
  simp only [x164_598, x164_599, x164_602, x164_603, x164_606, x164_609, x164_610_0, x164_610_1, x164_610b, x164_683, x164_686, evI_i, evJl_i, evJf_i, evJd_i, evA_r, evA_n, evA_q, evLk_c, evS1_d, evS2_d, evFl_n, evFl_c, evGl_n, evGl_c, evIn_n, evIn_c, evCat_i, evCat_l, evCat_f, evCat_d, evCat_r, evCat_z, evCat_q, evBd_some, evTl_s, evTl_n, va_rf_s, va_rf_n, and_true, true_and, and_false, false_and, if_true, if_false, not_true_eq_false, not_false_eq_true, reduceCtorEq, ↓reduceIte, Nat.reduceAdd, Nat.reduceEqDiff, Nat.reduceLT, Nat.reduceLeDiff, Nat.reduceSub, Nat.zero_ne_one, Nat.one_ne_zero, hs2, hs2', a0, b0, f1, f2, g1, g2, c1, c2, k1, k2, l2, f3, S1, S2, cmp_self, Option.toList, List.nil_append, List.cons_append]
theorem lc_18 (H : LR h s n u p V x k Lp) (hsp : evSp h = evSp0 L xs) {i : Nat} (hi : 3 * i + 3 ≤ L) (hL : L ≤ 1536) (hw : xs (3 * i) &&& 31 = 18) : nxt i L xs h n u p V := by
  obtain ⟨a, h', s', n', u', p', V', x', k', L', S1, S2, H', hsp'⟩ := S_carryOut H
  have hs2 : evSp h 2 = (L, xs) := by rw [hsp]; rfl
  have hs2' : evSp h' 2 = (L, xs) := by rw [hsp', hsp]; rfl
  have a0 : evAt h 0 7 := H.1.2.2.1
  have b0 : evAt h' 375 8 := H'.2.1.1
  have f1 : nI (3 * i) + 1 = nI (3 * i + 1) := (nI_succ _).symm
  have f2 : nI (3 * i) + 2 = nI (3 * i + 2) := nI_add (3 * i) 2
  have g1 : ¬ nI (3 * i + 1) < 0 := nI_pos (by omega)
  have g2 : ¬ nI (3 * i + 2) < 0 := nI_pos (by omega)
  have c1 : (nI (3 * i + 1)).toNatClampNeg = 3 * i + 1 := nI_cl _ (by omega)
  have c2 : (nI (3 * i + 2)).toNatClampNeg = 3 * i + 2 := nI_cl _ (by omega)
  have k1 : 3 * i + 1 < L := by omega
  have k2 : 3 * i + 2 < L := by omega
  have l2 : 2 < 3 := by decide
  have f3 : nI (3 * i) + 3 = nI (3 * (i + 1)) := nI_add (3 * i) 3
  refine ⟨h', s', n', u', p', V', x', k', L', ?_, H', hsp'.trans hsp⟩
  rw [hd_i hsp hi hL, hw, sw_18]
  unfold lwL
  simp only [x164_611, x164_612, x164_615, x164_616, x164_619, x164_622, x164_623_0, x164_623_1, x164_623b, x164_683, x164_686, evI_i, evJl_i, evJf_i, evJd_i, evA_r, evA_n, evA_q, evLk_c, evS1_d, evS2_d, evFl_n, evFl_c, evGl_n, evGl_c, evIn_n, evIn_c, evCat_i, evCat_l, evCat_f, evCat_d, evCat_r, evCat_z, evCat_q, evBd_some, evTl_s, evTl_n, va_rf_s, va_rf_n, and_true, true_and, and_false, false_and, if_true, if_false, not_true_eq_false, not_false_eq_true, reduceCtorEq, ↓reduceIte, Nat.reduceAdd, Nat.reduceEqDiff, Nat.reduceLT, Nat.reduceLeDiff, Nat.reduceSub, Nat.zero_ne_one, Nat.one_ne_zero, hs2, hs2', a0, b0, f1, f2, g1, g2, c1, c2, k1, k2, l2, f3, S1, S2, cmp_self, Option.toList, List.nil_append, List.cons_append]
theorem lc_19 (H : LR h s n u p V x k Lp) (hsp : evSp h = evSp0 L xs) {i : Nat} (hi : 3 * i + 3 ≤ L) (hL : L ≤ 1536) (hw : xs (3 * i) &&& 31 = 19) : nxt i L xs h n u p V := by
  obtain ⟨a, h', s', n', u', p', V', x', k', L', S1, S2, H', hsp'⟩ := S_undo H
  have hs2 : evSp h 2 = (L, xs) := by rw [hsp]; rfl
  have hs2' : evSp h' 2 = (L, xs) := by rw [hsp', hsp]; rfl
  have a0 : evAt h 0 7 := H.1.2.2.1
  have b0 : evAt h' 375 8 := H'.2.1.1
  have f1 : nI (3 * i) + 1 = nI (3 * i + 1) := (nI_succ _).symm
  have f2 : nI (3 * i) + 2 = nI (3 * i + 2) := nI_add (3 * i) 2
  have g1 : ¬ nI (3 * i + 1) < 0 := nI_pos (by omega)
  have g2 : ¬ nI (3 * i + 2) < 0 := nI_pos (by omega)
  have c1 : (nI (3 * i + 1)).toNatClampNeg = 3 * i + 1 := nI_cl _ (by omega)
  have c2 : (nI (3 * i + 2)).toNatClampNeg = 3 * i + 2 := nI_cl _ (by omega)
  have k1 : 3 * i + 1 < L := by omega
  have k2 : 3 * i + 2 < L := by omega
  have l2 : 2 < 3 := by decide
  have f3 : nI (3 * i) + 3 = nI (3 * (i + 1)) := nI_add (3 * i) 3
  refine ⟨h', s', n', u', p', V', x', k', L', ?_, H', hsp'.trans hsp⟩
  rw [hd_i hsp hi hL, hw, sw_19]
  unfold lwL
  simp only [x164_624, x164_625, x164_628, x164_629, x164_632, x164_635, x164_636_0, x164_636_1, x164_636b, x164_683, x164_686, evI_i, evJl_i, evJf_i, evJd_i, evA_r, evA_n, evA_q, evLk_c, evS1_d, evS2_d, evFl_n, evFl_c, evGl_n, evGl_c, evIn_n, evIn_c, evCat_i, evCat_l, evCat_f, evCat_d, evCat_r, evCat_z, evCat_q, evBd_some, evTl_s, evTl_n, va_rf_s, va_rf_n, and_true, true_and, and_false, false_and, if_true, if_false, not_true_eq_false, not_false_eq_true, reduceCtorEq, ↓reduceIte, Nat.reduceAdd, Nat.reduceEqDiff, Nat.reduceLT, Nat.reduceLeDiff, Nat.reduceSub, Nat.zero_ne_one, Nat.one_ne_zero, hs2, hs2', a0, b0, f1, f2, g1, g2, c1, c2, k1, k2, l2, f3, S1, S2, cmp_self, Option.toList, List.nil_append, List.cons_append]
theorem lc_20 (H : LR h s n u p V x k Lp) (hsp : evSp h = evSp0 L xs) {i : Nat} (hi : 3 * i + 3 ≤ L) (hL : L ≤ 1536) (hw : xs (3 * i) &&& 31 = 20) : nxt i L xs h n u p V := by
  obtain ⟨a, h', s', n', u', p', V', x', k', L', S1, S2, H', hsp'⟩ := S_save H (xs (3 * i + 1))
  have hs2 : evSp h 2 = (L, xs) := by rw [hsp]; rfl
  have hs2' : evSp h' 2 = (L, xs) := by rw [hsp', hsp]; rfl
  have a0 : evAt h 0 7 := H.1.2.2.1
  have b0 : evAt h' 375 8 := H'.2.1.1
  have f1 : nI (3 * i) + 1 = nI (3 * i + 1) := (nI_succ _).symm
  have f2 : nI (3 * i) + 2 = nI (3 * i + 2) := nI_add (3 * i) 2
  have g1 : ¬ nI (3 * i + 1) < 0 := nI_pos (by omega)
  have g2 : ¬ nI (3 * i + 2) < 0 := nI_pos (by omega)
  have c1 : (nI (3 * i + 1)).toNatClampNeg = 3 * i + 1 := nI_cl _ (by omega)
  have c2 : (nI (3 * i + 2)).toNatClampNeg = 3 * i + 2 := nI_cl _ (by omega)
  have k1 : 3 * i + 1 < L := by omega
  have k2 : 3 * i + 2 < L := by omega
  have l2 : 2 < 3 := by decide
  have f3 : nI (3 * i) + 3 = nI (3 * (i + 1)) := nI_add (3 * i) 3
  refine ⟨h', s', n', u', p', V', x', k', L', ?_, H', hsp'.trans hsp⟩
  rw [hd_i hsp hi hL, hw, sw_20]
  unfold lwL
  simp only [x164_637, x164_638, x164_639, x164_640, x164_641, x164_642, x164_642s, x164_643, x164_646, x164_647, x164_648, x164_649, x164_650, x164_651, x164_651s, x164_652, x164_655, x164_658, x164_659_0, x164_659_1, x164_659b, x164_683, x164_686, evI_i, evJl_i, evJf_i, evJd_i, evA_r, evA_n, evA_q, evLk_c, evS1_d, evS2_d, evFl_n, evFl_c, evGl_n, evGl_c, evIn_n, evIn_c, evCat_i, evCat_l, evCat_f, evCat_d, evCat_r, evCat_z, evCat_q, evBd_some, evTl_s, evTl_n, va_rf_s, va_rf_n, and_true, true_and, and_false, false_and, if_true, if_false, not_true_eq_false, not_false_eq_true, reduceCtorEq, ↓reduceIte, Nat.reduceAdd, Nat.reduceEqDiff, Nat.reduceLT, Nat.reduceLeDiff, Nat.reduceSub, Nat.zero_ne_one, Nat.one_ne_zero, hs2, hs2', a0, b0, f1, f2, g1, g2, c1, c2, k1, k2, l2, f3, S1, S2, cmp_self, Option.toList, List.nil_append, List.cons_append]
theorem lc_21 (H : LR h s n u p V x k Lp) (hsp : evSp h = evSp0 L xs) {i : Nat} (hi : 3 * i + 3 ≤ L) (hL : L ≤ 1536) (hw : xs (3 * i) &&& 31 = 21) : nxt i L xs h n u p V := by
  obtain ⟨a, h', s', n', u', p', V', x', k', L', S1, S2, H', hsp'⟩ := S_restore H (xs (3 * i + 1))
  have hs2 : evSp h 2 = (L, xs) := by rw [hsp]; rfl
  have hs2' : evSp h' 2 = (L, xs) := by rw [hsp', hsp]; rfl
  have a0 : evAt h 0 7 := H.1.2.2.1
  have b0 : evAt h' 375 8 := H'.2.1.1
  have f1 : nI (3 * i) + 1 = nI (3 * i + 1) := (nI_succ _).symm
  have f2 : nI (3 * i) + 2 = nI (3 * i + 2) := nI_add (3 * i) 2
  have g1 : ¬ nI (3 * i + 1) < 0 := nI_pos (by omega)
  have g2 : ¬ nI (3 * i + 2) < 0 := nI_pos (by omega)
  have c1 : (nI (3 * i + 1)).toNatClampNeg = 3 * i + 1 := nI_cl _ (by omega)
  have c2 : (nI (3 * i + 2)).toNatClampNeg = 3 * i + 2 := nI_cl _ (by omega)
  have k1 : 3 * i + 1 < L := by omega
  have k2 : 3 * i + 2 < L := by omega
  have l2 : 2 < 3 := by decide
  have f3 : nI (3 * i) + 3 = nI (3 * (i + 1)) := nI_add (3 * i) 3
  refine ⟨h', s', n', u', p', V', x', k', L', ?_, H', hsp'.trans hsp⟩
  rw [hd_i hsp hi hL, hw, sw_21]
  unfold lwL
  simp only [x164_660, x164_661, x164_662, x164_663, x164_664, x164_665, x164_665s, x164_666, x164_669, x164_670, x164_671, x164_672, x164_673, x164_674, x164_674s, x164_675, x164_678, x164_681, x164_682_0, x164_682_1, x164_682b, x164_683, x164_686, evI_i, evJl_i, evJf_i, evJd_i, evA_r, evA_n, evA_q, evLk_c, evS1_d, evS2_d, evFl_n, evFl_c, evGl_n, evGl_c, evIn_n, evIn_c, evCat_i, evCat_l, evCat_f, evCat_d, evCat_r, evCat_z, evCat_q, evBd_some, evTl_s, evTl_n, va_rf_s, va_rf_n, and_true, true_and, and_false, false_and, if_true, if_false, not_true_eq_false, not_false_eq_true, reduceCtorEq, ↓reduceIte, Nat.reduceAdd, Nat.reduceEqDiff, Nat.reduceLT, Nat.reduceLeDiff, Nat.reduceSub, Nat.zero_ne_one, Nat.one_ne_zero, hs2, hs2', a0, b0, f1, f2, g1, g2, c1, c2, k1, k2, l2, f3, S1, S2, cmp_self, Option.toList, List.nil_append, List.cons_append]
theorem lc_x (H : LR h s n u p V x k Lp) (hsp : evSp h = evSp0 L xs) {i : Nat} (hi : 3 * i + 3 ≤ L) (hL : L ≤ 1536) (hw : ¬ xs (3 * i) &&& 31 = 0 ∧ ¬ xs (3 * i) &&& 31 = 1 ∧ ¬ xs (3 * i) &&& 31 = 2 ∧ ¬ xs (3 * i) &&& 31 = 3 ∧ ¬ xs (3 * i) &&& 31 = 4 ∧ ¬ xs (3 * i) &&& 31 = 5 ∧ ¬ xs (3 * i) &&& 31 = 6 ∧ ¬ xs (3 * i) &&& 31 = 7 ∧ ¬ xs (3 * i) &&& 31 = 8 ∧ ¬ xs (3 * i) &&& 31 = 9 ∧ ¬ xs (3 * i) &&& 31 = 10 ∧ ¬ xs (3 * i) &&& 31 = 11 ∧ ¬ xs (3 * i) &&& 31 = 12 ∧ ¬ xs (3 * i) &&& 31 = 13 ∧ ¬ xs (3 * i) &&& 31 = 14 ∧ ¬ xs (3 * i) &&& 31 = 15 ∧ ¬ xs (3 * i) &&& 31 = 16 ∧ ¬ xs (3 * i) &&& 31 = 17 ∧ ¬ xs (3 * i) &&& 31 = 18 ∧ ¬ xs (3 * i) &&& 31 = 19 ∧ ¬ xs (3 * i) &&& 31 = 20 ∧ ¬ xs (3 * i) &&& 31 = 21) : nxt i L xs h n u p V := by
  have f3 : nI (3 * i) + 3 = nI (3 * (i + 1)) := nI_add (3 * i) 3
  refine ⟨h, s, n, u, p, V, x, k, Lp, ?_, H, hsp⟩
  rw [hd_i hsp hi hL]
  obtain ⟨w0, w1, w2, w3, w4, w5, w6, w7, w8, w9, w10, w11, w12, w13, w14, w15, w16, w17, w18, w19, w20, w21⟩ := hw
  rw [x164_32, if_neg w0, if_neg w1, if_neg w2, if_neg w3, if_neg w4, if_neg w5, if_neg w6, if_neg w7, if_neg w8, if_neg w9, if_neg w10, if_neg w11, if_neg w12, if_neg w13, if_neg w14, if_neg w15, if_neg w16, if_neg w17, if_neg w18, if_neg w19, if_neg w20, if_neg w21]
  unfold lwL
  simp only [x164_683, x164_686, evI_i, evJl_i, evJf_i, evJd_i, evA_r, evA_n, evA_q, evLk_c, evS1_d, evS2_d, evFl_n, evFl_c, evGl_n, evGl_c, evIn_n, evIn_c, evCat_i, evCat_l, evCat_f, evCat_d, evCat_r, evCat_z, evCat_q, evBd_some, evTl_s, evTl_n, va_rf_s, va_rf_n, and_true, true_and, and_false, false_and, if_true, if_false, not_true_eq_false, not_false_eq_true, reduceCtorEq, ↓reduceIte, Nat.reduceAdd, Nat.reduceEqDiff, Nat.reduceLT, Nat.reduceLeDiff, Nat.reduceSub, Nat.zero_ne_one, Nat.one_ne_zero, f3]
theorem lc_all (hsh : ∀ {h : evH} {s : Nat → Option Nat} {n : Nat} {u p : Nat → Nat → Int32} {V : Nat → evVt} {x k L : Nat}, LR h s n u p V x k L → stepI 70 132 [] h n u p V) (hde : ∀ {h : evH} {s : Nat → Option Nat} {n : Nat} {u p : Nat → Nat → Int32} {V : Nat → evVt} {x k L : Nat}, LR h s n u p V x k L → stepD h n u p V) (H : LR h s n u p V x k Lp) (hsp : evSp h = evSp0 L xs) {i : Nat} (hi : 3 * i + 3 ≤ L) (hL : L ≤ 1536) : nxt i L xs h n u p V := by
  by_cases w0 : xs (3 * i) &&& 31 = 0
  · exact lc_0 H hsp hi hL w0
  by_cases w1 : xs (3 * i) &&& 31 = 1
  · exact lc_1 H hsp hi hL w1
  by_cases w2 : xs (3 * i) &&& 31 = 2
  · exact lc_2 H hsp hi hL w2
  by_cases w3 : xs (3 * i) &&& 31 = 3
  · exact lc_3 H hsp hi hL w3
  by_cases w4 : xs (3 * i) &&& 31 = 4
  · exact lc_4 H hsp hi hL w4
  by_cases w5 : xs (3 * i) &&& 31 = 5
  · exact lc_5 H hsp hi hL w5
  by_cases w6 : xs (3 * i) &&& 31 = 6
  · exact lc_6 H hsp hi hL w6
  by_cases w7 : xs (3 * i) &&& 31 = 7
  · exact lc_7 H hsp hi hL w7
  by_cases w8 : xs (3 * i) &&& 31 = 8
  · exact lc_8 H hsp hi hL w8
  by_cases w9 : xs (3 * i) &&& 31 = 9
  · exact lc_9 H hsp hi hL w9
  by_cases w10 : xs (3 * i) &&& 31 = 10
  · exact lc_10 H hsp hi hL w10 (hsh H)
  by_cases w11 : xs (3 * i) &&& 31 = 11
  · exact lc_11 H hsp hi hL w11 (hde H)
  by_cases w12 : xs (3 * i) &&& 31 = 12
  · exact lc_12 H hsp hi hL w12
  by_cases w13 : xs (3 * i) &&& 31 = 13
  · exact lc_13 H hsp hi hL w13
  by_cases w14 : xs (3 * i) &&& 31 = 14
  · exact lc_14 H hsp hi hL w14
  by_cases w15 : xs (3 * i) &&& 31 = 15
  · exact lc_15 H hsp hi hL w15
  by_cases w16 : xs (3 * i) &&& 31 = 16
  · exact lc_16 H hsp hi hL w16
  by_cases w17 : xs (3 * i) &&& 31 = 17
  · exact lc_17 H hsp hi hL w17
  by_cases w18 : xs (3 * i) &&& 31 = 18
  · exact lc_18 H hsp hi hL w18
  by_cases w19 : xs (3 * i) &&& 31 = 19
  · exact lc_19 H hsp hi hL w19
  by_cases w20 : xs (3 * i) &&& 31 = 20
  · exact lc_20 H hsp hi hL w20
  by_cases w21 : xs (3 * i) &&& 31 = 21
  · exact lc_21 H hsp hi hL w21
  exact lc_x H hsp hi hL ⟨w0, w1, w2, w3, w4, w5, w6, w7, w8, w9, w10, w11, w12, w13, w14, w15, w16, w17, w18, w19, w20, w21⟩
theorem law_lp (hsh : ∀ {h : evH} {s : Nat → Option Nat} {n : Nat} {u p : Nat → Nat → Int32} {V : Nat → evVt} {x k L : Nat}, LR h s n u p V x k L → stepI 70 132 [] h n u p V) (hde : ∀ {h : evH} {s : Nat → Option Nat} {n : Nat} {u p : Nat → Nat → Int32} {V : Nat → evVt} {x k L : Nat}, LR h s n u p V x k L → stepD h n u p V) (hL : L ≤ 1536) (d : Nat) : ∀ (i : Nat) {h : evH} {s : Nat → Option Nat} {n : Nat} {u p : Nat → Nat → Int32} {V : Nat → evVt} {x k Lp : Nat}, L < 3 * (i + d) + 3 → i ≤ 600 → LR h s n u p V x k Lp → evSp h = evSp0 L xs → ∃ (h' : evH) (m' : evM), evX 164 18 (lwL i) [] h (memW u p V n) = some (some (.int 1), h', m') ∧ evN h' ≤ 10000 ∧ evSl h' ≤ 100000 := by
  induction d with
  | zero =>
    intro i h s n u p V x k Lp hd hi H hsp
    have hs2 : evSp h 2 = (L, xs) := by rw [hsp]; rfl
    have e3 : Int32.ofNat L - 3 < nI (3 * i) := by
      rw [Int32.lt_iff_toInt_lt]
      have t1 : (Int32.ofNat L).toInt = (L : Int) := nI_toInt (by omega)
      have t2 : (nI (3 * i)).toInt = ((3 * i : Nat) : Int) := nI_toInt (by omega)
      have t3 : (3 : Int32).toInt = 3 := rfl
      have t4 : (Int32.ofNat L - 3).toInt = (Int32.ofNat L).toInt - (3 : Int32).toInt := ti_sub (by omega) (by omega)
      omega
    have l2 : 2 < 3 := by decide
    refine ⟨h, memW u p V n, ?_, ?_, ?_⟩
    · unfold lwL
      simp only [x164_18, x164_19, x164_20s, x164_21, x164_22, x164_23, x164_20i, x164_20b, x164_20d, x164_20h, x164_20l, x164_689, x164_690_0, x164_690_1, x164_690b, evI_i, evJl_i, evJf_i, evJd_i, evA_r, evA_n, evA_q, evLk_c, evS1_d, evS2_d, evFl_n, evFl_c, evGl_n, evGl_c, evIn_n, evIn_c, evCat_i, evCat_l, evCat_f, evCat_d, evCat_r, evCat_z, evCat_q, evBd_some, evTl_s, evTl_n, va_rf_s, va_rf_n, and_true, true_and, and_false, false_and, if_true, if_false, not_true_eq_false, not_false_eq_true, reduceCtorEq, ↓reduceIte, Nat.reduceAdd, Nat.reduceEqDiff, Nat.reduceLT, Nat.reduceLeDiff, Nat.reduceSub, Nat.zero_ne_one, Nat.one_ne_zero, hs2, e3, l2]
    · have h1 := H.1.2.1
      have h2 := H.1.1
      omega
    · have h1 := H.2.2.2.1
      have h2 := H.1.1
      omega
  | succ d ih =>
    intro i h s n u p V x k Lp hd hi H hsp
    by_cases hc : 3 * i + 3 ≤ L
    · obtain ⟨h', s', n', u', p', V', x', k', L', e, H', hsp'⟩ := lc_all hsh hde H hsp hc hL
      rw [e]
      exact ih (i + 1) (by omega) (by omega) H' hsp'
    · have hs2 : evSp h 2 = (L, xs) := by rw [hsp]; rfl
      have e3 : Int32.ofNat L - 3 < nI (3 * i) := by
        rw [Int32.lt_iff_toInt_lt]
        have t1 : (Int32.ofNat L).toInt = (L : Int) := nI_toInt (by omega)
        have t2 : (nI (3 * i)).toInt = ((3 * i : Nat) : Int) := nI_toInt (by omega)
        have t3 : (3 : Int32).toInt = 3 := rfl
        have t4 : (Int32.ofNat L - 3).toInt = (Int32.ofNat L).toInt - (3 : Int32).toInt := ti_sub (by omega) (by omega)
        omega
      have l2 : 2 < 3 := by decide
      refine ⟨h, memW u p V n, ?_, ?_, ?_⟩
      · unfold lwL
        simp only [x164_18, x164_19, x164_20s, x164_21, x164_22, x164_23, x164_20i, x164_20b, x164_20d, x164_20h, x164_20l, x164_689, x164_690_0, x164_690_1, x164_690b, evI_i, evJl_i, evJf_i, evJd_i, evA_r, evA_n, evA_q, evLk_c, evS1_d, evS2_d, evFl_n, evFl_c, evGl_n, evGl_c, evIn_n, evIn_c, evCat_i, evCat_l, evCat_f, evCat_d, evCat_r, evCat_z, evCat_q, evBd_some, evTl_s, evTl_n, va_rf_s, va_rf_n, and_true, true_and, and_false, false_and, if_true, if_false, not_true_eq_false, not_false_eq_true, reduceCtorEq, ↓reduceIte, Nat.reduceAdd, Nat.reduceEqDiff, Nat.reduceLT, Nat.reduceLeDiff, Nat.reduceSub, Nat.zero_ne_one, Nat.one_ne_zero, hs2, e3, l2]
      · have h1 := H.1.2.1
        have h2 := H.1.1
        omega
      · have h1 := H.2.2.2.1
        have h2 := H.1.1
        omega
end LP
