/-! the law's check of what there is: it answers 1 -/
section SM
variable {h : evH} {u p : Nat → Nat → Int32} {V : Nat → evVt} {n q N len : Nat} {f : Nat → Int32} {x : Int32}
theorem memW_5 : evGM (memW u p V 0) 375 5 u = memW u p V 0 := by
  funext y j
  unfold evGM
  by_cases h1 : 375 ≤ y ∧ y < 375 + 5
  · rw [if_pos h1]
    have e : y = 375 + (y - 375) := by omega
    conv => rhs; rw [e, memW_row (by omega)]
  · rw [if_neg h1]
theorem W_belief (hx : xP h) (hlen : len ≤ 128) (h9 : u 0 9 = nI len) (b : Int32) : evX 70 0 [(0, .int b), (1, .ref 375), (2, .ref 378), (3, .ref 379)] [] h (memW u p V 0) = some (some (.int (blF (u 0) (u 3) (u 4) b len)), h, memW u p V 0) := by
  have B := c_belief (m := memW u p V 0) hx.2.1 hlen h9 b
  rw [memW_5] at B
  exact B
theorem W_lbid (hx : xP h) {k : Nat} (hk : k < 128) : evX 66 0 [(0, .int (nI k)), (1, .ref 378), (2, .ref 379)] [] h (memW u p V 0) = some (some (.int (bidE (u 3) (u 4) k)), h, memW u p V 0) := by
  have B := c_lbid (m := memW u p V 0) (w := u) hx.2.1 hk
  rw [memW_5] at B
  exact B
/-- the sums so far: places ahead of k have bidder b's part too -/
def alF (a : Nat → Nat → Int32) (b k : Nat) : Nat → Int32 := fun j => if j < k then alR a j (b + 1) else if j < 7 then alR a j b else 0
theorem alF_s (a : Nat → Nat → Int32) (b k : Nat) (hk : k < 7) : rwS (alF a b k) k (alF a b k k + a 1 (8 * b + k)) = alF a b (k + 1) := by
  funext j
  rw [rwS_at]
  unfold alF
  by_cases hj : j = k
  · subst hj
    rw [if_pos rfl, if_neg (Nat.lt_irrefl j), if_pos hk, if_pos (Nat.lt_succ_self j)]
    rfl
  · rw [if_neg hj]
    by_cases h1 : j < k
    · rw [if_pos h1, if_pos (by omega)]
    · rw [if_neg h1, if_neg (show ¬ j < k + 1 by omega)]
theorem alF_7 (a : Nat → Nat → Int32) (b : Nat) : alF a b 7 = alF a (b + 1) 0 := by
  funext j
  unfold alF
  rw [if_neg (show ¬ j < 0 by omega)]
  by_cases h1 : j < 7
  · rw [if_pos h1, if_pos h1]
  · rw [if_neg h1, if_neg h1, if_neg h1]
theorem alF_0 (a : Nat → Nat → Int32) : (fun _ => 0 : Nat → Int32) = alF a 0 0 := by
  funext j
  unfold alF
  rw [if_neg (show ¬ j < 0 by omega)]
  split <;> rfl
/-- the class's answers, whatever is no longer looked at -/
def cOf (h : evH) (u : Nat → Nat → Int32) (V : Nat → evVt) (n : Nat) : Prop := ∀ (p : Nat → Nat → Int32) (k : Nat) (w : Int32), k < n → evX 53 0 [(0, .ref 0), (1, .int (nI k)), (2, .int w)] [] h (memW u p V 0) = some (some (.int (ofS (V 0) k w)), h, memW u p V 0)
def cLot (h : evH) (u : Nat → Nat → Int32) (V : Nat → evVt) (q : Nat) : Prop := ∀ (p : Nat → Nat → Int32) (k : Nat) (w : Int32), k < q → evX 54 0 [(0, .ref 0), (1, .int (nI k)), (2, .int w)] [] h (memW u p V 0) = some (some (.int (ofL (V 0) k w)), h, memW u p V 0)
theorem sm_in (hx : xP h) (hi : evAt h N 9) (hi8 : evLen h N = 8) (hN : 385 ≤ N) (hN2 : N < 900000000) (hO : cOf h u V n) {b : Nat} (hb : b < n) (hn : n ≤ 3) (hF : ∀ j, j < 7 → ofS (V 0) b (nI j) = u 1 (8 * b + j)) (y : Int32) : evX 74 46 [(0, .ref 0), (1, .int x), (2, .ref 375), (3, .ref 376), (4, .ref 377), (5, .ref 378), (6, .ref 379), (7, .ref N), (8, .int 0), (9, .int (nI b)), (10, .int y), (11, .int (nI 0))] [] h (memW u (rowP p N (alF u b 0)) V 0) = evX 74 100 [(0, .ref 0), (1, .int x), (2, .ref 375), (3, .ref 376), (4, .ref 377), (5, .ref 378), (6, .ref 379), (7, .ref N), (8, .int 0), (9, .int (nI b)), (10, .int y), (11, .int (nI 7))] [] h (memW u (rowP p N (alF u (b + 1) 0)) V 0) := by
  obtain ⟨sa0, sn0, sa1, sn1, sa2, sn2, sa3, sn3, sa4, sn4, sa5, sn5, sa6, sn6, sa7, sn7, sa8, sn8, sa9, sn9⟩ := xP_a hx
  have a0 := hx.1.2.2.1
  have loop := loop_up (G := fun k => evX 74 46 [(0, .ref 0), (1, .int x), (2, .ref 375), (3, .ref 376), (4, .ref 377), (5, .ref 378), (6, .ref 379), (7, .ref N), (8, .int 0), (9, .int (nI b)), (10, .int y), (11, .int (nI k))] [] h (memW u (rowP p N (alF u b k)) V 0)) (n := 7) (fun k hk => by
    have hlt : ¬ (7 : Int32) ≤ nI k := nI_ge (b := 7) hk (by omega)
    have O := fun p => hO p b (nI k) hb
    rw [hF k hk] at O
    obtain ⟨ij_p, ij_c, ij_l⟩ := rdx (k := 8 * b + k) (n := 24) (by omega) (by decide)
    obtain ⟨ik_p, ik_c, ik_l⟩ := rdx (k := k) (n := 8) (by omega) (by decide)
    show _ = evX 74 46 [(0, .ref 0), (1, .int x), (2, .ref 375), (3, .ref 376), (4, .ref 377), (5, .ref 378), (6, .ref 379), (7, .ref N), (8, .int 0), (9, .int (nI b)), (10, .int y), (11, .int (nI (k + 1)))] [] h (memW u (rowP p N (alF u b (k + 1))) V 0)
    rw [← alF_s u b k hk]
    conv => lhs; rw [x74_46]
    simp only [x74_48, x74_50, x74_53, x74_54, x74_56, x74_58, x74_61, x74_62, x74_64, x74_66, x74_67, x74_69, x74_70, x74_70s, x74_71, x74_74, x74_75_0, x74_75_1, x74_75b, x74_76, x74_78, x74_80, x74_81, x74_81s, x74_82, x74_83, x74_85, x74_87, x74_88, x74_90, x74_91, x74_91s, x74_92, x74_93, x74_94, x74_97, evI_i, evJl_i, evJf_i, evJd_i, evA_r, evA_n, evA_q, evLk_c, evS1_d, evS2_d, evFl_n, evFl_c, evGl_n, evGl_c, evIn_n, evIn_c, evCat_i, evCat_l, evCat_f, evCat_d, evCat_r, evCat_z, evCat_q, evBd_some, evTl_s, evTl_n, va_rf_s, va_rf_n, and_true, true_and, and_false, false_and, if_true, if_false, not_true_eq_false, not_false_eq_true, reduceCtorEq, ↓reduceIte, Nat.reduceAdd, Nat.reduceEqDiff, Nat.reduceLT, Nat.reduceLeDiff, Nat.reduceSub, Nat.zero_ne_one, Nat.one_ne_zero, sa0, sn0, sa1, sn1, sa2, sn2, sa3, sn3, sa4, sn4, sa5, sn5, sa6, sn6, sa7, sn7, sa8, sn8, sa9, sn9, mG0, mS0, mG1, mS1, mG2, mS2, mG3, mS3, mG4, mS4, mG5, mS5, mG6, mS6, mG7, mS7, mG8, mS8, mG9, mS9, lt0, lt1, lt2, lt3, lt4, lt5, lt6, lt7, lt8, lt9, lt10, lc0, lc1, lc2, lc3, lc4, lc5, lc6, lc7, lc8, lc9, lc10, hlt, O, a0, hi, hi8, itR hN hN2, itRS hN hN2, mul8, nI_add, nA1, ij_p, ij_c, ij_l, ik_p, ik_c, ik_l, Option.toList, List.nil_append, List.cons_append])
  refine loop.trans ?_
  have hge : (7 : Int32) ≤ nI 7 := Int32.le_refl _
  show evX 74 46 [(0, .ref 0), (1, .int x), (2, .ref 375), (3, .ref 376), (4, .ref 377), (5, .ref 378), (6, .ref 379), (7, .ref N), (8, .int 0), (9, .int (nI b)), (10, .int y), (11, .int (nI 7))] [] h (memW u (rowP p N (alF u b 7)) V 0) = _
  rw [alF_7]
  conv => lhs; rw [x74_46]
  simp only [x74_48, x74_50, evI_i, evJl_i, evJf_i, evJd_i, evA_r, evA_n, evA_q, evLk_c, evS1_d, evS2_d, evFl_n, evFl_c, evGl_n, evGl_c, evIn_n, evIn_c, evCat_i, evCat_l, evCat_f, evCat_d, evCat_r, evCat_z, evCat_q, evBd_some, evTl_s, evTl_n, va_rf_s, va_rf_n, and_true, true_and, and_false, false_and, if_true, if_false, not_true_eq_false, not_false_eq_true, reduceCtorEq, ↓reduceIte, Nat.reduceAdd, Nat.reduceEqDiff, Nat.reduceLT, Nat.reduceLeDiff, Nat.reduceSub, Nat.zero_ne_one, Nat.one_ne_zero, hge]
theorem sm_b1 (hx : xP h) (hi : evAt h N 9) (hi8 : evLen h N = 8) (hN : 385 ≤ N) (hN2 : N < 900000000) (hO : cOf h u V n) {b : Nat} (hb : b < n) (hn : n ≤ 3) (h5 : u 0 5 = nI n) (hlen : len ≤ 128) (h9 : u 0 9 = nI len) (hF : ∀ j, j < 7 → ofS (V 0) b (nI j) = u 1 (8 * b + j)) (h78 : ofS (V 0) b 7 = coi (blA0 u b) ∧ ofS (V 0) b 8 = if blA0 u b = 0 then -6 else blA0 u b &&& 7) (hF9 : ofS (V 0) b 9 = u 1 (8 * b + 7)) (E : evL) (hE : E = [] ∨ ∃ y z, E = [(10, .int y), (11, .int z)]) : evX 74 12 ([(0, .ref 0), (1, .int x), (2, .ref 375), (3, .ref 376), (4, .ref 377), (5, .ref 378), (6, .ref 379), (7, .ref N), (8, .int 0), (9, .int (nI b))] ++ E) [] h (memW u (rowP p N (alF u b 0)) V 0) = evX 74 12 [(0, .ref 0), (1, .int x), (2, .ref 375), (3, .ref 376), (4, .ref 377), (5, .ref 378), (6, .ref 379), (7, .ref N), (8, .int 0), (9, .int (nI (b + 1))), (10, .int (blA0 u b)), (11, .int (nI 7))] [] h (memW u (rowP p N (alF u (b + 1) 0)) V 0) := by
  obtain ⟨sa0, sn0, sa1, sn1, sa2, sn2, sa3, sn3, sa4, sn4, sa5, sn5, sa6, sn6, sa7, sn7, sa8, sn8, sa9, sn9⟩ := xP_a hx
  have a0 := hx.1.2.2.1
  have hlt : ¬ nI n ≤ nI b := nI_ge hb (by omega)
  have st : evX 74 12 ([(0, .ref 0), (1, .int x), (2, .ref 375), (3, .ref 376), (4, .ref 377), (5, .ref 378), (6, .ref 379), (7, .ref N), (8, .int 0), (9, .int (nI b))] ++ E) [] h (memW u (rowP p N (alF u b 0)) V 0) = evX 74 46 [(0, .ref 0), (1, .int x), (2, .ref 375), (3, .ref 376), (4, .ref 377), (5, .ref 378), (6, .ref 379), (7, .ref N), (8, .int 0), (9, .int (nI b)), (10, .int (blA0 u b)), (11, .int (nI 0))] [] h (memW u (rowP p N (alF u b 0)) V 0) := by
    unfold blA0
    rw [lenW_nI hlen h9]
    have B := fun p => W_belief (p := p) (V := V) hx hlen h9 (nI b)
    by_cases h7 : u 0 7 < 0
    · have h7' : ¬ 0 ≤ u 0 7 := Int32.not_le.mpr h7
      rcases hE with rfl | ⟨y, z, rfl⟩
      · conv => lhs; rw [List.append_nil, x74_12]
        simp only [x74_14, x74_15, x74_16, x74_16s, x74_17, x74_20, x74_21, x74_23, x74_23s, x74_24, x74_27, x74_28, x74_31, x74_33, x74_34, x74_36, x74_38, x74_41, x74_43, x74_44, evI_i, evJl_i, evJf_i, evJd_i, evA_r, evA_n, evA_q, evLk_c, evS1_d, evS2_d, evFl_n, evFl_c, evGl_n, evGl_c, evIn_n, evIn_c, evCat_i, evCat_l, evCat_f, evCat_d, evCat_r, evCat_z, evCat_q, evBd_some, evTl_s, evTl_n, va_rf_s, va_rf_n, and_true, true_and, and_false, false_and, if_true, if_false, not_true_eq_false, not_false_eq_true, reduceCtorEq, ↓reduceIte, Nat.reduceAdd, Nat.reduceEqDiff, Nat.reduceLT, Nat.reduceLeDiff, Nat.reduceSub, Nat.zero_ne_one, Nat.one_ne_zero, sa0, sn0, sa1, sn1, sa2, sn2, sa3, sn3, sa4, sn4, sa5, sn5, sa6, sn6, sa7, sn7, sa8, sn8, sa9, sn9, mG0, mS0, mG1, mS1, mG2, mS2, mG3, mS3, mG4, mS4, mG5, mS5, mG6, mS6, mG7, mS7, mG8, mS8, mG9, mS9, lt0, lt1, lt2, lt3, lt4, lt5, lt6, lt7, lt8, lt9, lt10, lc0, lc1, lc2, lc3, lc4, lc5, lc6, lc7, lc8, lc9, lc10, h5, hlt, h7, h7', B, Option.toList, List.nil_append, List.cons_append]
        rfl
      · conv => lhs; simp only [List.cons_append, List.nil_append]; rw [x74_12]
        simp only [x74_14, x74_15, x74_16, x74_16s, x74_17, x74_20, x74_21, x74_23, x74_23s, x74_24, x74_27, x74_28, x74_31, x74_33, x74_34, x74_36, x74_38, x74_41, x74_43, x74_44, evI_i, evJl_i, evJf_i, evJd_i, evA_r, evA_n, evA_q, evLk_c, evS1_d, evS2_d, evFl_n, evFl_c, evGl_n, evGl_c, evIn_n, evIn_c, evCat_i, evCat_l, evCat_f, evCat_d, evCat_r, evCat_z, evCat_q, evBd_some, evTl_s, evTl_n, va_rf_s, va_rf_n, and_true, true_and, and_false, false_and, if_true, if_false, not_true_eq_false, not_false_eq_true, reduceCtorEq, ↓reduceIte, Nat.reduceAdd, Nat.reduceEqDiff, Nat.reduceLT, Nat.reduceLeDiff, Nat.reduceSub, Nat.zero_ne_one, Nat.one_ne_zero, sa0, sn0, sa1, sn1, sa2, sn2, sa3, sn3, sa4, sn4, sa5, sn5, sa6, sn6, sa7, sn7, sa8, sn8, sa9, sn9, mG0, mS0, mG1, mS1, mG2, mS2, mG3, mS3, mG4, mS4, mG5, mS5, mG6, mS6, mG7, mS7, mG8, mS8, mG9, mS9, lt0, lt1, lt2, lt3, lt4, lt5, lt6, lt7, lt8, lt9, lt10, lc0, lc1, lc2, lc3, lc4, lc5, lc6, lc7, lc8, lc9, lc10, h5, hlt, h7, h7', B, Option.toList, List.nil_append, List.cons_append]
        rfl
    · have h7' : 0 ≤ u 0 7 := Int32.not_lt.mp h7
      rcases hE with rfl | ⟨y, z, rfl⟩
      · conv => lhs; rw [List.append_nil, x74_12]
        simp only [x74_14, x74_15, x74_16, x74_16s, x74_17, x74_20, x74_21, x74_23, x74_23s, x74_24, x74_27, x74_28, x74_31, x74_33, x74_34, x74_36, x74_38, x74_41, x74_43, x74_44, evI_i, evJl_i, evJf_i, evJd_i, evA_r, evA_n, evA_q, evLk_c, evS1_d, evS2_d, evFl_n, evFl_c, evGl_n, evGl_c, evIn_n, evIn_c, evCat_i, evCat_l, evCat_f, evCat_d, evCat_r, evCat_z, evCat_q, evBd_some, evTl_s, evTl_n, va_rf_s, va_rf_n, and_true, true_and, and_false, false_and, if_true, if_false, not_true_eq_false, not_false_eq_true, reduceCtorEq, ↓reduceIte, Nat.reduceAdd, Nat.reduceEqDiff, Nat.reduceLT, Nat.reduceLeDiff, Nat.reduceSub, Nat.zero_ne_one, Nat.one_ne_zero, sa0, sn0, sa1, sn1, sa2, sn2, sa3, sn3, sa4, sn4, sa5, sn5, sa6, sn6, sa7, sn7, sa8, sn8, sa9, sn9, mG0, mS0, mG1, mS1, mG2, mS2, mG3, mS3, mG4, mS4, mG5, mS5, mG6, mS6, mG7, mS7, mG8, mS8, mG9, mS9, lt0, lt1, lt2, lt3, lt4, lt5, lt6, lt7, lt8, lt9, lt10, lc0, lc1, lc2, lc3, lc4, lc5, lc6, lc7, lc8, lc9, lc10, h5, hlt, h7, h7', B, Option.toList, List.nil_append, List.cons_append]
        rfl
      · conv => lhs; simp only [List.cons_append, List.nil_append]; rw [x74_12]
        simp only [x74_14, x74_15, x74_16, x74_16s, x74_17, x74_20, x74_21, x74_23, x74_23s, x74_24, x74_27, x74_28, x74_31, x74_33, x74_34, x74_36, x74_38, x74_41, x74_43, x74_44, evI_i, evJl_i, evJf_i, evJd_i, evA_r, evA_n, evA_q, evLk_c, evS1_d, evS2_d, evFl_n, evFl_c, evGl_n, evGl_c, evIn_n, evIn_c, evCat_i, evCat_l, evCat_f, evCat_d, evCat_r, evCat_z, evCat_q, evBd_some, evTl_s, evTl_n, va_rf_s, va_rf_n, and_true, true_and, and_false, false_and, if_true, if_false, not_true_eq_false, not_false_eq_true, reduceCtorEq, ↓reduceIte, Nat.reduceAdd, Nat.reduceEqDiff, Nat.reduceLT, Nat.reduceLeDiff, Nat.reduceSub, Nat.zero_ne_one, Nat.one_ne_zero, sa0, sn0, sa1, sn1, sa2, sn2, sa3, sn3, sa4, sn4, sa5, sn5, sa6, sn6, sa7, sn7, sa8, sn8, sa9, sn9, mG0, mS0, mG1, mS1, mG2, mS2, mG3, mS3, mG4, mS4, mG5, mS5, mG6, mS6, mG7, mS7, mG8, mS8, mG9, mS9, lt0, lt1, lt2, lt3, lt4, lt5, lt6, lt7, lt8, lt9, lt10, lc0, lc1, lc2, lc3, lc4, lc5, lc6, lc7, lc8, lc9, lc10, h5, hlt, h7, h7', B, Option.toList, List.nil_append, List.cons_append]
        rfl
  rw [st, sm_in hx hi hi8 hN hN2 hO hb hn hF]
  obtain ⟨i7_p, i7_c, i7_l⟩ := rdx (k := 8 * b + 7) (n := 24) (by omega) (by decide)
  have O7 := fun p => hO p b 7 hb
  have O8 := fun p => hO p b 8 hb
  have O9 := fun p => hO p b 9 hb
  rw [h78.1] at O7
  rw [h78.2] at O8
  rw [hF9] at O9
  generalize blA0 u b = y at O7 O8
  by_cases hy : y = 0
  · rw [if_pos hy] at O8
    subst hy
    simp only [x74_100, x74_101, x74_103, x74_105, x74_108, x74_110, x74_113, x74_116, x74_117, x74_119, x74_121, x74_124, x74_126, x74_129, x74_131, x74_134, x74_136, x74_138, x74_139, x74_142, x74_143, x74_145, x74_147, x74_150, x74_151, x74_153, x74_155, x74_156, x74_158, x74_159, x74_159s, x74_160, x74_163, x74_164_0, x74_164_1, x74_164b, x74_165, x74_168, evI_i, evJl_i, evJf_i, evJd_i, evA_r, evA_n, evA_q, evLk_c, evS1_d, evS2_d, evFl_n, evFl_c, evGl_n, evGl_c, evIn_n, evIn_c, evCat_i, evCat_l, evCat_f, evCat_d, evCat_r, evCat_z, evCat_q, evBd_some, evTl_s, evTl_n, va_rf_s, va_rf_n, and_true, true_and, and_false, false_and, if_true, if_false, not_true_eq_false, not_false_eq_true, reduceCtorEq, ↓reduceIte, Nat.reduceAdd, Nat.reduceEqDiff, Nat.reduceLT, Nat.reduceLeDiff, Nat.reduceSub, Nat.zero_ne_one, Nat.one_ne_zero, sa0, sn0, sa1, sn1, sa2, sn2, sa3, sn3, sa4, sn4, sa5, sn5, sa6, sn6, sa7, sn7, sa8, sn8, sa9, sn9, mG0, mS0, mG1, mS1, mG2, mS2, mG3, mS3, mG4, mS4, mG5, mS5, mG6, mS6, mG7, mS7, mG8, mS8, mG9, mS9, lt0, lt1, lt2, lt3, lt4, lt5, lt6, lt7, lt8, lt9, lt10, lc0, lc1, lc2, lc3, lc4, lc5, lc6, lc7, lc8, lc9, lc10, O7, O8, O9, a0, c_coins, mul8, nA7, nA1, i7_p, i7_c, i7_l, Option.toList, List.nil_append, List.cons_append]
  · rw [if_neg hy] at O8
    simp only [x74_100, x74_101, x74_103, x74_105, x74_108, x74_110, x74_113, x74_116, x74_117, x74_119, x74_121, x74_124, x74_126, x74_129, x74_131, x74_134, x74_136, x74_138, x74_139, x74_142, x74_143, x74_145, x74_147, x74_150, x74_151, x74_153, x74_155, x74_156, x74_158, x74_159, x74_159s, x74_160, x74_163, x74_164_0, x74_164_1, x74_164b, x74_165, x74_168, evI_i, evJl_i, evJf_i, evJd_i, evA_r, evA_n, evA_q, evLk_c, evS1_d, evS2_d, evFl_n, evFl_c, evGl_n, evGl_c, evIn_n, evIn_c, evCat_i, evCat_l, evCat_f, evCat_d, evCat_r, evCat_z, evCat_q, evBd_some, evTl_s, evTl_n, va_rf_s, va_rf_n, and_true, true_and, and_false, false_and, if_true, if_false, not_true_eq_false, not_false_eq_true, reduceCtorEq, ↓reduceIte, Nat.reduceAdd, Nat.reduceEqDiff, Nat.reduceLT, Nat.reduceLeDiff, Nat.reduceSub, Nat.zero_ne_one, Nat.one_ne_zero, sa0, sn0, sa1, sn1, sa2, sn2, sa3, sn3, sa4, sn4, sa5, sn5, sa6, sn6, sa7, sn7, sa8, sn8, sa9, sn9, mG0, mS0, mG1, mS1, mG2, mS2, mG3, mS3, mG4, mS4, mG5, mS5, mG6, mS6, mG7, mS7, mG8, mS8, mG9, mS9, lt0, lt1, lt2, lt3, lt4, lt5, lt6, lt7, lt8, lt9, lt10, lc0, lc1, lc2, lc3, lc4, lc5, lc6, lc7, lc8, lc9, lc10, O7, O8, O9, a0, c_coins, mul8, nA7, nA1, hy, i7_p, i7_c, i7_l, Option.toList, List.nil_append, List.cons_append]
end SM
