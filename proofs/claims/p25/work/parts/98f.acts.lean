/-! the law's acts: bidders, lots, plans, bids that are told -/
section AC
variable {h h' : evH} {p p' a b u : Nat → Nat → Int32} {V : Nat → evVt} {v : evVt} {n q T lag g tot L kd bb : Nat} {xs : Nat → Int32} {tn x y : Int32}
def fE (E : evL) : Prop := E = [] ∨ (∃ a, E = [(17, .int a)]) ∨ (∃ a b, E = [(17, .int a), (18, .int b)]) ∨ ∃ a b c, E = [(17, .int a), (18, .int b), (19, .int c)]
/-- E with the ints c at 17 and d at 18 -/
def e78 (E : evL) (c d : Int32) : evL := if E.length = 3 then [(17, .int c), (18, .int d), (19, (E.getD 2 (0, .null)).2)] else [(17, .int c), (18, .int d)]
def e7 (E : evL) (c : Int32) : evL := if E.length = 3 then [(17, .int c), (18, (E.getD 1 (0, .null)).2), (19, (E.getD 2 (0, .null)).2)] else if E.length = 2 then [(17, .int c), (18, (E.getD 1 (0, .null)).2)] else [(17, .int c)]
theorem fE_78 {E : evL} (hE : fE E) (c d : Int32) : fE (e78 E c d) := by
  rcases hE with rfl | ⟨x, rfl⟩ | ⟨x, y, rfl⟩ | ⟨x, y, z, rfl⟩
  · exact Or.inr (Or.inr (Or.inl ⟨_, _, rfl⟩))
  · exact Or.inr (Or.inr (Or.inl ⟨_, _, rfl⟩))
  · exact Or.inr (Or.inr (Or.inl ⟨_, _, rfl⟩))
  · exact Or.inr (Or.inr (Or.inr ⟨_, _, _, rfl⟩))
theorem fE_7 {E : evL} (hE : fE E) (c : Int32) : fE (e7 E c) := by
  rcases hE with rfl | ⟨x, rfl⟩ | ⟨x, y, rfl⟩ | ⟨x, y, z, rfl⟩
  · exact Or.inr (Or.inl ⟨_, rfl⟩)
  · exact Or.inr (Or.inl ⟨_, rfl⟩)
  · exact Or.inr (Or.inr (Or.inl ⟨_, _, rfl⟩))
  · exact Or.inr (Or.inr (Or.inr ⟨_, _, _, rfl⟩))
theorem e78_0 (c d : Int32) : e78 [] c d = [(17, .int c), (18, .int d)] := rfl
theorem e78_1 (x c d : Int32) : e78 [(17, .int x)] c d = [(17, .int c), (18, .int d)] := rfl
theorem e78_2 (x y c d : Int32) : e78 [(17, .int x), (18, .int y)] c d = [(17, .int c), (18, .int d)] := rfl
theorem e78_3 (x y z c d : Int32) : e78 [(17, .int x), (18, .int y), (19, .int z)] c d = [(17, .int c), (18, .int d), (19, .int z)] := rfl
theorem e7_0 (c : Int32) : e7 [] c = [(17, .int c)] := rfl
theorem e7_1 (x c : Int32) : e7 [(17, .int x)] c = [(17, .int c)] := rfl
theorem e7_2 (x y c : Int32) : e7 [(17, .int x), (18, .int y)] c = [(17, .int c), (18, .int y)] := rfl
theorem e7_3 (x y z c : Int32) : e7 [(17, .int x), (18, .int y), (19, .int z)] c = [(17, .int c), (18, .int y), (19, .int z)] := rfl
theorem oneA (k : Nat) : (1 : Int32) + nI k = nI (k + 1) := by rw [Int32.add_comm, nA1]
theorem fourA (k : Nat) : (4 : Int32) + nI k = nI (k + 4) := by rw [Int32.add_comm, nA4]
theorem lw_n (x : Int32) {N : Int32} {n : Nat} (hN : N = nI n) (h0 : 0 < n) (hn : n < 2 ^ 31) : ∃ k, k < n ∧ ∀ (h : evH) (m : evM), evX 65 0 [(0, .int x), (1, .int N)] [] h m = some (some (.int (nI k)), h, m) := by
  obtain ⟨k, hk, e⟩ := low_nI x h0 hn
  subst hN
  exact ⟨k, hk, fun h m => by rw [c_low x (nI n) (nI_ne0 h0 hn), e]⟩
/-- the jumps from act to act -/
theorem j_1 (hx : xP h) (hn : n ≤ 3) (h5 : a 0 5 = nI n) (hk : kd < 14) (hc : ¬ kd = 0 ∨ n = 3) (E : evL) (hE : fE E) : evX 76 167 ([(0, .ref (evO9 + 2)), (1, .ref 0), (2, .ref 375), (3, .ref 376), (4, .ref 377), (5, .ref 378), (6, .ref 379), (7, .ref 380), (8, .ref 381), (9, .ref 382), (10, .ref 383), (11, .ref 384), (12, .int tn), (13, .int x), (14, .int y), (15, .int (nI kd)), (16, .int (nI bb))] ++ E) [] h (memW (two a b) p V 0) = evX 76 266 ([(0, .ref (evO9 + 2)), (1, .ref 0), (2, .ref 375), (3, .ref 376), (4, .ref 377), (5, .ref 378), (6, .ref 379), (7, .ref 380), (8, .ref 381), (9, .ref 382), (10, .ref 383), (11, .ref 384), (12, .int tn), (13, .int x), (14, .int y), (15, .int (nI kd)), (16, .int (nI bb))] ++ E) [] h (memW (two a b) p V 0) := by
  obtain ⟨sa0, sn0, sa1, sn1, sa2, sn2, sa3, sn3, sa4, sn4, sa5, sn5, sa6, sn6, sa7, sn7, sa8, sn8, sa9, sn9⟩ := xP_a hx
  by_cases h0 : kd = 0
  · have e0 : nI kd = 0 := by rw [h0]; rfl
    have e3 : (3 : Int32) ≤ nI n := nI_le (a := 3) (by omega) (by omega)
    rcases hE with rfl | ⟨a, rfl⟩ | ⟨a, b, rfl⟩ | ⟨a, b, c, rfl⟩ <;>
      simp only [x76_167, x76_169, x76_172, x76_173, x76_174, x76_174s, x76_175, x76_176, evI_i, evJl_i, evJf_i, evJd_i, evA_r, evA_n, evA_q, evLk_c, evS1_d, evS2_d, evFl_n, evFl_c, evGl_n, evGl_c, evIn_n, evIn_c, evCat_i, evCat_l, evCat_f, evCat_d, evCat_r, evCat_z, evCat_q, evBd_some, evTl_s, evTl_n, va_rf_s, va_rf_n, and_true, true_and, and_false, false_and, if_true, if_false, not_true_eq_false, not_false_eq_true, reduceCtorEq, ↓reduceIte, Nat.reduceAdd, Nat.reduceEqDiff, Nat.reduceLT, Nat.reduceLeDiff, Nat.reduceSub, Nat.zero_ne_one, Nat.one_ne_zero, sa0, sn0, sa1, sn1, sa2, sn2, sa3, sn3, sa4, sn4, sa5, sn5, sa6, sn6, sa7, sn7, sa8, sn8, sa9, sn9, mG0, mS0, mG1, mS1, mG2, mS2, mG3, mS3, mG4, mS4, mG5, mS5, mG6, mS6, mG7, mS7, mG8, mS8, mG9, mS9, lt0, lt1, lt2, lt3, lt4, lt5, lt6, lt7, lt8, lt9, lt10, lc0, lc1, lc2, lc3, lc4, lc5, lc6, lc7, lc8, lc9, lc10, tw0, tw1, tw2, tw3, tw4, tw5, tw6, tw7, tw8, tw9, tm0, tm1, tm2, tm5, tm6, e0, h5, e3, List.append_nil, List.nil_append, List.cons_append]
  · have e0 : ¬ nI kd = 0 := nI_ne0 (by omega) (by omega)
    rcases hE with rfl | ⟨a, rfl⟩ | ⟨a, b, rfl⟩ | ⟨a, b, c, rfl⟩ <;>
      simp only [x76_167, x76_169, x76_172, x76_173, x76_174, x76_174s, x76_175, x76_176, evI_i, evJl_i, evJf_i, evJd_i, evA_r, evA_n, evA_q, evLk_c, evS1_d, evS2_d, evFl_n, evFl_c, evGl_n, evGl_c, evIn_n, evIn_c, evCat_i, evCat_l, evCat_f, evCat_d, evCat_r, evCat_z, evCat_q, evBd_some, evTl_s, evTl_n, va_rf_s, va_rf_n, and_true, true_and, and_false, false_and, if_true, if_false, not_true_eq_false, not_false_eq_true, reduceCtorEq, ↓reduceIte, Nat.reduceAdd, Nat.reduceEqDiff, Nat.reduceLT, Nat.reduceLeDiff, Nat.reduceSub, Nat.zero_ne_one, Nat.one_ne_zero, e0, List.append_nil, List.nil_append, List.cons_append]
theorem j_2 (hx : xP h) (hq : q ≤ 8) (h6 : a 0 6 = nI q) (hk : kd < 14) (hc : 4 ≤ kd ∨ q = 8) (E : evL) (hE : fE E) : evX 76 266 ([(0, .ref (evO9 + 2)), (1, .ref 0), (2, .ref 375), (3, .ref 376), (4, .ref 377), (5, .ref 378), (6, .ref 379), (7, .ref 380), (8, .ref 381), (9, .ref 382), (10, .ref 383), (11, .ref 384), (12, .int tn), (13, .int x), (14, .int y), (15, .int (nI kd)), (16, .int (nI bb))] ++ E) [] h (memW (two a b) p V 0) = evX 76 357 ([(0, .ref (evO9 + 2)), (1, .ref 0), (2, .ref 375), (3, .ref 376), (4, .ref 377), (5, .ref 378), (6, .ref 379), (7, .ref 380), (8, .ref 381), (9, .ref 382), (10, .ref 383), (11, .ref 384), (12, .int tn), (13, .int x), (14, .int y), (15, .int (nI kd)), (16, .int (nI bb))] ++ E) [] h (memW (two a b) p V 0) := by
  obtain ⟨sa0, sn0, sa1, sn1, sa2, sn2, sa3, sn3, sa4, sn4, sa5, sn5, sa6, sn6, sa7, sn7, sa8, sn8, sa9, sn9⟩ := xP_a hx
  by_cases h0 : 4 ≤ kd
  · have e0 : (4 : Int32) ≤ nI kd := nI_le (a := 4) h0 (by omega)
    rcases hE with rfl | ⟨a, rfl⟩ | ⟨a, b, rfl⟩ | ⟨a, b, c, rfl⟩ <;>
      simp only [x76_266, x76_268, x76_269, x76_272, x76_273, x76_275, x76_275s, x76_276, x76_278, evI_i, evJl_i, evJf_i, evJd_i, evA_r, evA_n, evA_q, evLk_c, evS1_d, evS2_d, evFl_n, evFl_c, evGl_n, evGl_c, evIn_n, evIn_c, evCat_i, evCat_l, evCat_f, evCat_d, evCat_r, evCat_z, evCat_q, evBd_some, evTl_s, evTl_n, va_rf_s, va_rf_n, and_true, true_and, and_false, false_and, if_true, if_false, not_true_eq_false, not_false_eq_true, reduceCtorEq, ↓reduceIte, Nat.reduceAdd, Nat.reduceEqDiff, Nat.reduceLT, Nat.reduceLeDiff, Nat.reduceSub, Nat.zero_ne_one, Nat.one_ne_zero, e0, List.append_nil, List.nil_append, List.cons_append]
  · have e0 : ¬ (4 : Int32) ≤ nI kd := nI_ge (b := 4) (by omega) (by omega)
    have e8 : (8 : Int32) ≤ nI q := nI_le (a := 8) (by omega) (by omega)
    rcases hE with rfl | ⟨a, rfl⟩ | ⟨a, b, rfl⟩ | ⟨a, b, c, rfl⟩ <;>
      simp only [x76_266, x76_268, x76_269, x76_272, x76_273, x76_275, x76_275s, x76_276, x76_278, evI_i, evJl_i, evJf_i, evJd_i, evA_r, evA_n, evA_q, evLk_c, evS1_d, evS2_d, evFl_n, evFl_c, evGl_n, evGl_c, evIn_n, evIn_c, evCat_i, evCat_l, evCat_f, evCat_d, evCat_r, evCat_z, evCat_q, evBd_some, evTl_s, evTl_n, va_rf_s, va_rf_n, and_true, true_and, and_false, false_and, if_true, if_false, not_true_eq_false, not_false_eq_true, reduceCtorEq, ↓reduceIte, Nat.reduceAdd, Nat.reduceEqDiff, Nat.reduceLT, Nat.reduceLeDiff, Nat.reduceSub, Nat.zero_ne_one, Nat.one_ne_zero, sa0, sn0, sa1, sn1, sa2, sn2, sa3, sn3, sa4, sn4, sa5, sn5, sa6, sn6, sa7, sn7, sa8, sn8, sa9, sn9, mG0, mS0, mG1, mS1, mG2, mS2, mG3, mS3, mG4, mS4, mG5, mS5, mG6, mS6, mG7, mS7, mG8, mS8, mG9, mS9, lt0, lt1, lt2, lt3, lt4, lt5, lt6, lt7, lt8, lt9, lt10, lc0, lc1, lc2, lc3, lc4, lc5, lc6, lc7, lc8, lc9, lc10, tw0, tw1, tw2, tw3, tw4, tw5, tw6, tw7, tw8, tw9, tm0, tm1, tm2, tm5, tm6, e0, h6, e8, List.append_nil, List.nil_append, List.cons_append]
theorem j_3 {m : evM} (hk : kd < 14) (hc : ¬ kd = 4) (E : evL) (hE : fE E) : evX 76 357 ([(0, .ref (evO9 + 2)), (1, .ref 0), (2, .ref 375), (3, .ref 376), (4, .ref 377), (5, .ref 378), (6, .ref 379), (7, .ref 380), (8, .ref 381), (9, .ref 382), (10, .ref 383), (11, .ref 384), (12, .int tn), (13, .int x), (14, .int y), (15, .int (nI kd)), (16, .int (nI bb))] ++ E) [] h m = evX 76 429 ([(0, .ref (evO9 + 2)), (1, .ref 0), (2, .ref 375), (3, .ref 376), (4, .ref 377), (5, .ref 378), (6, .ref 379), (7, .ref 380), (8, .ref 381), (9, .ref 382), (10, .ref 383), (11, .ref 384), (12, .int tn), (13, .int x), (14, .int y), (15, .int (nI kd)), (16, .int (nI bb))] ++ E) [] h m := by
  have e0 : ¬ nI kd = 4 := fun z => hc ((nI_eq (b := 4) (by omega) (by omega)).mp z)
  rcases hE with rfl | ⟨a, rfl⟩ | ⟨a, b, rfl⟩ | ⟨a, b, c, rfl⟩ <;>
    simp only [x76_357, x76_359, x76_360, evI_i, evJl_i, evJf_i, evJd_i, evA_r, evA_n, evA_q, evLk_c, evS1_d, evS2_d, evFl_n, evFl_c, evGl_n, evGl_c, evIn_n, evIn_c, evCat_i, evCat_l, evCat_f, evCat_d, evCat_r, evCat_z, evCat_q, evBd_some, evTl_s, evTl_n, va_rf_s, va_rf_n, and_true, true_and, and_false, false_and, if_true, if_false, not_true_eq_false, not_false_eq_true, reduceCtorEq, ↓reduceIte, Nat.reduceAdd, Nat.reduceEqDiff, Nat.reduceLT, Nat.reduceLeDiff, Nat.reduceSub, Nat.zero_ne_one, Nat.one_ne_zero, e0, List.append_nil, List.nil_append, List.cons_append]
theorem j_4 {m : evM} (hk : kd < 14) (hc : 7 ≤ kd) (E : evL) (hE : fE E) : evX 76 429 ([(0, .ref (evO9 + 2)), (1, .ref 0), (2, .ref 375), (3, .ref 376), (4, .ref 377), (5, .ref 378), (6, .ref 379), (7, .ref 380), (8, .ref 381), (9, .ref 382), (10, .ref 383), (11, .ref 384), (12, .int tn), (13, .int x), (14, .int y), (15, .int (nI kd)), (16, .int (nI bb))] ++ E) [] h m = evX 76 524 ([(0, .ref (evO9 + 2)), (1, .ref 0), (2, .ref 375), (3, .ref 376), (4, .ref 377), (5, .ref 378), (6, .ref 379), (7, .ref 380), (8, .ref 381), (9, .ref 382), (10, .ref 383), (11, .ref 384), (12, .int tn), (13, .int x), (14, .int y), (15, .int (nI kd)), (16, .int (nI bb))] ++ E) [] h m := by
  have e0 : (7 : Int32) ≤ nI kd := nI_le (a := 7) hc (by omega)
  rcases hE with rfl | ⟨a, rfl⟩ | ⟨a, b, rfl⟩ | ⟨a, b, c, rfl⟩ <;>
    simp only [x76_429, x76_431, x76_433, evI_i, evJl_i, evJf_i, evJd_i, evA_r, evA_n, evA_q, evLk_c, evS1_d, evS2_d, evFl_n, evFl_c, evGl_n, evGl_c, evIn_n, evIn_c, evCat_i, evCat_l, evCat_f, evCat_d, evCat_r, evCat_z, evCat_q, evBd_some, evTl_s, evTl_n, va_rf_s, va_rf_n, and_true, true_and, and_false, false_and, if_true, if_false, not_true_eq_false, not_false_eq_true, reduceCtorEq, ↓reduceIte, Nat.reduceAdd, Nat.reduceEqDiff, Nat.reduceLT, Nat.reduceLeDiff, Nat.reduceSub, Nat.zero_ne_one, Nat.one_ne_zero, e0, List.append_nil, List.nil_append, List.cons_append]
theorem j_5 {m : evM} (hk : kd < 14) (hc : 12 ≤ kd) (E : evL) (hE : fE E) : evX 76 524 ([(0, .ref (evO9 + 2)), (1, .ref 0), (2, .ref 375), (3, .ref 376), (4, .ref 377), (5, .ref 378), (6, .ref 379), (7, .ref 380), (8, .ref 381), (9, .ref 382), (10, .ref 383), (11, .ref 384), (12, .int tn), (13, .int x), (14, .int y), (15, .int (nI kd)), (16, .int (nI bb))] ++ E) [] h m = evX 76 624 ([(0, .ref (evO9 + 2)), (1, .ref 0), (2, .ref 375), (3, .ref 376), (4, .ref 377), (5, .ref 378), (6, .ref 379), (7, .ref 380), (8, .ref 381), (9, .ref 382), (10, .ref 383), (11, .ref 384), (12, .int tn), (13, .int x), (14, .int y), (15, .int (nI kd)), (16, .int (nI bb))] ++ E) [] h m := by
  have e0 : (12 : Int32) ≤ nI kd := nI_le (a := 12) hc (by omega)
  rcases hE with rfl | ⟨a, rfl⟩ | ⟨a, b, rfl⟩ | ⟨a, b, c, rfl⟩ <;>
    simp only [x76_524, x76_526, x76_528, evI_i, evJl_i, evJf_i, evJd_i, evA_r, evA_n, evA_q, evLk_c, evS1_d, evS2_d, evFl_n, evFl_c, evGl_n, evGl_c, evIn_n, evIn_c, evCat_i, evCat_l, evCat_f, evCat_d, evCat_r, evCat_z, evCat_q, evBd_some, evTl_s, evTl_n, va_rf_s, va_rf_n, and_true, true_and, and_false, false_and, if_true, if_false, not_true_eq_false, not_false_eq_true, reduceCtorEq, ↓reduceIte, Nat.reduceAdd, Nat.reduceEqDiff, Nat.reduceLT, Nat.reduceLeDiff, Nat.reduceSub, Nat.zero_ne_one, Nat.one_ne_zero, e0, List.append_nil, List.nil_append, List.cons_append]
theorem hd_v (H : lHd h u p a V n q T lag g tot L xs) : n ≤ 6 ∧ V 0 1 0 0 = nI n ∧ q ≤ 8 ∧ V 0 1 1 0 = nI q ∧ a 0 5 = nI n ∧ a 0 6 = nI q ∧ n ≤ 3 := by
  obtain ⟨hx, hsp, hL, P, I, -⟩ := H
  have HN := P.1.1.1.1
  exact ⟨HN.1, HN.2.2.2.2.1.1, HN.2.1, HN.2.2.2.2.2.1.1, I.2.2.1, I.2.2.2.1, I.1⟩
set_option maxHeartbeats 1000000 in
theorem ac_bidder (H : lHd h u p a V n q T lag g tot L xs) (hn3 : n < 3) (E : evL) (hE : fE E) : ∃ (p' a' u' : Nat → Nat → Int32) (V' : Nat → evVt) (E' : evL), evX 76 167 ([(0, .ref (evO9 + 2)), (1, .ref 0), (2, .ref 375), (3, .ref 376), (4, .ref 377), (5, .ref 378), (6, .ref 379), (7, .ref 380), (8, .ref 381), (9, .ref 382), (10, .ref 383), (11, .ref 384), (12, .int tn), (13, .int x), (14, .int y), (15, .int (nI 0)), (16, .int (nI bb))] ++ E) [] h (memW (two a b) p V 0) = evX 76 722 ([(0, .ref (evO9 + 2)), (1, .ref 0), (2, .ref 375), (3, .ref 376), (4, .ref 377), (5, .ref 378), (6, .ref 379), (7, .ref 380), (8, .ref 381), (9, .ref 382), (10, .ref 383), (11, .ref 384), (12, .int tn), (13, .int x), (14, .int y), (15, .int (nI 0)), (16, .int (nI bb))] ++ E') [] h (memW (two a' b) p' V' 0) ∧ fE E' ∧ lHd h u' p' a' V' (n + 1) q T lag g tot L xs := by
  obtain ⟨hn6, hv, hq8, hv1, h5, h6, -⟩ := hd_v H
  obtain ⟨hx, hsp, hL, P, I, hi, hk, hi7, hk6, p1, p2⟩ := H
  obtain ⟨k0, hk0, Lw0⟩ := lw_n (x >>> (6 &&& 31)) (N := 4) (n := 4) rfl (by omega) (by omega)
  obtain ⟨pu, hpu, e1⟩ : ∃ pu, pu < 900 ∧ ((k0 = 0 ∧ ∀ (h : evH) (m : evM), evX 65 0 [(0, .int y), (1, .int 100)] [] h m = some (some (.int (nI pu)), h, m)) ∨ (¬ k0 = 0 ∧ ∀ (h : evH) (m : evM), evX 65 0 [(0, .int y), (1, .int 900)] [] h m = some (some (.int (nI pu)), h, m))) := by
    by_cases h0 : k0 = 0
    · obtain ⟨k, hk, e⟩ := lw_n y (N := 100) (n := 100) rfl (by omega) (by omega)
      exact ⟨k, by omega, Or.inl ⟨h0, e⟩⟩
    · obtain ⟨k, hk, e⟩ := lw_n y (N := 900) (n := 900) rfl (by omega) (by omega)
      exact ⟨k, hk, Or.inr ⟨h0, e⟩⟩
  obtain ⟨t, ht, Lw2⟩ := lw_n (y >>> (5 &&& 31)) (N := 21) (n := 21) rfl (by omega) (by omega)
  have m10 : (10 : Int32) * nI t = nI (10 * t) := pk_mul 10 t
  have z00 : nI 0 = 0 := rfl
  have g3 : ¬ (3 : Int32) ≤ nI n := nI_ge (b := 3) hn3 (by omega)
  obtain ⟨i0_p, i0_c, i0_l⟩ := rdx (k := 8 * n) (n := 24) (by omega) (by decide)
  obtain ⟨i1_p, i1_c, i1_l⟩ := rdx (k := 8 * n + 1) (n := 24) (by omega) (by decide)
  have W := W_bidder (u := two (ms (ms a 1 (8 * n) (nI pu)) 1 (8 * n + 1) (nI (10 * t))) b) (p := p) (V := V) hx.1 hn6 hv hi7 hk6 p1 p2 (nI pu) (nI (10 * t))
  have hu5 := P.1.1.1.1.2.2.2.2.1.2
  rcases bidder_fu P.1 (nI pu) (nI (10 * t)) with ⟨-, r1, r2⟩ | ⟨r0, -⟩
  · rw [r1] at W
    have hcl : (clBidder n (V 0) (nI pu) (nI (10 * t))).2 = (clBidder n (V 0) (nI pu) (nI (10 * t))).2 := rfl
    have hP' := comes_p (w := a) (v' := (clBidder n (V 0) (nI pu) (nI (10 * t))).2) P hn3 (fun a' i' j' h1 h2 => by
      unfold clBidder
      split
      · rfl
      · split
        · rfl
        · show vs (vs (vs (V 0) 1 0 0 _) 2 n 0 _) 2 n 1 _ a' i' j' = _
          rw [vs_at, if_neg (fun z => h1 z.1), vs_at, if_neg (fun z => h1 z.1), vs_at, if_neg (fun z => h2 ⟨z.1, z.2.1⟩)]) r2
    refine ⟨stP p hi hk (nI n), nbW a n (nI pu) (nI (10 * t)), cmU u n (nI pu) (nI (10 * t)), chW V hi (clBidder n (V 0) (nI pu) (nI (10 * t))).2, e78 E (nI pu) (nI (10 * t)), ?_, fE_78 hE _ _, hx, hsp, hL, by rw [chW_0]; exact hP', lI0_nb I hn3, st_p hi7 hk6 p1 p2 _⟩
    · have a0 := hx.1.2.2.1
      have h5' : ms (ms a 1 (8 * n) (nI pu)) 1 (8 * n + 1) (nI (10 * t)) 0 5 = nI n := by rw [ms_at, if_neg (by omega), ms_at, if_neg (by omega)]; exact h5
      have h5'' : ms a 1 (8 * n) (nI pu) 0 5 = nI n := by rw [ms_at, if_neg (by omega)]; exact h5
      have eW : ms (ms (ms a 1 (8 * n) (nI pu)) 1 (8 * n + 1) (nI (10 * t))) 0 5 (nI (n + 1)) = nbW a n (nI pu) (nI (10 * t)) := rfl
      obtain ⟨sa0, sn0, sa1, sn1, sa2, sn2, sa3, sn3, sa4, sn4, sa5, sn5, sa6, sn6, sa7, sn7, sa8, sn8, sa9, sn9⟩ := xP_a hx
      rcases e1 with ⟨k00, e1⟩ | ⟨k00, e1⟩
      · subst k00
        rcases hE with rfl | ⟨c, rfl⟩ | ⟨c, d, rfl⟩ | ⟨c, d, e, rfl⟩ <;>
          (simp only [x76_167, x76_169, x76_172, x76_173, x76_174, x76_174s, x76_175, x76_176, x76_179, x76_181, x76_183, x76_185, x76_186, x76_187, x76_190, x76_193, x76_195, x76_198, x76_201, x76_204, x76_206, x76_208, x76_210, x76_211, x76_212, x76_214, x76_217, x76_218, x76_220, x76_221, x76_223, x76_224, x76_225, x76_225s, x76_226, x76_227, x76_229, x76_230, x76_231, x76_233, x76_234, x76_235, x76_235s, x76_236, x76_237, x76_238, x76_239, x76_241, x76_242, x76_243, x76_245, x76_247, x76_250, x76_251, x76_252, x76_253, x76_253s, x76_254, x76_255, x76_256, x76_257, x76_258, x76_261, x76_262_0, x76_262_1, x76_262b, x76_263, evI_i, evJl_i, evJf_i, evJd_i, evA_r, evA_n, evA_q, evLk_c, evS1_d, evS2_d, evFl_n, evFl_c, evGl_n, evGl_c, evIn_n, evIn_c, evCat_i, evCat_l, evCat_f, evCat_d, evCat_r, evCat_z, evCat_q, evBd_some, evTl_s, evTl_n, va_rf_s, va_rf_n, and_true, true_and, and_false, false_and, if_true, if_false, not_true_eq_false, not_false_eq_true, reduceCtorEq, ↓reduceIte, Nat.reduceAdd, Nat.reduceEqDiff, Nat.reduceLT, Nat.reduceLeDiff, Nat.reduceSub, Nat.zero_ne_one, Nat.one_ne_zero, sa0, sn0, sa1, sn1, sa2, sn2, sa3, sn3, sa4, sn4, sa5, sn5, sa6, sn6, sa7, sn7, sa8, sn8, sa9, sn9, mG0, mS0, mG1, mS1, mG2, mS2, mG3, mS3, mG4, mS4, mG5, mS5, mG6, mS6, mG7, mS7, mG8, mS8, mG9, mS9, lt0, lt1, lt2, lt3, lt4, lt5, lt6, lt7, lt8, lt9, lt10, lc0, lc1, lc2, lc3, lc4, lc5, lc6, lc7, lc8, lc9, lc10, tw0, tw1, tw2, tw3, tw4, tw5, tw6, tw7, tw8, tw9, tm0, tm1, tm2, tm5, tm6, z00, h5, h5', h5'', g3, Lw0, e1, Lw2, m10, mul8, nA1, W, a0, eW, e78_0, e78_1, e78_2, e78_3, i0_p, i0_c, i0_l, i1_p, i1_c, i1_l, Option.toList, List.append_nil, List.nil_append, List.cons_append])
      · have kn0 : ¬ nI k0 = 0 := nI_ne0 (by omega) (by omega)
        rcases hE with rfl | ⟨c, rfl⟩ | ⟨c, d, rfl⟩ | ⟨c, d, e, rfl⟩ <;>
          (simp only [x76_167, x76_169, x76_172, x76_173, x76_174, x76_174s, x76_175, x76_176, x76_179, x76_181, x76_183, x76_185, x76_186, x76_187, x76_190, x76_193, x76_195, x76_198, x76_201, x76_204, x76_206, x76_208, x76_210, x76_211, x76_212, x76_214, x76_217, x76_218, x76_220, x76_221, x76_223, x76_224, x76_225, x76_225s, x76_226, x76_227, x76_229, x76_230, x76_231, x76_233, x76_234, x76_235, x76_235s, x76_236, x76_237, x76_238, x76_239, x76_241, x76_242, x76_243, x76_245, x76_247, x76_250, x76_251, x76_252, x76_253, x76_253s, x76_254, x76_255, x76_256, x76_257, x76_258, x76_261, x76_262_0, x76_262_1, x76_262b, x76_263, evI_i, evJl_i, evJf_i, evJd_i, evA_r, evA_n, evA_q, evLk_c, evS1_d, evS2_d, evFl_n, evFl_c, evGl_n, evGl_c, evIn_n, evIn_c, evCat_i, evCat_l, evCat_f, evCat_d, evCat_r, evCat_z, evCat_q, evBd_some, evTl_s, evTl_n, va_rf_s, va_rf_n, and_true, true_and, and_false, false_and, if_true, if_false, not_true_eq_false, not_false_eq_true, reduceCtorEq, ↓reduceIte, Nat.reduceAdd, Nat.reduceEqDiff, Nat.reduceLT, Nat.reduceLeDiff, Nat.reduceSub, Nat.zero_ne_one, Nat.one_ne_zero, sa0, sn0, sa1, sn1, sa2, sn2, sa3, sn3, sa4, sn4, sa5, sn5, sa6, sn6, sa7, sn7, sa8, sn8, sa9, sn9, mG0, mS0, mG1, mS1, mG2, mS2, mG3, mS3, mG4, mS4, mG5, mS5, mG6, mS6, mG7, mS7, mG8, mS8, mG9, mS9, lt0, lt1, lt2, lt3, lt4, lt5, lt6, lt7, lt8, lt9, lt10, lc0, lc1, lc2, lc3, lc4, lc5, lc6, lc7, lc8, lc9, lc10, tw0, tw1, tw2, tw3, tw4, tw5, tw6, tw7, tw8, tw9, tm0, tm1, tm2, tm5, tm6, z00, h5, h5', h5'', g3, Lw0, e1, Lw2, kn0, m10, mul8, nA1, W, a0, eW, e78_0, e78_1, e78_2, e78_3, i0_p, i0_c, i0_l, i1_p, i1_c, i1_l, Option.toList, List.append_nil, List.nil_append, List.cons_append])
  · exfalso
    apply r0
    have w1 : wiB (nI pu) 0 9999 = true := by
      rw [wiB_t]
      rintro (w | w)
      · exact nI_pos (by omega) w
      · exact nI_nlt (a := 9999) (by omega) (by omega) w
    have w2 : wiB (nI (10 * t)) 0 200 = true := by
      rw [wiB_t]
      rintro (w | w)
      · exact nI_pos (by omega) w
      · exact nI_nlt (a := 200) (by omega) (by omega) w
    have n6 : ¬ nI n = 6 := fun z => by
      have := (nI_eq (b := 6) (by omega) (by omega)).mp z
      omega
    unfold whyB
    rw [if_pos ⟨w1, w2⟩, hu5, if_neg n6]
end AC
