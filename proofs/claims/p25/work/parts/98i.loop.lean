/-! the law's loop -/
section LO
variable {h h' : evH} {p p' a b u : Nat → Nat → Int32} {V : Nat → evVt} {v : evVt} {n q T lag g tot L kd bb tn : Nat} {xs : Nat → Int32} {x y : Int32}
def fH (E : evL) : Prop := E = [] ∨ ∃ x y k b E17, E = [(13, .int x), (14, .int y), (15, .int k), (16, .int b)] ++ E17 ∧ fE E17
theorem mul2 (k : Nat) : (2 : Int32) * nI k = nI (2 * k) := pk_mul 2 k
theorem hd_w (P : pRel v u a n q T lag g tot) : a 0 10 = 0 := by
  obtain ⟨L, len, ⟨-, -, w10⟩, -⟩ := P.2.2.2.2
  exact w10
def cellI (L : Nat) (xs : Nat → Int32) (k : Nat) : Int32 := if k < L then xs k else 1033861971 * (nI k + 1) + 650699937
theorem c_cell2 (hsp : evSp h = evSp0 L xs) (hL : L ≤ 260) {k : Nat} (hk : k < 1000) (m : evM) : evX 64 0 [(0, .ref (evO9 + 2)), (1, .int (nI k))] [] h m = some (some (.int (cellI L xs k)), h, m) := by
  have e2 : evSp h 2 = (L, xs) := by rw [hsp]; rfl
  have e21 : (evSp h 2).1 = L := by rw [e2]
  have e22 : (evSp h 2).2 = xs := by rw [e2]
  have h2 : 2 < 3 := by omega
  have hr : Int32.ofNat L = nI L := rfl
  unfold cellI
  by_cases hc : k < L
  · have h1 : ¬ nI L ≤ nI k := nI_ge hc (by omega)
    have hp : ¬ nI k < 0 := nI_pos (by omega)
    have hcl : (nI k).toNatClampNeg = k := nI_cl _ (by omega)
    simp only [x64_0, x64_1, x64_2s, x64_3, x64_6, x64_7, x64_8, x64_8s, x64_9, x64_12, x64_14, x64_15, x64_16, x64_17, x64_18, x64_20, x64_21, x64_2i, x64_2b, x64_2d, x64_2h, x64_2l, evI_i, evJl_i, evJf_i, evJd_i, evA_r, evA_n, evA_q, evLk_c, evS1_d, evS2_d, evFl_n, evFl_c, evGl_n, evGl_c, evIn_n, evIn_c, evCat_i, evCat_l, evCat_f, evCat_d, evCat_r, evCat_z, evCat_q, evBd_some, evTl_s, evTl_n, va_rf_s, va_rf_n, and_true, true_and, and_false, false_and, if_true, if_false, not_true_eq_false, not_false_eq_true, reduceCtorEq, ↓reduceIte, Nat.reduceAdd, Nat.reduceEqDiff, Nat.reduceLT, Nat.reduceLeDiff, Nat.reduceSub, Nat.zero_ne_one, Nat.one_ne_zero, e21, e22, h2, hr, h1, hp, hcl, hc]
  · have h1 : nI L ≤ nI k := nI_le (by omega) (by omega)
    simp only [x64_0, x64_1, x64_2s, x64_3, x64_6, x64_7, x64_8, x64_8s, x64_9, x64_12, x64_14, x64_15, x64_16, x64_17, x64_18, x64_20, x64_21, x64_2i, x64_2b, x64_2d, x64_2h, x64_2l, evI_i, evJl_i, evJf_i, evJd_i, evA_r, evA_n, evA_q, evLk_c, evS1_d, evS2_d, evFl_n, evFl_c, evGl_n, evGl_c, evIn_n, evIn_c, evCat_i, evCat_l, evCat_f, evCat_d, evCat_r, evCat_z, evCat_q, evBd_some, evTl_s, evTl_n, va_rf_s, va_rf_n, and_true, true_and, and_false, false_and, if_true, if_false, not_true_eq_false, not_false_eq_true, reduceCtorEq, ↓reduceIte, Nat.reduceAdd, Nat.reduceEqDiff, Nat.reduceLT, Nat.reduceLeDiff, Nat.reduceSub, Nat.zero_ne_one, Nat.one_ne_zero, e21, h2, hr, h1, hc]
set_option maxHeartbeats 2000000 in
theorem lo_head (H : lHd h u p a V n q T lag g tot L xs) (htn : tn < 28) (h0 : 1 ≤ n ∨ tn = 0) (E : evL) (hE : fH E) : ∃ (x y : Int32) (kd bb : Nat) (E17 : evL), evX 76 87 ([(0, .ref (evO9 + 2)), (1, .ref 0), (2, .ref 375), (3, .ref 376), (4, .ref 377), (5, .ref 378), (6, .ref 379), (7, .ref 380), (8, .ref 381), (9, .ref 382), (10, .ref 383), (11, .ref 384), (12, .int (nI tn))] ++ E) [] h (memW (two a b) p V 0) = evX 76 167 ([(0, .ref (evO9 + 2)), (1, .ref 0), (2, .ref 375), (3, .ref 376), (4, .ref 377), (5, .ref 378), (6, .ref 379), (7, .ref 380), (8, .ref 381), (9, .ref 382), (10, .ref 383), (11, .ref 384), (12, .int (nI tn)), (13, .int x), (14, .int y), (15, .int (nI kd)), (16, .int (nI bb))] ++ E17) [] h (memW (two a b) p V 0) ∧ fE E17 ∧ kd < 14 ∧ (tn = 0 → kd = 0) ∧ (1 ≤ n → bb < n) := by
  obtain ⟨hn6, hv, hq8, hv1, h5, h6, hn3⟩ := hd_v H
  obtain ⟨hx, hsp, hL, P, I, -⟩ := H
  have w10 := hd_w P
  have g28 : ¬ (28 : Int32) ≤ nI tn := nI_ge (b := 28) htn (by omega)
  have C0 := c_cell2 (h := h) hsp hL (show 2 * tn < 1000 by omega)
  have C1 := c_cell2 (h := h) hsp hL (show 2 * tn + 1 < 1000 by omega)
  generalize cellI L xs (2 * tn) = x at C0
  generalize cellI L xs (2 * tn + 1) = y at C1
  -- what kind of act
  have K : ∃ kd, kd < 14 ∧ (tn = 0 → kd = 0) ∧ ((tn < 4 ∧ kd = tn % 2) ∨ (4 ≤ tn ∧ ∀ (h : evH) (m : evM), evX 65 0 [(0, .int x), (1, .int 14)] [] h m = some (some (.int (nI kd)), h, m))) := by
    by_cases h4 : tn < 4
    · exact ⟨tn % 2, by omega, fun z => by rw [z], Or.inl ⟨h4, rfl⟩⟩
    · obtain ⟨k, hk, e⟩ := lw_n x (N := 14) (n := 14) rfl (by omega) (by omega)
      exact ⟨k, hk, fun z => by omega, Or.inr ⟨by omega, e⟩⟩
  have B : ∃ bb, (1 ≤ n → bb < n) ∧ ((n = 0 ∧ bb = 0) ∨ (1 ≤ n ∧ ∀ (h : evH) (m : evM), evX 65 0 [(0, .int (x >>> (4 &&& 31))), (1, .int (nI n))] [] h m = some (some (.int (nI bb)), h, m))) := by
    by_cases hn0 : n = 0
    · exact ⟨0, fun z => by omega, Or.inl ⟨hn0, rfl⟩⟩
    · obtain ⟨k, hk, e⟩ := lw_n (x >>> (4 &&& 31)) (N := nI n) (n := n) rfl (by omega) (by omega)
      exact ⟨k, fun _ => hk, Or.inr ⟨by omega, e⟩⟩
  obtain ⟨kd, hk14, hk0, hK⟩ := K
  obtain ⟨bb, hbn, hB⟩ := B
  have n20 : ¬ (2 : Int32) = 0 := by decide
  have rm : nI tn - nI tn / 2 * 2 = nI (tn % 2) := pk_rem (d := 2) (by omega) (by omega) (by omega)
  -- from 145 on
  have t2 : ∀ E17 : evL, fE E17 → evX 76 145 ([(0, .ref (evO9 + 2)), (1, .ref 0), (2, .ref 375), (3, .ref 376), (4, .ref 377), (5, .ref 378), (6, .ref 379), (7, .ref 380), (8, .ref 381), (9, .ref 382), (10, .ref 383), (11, .ref 384), (12, .int (nI tn)), (13, .int x), (14, .int y), (15, .int (nI kd))] ++ E17) [] h (memW (two a b) p V 0) = evX 76 167 ([(0, .ref (evO9 + 2)), (1, .ref 0), (2, .ref 375), (3, .ref 376), (4, .ref 377), (5, .ref 378), (6, .ref 379), (7, .ref 380), (8, .ref 381), (9, .ref 382), (10, .ref 383), (11, .ref 384), (12, .int (nI tn)), (13, .int x), (14, .int y), (15, .int (nI kd)), (16, .int (nI bb))] ++ E17) [] h (memW (two a b) p V 0) ∧ ∀ z, evX 76 145 ([(0, .ref (evO9 + 2)), (1, .ref 0), (2, .ref 375), (3, .ref 376), (4, .ref 377), (5, .ref 378), (6, .ref 379), (7, .ref 380), (8, .ref 381), (9, .ref 382), (10, .ref 383), (11, .ref 384), (12, .int (nI tn)), (13, .int x), (14, .int y), (15, .int (nI kd)), (16, .int z)] ++ E17) [] h (memW (two a b) p V 0) = evX 76 167 ([(0, .ref (evO9 + 2)), (1, .ref 0), (2, .ref 375), (3, .ref 376), (4, .ref 377), (5, .ref 378), (6, .ref 379), (7, .ref 380), (8, .ref 381), (9, .ref 382), (10, .ref 383), (11, .ref 384), (12, .int (nI tn)), (13, .int x), (14, .int y), (15, .int (nI kd)), (16, .int (nI bb))] ++ E17) [] h (memW (two a b) p V 0) := by
    intro E17 hE17
    obtain ⟨sa0, sn0, sa1, sn1, sa2, sn2, sa3, sn3, sa4, sn4, sa5, sn5, sa6, sn6, sa7, sn7, sa8, sn8, sa9, sn9⟩ := xP_a hx
    rcases hB with ⟨hn0, hb0⟩ | ⟨hn1, Lb⟩
    · have z0 : nI n = 0 := by rw [hn0]; rfl
      have zb : nI bb = 0 := by rw [hb0]; rfl
      refine ⟨?_, fun z => ?_⟩ <;>
        (rcases hE17 with rfl | ⟨c, rfl⟩ | ⟨c, d, rfl⟩ | ⟨c, d, e, rfl⟩ <;>
          simp only [x76_145, x76_146, x76_147, x76_147s, x76_148, x76_151, x76_152, x76_155, x76_157, x76_158, x76_159, x76_160, x76_161, x76_161s, x76_162, x76_165, evI_i, evJl_i, evJf_i, evJd_i, evA_r, evA_n, evA_q, evLk_c, evS1_d, evS2_d, evFl_n, evFl_c, evGl_n, evGl_c, evIn_n, evIn_c, evCat_i, evCat_l, evCat_f, evCat_d, evCat_r, evCat_z, evCat_q, evBd_some, evTl_s, evTl_n, va_rf_s, va_rf_n, and_true, true_and, and_false, false_and, if_true, if_false, not_true_eq_false, not_false_eq_true, reduceCtorEq, ↓reduceIte, Nat.reduceAdd, Nat.reduceEqDiff, Nat.reduceLT, Nat.reduceLeDiff, Nat.reduceSub, Nat.zero_ne_one, Nat.one_ne_zero, sa0, sn0, sa1, sn1, sa2, sn2, sa3, sn3, sa4, sn4, sa5, sn5, sa6, sn6, sa7, sn7, sa8, sn8, sa9, sn9, mG0, mS0, mG1, mS1, mG2, mS2, mG3, mS3, mG4, mS4, mG5, mS5, mG6, mS6, mG7, mS7, mG8, mS8, mG9, mS9, lt0, lt1, lt2, lt3, lt4, lt5, lt6, lt7, lt8, lt9, lt10, lc0, lc1, lc2, lc3, lc4, lc5, lc6, lc7, lc8, lc9, lc10, tw0, tw1, tw2, tw3, tw4, tw5, tw6, tw7, tw8, tw9, tm0, tm1, tm2, tm5, tm6, h5, z0, zb, List.append_nil, List.nil_append, List.cons_append])
    · have z0 : ¬ nI n = 0 := nI_ne0 (by omega) (by omega)
      refine ⟨?_, fun z => ?_⟩ <;>
        (rcases hE17 with rfl | ⟨c, rfl⟩ | ⟨c, d, rfl⟩ | ⟨c, d, e, rfl⟩ <;>
          simp only [x76_145, x76_146, x76_147, x76_147s, x76_148, x76_151, x76_152, x76_155, x76_157, x76_158, x76_159, x76_160, x76_161, x76_161s, x76_162, x76_165, evI_i, evJl_i, evJf_i, evJd_i, evA_r, evA_n, evA_q, evLk_c, evS1_d, evS2_d, evFl_n, evFl_c, evGl_n, evGl_c, evIn_n, evIn_c, evCat_i, evCat_l, evCat_f, evCat_d, evCat_r, evCat_z, evCat_q, evBd_some, evTl_s, evTl_n, va_rf_s, va_rf_n, and_true, true_and, and_false, false_and, if_true, if_false, not_true_eq_false, not_false_eq_true, reduceCtorEq, ↓reduceIte, Nat.reduceAdd, Nat.reduceEqDiff, Nat.reduceLT, Nat.reduceLeDiff, Nat.reduceSub, Nat.zero_ne_one, Nat.one_ne_zero, sa0, sn0, sa1, sn1, sa2, sn2, sa3, sn3, sa4, sn4, sa5, sn5, sa6, sn6, sa7, sn7, sa8, sn8, sa9, sn9, mG0, mS0, mG1, mS1, mG2, mS2, mG3, mS3, mG4, mS4, mG5, mS5, mG6, mS6, mG7, mS7, mG8, mS8, mG9, mS9, lt0, lt1, lt2, lt3, lt4, lt5, lt6, lt7, lt8, lt9, lt10, lc0, lc1, lc2, lc3, lc4, lc5, lc6, lc7, lc8, lc9, lc10, tw0, tw1, tw2, tw3, tw4, tw5, tw6, tw7, tw8, tw9, tm0, tm1, tm2, tm5, tm6, h5, z0, Lb, Option.toList, List.append_nil, List.nil_append, List.cons_append])
  rcases hE with rfl | ⟨x0, y0, k0, b0, E17, rfl, hE17⟩
  · refine ⟨x, y, kd, bb, [], Eq.trans ?_ (t2 [] (Or.inl rfl)).1, Or.inl rfl, hk14, hk0, hbn⟩
    obtain ⟨sa0, sn0, sa1, sn1, sa2, sn2, sa3, sn3, sa4, sn4, sa5, sn5, sa6, sn6, sa7, sn7, sa8, sn8, sa9, sn9⟩ := xP_a hx
    rcases hK with ⟨h4, hkd⟩ | ⟨h4, Lk⟩
    · have g4 : ¬ (4 : Int32) ≤ nI tn := nI_ge (b := 4) h4 (by omega)
      rw [List.append_nil, List.append_nil, hkd]
      conv => lhs; rw [x76_87]
      simp only [x76_89, x76_91, x76_94, x76_95, x76_97, x76_97s, x76_98, x76_101, x76_102, x76_103, x76_105, x76_106, x76_109, x76_111, x76_112, x76_113, x76_115, x76_116, x76_117, x76_118, x76_121, x76_123, x76_125, x76_126, x76_129, x76_131, x76_132, x76_133, x76_136, x76_138, x76_140, x76_143, evI_i, evJl_i, evJf_i, evJd_i, evA_r, evA_n, evA_q, evLk_c, evS1_d, evS2_d, evFl_n, evFl_c, evGl_n, evGl_c, evIn_n, evIn_c, evCat_i, evCat_l, evCat_f, evCat_d, evCat_r, evCat_z, evCat_q, evBd_some, evTl_s, evTl_n, va_rf_s, va_rf_n, and_true, true_and, and_false, false_and, if_true, if_false, not_true_eq_false, not_false_eq_true, reduceCtorEq, ↓reduceIte, Nat.reduceAdd, Nat.reduceEqDiff, Nat.reduceLT, Nat.reduceLeDiff, Nat.reduceSub, Nat.zero_ne_one, Nat.one_ne_zero, sa0, sn0, sa1, sn1, sa2, sn2, sa3, sn3, sa4, sn4, sa5, sn5, sa6, sn6, sa7, sn7, sa8, sn8, sa9, sn9, mG0, mS0, mG1, mS1, mG2, mS2, mG3, mS3, mG4, mS4, mG5, mS5, mG6, mS6, mG7, mS7, mG8, mS8, mG9, mS9, lt0, lt1, lt2, lt3, lt4, lt5, lt6, lt7, lt8, lt9, lt10, lc0, lc1, lc2, lc3, lc4, lc5, lc6, lc7, lc8, lc9, lc10, tw0, tw1, tw2, tw3, tw4, tw5, tw6, tw7, tw8, tw9, tm0, tm1, tm2, tm5, tm6, g28, w10, mul2, nA1, C0, C1, g4, n20, rm, Option.toList, List.nil_append, List.cons_append]
    · have g4 : (4 : Int32) ≤ nI tn := nI_le (a := 4) h4 (by omega)
      rw [List.append_nil, List.append_nil]
      conv => lhs; rw [x76_87]
      simp only [x76_89, x76_91, x76_94, x76_95, x76_97, x76_97s, x76_98, x76_101, x76_102, x76_103, x76_105, x76_106, x76_109, x76_111, x76_112, x76_113, x76_115, x76_116, x76_117, x76_118, x76_121, x76_123, x76_125, x76_126, x76_129, x76_131, x76_132, x76_133, x76_136, x76_138, x76_140, x76_143, evI_i, evJl_i, evJf_i, evJd_i, evA_r, evA_n, evA_q, evLk_c, evS1_d, evS2_d, evFl_n, evFl_c, evGl_n, evGl_c, evIn_n, evIn_c, evCat_i, evCat_l, evCat_f, evCat_d, evCat_r, evCat_z, evCat_q, evBd_some, evTl_s, evTl_n, va_rf_s, va_rf_n, and_true, true_and, and_false, false_and, if_true, if_false, not_true_eq_false, not_false_eq_true, reduceCtorEq, ↓reduceIte, Nat.reduceAdd, Nat.reduceEqDiff, Nat.reduceLT, Nat.reduceLeDiff, Nat.reduceSub, Nat.zero_ne_one, Nat.one_ne_zero, sa0, sn0, sa1, sn1, sa2, sn2, sa3, sn3, sa4, sn4, sa5, sn5, sa6, sn6, sa7, sn7, sa8, sn8, sa9, sn9, mG0, mS0, mG1, mS1, mG2, mS2, mG3, mS3, mG4, mS4, mG5, mS5, mG6, mS6, mG7, mS7, mG8, mS8, mG9, mS9, lt0, lt1, lt2, lt3, lt4, lt5, lt6, lt7, lt8, lt9, lt10, lc0, lc1, lc2, lc3, lc4, lc5, lc6, lc7, lc8, lc9, lc10, tw0, tw1, tw2, tw3, tw4, tw5, tw6, tw7, tw8, tw9, tm0, tm1, tm2, tm5, tm6, g28, w10, mul2, nA1, C0, C1, g4, Lk, Option.toList, List.nil_append, List.cons_append]
  · refine ⟨x, y, kd, bb, E17, Eq.trans ?_ ((t2 E17 hE17).2 b0), hE17, hk14, hk0, hbn⟩
    obtain ⟨sa0, sn0, sa1, sn1, sa2, sn2, sa3, sn3, sa4, sn4, sa5, sn5, sa6, sn6, sa7, sn7, sa8, sn8, sa9, sn9⟩ := xP_a hx
    rcases hK with ⟨h4, hkd⟩ | ⟨h4, Lk⟩
    · have g4 : ¬ (4 : Int32) ≤ nI tn := nI_ge (b := 4) h4 (by omega)
      rw [hkd]
      rcases hE17 with rfl | ⟨c, rfl⟩ | ⟨c, d, rfl⟩ | ⟨c, d, e, rfl⟩ <;>
        (simp only [List.append_nil, List.nil_append, List.cons_append]
         conv => lhs; rw [x76_87]
         simp only [x76_89, x76_91, x76_94, x76_95, x76_97, x76_97s, x76_98, x76_101, x76_102, x76_103, x76_105, x76_106, x76_109, x76_111, x76_112, x76_113, x76_115, x76_116, x76_117, x76_118, x76_121, x76_123, x76_125, x76_126, x76_129, x76_131, x76_132, x76_133, x76_136, x76_138, x76_140, x76_143, evI_i, evJl_i, evJf_i, evJd_i, evA_r, evA_n, evA_q, evLk_c, evS1_d, evS2_d, evFl_n, evFl_c, evGl_n, evGl_c, evIn_n, evIn_c, evCat_i, evCat_l, evCat_f, evCat_d, evCat_r, evCat_z, evCat_q, evBd_some, evTl_s, evTl_n, va_rf_s, va_rf_n, and_true, true_and, and_false, false_and, if_true, if_false, not_true_eq_false, not_false_eq_true, reduceCtorEq, ↓reduceIte, Nat.reduceAdd, Nat.reduceEqDiff, Nat.reduceLT, Nat.reduceLeDiff, Nat.reduceSub, Nat.zero_ne_one, Nat.one_ne_zero, sa0, sn0, sa1, sn1, sa2, sn2, sa3, sn3, sa4, sn4, sa5, sn5, sa6, sn6, sa7, sn7, sa8, sn8, sa9, sn9, mG0, mS0, mG1, mS1, mG2, mS2, mG3, mS3, mG4, mS4, mG5, mS5, mG6, mS6, mG7, mS7, mG8, mS8, mG9, mS9, lt0, lt1, lt2, lt3, lt4, lt5, lt6, lt7, lt8, lt9, lt10, lc0, lc1, lc2, lc3, lc4, lc5, lc6, lc7, lc8, lc9, lc10, tw0, tw1, tw2, tw3, tw4, tw5, tw6, tw7, tw8, tw9, tm0, tm1, tm2, tm5, tm6, g28, w10, mul2, nA1, C0, C1, g4, n20, rm, Option.toList, List.nil_append, List.cons_append])
    · have g4 : (4 : Int32) ≤ nI tn := nI_le (a := 4) h4 (by omega)
      rcases hE17 with rfl | ⟨c, rfl⟩ | ⟨c, d, rfl⟩ | ⟨c, d, e, rfl⟩ <;>
        (simp only [List.append_nil, List.nil_append, List.cons_append]
         conv => lhs; rw [x76_87]
         simp only [x76_89, x76_91, x76_94, x76_95, x76_97, x76_97s, x76_98, x76_101, x76_102, x76_103, x76_105, x76_106, x76_109, x76_111, x76_112, x76_113, x76_115, x76_116, x76_117, x76_118, x76_121, x76_123, x76_125, x76_126, x76_129, x76_131, x76_132, x76_133, x76_136, x76_138, x76_140, x76_143, evI_i, evJl_i, evJf_i, evJd_i, evA_r, evA_n, evA_q, evLk_c, evS1_d, evS2_d, evFl_n, evFl_c, evGl_n, evGl_c, evIn_n, evIn_c, evCat_i, evCat_l, evCat_f, evCat_d, evCat_r, evCat_z, evCat_q, evBd_some, evTl_s, evTl_n, va_rf_s, va_rf_n, and_true, true_and, and_false, false_and, if_true, if_false, not_true_eq_false, not_false_eq_true, reduceCtorEq, ↓reduceIte, Nat.reduceAdd, Nat.reduceEqDiff, Nat.reduceLT, Nat.reduceLeDiff, Nat.reduceSub, Nat.zero_ne_one, Nat.one_ne_zero, sa0, sn0, sa1, sn1, sa2, sn2, sa3, sn3, sa4, sn4, sa5, sn5, sa6, sn6, sa7, sn7, sa8, sn8, sa9, sn9, mG0, mS0, mG1, mS1, mG2, mS2, mG3, mS3, mG4, mS4, mG5, mS5, mG6, mS6, mG7, mS7, mG8, mS8, mG9, mS9, lt0, lt1, lt2, lt3, lt4, lt5, lt6, lt7, lt8, lt9, lt10, lc0, lc1, lc2, lc3, lc4, lc5, lc6, lc7, lc8, lc9, lc10, tw0, tw1, tw2, tw3, tw4, tw5, tw6, tw7, tw8, tw9, tm0, tm1, tm2, tm5, tm6, g28, w10, mul2, nA1, C0, C1, g4, Lk, Option.toList, List.nil_append, List.cons_append])
/-- one of the acts -/
theorem lo_act (H : lHd h u p a V n q T lag g tot L xs) (hk14 : kd < 14) (h0 : 1 ≤ n ∨ kd = 0) (hb : 1 ≤ n → bb < n) (hN2 : evN h + 30 < 900000000) (hT : T ≤ 9000) (E : evL) (hE : fE E) : ∃ (h' : evH) (p' a' : Nat → Nat → Int32) (V' : Nat → evVt), wGr 30 h h' ∧ (evX 76 167 ([(0, .ref (evO9 + 2)), (1, .ref 0), (2, .ref 375), (3, .ref 376), (4, .ref 377), (5, .ref 378), (6, .ref 379), (7, .ref 380), (8, .ref 381), (9, .ref 382), (10, .ref 383), (11, .ref 384), (12, .int (nI tn)), (13, .int x), (14, .int y), (15, .int (nI kd)), (16, .int (nI bb))] ++ E) [] h (memW (two a b) p V 0) = some (some (.int 1), h', memW (two a' b) p' V' 0) ∨ ∃ (u' : Nat → Nat → Int32) (E' : evL) (n' q' T' lag' g' tot' : Nat), evX 76 167 ([(0, .ref (evO9 + 2)), (1, .ref 0), (2, .ref 375), (3, .ref 376), (4, .ref 377), (5, .ref 378), (6, .ref 379), (7, .ref 380), (8, .ref 381), (9, .ref 382), (10, .ref 383), (11, .ref 384), (12, .int (nI tn)), (13, .int x), (14, .int y), (15, .int (nI kd)), (16, .int (nI bb))] ++ E) [] h (memW (two a b) p V 0) = evX 76 722 ([(0, .ref (evO9 + 2)), (1, .ref 0), (2, .ref 375), (3, .ref 376), (4, .ref 377), (5, .ref 378), (6, .ref 379), (7, .ref 380), (8, .ref 381), (9, .ref 382), (10, .ref 383), (11, .ref 384), (12, .int (nI tn)), (13, .int x), (14, .int y), (15, .int (nI kd)), (16, .int (nI bb))] ++ E') [] h' (memW (two a' b) p' V' 0) ∧ fE E' ∧ 1 ≤ n' ∧ T' ≤ T + 30 ∧ lHd h' u' p' a' V' n' q' T' lag' g' tot' L xs) := by
  obtain ⟨hn6, hv, hq8, hv1, h5, h6, hn3⟩ := hd_v H
  have hx := H.1
  have g0 : wGr 30 h h := wGr_le (wGr_refl h) (by omega)
  by_cases c1 : kd = 0 ∧ n < 3
  · obtain ⟨c0, cn⟩ := c1
    subst c0
    obtain ⟨p', a', u', V', E', e, f, H'⟩ := ac_bidder (x := x) (y := y) (tn := nI tn) (bb := bb) (b := b) H cn E hE
    exact ⟨h, p', a', V', g0, Or.inr ⟨u', E', n + 1, q, T, lag, g, tot, e, f, by omega, by omega, H'⟩⟩
  · have hn1 : 1 ≤ n := by
      rcases h0 with z | z
      · exact z
      · have : ¬ n < 3 := fun w => c1 ⟨z, w⟩
        omega
    have e1 := j_1 (x := x) (y := y) (tn := nI tn) (bb := bb) (b := b) (p := p) (V := V) hx hn3 h5 hk14 (by omega) E hE
    by_cases c2 : kd < 4 ∧ q < 8
    · obtain ⟨p', a', u', V', E', e, f, H'⟩ := ac_lot (x := x) (y := y) (tn := nI tn) (bb := bb) (b := b) H c2.2 c2.1 E hE
      exact ⟨h, p', a', V', g0, Or.inr ⟨u', E', n, q + 1, T, lag, g, tot, e1.trans e, f, hn1, by omega, H'⟩⟩
    · have e2 := j_2 (x := x) (y := y) (tn := nI tn) (bb := bb) (b := b) (p := p) (V := V) hx hq8 h6 hk14 (by omega) E hE
      by_cases c3 : kd = 4
      · subst c3
        obtain ⟨p', a', u', V', E', e, f, H'⟩ := ac_plan (x := x) (y := y) (tn := nI tn) (bb := bb) (b := b) H hn1 (hb hn1) E hE
        exact ⟨h, p', a', V', g0, Or.inr ⟨u', E', n, q, T, lag, g, tot, e1.trans (e2.trans e), f, hn1, by omega, H'⟩⟩
      · have e3 := j_3 (x := x) (y := y) (tn := nI tn) (bb := bb) (h := h) (m := memW (two a b) p V 0) hk14 c3 E hE
        by_cases c4 : kd < 7
        · obtain ⟨p', a', u', V', E', e, f, H'⟩ := ac_bid (x := x) (y := y) (tn := nI tn) (bb := bb) (b := b) H hn1 (hb hn1) c4 E hE
          exact ⟨h, p', a', V', g0, Or.inr ⟨u', E', n, q, T, lag, g, tot, e1.trans (e2.trans (e3.trans e)), f, hn1, by omega, H'⟩⟩
        · have e4 := j_4 (x := x) (y := y) (tn := nI tn) (bb := bb) (h := h) (m := memW (two a b) p V 0) hk14 (by omega) E hE
          by_cases c5 : kd < 12
          · obtain ⟨h', p', a', V', G, R⟩ := ac_pass (x := x) (y := y) (tn := nI tn) (bb := bb) (b := b) H hn1 c5 hN2 hT E hE
            rcases R with R | ⟨u', E', T', lag', g', tot', e, f, hT', H'⟩
            · exact ⟨h', p', a', V', G, Or.inl (e1.trans (e2.trans (e3.trans (e4.trans R))))⟩
            · exact ⟨h', p', a', V', G, Or.inr ⟨u', E', n, q, T', lag', g', tot', e1.trans (e2.trans (e3.trans (e4.trans e))), f, hn1, hT', H'⟩⟩
          · have e5 := j_5 (x := x) (y := y) (tn := nI tn) (bb := bb) (h := h) (m := memW (two a b) p V 0) hk14 (by omega) E hE
            obtain ⟨p', a', u', V', E', lag', e, f, H'⟩ := ac_set (x := x) (y := y) (tn := nI tn) (kd := kd) (bb := bb) (b := b) H E hE
            exact ⟨h, p', a', V', g0, Or.inr ⟨u', E', n, q, T, lag', g, tot, e1.trans (e2.trans (e3.trans (e4.trans (e5.trans e)))), f, hn1, by omega, H'⟩⟩
theorem hd_pk {V' : Nat → evVt} {k : Nat} (H : lHd h u p a V n q T lag g tot L xs) (G : wGr k h h') (K : pK p p') (hV : V' 0 = V 0) : lHd h' u p' a V' n q T lag g tot L xs := by
  obtain ⟨hx, hsp, hL, P, I, hi, hk, hi7, hk6, p1, p2⟩ := H
  exact ⟨xP_gr hx G, G.2.2.2.2.trans hsp, hL, by rw [hV]; exact P, I, hi, hk, hi7, hk6, by rw [K.1]; exact p1, by rw [K.1]; exact p2⟩
set_option maxHeartbeats 2000000 in
theorem lo_tail (H : lHd h u p a V n q T lag g tot L xs) (hn1 : 1 ≤ n) (hN2 : evN h + 22503 < 900000000) (hT : T + 1001 < 16000) (E : evL) (hE : fE E) : ∃ (h' : evH) (p' b' : Nat → Nat → Int32) (V' : Nat → evVt), evX 76 722 ([(0, .ref (evO9 + 2)), (1, .ref 0), (2, .ref 375), (3, .ref 376), (4, .ref 377), (5, .ref 378), (6, .ref 379), (7, .ref 380), (8, .ref 381), (9, .ref 382), (10, .ref 383), (11, .ref 384), (12, .int (nI tn)), (13, .int x), (14, .int y), (15, .int (nI kd)), (16, .int (nI bb))] ++ E) [] h (memW (two a b) p V 0) = evX 76 87 ([(0, .ref (evO9 + 2)), (1, .ref 0), (2, .ref 375), (3, .ref 376), (4, .ref 377), (5, .ref 378), (6, .ref 379), (7, .ref 380), (8, .ref 381), (9, .ref 382), (10, .ref 383), (11, .ref 384), (12, .int (nI (tn + 1))), (13, .int x), (14, .int y), (15, .int (nI kd)), (16, .int (nI bb))] ++ E) [] h' (memW (two a b') p' V' 0) ∧ wGr 22503 h h' ∧ lHd h' u p' a V' n q T lag g tot L xs := by
  obtain ⟨hx, hsp, hL, P, I, -⟩ := id H
  obtain ⟨h1, p1, e1, G1, K1⟩ := W_same (p := p) (b := b) hx (by omega) hn1 P (y >>> (1 &&& 31))
  obtain ⟨k0, hk0, Lw⟩ := lw_n (y >>> (10 &&& 31)) (N := 6) (n := 6) rfl (by omega) (by omega)
  have H1 := hd_pk H G1 K1 rfl
  have n10 : ¬ (1 : Int32) = 0 := by decide
  by_cases h0 : k0 = 0
  · have z0 : nI k0 = 0 := by rw [h0]; rfl
    have hsp1 := G1.2.2.2.2.trans hsp
    obtain ⟨h2, p2, b2, V2, e2, G2, K2, hV2⟩ := W_would (x := x >>> (3 &&& 31)) (p := p1) (b := b) (V := V) (xP_gr hx G1) (by have := G1.2.2.1; omega) P (lI_of I hn1) hT (by rw [hsp1]; rfl) (by rw [hsp1]; rfl)
    refine ⟨h2, p2, b2, V2, ?_, wGr_le (wGr_trans G1 G2) (by omega), hd_pk H1 G2 K2 hV2⟩
    rcases hE with rfl | ⟨c, rfl⟩ | ⟨c, d, rfl⟩ | ⟨c, d, e, rfl⟩ <;>
      simp only [x76_722, x76_723, x76_725, x76_726, x76_727, x76_728, x76_729, x76_731, x76_733, x76_735, x76_738, x76_741, x76_743, x76_745, x76_746, x76_748, x76_751, x76_754, x76_755, x76_757, x76_758, x76_759, x76_760, x76_761, x76_763, x76_765, x76_767, x76_769, x76_771, x76_773, x76_775, x76_777, x76_780, x76_783, x76_784_0, x76_784_1, x76_784b, x76_785, x76_788, evI_i, evJl_i, evJf_i, evJd_i, evA_r, evA_n, evA_q, evLk_c, evS1_d, evS2_d, evFl_n, evFl_c, evGl_n, evGl_c, evIn_n, evIn_c, evCat_i, evCat_l, evCat_f, evCat_d, evCat_r, evCat_z, evCat_q, evBd_some, evTl_s, evTl_n, va_rf_s, va_rf_n, and_true, true_and, and_false, false_and, if_true, if_false, not_true_eq_false, not_false_eq_true, reduceCtorEq, ↓reduceIte, Nat.reduceAdd, Nat.reduceEqDiff, Nat.reduceLT, Nat.reduceLeDiff, Nat.reduceSub, Nat.zero_ne_one, Nat.one_ne_zero, e1, Lw, z0, e2, n10, nA1, Option.toList, List.append_nil, List.nil_append, List.cons_append]
  · have z0 : ¬ nI k0 = 0 := nI_ne0 (by omega) (by omega)
    refine ⟨h1, p1, b, V, ?_, wGr_le G1 (by omega), H1⟩
    rcases hE with rfl | ⟨c, rfl⟩ | ⟨c, d, rfl⟩ | ⟨c, d, e, rfl⟩ <;>
      simp only [x76_722, x76_723, x76_725, x76_726, x76_727, x76_728, x76_729, x76_731, x76_733, x76_735, x76_738, x76_741, x76_743, x76_745, x76_746, x76_748, x76_751, x76_754, x76_755, x76_757, x76_758, x76_759, x76_760, x76_761, x76_763, x76_765, x76_767, x76_769, x76_771, x76_773, x76_775, x76_777, x76_780, x76_783, x76_784_0, x76_784_1, x76_784b, x76_785, x76_788, evI_i, evJl_i, evJf_i, evJd_i, evA_r, evA_n, evA_q, evLk_c, evS1_d, evS2_d, evFl_n, evFl_c, evGl_n, evGl_c, evIn_n, evIn_c, evCat_i, evCat_l, evCat_f, evCat_d, evCat_r, evCat_z, evCat_q, evBd_some, evTl_s, evTl_n, va_rf_s, va_rf_n, and_true, true_and, and_false, false_and, if_true, if_false, not_true_eq_false, not_false_eq_true, reduceCtorEq, ↓reduceIte, Nat.reduceAdd, Nat.reduceEqDiff, Nat.reduceLT, Nat.reduceLeDiff, Nat.reduceSub, Nat.zero_ne_one, Nat.one_ne_zero, e1, Lw, z0, n10, nA1, Option.toList, List.append_nil, List.nil_append, List.cons_append]
theorem nt_1a {x y d : Nat} (h : x + 22533 * (d + 1) < 900000000) (l : y ≤ x + 30) : y + 22503 < 900000000 := by
  have h2 : 22533 ≤ 22533 * (d + 1) := Nat.le_mul_of_pos_right _ (Nat.succ_pos d)
  generalize 22533 * (d + 1) = z at h h2
  omega
theorem nt_1b {T T' tn d : Nat} (h : T ≤ 30 * tn) (l : T' ≤ T + 30) (e : tn + (d + 1) = 28) : T' + 1001 < 16000 ∧ T' ≤ 30 * (tn + 1) ∧ tn + 1 + d = 28 := by omega
theorem nt_1c {x y z d : Nat} (h : x + 22533 * (d + 1) < 900000000) (l : y ≤ x + 30) (l2 : z ≤ y + 22503) : z + 22533 * d < 900000000 := by omega
theorem nt_1d {x y z t d : Nat} (l : y ≤ x + 30) (l2 : z ≤ y + 22503) (c : t ≤ z + 22533 * d) : t ≤ x + 22533 * (d + 1) := by omega
theorem nt_1e {x y z t d : Nat} (l : y ≤ x + 6 * 30) (l2 : z ≤ y + 6 * 22503) (c : t ≤ z + 6 * (22533 * d)) : t ≤ x + 6 * (22533 * (d + 1)) := by omega
theorem law_loop (d : Nat) : ∀ (tn : Nat) (h : evH) (u p a b : Nat → Nat → Int32) (V : Nat → evVt) (n q T lag g tot : Nat) (E : evL), tn + d = 28 → lHd h u p a V n q T lag g tot L xs → (1 ≤ n ∨ tn = 0) → T ≤ 30 * tn → evN h + 22533 * d < 900000000 → fH E → ∃ (h' : evH) (m' : evM), evX 76 87 ([(0, .ref (evO9 + 2)), (1, .ref 0), (2, .ref 375), (3, .ref 376), (4, .ref 377), (5, .ref 378), (6, .ref 379), (7, .ref 380), (8, .ref 381), (9, .ref 382), (10, .ref 383), (11, .ref 384), (12, .int (nI tn))] ++ E) [] h (memW (two a b) p V 0) = some (some (.int 1), h', m') ∧ evN h' ≤ evN h + 22533 * d ∧ evSl h' ≤ evSl h + 6 * (22533 * d) := by
  induction d with
  | zero =>
    intro tn h u p a b V n q T lag g tot E htn H h0 hT hN2 hE
    obtain rfl : tn = 28 := by omega
    have g28 : (28 : Int32) ≤ nI 28 := Int32.le_refl _
    refine ⟨h, memW (two a b) p V 0, ?_, by omega, by omega⟩
    rcases hE with rfl | ⟨x0, y0, k0, b0, E17, rfl, hE17⟩
    · rw [List.append_nil]
      conv => lhs; rw [x76_87]
      simp only [x76_89, x76_91, x76_791, x76_792_0, x76_792_1, x76_792b, evI_i, evJl_i, evJf_i, evJd_i, evA_r, evA_n, evA_q, evLk_c, evS1_d, evS2_d, evFl_n, evFl_c, evGl_n, evGl_c, evIn_n, evIn_c, evCat_i, evCat_l, evCat_f, evCat_d, evCat_r, evCat_z, evCat_q, evBd_some, evTl_s, evTl_n, va_rf_s, va_rf_n, and_true, true_and, and_false, false_and, if_true, if_false, not_true_eq_false, not_false_eq_true, reduceCtorEq, ↓reduceIte, Nat.reduceAdd, Nat.reduceEqDiff, Nat.reduceLT, Nat.reduceLeDiff, Nat.reduceSub, Nat.zero_ne_one, Nat.one_ne_zero, g28]
    · rcases hE17 with rfl | ⟨c, rfl⟩ | ⟨c, d, rfl⟩ | ⟨c, d, e, rfl⟩ <;>
        (simp only [List.append_nil, List.nil_append, List.cons_append]
         conv => lhs; rw [x76_87]
         simp only [x76_89, x76_91, x76_791, x76_792_0, x76_792_1, x76_792b, evI_i, evJl_i, evJf_i, evJd_i, evA_r, evA_n, evA_q, evLk_c, evS1_d, evS2_d, evFl_n, evFl_c, evGl_n, evGl_c, evIn_n, evIn_c, evCat_i, evCat_l, evCat_f, evCat_d, evCat_r, evCat_z, evCat_q, evBd_some, evTl_s, evTl_n, va_rf_s, va_rf_n, and_true, true_and, and_false, false_and, if_true, if_false, not_true_eq_false, not_false_eq_true, reduceCtorEq, ↓reduceIte, Nat.reduceAdd, Nat.reduceEqDiff, Nat.reduceLT, Nat.reduceLeDiff, Nat.reduceSub, Nat.zero_ne_one, Nat.one_ne_zero, g28])
  | succ d ih =>
    intro tn h u p a b V n q T lag g tot E htn H h0 hT hN2 hE
    obtain ⟨x, y, kd, bb, E17, e1, f1, hk14, hk0, hbn⟩ := lo_head (b := b) H (by omega) h0 E hE
    obtain ⟨h1, p1, a1, V1, G1, R⟩ := lo_act (x := x) (y := y) (tn := tn) (b := b) H hk14 (h0.imp id hk0) hbn (by omega) (by omega) E17 f1
    have l1 := G1.2.2.1
    have l2 := G1.2.2.2.1
    rcases R with R | ⟨u', E', n', q', T', lag', g', tot', e2, f2, hn', hT', H'⟩
    · exact ⟨h1, _, e1.trans R, by omega, by omega⟩
    · obtain ⟨h2, p2, b2, V2, e3, G2, H2⟩ := lo_tail (x := x) (y := y) (tn := tn) (kd := kd) (bb := bb) (b := b) H' hn' (nt_1a hN2 l1) (nt_1b hT hT' htn).1 E' f2
      have l3 := G2.2.2.1
      have l4 := G2.2.2.2.1
      obtain ⟨h3, m3, e4, c1, c2⟩ := ih (tn + 1) h2 u' p2 a1 b2 V2 n' q' T' lag' g' tot' ([(13, .int x), (14, .int y), (15, .int (nI kd)), (16, .int (nI bb))] ++ E') (nt_1b hT hT' htn).2.2 H2 (Or.inl hn') (nt_1b hT hT' htn).2.1 (nt_1c hN2 l1 l3) (Or.inr ⟨x, y, nI kd, nI bb, E', rfl, f2⟩)
      exact ⟨h3, m3, e1.trans (e2.trans (e3.trans e4)), nt_1d l1 l3 c1, nt_1e l2 l4 c2⟩
end LO
