/-! what-ifs: when a lot ends, another lag -/
section WG
variable {h h' : evH} {p p' a b u : Nat → Nat → Int32} {V : Nat → evVt} {v : evVt} {n q T lag g tot : Nat} {x : Int32}
theorem tw0 : two a b 0 = a 0 := two_a a b (by omega)
theorem tw1 : two a b 1 = a 1 := two_a a b (by omega)
theorem tw2 : two a b 2 = a 2 := two_a a b (by omega)
theorem tw3 : two a b 3 = a 3 := two_a a b (by omega)
theorem tw4 : two a b 4 = a 4 := two_a a b (by omega)
theorem tw5 : two a b 5 = b 0 := two_b a b 0
theorem tw6 : two a b 6 = b 1 := two_b a b 1
theorem tw7 : two a b 7 = b 2 := two_b a b 2
theorem tw8 : two a b 8 = b 3 := two_b a b 3
theorem tw9 : two a b 9 = b 4 := two_b a b 4
theorem tm_a {o j : Nat} {x : Int32} (ho : o < 5) : ms (two a b) o j x = two (ms a o j x) b := by
  funext o' j'
  rw [ms_at]
  unfold two
  by_cases h1 : o' < 5
  · rw [if_pos h1, if_pos h1, ms_at]
  · rw [if_neg h1, if_neg h1, if_neg (by omega)]
theorem tm_b {o j : Nat} {x : Int32} : ms (two a b) (5 + o) j x = two a (ms b o j x) := by
  funext o' j'
  rw [ms_at]
  unfold two
  by_cases h1 : o' < 5
  · rw [if_pos h1, if_pos h1, if_neg (by omega)]
  · rw [if_neg h1, if_neg h1, ms_at]
    by_cases h2 : o' = 5 + o ∧ j' = j
    · rw [if_pos h2, if_pos (by omega)]
    · rw [if_neg h2, if_neg (by omega)]
theorem tm0 {j : Nat} {x : Int32} : ms (two a b) 0 j x = two (ms a 0 j x) b := tm_a (by omega)
theorem tm1 {j : Nat} {x : Int32} : ms (two a b) 1 j x = two (ms a 1 j x) b := tm_a (by omega)
theorem tm2 {j : Nat} {x : Int32} : ms (two a b) 2 j x = two (ms a 2 j x) b := tm_a (by omega)
theorem tm5 {j : Nat} {x : Int32} : ms (two a b) 5 j x = two a (ms b 0 j x) := tm_b (o := 0)
theorem tm6 {j : Nat} {x : Int32} : ms (two a b) 6 j x = two a (ms b 1 j x) := tm_b (o := 1)
theorem ok_p (P : pRel v u a n q T lag g tot) : okV v n q tot ∧ tot < 100000 := by
  obtain ⟨HN, HB, HL, hg, ⟨HM, ht⟩, HA⟩ := P.1.1.1
  exact ⟨⟨HN.2.2.2.2.1.1, HN.1, HN.2.2.2.2.2.1.1, HN.2.1, HM.2.1⟩, by have := P.2.1.2; omega⟩
theorem Vs_10 (V : Nat → evVt) (w : evVt) : Vs V 1 w 0 = V 0 := by rw [Vs_at, if_neg (by omega)]
theorem wo_1 (hx : xP h) (hN2 : evN h + 501 < 900000000) (P : pRel (V 0) u a n q T lag g tot) (I : lI a n q) (hT : T + 501 < 16000) : ∃ (h' : evH) (p' b' : Nat → Nat → Int32) (V' : Nat → evVt) (c1 c2 : Int32), evX 75 0 [(0, .ref 0), (1, .int x), (2, .ref 375), (3, .ref 376), (4, .ref 377), (5, .ref 378), (6, .ref 379), (7, .ref 380), (8, .ref 381), (9, .ref 382), (10, .ref 383), (11, .ref 384)] [] h (memW (two a b) p V 0) = evX 75 108 [(0, .ref 0), (1, .int x), (2, .ref 375), (3, .ref 376), (4, .ref 377), (5, .ref 378), (6, .ref 379), (7, .ref 380), (8, .ref 381), (9, .ref 382), (10, .ref 383), (11, .ref 384), (12, .int c1), (13, .int c2)] [] h' (memW (two a b') p' V' 0) ∧ wGr 501 h h' ∧ pK p p' ∧ V' 0 = V 0 := by
  have ew := W_waits1 (p := p) (V := V) (b := b) hx I.2.2.1 (lI_6 I)
  have ec := W_lcopy (p := p) (V := V) (a := a) (b := b) hx
  have st : evX 75 0 [(0, .ref 0), (1, .int x), (2, .ref 375), (3, .ref 376), (4, .ref 377), (5, .ref 378), (6, .ref 379), (7, .ref 380), (8, .ref 381), (9, .ref 382), (10, .ref 383), (11, .ref 384)] [] h (memW (two a b) p V 0) = evX 75 32 [(0, .ref 0), (1, .int x), (2, .ref 375), (3, .ref 376), (4, .ref 377), (5, .ref 378), (6, .ref 379), (7, .ref 380), (8, .ref 381), (9, .ref 382), (10, .ref 383), (11, .ref 384), (12, .int 0), (13, .int (evBl (wtB a q)))] [] h (memW (two a (cpB a b)) p V 0) := by
    simp only [x75_0, x75_1, x75_3, x75_4, x75_6, x75_9, x75_11, x75_12, x75_13, x75_15, x75_17, x75_19, x75_21, x75_23, x75_25, x75_27, x75_29, evI_i, evJl_i, evJf_i, evJd_i, evA_r, evA_n, evA_q, evLk_c, evS1_d, evS2_d, evFl_n, evFl_c, evGl_n, evGl_c, evIn_n, evIn_c, evCat_i, evCat_l, evCat_f, evCat_d, evCat_r, evCat_z, evCat_q, evBd_some, evTl_s, evTl_n, va_rf_s, va_rf_n, and_true, true_and, and_false, false_and, if_true, if_false, not_true_eq_false, not_false_eq_true, reduceCtorEq, ↓reduceIte, Nat.reduceAdd, Nat.reduceEqDiff, Nat.reduceLT, Nat.reduceLeDiff, Nat.reduceSub, Nat.zero_ne_one, Nat.one_ne_zero, ew, ec, Option.toList, List.nil_append, List.cons_append]
  have hW := has_p P
  have w10 : a 0 10 = 0 := by
    obtain ⟨L, len, ⟨-, -, w10⟩, -⟩ := P.2.2.2.2
    exact w10
  have t10 : ¬ (1 : Int32) = 0 := by decide
  have tb1 : ¬ evBl true = 0 := by decide
  -- behind the loop: the two answers are alike
  have key : ∃ (h1 : evH) (p1 b1 : Nat → Nat → Int32) (n1 : Nat) (an : Bool), evX 75 32 [(0, .ref 0), (1, .int x), (2, .ref 375), (3, .ref 376), (4, .ref 377), (5, .ref 378), (6, .ref 379), (7, .ref 380), (8, .ref 381), (9, .ref 382), (10, .ref 383), (11, .ref 384), (12, .int 0), (13, .int (evBl (wtB a q)))] [] h (memW (two a (cpB a b)) p V 0) = evX 75 74 [(0, .ref 0), (1, .int x), (2, .ref 375), (3, .ref 376), (4, .ref 377), (5, .ref 378), (6, .ref 379), (7, .ref 380), (8, .ref 381), (9, .ref 382), (10, .ref 383), (11, .ref 384), (12, .int (nI n1)), (13, .int (evBl an))] [] h1 (memW (two a b1) p1 V 0) ∧ wGr 501 h h1 ∧ pK p p1 ∧ (b1 0 10 = 0 → (if n1 = 0 ∨ an = true then (-6 : Int32) else nI n1) = if hasV (V 0) = true then eiC n (V 0) 500 0 else -6) ∧ n1 ≤ 500 := by
    cases hB : wtB a q with
    | false =>
      refine ⟨h, p, cpB a b, 0, false, ?_, wGr_le (wGr_refl h) (by omega), pK_refl p, fun _ => ?_, by omega⟩
      · conv => lhs; rw [x75_32]
        simp only [x75_34, evI_i, evJl_i, evJf_i, evJd_i, evA_r, evA_n, evA_q, evLk_c, evS1_d, evS2_d, evFl_n, evFl_c, evGl_n, evGl_c, evIn_n, evIn_c, evCat_i, evCat_l, evCat_f, evCat_d, evCat_r, evCat_z, evCat_q, evBd_some, evTl_s, evTl_n, va_rf_s, va_rf_n, and_true, true_and, and_false, false_and, if_true, if_false, not_true_eq_false, not_false_eq_true, reduceCtorEq, ↓reduceIte, Nat.reduceAdd, Nat.reduceEqDiff, Nat.reduceLT, Nat.reduceLeDiff, Nat.reduceSub, Nat.zero_ne_one, Nat.one_ne_zero, evBl_f]
        rfl
      · rw [if_pos (Or.inl rfl), ← hW, hB]
        rfl
    | true =>
      obtain ⟨h1, p1, b1, n1, an, f1, f2, f3, f4, f5, f6, f7⟩ := wo_ends (x := x) (V := V) (a := a) (T0 := T) (v := V 0) (by omega) 500 0 h p (cpB a b) (by omega) hx (by omega) (qR_of P I (lk_cp a b))
      refine ⟨h1, p1, b1, n1, an, f1, wGr_le f2 (by omega), f3, fun z => ?_, f5⟩
      rw [← hW, hB, if_pos rfl, ← (f7 z).2]
      by_cases han : an = true
      · rw [if_pos (Or.inr han), if_pos han]
      · rw [if_neg (fun y => Or.elim y (by have := f6.resolve_left han; omega) han), if_neg han]
  obtain ⟨h1, p1, b1, n1, an, e1, G1, K1, R1, hn1⟩ := key
  rw [st, e1]
  have hx1 := xP_gr hx G1
  obtain ⟨sa0, sn0, sa1, sn1, sa2, sn2, sa3, sn3, sa4, sn4, sa5, sn5, sa6, sn6, sa7, sn7, sa8, sn8, sa9, sn9⟩ := xP_a hx1
  have a0 := hx1.1.2.2.1
  by_cases h10 : b1 0 10 = 0
  · obtain ⟨ok1, ok2⟩ := ok_p P
    obtain ⟨w, e2⟩ := W_endsIn (u := two a b1) (p := p1) hx1.1 ok1 (by omega)
    rw [← R1 h10] at e2
    refine ⟨h1, p1, b1, Vs V 1 w, nI n1, evBl an, ?_, G1, K1, Vs_10 V w⟩
    by_cases hn0 : n1 = 0
    · subst hn0
      have z0 : nI 0 = 0 := rfl
      rw [if_pos (Or.inl rfl)] at e2
      simp only [x75_74, x75_76, x75_78, x75_78s, x75_79, x75_82, x75_83, x75_86, x75_88, x75_91, x75_93, x75_96, x75_98, x75_101, x75_103, x75_106, x75_107_0, x75_107_1, x75_107b, evI_i, evJl_i, evJf_i, evJd_i, evA_r, evA_n, evA_q, evLk_c, evS1_d, evS2_d, evFl_n, evFl_c, evGl_n, evGl_c, evIn_n, evIn_c, evCat_i, evCat_l, evCat_f, evCat_d, evCat_r, evCat_z, evCat_q, evBd_some, evTl_s, evTl_n, va_rf_s, va_rf_n, and_true, true_and, and_false, false_and, if_true, if_false, not_true_eq_false, not_false_eq_true, reduceCtorEq, ↓reduceIte, Nat.reduceAdd, Nat.reduceEqDiff, Nat.reduceLT, Nat.reduceLeDiff, Nat.reduceSub, Nat.zero_ne_one, Nat.one_ne_zero, sa0, sn0, sa1, sn1, sa2, sn2, sa3, sn3, sa4, sn4, sa5, sn5, sa6, sn6, sa7, sn7, sa8, sn8, sa9, sn9, mG0, mS0, mG1, mS1, mG2, mS2, mG3, mS3, mG4, mS4, mG5, mS5, mG6, mS6, mG7, mS7, mG8, mS8, mG9, mS9, lt0, lt1, lt2, lt3, lt4, lt5, lt6, lt7, lt8, lt9, lt10, lc0, lc1, lc2, lc3, lc4, lc5, lc6, lc7, lc8, lc9, lc10, tw0, tw1, tw2, tw3, tw4, tw5, tw6, tw7, tw8, tw9, tm0, tm1, tm2, tm5, tm6, h10, e2, a0, z0, Option.toList, List.nil_append, List.cons_append]
    · have z0 : ¬ nI n1 = 0 := nI_ne0 (by omega) (by omega)
      cases an with
      | true =>
        rw [if_pos (Or.inr rfl)] at e2
        simp only [x75_74, x75_76, x75_78, x75_78s, x75_79, x75_82, x75_83, x75_86, x75_88, x75_91, x75_93, x75_96, x75_98, x75_101, x75_103, x75_106, x75_107_0, x75_107_1, x75_107b, evI_i, evJl_i, evJf_i, evJd_i, evA_r, evA_n, evA_q, evLk_c, evS1_d, evS2_d, evFl_n, evFl_c, evGl_n, evGl_c, evIn_n, evIn_c, evCat_i, evCat_l, evCat_f, evCat_d, evCat_r, evCat_z, evCat_q, evBd_some, evTl_s, evTl_n, va_rf_s, va_rf_n, and_true, true_and, and_false, false_and, if_true, if_false, not_true_eq_false, not_false_eq_true, reduceCtorEq, ↓reduceIte, Nat.reduceAdd, Nat.reduceEqDiff, Nat.reduceLT, Nat.reduceLeDiff, Nat.reduceSub, Nat.zero_ne_one, Nat.one_ne_zero, sa0, sn0, sa1, sn1, sa2, sn2, sa3, sn3, sa4, sn4, sa5, sn5, sa6, sn6, sa7, sn7, sa8, sn8, sa9, sn9, mG0, mS0, mG1, mS1, mG2, mS2, mG3, mS3, mG4, mS4, mG5, mS5, mG6, mS6, mG7, mS7, mG8, mS8, mG9, mS9, lt0, lt1, lt2, lt3, lt4, lt5, lt6, lt7, lt8, lt9, lt10, lc0, lc1, lc2, lc3, lc4, lc5, lc6, lc7, lc8, lc9, lc10, tw0, tw1, tw2, tw3, tw4, tw5, tw6, tw7, tw8, tw9, tm0, tm1, tm2, tm5, tm6, h10, e2, a0, z0, tb1, Option.toList, List.nil_append, List.cons_append]
      | false =>
        rw [if_neg (fun y => Or.elim y hn0 (by decide))] at e2
        simp only [x75_74, x75_76, x75_78, x75_78s, x75_79, x75_82, x75_83, x75_86, x75_88, x75_91, x75_93, x75_96, x75_98, x75_101, x75_103, x75_106, x75_107_0, x75_107_1, x75_107b, evI_i, evJl_i, evJf_i, evJd_i, evA_r, evA_n, evA_q, evLk_c, evS1_d, evS2_d, evFl_n, evFl_c, evGl_n, evGl_c, evIn_n, evIn_c, evCat_i, evCat_l, evCat_f, evCat_d, evCat_r, evCat_z, evCat_q, evBd_some, evTl_s, evTl_n, va_rf_s, va_rf_n, and_true, true_and, and_false, false_and, if_true, if_false, not_true_eq_false, not_false_eq_true, reduceCtorEq, ↓reduceIte, Nat.reduceAdd, Nat.reduceEqDiff, Nat.reduceLT, Nat.reduceLeDiff, Nat.reduceSub, Nat.zero_ne_one, Nat.one_ne_zero, sa0, sn0, sa1, sn1, sa2, sn2, sa3, sn3, sa4, sn4, sa5, sn5, sa6, sn6, sa7, sn7, sa8, sn8, sa9, sn9, mG0, mS0, mG1, mS1, mG2, mS2, mG3, mS3, mG4, mS4, mG5, mS5, mG6, mS6, mG7, mS7, mG8, mS8, mG9, mS9, lt0, lt1, lt2, lt3, lt4, lt5, lt6, lt7, lt8, lt9, lt10, lc0, lc1, lc2, lc3, lc4, lc5, lc6, lc7, lc8, lc9, lc10, tw0, tw1, tw2, tw3, tw4, tw5, tw6, tw7, tw8, tw9, tm0, tm1, tm2, tm5, tm6, h10, e2, a0, z0, evBl_f, Option.toList, List.nil_append, List.cons_append]
  · refine ⟨h1, p1, b1, V, nI n1, evBl an, ?_, G1, K1, rfl⟩
    simp only [x75_74, x75_76, x75_78, x75_78s, x75_79, evI_i, evJl_i, evJf_i, evJd_i, evA_r, evA_n, evA_q, evLk_c, evS1_d, evS2_d, evFl_n, evFl_c, evGl_n, evGl_c, evIn_n, evIn_c, evCat_i, evCat_l, evCat_f, evCat_d, evCat_r, evCat_z, evCat_q, evBd_some, evTl_s, evTl_n, va_rf_s, va_rf_n, and_true, true_and, and_false, false_and, if_true, if_false, not_true_eq_false, not_false_eq_true, reduceCtorEq, ↓reduceIte, Nat.reduceAdd, Nat.reduceEqDiff, Nat.reduceLT, Nat.reduceLeDiff, Nat.reduceSub, Nat.zero_ne_one, Nat.one_ne_zero, sa0, sn0, sa1, sn1, sa2, sn2, sa3, sn3, sa4, sn4, sa5, sn5, sa6, sn6, sa7, sn7, sa8, sn8, sa9, sn9, mG0, mS0, mG1, mS1, mG2, mS2, mG3, mS3, mG4, mS4, mG5, mS5, mG6, mS6, mG7, mS7, mG8, mS8, mG9, mS9, lt0, lt1, lt2, lt3, lt4, lt5, lt6, lt7, lt8, lt9, lt10, lc0, lc1, lc2, lc3, lc4, lc5, lc6, lc7, lc8, lc9, lc10, tw0, tw1, tw2, tw3, tw4, tw5, tw6, tw7, tw8, tw9, tm0, tm1, tm2, tm5, tm6, h10]
/-- the coins that would be paid -/
def pdF (a b : Nat → Nat → Int32) : Nat → Int32
  | 0 => 0
  | k + 1 => pdF a b k + (b 1 (8 * k + 3) - a 1 (8 * k + 3))
theorem pd_al (a b : Nat → Nat → Int32) (k : Nat) : pdF a b k = alR b 3 k - alR a 3 k := by
  induction k with
  | zero =>
    show (0 : Int32) = 0 - 0
    decide
  | succ k ih =>
    show pdF a b k + (b 1 (8 * k + 3) - a 1 (8 * k + 3)) = (alR b 3 k + b 1 (8 * k + 3)) - (alR a 3 k + a 1 (8 * k + 3))
    rw [ih]
    grind
theorem wo_2 (hx : xP h) (hN2 : evN h + 1000 < 900000000) (P : pRel (V 0) u a n q T lag g tot) (I : lI a n q) (hT : T + 1001 < 16000) (hs0 : evSp h 0 = (4, evGv 0)) (hs1 : evSp h 1 = (4, evGv 1)) (c1 c2 : Int32) : ∃ (h' : evH) (p' b' : Nat → Nat → Int32) (V' : Nat → evVt) (c3 c4 c5 : Int32), evX 75 108 [(0, .ref 0), (1, .int x), (2, .ref 375), (3, .ref 376), (4, .ref 377), (5, .ref 378), (6, .ref 379), (7, .ref 380), (8, .ref 381), (9, .ref 382), (10, .ref 383), (11, .ref 384), (12, .int c1), (13, .int c2)] [] h (memW (two a b) p V 0) = evX 75 258 [(0, .ref 0), (1, .int x), (2, .ref 375), (3, .ref 376), (4, .ref 377), (5, .ref 378), (6, .ref 379), (7, .ref 380), (8, .ref 381), (9, .ref 382), (10, .ref 383), (11, .ref 384), (12, .int c1), (13, .int c2), (14, .int c3), (15, .int c4), (16, .int c5)] [] h' (memW (two a b') p' V' 0) ∧ wGr 1000 h h' ∧ pK p p' ∧ V' 0 = V 0 := by
  obtain ⟨j, hj, el⟩ := low_nI x (n := 6) (by omega) (by omega)
  have Lw := fun m => c_low (h := h) (m := m) x 6 (by decide)
  rw [show lowI x 6 = nI j from el] at Lw
  have ec := W_lcopy (p := p) (V := V) (a := a) (b := b) hx
  have hn3 := P.2.1.1
  have hn1 := I.1
  have h5 : a 0 5 = nI n := I.2.2.2.1
  have hn0 : ¬ nI n = 0 := nI_ne0 (by omega) (by omega)
  -- the lag is set
  obtain ⟨lag', hF⟩ : ∃ lag', rFu (clSet (V 0) 0 (nI j)).2 (ms u 1 0 (nI j) 1) n q T lag' g tot := by
    rcases set_fu P.1 0 (nI j) with ⟨-, -, -, lag', hF⟩ | ⟨z, -⟩
    · exact ⟨lag', hF⟩
    · exfalso
      unfold isvB at z
      rw [if_pos rfl] at z
      have key : ∀ j < 6, wiB (nI j) 0 5 = true := by decide
      rw [key j hj] at z
      cases z
  have hcl : (clSet (V 0) 0 (nI j)).2 = vs (V 0) 0 0 0 (nI j) ∧ (clSet (V 0) 0 (nI j)).1 = V 0 0 0 0 := by
    have c1 : ¬ ((0 : Int32) < 0 ∨ (4 : Int32) ≤ 0) := by decide
    have key : ∀ j < 6, ¬ (nI j < evGv 0 (0 : Int32).toNatClampNeg ∨ evGv 1 (0 : Int32).toNatClampNeg < nI j) := by decide
    unfold clSet
    rw [if_neg c1, if_neg (key j hj)]
    exact ⟨rfl, rfl⟩
  have P2 : pRel (clSet (V 0) 0 (nI j)).2 (ms u 1 0 (nI j)) (ms a 0 0 (nI j)) n q T lag' g tot := set_p P (by omega) (fun a i k hh => by rw [hcl.1, vs_at, if_neg (fun z => hh z.1)]) hF
  have lkm : lkW (ms a 0 0 (nI j)) (ms (cpB a b) 0 0 (nI j)) := fun o i ho hi => by
    rw [ms_at, ms_at, lk_cp a b o i ho hi]
  have I2 : lI (ms a 0 0 (nI j)) n q := by
    obtain ⟨i1, i2, i3, i4, i5, i6, i7, i8⟩ := I
    refine ⟨i1, i2, i3, by rw [ms_at, if_neg (by omega)]; exact i4, by rw [ms_at, if_neg (by omega)]; exact i5, by rw [ms_at, if_neg (by omega)]; exact i6, by rw [ms_at, if_neg (by omega)]; exact i7, fun l hl => ?_⟩
    rw [ms_at, if_neg (by omega), ms_at, if_neg (by omega)]
    exact i8 l hl
  obtain ⟨h1, p1, b1, k1, e1, G1, K1, -, Q1⟩ := wo_lag (x := x) (V := V) (a := a) (T0 := T) (v := (clSet (V 0) 0 (nI j)).2) (c1 := c1) (c2 := c2) (c3 := nI j) (c4 := 0) (c5 := 0) (c6 := 0) (c7 := 0) (c8 := 0) (c9 := 0) (by omega) 1000 0 h p (ms (cpB a b) 0 0 (nI j)) (by omega) hx hN2 (qR_of P2 I2 lkm)
  have st : evX 75 108 [(0, .ref 0), (1, .int x), (2, .ref 375), (3, .ref 376), (4, .ref 377), (5, .ref 378), (6, .ref 379), (7, .ref 380), (8, .ref 381), (9, .ref 382), (10, .ref 383), (11, .ref 384), (12, .int c1), (13, .int c2)] [] h (memW (two a b) p V 0) = evX 75 149 [(0, .ref 0), (1, .int x), (2, .ref 375), (3, .ref 376), (4, .ref 377), (5, .ref 378), (6, .ref 379), (7, .ref 380), (8, .ref 381), (9, .ref 382), (10, .ref 383), (11, .ref 384), (12, .int c1), (13, .int c2), (14, .int (nI j)), (15, .int 0), (16, .int (nI 0))] [] h (memW (two a (ms (cpB a b) 0 0 (nI j))) p V 0) := by
    obtain ⟨sa0, sn0, sa1, sn1, sa2, sn2, sa3, sn3, sa4, sn4, sa5, sn5, sa6, sn6, sa7, sn7, sa8, sn8, sa9, sn9⟩ := xP_a hx
    simp only [x75_108, x75_109, x75_111, x75_114, x75_116, x75_117, x75_119, x75_120, x75_121, x75_123, x75_125, x75_127, x75_129, x75_131, x75_133, x75_135, x75_137, x75_140, x75_142, x75_143, x75_145, x75_146, x75_147, evI_i, evJl_i, evJf_i, evJd_i, evA_r, evA_n, evA_q, evLk_c, evS1_d, evS2_d, evFl_n, evFl_c, evGl_n, evGl_c, evIn_n, evIn_c, evCat_i, evCat_l, evCat_f, evCat_d, evCat_r, evCat_z, evCat_q, evBd_some, evTl_s, evTl_n, va_rf_s, va_rf_n, and_true, true_and, and_false, false_and, if_true, if_false, not_true_eq_false, not_false_eq_true, reduceCtorEq, ↓reduceIte, Nat.reduceAdd, Nat.reduceEqDiff, Nat.reduceLT, Nat.reduceLeDiff, Nat.reduceSub, Nat.zero_ne_one, Nat.one_ne_zero, sa0, sn0, sa1, sn1, sa2, sn2, sa3, sn3, sa4, sn4, sa5, sn5, sa6, sn6, sa7, sn7, sa8, sn8, sa9, sn9, mG0, mS0, mG1, mS1, mG2, mS2, mG3, mS3, mG4, mS4, mG5, mS5, mG6, mS6, mG7, mS7, mG8, mS8, mG9, mS9, lt0, lt1, lt2, lt3, lt4, lt5, lt6, lt7, lt8, lt9, lt10, lc0, lc1, lc2, lc3, lc4, lc5, lc6, lc7, lc8, lc9, lc10, tw0, tw1, tw2, tw3, tw4, tw5, tw6, tw7, tw8, tw9, tm0, tm1, tm2, tm5, tm6, Lw, ec, Option.toList, List.nil_append, List.cons_append]
    rfl
  rw [st, e1]
  have hx1 := xP_gr hx G1
  have hs0' : evSp h1 0 = (4, evGv 0) := by rw [G1.2.2.2.2]; exact hs0
  have hs1' : evSp h1 1 = (4, evGv 1) := by rw [G1.2.2.2.2]; exact hs1
  obtain ⟨sa0, sn0, sa1, sn1, sa2, sn2, sa3, sn3, sa4, sn4, sa5, sn5, sa6, sn6, sa7, sn7, sa8, sn8, sa9, sn9⟩ := xP_a hx1
  have a0 := hx1.1.2.2.1
  -- what would be paid
  have loop := loop_up (G := fun k => evX 75 190 [(0, .ref 0), (1, .int x), (2, .ref 375), (3, .ref 376), (4, .ref 377), (5, .ref 378), (6, .ref 379), (7, .ref 380), (8, .ref 381), (9, .ref 382), (10, .ref 383), (11, .ref 384), (12, .int c1), (13, .int c2), (14, .int (nI j)), (15, .int (pdF a b1 k)), (16, .int (nI k))] [] h1 (memW (two a b1) p1 V 0)) (n := n) (fun k hk => by
    have hlt : ¬ nI n ≤ nI k := nI_ge hk (by omega)
    obtain ⟨i3_p, i3_c, i3_l⟩ := rdx (k := 8 * k + 3) (n := 24) (by omega) (by decide)
    show _ = evX 75 190 [(0, .ref 0), (1, .int x), (2, .ref 375), (3, .ref 376), (4, .ref 377), (5, .ref 378), (6, .ref 379), (7, .ref 380), (8, .ref 381), (9, .ref 382), (10, .ref 383), (11, .ref 384), (12, .int c1), (13, .int c2), (14, .int (nI j)), (15, .int (pdF a b1 k + (b1 1 (8 * k + 3) - a 1 (8 * k + 3)))), (16, .int (nI (k + 1)))] [] h1 (memW (two a b1) p1 V 0)
    conv => lhs; rw [x75_190]
    simp only [x75_192, x75_193, x75_194, x75_194s, x75_195, x75_198, x75_200, x75_202, x75_204, x75_206, x75_207, x75_208, x75_209, x75_209s, x75_210, x75_211, x75_213, x75_215, x75_216, x75_217, x75_218, x75_218s, x75_219, x75_220, x75_221, x75_223, x75_226, evI_i, evJl_i, evJf_i, evJd_i, evA_r, evA_n, evA_q, evLk_c, evS1_d, evS2_d, evFl_n, evFl_c, evGl_n, evGl_c, evIn_n, evIn_c, evCat_i, evCat_l, evCat_f, evCat_d, evCat_r, evCat_z, evCat_q, evBd_some, evTl_s, evTl_n, va_rf_s, va_rf_n, and_true, true_and, and_false, false_and, if_true, if_false, not_true_eq_false, not_false_eq_true, reduceCtorEq, ↓reduceIte, Nat.reduceAdd, Nat.reduceEqDiff, Nat.reduceLT, Nat.reduceLeDiff, Nat.reduceSub, Nat.zero_ne_one, Nat.one_ne_zero, sa0, sn0, sa1, sn1, sa2, sn2, sa3, sn3, sa4, sn4, sa5, sn5, sa6, sn6, sa7, sn7, sa8, sn8, sa9, sn9, mG0, mS0, mG1, mS1, mG2, mS2, mG3, mS3, mG4, mS4, mG5, mS5, mG6, mS6, mG7, mS7, mG8, mS8, mG9, mS9, lt0, lt1, lt2, lt3, lt4, lt5, lt6, lt7, lt8, lt9, lt10, lc0, lc1, lc2, lc3, lc4, lc5, lc6, lc7, lc8, lc9, lc10, tw0, tw1, tw2, tw3, tw4, tw5, tw6, tw7, tw8, tw9, tm0, tm1, tm2, tm5, tm6, h5, hlt, mul8, nA3, nA1, i3_p, i3_c, i3_l])
  have st2 : evX 75 187 [(0, .ref 0), (1, .int x), (2, .ref 375), (3, .ref 376), (4, .ref 377), (5, .ref 378), (6, .ref 379), (7, .ref 380), (8, .ref 381), (9, .ref 382), (10, .ref 383), (11, .ref 384), (12, .int c1), (13, .int c2), (14, .int (nI j)), (15, .int 0), (16, .int (nI k1))] [] h1 (memW (two a b1) p1 V 0) = evX 75 229 [(0, .ref 0), (1, .int x), (2, .ref 375), (3, .ref 376), (4, .ref 377), (5, .ref 378), (6, .ref 379), (7, .ref 380), (8, .ref 381), (9, .ref 382), (10, .ref 383), (11, .ref 384), (12, .int c1), (13, .int c2), (14, .int (nI j)), (15, .int (pdF a b1 n)), (16, .int (nI n))] [] h1 (memW (two a b1) p1 V 0) := by
    have e0 : evX 75 187 [(0, .ref 0), (1, .int x), (2, .ref 375), (3, .ref 376), (4, .ref 377), (5, .ref 378), (6, .ref 379), (7, .ref 380), (8, .ref 381), (9, .ref 382), (10, .ref 383), (11, .ref 384), (12, .int c1), (13, .int c2), (14, .int (nI j)), (15, .int 0), (16, .int (nI k1))] [] h1 (memW (two a b1) p1 V 0) = evX 75 190 [(0, .ref 0), (1, .int x), (2, .ref 375), (3, .ref 376), (4, .ref 377), (5, .ref 378), (6, .ref 379), (7, .ref 380), (8, .ref 381), (9, .ref 382), (10, .ref 383), (11, .ref 384), (12, .int c1), (13, .int c2), (14, .int (nI j)), (15, .int (pdF a b1 0)), (16, .int (nI 0))] [] h1 (memW (two a b1) p1 V 0) := by
      simp only [x75_187, x75_188, evI_i, evJl_i, evJf_i, evJd_i, evA_r, evA_n, evA_q, evLk_c, evS1_d, evS2_d, evFl_n, evFl_c, evGl_n, evGl_c, evIn_n, evIn_c, evCat_i, evCat_l, evCat_f, evCat_d, evCat_r, evCat_z, evCat_q, evBd_some, evTl_s, evTl_n, va_rf_s, va_rf_n, and_true, true_and, and_false, false_and, if_true, if_false, not_true_eq_false, not_false_eq_true, reduceCtorEq, ↓reduceIte, Nat.reduceAdd, Nat.reduceEqDiff, Nat.reduceLT, Nat.reduceLeDiff, Nat.reduceSub, Nat.zero_ne_one, Nat.one_ne_zero]
      rfl
    have hge : nI n ≤ nI n := Int32.le_refl _
    refine e0.trans (loop.trans ?_)
    show evX 75 190 [(0, .ref 0), (1, .int x), (2, .ref 375), (3, .ref 376), (4, .ref 377), (5, .ref 378), (6, .ref 379), (7, .ref 380), (8, .ref 381), (9, .ref 382), (10, .ref 383), (11, .ref 384), (12, .int c1), (13, .int c2), (14, .int (nI j)), (15, .int (pdF a b1 n)), (16, .int (nI n))] [] h1 (memW (two a b1) p1 V 0) = _
    conv => lhs; rw [x75_190]
    simp only [x75_192, x75_193, x75_194, x75_194s, x75_195, evI_i, evJl_i, evJf_i, evJd_i, evA_r, evA_n, evA_q, evLk_c, evS1_d, evS2_d, evFl_n, evFl_c, evGl_n, evGl_c, evIn_n, evIn_c, evCat_i, evCat_l, evCat_f, evCat_d, evCat_r, evCat_z, evCat_q, evBd_some, evTl_s, evTl_n, va_rf_s, va_rf_n, and_true, true_and, and_false, false_and, if_true, if_false, not_true_eq_false, not_false_eq_true, reduceCtorEq, ↓reduceIte, Nat.reduceAdd, Nat.reduceEqDiff, Nat.reduceLT, Nat.reduceLeDiff, Nat.reduceSub, Nat.zero_ne_one, Nat.one_ne_zero, sa0, sn0, sa1, sn1, sa2, sn2, sa3, sn3, sa4, sn4, sa5, sn5, sa6, sn6, sa7, sn7, sa8, sn8, sa9, sn9, mG0, mS0, mG1, mS1, mG2, mS2, mG3, mS3, mG4, mS4, mG5, mS5, mG6, mS6, mG7, mS7, mG8, mS8, mG9, mS9, lt0, lt1, lt2, lt3, lt4, lt5, lt6, lt7, lt8, lt9, lt10, lc0, lc1, lc2, lc3, lc4, lc5, lc6, lc7, lc8, lc9, lc10, tw0, tw1, tw2, tw3, tw4, tw5, tw6, tw7, tw8, tw9, tm0, tm1, tm2, tm5, tm6, h5, hge]
  rw [st2]
  by_cases h10 : b1 0 10 = 0
  · obtain ⟨ok1, ok2⟩ := ok_p P
    obtain ⟨w, e2⟩ := W_ifLag (u := two a b1) (p := p1) hx1.1 hs0' hs1' ok1 (by omega) (nI j)
    obtain ⟨u', T', lag2, g2, tot2, hT', P'⟩ := Q1.2.2 h10
    have eA : ilC n (V 0) (nI j) = pdF a b1 n := by
      unfold ilC
      have n2 : ¬ (clSet (V 0) 0 (nI j)).1 = -2 := by
        rw [hcl.2]
        have hN := P.1.1.1.1
        rw [hN.2.2.2.2.2.2.2.2 0 (by omega), hN.2.2.2.2.2.2.2.1]
        have hl := hN.2.2.1
        have key : ∀ k ≤ 5, ¬ nI k = -2 := by decide
        exact key lag hl
      rw [if_neg n2, pd_al, ← al_sum P' (j := 3) (by omega) n (Nat.le_refl n), ← al_sum P (j := 3) (by omega) n (Nat.le_refl n)]
      rfl
    rw [eA] at e2
    refine ⟨h1, p1, b1, Vs V 1 w, nI j, pdF a b1 n, nI n, ?_, G1, K1, Vs_10 V w⟩
    simp only [x75_229, x75_231, x75_233, x75_233s, x75_234, x75_237, x75_238, x75_240, x75_243, x75_245, x75_248, x75_249_0, x75_249_1, x75_249b, x75_250, x75_251, x75_252, x75_252s, x75_253, x75_256, x75_257_0, x75_257_1, x75_257b, evI_i, evJl_i, evJf_i, evJd_i, evA_r, evA_n, evA_q, evLk_c, evS1_d, evS2_d, evFl_n, evFl_c, evGl_n, evGl_c, evIn_n, evIn_c, evCat_i, evCat_l, evCat_f, evCat_d, evCat_r, evCat_z, evCat_q, evBd_some, evTl_s, evTl_n, va_rf_s, va_rf_n, and_true, true_and, and_false, false_and, if_true, if_false, not_true_eq_false, not_false_eq_true, reduceCtorEq, ↓reduceIte, Nat.reduceAdd, Nat.reduceEqDiff, Nat.reduceLT, Nat.reduceLeDiff, Nat.reduceSub, Nat.zero_ne_one, Nat.one_ne_zero, sa0, sn0, sa1, sn1, sa2, sn2, sa3, sn3, sa4, sn4, sa5, sn5, sa6, sn6, sa7, sn7, sa8, sn8, sa9, sn9, mG0, mS0, mG1, mS1, mG2, mS2, mG3, mS3, mG4, mS4, mG5, mS5, mG6, mS6, mG7, mS7, mG8, mS8, mG9, mS9, lt0, lt1, lt2, lt3, lt4, lt5, lt6, lt7, lt8, lt9, lt10, lc0, lc1, lc2, lc3, lc4, lc5, lc6, lc7, lc8, lc9, lc10, tw0, tw1, tw2, tw3, tw4, tw5, tw6, tw7, tw8, tw9, tm0, tm1, tm2, tm5, tm6, h10, e2, a0, h5, hn0, Option.toList, List.nil_append, List.cons_append]
  · refine ⟨h1, p1, b1, V, nI j, pdF a b1 n, nI n, ?_, G1, K1, rfl⟩
    simp only [x75_229, x75_231, x75_233, x75_233s, x75_234, x75_250, x75_251, x75_252, x75_252s, x75_253, x75_256, x75_257_0, x75_257_1, x75_257b, evI_i, evJl_i, evJf_i, evJd_i, evA_r, evA_n, evA_q, evLk_c, evS1_d, evS2_d, evFl_n, evFl_c, evGl_n, evGl_c, evIn_n, evIn_c, evCat_i, evCat_l, evCat_f, evCat_d, evCat_r, evCat_z, evCat_q, evBd_some, evTl_s, evTl_n, va_rf_s, va_rf_n, and_true, true_and, and_false, false_and, if_true, if_false, not_true_eq_false, not_false_eq_true, reduceCtorEq, ↓reduceIte, Nat.reduceAdd, Nat.reduceEqDiff, Nat.reduceLT, Nat.reduceLeDiff, Nat.reduceSub, Nat.zero_ne_one, Nat.one_ne_zero, sa0, sn0, sa1, sn1, sa2, sn2, sa3, sn3, sa4, sn4, sa5, sn5, sa6, sn6, sa7, sn7, sa8, sn8, sa9, sn9, mG0, mS0, mG1, mS1, mG2, mS2, mG3, mS3, mG4, mS4, mG5, mS5, mG6, mS6, mG7, mS7, mG8, mS8, mG9, mS9, lt0, lt1, lt2, lt3, lt4, lt5, lt6, lt7, lt8, lt9, lt10, lc0, lc1, lc2, lc3, lc4, lc5, lc6, lc7, lc8, lc9, lc10, tw0, tw1, tw2, tw3, tw4, tw5, tw6, tw7, tw8, tw9, tm0, tm1, tm2, tm5, tm6, h10, h5, hn0]
end WG
