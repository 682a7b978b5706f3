/-! the law's round: the lot's end, and the whole round -/
section LE
variable {h : evH} {m : evM} {c N l n q len : Nat} {w : Nat → Nat → Int32} {f : Nat → Int32} {now H : Int32}
/-- behind the bids: the round is counted -/
theorem re_1 (hl : lR h c) (hl8 : l < 8) (hn : n ≤ 3) (h5 : w 0 5 = nI n) (x y z : Int32) : evX 71 301 [(0, .ref c), (1, .ref (c + 1)), (2, .ref (c + 2)), (3, .ref (c + 3)), (4, .ref (c + 4)), (5, .int (nI (7 * l))), (6, .int now), (7, .ref N), (8, .int H), (9, .int (nI n)), (10, .int x), (11, .int y), (12, .int z)] [] h (evGM m c 5 w) = evX 71 509 [(0, .ref c), (1, .ref (c + 1)), (2, .ref (c + 2)), (3, .ref (c + 3)), (4, .ref (c + 4)), (5, .int (nI (7 * l))), (6, .int now), (7, .ref N), (8, .int H), (9, .int (nI n)), (10, .int x), (11, .int y), (12, .int z)] [] h (evGM m c 5 (ms (ms w 0 4 (w 0 4 + 1)) 2 (7 * l + 4) (w 2 (7 * l + 4) + 1))) := by
  obtain ⟨ra0, ra1, ra2, ra3, ra4, rn0, rn1, rn2, rn3, rn4⟩ := id hl
  have hge : nI n ≤ nI n := Int32.le_refl _
  obtain ⟨i4_p, i4_c, i4_l⟩ := rdx (k := 7 * l + 4) (n := 56) (by omega) (by decide)
  have n20 : ¬ (2 : Nat) = 0 := by omega
  conv => lhs; rw [x71_301]
  simp only [x71_303, x71_304, x71_305, x71_305s, x71_306, x71_492, x71_493, x71_494, x71_495, x71_495s, x71_496, x71_497, x71_498, x71_499, x71_500, x71_502, x71_503, x71_504, x71_505, x71_505s, x71_506, x71_507, x71_508, evI_i, evJl_i, evJf_i, evJd_i, evA_r, evA_n, evA_q, evLk_c, evS1_d, evS2_d, evFl_n, evFl_c, evGl_n, evGl_c, evIn_n, evIn_c, evCat_i, evCat_l, evCat_f, evCat_d, evCat_r, evCat_z, evCat_q, evBd_some, evTl_s, evTl_n, va_rf_s, va_rf_n, and_true, true_and, and_false, false_and, if_true, if_false, not_true_eq_false, not_false_eq_true, reduceCtorEq, ↓reduceIte, Nat.reduceAdd, Nat.reduceEqDiff, Nat.reduceLT, Nat.reduceLeDiff, Nat.reduceSub, Nat.zero_ne_one, Nat.one_ne_zero, ra0, ra1, ra2, ra3, ra4, rn0, rn1, rn2, rn3, rn4, evGM_get, evGM_set, evGM_get0, evGM_set0, lt0, lt1, lt2, lt3, lt4, lt5, lt6, lt7, lt8, lt9, lt10, lc0, lc1, lc2, lc3, lc4, lc5, lc6, lc7, lc8, lc9, lc10, h5, hge, nA4, ms_at, n20, i4_p, i4_c, i4_l]
theorem re_2 (hl : lR h c) (hl8 : l < 8) (x y z u : Int32) (he : endsB w = false) : evX 71 509 [(0, .ref c), (1, .ref (c + 1)), (2, .ref (c + 2)), (3, .ref (c + 3)), (4, .ref (c + 4)), (5, .int (nI (7 * l))), (6, .int now), (7, .ref N), (8, .int H), (9, .int u), (10, .int x), (11, .int y), (12, .int z)] [] h (evGM m c 5 w) = some (some (.int 0), h, evGM m c 5 w) := by
  obtain ⟨ra0, ra1, ra2, ra3, ra4, rn0, rn1, rn2, rn3, rn4⟩ := id hl
  have hc : ¬ w 0 2 + w 0 0 ≤ w 0 8 := of_decide_eq_false he
  simp only [x71_509, x71_510, x71_512, x71_512s, x71_513, x71_514, x71_515, x71_515s, x71_516, x71_517, x71_518, x71_518s, x71_519, x71_520, x71_523, x71_524, evI_i, evJl_i, evJf_i, evJd_i, evA_r, evA_n, evA_q, evLk_c, evS1_d, evS2_d, evFl_n, evFl_c, evGl_n, evGl_c, evIn_n, evIn_c, evCat_i, evCat_l, evCat_f, evCat_d, evCat_r, evCat_z, evCat_q, evBd_some, evTl_s, evTl_n, va_rf_s, va_rf_n, and_true, true_and, and_false, false_and, if_true, if_false, not_true_eq_false, not_false_eq_true, reduceCtorEq, ↓reduceIte, Nat.reduceAdd, Nat.reduceEqDiff, Nat.reduceLT, Nat.reduceLeDiff, Nat.reduceSub, Nat.zero_ne_one, Nat.one_ne_zero, ra0, ra1, ra2, ra3, ra4, rn0, rn1, rn2, rn3, rn4, evGM_get, evGM_set, evGM_get0, evGM_set0, lt0, lt1, lt2, lt3, lt4, lt5, lt6, lt7, lt8, lt9, lt10, lc0, lc1, lc2, lc3, lc4, lc5, lc6, lc7, lc8, lc9, lc10, hc]
def lvSc (c N l b : Nat) (now H s z : Int32) (r3 r4 : Nat → Int32) (k : Nat) : evL := match k with
  | 0 => [(0, .ref c), (1, .ref (c + 1)), (2, .ref (c + 2)), (3, .ref (c + 3)), (4, .ref (c + 4)), (5, .int (nI (7 * l))), (6, .int now), (7, .ref N), (8, .int H), (9, .int (nI b)), (10, .int s), (11, .int (nI 0)), (12, .int z)]
  | k + 1 => [(0, .ref c), (1, .ref (c + 1)), (2, .ref (c + 2)), (3, .ref (c + 3)), (4, .ref (c + 4)), (5, .int (nI (7 * l))), (6, .int now), (7, .ref N), (8, .int H), (9, .int (nI b)), (10, .int s), (11, .int (nI (k + 1))), (12, .int (bidE r3 r4 k))]
theorem re_sc (hl : lR h c) (hlen : len ≤ 128) (h9 : w 0 9 = nI len) (b : Nat) (z : Int32) : ∃ z', evX 71 564 [(0, .ref c), (1, .ref (c + 1)), (2, .ref (c + 2)), (3, .ref (c + 3)), (4, .ref (c + 4)), (5, .int (nI (7 * l))), (6, .int now), (7, .ref N), (8, .int H), (9, .int (nI b)), (10, .int 0), (11, .int 0), (12, .int z)] [] h (evGM m c 5 w) = evX 71 621 [(0, .ref c), (1, .ref (c + 1)), (2, .ref (c + 2)), (3, .ref (c + 3)), (4, .ref (c + 4)), (5, .int (nI (7 * l))), (6, .int now), (7, .ref N), (8, .int H), (9, .int (nI b)), (10, .int (scF (w 3) (w 4) (nI b) len)), (11, .int (nI len)), (12, .int z')] [] h (evGM m c 5 w) := by
  obtain ⟨ra0, ra1, ra2, ra3, ra4, rn0, rn1, rn2, rn3, rn4⟩ := id hl
  have loop := loop_up (G := fun k => evX 71 564 (lvSc c N l b now H (scF (w 3) (w 4) (nI b) k) z (w 3) (w 4) k) [] h (evGM m c 5 w)) (n := len) (fun k hk => by
    have hlt : ¬ nI len ≤ nI k := nI_ge hk (by omega)
    have hs : nI k + 1 = nI (k + 1) := (nI_succ k).symm
    have B := c_lbid (h := h) (m := m) (w := w) hl (k := k) (by omega)
    show _ = evX 71 564 [(0, .ref c), (1, .ref (c + 1)), (2, .ref (c + 2)), (3, .ref (c + 3)), (4, .ref (c + 4)), (5, .int (nI (7 * l))), (6, .int now), (7, .ref N), (8, .int H), (9, .int (nI b)), (10, .int (scF (w 3) (w 4) (nI b) (k + 1))), (11, .int (nI (k + 1))), (12, .int (bidE (w 3) (w 4) k))] [] h (evGM m c 5 w)
    rw [scF_s]
    generalize scF (w 3) (w 4) (nI b) k = acc
    generalize bidE (w 3) (w 4) k = x at B
    by_cases h1 : x &&& 7 = nI b
    · cases k <;>
        (conv => lhs; unfold lvSc; rw [x71_564]) <;>
        simp only [x71_566, x71_567, x71_569, x71_569s, x71_570, x71_573, x71_575, x71_576, x71_578, x71_581, x71_583, x71_585, x71_587, x71_588, x71_590, x71_593, x71_595, x71_598, x71_600, x71_603, x71_605, x71_608, x71_611, x71_613, x71_615, x71_618, evI_i, evJl_i, evJf_i, evJd_i, evA_r, evA_n, evA_q, evLk_c, evS1_d, evS2_d, evFl_n, evFl_c, evGl_n, evGl_c, evIn_n, evIn_c, evCat_i, evCat_l, evCat_f, evCat_d, evCat_r, evCat_z, evCat_q, evBd_some, evTl_s, evTl_n, va_rf_s, va_rf_n, and_true, true_and, and_false, false_and, if_true, if_false, not_true_eq_false, not_false_eq_true, reduceCtorEq, ↓reduceIte, Nat.reduceAdd, Nat.reduceEqDiff, Nat.reduceLT, Nat.reduceLeDiff, Nat.reduceSub, Nat.zero_ne_one, Nat.one_ne_zero, ra0, ra1, ra2, ra3, ra4, rn0, rn1, rn2, rn3, rn4, evGM_get, evGM_set, evGM_get0, evGM_set0, lt0, lt1, lt2, lt3, lt4, lt5, lt6, lt7, lt8, lt9, lt10, lc0, lc1, lc2, lc3, lc4, lc5, lc6, lc7, lc8, lc9, lc10, h9, hlt, hs, B, h1, c_coins, Option.toList, List.nil_append, List.cons_append]
    · by_cases h2 : acc < coi x
      · have h2' : ¬ coi x ≤ acc := Int32.not_le.mpr h2
        cases k <;>
          (conv => lhs; unfold lvSc; rw [x71_564]) <;>
          simp only [x71_566, x71_567, x71_569, x71_569s, x71_570, x71_573, x71_575, x71_576, x71_578, x71_581, x71_583, x71_585, x71_587, x71_588, x71_590, x71_593, x71_595, x71_598, x71_600, x71_603, x71_605, x71_608, x71_611, x71_613, x71_615, x71_618, evI_i, evJl_i, evJf_i, evJd_i, evA_r, evA_n, evA_q, evLk_c, evS1_d, evS2_d, evFl_n, evFl_c, evGl_n, evGl_c, evIn_n, evIn_c, evCat_i, evCat_l, evCat_f, evCat_d, evCat_r, evCat_z, evCat_q, evBd_some, evTl_s, evTl_n, va_rf_s, va_rf_n, and_true, true_and, and_false, false_and, if_true, if_false, not_true_eq_false, not_false_eq_true, reduceCtorEq, ↓reduceIte, Nat.reduceAdd, Nat.reduceEqDiff, Nat.reduceLT, Nat.reduceLeDiff, Nat.reduceSub, Nat.zero_ne_one, Nat.one_ne_zero, ra0, ra1, ra2, ra3, ra4, rn0, rn1, rn2, rn3, rn4, evGM_get, evGM_set, evGM_get0, evGM_set0, lt0, lt1, lt2, lt3, lt4, lt5, lt6, lt7, lt8, lt9, lt10, lc0, lc1, lc2, lc3, lc4, lc5, lc6, lc7, lc8, lc9, lc10, h9, hlt, hs, B, h1, h2, h2', c_coins, Option.toList, List.nil_append, List.cons_append]
      · have h2' : coi x ≤ acc := Int32.not_lt.mp h2
        cases k <;>
          (conv => lhs; unfold lvSc; rw [x71_564]) <;>
          simp only [x71_566, x71_567, x71_569, x71_569s, x71_570, x71_573, x71_575, x71_576, x71_578, x71_581, x71_583, x71_585, x71_587, x71_588, x71_590, x71_593, x71_595, x71_598, x71_600, x71_603, x71_605, x71_608, x71_611, x71_613, x71_615, x71_618, evI_i, evJl_i, evJf_i, evJd_i, evA_r, evA_n, evA_q, evLk_c, evS1_d, evS2_d, evFl_n, evFl_c, evGl_n, evGl_c, evIn_n, evIn_c, evCat_i, evCat_l, evCat_f, evCat_d, evCat_r, evCat_z, evCat_q, evBd_some, evTl_s, evTl_n, va_rf_s, va_rf_n, and_true, true_and, and_false, false_and, if_true, if_false, not_true_eq_false, not_false_eq_true, reduceCtorEq, ↓reduceIte, Nat.reduceAdd, Nat.reduceEqDiff, Nat.reduceLT, Nat.reduceLeDiff, Nat.reduceSub, Nat.zero_ne_one, Nat.one_ne_zero, ra0, ra1, ra2, ra3, ra4, rn0, rn1, rn2, rn3, rn4, evGM_get, evGM_set, evGM_get0, evGM_set0, lt0, lt1, lt2, lt3, lt4, lt5, lt6, lt7, lt8, lt9, lt10, lc0, lc1, lc2, lc3, lc4, lc5, lc6, lc7, lc8, lc9, lc10, h9, hlt, hs, B, h1, h2, h2', c_coins, Option.toList, List.nil_append, List.cons_append])
  have hge : nI len ≤ nI len := Int32.le_refl _
  have fin : ∃ z', evX 71 564 (lvSc c N l b now H (scF (w 3) (w 4) (nI b) len) z (w 3) (w 4) len) [] h (evGM m c 5 w) = evX 71 621 [(0, .ref c), (1, .ref (c + 1)), (2, .ref (c + 2)), (3, .ref (c + 3)), (4, .ref (c + 4)), (5, .int (nI (7 * l))), (6, .int now), (7, .ref N), (8, .int H), (9, .int (nI b)), (10, .int (scF (w 3) (w 4) (nI b) len)), (11, .int (nI len)), (12, .int z')] [] h (evGM m c 5 w) := by
    cases len with
    | zero =>
      refine ⟨z, ?_⟩
      unfold lvSc
      conv => lhs; rw [x71_564]
      simp only [x71_566, x71_567, x71_569, x71_569s, x71_570, evI_i, evJl_i, evJf_i, evJd_i, evA_r, evA_n, evA_q, evLk_c, evS1_d, evS2_d, evFl_n, evFl_c, evGl_n, evGl_c, evIn_n, evIn_c, evCat_i, evCat_l, evCat_f, evCat_d, evCat_r, evCat_z, evCat_q, evBd_some, evTl_s, evTl_n, va_rf_s, va_rf_n, and_true, true_and, and_false, false_and, if_true, if_false, not_true_eq_false, not_false_eq_true, reduceCtorEq, ↓reduceIte, Nat.reduceAdd, Nat.reduceEqDiff, Nat.reduceLT, Nat.reduceLeDiff, Nat.reduceSub, Nat.zero_ne_one, Nat.one_ne_zero, ra0, ra1, ra2, ra3, ra4, rn0, rn1, rn2, rn3, rn4, evGM_get, evGM_set, evGM_get0, evGM_set0, lt0, lt1, lt2, lt3, lt4, lt5, lt6, lt7, lt8, lt9, lt10, lc0, lc1, lc2, lc3, lc4, lc5, lc6, lc7, lc8, lc9, lc10, h9, hge]
    | succ k =>
      refine ⟨bidE (w 3) (w 4) k, ?_⟩
      unfold lvSc
      conv => lhs; rw [x71_564]
      simp only [x71_566, x71_567, x71_569, x71_569s, x71_570, evI_i, evJl_i, evJf_i, evJd_i, evA_r, evA_n, evA_q, evLk_c, evS1_d, evS2_d, evFl_n, evFl_c, evGl_n, evGl_c, evIn_n, evIn_c, evCat_i, evCat_l, evCat_f, evCat_d, evCat_r, evCat_z, evCat_q, evBd_some, evTl_s, evTl_n, va_rf_s, va_rf_n, and_true, true_and, and_false, false_and, if_true, if_false, not_true_eq_false, not_false_eq_true, reduceCtorEq, ↓reduceIte, Nat.reduceAdd, Nat.reduceEqDiff, Nat.reduceLT, Nat.reduceLeDiff, Nat.reduceSub, Nat.zero_ne_one, Nat.one_ne_zero, ra0, ra1, ra2, ra3, ra4, rn0, rn1, rn2, rn3, rn4, evGM_get, evGM_set, evGM_get0, evGM_set0, lt0, lt1, lt2, lt3, lt4, lt5, lt6, lt7, lt8, lt9, lt10, lc0, lc1, lc2, lc3, lc4, lc5, lc6, lc7, lc8, lc9, lc10, h9, hge]
  obtain ⟨z', hz⟩ := fin
  exact ⟨z', loop.trans hz⟩
theorem nI7_div (l : Nat) (hl8 : l < 8) : nI (7 * l) / 7 = nI l := by
  have key : ∀ l < 8, nI (7 * l) / 7 = nI l := by decide
  exact key l hl8
theorem ne7 : ¬ (7 : Int32) = 0 := by decide
theorem re_pr (hl : lR h c) (hl8 : l < 8) (b s k z : Int32) : evX 71 621 [(0, .ref c), (1, .ref (c + 1)), (2, .ref (c + 2)), (3, .ref (c + 3)), (4, .ref (c + 4)), (5, .int (nI (7 * l))), (6, .int now), (7, .ref N), (8, .int H), (9, .int b), (10, .int s), (11, .int k), (12, .int z)] [] h (evGM m c 5 w) = evX 71 659 [(0, .ref c), (1, .ref (c + 1)), (2, .ref (c + 2)), (3, .ref (c + 3)), (4, .ref (c + 4)), (5, .int (nI (7 * l))), (6, .int now), (7, .ref N), (8, .int H), (9, .int b), (10, .int s), (11, .int (prcW w l s)), (12, .int z)] [] h (evGM m c 5 w) := by
  obtain ⟨ra0, ra1, ra2, ra3, ra4, rn0, rn1, rn2, rn3, rn4⟩ := id hl
  obtain ⟨i5_p, i5_c, i5_l⟩ := rdx (k := 7 * l + 5) (n := 56) (by omega) (by decide)
  unfold prcW
  by_cases h3 : w 0 3 = 0
  · simp only [x71_621, x71_622, x71_623, x71_623s, x71_624, x71_627, x71_629, x71_630, x71_631, x71_631s, x71_632, x71_633, x71_634, x71_636, x71_637, x71_638, x71_638s, x71_639, x71_642, x71_643, x71_645, x71_646, x71_647, x71_647s, x71_648, x71_651, x71_653, x71_654, x71_655, x71_655s, x71_656, x71_657, evI_i, evJl_i, evJf_i, evJd_i, evA_r, evA_n, evA_q, evLk_c, evS1_d, evS2_d, evFl_n, evFl_c, evGl_n, evGl_c, evIn_n, evIn_c, evCat_i, evCat_l, evCat_f, evCat_d, evCat_r, evCat_z, evCat_q, evBd_some, evTl_s, evTl_n, va_rf_s, va_rf_n, and_true, true_and, and_false, false_and, if_true, if_false, not_true_eq_false, not_false_eq_true, reduceCtorEq, ↓reduceIte, Nat.reduceAdd, Nat.reduceEqDiff, Nat.reduceLT, Nat.reduceLeDiff, Nat.reduceSub, Nat.zero_ne_one, Nat.one_ne_zero, ra0, ra1, ra2, ra3, ra4, rn0, rn1, rn2, rn3, rn4, evGM_get, evGM_set, evGM_get0, evGM_set0, lt0, lt1, lt2, lt3, lt4, lt5, lt6, lt7, lt8, lt9, lt10, lc0, lc1, lc2, lc3, lc4, lc5, lc6, lc7, lc8, lc9, lc10, h3, nA5, true_or, i5_p, i5_c, i5_l]
  · by_cases hc : w 2 (7 * l + 5) < s + w 0 1
    · have hc' : ¬ s + w 0 1 ≤ w 2 (7 * l + 5) := Int32.not_le.mpr hc
      simp only [x71_621, x71_622, x71_623, x71_623s, x71_624, x71_627, x71_629, x71_630, x71_631, x71_631s, x71_632, x71_633, x71_634, x71_636, x71_637, x71_638, x71_638s, x71_639, x71_642, x71_643, x71_645, x71_646, x71_647, x71_647s, x71_648, x71_651, x71_653, x71_654, x71_655, x71_655s, x71_656, x71_657, evI_i, evJl_i, evJf_i, evJd_i, evA_r, evA_n, evA_q, evLk_c, evS1_d, evS2_d, evFl_n, evFl_c, evGl_n, evGl_c, evIn_n, evIn_c, evCat_i, evCat_l, evCat_f, evCat_d, evCat_r, evCat_z, evCat_q, evBd_some, evTl_s, evTl_n, va_rf_s, va_rf_n, and_true, true_and, and_false, false_and, if_true, if_false, not_true_eq_false, not_false_eq_true, reduceCtorEq, ↓reduceIte, Nat.reduceAdd, Nat.reduceEqDiff, Nat.reduceLT, Nat.reduceLeDiff, Nat.reduceSub, Nat.zero_ne_one, Nat.one_ne_zero, ra0, ra1, ra2, ra3, ra4, rn0, rn1, rn2, rn3, rn4, evGM_get, evGM_set, evGM_get0, evGM_set0, lt0, lt1, lt2, lt3, lt4, lt5, lt6, lt7, lt8, lt9, lt10, lc0, lc1, lc2, lc3, lc4, lc5, lc6, lc7, lc8, lc9, lc10, h3, nA5, hc, hc', or_true, i5_p, i5_c, i5_l]
    · have hc' : s + w 0 1 ≤ w 2 (7 * l + 5) := Int32.not_lt.mp hc
      simp only [x71_621, x71_622, x71_623, x71_623s, x71_624, x71_627, x71_629, x71_630, x71_631, x71_631s, x71_632, x71_633, x71_634, x71_636, x71_637, x71_638, x71_638s, x71_639, x71_642, x71_643, x71_645, x71_646, x71_647, x71_647s, x71_648, x71_651, x71_653, x71_654, x71_655, x71_655s, x71_656, x71_657, evI_i, evJl_i, evJf_i, evJd_i, evA_r, evA_n, evA_q, evLk_c, evS1_d, evS2_d, evFl_n, evFl_c, evGl_n, evGl_c, evIn_n, evIn_c, evCat_i, evCat_l, evCat_f, evCat_d, evCat_r, evCat_z, evCat_q, evBd_some, evTl_s, evTl_n, va_rf_s, va_rf_n, and_true, true_and, and_false, false_and, if_true, if_false, not_true_eq_false, not_false_eq_true, reduceCtorEq, ↓reduceIte, Nat.reduceAdd, Nat.reduceEqDiff, Nat.reduceLT, Nat.reduceLeDiff, Nat.reduceSub, Nat.zero_ne_one, Nat.one_ne_zero, ra0, ra1, ra2, ra3, ra4, rn0, rn1, rn2, rn3, rn4, evGM_get, evGM_set, evGM_get0, evGM_set0, lt0, lt1, lt2, lt3, lt4, lt5, lt6, lt7, lt8, lt9, lt10, lc0, lc1, lc2, lc3, lc4, lc5, lc6, lc7, lc8, lc9, lc10, h3, nA5, hc, hc', or_self, i5_p, i5_c, i5_l]
theorem re_so (hl : lR h c) (hl8 : l < 8) {b : Nat} (hb : b < 3) (s x z : Int32) : evX 71 659 [(0, .ref c), (1, .ref (c + 1)), (2, .ref (c + 2)), (3, .ref (c + 3)), (4, .ref (c + 4)), (5, .int (nI (7 * l))), (6, .int now), (7, .ref N), (8, .int H), (9, .int (nI b)), (10, .int s), (11, .int x), (12, .int z)] [] h (evGM m c 5 w) = some (some (.int 1), h, evGM m c 5 (soldC (soldB (soldA w l b x) l b x) l b x)) := by
  obtain ⟨ra0, ra1, ra2, ra3, ra4, rn0, rn1, rn2, rn3, rn4⟩ := id hl
  obtain ⟨l1_p, l1_c, l1_l⟩ := rdx (k := 7 * l + 1) (n := 56) (by omega) (by decide)
  obtain ⟨l2_p, l2_c, l2_l⟩ := rdx (k := 7 * l + 2) (n := 56) (by omega) (by decide)
  obtain ⟨l3_p, l3_c, l3_l⟩ := rdx (k := 7 * l + 3) (n := 56) (by omega) (by decide)
  obtain ⟨l0_p, l0_c, l0_l⟩ := rdx (k := 7 * l) (n := 56) (by omega) (by decide)
  obtain ⟨b0_p, b0_c, b0_l⟩ := rdx (k := 8 * b) (n := 24) (by omega) (by decide)
  obtain ⟨b2_p, b2_c, b2_l⟩ := rdx (k := 8 * b + 2) (n := 24) (by omega) (by decide)
  obtain ⟨b3_p, b3_c, b3_l⟩ := rdx (k := 8 * b + 3) (n := 24) (by omega) (by decide)
  obtain ⟨b4_p, b4_c, b4_l⟩ := rdx (k := 8 * b + 4) (n := 24) (by omega) (by decide)
  have st : evX 71 659 [(0, .ref c), (1, .ref (c + 1)), (2, .ref (c + 2)), (3, .ref (c + 3)), (4, .ref (c + 4)), (5, .int (nI (7 * l))), (6, .int now), (7, .ref N), (8, .int H), (9, .int (nI b)), (10, .int s), (11, .int x), (12, .int z)] [] h (evGM m c 5 w) = evX 71 682 [(0, .ref c), (1, .ref (c + 1)), (2, .ref (c + 2)), (3, .ref (c + 3)), (4, .ref (c + 4)), (5, .int (nI (7 * l))), (6, .int now), (7, .ref N), (8, .int H), (9, .int (nI b)), (10, .int s), (11, .int x), (12, .int z)] [] h (evGM m c 5 (soldA w l b x)) := by
    unfold soldA
    simp only [x71_659, x71_660, x71_662, x71_663, x71_664, x71_665, x71_666, x71_667, x71_669, x71_670, x71_671, x71_673, x71_674, x71_675, x71_677, x71_678, x71_679, x71_681, evI_i, evJl_i, evJf_i, evJd_i, evA_r, evA_n, evA_q, evLk_c, evS1_d, evS2_d, evFl_n, evFl_c, evGl_n, evGl_c, evIn_n, evIn_c, evCat_i, evCat_l, evCat_f, evCat_d, evCat_r, evCat_z, evCat_q, evBd_some, evTl_s, evTl_n, va_rf_s, va_rf_n, and_true, true_and, and_false, false_and, if_true, if_false, not_true_eq_false, not_false_eq_true, reduceCtorEq, ↓reduceIte, Nat.reduceAdd, Nat.reduceEqDiff, Nat.reduceLT, Nat.reduceLeDiff, Nat.reduceSub, Nat.zero_ne_one, Nat.one_ne_zero, ra0, ra1, ra2, ra3, ra4, rn0, rn1, rn2, rn3, rn4, evGM_get, evGM_set, evGM_get0, evGM_set0, lt0, lt1, lt2, lt3, lt4, lt5, lt6, lt7, lt8, lt9, lt10, lc0, lc1, lc2, lc3, lc4, lc5, lc6, lc7, lc8, lc9, lc10, nA1, nA2, nA3, l1_p, l1_c, l1_l, l2_p, l2_c, l2_l, l3_p, l3_c, l3_l]
  rw [st]
  generalize soldA w l b x = w1
  have n1 : ¬ 8 * b + 2 = 8 * b := by omega
  have st2 : evX 71 682 [(0, .ref c), (1, .ref (c + 1)), (2, .ref (c + 2)), (3, .ref (c + 3)), (4, .ref (c + 4)), (5, .int (nI (7 * l))), (6, .int now), (7, .ref N), (8, .int H), (9, .int (nI b)), (10, .int s), (11, .int x), (12, .int z)] [] h (evGM m c 5 w1) = evX 71 713 [(0, .ref c), (1, .ref (c + 1)), (2, .ref (c + 2)), (3, .ref (c + 3)), (4, .ref (c + 4)), (5, .int (nI (7 * l))), (6, .int now), (7, .ref N), (8, .int H), (9, .int (nI b)), (10, .int s), (11, .int x), (12, .int z)] [] h (evGM m c 5 (soldB w1 l b x)) := by
    unfold soldB
    simp only [x71_682, x71_683, x71_685, x71_687, x71_688, x71_689, x71_689s, x71_690, x71_692, x71_693, x71_694, x71_695, x71_697, x71_699, x71_700, x71_701, x71_702, x71_703, x71_703s, x71_704, x71_705, x71_707, x71_709, x71_710, x71_711, x71_712, evI_i, evJl_i, evJf_i, evJd_i, evA_r, evA_n, evA_q, evLk_c, evS1_d, evS2_d, evFl_n, evFl_c, evGl_n, evGl_c, evIn_n, evIn_c, evCat_i, evCat_l, evCat_f, evCat_d, evCat_r, evCat_z, evCat_q, evBd_some, evTl_s, evTl_n, va_rf_s, va_rf_n, and_true, true_and, and_false, false_and, if_true, if_false, not_true_eq_false, not_false_eq_true, reduceCtorEq, ↓reduceIte, Nat.reduceAdd, Nat.reduceEqDiff, Nat.reduceLT, Nat.reduceLeDiff, Nat.reduceSub, Nat.zero_ne_one, Nat.one_ne_zero, ra0, ra1, ra2, ra3, ra4, rn0, rn1, rn2, rn3, rn4, evGM_get, evGM_set, evGM_get0, evGM_set0, lt0, lt1, lt2, lt3, lt4, lt5, lt6, lt7, lt8, lt9, lt10, lc0, lc1, lc2, lc3, lc4, lc5, lc6, lc7, lc8, lc9, lc10, mul8, nA2, ms_at, n1, ne7, nI7_div l hl8, b0_p, b0_c, b0_l, b2_p, b2_c, b2_l]
  rw [st2]
  generalize soldB w1 l b x = w2
  unfold soldC
  have n2 : ¬ 8 * b + 4 = 8 * b + 3 := by omega
  have n3 : ¬ (2 : Nat) = 1 := by omega
  simp only [x71_713, x71_714, x71_716, x71_718, x71_719, x71_720, x71_721, x71_722, x71_722s, x71_723, x71_725, x71_726, x71_727, x71_728, x71_730, x71_732, x71_733, x71_734, x71_735, x71_736, x71_736s, x71_737, x71_738, x71_740, x71_740s, x71_741, x71_742, x71_743, x71_744, evI_i, evJl_i, evJf_i, evJd_i, evA_r, evA_n, evA_q, evLk_c, evS1_d, evS2_d, evFl_n, evFl_c, evGl_n, evGl_c, evIn_n, evIn_c, evCat_i, evCat_l, evCat_f, evCat_d, evCat_r, evCat_z, evCat_q, evBd_some, evTl_s, evTl_n, va_rf_s, va_rf_n, and_true, true_and, and_false, false_and, if_true, if_false, not_true_eq_false, not_false_eq_true, reduceCtorEq, ↓reduceIte, Nat.reduceAdd, Nat.reduceEqDiff, Nat.reduceLT, Nat.reduceLeDiff, Nat.reduceSub, Nat.zero_ne_one, Nat.one_ne_zero, ra0, ra1, ra2, ra3, ra4, rn0, rn1, rn2, rn3, rn4, evGM_get, evGM_set, evGM_get0, evGM_set0, lt0, lt1, lt2, lt3, lt4, lt5, lt6, lt7, lt8, lt9, lt10, lc0, lc1, lc2, lc3, lc4, lc5, lc6, lc7, lc8, lc9, lc10, mul8, nA3, nA4, ms_at, n2, n3, b3_p, b3_c, b3_l, b4_p, b4_c, b4_l, l0_p, l0_c, l0_l]
theorem prcW_7 (w : Nat → Nat → Int32) (l : Nat) (s x : Int32) : prcW (ms w 0 7 x) l s = prcW w l s := by
  unfold prcW
  simp only [ms_at, show ¬ (2 : Nat) = 0 by omega, show ¬ (3 : Nat) = 7 by omega, show ¬ (1 : Nat) = 7 by omega, and_false, false_and, if_false]
theorem ms_row0 (w : Nat → Nat → Int32) (o j : Nat) (x : Int32) {o' : Nat} (h : o' ≠ o) : ms w o j x o' = w o' := funext fun i => by rw [ms_at, if_neg (fun z => h z.1)]
theorem re_3 (hl : lR h c) (hl8 : l < 8) (hlen : len ≤ 128) (h9 : w 0 9 = nI len) (hw : w 2 (7 * l + 5) = 0 ∨ ∃ b, b < 3 ∧ w 2 (7 * l + 6) = nI b) (x y z u : Int32) (he : endsB w = true) : evX 71 509 [(0, .ref c), (1, .ref (c + 1)), (2, .ref (c + 2)), (3, .ref (c + 3)), (4, .ref (c + 4)), (5, .int (nI (7 * l))), (6, .int now), (7, .ref N), (8, .int H), (9, .int u), (10, .int x), (11, .int y), (12, .int z)] [] h (evGM m c 5 w) = some (some (.int 1), h, evGM m c 5 (endW w l)) := by
  have hl0 := hl
  obtain ⟨ra0, ra1, ra2, ra3, ra4, rn0, rn1, rn2, rn3, rn4⟩ := id hl
  have hc : w 0 2 + w 0 0 ≤ w 0 8 := of_decide_eq_true he
  obtain ⟨i5_p, i5_c, i5_l⟩ := rdx (k := 7 * l + 5) (n := 56) (by omega) (by decide)
  obtain ⟨i1_p, i1_c, i1_l⟩ := rdx (k := 7 * l + 1) (n := 56) (by omega) (by decide)
  obtain ⟨i6_p, i6_c, i6_l⟩ := rdx (k := 7 * l + 6) (n := 56) (by omega) (by decide)
  have n20 : ¬ (2 : Nat) = 0 := by omega
  unfold endW
  by_cases h0 : w 2 (7 * l + 5) = 0
  · rw [if_pos h0]
    simp only [x71_509, x71_510, x71_512, x71_512s, x71_513, x71_514, x71_515, x71_515s, x71_516, x71_517, x71_518, x71_518s, x71_519, x71_520, x71_523, x71_524, x71_525, x71_526, x71_528, x71_530, x71_531, x71_532, x71_534, x71_535, x71_536, x71_536s, x71_537, x71_540, x71_541, x71_543, x71_544, x71_545, x71_546, x71_547, x71_548, evI_i, evJl_i, evJf_i, evJd_i, evA_r, evA_n, evA_q, evLk_c, evS1_d, evS2_d, evFl_n, evFl_c, evGl_n, evGl_c, evIn_n, evIn_c, evCat_i, evCat_l, evCat_f, evCat_d, evCat_r, evCat_z, evCat_q, evBd_some, evTl_s, evTl_n, va_rf_s, va_rf_n, and_true, true_and, and_false, false_and, if_true, if_false, not_true_eq_false, not_false_eq_true, reduceCtorEq, ↓reduceIte, Nat.reduceAdd, Nat.reduceEqDiff, Nat.reduceLT, Nat.reduceLeDiff, Nat.reduceSub, Nat.zero_ne_one, Nat.one_ne_zero, ra0, ra1, ra2, ra3, ra4, rn0, rn1, rn2, rn3, rn4, evGM_get, evGM_set, evGM_get0, evGM_set0, lt0, lt1, lt2, lt3, lt4, lt5, lt6, lt7, lt8, lt9, lt10, lc0, lc1, lc2, lc3, lc4, lc5, lc6, lc7, lc8, lc9, lc10, hc, nA5, nA1, ms_at, n20, h0, i5_p, i5_c, i5_l, i1_p, i1_c, i1_l]
  · rw [if_neg h0]
    obtain ⟨b, hb, hwb⟩ := hw.resolve_left h0
    have st : evX 71 509 [(0, .ref c), (1, .ref (c + 1)), (2, .ref (c + 2)), (3, .ref (c + 3)), (4, .ref (c + 4)), (5, .int (nI (7 * l))), (6, .int now), (7, .ref N), (8, .int H), (9, .int u), (10, .int x), (11, .int y), (12, .int z)] [] h (evGM m c 5 w) = evX 71 564 [(0, .ref c), (1, .ref (c + 1)), (2, .ref (c + 2)), (3, .ref (c + 3)), (4, .ref (c + 4)), (5, .int (nI (7 * l))), (6, .int now), (7, .ref N), (8, .int H), (9, .int (nI b)), (10, .int 0), (11, .int 0), (12, .int z)] [] h (evGM m c 5 (ms w 0 7 (-6))) := by
      simp only [x71_509, x71_510, x71_512, x71_512s, x71_513, x71_514, x71_515, x71_515s, x71_516, x71_517, x71_518, x71_518s, x71_519, x71_520, x71_523, x71_524, x71_525, x71_526, x71_528, x71_530, x71_531, x71_532, x71_534, x71_535, x71_536, x71_536s, x71_537, x71_540, x71_541, x71_543, x71_544, x71_545, x71_546, x71_547, x71_548, x71_549, x71_550, x71_552, x71_554, x71_555, x71_555s, x71_556, x71_558, x71_559, x71_561, x71_562, evI_i, evJl_i, evJf_i, evJd_i, evA_r, evA_n, evA_q, evLk_c, evS1_d, evS2_d, evFl_n, evFl_c, evGl_n, evGl_c, evIn_n, evIn_c, evCat_i, evCat_l, evCat_f, evCat_d, evCat_r, evCat_z, evCat_q, evBd_some, evTl_s, evTl_n, va_rf_s, va_rf_n, and_true, true_and, and_false, false_and, if_true, if_false, not_true_eq_false, not_false_eq_true, reduceCtorEq, ↓reduceIte, Nat.reduceAdd, Nat.reduceEqDiff, Nat.reduceLT, Nat.reduceLeDiff, Nat.reduceSub, Nat.zero_ne_one, Nat.one_ne_zero, ra0, ra1, ra2, ra3, ra4, rn0, rn1, rn2, rn3, rn4, evGM_get, evGM_set, evGM_get0, evGM_set0, lt0, lt1, lt2, lt3, lt4, lt5, lt6, lt7, lt8, lt9, lt10, lc0, lc1, lc2, lc3, lc4, lc5, lc6, lc7, lc8, lc9, lc10, hc, nA5, nA6, ms_at, n20, h0, hwb, i5_p, i5_c, i5_l, i6_p, i6_c, i6_l]
    rw [st, hwb, nI_cl b (by omega)]
    obtain ⟨z', sc⟩ := re_sc (m := m) (w := ms w 0 7 (-6)) (N := N) (l := l) (now := now) (H := H) hl0 hlen (by rw [ms_at, if_neg (by omega)]; exact h9) b z
    rw [sc, re_pr hl0 hl8, re_so hl0 hl8 hb, prcW_7, ms_row0 w 0 7 _ (by omega), ms_row0 w 0 7 _ (by omega), lenW_nI hlen h9]
/-- the shapes and cells behind a round -/
def lAft (h h' : evH) (m m' : evM) : Prop := evLe (evN h) h h' ∧ evN h ≤ evN h' ∧ evN h' ≤ evN h + 1 ∧ evSl h' ≤ evSl h + 6 ∧ evSp h' = evSp h ∧ ∀ a, a ≠ evN h → m' a = m a
theorem c_round (hl : lR h c) (hN : c + 5 ≤ evN h) (hO : evN h < evO9) (I : lI w n q) : ∃ h' m', evX 71 0 [(0, .ref c), (1, .ref (c + 1)), (2, .ref (c + 2)), (3, .ref (c + 3)), (4, .ref (c + 4))] [] h (evGM m c 5 w) = some (some (.int (evBl (rnB w n q))), h', evGM m' c 5 (rnW w n q)) ∧ lAft h h' m m' := by
  obtain ⟨x, e⟩ := r_begin (m := m) hl I.2.2.1 I.2.2.2.2.1
  have A := lI_bg I
  unfold rnB rnW
  generalize bgA w q = a at A e
  obtain ⟨i1, i2, i3, i4, i5, i6, ⟨len, hlen, i7⟩, i8⟩ := id A
  rcases i6 with h7 | ⟨l, hlq, h7⟩
  · have h0 : a 0 7 < 0 := by rw [h7]; decide
    rw [if_pos h0, if_pos h0]
    exact ⟨h, m, e.trans (r_none hl h0 x), evLe_refl _ _, Nat.le_refl _, by omega, by omega, rfl, fun _ _ => rfl⟩
  · have h0 : ¬ a 0 7 < 0 := by rw [h7]; exact nI_pos (by omega)
    have hl8 : l < 8 := by omega
    rw [if_neg h0, if_neg h0, h7, nI_cl l (by omega)]
    have e1 := r_runs (m := m) hl hN hO hl8 h7 x
    have hg : evLe (evN h) h (evNew h 9 6) := evLe_new
    have hg1 : evN (evNew h 9 6) = evN h + 1 := evNew_N _ _ _
    have hg2 : evSl (evNew h 9 6) = evSl h + 6 := evNew_Sl _ _ _
    have hg3 : evSp (evNew h 9 6) = evSp h := evNew_Sp _ _ _
    have hi : evAt (evNew h 9 6) (evN h) 9 := evAt_of (by omega) hO (by rw [evNew_K, if_pos rfl])
    have hi6 : evLen (evNew h 9 6) (evN h) = 6 := by rw [evNew_len, if_pos rfl]
    have hlg : lR (evNew h 9 6) c := by
      obtain ⟨ra0, ra1, ra2, ra3, ra4, rn0, rn1, rn2, rn3, rn4⟩ := id hl
      exact ⟨evAt_same (hg _ (by omega)).1 (by omega) ra0, evAt_same (hg _ (by omega)).1 (by omega) ra1, evAt_same (hg _ (by omega)).1 (by omega) ra2, evAt_same (hg _ (by omega)).1 (by omega) ra3, evAt_same (hg _ (by omega)).1 (by omega) ra4, (hg _ (by omega)).2.1.trans rn0, (hg _ (by omega)).2.1.trans rn1, (hg _ (by omega)).2.1.trans rn2, (hg _ (by omega)).2.1.trans rn3, (hg _ (by omega)).2.1.trans rn4⟩
    generalize evNew h 9 6 = g at *
    obtain ⟨E, hE, e2⟩ := ch_loop (m := m) (now := a 0 4) hlg hi hi6 hN hl8 i2 i4 hlen i7 n (Nat.le_refl n)
    obtain ⟨x1, x2, x3, x4, rfl⟩ : ∃ a b d e, E = [(9, .int a), (10, .int b), (11, .int d), (12, .int e)] := hE.resolve_left (fun z => by omega)
    have t5 : tzW a n 0 5 = nI n := by rw [tzW_o a n (by omega)]; exact i4
    have e3 := nt_0 (m := m) (f := chR a l len n) (now := a 0 4) hlg hi hi6 hN i2 hl8 t5 x1 x2 x3 x4
    have eC : chR a l len n = bidsW a l n := by
      unfold chR bidsW
      rw [lenW_nI hlen i7]
    have t2 : tzW a n 2 (7 * l + 5) = a 2 (7 * l + 5) := by rw [tzW_o a n (by omega)]
    have t8 : tzW a n 0 8 = a 0 8 := by rw [tzW_o a n (by omega)]
    rw [t2, t8] at e3
    obtain ⟨x5, e4⟩ := nt_loop (m := m) (f := chR a l len n) (w := ms (tzW a n) 0 8 (a 0 8 + 1)) (now := a 0 4) (H := a 2 (7 * l + 5)) hlg hi hi6 hN hl8 i2 (by rw [ms_at, if_neg (by omega)]; exact t5) hlen (by rw [ms_at, if_neg (by omega), tzW_o a n (by omega)]; exact i7) x2 x3 x4 n (Nat.le_refl n)
    rw [eC] at e4 e3 e2
    have eR : noW (ms (tzW a n) 0 8 (a 0 8 + 1)) l (a 2 (7 * l + 5)) (a 0 4) (bidsW a l n) n = roW1 a l n := rfl
    rw [eR] at e4
    obtain ⟨⟨len', hlen', j9⟩, jw⟩ := lI_ro A hl8
    have r5 : roW1 a l n 0 5 = nI n := by rw [roW1_0 (by omega)]; exact i4
    have e5 := re_1 (m := evRowM m (evN h) (bidsW a l n)) (N := evN h) (now := a 0 4) (H := a 2 (7 * l + 5)) hlg hl8 i2 r5 x5 x3 x4
    have eR2 : ms (ms (roW1 a l n) 0 4 (roW1 a l n 0 4 + 1)) 2 (7 * l + 4) (roW1 a l n 2 (7 * l + 4) + 1) = roW2 a l n := rfl
    rw [eR2] at e5
    have E5 := e.trans (e1.trans (e2.trans (e3.trans (e4.trans e5))))
    have aft : lAft h g m (evRowM m (evN h) (bidsW a l n)) := ⟨hg, by omega, by omega, by omega, hg3, fun b hb => funext fun j => by unfold evRowM; rw [if_neg hb]⟩
    have k9 : roW2 a l n 0 9 = nI len' := by
      unfold roW2
      rw [ms_at, if_neg (by omega), ms_at, if_neg (by omega)]
      exact j9
    have k2 : ∀ j, j ≠ 7 * l + 4 → roW2 a l n 2 j = roW1 a l n 2 j := fun j hj => by
      unfold roW2
      rw [ms_at, if_neg (by omega), ms_at, if_neg (by omega)]
    unfold ronW
    cases hB : endsB (roW2 a l n) with
    | false =>
      refine ⟨g, evRowM m (evN h) (bidsW a l n), E5.trans ?_, aft⟩
      rw [if_neg (by decide)]
      exact re_2 hlg hl8 _ _ _ _ hB
    | true =>
      refine ⟨g, evRowM m (evN h) (bidsW a l n), E5.trans ?_, aft⟩
      rw [if_pos rfl]
      exact re_3 hlg hl8 hlen' k9 (by rw [k2 _ (by omega), k2 _ (by omega)]; exact (jw l hl8).imp id (fun ⟨b, hb, e⟩ => ⟨b, by omega, e⟩)) _ _ _ _ hB
end LE
