/-! the model: parts of the row of numbers -/
theorem lt0 : ¬ (0 : Int32) < 0 := by decide
theorem lt1 : ¬ (1 : Int32) < 0 := by decide
theorem lt2 : ¬ (2 : Int32) < 0 := by decide
theorem lt3 : ¬ (3 : Int32) < 0 := by decide
theorem lt4 : ¬ (4 : Int32) < 0 := by decide
theorem lt5 : ¬ (5 : Int32) < 0 := by decide
theorem lt6 : ¬ (6 : Int32) < 0 := by decide
theorem lt7 : ¬ (7 : Int32) < 0 := by decide
theorem lt8 : ¬ (8 : Int32) < 0 := by decide
theorem lt9 : ¬ (9 : Int32) < 0 := by decide
theorem lc0 : (0 : Int32).toNatClampNeg = 0 := by decide
theorem lc1 : (1 : Int32).toNatClampNeg = 1 := by decide
theorem lc2 : (2 : Int32).toNatClampNeg = 2 := by decide
theorem lc3 : (3 : Int32).toNatClampNeg = 3 := by decide
theorem lc4 : (4 : Int32).toNatClampNeg = 4 := by decide
theorem lc5 : (5 : Int32).toNatClampNeg = 5 := by decide
theorem lc6 : (6 : Int32).toNatClampNeg = 6 := by decide
theorem lc7 : (7 : Int32).toNatClampNeg = 7 := by decide
theorem lc8 : (8 : Int32).toNatClampNeg = 8 := by decide
theorem lc9 : (9 : Int32).toNatClampNeg = 9 := by decide
theorem nI_add2 (a b : Nat) : nI a + nI b = nI (a + b) := nI_add a b
theorem ix_g {a k : Nat} {b x : Int32} (hb0 : ¬ b < 0) (hx0 : ¬ x < 0) (hl : a + k * b.toNatClampNeg + x.toNatClampNeg < 2 ^ 31) : ¬ nI a + nI k * b + x < 0 ∧ (nI a + nI k * b + x).toNatClampNeg = a + k * b.toNatClampNeg + x.toNatClampNeg := by
  obtain ⟨b', hb', rfl⟩ := nI_of hb0
  obtain ⟨x', hx', rfl⟩ := nI_of hx0
  rw [nI_clamp hb', nI_clamp hx'] at *
  rw [pk_mul, nI_add2, nI_add2]
  exact ⟨nI_pos hl, nI_clamp hl⟩
def wiB (v lo hi : Int32) : Bool := decide (lo ≤ v) && decide (v ≤ hi)
theorem c_within (h : evH) (mi : evM) (v lo hi : Int32) : evX 88 0 [(0, .int v), (1, .int lo), (2, .int hi)] [] h mi = some (some (.int (evBl (wiB v lo hi))), h, mi) := by
  simp only [x88_0, x88_1, x88_2, x88_5, x88_6, x88_7, x88_10, x88_11, x88_14, x88_15_0, x88_15_1, x88_15b, evI_i, evJl_i, evJf_i, evJd_i, evA_r, evA_n, evA_q, evLk_c, evS1_d, evS2_d, evFl_n, evFl_c, evGl_n, evGl_c, evIn_n, evIn_c, evCat_i, evCat_l, evCat_f, evCat_d, evCat_r, evCat_z, evCat_q, evBd_some, evTl_s, evTl_n, va_rf_s, va_rf_n, and_true, true_and, and_false, false_and, if_true, if_false, not_true_eq_false, not_false_eq_true, reduceCtorEq, ↓reduceIte, Nat.reduceAdd, Nat.reduceEqDiff, Nat.reduceLT, Nat.reduceLeDiff, Nat.reduceSub, Nat.zero_ne_one, Nat.one_ne_zero]
  unfold wiB evBl
  simp only [← Int32.not_lt]
  repeat' split
  all_goals first | rfl | (simp_all; done) | grind
section MO
variable {h : evH} {m : evM} {c : Nat} {u : Nat → Nat → Int32}
theorem evGM_get0 {b c j : Nat} {f : Nat → Nat → Int32} (ho : 0 < c) : evGM m b c f b j = f 0 j := evGM_get (o := 0) ho
theorem c_isBidder (hu : mOK h c) (b : Int32) : evX 90 0 [(0, .ref c), (1, .int b)] [] h (evGM m c 9 u) = some (some (.int (evBl (wiB b 0 (u 1 5 - 1)))), h, evGM m c 9 u) := by
  obtain ⟨w0, w1, w2, w3, w4, w5, w6, w7, w8, w9, w10, w11, w12, w13, w14, w15, w16, w17, w18, w19, w20, w21, w22, w23, w24⟩ := id hu
  simp only [x90_0, x90_1, x90_2, x90_3, x90_6, x90_7, x90_8, x90_9, x90_10, x90_13_0, x90_13_1, x90_13b, evI_i, evJl_i, evJf_i, evJd_i, evA_r, evA_n, evA_q, evLk_c, evS1_d, evS2_d, evFl_n, evFl_c, evGl_n, evGl_c, evIn_n, evIn_c, evCat_i, evCat_l, evCat_f, evCat_d, evCat_r, evCat_z, evCat_q, evBd_some, evTl_s, evTl_n, va_rf_s, va_rf_n, and_true, true_and, and_false, false_and, if_true, if_false, not_true_eq_false, not_false_eq_true, reduceCtorEq, ↓reduceIte, Nat.reduceAdd, Nat.reduceEqDiff, Nat.reduceLT, Nat.reduceLeDiff, Nat.reduceSub, Nat.zero_ne_one, Nat.one_ne_zero, w0, w1, w2, w3, w4, w5, w6, w7, w8, w9, w10, w11, w12, w13, w14, w15, w16, w17, w18, w19, w20, w21, w22, w23, w24, evGM_get, evGM_set, evGM_get0, evGM_set0, lt5, lc5, c_within, Option.toList, List.cons_append, List.nil_append]
theorem c_isLot (hu : mOK h c) (b : Int32) : evX 91 0 [(0, .ref c), (1, .int b)] [] h (evGM m c 9 u) = some (some (.int (evBl (wiB b 0 (u 1 6 - 1)))), h, evGM m c 9 u) := by
  obtain ⟨w0, w1, w2, w3, w4, w5, w6, w7, w8, w9, w10, w11, w12, w13, w14, w15, w16, w17, w18, w19, w20, w21, w22, w23, w24⟩ := id hu
  simp only [x91_0, x91_1, x91_2, x91_3, x91_6, x91_8, x91_9, x91_10, x91_11, x91_14_0, x91_14_1, x91_14b, evI_i, evJl_i, evJf_i, evJd_i, evA_r, evA_n, evA_q, evLk_c, evS1_d, evS2_d, evFl_n, evFl_c, evGl_n, evGl_c, evIn_n, evIn_c, evCat_i, evCat_l, evCat_f, evCat_d, evCat_r, evCat_z, evCat_q, evBd_some, evTl_s, evTl_n, va_rf_s, va_rf_n, and_true, true_and, and_false, false_and, if_true, if_false, not_true_eq_false, not_false_eq_true, reduceCtorEq, ↓reduceIte, Nat.reduceAdd, Nat.reduceEqDiff, Nat.reduceLT, Nat.reduceLeDiff, Nat.reduceSub, Nat.zero_ne_one, Nat.one_ne_zero, w0, w1, w2, w3, w4, w5, w6, w7, w8, w9, w10, w11, w12, w13, w14, w15, w16, w17, w18, w19, w20, w21, w22, w23, w24, evGM_get, evGM_set, evGM_get0, evGM_set0, lt6, lc6, c_within, Option.toList, List.cons_append, List.nil_append]
theorem c_bidderPart (hu : mOK h c) {b x : Int32} (hb0 : ¬ b < 0) (hb : b.toNatClampNeg < 6) (hx0 : ¬ x < 0) (hx : x.toNatClampNeg < 8) : evX 92 0 [(0, .ref c), (1, .int b), (2, .int x)] [] h (evGM m c 9 u) = some (some (.int (u 1 (10 + 8 * b.toNatClampNeg + x.toNatClampNeg))), h, evGM m c 9 u) := by
  obtain ⟨w0, w1, w2, w3, w4, w5, w6, w7, w8, w9, w10, w11, w12, w13, w14, w15, w16, w17, w18, w19, w20, w21, w22, w23, w24⟩ := id hu
  have hi := ix_g (a := 10) (k := 8) hb0 hx0 (by omega)
  have i1 : ¬ 10 + 8 * b + x < 0 := hi.1
  have i2 : (10 + 8 * b + x).toNatClampNeg = 10 + 8 * b.toNatClampNeg + x.toNatClampNeg := hi.2
  have i3 : 10 + 8 * b.toNatClampNeg + x.toNatClampNeg < 328 := by omega
  simp only [x92_0, x92_1, x92_4, x92_6, x92_8, x92_9, x92_10, x92_11, x92_12, x92_13, x92_14, evI_i, evJl_i, evJf_i, evJd_i, evA_r, evA_n, evA_q, evLk_c, evS1_d, evS2_d, evFl_n, evFl_c, evGl_n, evGl_c, evIn_n, evIn_c, evCat_i, evCat_l, evCat_f, evCat_d, evCat_r, evCat_z, evCat_q, evBd_some, evTl_s, evTl_n, va_rf_s, va_rf_n, and_true, true_and, and_false, false_and, if_true, if_false, not_true_eq_false, not_false_eq_true, reduceCtorEq, ↓reduceIte, Nat.reduceAdd, Nat.reduceEqDiff, Nat.reduceLT, Nat.reduceLeDiff, Nat.reduceSub, Nat.zero_ne_one, Nat.one_ne_zero, w0, w1, w2, w3, w4, w5, w6, w7, w8, w9, w10, w11, w12, w13, w14, w15, w16, w17, w18, w19, w20, w21, w22, w23, w24, evGM_get, evGM_set, evGM_get0, evGM_set0, i1, i2, i3]
theorem c_setBidder (hu : mOK h c) {b x y : Int32} (hb0 : ¬ b < 0) (hb : b.toNatClampNeg < 6) (hx0 : ¬ x < 0) (hx : x.toNatClampNeg < 8) : evX 93 0 [(0, .ref c), (1, .int b), (2, .int x), (3, .int y)] [] h (evGM m c 9 u) = some (none, h, evGM m c 9 (ms u 1 (10 + 8 * b.toNatClampNeg + x.toNatClampNeg) y)) := by
  obtain ⟨w0, w1, w2, w3, w4, w5, w6, w7, w8, w9, w10, w11, w12, w13, w14, w15, w16, w17, w18, w19, w20, w21, w22, w23, w24⟩ := id hu
  have hi := ix_g (a := 10) (k := 8) hb0 hx0 (by omega)
  have i1 : ¬ 10 + 8 * b + x < 0 := hi.1
  have i2 : (10 + 8 * b + x).toNatClampNeg = 10 + 8 * b.toNatClampNeg + x.toNatClampNeg := hi.2
  have i3 : 10 + 8 * b.toNatClampNeg + x.toNatClampNeg < 328 := by omega
  simp only [x93_0, x93_1, x93_4, x93_6, x93_8, x93_9, x93_10, x93_11, x93_12, x93_13, x93_14, x93_15, evI_i, evJl_i, evJf_i, evJd_i, evA_r, evA_n, evA_q, evLk_c, evS1_d, evS2_d, evFl_n, evFl_c, evGl_n, evGl_c, evIn_n, evIn_c, evCat_i, evCat_l, evCat_f, evCat_d, evCat_r, evCat_z, evCat_q, evBd_some, evTl_s, evTl_n, va_rf_s, va_rf_n, and_true, true_and, and_false, false_and, if_true, if_false, not_true_eq_false, not_false_eq_true, reduceCtorEq, ↓reduceIte, Nat.reduceAdd, Nat.reduceEqDiff, Nat.reduceLT, Nat.reduceLeDiff, Nat.reduceSub, Nat.zero_ne_one, Nat.one_ne_zero, w0, w1, w2, w3, w4, w5, w6, w7, w8, w9, w10, w11, w12, w13, w14, w15, w16, w17, w18, w19, w20, w21, w22, w23, w24, evGM_get, evGM_set, evGM_get0, evGM_set0, i1, i2, i3]
theorem c_adds (hu : mOK h c) {b x y : Int32} (hb0 : ¬ b < 0) (hb : b.toNatClampNeg < 6) (hx0 : ¬ x < 0) (hx : x.toNatClampNeg < 8) : evX 94 0 [(0, .ref c), (1, .int b), (2, .int x), (3, .int y)] [] h (evGM m c 9 u) = some (none, h, evGM m c 9 (ms u 1 (10 + 8 * b.toNatClampNeg + x.toNatClampNeg) (u 1 (10 + 8 * b.toNatClampNeg + x.toNatClampNeg) + y))) := by
  obtain ⟨w0, w1, w2, w3, w4, w5, w6, w7, w8, w9, w10, w11, w12, w13, w14, w15, w16, w17, w18, w19, w20, w21, w22, w23, w24⟩ := id hu
  have hi := ix_g (a := 10) (k := 8) hb0 hx0 (by omega)
  have i1 : ¬ 10 + 8 * b + x < 0 := hi.1
  have i2 : (10 + 8 * b + x).toNatClampNeg = 10 + 8 * b.toNatClampNeg + x.toNatClampNeg := hi.2
  have i3 : 10 + 8 * b.toNatClampNeg + x.toNatClampNeg < 328 := by omega
  simp only [x94_0, x94_1, x94_4, x94_6, x94_8, x94_9, x94_10, x94_11, x94_12, x94_13, x94_14, x94_15, x94_16, x94_17, x94_18, evI_i, evJl_i, evJf_i, evJd_i, evA_r, evA_n, evA_q, evLk_c, evS1_d, evS2_d, evFl_n, evFl_c, evGl_n, evGl_c, evIn_n, evIn_c, evCat_i, evCat_l, evCat_f, evCat_d, evCat_r, evCat_z, evCat_q, evBd_some, evTl_s, evTl_n, va_rf_s, va_rf_n, and_true, true_and, and_false, false_and, if_true, if_false, not_true_eq_false, not_false_eq_true, reduceCtorEq, ↓reduceIte, Nat.reduceAdd, Nat.reduceEqDiff, Nat.reduceLT, Nat.reduceLeDiff, Nat.reduceSub, Nat.zero_ne_one, Nat.one_ne_zero, w0, w1, w2, w3, w4, w5, w6, w7, w8, w9, w10, w11, w12, w13, w14, w15, w16, w17, w18, w19, w20, w21, w22, w23, w24, evGM_get, evGM_set, evGM_get0, evGM_set0, i1, i2, i3]
theorem c_lotPart (hu : mOK h c) {b x : Int32} (hb0 : ¬ b < 0) (hb : b.toNatClampNeg < 8) (hx0 : ¬ x < 0) (hx : x.toNatClampNeg < 7) : evX 95 0 [(0, .ref c), (1, .int b), (2, .int x)] [] h (evGM m c 9 u) = some (some (.int (u 1 (58 + 7 * b.toNatClampNeg + x.toNatClampNeg))), h, evGM m c 9 u) := by
  obtain ⟨w0, w1, w2, w3, w4, w5, w6, w7, w8, w9, w10, w11, w12, w13, w14, w15, w16, w17, w18, w19, w20, w21, w22, w23, w24⟩ := id hu
  have hi := ix_g (a := 58) (k := 7) hb0 hx0 (by omega)
  have i1 : ¬ 58 + 7 * b + x < 0 := hi.1
  have i2 : (58 + 7 * b + x).toNatClampNeg = 58 + 7 * b.toNatClampNeg + x.toNatClampNeg := hi.2
  have i3 : 58 + 7 * b.toNatClampNeg + x.toNatClampNeg < 328 := by omega
  simp only [x95_0, x95_1, x95_4, x95_6, x95_8, x95_9, x95_10, x95_11, x95_12, x95_13, x95_14, evI_i, evJl_i, evJf_i, evJd_i, evA_r, evA_n, evA_q, evLk_c, evS1_d, evS2_d, evFl_n, evFl_c, evGl_n, evGl_c, evIn_n, evIn_c, evCat_i, evCat_l, evCat_f, evCat_d, evCat_r, evCat_z, evCat_q, evBd_some, evTl_s, evTl_n, va_rf_s, va_rf_n, and_true, true_and, and_false, false_and, if_true, if_false, not_true_eq_false, not_false_eq_true, reduceCtorEq, ↓reduceIte, Nat.reduceAdd, Nat.reduceEqDiff, Nat.reduceLT, Nat.reduceLeDiff, Nat.reduceSub, Nat.zero_ne_one, Nat.one_ne_zero, w0, w1, w2, w3, w4, w5, w6, w7, w8, w9, w10, w11, w12, w13, w14, w15, w16, w17, w18, w19, w20, w21, w22, w23, w24, evGM_get, evGM_set, evGM_get0, evGM_set0, i1, i2, i3]
theorem c_setLot (hu : mOK h c) {b x y : Int32} (hb0 : ¬ b < 0) (hb : b.toNatClampNeg < 8) (hx0 : ¬ x < 0) (hx : x.toNatClampNeg < 7) : evX 96 0 [(0, .ref c), (1, .int b), (2, .int x), (3, .int y)] [] h (evGM m c 9 u) = some (none, h, evGM m c 9 (ms u 1 (58 + 7 * b.toNatClampNeg + x.toNatClampNeg) y)) := by
  obtain ⟨w0, w1, w2, w3, w4, w5, w6, w7, w8, w9, w10, w11, w12, w13, w14, w15, w16, w17, w18, w19, w20, w21, w22, w23, w24⟩ := id hu
  have hi := ix_g (a := 58) (k := 7) hb0 hx0 (by omega)
  have i1 : ¬ 58 + 7 * b + x < 0 := hi.1
  have i2 : (58 + 7 * b + x).toNatClampNeg = 58 + 7 * b.toNatClampNeg + x.toNatClampNeg := hi.2
  have i3 : 58 + 7 * b.toNatClampNeg + x.toNatClampNeg < 328 := by omega
  simp only [x96_0, x96_1, x96_4, x96_6, x96_8, x96_9, x96_10, x96_11, x96_12, x96_13, x96_14, x96_15, evI_i, evJl_i, evJf_i, evJd_i, evA_r, evA_n, evA_q, evLk_c, evS1_d, evS2_d, evFl_n, evFl_c, evGl_n, evGl_c, evIn_n, evIn_c, evCat_i, evCat_l, evCat_f, evCat_d, evCat_r, evCat_z, evCat_q, evBd_some, evTl_s, evTl_n, va_rf_s, va_rf_n, and_true, true_and, and_false, false_and, if_true, if_false, not_true_eq_false, not_false_eq_true, reduceCtorEq, ↓reduceIte, Nat.reduceAdd, Nat.reduceEqDiff, Nat.reduceLT, Nat.reduceLeDiff, Nat.reduceSub, Nat.zero_ne_one, Nat.one_ne_zero, w0, w1, w2, w3, w4, w5, w6, w7, w8, w9, w10, w11, w12, w13, w14, w15, w16, w17, w18, w19, w20, w21, w22, w23, w24, evGM_get, evGM_set, evGM_get0, evGM_set0, i1, i2, i3]
/-- sums over the bidders -/
def mSum (r : Nat → Int32) (p : Nat) : Nat → Int32
  | 0 => 0
  | k + 1 => mSum r p k + r (10 + 8 * k + p)
theorem c_ofAll (hu : mOK h c) {n : Nat} (hn : n ≤ 6) (h5 : u 1 5 = nI n) {x : Int32} (hx0 : ¬ x < 0) (hx : x.toNatClampNeg < 8) : evX 97 0 [(0, .ref c), (1, .int x)] [] h (evGM m c 9 u) = some (some (.int (mSum (u 1) x.toNatClampNeg n)), h, evGM m c 9 u) := by
  obtain ⟨w0, w1, w2, w3, w4, w5, w6, w7, w8, w9, w10, w11, w12, w13, w14, w15, w16, w17, w18, w19, w20, w21, w22, w23, w24⟩ := id hu
  have st : evX 97 0 [(0, .ref c), (1, .int x)] [] h (evGM m c 9 u) = evX 97 4 [(0, .ref c), (1, .int x), (2, .int (mSum (u 1) x.toNatClampNeg 0)), (3, .int (nI 0))] [] h (evGM m c 9 u) := by
    simp only [x97_0, x97_1, x97_2, x97_3, evI_i, evJl_i, evJf_i, evJd_i, evA_r, evA_n, evA_q, evLk_c, evS1_d, evS2_d, evFl_n, evFl_c, evGl_n, evGl_c, evIn_n, evIn_c, evCat_i, evCat_l, evCat_f, evCat_d, evCat_r, evCat_z, evCat_q, evBd_some, evTl_s, evTl_n, va_rf_s, va_rf_n, and_true, true_and, and_false, false_and, if_true, if_false, not_true_eq_false, not_false_eq_true, reduceCtorEq, ↓reduceIte, Nat.reduceAdd, Nat.reduceEqDiff, Nat.reduceLT, Nat.reduceLeDiff, Nat.reduceSub, Nat.zero_ne_one, Nat.one_ne_zero]
    rfl
  have loop := loop_up (G := fun k => evX 97 4 [(0, .ref c), (1, .int x), (2, .int (mSum (u 1) x.toNatClampNeg k)), (3, .int (nI k))] [] h (evGM m c 9 u)) (n := n) (fun k hk => by
    have hlt : ¬ nI n ≤ nI k := nI_ge hk (by omega)
    have hs : nI k + 1 = nI (k + 1) := (nI_succ k).symm
    have h0 : ¬ nI k < 0 := nI_pos (by omega)
    have hc : (nI k).toNatClampNeg = k := nI_cl k (by omega)
    have hk6 : k < 6 := by omega
    show _ = evX 97 4 [(0, .ref c), (1, .int x), (2, .int (mSum (u 1) x.toNatClampNeg k + u 1 (10 + 8 * k + x.toNatClampNeg))), (3, .int (nI (k + 1)))] [] h (evGM m c 9 u)
    conv => lhs; rw [x97_4]
    simp only [x97_5, x97_6, x97_9, x97_10, x97_11, x97_14, x97_15, x97_16, x97_17, x97_18, x97_21, x97_22, x97_23, x97_26, evI_i, evJl_i, evJf_i, evJd_i, evA_r, evA_n, evA_q, evLk_c, evS1_d, evS2_d, evFl_n, evFl_c, evGl_n, evGl_c, evIn_n, evIn_c, evCat_i, evCat_l, evCat_f, evCat_d, evCat_r, evCat_z, evCat_q, evBd_some, evTl_s, evTl_n, va_rf_s, va_rf_n, and_true, true_and, and_false, false_and, if_true, if_false, not_true_eq_false, not_false_eq_true, reduceCtorEq, ↓reduceIte, Nat.reduceAdd, Nat.reduceEqDiff, Nat.reduceLT, Nat.reduceLeDiff, Nat.reduceSub, Nat.zero_ne_one, Nat.one_ne_zero, w0, w1, w2, w3, w4, w5, w6, w7, w8, w9, w10, w11, w12, w13, w14, w15, w16, w17, w18, w19, w20, w21, w22, w23, w24, evGM_get, evGM_set, evGM_get0, evGM_set0, lt5, lc5, h5, hlt, h0, hc, hk6, hx0, hx, c_bidderPart hu, hs, Option.toList, List.cons_append, List.nil_append])
  have hge : nI n ≤ nI n := Int32.le_refl _
  refine st.trans (loop.trans ?_)
  simp only [x97_4, x97_5, x97_6, x97_9, x97_10, x97_11, x97_14, x97_15, x97_16, x97_17, x97_18, x97_21, x97_22, x97_23, x97_26, x97_29, x97_30, evI_i, evJl_i, evJf_i, evJd_i, evA_r, evA_n, evA_q, evLk_c, evS1_d, evS2_d, evFl_n, evFl_c, evGl_n, evGl_c, evIn_n, evIn_c, evCat_i, evCat_l, evCat_f, evCat_d, evCat_r, evCat_z, evCat_q, evBd_some, evTl_s, evTl_n, va_rf_s, va_rf_n, and_true, true_and, and_false, false_and, if_true, if_false, not_true_eq_false, not_false_eq_true, reduceCtorEq, ↓reduceIte, Nat.reduceAdd, Nat.reduceEqDiff, Nat.reduceLT, Nat.reduceLeDiff, Nat.reduceSub, Nat.zero_ne_one, Nat.one_ne_zero, w0, w1, w2, w3, w4, w5, w6, w7, w8, w9, w10, w11, w12, w13, w14, w15, w16, w17, w18, w19, w20, w21, w22, w23, w24, evGM_get, evGM_set, evGM_get0, evGM_set0, lt5, lc5, h5, hge]
def mHow (r : Nat → Int32) (x : Int32) : Nat → Int32
  | 0 => 0
  | k + 1 => mHow r x k + (if r (58 + 7 * k + 1) = x then 1 else 0)
theorem c_withHow (hu : mOK h c) {n : Nat} (hn : n ≤ 8) (h6 : u 1 6 = nI n) (x : Int32) : evX 98 0 [(0, .ref c), (1, .int x)] [] h (evGM m c 9 u) = some (some (.int (mHow (u 1) x n)), h, evGM m c 9 u) := by
  obtain ⟨w0, w1, w2, w3, w4, w5, w6, w7, w8, w9, w10, w11, w12, w13, w14, w15, w16, w17, w18, w19, w20, w21, w22, w23, w24⟩ := id hu
  have st : evX 98 0 [(0, .ref c), (1, .int x)] [] h (evGM m c 9 u) = evX 98 4 [(0, .ref c), (1, .int x), (2, .int (mHow (u 1) x 0)), (3, .int (nI 0))] [] h (evGM m c 9 u) := by
    simp only [x98_0, x98_1, x98_2, x98_3, evI_i, evJl_i, evJf_i, evJd_i, evA_r, evA_n, evA_q, evLk_c, evS1_d, evS2_d, evFl_n, evFl_c, evGl_n, evGl_c, evIn_n, evIn_c, evCat_i, evCat_l, evCat_f, evCat_d, evCat_r, evCat_z, evCat_q, evBd_some, evTl_s, evTl_n, va_rf_s, va_rf_n, and_true, true_and, and_false, false_and, if_true, if_false, not_true_eq_false, not_false_eq_true, reduceCtorEq, ↓reduceIte, Nat.reduceAdd, Nat.reduceEqDiff, Nat.reduceLT, Nat.reduceLeDiff, Nat.reduceSub, Nat.zero_ne_one, Nat.one_ne_zero]
    rfl
  have loop := loop_up (G := fun k => evX 98 4 [(0, .ref c), (1, .int x), (2, .int (mHow (u 1) x k)), (3, .int (nI k))] [] h (evGM m c 9 u)) (n := n) (fun k hk => by
    have hlt : ¬ nI n ≤ nI k := nI_ge hk (by omega)
    have hs : nI k + 1 = nI (k + 1) := (nI_succ k).symm
    have h0 : ¬ nI k < 0 := nI_pos (by omega)
    have hc : (nI k).toNatClampNeg = k := nI_cl k (by omega)
    have hk8 : k < 8 := by omega
    show _ = evX 98 4 [(0, .ref c), (1, .int x), (2, .int (mHow (u 1) x k + (if u 1 (58 + 7 * k + 1) = x then 1 else 0))), (3, .int (nI (k + 1)))] [] h (evGM m c 9 u)
    conv => lhs; rw [x98_4]
    by_cases he : u 1 (58 + 7 * k + 1) = x
    · simp only [x98_5, x98_6, x98_9, x98_11, x98_12, x98_15, x98_16, x98_17, x98_18, x98_19, x98_22, x98_23, x98_26, x98_27, x98_30, x98_31, x98_32, x98_33, x98_36, evI_i, evJl_i, evJf_i, evJd_i, evA_r, evA_n, evA_q, evLk_c, evS1_d, evS2_d, evFl_n, evFl_c, evGl_n, evGl_c, evIn_n, evIn_c, evCat_i, evCat_l, evCat_f, evCat_d, evCat_r, evCat_z, evCat_q, evBd_some, evTl_s, evTl_n, va_rf_s, va_rf_n, and_true, true_and, and_false, false_and, if_true, if_false, not_true_eq_false, not_false_eq_true, reduceCtorEq, ↓reduceIte, Nat.reduceAdd, Nat.reduceEqDiff, Nat.reduceLT, Nat.reduceLeDiff, Nat.reduceSub, Nat.zero_ne_one, Nat.one_ne_zero, w0, w1, w2, w3, w4, w5, w6, w7, w8, w9, w10, w11, w12, w13, w14, w15, w16, w17, w18, w19, w20, w21, w22, w23, w24, evGM_get, evGM_set, evGM_get0, evGM_set0, lt6, lc6, lt1, lc1, h6, hlt, h0, hc, hk8, he, c_lotPart hu, hs, Option.toList, List.cons_append, List.nil_append]
    · simp only [x98_5, x98_6, x98_9, x98_11, x98_12, x98_15, x98_16, x98_17, x98_18, x98_19, x98_22, x98_23, x98_26, x98_27, x98_30, x98_31, x98_32, x98_33, x98_36, evI_i, evJl_i, evJf_i, evJd_i, evA_r, evA_n, evA_q, evLk_c, evS1_d, evS2_d, evFl_n, evFl_c, evGl_n, evGl_c, evIn_n, evIn_c, evCat_i, evCat_l, evCat_f, evCat_d, evCat_r, evCat_z, evCat_q, evBd_some, evTl_s, evTl_n, va_rf_s, va_rf_n, and_true, true_and, and_false, false_and, if_true, if_false, not_true_eq_false, not_false_eq_true, reduceCtorEq, ↓reduceIte, Nat.reduceAdd, Nat.reduceEqDiff, Nat.reduceLT, Nat.reduceLeDiff, Nat.reduceSub, Nat.zero_ne_one, Nat.one_ne_zero, w0, w1, w2, w3, w4, w5, w6, w7, w8, w9, w10, w11, w12, w13, w14, w15, w16, w17, w18, w19, w20, w21, w22, w23, w24, evGM_get, evGM_set, evGM_get0, evGM_set0, lt6, lc6, lt1, lc1, h6, hlt, h0, hc, hk8, he, c_lotPart hu, hs, Option.toList, List.cons_append, List.nil_append])
  have hge : nI n ≤ nI n := Int32.le_refl _
  refine st.trans (loop.trans ?_)
  simp only [x98_4, x98_5, x98_6, x98_9, x98_11, x98_12, x98_15, x98_16, x98_17, x98_18, x98_19, x98_22, x98_23, x98_26, x98_27, x98_30, x98_31, x98_32, x98_33, x98_36, x98_39, x98_40, evI_i, evJl_i, evJf_i, evJd_i, evA_r, evA_n, evA_q, evLk_c, evS1_d, evS2_d, evFl_n, evFl_c, evGl_n, evGl_c, evIn_n, evIn_c, evCat_i, evCat_l, evCat_f, evCat_d, evCat_r, evCat_z, evCat_q, evBd_some, evTl_s, evTl_n, va_rf_s, va_rf_n, and_true, true_and, and_false, false_and, if_true, if_false, not_true_eq_false, not_false_eq_true, reduceCtorEq, ↓reduceIte, Nat.reduceAdd, Nat.reduceEqDiff, Nat.reduceLT, Nat.reduceLeDiff, Nat.reduceSub, Nat.zero_ne_one, Nat.one_ne_zero, w0, w1, w2, w3, w4, w5, w6, w7, w8, w9, w10, w11, w12, w13, w14, w15, w16, w17, w18, w19, w20, w21, w22, w23, w24, evGM_get, evGM_set, evGM_get0, evGM_set0, lt6, lc6, h6, hge]
end MO
