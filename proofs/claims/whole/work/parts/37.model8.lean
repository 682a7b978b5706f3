/-! the model: prices and ends -/
def mprS (r : Nat → Int32) (w : Int32) : Nat → Int32
  | 0 => 0
  | k + 1 => if ¬ nI k = w ∧ mprS r w k < r (114 + 2 * k) then r (114 + 2 * k) else mprS r w k
def mprV (r : Nat → Int32) (l n : Nat) : Int32 := if r 3 = 0 then r (58 + 7 * l + 5) else if mprS r (r (58 + 7 * l + 6)) n + r 1 < r (58 + 7 * l + 5) then mprS r (r (58 + 7 * l + 6)) n + r 1 else r (58 + 7 * l + 5)
def adU (u : Nat → Nat → Int32) (b p : Nat) (x : Int32) : Nat → Nat → Int32 := ms u 1 (10 + 8 * b + p) (u 1 (10 + 8 * b + p) + x)
def enS (u : Nat → Nat → Int32) (l b : Nat) (x : Int32) : Nat → Nat → Int32 := ms (ms (ms (ms u 1 7 (-6)) 1 (58 + 7 * l + 1) 2) 1 (58 + 7 * l + 2) (nI b)) 1 (58 + 7 * l + 3) x
def enA (v : Nat → Nat → Int32) (l b : Nat) (x : Int32) : Nat → Nat → Int32 := adU (adU (adU v b 0 (-x)) b 3 x) b 4 (adU (adU v b 0 (-x)) b 3 x 1 (58 + 7 * l + 0))
def enB (v : Nat → Nat → Int32) (l b : Nat) : Nat → Nat → Int32 := ms v 1 (10 + 8 * b + 2) (v 1 (10 + 8 * b + 2) ||| 1 <<< (nI l &&& 31))
def enU (u : Nat → Nat → Int32) (l n : Nat) : Nat → Nat → Int32 := if u 1 (58 + 7 * l + 6) = -6 then ms (ms u 1 7 (-6)) 1 (58 + 7 * l + 1) 3 else enB (enA (enS u l (u 1 (58 + 7 * l + 6)).toNatClampNeg (mprV (ms u 1 7 (-6) 1) l n)) l (u 1 (58 + 7 * l + 6)).toNatClampNeg (mprV (ms u 1 7 (-6) 1) l n)) l (u 1 (58 + 7 * l + 6)).toNatClampNeg
section MO
variable {h : evH} {m : evM} {c : Nat} {u : Nat → Nat → Int32}
set_option maxHeartbeats 1000000 in
theorem c_priceOf (hu : mOK h c) {n l : Nat} (hn : n ≤ 6) (hl : l < 8) (h5 : u 1 5 = nI n) : evX 109 0 [(0, .ref c), (1, .int (nI l))] [] h (evGM m c 9 u) = some (some (.int (mprV (u 1) l n)), h, evGM m c 9 u) := by
  obtain ⟨w0, w1, w2, w3, w4, w5, w6, w7, w8, w9, w10, w11, w12, w13, w14, w15, w16, w17, w18, w19, w20, w21, w22, w23, w24⟩ := id hu
  have l0 : ¬ nI l < 0 := nI_pos (by omega)
  have l1 : (nI l).toNatClampNeg = l := nI_cl l (by omega)
  have L5 : evX 95 0 [(0, .ref c), (1, .int (nI l)), (2, .int 5)] [] h (evGM m c 9 u) = some (some (.int (u 1 (58 + 7 * l + 5))), h, evGM m c 9 u) := by
    have := c_lotPart (m := m) (u := u) hu (b := nI l) (x := 5) l0 (by rw [l1]; exact hl) lt5 (by decide)
    rwa [l1] at this
  have L6 : evX 95 0 [(0, .ref c), (1, .int (nI l)), (2, .int 6)] [] h (evGM m c 9 u) = some (some (.int (u 1 (58 + 7 * l + 6))), h, evGM m c 9 u) := by
    have := c_lotPart (m := m) (u := u) hu (b := nI l) (x := 6) l0 (by rw [l1]; exact hl) lt6 (by decide)
    rwa [l1] at this
  unfold mprV
  generalize u 1 (58 + 7 * l + 6) = w at L6
  generalize u 1 (58 + 7 * l + 5) = y at L5
  by_cases h3 : u 1 3 = 0
  · rw [if_pos h3]
    simp only [x109_0, x109_1, x109_2, x109_3, x109_6, x109_7, x109_8, x109_11, x109_12, x109_13, x109_16, x109_17, evI_i, evJl_i, evJf_i, evJd_i, evA_r, evA_n, evA_q, evLk_c, evS1_d, evS2_d, evFl_n, evFl_c, evGl_n, evGl_c, evIn_n, evIn_c, evCat_i, evCat_l, evCat_f, evCat_d, evCat_r, evCat_z, evCat_q, evBd_some, evTl_s, evTl_n, va_rf_s, va_rf_n, and_true, true_and, and_false, false_and, if_true, if_false, not_true_eq_false, not_false_eq_true, reduceCtorEq, ↓reduceIte, Nat.reduceAdd, Nat.reduceEqDiff, Nat.reduceLT, Nat.reduceLeDiff, Nat.reduceSub, Nat.zero_ne_one, Nat.one_ne_zero, w0, w1, w2, w3, w4, w5, w6, w7, w8, w9, w10, w11, w12, w13, w14, w15, w16, w17, w18, w19, w20, w21, w22, w23, w24, evGM_get, evGM_set, evGM_get0, evGM_set0, L5, lt3, lc3, h3, Option.toList, List.cons_append, List.nil_append]
  · rw [if_neg h3]
    have st : evX 109 0 [(0, .ref c), (1, .int (nI l))] [] h (evGM m c 9 u) = evX 109 23 [(0, .ref c), (1, .int (nI l)), (2, .int y), (3, .int (mprS (u 1) w 0)), (4, .int (nI 0))] [] h (evGM m c 9 u) := by
      simp only [x109_0, x109_1, x109_2, x109_3, x109_6, x109_7, x109_8, x109_11, x109_12, x109_13, x109_16, x109_17, x109_18, x109_19, x109_20, x109_21, evI_i, evJl_i, evJf_i, evJd_i, evA_r, evA_n, evA_q, evLk_c, evS1_d, evS2_d, evFl_n, evFl_c, evGl_n, evGl_c, evIn_n, evIn_c, evCat_i, evCat_l, evCat_f, evCat_d, evCat_r, evCat_z, evCat_q, evBd_some, evTl_s, evTl_n, va_rf_s, va_rf_n, and_true, true_and, and_false, false_and, if_true, if_false, not_true_eq_false, not_false_eq_true, reduceCtorEq, ↓reduceIte, Nat.reduceAdd, Nat.reduceEqDiff, Nat.reduceLT, Nat.reduceLeDiff, Nat.reduceSub, Nat.zero_ne_one, Nat.one_ne_zero, w0, w1, w2, w3, w4, w5, w6, w7, w8, w9, w10, w11, w12, w13, w14, w15, w16, w17, w18, w19, w20, w21, w22, w23, w24, evGM_get, evGM_set, evGM_get0, evGM_set0, L5, lt3, lc3, h3, Option.toList, List.cons_append, List.nil_append]
      rfl
    have loop := loop_up (G := fun k => evX 109 23 [(0, .ref c), (1, .int (nI l)), (2, .int y), (3, .int (mprS (u 1) w k)), (4, .int (nI k))] [] h (evGM m c 9 u)) (n := n) (fun k hk => by
      have e0 : ¬ nI n ≤ nI k := nlt hk (by omega)
      have hs : nI k + 1 = nI (k + 1) := (nI_succ k).symm
      have i1 : (114 : Int32) + 2 * nI k = nI (114 + 2 * k) := by
        show nI 114 + nI 2 * nI k = _
        rw [pk_mul, nI_add2]
      have i3 : ¬ nI (114 + 2 * k) < 0 := nI_pos (by omega)
      have i5 : (nI (114 + 2 * k)).toNatClampNeg = 114 + 2 * k := nI_cl _ (by omega)
      have i7 : 114 + 2 * k < 328 := by omega
      show _ = evX 109 23 [(0, .ref c), (1, .int (nI l)), (2, .int y), (3, .int (if ¬ nI k = w ∧ mprS (u 1) w k < u 1 (114 + 2 * k) then u 1 (114 + 2 * k) else mprS (u 1) w k)), (4, .int (nI (k + 1)))] [] h (evGM m c 9 u)
      conv => lhs; rw [x109_23]
      by_cases hw : nI k = w
      · simp only [x109_25, x109_26, x109_29, x109_30, x109_31, x109_34, x109_36, x109_37, x109_38, x109_40, x109_43, x109_46, x109_47, x109_50, x109_52, x109_53, x109_55, x109_56, x109_57, x109_58, x109_59, x109_62, x109_63, x109_66, x109_68, x109_69, x109_71, x109_72, x109_73, x109_74, x109_77, x109_78, x109_79, x109_82, evI_i, evJl_i, evJf_i, evJd_i, evA_r, evA_n, evA_q, evLk_c, evS1_d, evS2_d, evFl_n, evFl_c, evGl_n, evGl_c, evIn_n, evIn_c, evCat_i, evCat_l, evCat_f, evCat_d, evCat_r, evCat_z, evCat_q, evBd_some, evTl_s, evTl_n, va_rf_s, va_rf_n, and_true, true_and, and_false, false_and, if_true, if_false, not_true_eq_false, not_false_eq_true, reduceCtorEq, ↓reduceIte, Nat.reduceAdd, Nat.reduceEqDiff, Nat.reduceLT, Nat.reduceLeDiff, Nat.reduceSub, Nat.zero_ne_one, Nat.one_ne_zero, w0, w1, w2, w3, w4, w5, w6, w7, w8, w9, w10, w11, w12, w13, w14, w15, w16, w17, w18, w19, w20, w21, w22, w23, w24, evGM_get, evGM_set, evGM_get0, evGM_set0, lt5, lc5, h5, L6, e0, hs, i1, i3, i5, i7, hw, Option.toList, List.cons_append, List.nil_append]
        simp only [← hw, hs, e0, ↓reduceIte]
      · by_cases hq : mprS (u 1) w k < u 1 (114 + 2 * k)
        · have hq' : ¬ u 1 (114 + 2 * k) ≤ mprS (u 1) w k := fun q => i32_ff q hq
          simp only [x109_25, x109_26, x109_29, x109_30, x109_31, x109_34, x109_36, x109_37, x109_38, x109_40, x109_43, x109_46, x109_47, x109_50, x109_52, x109_53, x109_55, x109_56, x109_57, x109_58, x109_59, x109_62, x109_63, x109_66, x109_68, x109_69, x109_71, x109_72, x109_73, x109_74, x109_77, x109_78, x109_79, x109_82, evI_i, evJl_i, evJf_i, evJd_i, evA_r, evA_n, evA_q, evLk_c, evS1_d, evS2_d, evFl_n, evFl_c, evGl_n, evGl_c, evIn_n, evIn_c, evCat_i, evCat_l, evCat_f, evCat_d, evCat_r, evCat_z, evCat_q, evBd_some, evTl_s, evTl_n, va_rf_s, va_rf_n, and_true, true_and, and_false, false_and, if_true, if_false, not_true_eq_false, not_false_eq_true, reduceCtorEq, ↓reduceIte, Nat.reduceAdd, Nat.reduceEqDiff, Nat.reduceLT, Nat.reduceLeDiff, Nat.reduceSub, Nat.zero_ne_one, Nat.one_ne_zero, w0, w1, w2, w3, w4, w5, w6, w7, w8, w9, w10, w11, w12, w13, w14, w15, w16, w17, w18, w19, w20, w21, w22, w23, w24, evGM_get, evGM_set, evGM_get0, evGM_set0, lt5, lc5, h5, L6, e0, hs, i1, i3, i5, i7, hw, hq, hq', Option.toList, List.cons_append, List.nil_append]
        · have hq' : u 1 (114 + 2 * k) ≤ mprS (u 1) w k := Int32.not_lt.mp hq
          simp only [x109_25, x109_26, x109_29, x109_30, x109_31, x109_34, x109_36, x109_37, x109_38, x109_40, x109_43, x109_46, x109_47, x109_50, x109_52, x109_53, x109_55, x109_56, x109_57, x109_58, x109_59, x109_62, x109_63, x109_66, x109_68, x109_69, x109_71, x109_72, x109_73, x109_74, x109_77, x109_78, x109_79, x109_82, evI_i, evJl_i, evJf_i, evJd_i, evA_r, evA_n, evA_q, evLk_c, evS1_d, evS2_d, evFl_n, evFl_c, evGl_n, evGl_c, evIn_n, evIn_c, evCat_i, evCat_l, evCat_f, evCat_d, evCat_r, evCat_z, evCat_q, evBd_some, evTl_s, evTl_n, va_rf_s, va_rf_n, and_true, true_and, and_false, false_and, if_true, if_false, not_true_eq_false, not_false_eq_true, reduceCtorEq, ↓reduceIte, Nat.reduceAdd, Nat.reduceEqDiff, Nat.reduceLT, Nat.reduceLeDiff, Nat.reduceSub, Nat.zero_ne_one, Nat.one_ne_zero, w0, w1, w2, w3, w4, w5, w6, w7, w8, w9, w10, w11, w12, w13, w14, w15, w16, w17, w18, w19, w20, w21, w22, w23, w24, evGM_get, evGM_set, evGM_get0, evGM_set0, lt5, lc5, h5, L6, e0, hs, i1, i3, i5, i7, hw, hq, hq', Option.toList, List.cons_append, List.nil_append])
    have hge : nI n ≤ nI n := Int32.le_refl _
    refine st.trans (loop.trans ?_)
    by_cases hq : mprS (u 1) w n + u 1 1 < y
    · have hq' : ¬ y ≤ mprS (u 1) w n + u 1 1 := fun q => i32_ff q hq
      simp only [x109_23, x109_25, x109_26, x109_29, x109_30, x109_31, x109_85, x109_86, x109_87, x109_90, x109_91, x109_92, x109_93, x109_94, x109_97, x109_98, x109_99, x109_102, x109_103, x109_104, x109_105, x109_108, x109_109, evI_i, evJl_i, evJf_i, evJd_i, evA_r, evA_n, evA_q, evLk_c, evS1_d, evS2_d, evFl_n, evFl_c, evGl_n, evGl_c, evIn_n, evIn_c, evCat_i, evCat_l, evCat_f, evCat_d, evCat_r, evCat_z, evCat_q, evBd_some, evTl_s, evTl_n, va_rf_s, va_rf_n, and_true, true_and, and_false, false_and, if_true, if_false, not_true_eq_false, not_false_eq_true, reduceCtorEq, ↓reduceIte, Nat.reduceAdd, Nat.reduceEqDiff, Nat.reduceLT, Nat.reduceLeDiff, Nat.reduceSub, Nat.zero_ne_one, Nat.one_ne_zero, w0, w1, w2, w3, w4, w5, w6, w7, w8, w9, w10, w11, w12, w13, w14, w15, w16, w17, w18, w19, w20, w21, w22, w23, w24, evGM_get, evGM_set, evGM_get0, evGM_set0, lt5, lc5, lt1, lc1, h5, hge, hq, hq']
    · have hq' : y ≤ mprS (u 1) w n + u 1 1 := Int32.not_lt.mp hq
      simp only [x109_23, x109_25, x109_26, x109_29, x109_30, x109_31, x109_85, x109_86, x109_87, x109_90, x109_91, x109_92, x109_93, x109_94, x109_97, x109_98, x109_99, x109_102, x109_103, x109_104, x109_105, x109_108, x109_109, evI_i, evJl_i, evJf_i, evJd_i, evA_r, evA_n, evA_q, evLk_c, evS1_d, evS2_d, evFl_n, evFl_c, evGl_n, evGl_c, evIn_n, evIn_c, evCat_i, evCat_l, evCat_f, evCat_d, evCat_r, evCat_z, evCat_q, evBd_some, evTl_s, evTl_n, va_rf_s, va_rf_n, and_true, true_and, and_false, false_and, if_true, if_false, not_true_eq_false, not_false_eq_true, reduceCtorEq, ↓reduceIte, Nat.reduceAdd, Nat.reduceEqDiff, Nat.reduceLT, Nat.reduceLeDiff, Nat.reduceSub, Nat.zero_ne_one, Nat.one_ne_zero, w0, w1, w2, w3, w4, w5, w6, w7, w8, w9, w10, w11, w12, w13, w14, w15, w16, w17, w18, w19, w20, w21, w22, w23, w24, evGM_get, evGM_set, evGM_get0, evGM_set0, lt5, lc5, lt1, lc1, h5, hge, hq, hq']
set_option maxHeartbeats 1000000 in
theorem c_ends (hu : mOK h c) {n l : Nat} (hn : n ≤ 6) (hl : l < 8) (h5 : u 1 5 = nI n) (hw : u 1 (58 + 7 * l + 6) = -6 ∨ ∃ b, b < 6 ∧ u 1 (58 + 7 * l + 6) = nI b) : evX 110 0 [(0, .ref c), (1, .int (nI l))] [] h (evGM m c 9 u) = some (none, h, evGM m c 9 (enU u l n)) := by
  obtain ⟨w0, w1, w2, w3, w4, w5, w6, w7, w8, w9, w10, w11, w12, w13, w14, w15, w16, w17, w18, w19, w20, w21, w22, w23, w24⟩ := id hu
  have l0 : ¬ nI l < 0 := nI_pos (by omega)
  have l1 : (nI l).toNatClampNeg = l := nI_cl l (by omega)
  have LP : ∀ (v : Nat → Nat → Int32) (x : Int32), ¬ x < 0 → x.toNatClampNeg < 7 → evX 95 0 [(0, .ref c), (1, .int (nI l)), (2, .int x)] [] h (evGM m c 9 v) = some (some (.int (v 1 (58 + 7 * l + x.toNatClampNeg))), h, evGM m c 9 v) := fun v x h1 h2 => by
    have := c_lotPart (m := m) (u := v) hu (b := nI l) l0 (by rw [l1]; exact hl) h1 h2
    rwa [l1] at this
  have SL : ∀ (v : Nat → Nat → Int32) (x y : Int32), ¬ x < 0 → x.toNatClampNeg < 7 → evX 96 0 [(0, .ref c), (1, .int (nI l)), (2, .int x), (3, .int y)] [] h (evGM m c 9 v) = some (none, h, evGM m c 9 (ms v 1 (58 + 7 * l + x.toNatClampNeg) y)) := fun v x y h1 h2 => by
    have := c_setLot (m := m) (u := v) hu (b := nI l) (y := y) l0 (by rw [l1]; exact hl) h1 h2
    rwa [l1] at this
  have w6 : ms u 1 7 (-6) 1 (58 + 7 * l + 6) = u 1 (58 + 7 * l + 6) := by rw [ms_at, if_neg (by omega)]
  have P := c_priceOf (m := m) (u := ms u 1 7 (-6)) hu hn hl (by rw [ms_at, if_neg (by omega), h5])
  unfold enU
  rcases hw with hw | ⟨b, hb, hw⟩
  · rw [if_pos hw]
    simp only [x110_0, x110_1, x110_4, x110_6, x110_8, x110_9, x110_10, x110_11, x110_13, x110_16, x110_17, x110_18, x110_20, x110_23, x110_24, x110_25, x110_26, x110_27, x110_30, x110_103, evI_i, evJl_i, evJf_i, evJd_i, evA_r, evA_n, evA_q, evLk_c, evS1_d, evS2_d, evFl_n, evFl_c, evGl_n, evGl_c, evIn_n, evIn_c, evCat_i, evCat_l, evCat_f, evCat_d, evCat_r, evCat_z, evCat_q, evBd_some, evTl_s, evTl_n, va_rf_s, va_rf_n, and_true, true_and, and_false, false_and, if_true, if_false, not_true_eq_false, not_false_eq_true, reduceCtorEq, ↓reduceIte, Nat.reduceAdd, Nat.reduceEqDiff, Nat.reduceLT, Nat.reduceLeDiff, Nat.reduceSub, Nat.zero_ne_one, Nat.one_ne_zero, w0, w1, w2, w3, w4, w5, w6, w7, w8, w9, w10, w11, w12, w13, w14, w15, w16, w17, w18, w19, w20, w21, w22, w23, w24, evGM_get, evGM_set, evGM_get0, evGM_set0, lt7, lc7, lt6, lc6, lt1, lc1, LP, SL, w6, hw, Option.toList, List.cons_append, List.nil_append]
  · have b0 : ¬ nI b < 0 := nI_pos (by omega)
    have b1 : (nI b).toNatClampNeg = b := nI_cl b (by omega)
    have bn : ¬ nI b = -6 := by
      intro q
      rw [q] at b0
      exact absurd b0 (by decide)
    rw [hw, if_neg bn, b1]
    have AD : ∀ (v : Nat → Nat → Int32) (x y : Int32), ¬ x < 0 → x.toNatClampNeg < 8 → evX 94 0 [(0, .ref c), (1, .int (nI b)), (2, .int x), (3, .int y)] [] h (evGM m c 9 v) = some (none, h, evGM m c 9 (adU v b x.toNatClampNeg y)) := fun v x y h1 h2 => by
      have := c_adds (m := m) (u := v) hu (b := nI b) (y := y) b0 (by rw [b1]; exact hb) h1 h2
      rw [b1] at this
      exact this
    have BP : ∀ (v : Nat → Nat → Int32) (x : Int32), ¬ x < 0 → x.toNatClampNeg < 8 → evX 92 0 [(0, .ref c), (1, .int (nI b)), (2, .int x)] [] h (evGM m c 9 v) = some (some (.int (v 1 (10 + 8 * b + x.toNatClampNeg))), h, evGM m c 9 v) := fun v x h1 h2 => by
      have := c_bidderPart (m := m) (u := v) hu (b := nI b) b0 (by rw [b1]; exact hb) h1 h2
      rwa [b1] at this
    have SB : ∀ (v : Nat → Nat → Int32) (x y : Int32), ¬ x < 0 → x.toNatClampNeg < 8 → evX 93 0 [(0, .ref c), (1, .int (nI b)), (2, .int x), (3, .int y)] [] h (evGM m c 9 v) = some (none, h, evGM m c 9 (ms v 1 (10 + 8 * b + x.toNatClampNeg) y)) := fun v x y h1 h2 => by
      have := c_setBidder (m := m) (u := v) hu (b := nI b) (y := y) b0 (by rw [b1]; exact hb) h1 h2
      rwa [b1] at this
    generalize mprV (ms u 1 7 (-6) 1) l n = x at P
    simp only [x110_0, x110_1, x110_4, x110_6, x110_8, x110_9, x110_10, x110_11, x110_13, x110_16, x110_17, x110_18, x110_20, x110_23, x110_24, x110_25, x110_26, x110_27, x110_30, x110_33, x110_34, x110_35, x110_38, x110_39, x110_40, x110_41, x110_42, x110_43, x110_46, x110_47, x110_48, x110_49, x110_50, x110_53, x110_54, x110_55, x110_56, x110_57, x110_60, x110_61, x110_62, x110_63, x110_64, x110_65, x110_68, x110_69, x110_70, x110_71, x110_72, x110_75, x110_76, x110_77, x110_78, x110_79, x110_80, x110_81, x110_84, x110_87, x110_88, x110_89, x110_90, x110_91, x110_92, x110_93, x110_96, x110_97, x110_98, x110_99, x110_100, x110_103, evI_i, evJl_i, evJf_i, evJd_i, evA_r, evA_n, evA_q, evLk_c, evS1_d, evS2_d, evFl_n, evFl_c, evGl_n, evGl_c, evIn_n, evIn_c, evCat_i, evCat_l, evCat_f, evCat_d, evCat_r, evCat_z, evCat_q, evBd_some, evTl_s, evTl_n, va_rf_s, va_rf_n, and_true, true_and, and_false, false_and, if_true, if_false, not_true_eq_false, not_false_eq_true, reduceCtorEq, ↓reduceIte, Nat.reduceAdd, Nat.reduceEqDiff, Nat.reduceLT, Nat.reduceLeDiff, Nat.reduceSub, Nat.zero_ne_one, Nat.one_ne_zero, w0, w1, w2, w3, w4, w5, w6, w7, w8, w9, w10, w11, w12, w13, w14, w15, w16, w17, w18, w19, w20, w21, w22, w23, w24, evGM_get, evGM_set, evGM_get0, evGM_set0, lt7, lc7, lt6, lc6, lt1, lc1, lt2, lc2, lt3, lc3, lt0, lc0, lt4, lc4, LP, SL, AD, BP, SB, P, w6, hw, bn, Option.toList, List.cons_append, List.nil_append]
    rfl
end MO
