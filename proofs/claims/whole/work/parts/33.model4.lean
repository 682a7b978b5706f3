/-! the model: bids, the first lot that waits, a beginning, what is kept -/
theorem lt114 : ¬ (114 : Int32) < 0 := by decide
theorem lc114 : (114 : Int32).toNatClampNeg = 114 := by decide
theorem lt126 : ¬ (126 : Int32) < 0 := by decide
theorem lc126 : (126 : Int32).toNatClampNeg = 126 := by decide
theorem lt168 : ¬ (168 : Int32) < 0 := by decide
theorem lc168 : (168 : Int32).toNatClampNeg = 168 := by decide
theorem lt169 : ¬ (169 : Int32) < 0 := by decide
theorem lc169 : (169 : Int32).toNatClampNeg = 169 := by decide
theorem lt170 : ¬ (170 : Int32) < 0 := by decide
theorem lc170 : (170 : Int32).toNatClampNeg = 170 := by decide
theorem lt171 : ¬ (171 : Int32) < 0 := by decide
theorem lc171 : (171 : Int32).toNatClampNeg = 171 := by decide
theorem ms_1 (u : Nat → Nat → Int32) (o i j : Nat) (x : Int32) : ms u o i x 1 j = if 1 = o ∧ j = i then x else u 1 j := id rfl
/-- the lowest lot that waits, of those from n - d on -/
def fwF (r : Nat → Int32) (n : Nat) : Nat → Int32
  | 0 => -6
  | d + 1 => if r (58 + 7 * (n - (d + 1)) + 1) = 0 then nI (n - (d + 1)) else fwF r n d
/-- the row behind 113 is cleared up to k -/
def bgV (u : Nat → Nat → Int32) (k : Nat) : Nat → Nat → Int32 := fun o i => if o = 1 ∧ 114 ≤ i ∧ i < k then 0 else u o i
def bgU (u : Nat → Nat → Int32) (l : Nat) : Nat → Nat → Int32 := bgV (ms (ms (ms (ms u 1 7 (nI l)) 1 8 0) 1 9 0) 1 (58 + 7 * l + 1) 1) 328
def kbU (u : Nat → Nat → Int32) (w k : Nat) (x z : Int32) : Nat → Nat → Int32 := if u 1 (w + 2 * k) < x then ms (ms u 1 (w + 2 * k) x) 1 (w + 2 * k + 1) z else u
/-- the notes behind place j are moved by one -/
def kmV (u : Nat → Nat → Int32) (j : Nat) : Nat → Nat → Int32 := fun o i => if o = 1 ∧ 168 + j < i ∧ i ≤ 327 then u 1 (i - 4) else u o i
def kmU (u : Nat → Nat → Int32) (b x s : Int32) : Nat → Nat → Int32 := ms (ms (ms (ms (ms (kmV u 3) 1 168 b) 1 169 x) 1 170 (u 1 4)) 1 171 (if s = 0 then 0 else 1)) 1 9 (u 1 9 + (if u 1 9 < 40 then 1 else 0))
section MO
variable {h : evH} {m : evM} {c : Nat} {u : Nat → Nat → Int32}
theorem c_bidOf (hu : mOK h c) {n lag l b : Nat} (hn : n ≤ 6) (hb : b < n) (hg : lag ≤ 5) (hl : l < 8) (h5 : u 1 5 = nI n) (h0 : u 1 0 = nI lag) (h7 : u 1 7 = nI l) (t : evT) : evX 103 0 [(0, .ref c), (1, .int (nI b))] [] h (evGM m c 9 (setB u t)) = some (some (.int (bidV (u 1) lag n l b)), h, evGM m c 9 (setB u (bidT (u 1) lag n b t))) := by
  obtain ⟨w0, w1, w2, w3, w4, w5, w6, w7, w8, w9, w10, w11, w12, w13, w14, w15, w16, w17, w18, w19, w20, w21, w22, w23, w24⟩ := id hu
  have b0 : ¬ nI b < 0 := nI_pos (by omega)
  have b1 : (nI b).toNatClampNeg = b := nI_cl b (by omega)
  have hb6 : b < 6 := by omega
  have B : evX 101 0 [(0, .ref c), (1, .int (nI b))] [] h (evGM m c 9 (setB u t)) = some (none, h, evGM m c 9 (setB u (allT (u 1) lag b n))) := by
    have := c_believes (m := m) (u := setB u t) hu hn hb hg h5 h0
    rwa [setB_2] at this
  have L : ∀ t', evX 102 0 [(0, .ref c), (1, .int (nI b))] [] h (evGM m c 9 (setB u t')) = some (some (.int (limT (u 1) l b)), h, evGM m c 9 (setB u t')) := fun t' => c_limitOf (u := setB u t') hu hb6 hl h7
  have A : ∀ (t' : evT) (x : Int32), ¬ x < 0 → x.toNatClampNeg < 8 → evX 92 0 [(0, .ref c), (1, .int (nI b)), (2, .int x)] [] h (evGM m c 9 (setB u t')) = some (some (.int (u 1 (10 + 8 * b + x.toNatClampNeg))), h, evGM m c 9 (setB u t')) := fun t' x h1 h2 => by
    have := c_bidderPart (m := m) (u := setB u t') hu (b := nI b) b0 (by rw [b1]; exact hb6) h1 h2
    rwa [b1] at this
  have st : ¬ toldB (u 1) b = true → evX 103 0 [(0, .ref c), (1, .int (nI b))] [] h (evGM m c 9 (setB u t)) = evX 103 24 [(0, .ref c), (1, .int (nI b)), (2, .int (u 1 (10 + 8 * b + 7)))] [] h (evGM m c 9 (setB u t)) := by
    intro hT
    by_cases t1 : u 1 (10 + 8 * b + 7) ≤ 0
    · simp only [x103_0, x103_1, x103_2, x103_4, x103_7, x103_8, x103_9, x103_12, x103_13, x103_14, x103_15, x103_16, x103_19, x103_22, x103_23, evI_i, evJl_i, evJf_i, evJd_i, evA_r, evA_n, evA_q, evLk_c, evS1_d, evS2_d, evFl_n, evFl_c, evGl_n, evGl_c, evIn_n, evIn_c, evCat_i, evCat_l, evCat_f, evCat_d, evCat_r, evCat_z, evCat_q, evBd_some, evTl_s, evTl_n, va_rf_s, va_rf_n, and_true, true_and, and_false, false_and, if_true, if_false, not_true_eq_false, not_false_eq_true, reduceCtorEq, ↓reduceIte, Nat.reduceAdd, Nat.reduceEqDiff, Nat.reduceLT, Nat.reduceLeDiff, Nat.reduceSub, Nat.zero_ne_one, Nat.one_ne_zero, w0, w1, w2, w3, w4, w5, w6, w7, w8, w9, w10, w11, w12, w13, w14, w15, w16, w17, w18, w19, w20, w21, w22, w23, w24, evGM_get, evGM_set, evGM_get0, evGM_set0, A, lt7, lc7, lt0, lc0, t1, Option.toList, List.cons_append, List.nil_append]
    · by_cases t2 : u 1 (10 + 8 * b + 0) < u 1 (10 + 8 * b + 7)
      · simp only [x103_0, x103_1, x103_2, x103_4, x103_7, x103_8, x103_9, x103_12, x103_13, x103_14, x103_15, x103_16, x103_19, x103_22, x103_23, evI_i, evJl_i, evJf_i, evJd_i, evA_r, evA_n, evA_q, evLk_c, evS1_d, evS2_d, evFl_n, evFl_c, evGl_n, evGl_c, evIn_n, evIn_c, evCat_i, evCat_l, evCat_f, evCat_d, evCat_r, evCat_z, evCat_q, evBd_some, evTl_s, evTl_n, va_rf_s, va_rf_n, and_true, true_and, and_false, false_and, if_true, if_false, not_true_eq_false, not_false_eq_true, reduceCtorEq, ↓reduceIte, Nat.reduceAdd, Nat.reduceEqDiff, Nat.reduceLT, Nat.reduceLeDiff, Nat.reduceSub, Nat.zero_ne_one, Nat.one_ne_zero, w0, w1, w2, w3, w4, w5, w6, w7, w8, w9, w10, w11, w12, w13, w14, w15, w16, w17, w18, w19, w20, w21, w22, w23, w24, evGM_get, evGM_set, evGM_get0, evGM_set0, A, lt7, lc7, lt0, lc0, t1, t2, Option.toList, List.cons_append, List.nil_append]
      · exact absurd (by unfold toldB; simp only [Bool.and_eq_true, decide_eq_true_eq]; exact ⟨Int32.not_le.mp t1, Int32.not_lt.mp t2⟩) hT
  unfold bidV bidT
  by_cases hT : toldB (u 1) b = true
  · rw [if_pos hT, if_pos hT]
    have hT' := hT
    unfold toldB at hT'
    simp only [Bool.and_eq_true, decide_eq_true_eq] at hT'
    have t1 : ¬ u 1 (10 + 8 * b + 7) ≤ 0 := fun q => i32_ff q hT'.1
    have t2 : ¬ u 1 (10 + 8 * b + 0) < u 1 (10 + 8 * b + 7) := fun q => i32_ff hT'.2 q
    simp only [x103_0, x103_1, x103_2, x103_4, x103_7, x103_8, x103_9, x103_12, x103_13, x103_14, x103_15, x103_16, x103_19, x103_22, x103_23, evI_i, evJl_i, evJf_i, evJd_i, evA_r, evA_n, evA_q, evLk_c, evS1_d, evS2_d, evFl_n, evFl_c, evGl_n, evGl_c, evIn_n, evIn_c, evCat_i, evCat_l, evCat_f, evCat_d, evCat_r, evCat_z, evCat_q, evBd_some, evTl_s, evTl_n, va_rf_s, va_rf_n, and_true, true_and, and_false, false_and, if_true, if_false, not_true_eq_false, not_false_eq_true, reduceCtorEq, ↓reduceIte, Nat.reduceAdd, Nat.reduceEqDiff, Nat.reduceLT, Nat.reduceLeDiff, Nat.reduceSub, Nat.zero_ne_one, Nat.one_ne_zero, w0, w1, w2, w3, w4, w5, w6, w7, w8, w9, w10, w11, w12, w13, w14, w15, w16, w17, w18, w19, w20, w21, w22, w23, w24, evGM_get, evGM_set, evGM_get0, evGM_set0, A, lt7, lc7, lt0, lc0, t1, t2, Option.toList, List.cons_append, List.nil_append]
  · rw [if_neg hT, if_neg hT, st hT]
    generalize hq : allT (u 1) lag b n = q at B
    by_cases e1 : q.2.2 = nI b
    · rw [if_neg (fun z => z.1 e1)]
      simp only [x103_24, x103_25, x103_26, x103_29, x103_30, x103_33, x103_34, x103_37, x103_38, x103_39, x103_40, x103_41, x103_42, x103_45, x103_46, x103_49, x103_50, x103_51, x103_52, x103_55, x103_58, x103_59, x103_62, x103_63, evI_i, evJl_i, evJf_i, evJd_i, evA_r, evA_n, evA_q, evLk_c, evS1_d, evS2_d, evFl_n, evFl_c, evGl_n, evGl_c, evIn_n, evIn_c, evCat_i, evCat_l, evCat_f, evCat_d, evCat_r, evCat_z, evCat_q, evBd_some, evTl_s, evTl_n, va_rf_s, va_rf_n, and_true, true_and, and_false, false_and, if_true, if_false, not_true_eq_false, not_false_eq_true, reduceCtorEq, ↓reduceIte, Nat.reduceAdd, Nat.reduceEqDiff, Nat.reduceLT, Nat.reduceLeDiff, Nat.reduceSub, Nat.zero_ne_one, Nat.one_ne_zero, w0, w1, w2, w3, w4, w5, w6, w7, w8, w9, w10, w11, w12, w13, w14, w15, w16, w17, w18, w19, w20, w21, w22, w23, w24, evGM_get, evGM_set, evGM_get0, evGM_set0, B, setB_8, setB_9, setB_10, setB_1, lt1, lc1, e1, Option.toList, List.cons_append, List.nil_append]
    · by_cases e2 : q.1 + u 1 1 ≤ limT (u 1) l b
      · have e2' : ¬ limT (u 1) l b < q.1 + u 1 1 := fun z => i32_ff e2 z
        rw [if_pos ⟨e1, e2⟩]
        simp only [x103_24, x103_25, x103_26, x103_29, x103_30, x103_33, x103_34, x103_37, x103_38, x103_39, x103_40, x103_41, x103_42, x103_45, x103_46, x103_49, x103_50, x103_51, x103_52, x103_55, x103_58, x103_59, x103_62, x103_63, evI_i, evJl_i, evJf_i, evJd_i, evA_r, evA_n, evA_q, evLk_c, evS1_d, evS2_d, evFl_n, evFl_c, evGl_n, evGl_c, evIn_n, evIn_c, evCat_i, evCat_l, evCat_f, evCat_d, evCat_r, evCat_z, evCat_q, evBd_some, evTl_s, evTl_n, va_rf_s, va_rf_n, and_true, true_and, and_false, false_and, if_true, if_false, not_true_eq_false, not_false_eq_true, reduceCtorEq, ↓reduceIte, Nat.reduceAdd, Nat.reduceEqDiff, Nat.reduceLT, Nat.reduceLeDiff, Nat.reduceSub, Nat.zero_ne_one, Nat.one_ne_zero, w0, w1, w2, w3, w4, w5, w6, w7, w8, w9, w10, w11, w12, w13, w14, w15, w16, w17, w18, w19, w20, w21, w22, w23, w24, evGM_get, evGM_set, evGM_get0, evGM_set0, B, L, setB_8, setB_9, setB_10, setB_1, lt1, lc1, e1, e2', Option.toList, List.cons_append, List.nil_append]
      · have e2' : limT (u 1) l b < q.1 + u 1 1 := Int32.not_le.mp e2
        rw [if_neg (fun z => e2 z.2)]
        simp only [x103_24, x103_25, x103_26, x103_29, x103_30, x103_33, x103_34, x103_37, x103_38, x103_39, x103_40, x103_41, x103_42, x103_45, x103_46, x103_49, x103_50, x103_51, x103_52, x103_55, x103_58, x103_59, x103_62, x103_63, evI_i, evJl_i, evJf_i, evJd_i, evA_r, evA_n, evA_q, evLk_c, evS1_d, evS2_d, evFl_n, evFl_c, evGl_n, evGl_c, evIn_n, evIn_c, evCat_i, evCat_l, evCat_f, evCat_d, evCat_r, evCat_z, evCat_q, evBd_some, evTl_s, evTl_n, va_rf_s, va_rf_n, and_true, true_and, and_false, false_and, if_true, if_false, not_true_eq_false, not_false_eq_true, reduceCtorEq, ↓reduceIte, Nat.reduceAdd, Nat.reduceEqDiff, Nat.reduceLT, Nat.reduceLeDiff, Nat.reduceSub, Nat.zero_ne_one, Nat.one_ne_zero, w0, w1, w2, w3, w4, w5, w6, w7, w8, w9, w10, w11, w12, w13, w14, w15, w16, w17, w18, w19, w20, w21, w22, w23, w24, evGM_get, evGM_set, evGM_get0, evGM_set0, B, L, setB_8, setB_9, setB_10, setB_1, lt1, lc1, e1, e2', Option.toList, List.cons_append, List.nil_append]
theorem c_firstWaiting (hu : mOK h c) {n : Nat} (hn : n ≤ 8) (h6 : u 1 6 = nI n) : evX 99 0 [(0, .ref c)] [] h (evGM m c 9 u) = some (some (.int (fwF (u 1) n n)), h, evGM m c 9 u) := by
  obtain ⟨w0, w1, w2, w3, w4, w5, w6, w7, w8, w9, w10, w11, w12, w13, w14, w15, w16, w17, w18, w19, w20, w21, w22, w23, w24⟩ := id hu
  -- the index goes down: after d lots it is n - 1 - d
  have ex : ∀ d, d ≤ n → nI n - 1 - nI d = if d = n then -1 else nI (n - 1 - d) := by
    intro d hd
    by_cases e : d = n
    · subst e
      rw [if_pos rfl]
      have : nI d - 1 - nI d = -1 := by
        have e1 : nI d - 1 = -1 + nI d := (Int32.sub_eq_add_neg _ _).trans (Int32.add_comm _ _)
        rw [e1, Int32.add_sub_cancel]
      exact this
    · rw [if_neg e]
      have h1 : nI n = nI (n - 1 - d) + nI d + 1 := by
        rw [nI_add2]
        rw [← nI_succ]
        exact congrArg nI (by omega)
      rw [h1, Int32.add_sub_cancel, Int32.add_sub_cancel]
  have st : evX 99 0 [(0, .ref c)] [] h (evGM m c 9 u) = evX 99 13 [(0, .ref c), (1, .int (fwF (u 1) n 0)), (2, .int (nI n - 1 - nI 0))] [] h (evGM m c 9 u) := by
    simp only [x99_0, x99_2, x99_3, x99_4, x99_7, x99_9, x99_10, x99_11, x99_12, evI_i, evJl_i, evJf_i, evJd_i, evA_r, evA_n, evA_q, evLk_c, evS1_d, evS2_d, evFl_n, evFl_c, evGl_n, evGl_c, evIn_n, evIn_c, evCat_i, evCat_l, evCat_f, evCat_d, evCat_r, evCat_z, evCat_q, evBd_some, evTl_s, evTl_n, va_rf_s, va_rf_n, and_true, true_and, and_false, false_and, if_true, if_false, not_true_eq_false, not_false_eq_true, reduceCtorEq, ↓reduceIte, Nat.reduceAdd, Nat.reduceEqDiff, Nat.reduceLT, Nat.reduceLeDiff, Nat.reduceSub, Nat.zero_ne_one, Nat.one_ne_zero, w0, w1, w2, w3, w4, w5, w6, w7, w8, w9, w10, w11, w12, w13, w14, w15, w16, w17, w18, w19, w20, w21, w22, w23, w24, evGM_get, evGM_set, evGM_get0, evGM_set0, lt6, lc6, h6]
    have : nI n - 1 - nI 0 = nI n - 1 := Int32.sub_zero _
    rw [this]
    rfl
  have loop := loop_up (G := fun d => evX 99 13 [(0, .ref c), (1, .int (fwF (u 1) n d)), (2, .int (nI n - 1 - nI d))] [] h (evGM m c 9 u)) (n := n) (fun d hd => by
    have e1 : nI n - 1 - nI d = nI (n - (d + 1)) := by rw [ex d (by omega), if_neg (by omega)]; exact congrArg nI (by omega)
    have e2 : nI (n - (d + 1)) + -1 = nI n - 1 - nI (d + 1) := by
      rw [ex (d + 1) (by omega)]
      by_cases e : d + 1 = n
      · rw [if_pos e, show n - (d + 1) = 0 by omega]
        exact Int32.zero_add _
      · rw [if_neg e, show n - (d + 1) = n - 1 - (d + 1) + 1 by omega, nI_succ, Int32.add_assoc]
        exact Int32.add_zero _
    have l0 : ¬ nI (n - (d + 1)) < 0 := nI_pos (by omega)
    have l1 : (nI (n - (d + 1))).toNatClampNeg = n - (d + 1) := nI_cl _ (by omega)
    have l2 : n - (d + 1) < 8 := by omega
    show _ = evX 99 13 [(0, .ref c), (1, .int (if u 1 (58 + 7 * (n - (d + 1)) + 1) = 0 then nI (n - (d + 1)) else fwF (u 1) n d)), (2, .int (nI n - 1 - nI (d + 1)))] [] h (evGM m c 9 u)
    rw [e1]
    conv => lhs; rw [x99_13]
    by_cases hw : u 1 (58 + 7 * (n - (d + 1)) + 1) = 0
    · simp only [x99_14, x99_17, x99_18, x99_19, x99_20, x99_23, x99_26, x99_27, x99_30, x99_31, x99_32, x99_35, evI_i, evJl_i, evJf_i, evJd_i, evA_r, evA_n, evA_q, evLk_c, evS1_d, evS2_d, evFl_n, evFl_c, evGl_n, evGl_c, evIn_n, evIn_c, evCat_i, evCat_l, evCat_f, evCat_d, evCat_r, evCat_z, evCat_q, evBd_some, evTl_s, evTl_n, va_rf_s, va_rf_n, and_true, true_and, and_false, false_and, if_true, if_false, not_true_eq_false, not_false_eq_true, reduceCtorEq, ↓reduceIte, Nat.reduceAdd, Nat.reduceEqDiff, Nat.reduceLT, Nat.reduceLeDiff, Nat.reduceSub, Nat.zero_ne_one, Nat.one_ne_zero, w0, w1, w2, w3, w4, w5, w6, w7, w8, w9, w10, w11, w12, w13, w14, w15, w16, w17, w18, w19, w20, w21, w22, w23, w24, evGM_get, evGM_set, evGM_get0, evGM_set0, lt1, lc1, l0, l1, l2, hw, e2, c_lotPart hu, Option.toList, List.cons_append, List.nil_append]
    · simp only [x99_14, x99_17, x99_18, x99_19, x99_20, x99_23, x99_26, x99_27, x99_30, x99_31, x99_32, x99_35, evI_i, evJl_i, evJf_i, evJd_i, evA_r, evA_n, evA_q, evLk_c, evS1_d, evS2_d, evFl_n, evFl_c, evGl_n, evGl_c, evIn_n, evIn_c, evCat_i, evCat_l, evCat_f, evCat_d, evCat_r, evCat_z, evCat_q, evBd_some, evTl_s, evTl_n, va_rf_s, va_rf_n, and_true, true_and, and_false, false_and, if_true, if_false, not_true_eq_false, not_false_eq_true, reduceCtorEq, ↓reduceIte, Nat.reduceAdd, Nat.reduceEqDiff, Nat.reduceLT, Nat.reduceLeDiff, Nat.reduceSub, Nat.zero_ne_one, Nat.one_ne_zero, w0, w1, w2, w3, w4, w5, w6, w7, w8, w9, w10, w11, w12, w13, w14, w15, w16, w17, w18, w19, w20, w21, w22, w23, w24, evGM_get, evGM_set, evGM_get0, evGM_set0, lt1, lc1, l0, l1, l2, hw, e2, c_lotPart hu, Option.toList, List.cons_append, List.nil_append])
  have hx : nI n - 1 - nI n < 0 := by rw [ex n (Nat.le_refl n), if_pos rfl]; decide
  refine st.trans (loop.trans ?_)
  simp only [x99_13, x99_14, x99_38, x99_39, evI_i, evJl_i, evJf_i, evJd_i, evA_r, evA_n, evA_q, evLk_c, evS1_d, evS2_d, evFl_n, evFl_c, evGl_n, evGl_c, evIn_n, evIn_c, evCat_i, evCat_l, evCat_f, evCat_d, evCat_r, evCat_z, evCat_q, evBd_some, evTl_s, evTl_n, va_rf_s, va_rf_n, and_true, true_and, and_false, false_and, if_true, if_false, not_true_eq_false, not_false_eq_true, reduceCtorEq, ↓reduceIte, Nat.reduceAdd, Nat.reduceEqDiff, Nat.reduceLT, Nat.reduceLeDiff, Nat.reduceSub, Nat.zero_ne_one, Nat.one_ne_zero, w0, w1, w2, w3, w4, w5, w6, w7, w8, w9, w10, w11, w12, w13, w14, w15, w16, w17, w18, w19, w20, w21, w22, w23, w24, evGM_get, evGM_set, evGM_get0, evGM_set0, hx]
end MO
