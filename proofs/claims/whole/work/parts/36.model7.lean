/-! the model: the bids of a round are made, the rounds grow older -/
theorem evBl_r (b : Bool) : evBl b &&& 1 = evBl b := by cases b <;> rfl
/-- whether any bids -/
def mbB (u : Nat → Nat → Int32) : Nat → Bool
  | 0 => false
  | k + 1 => decide (0 < u 7 k) || mbB u k
theorem mbB_s (u : Nat → Nat → Int32) (k : Nat) : (if 0 < u 7 k then (1 : Int32) else evBl (mbB u k)) = evBl (mbB u (k + 1)) := by
  show _ = evBl (decide (0 < u 7 k) || mbB u k)
  by_cases h : 0 < u 7 k
  · rw [if_pos h]
    simp [h, evBl]
  · rw [if_neg h]
    simp [h]
def grB (u : Nat → Nat → Int32) : Nat → Nat → Nat → Int32
  | 0 => u
  | k + 1 => kbU (grB u k) 126 k (u 1 (162 + k)) (u 1 4 - 5)
/-- the rounds behind place j are moved by one -/
def grV (u : Nat → Nat → Int32) (j : Nat) : Nat → Nat → Int32 := fun o i => if o = 1 ∧ 138 + j < i ∧ i ≤ 167 then u 1 (i - 6) else u o i
def grN (u : Nat → Nat → Int32) (n : Nat) : Nat → Nat → Nat → Int32
  | 0 => u
  | k + 1 => ms (grN u n k) 1 (138 + k) (if k < n then u 7 k else 0)
def grU (u : Nat → Nat → Int32) (n : Nat) : Nat → Nat → Int32 := grN (grV (grB u n) 5) n 6
theorem grB_o (u : Nat → Nat → Int32) (n : Nat) {o : Nat} (j : Nat) (ho : o ≠ 1) : grB u n o j = u o j := by
  induction n with
  | zero => rfl
  | succ n ih => exact (kbU_o _ _ _ _ _ _ ho).trans ih
theorem grB_lo (u : Nat → Nat → Int32) (n : Nat) {j : Nat} (hj : j < 126) : grB u n 1 j = u 1 j := by
  induction n with
  | zero => rfl
  | succ n ih => exact (kbU_lo _ _ _ _ hj).trans ih
theorem grB_hi (u : Nat → Nat → Int32) {n : Nat} (hn : n ≤ 6) {j : Nat} (hj : 138 ≤ j) : grB u n 1 j = u 1 j := by
  induction n with
  | zero => rfl
  | succ n ih =>
    refine Eq.trans ?_ (ih (by omega))
    show kbU (grB u n) 126 n _ _ 1 j = _
    unfold kbU
    split
    · rw [ms_at, if_neg (by omega), ms_at, if_neg (by omega)]
    · rfl
theorem grV_s (u : Nat → Nat → Int32) {j : Nat} (hj : j < 29) : ms (grV u (j + 1)) 1 (138 + (j + 1)) (u 1 (138 + (j + 1) - 6)) = grV u j := by
  funext o i
  unfold ms grV
  by_cases h1 : o = 1
  · by_cases h2 : i = 138 + (j + 1)
    · subst h1; subst h2
      rw [if_pos ⟨rfl, rfl⟩, if_pos ⟨rfl, by omega, by omega⟩]
    · rw [if_neg (fun z => h2 z.2)]
      by_cases h3 : 138 + (j + 1) < i ∧ i ≤ 167
      · rw [if_pos ⟨h1, h3⟩, if_pos ⟨h1, by omega, h3.2⟩]
      · rw [if_neg (fun z => h3 z.2), if_neg (by omega)]
  · rw [if_neg (fun z => h1 z.1), if_neg (fun z => h1 z.1), if_neg (fun z => h1 z.1)]
theorem grV_0 (u : Nat → Nat → Int32) : grV u 29 = u := by
  funext o i
  unfold grV
  rw [if_neg (by omega)]
theorem grV_lt (u : Nat → Nat → Int32) {j i : Nat} (h : i ≤ 138 + j) : grV u j 1 i = u 1 i := by
  unfold grV
  rw [if_neg (by omega)]
theorem grV_o (u : Nat → Nat → Int32) (k : Nat) {o : Nat} (j : Nat) (ho : o ≠ 1) : grV u k o j = u o j := by
  unfold grV
  rw [if_neg (fun z => ho z.1)]
theorem grN_o (u : Nat → Nat → Int32) (n k : Nat) {o : Nat} (j : Nat) (ho : o ≠ 1) : grN u n k o j = u o j := by
  induction k with
  | zero => rfl
  | succ k ih =>
    show ms (grN u n k) 1 (138 + k) _ o j = _
    rw [ms_at, if_neg (fun z => ho z.1), ih]
theorem grN_lo (u : Nat → Nat → Int32) (n k : Nat) {j : Nat} (hj : j < 138) : grN u n k 1 j = u 1 j := by
  induction k with
  | zero => rfl
  | succ k ih =>
    show ms (grN u n k) 1 (138 + k) _ 1 j = _
    rw [ms_at, if_neg (by omega), ih]
section MO
variable {h : evH} {m : evM} {c : Nat} {u : Nat → Nat → Int32}
theorem c_makesBids (hu : mOK h c) {n l : Nat} (hn : n ≤ 6) (hl : l < 8) (h5 : u 1 5 = nI n) : evX 107 0 [(0, .ref c), (1, .int (nI l))] [] h (evGM m c 9 u) = some (some (.int (evBl (mbB u n))), h, evGM m c 9 (mbU (u 1 (58 + 7 * l + 5)) l u n)) := by
  obtain ⟨w0, w1, w2, w3, w4, w5, w6, w7, w8, w9, w10, w11, w12, w13, w14, w15, w16, w17, w18, w19, w20, w21, w22, w23, w24⟩ := id hu
  have l0 : ¬ nI l < 0 := nI_pos (by omega)
  have l1 : (nI l).toNatClampNeg = l := nI_cl l (by omega)
  generalize hH : u 1 (58 + 7 * l + 5) = H
  have st : evX 107 0 [(0, .ref c), (1, .int (nI l))] [] h (evGM m c 9 u) = evX 107 12 ([(0, .ref c), (1, .int (nI l)), (2, .int H), (3, .int (evBl (mbB u 0))), (4, .int (nI 0))] ++ []) [] h (evGM m c 9 u) := by
    simp only [x107_0, x107_1, x107_2, x107_3, x107_6, x107_7, x107_8, x107_9, x107_10, evI_i, evJl_i, evJf_i, evJd_i, evA_r, evA_n, evA_q, evLk_c, evS1_d, evS2_d, evFl_n, evFl_c, evGl_n, evGl_c, evIn_n, evIn_c, evCat_i, evCat_l, evCat_f, evCat_d, evCat_r, evCat_z, evCat_q, evBd_some, evTl_s, evTl_n, va_rf_s, va_rf_n, and_true, true_and, and_false, false_and, if_true, if_false, not_true_eq_false, not_false_eq_true, reduceCtorEq, ↓reduceIte, Nat.reduceAdd, Nat.reduceEqDiff, Nat.reduceLT, Nat.reduceLeDiff, Nat.reduceSub, Nat.zero_ne_one, Nat.one_ne_zero, w0, w1, w2, w3, w4, w5, w6, w7, w8, w9, w10, w11, w12, w13, w14, w15, w16, w17, w18, w19, w20, w21, w22, w23, w24, evGM_get, evGM_set, evGM_get0, evGM_set0, lt5, lc5, l0, l1, hl, hH, c_lotPart hu, Option.toList, List.cons_append, List.nil_append, List.append_nil]
    rfl
  have P : ∀ k, k ≤ n → ∃ e : evL, (e = [] ∨ ∃ s, e = [(5, .int s)]) ∧ evX 107 0 [(0, .ref c), (1, .int (nI l))] [] h (evGM m c 9 u) = evX 107 12 ([(0, .ref c), (1, .int (nI l)), (2, .int H), (3, .int (evBl (mbB u k))), (4, .int (nI k))] ++ e) [] h (evGM m c 9 (mbU H l u k)) := by
    intro k
    induction k with
    | zero => intro _; exact ⟨[], Or.inl rfl, st⟩
    | succ k ih =>
      intro hk
      obtain ⟨e, he, e1⟩ := ih (by omega)
      obtain ⟨e', he', e2⟩ := c_bidStep (m := m) (u := mbU H l u k) hu hn (by omega : k < n) hl (by rw [mbU_lo _ _ _ _ (by omega), h5]) H (evBl (mbB u k)) e he
      refine ⟨e', he', e1.trans (e2.trans ?_)⟩
      rw [mbU_o _ _ _ _ _ (by decide), mbB_s]
      rfl
  obtain ⟨e, he, e1⟩ := P n (Nat.le_refl n)
  have hge : nI n ≤ nI n := Int32.le_refl _
  have h5' : mbU H l u n 1 5 = nI n := by rw [mbU_lo _ _ _ _ (by omega), h5]
  rw [e1]
  rcases he with rfl | ⟨s, rfl⟩
  · simp only [x107_12, x107_14, x107_15, x107_18, x107_19, x107_20, x107_159, x107_160_0, x107_160_1, x107_160b, evI_i, evJl_i, evJf_i, evJd_i, evA_r, evA_n, evA_q, evLk_c, evS1_d, evS2_d, evFl_n, evFl_c, evGl_n, evGl_c, evIn_n, evIn_c, evCat_i, evCat_l, evCat_f, evCat_d, evCat_r, evCat_z, evCat_q, evBd_some, evTl_s, evTl_n, va_rf_s, va_rf_n, and_true, true_and, and_false, false_and, if_true, if_false, not_true_eq_false, not_false_eq_true, reduceCtorEq, ↓reduceIte, Nat.reduceAdd, Nat.reduceEqDiff, Nat.reduceLT, Nat.reduceLeDiff, Nat.reduceSub, Nat.zero_ne_one, Nat.one_ne_zero, w0, w1, w2, w3, w4, w5, w6, w7, w8, w9, w10, w11, w12, w13, w14, w15, w16, w17, w18, w19, w20, w21, w22, w23, w24, evGM_get, evGM_set, evGM_get0, evGM_set0, lt5, lc5, h5', hge, evBl_r, List.cons_append, List.nil_append, List.append_nil]
  · simp only [x107_12, x107_14, x107_15, x107_18, x107_19, x107_20, x107_159, x107_160_0, x107_160_1, x107_160b, evI_i, evJl_i, evJf_i, evJd_i, evA_r, evA_n, evA_q, evLk_c, evS1_d, evS2_d, evFl_n, evFl_c, evGl_n, evGl_c, evIn_n, evIn_c, evCat_i, evCat_l, evCat_f, evCat_d, evCat_r, evCat_z, evCat_q, evBd_some, evTl_s, evTl_n, va_rf_s, va_rf_n, and_true, true_and, and_false, false_and, if_true, if_false, not_true_eq_false, not_false_eq_true, reduceCtorEq, ↓reduceIte, Nat.reduceAdd, Nat.reduceEqDiff, Nat.reduceLT, Nat.reduceLeDiff, Nat.reduceSub, Nat.zero_ne_one, Nat.one_ne_zero, w0, w1, w2, w3, w4, w5, w6, w7, w8, w9, w10, w11, w12, w13, w14, w15, w16, w17, w18, w19, w20, w21, w22, w23, w24, evGM_get, evGM_set, evGM_get0, evGM_set0, lt5, lc5, h5', hge, evBl_r, List.cons_append, List.nil_append, List.append_nil]
set_option maxHeartbeats 1000000 in
theorem c_grows (hu : mOK h c) {n : Nat} (hn : n ≤ 6) (h5 : u 1 5 = nI n) : evX 108 0 [(0, .ref c)] [] h (evGM m c 9 u) = some (none, h, evGM m c 9 (grU u n)) := by
  obtain ⟨w0, w1, w2, w3, w4, w5, w6, w7, w8, w9, w10, w11, w12, w13, w14, w15, w16, w17, w18, w19, w20, w21, w22, w23, w24⟩ := id hu
  have st : evX 108 0 [(0, .ref c)] [] h (evGM m c 9 u) = evX 108 6 [(0, .ref c), (1, .int 162), (2, .int (nI 0))] [] h (evGM m c 9 (grB u 0)) := by
    simp only [x108_0, x108_3, x108_4, x108_5, evI_i, evJl_i, evJf_i, evJd_i, evA_r, evA_n, evA_q, evLk_c, evS1_d, evS2_d, evFl_n, evFl_c, evGl_n, evGl_c, evIn_n, evIn_c, evCat_i, evCat_l, evCat_f, evCat_d, evCat_r, evCat_z, evCat_q, evBd_some, evTl_s, evTl_n, va_rf_s, va_rf_n, and_true, true_and, and_false, false_and, if_true, if_false, not_true_eq_false, not_false_eq_true, reduceCtorEq, ↓reduceIte, Nat.reduceAdd, Nat.reduceEqDiff, Nat.reduceLT, Nat.reduceLeDiff, Nat.reduceSub, Nat.zero_ne_one, Nat.one_ne_zero, w0, w1, w2, w3, w4, w5, w6, w7, w8, w9, w10, w11, w12, w13, w14, w15, w16, w17, w18, w19, w20, w21, w22, w23, w24, evGM_get, evGM_set, evGM_get0, evGM_set0]
    rfl
  have loop1 := loop_up (G := fun k => evX 108 6 [(0, .ref c), (1, .int 162), (2, .int (nI k))] [] h (evGM m c 9 (grB u k))) (n := n) (fun k hk => by
    have e0 : ¬ nI n ≤ nI k := nlt hk (by omega)
    have hs : nI k + 1 = nI (k + 1) := (nI_succ k).symm
    have hk6 : k < 6 := by omega
    have e1 : (162 : Int32) + nI k = nI (162 + k) := ix1 162 k
    have e2 : ¬ nI (162 + k) < 0 := nI_pos (by omega)
    have e3 : (nI (162 + k)).toNatClampNeg = 162 + k := nI_cl _ (by omega)
    have e4 : 162 + k < 328 := by omega
    have g1 : grB u k 1 (162 + k) = u 1 (162 + k) := grB_hi u (by omega) (by omega)
    have g4 : grB u k 1 4 = u 1 4 := grB_lo u k (by omega)
    have g5 : grB u k 1 5 = nI n := by rw [grB_lo u k (by omega), h5]
    have KB : ∀ v x z, evX 105 0 [(0, .ref c), (1, .int 126), (2, .int (nI k)), (3, .int x), (4, .int z)] [] h (evGM m c 9 v) = some (none, h, evGM m c 9 (kbU v 126 k x z)) := fun v x z => c_keepsBest (u := v) hu hk6 lt126 (by decide)
    show _ = evX 108 6 [(0, .ref c), (1, .int 162), (2, .int (nI (k + 1)))] [] h (evGM m c 9 (kbU (grB u k) 126 k (u 1 (162 + k)) (u 1 4 - 5)))
    conv => lhs; rw [x108_6]
    simp only [x108_7, x108_8, x108_11, x108_12, x108_13, x108_16, x108_17, x108_19, x108_20, x108_21, x108_24, x108_25, x108_26, x108_27, x108_28, x108_29, x108_32, x108_33, x108_34, x108_35, x108_36, x108_39, x108_42, evI_i, evJl_i, evJf_i, evJd_i, evA_r, evA_n, evA_q, evLk_c, evS1_d, evS2_d, evFl_n, evFl_c, evGl_n, evGl_c, evIn_n, evIn_c, evCat_i, evCat_l, evCat_f, evCat_d, evCat_r, evCat_z, evCat_q, evBd_some, evTl_s, evTl_n, va_rf_s, va_rf_n, and_true, true_and, and_false, false_and, if_true, if_false, not_true_eq_false, not_false_eq_true, reduceCtorEq, ↓reduceIte, Nat.reduceAdd, Nat.reduceEqDiff, Nat.reduceLT, Nat.reduceLeDiff, Nat.reduceSub, Nat.zero_ne_one, Nat.one_ne_zero, w0, w1, w2, w3, w4, w5, w6, w7, w8, w9, w10, w11, w12, w13, w14, w15, w16, w17, w18, w19, w20, w21, w22, w23, w24, evGM_get, evGM_set, evGM_get0, evGM_set0, lt5, lc5, lt4, lc4, e0, hs, e1, e2, e3, e4, g1, g4, g5, KB, Option.toList, List.cons_append, List.nil_append])
  have hge : nI n ≤ nI n := Int32.le_refl _
  have g5 : grB u n 1 5 = nI n := by rw [grB_lo u n (by omega), h5]
  have g7 : ∀ j, grB u n 7 j = u 7 j := fun j => grB_o u n j (by decide)
  generalize hv : grB u n = v at loop1 g5 g7
  have mid1 : evX 108 6 [(0, .ref c), (1, .int 162), (2, .int (nI n))] [] h (evGM m c 9 v) = evX 108 48 [(0, .ref c), (1, .int 162), (2, .int (nI (29 - 0)))] [] h (evGM m c 9 (grV v (29 - 0))) := by
    rw [show 29 - 0 = 29 from rfl, grV_0]
    simp only [x108_6, x108_7, x108_8, x108_11, x108_12, x108_13, x108_45, x108_47, evI_i, evJl_i, evJf_i, evJd_i, evA_r, evA_n, evA_q, evLk_c, evS1_d, evS2_d, evFl_n, evFl_c, evGl_n, evGl_c, evIn_n, evIn_c, evCat_i, evCat_l, evCat_f, evCat_d, evCat_r, evCat_z, evCat_q, evBd_some, evTl_s, evTl_n, va_rf_s, va_rf_n, and_true, true_and, and_false, false_and, if_true, if_false, not_true_eq_false, not_false_eq_true, reduceCtorEq, ↓reduceIte, Nat.reduceAdd, Nat.reduceEqDiff, Nat.reduceLT, Nat.reduceLeDiff, Nat.reduceSub, Nat.zero_ne_one, Nat.one_ne_zero, w0, w1, w2, w3, w4, w5, w6, w7, w8, w9, w10, w11, w12, w13, w14, w15, w16, w17, w18, w19, w20, w21, w22, w23, w24, evGM_get, evGM_set, evGM_get0, evGM_set0, lt5, lc5, g5, hge]
    rfl
  have loop2 := loop_up (G := fun i => evX 108 48 [(0, .ref c), (1, .int 162), (2, .int (nI (29 - i)))] [] h (evGM m c 9 (grV v (29 - i)))) (n := 24) (fun i hi => by
    obtain ⟨j, hj⟩ : ∃ j, 29 - i = j + 1 := ⟨29 - i - 1, by omega⟩
    have hj2 : 29 - (i + 1) = j := by omega
    have hj3 : j < 29 := by omega
    have hj4 : 5 ≤ j := by omega
    show evX 108 48 [(0, .ref c), (1, .int 162), (2, .int (nI (29 - i)))] [] h (evGM m c 9 (grV v (29 - i))) = evX 108 48 [(0, .ref c), (1, .int 162), (2, .int (nI (29 - (i + 1))))] [] h (evGM m c 9 (grV v (29 - (i + 1))))
    rw [hj, hj2]
    have e1 : ¬ nI (j + 1) < 6 := (show ¬ nI (j + 1) < nI 6 from nI_nlt (by omega) (by omega))
    have e2 : (138 : Int32) + nI (j + 1) = nI (138 + (j + 1)) := ix1 138 (j + 1)
    have e3 : nI (138 + (j + 1)) - 6 = nI (138 + (j + 1) - 6) := by
      rw [show 138 + (j + 1) = 138 + (j + 1) - 6 + 6 by omega, ← nI_add2]
      exact Int32.add_sub_cancel _ _
    have e4 : ¬ nI (138 + (j + 1)) < 0 := nI_pos (by omega)
    have e5 : ¬ nI (138 + (j + 1) - 6) < 0 := nI_pos (by omega)
    have e6 : (nI (138 + (j + 1))).toNatClampNeg = 138 + (j + 1) := nI_cl _ (by omega)
    have e7 : (nI (138 + (j + 1) - 6)).toNatClampNeg = 138 + (j + 1) - 6 := nI_cl _ (by omega)
    have e8 : 138 + (j + 1) < 328 := by omega
    have e9 : 138 + (j + 1) - 6 < 328 := by omega
    have ea : grV v (j + 1) 1 (138 + (j + 1) - 6) = v 1 (138 + (j + 1) - 6) := grV_lt v (by omega)
    have eb : nI (j + 1) + -1 = nI j := by
      rw [nI_succ, Int32.add_assoc]
      exact Int32.add_zero _
    conv => lhs; rw [x108_48]
    simp only [x108_49, x108_51, x108_54, x108_55, x108_58, x108_61, x108_62, x108_63, x108_64, x108_67, x108_70, x108_71, x108_72, x108_74, x108_75, x108_76, x108_77, x108_80, evI_i, evJl_i, evJf_i, evJd_i, evA_r, evA_n, evA_q, evLk_c, evS1_d, evS2_d, evFl_n, evFl_c, evGl_n, evGl_c, evIn_n, evIn_c, evCat_i, evCat_l, evCat_f, evCat_d, evCat_r, evCat_z, evCat_q, evBd_some, evTl_s, evTl_n, va_rf_s, va_rf_n, and_true, true_and, and_false, false_and, if_true, if_false, not_true_eq_false, not_false_eq_true, reduceCtorEq, ↓reduceIte, Nat.reduceAdd, Nat.reduceEqDiff, Nat.reduceLT, Nat.reduceLeDiff, Nat.reduceSub, Nat.zero_ne_one, Nat.one_ne_zero, w0, w1, w2, w3, w4, w5, w6, w7, w8, w9, w10, w11, w12, w13, w14, w15, w16, w17, w18, w19, w20, w21, w22, w23, w24, evGM_get, evGM_set, evGM_get0, evGM_set0, e1, e2, e3, e4, e5, e6, e7, e8, e9, ea, eb, grV_s v hj3])
  have mid2 : evX 108 48 [(0, .ref c), (1, .int 162), (2, .int (nI 5))] [] h (evGM m c 9 (grV v 5)) = evX 108 85 [(0, .ref c), (1, .int 162), (2, .int (nI 0))] [] h (evGM m c 9 (grN (grV v 5) n 0)) := by
    have h6 : nI 5 < 6 := by decide
    simp only [x108_48, x108_49, x108_51, x108_83, x108_84, evI_i, evJl_i, evJf_i, evJd_i, evA_r, evA_n, evA_q, evLk_c, evS1_d, evS2_d, evFl_n, evFl_c, evGl_n, evGl_c, evIn_n, evIn_c, evCat_i, evCat_l, evCat_f, evCat_d, evCat_r, evCat_z, evCat_q, evBd_some, evTl_s, evTl_n, va_rf_s, va_rf_n, and_true, true_and, and_false, false_and, if_true, if_false, not_true_eq_false, not_false_eq_true, reduceCtorEq, ↓reduceIte, Nat.reduceAdd, Nat.reduceEqDiff, Nat.reduceLT, Nat.reduceLeDiff, Nat.reduceSub, Nat.zero_ne_one, Nat.one_ne_zero, w0, w1, w2, w3, w4, w5, w6, w7, w8, w9, w10, w11, w12, w13, w14, w15, w16, w17, w18, w19, w20, w21, w22, w23, w24, evGM_get, evGM_set, evGM_get0, evGM_set0, h6]
    rfl
  have loop3 := loop_up (G := fun k => evX 108 85 [(0, .ref c), (1, .int 162), (2, .int (nI k))] [] h (evGM m c 9 (grN (grV v 5) n k))) (n := 6) (fun k hk => by
    have e0 : ¬ (6 : Int32) ≤ nI k := nlt (n := 6) hk (by decide)
    have hs : nI k + 1 = nI (k + 1) := (nI_succ k).symm
    have b0 : ¬ nI k < 0 := nI_pos (by omega)
    have b1 : (nI k).toNatClampNeg = k := nI_cl k (by omega)
    have e1 : (138 : Int32) + nI k = nI (138 + k) := ix1 138 k
    have e2 : ¬ nI (138 + k) < 0 := nI_pos (by omega)
    have e3 : (nI (138 + k)).toNatClampNeg = 138 + k := nI_cl _ (by omega)
    have e4 : 138 + k < 328 := by omega
    have g5' : grN (grV v 5) n k 1 5 = nI n := by rw [grN_lo _ _ _ (by omega), grV_lt _ (by omega), g5]
    have g7' : ∀ j, grN (grV v 5) n k 7 j = u 7 j := fun j => by rw [grN_o _ _ _ _ (by decide), grV_o _ _ _ (by decide), g7]
    show _ = evX 108 85 [(0, .ref c), (1, .int 162), (2, .int (nI (k + 1)))] [] h (evGM m c 9 (ms (grN (grV v 5) n k) 1 (138 + k) (if k < n then grV v 5 7 k else 0)))
    rw [grV_o v 5 k (by decide), g7]
    conv => lhs; rw [x108_85]
    by_cases hkn : k < n
    · have hq : ¬ nI n ≤ nI k := nlt hkn (by omega)
      simp only [x108_86, x108_88, x108_91, x108_92, x108_95, x108_98, x108_99, x108_100, x108_101, x108_102, x108_105, x108_106, x108_107, x108_110, x108_111, x108_114, x108_115, x108_116, x108_119, x108_120, x108_121, x108_124, evI_i, evJl_i, evJf_i, evJd_i, evA_r, evA_n, evA_q, evLk_c, evS1_d, evS2_d, evFl_n, evFl_c, evGl_n, evGl_c, evIn_n, evIn_c, evCat_i, evCat_l, evCat_f, evCat_d, evCat_r, evCat_z, evCat_q, evBd_some, evTl_s, evTl_n, va_rf_s, va_rf_n, and_true, true_and, and_false, false_and, if_true, if_false, not_true_eq_false, not_false_eq_true, reduceCtorEq, ↓reduceIte, Nat.reduceAdd, Nat.reduceEqDiff, Nat.reduceLT, Nat.reduceLeDiff, Nat.reduceSub, Nat.zero_ne_one, Nat.one_ne_zero, w0, w1, w2, w3, w4, w5, w6, w7, w8, w9, w10, w11, w12, w13, w14, w15, w16, w17, w18, w19, w20, w21, w22, w23, w24, evGM_get, evGM_set, evGM_get0, evGM_set0, lt5, lc5, e0, hs, b0, b1, hk, e1, e2, e3, e4, g5', g7', hkn, hq]
    · have hq : nI n ≤ nI k := Int32.not_lt.mp (nI_nlt (by omega) (by omega))
      simp only [x108_86, x108_88, x108_91, x108_92, x108_95, x108_98, x108_99, x108_100, x108_101, x108_102, x108_105, x108_106, x108_107, x108_110, x108_111, x108_114, x108_115, x108_116, x108_119, x108_120, x108_121, x108_124, evI_i, evJl_i, evJf_i, evJd_i, evA_r, evA_n, evA_q, evLk_c, evS1_d, evS2_d, evFl_n, evFl_c, evGl_n, evGl_c, evIn_n, evIn_c, evCat_i, evCat_l, evCat_f, evCat_d, evCat_r, evCat_z, evCat_q, evBd_some, evTl_s, evTl_n, va_rf_s, va_rf_n, and_true, true_and, and_false, false_and, if_true, if_false, not_true_eq_false, not_false_eq_true, reduceCtorEq, ↓reduceIte, Nat.reduceAdd, Nat.reduceEqDiff, Nat.reduceLT, Nat.reduceLeDiff, Nat.reduceSub, Nat.zero_ne_one, Nat.one_ne_zero, w0, w1, w2, w3, w4, w5, w6, w7, w8, w9, w10, w11, w12, w13, w14, w15, w16, w17, w18, w19, w20, w21, w22, w23, w24, evGM_get, evGM_set, evGM_get0, evGM_set0, lt5, lc5, e0, hs, b0, b1, hk, e1, e2, e3, e4, g5', g7', hkn, hq])
  refine st.trans (loop1.trans (mid1.trans (loop2.trans (mid2.trans (loop3.trans ?_)))))
  have h6 : (6 : Int32) ≤ nI 6 := by decide
  unfold grU
  rw [hv]
  simp only [x108_85, x108_86, x108_88, x108_91, x108_92, x108_95, x108_98, x108_99, x108_100, x108_101, x108_102, x108_105, x108_106, x108_107, x108_110, x108_111, x108_114, x108_115, x108_116, x108_119, x108_120, x108_121, x108_124, x108_127, evI_i, evJl_i, evJf_i, evJd_i, evA_r, evA_n, evA_q, evLk_c, evS1_d, evS2_d, evFl_n, evFl_c, evGl_n, evGl_c, evIn_n, evIn_c, evCat_i, evCat_l, evCat_f, evCat_d, evCat_r, evCat_z, evCat_q, evBd_some, evTl_s, evTl_n, va_rf_s, va_rf_n, and_true, true_and, and_false, false_and, if_true, if_false, not_true_eq_false, not_false_eq_true, reduceCtorEq, ↓reduceIte, Nat.reduceAdd, Nat.reduceEqDiff, Nat.reduceLT, Nat.reduceLeDiff, Nat.reduceSub, Nat.zero_ne_one, Nat.one_ne_zero, w0, w1, w2, w3, w4, w5, w6, w7, w8, w9, w10, w11, w12, w13, w14, w15, w16, w17, w18, w19, w20, w21, w22, w23, w24, evGM_get, evGM_set, evGM_get0, evGM_set0, h6]
end MO
