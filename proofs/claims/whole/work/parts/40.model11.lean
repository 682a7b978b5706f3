/-! the model: rounds that pass, rows that move, what is recorded -/
def psU (u : Nat → Nat → Int32) (lag n q : Nat) : Nat → Nat → Nat → Int32
  | 0 => u
  | k + 1 => rdU (psU u lag n q k) lag n q
def psI (u : Nat → Nat → Int32) (lag n q : Nat) : Nat → Int32
  | 0 => 0
  | k + 1 => psI u lag n q k + evBl (rdI (rdA (psU u lag n q k) q) lag n)
theorem psU_inv {u : Nat → Nat → Int32} {lag n q : Nat} (hi : mInv u lag n q) (k : Nat) : mInv (psU u lag n q k) lag n q := by
  induction k with
  | zero => exact hi
  | succ k ih => exact rdU_inv ih
def mvU (u : Nat → Nat → Int32) (o1 f o2 t k : Nat) : Nat → Nat → Int32 := fun o i => if o = o2 ∧ t ≤ i ∧ i < t + k then u o1 (f + (i - t)) else u o i
theorem mvU_s (u : Nat → Nat → Int32) (o1 f o2 t k : Nat) : ms (mvU u o1 f o2 t k) o2 (t + k) (u o1 (f + k)) = mvU u o1 f o2 t (k + 1) := by
  funext o i
  unfold ms mvU
  by_cases h1 : o = o2
  · by_cases h2 : i = t + k
    · subst h1; subst h2
      rw [if_pos ⟨rfl, rfl⟩, if_pos ⟨rfl, by omega, by omega⟩, Nat.add_sub_cancel_left]
    · rw [if_neg (fun z => h2 z.2)]
      by_cases h3 : t ≤ i ∧ i < t + k
      · rw [if_pos ⟨h1, h3⟩, if_pos ⟨h1, h3.1, by omega⟩]
      · rw [if_neg (fun z => h3 z.2), if_neg (fun z => h3 ⟨z.2.1, by omega⟩)]
  · rw [if_neg (fun z => h1 z.1), if_neg (fun z => h1 z.1), if_neg (fun z => h1 z.1)]
theorem mvU_0 (u : Nat → Nat → Int32) (o1 f o2 t : Nat) : mvU u o1 f o2 t 0 = u := by
  funext o i
  unfold mvU
  rw [if_neg (by omega)]
theorem mvU_o (u : Nat → Nat → Int32) (o1 f o2 t k : Nat) {o : Nat} (j : Nat) (ho : o ≠ o2) : mvU u o1 f o2 t k o j = u o j := by
  unfold mvU
  rw [if_neg (fun z => ho z.1)]
/-- the history is moved by one state, up to place k -/
def shU (u : Nat → Nat → Int32) (k : Nat) : Nat → Nat → Int32 := fun o i => if o = 3 ∧ i < k then u 3 (i + 328) else u o i
theorem shU_s (u : Nat → Nat → Int32) (k : Nat) : ms (shU u k) 3 k (u 3 (k + 328)) = shU u (k + 1) := by
  funext o i
  unfold ms shU
  by_cases h1 : o = 3
  · by_cases h2 : i = k
    · subst h1; subst h2
      rw [if_pos ⟨rfl, rfl⟩, if_pos ⟨rfl, by omega⟩]
    · rw [if_neg (fun z => h2 z.2)]
      by_cases h3 : i < k
      · rw [if_pos ⟨h1, h3⟩, if_pos ⟨h1, by omega⟩]
      · rw [if_neg (fun z => h3 z.2), if_neg (by omega)]
  · rw [if_neg (fun z => h1 z.1), if_neg (fun z => h1 z.1), if_neg (fun z => h1 z.1)]
theorem shU_0 (u : Nat → Nat → Int32) : shU u 0 = u := by
  funext o i
  unfold shU
  rw [if_neg (by omega)]
theorem shU_hi (u : Nat → Nat → Int32) {k i : Nat} (h : k ≤ i) : shU u k 3 i = u 3 i := by
  unfold shU
  rw [if_neg (by omega)]
theorem shU_o (u : Nat → Nat → Int32) (k : Nat) {o : Nat} (j : Nat) (ho : o ≠ 3) : shU u k o j = u o j := by
  unfold shU
  rw [if_neg (fun z => ho z.1)]
def rcU (u : Nat → Nat → Int32) (r : Nat) : Nat → Nat → Int32 := if r = 6 then ms (mvU (ms (shU u 1640) 0 3 (nI 5)) 1 0 3 (5 * 328) 328) 0 3 (nI 6) else ms (mvU u 1 0 3 (r * 328) 328) 0 3 (nI (r + 1))
section MO
variable {h : evH} {m : evM} {c : Nat} {u : Nat → Nat → Int32}
theorem c_passes (hu : mOK h c) {lag n q : Nat} (hi : mInv u lag n q) {r : Nat} (hr : r < 1000) : evX 113 0 [(0, .ref c), (1, .int (nI r))] [] h (evGM m c 9 u) = some (some (.int (psI u lag n q r)), h, evGM m c 9 (psU u lag n q r)) := by
  obtain ⟨w0, w1, w2, w3, w4, w5, w6, w7, w8, w9, w10, w11, w12, w13, w14, w15, w16, w17, w18, w19, w20, w21, w22, w23, w24⟩ := id hu
  have st : evX 113 0 [(0, .ref c), (1, .int (nI r))] [] h (evGM m c 9 u) = evX 113 4 [(0, .ref c), (1, .int (nI r)), (2, .int (psI u lag n q 0)), (3, .int (nI 0))] [] h (evGM m c 9 (psU u lag n q 0)) := by
    simp only [x113_0, x113_1, x113_2, x113_3, evI_i, evJl_i, evJf_i, evJd_i, evA_r, evA_n, evA_q, evLk_c, evS1_d, evS2_d, evFl_n, evFl_c, evGl_n, evGl_c, evIn_n, evIn_c, evCat_i, evCat_l, evCat_f, evCat_d, evCat_r, evCat_z, evCat_q, evBd_some, evTl_s, evTl_n, va_rf_s, va_rf_n, and_true, true_and, and_false, false_and, if_true, if_false, not_true_eq_false, not_false_eq_true, reduceCtorEq, ↓reduceIte, Nat.reduceAdd, Nat.reduceEqDiff, Nat.reduceLT, Nat.reduceLeDiff, Nat.reduceSub, Nat.zero_ne_one, Nat.one_ne_zero]
    rfl
  have loop := loop_up (G := fun k => evX 113 4 [(0, .ref c), (1, .int (nI r)), (2, .int (psI u lag n q k)), (3, .int (nI k))] [] h (evGM m c 9 (psU u lag n q k))) (n := r) (fun k hk => by
    have e0 : ¬ nI r ≤ nI k := nlt hk (by omega)
    have hs : nI k + 1 = nI (k + 1) := (nI_succ k).symm
    have R := c_round (m := m) (u := psU u lag n q k) hu (psU_inv hi k)
    show _ = evX 113 4 [(0, .ref c), (1, .int (nI r)), (2, .int (psI u lag n q k + evBl (rdI (rdA (psU u lag n q k) q) lag n))), (3, .int (nI (k + 1)))] [] h (evGM m c 9 (rdU (psU u lag n q k) lag n q))
    conv => lhs; rw [x113_4]
    simp only [x113_5, x113_6, x113_9, x113_10, x113_11, x113_14, x113_15, x113_16, x113_19, evI_i, evJl_i, evJf_i, evJd_i, evA_r, evA_n, evA_q, evLk_c, evS1_d, evS2_d, evFl_n, evFl_c, evGl_n, evGl_c, evIn_n, evIn_c, evCat_i, evCat_l, evCat_f, evCat_d, evCat_r, evCat_z, evCat_q, evBd_some, evTl_s, evTl_n, va_rf_s, va_rf_n, and_true, true_and, and_false, false_and, if_true, if_false, not_true_eq_false, not_false_eq_true, reduceCtorEq, ↓reduceIte, Nat.reduceAdd, Nat.reduceEqDiff, Nat.reduceLT, Nat.reduceLeDiff, Nat.reduceSub, Nat.zero_ne_one, Nat.one_ne_zero, w0, w1, w2, w3, w4, w5, w6, w7, w8, w9, w10, w11, w12, w13, w14, w15, w16, w17, w18, w19, w20, w21, w22, w23, w24, evGM_get, evGM_set, evGM_get0, evGM_set0, e0, hs, R, Option.toList, List.cons_append, List.nil_append])
  have hge : nI r ≤ nI r := Int32.le_refl _
  refine st.trans (loop.trans ?_)
  simp only [x113_4, x113_5, x113_6, x113_9, x113_10, x113_11, x113_14, x113_15, x113_16, x113_19, x113_22, x113_23, evI_i, evJl_i, evJf_i, evJd_i, evA_r, evA_n, evA_q, evLk_c, evS1_d, evS2_d, evFl_n, evFl_c, evGl_n, evGl_c, evIn_n, evIn_c, evCat_i, evCat_l, evCat_f, evCat_d, evCat_r, evCat_z, evCat_q, evBd_some, evTl_s, evTl_n, va_rf_s, va_rf_n, and_true, true_and, and_false, false_and, if_true, if_false, not_true_eq_false, not_false_eq_true, reduceCtorEq, ↓reduceIte, Nat.reduceAdd, Nat.reduceEqDiff, Nat.reduceLT, Nat.reduceLeDiff, Nat.reduceSub, Nat.zero_ne_one, Nat.one_ne_zero, hge]
theorem c_moves {o1 o2 f t L1 L2 : Nat} (a1 : evAt h (c + o1) 9) (a2 : evAt h (c + o2) 9) (n1 : evLen h (c + o1) = L1) (n2 : evLen h (c + o2) = L2) (h1 : f + 328 ≤ L1) (h2 : t + 328 ≤ L2) (hL1 : L1 < 10000) (hL2 : L2 < 10000) (ho1 : o1 < 9) (ho2 : o2 < 9) (hne : o1 ≠ o2) : evX 87 0 [(0, .ref (c + o1)), (1, .int (nI f)), (2, .ref (c + o2)), (3, .int (nI t))] [] h (evGM m c 9 u) = some (none, h, evGM m c 9 (mvU u o1 f o2 t 328)) := by
  have st : evX 87 0 [(0, .ref (c + o1)), (1, .int (nI f)), (2, .ref (c + o2)), (3, .int (nI t))] [] h (evGM m c 9 u) = evX 87 3 [(0, .ref (c + o1)), (1, .int (nI f)), (2, .ref (c + o2)), (3, .int (nI t)), (4, .int (nI 0))] [] h (evGM m c 9 (mvU u o1 f o2 t 0)) := by
    rw [mvU_0]
    simp only [x87_0, x87_1, evI_i, evJl_i, evJf_i, evJd_i, evA_r, evA_n, evA_q, evLk_c, evS1_d, evS2_d, evFl_n, evFl_c, evGl_n, evGl_c, evIn_n, evIn_c, evCat_i, evCat_l, evCat_f, evCat_d, evCat_r, evCat_z, evCat_q, evBd_some, evTl_s, evTl_n, va_rf_s, va_rf_n, and_true, true_and, and_false, false_and, if_true, if_false, not_true_eq_false, not_false_eq_true, reduceCtorEq, ↓reduceIte, Nat.reduceAdd, Nat.reduceEqDiff, Nat.reduceLT, Nat.reduceLeDiff, Nat.reduceSub, Nat.zero_ne_one, Nat.one_ne_zero]
    rfl
  have loop := loop_up (G := fun k => evX 87 3 [(0, .ref (c + o1)), (1, .int (nI f)), (2, .ref (c + o2)), (3, .int (nI t)), (4, .int (nI k))] [] h (evGM m c 9 (mvU u o1 f o2 t k))) (n := 328) (fun k hk => by
    have e0 : ¬ (328 : Int32) ≤ nI k := nlt (n := 328) hk (by decide)
    have hs : nI k + 1 = nI (k + 1) := (nI_succ k).symm
    have e1 : nI t + nI k = nI (t + k) := nI_add2 t k
    have e2 : nI f + nI k = nI (f + k) := nI_add2 f k
    have e3 : ¬ nI (t + k) < 0 := nI_pos (by omega)
    have e4 : ¬ nI (f + k) < 0 := nI_pos (by omega)
    have e5 : (nI (t + k)).toNatClampNeg = t + k := nI_cl _ (by omega)
    have e6 : (nI (f + k)).toNatClampNeg = f + k := nI_cl _ (by omega)
    have e7 : t + k < L2 := by omega
    have e8 : f + k < L1 := by omega
    have e9 : mvU u o1 f o2 t k o1 (f + k) = u o1 (f + k) := mvU_o _ _ _ _ _ _ _ hne
    conv => lhs; rw [x87_3]
    simp only [x87_5, x87_8, x87_11, x87_12, x87_13, x87_15, x87_16, x87_17, x87_18, x87_20, x87_21, x87_22, x87_23, x87_26, evI_i, evJl_i, evJf_i, evJd_i, evA_r, evA_n, evA_q, evLk_c, evS1_d, evS2_d, evFl_n, evFl_c, evGl_n, evGl_c, evIn_n, evIn_c, evCat_i, evCat_l, evCat_f, evCat_d, evCat_r, evCat_z, evCat_q, evBd_some, evTl_s, evTl_n, va_rf_s, va_rf_n, and_true, true_and, and_false, false_and, if_true, if_false, not_true_eq_false, not_false_eq_true, reduceCtorEq, ↓reduceIte, Nat.reduceAdd, Nat.reduceEqDiff, Nat.reduceLT, Nat.reduceLeDiff, Nat.reduceSub, Nat.zero_ne_one, Nat.one_ne_zero, evGM_get, evGM_set, ho1, ho2, a1, a2, n1, n2, e0, hs, e1, e2, e3, e4, e5, e6, e7, e8, e9, mvU_s])
  have hge : (328 : Int32) ≤ nI 328 := by decide
  refine st.trans (loop.trans ?_)
  simp only [x87_3, x87_5, x87_8, x87_11, x87_12, x87_13, x87_15, x87_16, x87_17, x87_18, x87_20, x87_21, x87_22, x87_23, x87_26, x87_29, evI_i, evJl_i, evJf_i, evJd_i, evA_r, evA_n, evA_q, evLk_c, evS1_d, evS2_d, evFl_n, evFl_c, evGl_n, evGl_c, evIn_n, evIn_c, evCat_i, evCat_l, evCat_f, evCat_d, evCat_r, evCat_z, evCat_q, evBd_some, evTl_s, evTl_n, va_rf_s, va_rf_n, and_true, true_and, and_false, false_and, if_true, if_false, not_true_eq_false, not_false_eq_true, reduceCtorEq, ↓reduceIte, Nat.reduceAdd, Nat.reduceEqDiff, Nat.reduceLT, Nat.reduceLeDiff, Nat.reduceSub, Nat.zero_ne_one, Nat.one_ne_zero, hge]
theorem c_record (hu : mOK h c) {r : Nat} (hr : r ≤ 6) (h3 : u 0 3 = nI r) : evX 89 0 [(0, .ref c)] [] h (evGM m c 9 u) = some (none, h, evGM m c 9 (rcU u r)) := by
  obtain ⟨w0, w1, w2, w3, w4, w5, w6, w7, w8, w9, w10, w11, w12, w13, w14, w15, w16, w17, w18, w19, w20, w21, w22, w23, w24⟩ := id hu
  -- the move of the state, and the count
  have fin : ∀ (v : Nat → Nat → Int32) (l : evL) (r : Nat), r ≤ 5 → v 0 3 = nI r → (l = [(0, .ref c)] ∨ l = [(0, .ref c), (1, .int (nI 1640))]) → evX 89 50 l [] h (evGM m c 9 v) = some (none, h, evGM m c 9 (ms (mvU v 1 0 3 (r * 328) 328) 0 3 (nI (r + 1)))) := by
    intro v l r hr hv hl
    have e1 : nI r * 328 = nI (r * 328) := pk_mul r 328
    have e2 : nI r + 1 = nI (r + 1) := (nI_succ r).symm
    have e3 : mvU v 1 0 3 (r * 328) 328 0 3 = nI r := by rw [mvU_o _ _ _ _ _ _ _ (by decide), hv]
    have M := c_moves (m := m) (u := v) (f := 0) (t := r * 328) w9 w11 w17 w19 (by omega) (by omega) (by omega) (by omega) (by decide) (by decide) (by decide)
    have M' : evX 87 0 [(0, .ref (c + 1)), (1, .int 0), (2, .ref (c + 3)), (3, .int (nI (r * 328)))] [] h (evGM m c 9 v) = some (none, h, evGM m c 9 (mvU v 1 0 3 (r * 328) 328)) := M
    rcases hl with rfl | rfl
    · simp only [x89_50, x89_51, x89_54, x89_55, x89_56, x89_59, x89_60, x89_63, x89_66, x89_67, x89_70, x89_71, x89_72, x89_75, x89_76, x89_77, x89_80, evI_i, evJl_i, evJf_i, evJd_i, evA_r, evA_n, evA_q, evLk_c, evS1_d, evS2_d, evFl_n, evFl_c, evGl_n, evGl_c, evIn_n, evIn_c, evCat_i, evCat_l, evCat_f, evCat_d, evCat_r, evCat_z, evCat_q, evBd_some, evTl_s, evTl_n, va_rf_s, va_rf_n, and_true, true_and, and_false, false_and, if_true, if_false, not_true_eq_false, not_false_eq_true, reduceCtorEq, ↓reduceIte, Nat.reduceAdd, Nat.reduceEqDiff, Nat.reduceLT, Nat.reduceLeDiff, Nat.reduceSub, Nat.zero_ne_one, Nat.one_ne_zero, w0, w1, w2, w3, w4, w5, w6, w7, w8, w9, w10, w11, w12, w13, w14, w15, w16, w17, w18, w19, w20, w21, w22, w23, w24, evGM_get, evGM_set, evGM_get0, evGM_set0, hv, e1, e2, e3, M', Option.toList, List.nil_append]
    · simp only [x89_50, x89_51, x89_54, x89_55, x89_56, x89_59, x89_60, x89_63, x89_66, x89_67, x89_70, x89_71, x89_72, x89_75, x89_76, x89_77, x89_80, evI_i, evJl_i, evJf_i, evJd_i, evA_r, evA_n, evA_q, evLk_c, evS1_d, evS2_d, evFl_n, evFl_c, evGl_n, evGl_c, evIn_n, evIn_c, evCat_i, evCat_l, evCat_f, evCat_d, evCat_r, evCat_z, evCat_q, evBd_some, evTl_s, evTl_n, va_rf_s, va_rf_n, and_true, true_and, and_false, false_and, if_true, if_false, not_true_eq_false, not_false_eq_true, reduceCtorEq, ↓reduceIte, Nat.reduceAdd, Nat.reduceEqDiff, Nat.reduceLT, Nat.reduceLeDiff, Nat.reduceSub, Nat.zero_ne_one, Nat.one_ne_zero, w0, w1, w2, w3, w4, w5, w6, w7, w8, w9, w10, w11, w12, w13, w14, w15, w16, w17, w18, w19, w20, w21, w22, w23, w24, evGM_get, evGM_set, evGM_get0, evGM_set0, hv, e1, e2, e3, M', Option.toList, List.nil_append]
  unfold rcU
  by_cases h6 : r = 6
  · subst h6
    rw [if_pos rfl]
    have n6 : (nI 6 : Int32) = 6 := rfl
    have st : evX 89 0 [(0, .ref c)] [] h (evGM m c 9 u) = evX 89 11 [(0, .ref c), (1, .int (nI 0))] [] h (evGM m c 9 (shU u 0)) := by
      rw [shU_0]
      simp only [x89_0, x89_1, x89_4, x89_6, x89_9, x89_10, evI_i, evJl_i, evJf_i, evJd_i, evA_r, evA_n, evA_q, evLk_c, evS1_d, evS2_d, evFl_n, evFl_c, evGl_n, evGl_c, evIn_n, evIn_c, evCat_i, evCat_l, evCat_f, evCat_d, evCat_r, evCat_z, evCat_q, evBd_some, evTl_s, evTl_n, va_rf_s, va_rf_n, and_true, true_and, and_false, false_and, if_true, if_false, not_true_eq_false, not_false_eq_true, reduceCtorEq, ↓reduceIte, Nat.reduceAdd, Nat.reduceEqDiff, Nat.reduceLT, Nat.reduceLeDiff, Nat.reduceSub, Nat.zero_ne_one, Nat.one_ne_zero, w0, w1, w2, w3, w4, w5, w6, w7, w8, w9, w10, w11, w12, w13, w14, w15, w16, w17, w18, w19, w20, w21, w22, w23, w24, evGM_get, evGM_set, evGM_get0, evGM_set0, h3, n6]
      rfl
    have loop := loop_up (G := fun k => evX 89 11 [(0, .ref c), (1, .int (nI k))] [] h (evGM m c 9 (shU u k))) (n := 1640) (fun k hk => by
      have e0 : ¬ (1640 : Int32) ≤ nI k := nlt (n := 1640) hk (by decide)
      have hs : nI k + 1 = nI (k + 1) := (nI_succ k).symm
      have e1 : nI k + 328 = nI (k + 328) := nI_add2 k 328
      have e2 : ¬ nI k < 0 := nI_pos (by omega)
      have e3 : ¬ nI (k + 328) < 0 := nI_pos (by omega)
      have e4 : (nI k).toNatClampNeg = k := nI_cl _ (by omega)
      have e5 : (nI (k + 328)).toNatClampNeg = k + 328 := nI_cl _ (by omega)
      have e6 : k < 1968 := by omega
      have e7 : k + 328 < 1968 := by omega
      have e8 : shU u k 3 (k + 328) = u 3 (k + 328) := shU_hi u (by omega)
      conv => lhs; rw [x89_11]
      simp only [x89_12, x89_15, x89_18, x89_19, x89_22, x89_23, x89_24, x89_27, x89_28, x89_31, x89_32, x89_33, x89_34, x89_37, evI_i, evJl_i, evJf_i, evJd_i, evA_r, evA_n, evA_q, evLk_c, evS1_d, evS2_d, evFl_n, evFl_c, evGl_n, evGl_c, evIn_n, evIn_c, evCat_i, evCat_l, evCat_f, evCat_d, evCat_r, evCat_z, evCat_q, evBd_some, evTl_s, evTl_n, va_rf_s, va_rf_n, and_true, true_and, and_false, false_and, if_true, if_false, not_true_eq_false, not_false_eq_true, reduceCtorEq, ↓reduceIte, Nat.reduceAdd, Nat.reduceEqDiff, Nat.reduceLT, Nat.reduceLeDiff, Nat.reduceSub, Nat.zero_ne_one, Nat.one_ne_zero, w0, w1, w2, w3, w4, w5, w6, w7, w8, w9, w10, w11, w12, w13, w14, w15, w16, w17, w18, w19, w20, w21, w22, w23, w24, evGM_get, evGM_set, evGM_get0, evGM_set0, e0, hs, e1, e2, e3, e4, e5, e6, e7, e8, shU_s])
    have hge : (1640 : Int32) ≤ nI 1640 := by decide
    have g3 : shU u 1640 0 3 = nI 6 := by rw [shU_o _ _ _ (by decide), h3]
    have g5 : nI 6 - 1 = nI 5 := by decide
    have F := fin (ms (shU u 1640) 0 3 (nI 5)) [(0, .ref c), (1, .int (nI 1640))] 5 (by decide) (by rw [ms_at, if_pos ⟨rfl, rfl⟩]) (Or.inr rfl)
    refine st.trans (loop.trans ?_)
    show evX 89 11 [(0, .ref c), (1, .int (nI 1640))] [] h (evGM m c 9 (shU u 1640)) = _
    refine Eq.trans ?_ F
    simp only [x89_11, x89_12, x89_15, x89_40, x89_41, x89_42, x89_45, x89_46, x89_47, evI_i, evJl_i, evJf_i, evJd_i, evA_r, evA_n, evA_q, evLk_c, evS1_d, evS2_d, evFl_n, evFl_c, evGl_n, evGl_c, evIn_n, evIn_c, evCat_i, evCat_l, evCat_f, evCat_d, evCat_r, evCat_z, evCat_q, evBd_some, evTl_s, evTl_n, va_rf_s, va_rf_n, and_true, true_and, and_false, false_and, if_true, if_false, not_true_eq_false, not_false_eq_true, reduceCtorEq, ↓reduceIte, Nat.reduceAdd, Nat.reduceEqDiff, Nat.reduceLT, Nat.reduceLeDiff, Nat.reduceSub, Nat.zero_ne_one, Nat.one_ne_zero, w0, w1, w2, w3, w4, w5, w6, w7, w8, w9, w10, w11, w12, w13, w14, w15, w16, w17, w18, w19, w20, w21, w22, w23, w24, evGM_get, evGM_set, evGM_get0, evGM_set0, hge, g3, g5]
  · rw [if_neg h6]
    have n6 : ¬ nI r = 6 := by
      intro q
      have := congrArg Int32.toNatClampNeg q
      rw [nI_cl r (by omega)] at this
      exact h6 (this.trans (by decide))
    have F := fin u [(0, .ref c)] r (by omega) h3 (Or.inl rfl)
    refine Eq.trans ?_ F
    simp only [x89_0, x89_1, x89_4, x89_6, evI_i, evJl_i, evJf_i, evJd_i, evA_r, evA_n, evA_q, evLk_c, evS1_d, evS2_d, evFl_n, evFl_c, evGl_n, evGl_c, evIn_n, evIn_c, evCat_i, evCat_l, evCat_f, evCat_d, evCat_r, evCat_z, evCat_q, evBd_some, evTl_s, evTl_n, va_rf_s, va_rf_n, and_true, true_and, and_false, false_and, if_true, if_false, not_true_eq_false, not_false_eq_true, reduceCtorEq, ↓reduceIte, Nat.reduceAdd, Nat.reduceEqDiff, Nat.reduceLT, Nat.reduceLeDiff, Nat.reduceSub, Nat.zero_ne_one, Nat.one_ne_zero, w0, w1, w2, w3, w4, w5, w6, w7, w8, w9, w10, w11, w12, w13, w14, w15, w16, w17, w18, w19, w20, w21, w22, w23, w24, evGM_get, evGM_set, evGM_get0, evGM_set0, h3, n6]
end MO
