/-! the class's object: history, and the changes -/
def stN (x : Nat) : Nat := if x + 1 < 7 then x + 1 else 0
def stP (p : Nat → Nat → Int32) (x k : Nat) (a : Int32) : Nat → Nat → Int32 := if a < 0 then p else ms (ms p 0 1 (nI (stN x))) 0 2 (nI (if k + 1 < 6 then k + 1 else 6))
section WH
variable {h : evH} {u p : Nat → Nat → Int32} {V : Nat → evVt} {n : Nat} {s : Nat → Option Nat}
theorem hb0 : hb 0 = 1 := rfl
theorem hb1 : hb 1 = 42 := rfl
theorem W_copy (hx : xOK h n s) {i k : Nat} (hi : i < 9 + n) (hk : k < 9 + n) (hne : i ≠ k) : evX 8 0 [(0, .ref (hb i)), (1, .ref (hb k))] [] h (memW u p V n) = some (none, h, memW u p (Vs V i (V k)) n) := by
  obtain ⟨hn2, hN, a0, b0, b1, b2, b3, b4, a83, a84, l84, r83, r84, a372, r372, a373, l373, a374, l374, r374, rss, hH⟩ := id hx
  have C := c_HallCopy (m := memW u p V n) (v := V i) (w := V k) (hH i hi) (hH k hk) (hb_apart hne)
  rw [← memW_self hk hn2, ← memW_self hi hn2, memW_put hi hn2] at C
  exact C
theorem W_prepare (hx : xOK h n s) {x : Nat} (hx7 : x < 7) (h1 : p 0 1 = nI x) : evX 36 0 [(0, .ref 83), (1, .ref 1)] [] h (memW u p V n) = some (none, h, memW u p (Vs V (2 + x) (V 0)) n) := by
  obtain ⟨hn2, hN, a0, b0, b1, b2, b3, b4, a83, a84, l84, r83, r84, a372, r372, a373, l373, a374, l374, r374, rss, hH⟩ := id hx
  have e0 : ¬ nI x < 0 := nI_pos (by omega)
  have e1 : (nI x).toNatClampNeg = x := nI_cl _ (by omega)
  have e2 : ¬ Int32.ofNat 7 ≤ nI x := nI_ge hx7 (by omega)
  have e3 := r84 x hx7
  have C := W_copy (u := u) (p := p) (V := V) hx (i := 2 + x) (k := 0) (by omega) (by omega) (by omega)
  rw [hb0] at C
  have h2x : evAt h (hb (2 + x)) 2 := (hH (2 + x) (by omega)).1
  simp only [x36_0, x36_1, x36_4, x36_7, x36_8, x36_11, x36_12, x36_16, x36_19, x36_20, x36_23, x36_24, x36_28n, x36_28, x36_28q, x36_31, x36_32, x36_35, x36_36, x36_40, x36_41, x36_44, x36_15i, x36_15b, x36_15d, x36_15h, x36_15l, x36_27b, x36_27d, x36_27h, x36_27l, x36_39b, x36_39d, x36_39h, x36_39l, evI_i, evJl_i, evJf_i, evJd_i, evA_r, evA_n, evA_q, evLk_c, evS1_d, evS2_d, evFl_n, evFl_c, evGl_n, evGl_c, evIn_n, evIn_c, evCat_i, evCat_l, evCat_f, evCat_d, evCat_r, evCat_z, evCat_q, evBd_some, evTl_s, evTl_n, va_rf_s, va_rf_n, and_true, true_and, and_false, false_and, if_true, if_false, not_true_eq_false, not_false_eq_true, reduceCtorEq, ↓reduceIte, Nat.reduceAdd, Nat.reduceEqDiff, Nat.reduceLT, Nat.reduceLeDiff, Nat.reduceSub, Nat.zero_ne_one, Nat.one_ne_zero, a0, b0, b1, b2, b3, b4, a83, a84, l84, r83, a372, r372, a373, l373, a374, l374, memW_83, memW_372, memW_373, memW_s83, memW_s372, memW_s373, h2x, h1, e0, e1, e2, e3, hx7, C, Option.toList, List.nil_append]
theorem W_settle (hx : xOK h n s) {x k : Nat} (hx7 : x < 7) (hk : k ≤ 6) (h1 : p 0 1 = nI x) (h2 : p 0 2 = nI k) (a : Int32) : evX 37 0 [(0, .ref 83), (1, .int a)] [] h (memW u p V n) = some (some (.int a), h, memW u (stP p x k a) V n) := by
  obtain ⟨hn2, hN, a0, b0, b1, b2, b3, b4, a83, a84, l84, r83, r84, a372, r372, a373, l373, a374, l374, r374, rss, hH⟩ := id hx
  unfold stP
  by_cases ha : a < 0
  · simp only [x37_0, x37_1, x37_4, x37_5, x37_6, x37_9, x37_10, x37_11, x37_12, x37_16, x37_19, x37_20, x37_23, x37_24, x37_25, x37_28, x37_29, x37_32, x37_33, x37_34, x37_37, x37_38, x37_39, x37_41, x37_44, x37_47, x37_48, x37_15i, x37_15b, x37_15d, x37_15h, x37_15l, evI_i, evJl_i, evJf_i, evJd_i, evA_r, evA_n, evA_q, evLk_c, evS1_d, evS2_d, evFl_n, evFl_c, evGl_n, evGl_c, evIn_n, evIn_c, evCat_i, evCat_l, evCat_f, evCat_d, evCat_r, evCat_z, evCat_q, evBd_some, evTl_s, evTl_n, va_rf_s, va_rf_n, and_true, true_and, and_false, false_and, if_true, if_false, not_true_eq_false, not_false_eq_true, reduceCtorEq, ↓reduceIte, Nat.reduceAdd, Nat.reduceEqDiff, Nat.reduceLT, Nat.reduceLeDiff, Nat.reduceSub, Nat.zero_ne_one, Nat.one_ne_zero, ha]
  · have e1 : nI x + 1 = nI (x + 1) := (nI_succ x).symm
    have g : ∀ y, ms p 0 1 y 0 2 = nI k := fun y => by rw [ms_at, if_neg (by omega), h2]
    have e2 : imin (nI k + 1) 6 = nI (if k + 1 < 6 then k + 1 else 6) := by
      rw [show nI k + 1 = nI (k + 1) from (nI_succ k).symm]
      unfold imin
      by_cases hk6 : k + 1 < 6
      · rw [if_neg (show ¬ (6 : Int32) < nI (k + 1) from nI_nlt (a := 6) (by omega) (by omega)), if_pos hk6]
      · by_cases hk7 : k = 6
        · subst hk7; rfl
        · have : k = 5 := by omega
          subst this; rfl
    by_cases hx6 : x + 1 < 7
    · have e3 : ¬ Int32.ofNat 7 ≤ nI (x + 1) := nI_ge hx6 (by omega)
      have e4 : stN x = x + 1 := by unfold stN; rw [if_pos hx6]
      simp only [x37_0, x37_1, x37_4, x37_5, x37_6, x37_9, x37_10, x37_11, x37_12, x37_16, x37_19, x37_20, x37_23, x37_24, x37_25, x37_28, x37_29, x37_32, x37_33, x37_34, x37_37, x37_38, x37_39, x37_41, x37_44, x37_47, x37_48, x37_15i, x37_15b, x37_15d, x37_15h, x37_15l, evI_i, evJl_i, evJf_i, evJd_i, evA_r, evA_n, evA_q, evLk_c, evS1_d, evS2_d, evFl_n, evFl_c, evGl_n, evGl_c, evIn_n, evIn_c, evCat_i, evCat_l, evCat_f, evCat_d, evCat_r, evCat_z, evCat_q, evBd_some, evTl_s, evTl_n, va_rf_s, va_rf_n, and_true, true_and, and_false, false_and, if_true, if_false, not_true_eq_false, not_false_eq_true, reduceCtorEq, ↓reduceIte, Nat.reduceAdd, Nat.reduceEqDiff, Nat.reduceLT, Nat.reduceLeDiff, Nat.reduceSub, Nat.zero_ne_one, Nat.one_ne_zero, a0, b0, b1, b2, b3, b4, a83, a84, l84, r83, a372, r372, a373, l373, a374, l374, memW_83, memW_372, memW_373, memW_s83, memW_s372, memW_s373, ha, h1, e1, e3, e4, g, c_min, e2, Option.toList, List.nil_append, List.cons_append]
    · have e3 : Int32.ofNat 7 ≤ nI (x + 1) := nI_le (a := 7) (by omega) (by omega)
      have e4 : stN x = 0 := by unfold stN; rw [if_neg hx6]
      have e5 : nI 0 = 0 := rfl
      simp only [x37_0, x37_1, x37_4, x37_5, x37_6, x37_9, x37_10, x37_11, x37_12, x37_16, x37_19, x37_20, x37_23, x37_24, x37_25, x37_28, x37_29, x37_32, x37_33, x37_34, x37_37, x37_38, x37_39, x37_41, x37_44, x37_47, x37_48, x37_15i, x37_15b, x37_15d, x37_15h, x37_15l, evI_i, evJl_i, evJf_i, evJd_i, evA_r, evA_n, evA_q, evLk_c, evS1_d, evS2_d, evFl_n, evFl_c, evGl_n, evGl_c, evIn_n, evIn_c, evCat_i, evCat_l, evCat_f, evCat_d, evCat_r, evCat_z, evCat_q, evBd_some, evTl_s, evTl_n, va_rf_s, va_rf_n, and_true, true_and, and_false, false_and, if_true, if_false, not_true_eq_false, not_false_eq_true, reduceCtorEq, ↓reduceIte, Nat.reduceAdd, Nat.reduceEqDiff, Nat.reduceLT, Nat.reduceLeDiff, Nat.reduceSub, Nat.zero_ne_one, Nat.one_ne_zero, a0, b0, b1, b2, b3, b4, a83, a84, l84, r83, a372, r372, a373, l373, a374, l374, memW_83, memW_372, memW_373, memW_s83, memW_s372, memW_s373, ha, h1, e1, e3, e4, e5, g, c_min, e2, Option.toList, List.nil_append, List.cons_append]
def bkN (x : Nat) : Nat := if 0 < x then x - 1 else 6
theorem W_takeBack (hx : xOK h n s) {x k : Nat} (hx7 : x < 7) (hk : k ≤ 6) (h1 : p 0 1 = nI x) (h2 : p 0 2 = nI k) : evX 38 0 [(0, .ref 83), (1, .ref 1)] [] h (memW u p V n) = some (some (.int (if k = 0 then -5 else nI (k - 1))), h, memW u (if k = 0 then p else ms (ms p 0 1 (nI (bkN x))) 0 2 (nI (k - 1))) (if k = 0 then V else Vs V 0 (V (2 + bkN x))) n) := by
  obtain ⟨hn2, hN, a0, b0, b1, b2, b3, b4, a83, a84, l84, r83, r84, a372, r372, a373, l373, a374, l374, r374, rss, hH⟩ := id hx
  by_cases hk0 : k = 0
  · subst hk0
    have z : (nI 0 : Int32) = 0 := rfl
    simp only [x38_0, x38_1, x38_4, x38_7, x38_9, x38_10, x38_11, x38_12, x38_15, x38_18, x38_19, x38_22, x38_23, x38_24, x38_27, x38_28, x38_32, x38_33, x38_34, x38_37, x38_38, x38_41, x38_44, x38_45, x38_48, x38_49, x38_53, x38_56, x38_57, x38_60, x38_61, x38_65n, x38_65, x38_65q, x38_68, x38_69, x38_70, x38_73, x38_74, x38_78, x38_81, x38_82, x38_83, x38_86, x38_87, x38_88, x38_91, x38_92, x38_95, x38_31i, x38_31b, x38_31d, x38_31h, x38_31l, x38_52i, x38_52b, x38_52d, x38_52h, x38_52l, x38_64b, x38_64d, x38_64h, x38_64l, x38_77b, x38_77d, x38_77h, x38_77l, evI_i, evJl_i, evJf_i, evJd_i, evA_r, evA_n, evA_q, evLk_c, evS1_d, evS2_d, evFl_n, evFl_c, evGl_n, evGl_c, evIn_n, evIn_c, evCat_i, evCat_l, evCat_f, evCat_d, evCat_r, evCat_z, evCat_q, evBd_some, evTl_s, evTl_n, va_rf_s, va_rf_n, and_true, true_and, and_false, false_and, if_true, if_false, not_true_eq_false, not_false_eq_true, reduceCtorEq, ↓reduceIte, Nat.reduceAdd, Nat.reduceEqDiff, Nat.reduceLT, Nat.reduceLeDiff, Nat.reduceSub, Nat.zero_ne_one, Nat.one_ne_zero, a0, b0, b1, b2, b3, b4, a83, a84, l84, r83, a372, r372, a373, l373, a374, l374, memW_83, memW_372, memW_373, memW_s83, memW_s372, memW_s373, h2, z]
  · have z : ¬ nI k = 0 := nI_ne0 (by omega) (by omega)
    have hb7 : bkN x < 7 := by unfold bkN; split <;> omega
    have e0 : ¬ nI (bkN x) < 0 := nI_pos (by omega)
    have e1 : (nI (bkN x)).toNatClampNeg = bkN x := nI_cl _ (by omega)
    have e2 : ¬ Int32.ofNat 7 ≤ nI (bkN x) := nI_ge hb7 (by omega)
    have e3 := r84 (bkN x) hb7
    have g1 : ∀ y, ms p 0 1 y 0 1 = y := fun y => by rw [ms_at, if_pos ⟨rfl, rfl⟩]
    have g2 : ∀ y, ms p 0 1 y 0 2 = nI k := fun y => by rw [ms_at, if_neg (by omega), h2]
    have g3 : ∀ y w, ms (ms p 0 1 y) 0 2 w 0 2 = w := fun y w => by rw [ms_at, if_pos ⟨rfl, rfl⟩]
    have ek : nI k - 1 = nI (k - 1) := pk_sub (b := 1) (by omega)
    have C := fun p => W_copy (u := u) (p := p) (V := V) hx (i := 0) (k := 2 + bkN x) (by omega) (by omega) (by omega)
    rw [hb0] at C
    have h01 : evAt h 1 2 := (hH 0 (by omega)).1
    by_cases hx0 : 0 < x
    · have a1 : ¬ nI x ≤ 0 := nI_nle hx0 (by omega)
      have a2 : nI x - 1 = nI (bkN x) := by unfold bkN; rw [if_pos hx0]; exact pk_sub (b := 1) (by omega)
      simp only [x38_0, x38_1, x38_4, x38_7, x38_9, x38_10, x38_11, x38_12, x38_15, x38_18, x38_19, x38_22, x38_23, x38_24, x38_27, x38_28, x38_32, x38_33, x38_34, x38_37, x38_38, x38_41, x38_44, x38_45, x38_48, x38_49, x38_53, x38_56, x38_57, x38_60, x38_61, x38_65n, x38_65, x38_65q, x38_68, x38_69, x38_70, x38_73, x38_74, x38_78, x38_81, x38_82, x38_83, x38_86, x38_87, x38_88, x38_91, x38_92, x38_95, x38_31i, x38_31b, x38_31d, x38_31h, x38_31l, x38_52i, x38_52b, x38_52d, x38_52h, x38_52l, x38_64b, x38_64d, x38_64h, x38_64l, x38_77b, x38_77d, x38_77h, x38_77l, evI_i, evJl_i, evJf_i, evJd_i, evA_r, evA_n, evA_q, evLk_c, evS1_d, evS2_d, evFl_n, evFl_c, evGl_n, evGl_c, evIn_n, evIn_c, evCat_i, evCat_l, evCat_f, evCat_d, evCat_r, evCat_z, evCat_q, evBd_some, evTl_s, evTl_n, va_rf_s, va_rf_n, and_true, true_and, and_false, false_and, if_true, if_false, not_true_eq_false, not_false_eq_true, reduceCtorEq, ↓reduceIte, Nat.reduceAdd, Nat.reduceEqDiff, Nat.reduceLT, Nat.reduceLeDiff, Nat.reduceSub, Nat.zero_ne_one, Nat.one_ne_zero, a0, b0, b1, b2, b3, b4, a83, a84, l84, r83, a372, r372, a373, l373, a374, l374, memW_83, memW_372, memW_373, memW_s83, memW_s372, memW_s373, h01, h1, h2, z, hk0, a1, a2, e0, e1, e2, e3, hb7, g1, g2, g3, ek, C, Option.toList, List.nil_append]
    · have hx00 : x = 0 := by omega
      subst hx00
      have a1 : nI 0 ≤ 0 := by decide
      have a2 : Int32.ofNat 7 - 1 = nI (bkN 0) := rfl
      simp only [x38_0, x38_1, x38_4, x38_7, x38_9, x38_10, x38_11, x38_12, x38_15, x38_18, x38_19, x38_22, x38_23, x38_24, x38_27, x38_28, x38_32, x38_33, x38_34, x38_37, x38_38, x38_41, x38_44, x38_45, x38_48, x38_49, x38_53, x38_56, x38_57, x38_60, x38_61, x38_65n, x38_65, x38_65q, x38_68, x38_69, x38_70, x38_73, x38_74, x38_78, x38_81, x38_82, x38_83, x38_86, x38_87, x38_88, x38_91, x38_92, x38_95, x38_31i, x38_31b, x38_31d, x38_31h, x38_31l, x38_52i, x38_52b, x38_52d, x38_52h, x38_52l, x38_64b, x38_64d, x38_64h, x38_64l, x38_77b, x38_77d, x38_77h, x38_77l, evI_i, evJl_i, evJf_i, evJd_i, evA_r, evA_n, evA_q, evLk_c, evS1_d, evS2_d, evFl_n, evFl_c, evGl_n, evGl_c, evIn_n, evIn_c, evCat_i, evCat_l, evCat_f, evCat_d, evCat_r, evCat_z, evCat_q, evBd_some, evTl_s, evTl_n, va_rf_s, va_rf_n, and_true, true_and, and_false, false_and, if_true, if_false, not_true_eq_false, not_false_eq_true, reduceCtorEq, ↓reduceIte, Nat.reduceAdd, Nat.reduceEqDiff, Nat.reduceLT, Nat.reduceLeDiff, Nat.reduceSub, Nat.zero_ne_one, Nat.one_ne_zero, a0, b0, b1, b2, b3, b4, a83, a84, l84, r83, a372, r372, a373, l373, a374, l374, memW_83, memW_372, memW_373, memW_s83, memW_s372, memW_s373, h01, h1, h2, z, hk0, a1, a2, e0, e1, e2, e3, hb7, g1, g2, g3, ek, C, Option.toList, List.nil_append]
theorem W_changeSetting (hx : xOK h n s) (hs0 : evSp h 0 = (4, evGv 0)) (hs1 : evSp h 1 = (4, evGv 1)) {i : Nat} (hi : i < 9 + n) (x y : Int32) : evX 13 0 [(0, .ref (hb i)), (1, .int x), (2, .int y)] [] h (memW u p V n) = some (some (.int (clSet (V i) x y).1), h, memW u p (Vs V i (clSet (V i) x y).2) n) := by
  obtain ⟨hn2, hN, a0, b0, b1, b2, b3, b4, a83, a84, l84, r83, r84, a372, r372, a373, l373, a374, l374, r374, rss, hH⟩ := id hx
  have C := c_changeSetting (m := memW u p V n) (v := V i) (hH i hi) hs0 hs1 x y
  rw [← memW_self hi hn2, memW_put hi hn2] at C
  rw [C]
  unfold clSet
  split
  · rw [Vs_id]
  · split
    · rw [Vs_id]
    · rfl
theorem W_tellBid (hx : xOK h n s) {b : Nat} (hb6 : b ≤ 6) (hv : V 0 1 0 0 = nI b) (x y : Int32) : evX 17 0 [(0, .ref 1), (1, .int x), (2, .int y)] [] h (memW u p V n) = some (some (.int (clTold (V 0) x y).1), h, memW u p (Vs V 0 (clTold (V 0) x y).2) n) := by
  obtain ⟨hn2, hN, a0, b0, b1, b2, b3, b4, a83, a84, l84, r83, r84, a372, r372, a373, l373, a374, l374, r374, rss, hH⟩ := id hx
  have C := c_tellBid (m := memW u p V n) (v := V 0) (hH 0 (by omega)) hb6 hv x y
  rw [← memW_self (by omega) hn2, memW_put (by omega) hn2, hb0] at C
  rw [C]
  unfold clTold
  have eb : (bAt (V 0) 1 x = none) = (bAt (V 0) 0 x = none) := bAt_n0 x
  by_cases hq : bAt (V 0) 0 x = none
  · rw [if_pos (eb.mpr hq), if_pos hq, Vs_id]
  · rw [if_neg (fun z => hq (eb.mp z)), if_neg hq]
    split
    · rw [Vs_id]
    · rfl
theorem W_changePlan (hx : xOK h n s) {b : Nat} (hb6 : b ≤ 6) (hv : V 0 1 0 0 = nI b) (x y : Int32) : evX 15 0 [(0, .ref 1), (1, .int x), (2, .int y)] [] h (memW u p V n) = some (some (.int (clPlan (V 0) x y).1), h, memW u p (Vs V 0 (clPlan (V 0) x y).2) n) := by
  obtain ⟨hn2, hN, a0, b0, b1, b2, b3, b4, a83, a84, l84, r83, r84, a372, r372, a373, l373, a374, l374, r374, rss, hH⟩ := id hx
  have C := c_changePlan (m := memW u p V n) (v := V 0) (hH 0 (by omega)) hb6 hv x y
  rw [← memW_self (by omega) hn2, memW_put (by omega) hn2, hb0] at C
  rw [C]
  unfold clPlan
  have eb : (bAt (V 0) 1 x = none) = (bAt (V 0) 0 x = none) := bAt_n0 x
  by_cases hq : bAt (V 0) 0 x = none
  · rw [if_pos (eb.mpr hq), if_pos hq, Vs_id]
  · rw [if_neg (fun z => hq (eb.mp z)), if_neg hq]
    split
    · rw [Vs_id]
    · rfl
theorem W_addBidder (hx : xOK h n s) {b : Nat} (hb6 : b ≤ 6) (hv : V 0 1 0 0 = nI b) (x y : Int32) : evX 14 0 [(0, .ref 1), (1, .int x), (2, .int y)] [] h (memW u p V n) = some (some (.int (clBidder b (V 0) x y).1), h, memW u p (Vs V 0 (clBidder b (V 0) x y).2) n) := by
  obtain ⟨hn2, hN, a0, b0, b1, b2, b3, b4, a83, a84, l84, r83, r84, a372, r372, a373, l373, a374, l374, r374, rss, hH⟩ := id hx
  have C := c_addBidder (m := memW u p V n) (v := V 0) (hH 0 (by omega)) hb6 hv x y
  rw [← memW_self (by omega) hn2, memW_put (by omega) hn2, hb0] at C
  rw [C]
  unfold clBidder
  split
  · rw [Vs_id]
  · split
    · rw [Vs_id]
    · rfl
theorem W_addLot (hx : xOK h n s) {q : Nat} (hq8 : q ≤ 8) (hv : V 0 1 1 0 = nI q) (x : Int32) : evX 16 0 [(0, .ref 1), (1, .int x)] [] h (memW u p V n) = some (some (.int (clLot q (V 0) x).1), h, memW u p (Vs V 0 (clLot q (V 0) x).2) n) := by
  obtain ⟨hn2, hN, a0, b0, b1, b2, b3, b4, a83, a84, l84, r83, r84, a372, r372, a373, l373, a374, l374, r374, rss, hH⟩ := id hx
  have C := c_addLot (m := memW u p V n) (v := V 0) (hH 0 (by omega)) hq8 hv x
  rw [← memW_self (by omega) hn2, memW_put (by omega) hn2, hb0] at C
  rw [C]
  unfold clLot
  split
  · rw [Vs_id]
  · split
    · rw [Vs_id]
    · rfl
theorem W_letPass (hx : xOK h n s) {b q t r : Nat} (hv : okV (V 0) b q t) (ht : t + 600 < 2 ^ 30) (hr : V 0 1 4 0 = nI r) (hr2 : r ≤ 9999) (x : Int32) : evX 18 0 [(0, .ref 1), (1, .int x)] [] h (memW u p V n) = some (some (.int (clPass b (V 0) x).1), h, memW u p (Vs V 0 (clPass b (V 0) x).2) n) := by
  obtain ⟨hn2, hN, a0, b0, b1, b2, b3, b4, a83, a84, l84, r83, r84, a372, r372, a373, l373, a374, l374, r374, rss, hH⟩ := id hx
  have C := c_letPass (m := memW u p V n) (v := V 0) (hH 0 (by omega)) hv ht hr hr2 x
  rw [← memW_self (by omega) hn2, memW_put (by omega) hn2, hb0] at C
  rw [C]
  unfold clPass
  split
  · rw [Vs_id]
  · split
    · rw [Vs_id]
    · rfl
/-- a change: what is ahead is prepared, then the hall changes, then it is settled -/
def chW (V : Nat → evVt) (x : Nat) (v : evVt) : Nat → evVt := Vs (Vs V (2 + x) (V 0)) 0 v
theorem Vs_0 (x : Nat) (v : evVt) : Vs V (2 + x) v 0 = V 0 := by rw [Vs_at, if_neg (by omega)]
theorem W_set (hx : xOK h n s) (hs0 : evSp h 0 = (4, evGv 0)) (hs1 : evSp h 1 = (4, evGv 1)) {x k : Nat} (hx7 : x < 7) (hk : k ≤ 6) (h1 : p 0 1 = nI x) (h2 : p 0 2 = nI k) (y z : Int32) : evX 60 0 [(0, .ref 0), (1, .int y), (2, .int z)] [] h (memW u p V n) = some (some (.int (clSet (V 0) y z).1), h, memW u (stP p x k (clSet (V 0) y z).1) (chW V x (clSet (V 0) y z).2) n) := by
  obtain ⟨hn2, hN, a0, b0, b1, b2, b3, b4, a83, a84, l84, r83, r84, a372, r372, a373, l373, a374, l374, r374, rss, hH⟩ := id hx
  have P := W_prepare (u := u) (V := V) hx hx7 h1
  have S := fun V a => W_settle (u := u) (V := V) hx hx7 hk h1 h2 a
  have C := W_changeSetting (u := u) (p := p) (V := Vs V (2 + x) (V 0)) hx hs0 hs1 (i := 0) (by omega) y z
  rw [Vs_0, hb0] at C
  unfold chW
  have h01 : evAt h 1 2 := (hH 0 (by omega)).1
  simp only [h01, x60_0, x60_1, x60_4, x60_5, x60_8, x60_11, x60_12, x60_15, x60_16, x60_19, x60_20, x60_21, x60_24, x60_27, evI_i, evJl_i, evJf_i, evJd_i, evA_r, evA_n, evA_q, evLk_c, evS1_d, evS2_d, evFl_n, evFl_c, evGl_n, evGl_c, evIn_n, evIn_c, evCat_i, evCat_l, evCat_f, evCat_d, evCat_r, evCat_z, evCat_q, evBd_some, evTl_s, evTl_n, va_rf_s, va_rf_n, and_true, true_and, and_false, false_and, if_true, if_false, not_true_eq_false, not_false_eq_true, reduceCtorEq, ↓reduceIte, Nat.reduceAdd, Nat.reduceEqDiff, Nat.reduceLT, Nat.reduceLeDiff, Nat.reduceSub, Nat.zero_ne_one, Nat.one_ne_zero, a0, b0, b1, b2, b3, b4, a83, a84, l84, r83, a372, r372, a373, l373, a374, l374, memW_83, memW_372, memW_373, memW_s83, memW_s372, memW_s373, P, S, C, Option.toList, List.nil_append, List.cons_append]
theorem W_bidder (hx : xOK h n s) {b : Nat} (hb6 : b ≤ 6) (hv : V 0 1 0 0 = nI b) {x k : Nat} (hx7 : x < 7) (hk : k ≤ 6) (h1 : p 0 1 = nI x) (h2 : p 0 2 = nI k) (y z : Int32) : evX 61 0 [(0, .ref 0), (1, .int y), (2, .int z)] [] h (memW u p V n) = some (some (.int (clBidder b (V 0) y z).1), h, memW u (stP p x k (clBidder b (V 0) y z).1) (chW V x (clBidder b (V 0) y z).2) n) := by
  obtain ⟨hn2, hN, a0, b0, b1, b2, b3, b4, a83, a84, l84, r83, r84, a372, r372, a373, l373, a374, l374, r374, rss, hH⟩ := id hx
  have P := W_prepare (u := u) (V := V) hx hx7 h1
  have S := fun V a => W_settle (u := u) (V := V) hx hx7 hk h1 h2 a
  have C := W_addBidder (u := u) (p := p) (V := Vs V (2 + x) (V 0)) hx hb6 (by rw [Vs_0]; exact hv) y z
  rw [Vs_0] at C
  unfold chW
  have h01 : evAt h 1 2 := (hH 0 (by omega)).1
  simp only [h01, x61_0, x61_1, x61_4, x61_5, x61_8, x61_11, x61_12, x61_15, x61_16, x61_19, x61_20, x61_21, x61_24, x61_27, evI_i, evJl_i, evJf_i, evJd_i, evA_r, evA_n, evA_q, evLk_c, evS1_d, evS2_d, evFl_n, evFl_c, evGl_n, evGl_c, evIn_n, evIn_c, evCat_i, evCat_l, evCat_f, evCat_d, evCat_r, evCat_z, evCat_q, evBd_some, evTl_s, evTl_n, va_rf_s, va_rf_n, and_true, true_and, and_false, false_and, if_true, if_false, not_true_eq_false, not_false_eq_true, reduceCtorEq, ↓reduceIte, Nat.reduceAdd, Nat.reduceEqDiff, Nat.reduceLT, Nat.reduceLeDiff, Nat.reduceSub, Nat.zero_ne_one, Nat.one_ne_zero, a0, b0, b1, b2, b3, b4, a83, a84, l84, r83, a372, r372, a373, l373, a374, l374, memW_83, memW_372, memW_373, memW_s83, memW_s372, memW_s373, P, S, C, Option.toList, List.nil_append, List.cons_append]
theorem W_plan (hx : xOK h n s) {b : Nat} (hb6 : b ≤ 6) (hv : V 0 1 0 0 = nI b) {x k : Nat} (hx7 : x < 7) (hk : k ≤ 6) (h1 : p 0 1 = nI x) (h2 : p 0 2 = nI k) (y z : Int32) : evX 62 0 [(0, .ref 0), (1, .int y), (2, .int z)] [] h (memW u p V n) = some (some (.int (clPlan (V 0) y z).1), h, memW u (stP p x k (clPlan (V 0) y z).1) (chW V x (clPlan (V 0) y z).2) n) := by
  obtain ⟨hn2, hN, a0, b0, b1, b2, b3, b4, a83, a84, l84, r83, r84, a372, r372, a373, l373, a374, l374, r374, rss, hH⟩ := id hx
  have P := W_prepare (u := u) (V := V) hx hx7 h1
  have S := fun V a => W_settle (u := u) (V := V) hx hx7 hk h1 h2 a
  have C := W_changePlan (u := u) (p := p) (V := Vs V (2 + x) (V 0)) hx hb6 (by rw [Vs_0]; exact hv) y z
  rw [Vs_0] at C
  unfold chW
  have h01 : evAt h 1 2 := (hH 0 (by omega)).1
  simp only [h01, x62_0, x62_1, x62_4, x62_5, x62_8, x62_11, x62_12, x62_15, x62_16, x62_19, x62_20, x62_21, x62_24, x62_27, evI_i, evJl_i, evJf_i, evJd_i, evA_r, evA_n, evA_q, evLk_c, evS1_d, evS2_d, evFl_n, evFl_c, evGl_n, evGl_c, evIn_n, evIn_c, evCat_i, evCat_l, evCat_f, evCat_d, evCat_r, evCat_z, evCat_q, evBd_some, evTl_s, evTl_n, va_rf_s, va_rf_n, and_true, true_and, and_false, false_and, if_true, if_false, not_true_eq_false, not_false_eq_true, reduceCtorEq, ↓reduceIte, Nat.reduceAdd, Nat.reduceEqDiff, Nat.reduceLT, Nat.reduceLeDiff, Nat.reduceSub, Nat.zero_ne_one, Nat.one_ne_zero, a0, b0, b1, b2, b3, b4, a83, a84, l84, r83, a372, r372, a373, l373, a374, l374, memW_83, memW_372, memW_373, memW_s83, memW_s372, memW_s373, P, S, C, Option.toList, List.nil_append, List.cons_append]
theorem W_bid (hx : xOK h n s) {b : Nat} (hb6 : b ≤ 6) (hv : V 0 1 0 0 = nI b) {x k : Nat} (hx7 : x < 7) (hk : k ≤ 6) (h1 : p 0 1 = nI x) (h2 : p 0 2 = nI k) (y z : Int32) : evX 64 0 [(0, .ref 0), (1, .int y), (2, .int z)] [] h (memW u p V n) = some (some (.int (clTold (V 0) y z).1), h, memW u (stP p x k (clTold (V 0) y z).1) (chW V x (clTold (V 0) y z).2) n) := by
  obtain ⟨hn2, hN, a0, b0, b1, b2, b3, b4, a83, a84, l84, r83, r84, a372, r372, a373, l373, a374, l374, r374, rss, hH⟩ := id hx
  have P := W_prepare (u := u) (V := V) hx hx7 h1
  have S := fun V a => W_settle (u := u) (V := V) hx hx7 hk h1 h2 a
  have C := W_tellBid (u := u) (p := p) (V := Vs V (2 + x) (V 0)) hx hb6 (by rw [Vs_0]; exact hv) y z
  rw [Vs_0] at C
  unfold chW
  have h01 : evAt h 1 2 := (hH 0 (by omega)).1
  simp only [h01, x64_0, x64_1, x64_4, x64_5, x64_8, x64_11, x64_12, x64_15, x64_16, x64_19, x64_20, x64_21, x64_24, x64_27, evI_i, evJl_i, evJf_i, evJd_i, evA_r, evA_n, evA_q, evLk_c, evS1_d, evS2_d, evFl_n, evFl_c, evGl_n, evGl_c, evIn_n, evIn_c, evCat_i, evCat_l, evCat_f, evCat_d, evCat_r, evCat_z, evCat_q, evBd_some, evTl_s, evTl_n, va_rf_s, va_rf_n, and_true, true_and, and_false, false_and, if_true, if_false, not_true_eq_false, not_false_eq_true, reduceCtorEq, ↓reduceIte, Nat.reduceAdd, Nat.reduceEqDiff, Nat.reduceLT, Nat.reduceLeDiff, Nat.reduceSub, Nat.zero_ne_one, Nat.one_ne_zero, a0, b0, b1, b2, b3, b4, a83, a84, l84, r83, a372, r372, a373, l373, a374, l374, memW_83, memW_372, memW_373, memW_s83, memW_s372, memW_s373, P, S, C, Option.toList, List.nil_append, List.cons_append]
theorem W_lot (hx : xOK h n s) {q : Nat} (hq8 : q ≤ 8) (hv : V 0 1 1 0 = nI q) {x k : Nat} (hx7 : x < 7) (hk : k ≤ 6) (h1 : p 0 1 = nI x) (h2 : p 0 2 = nI k) (y : Int32) : evX 63 0 [(0, .ref 0), (1, .int y)] [] h (memW u p V n) = some (some (.int (clLot q (V 0) y).1), h, memW u (stP p x k (clLot q (V 0) y).1) (chW V x (clLot q (V 0) y).2) n) := by
  obtain ⟨hn2, hN, a0, b0, b1, b2, b3, b4, a83, a84, l84, r83, r84, a372, r372, a373, l373, a374, l374, r374, rss, hH⟩ := id hx
  have P := W_prepare (u := u) (V := V) hx hx7 h1
  have S := fun V a => W_settle (u := u) (V := V) hx hx7 hk h1 h2 a
  have C := W_addLot (u := u) (p := p) (V := Vs V (2 + x) (V 0)) hx hq8 (by rw [Vs_0]; exact hv) y
  rw [Vs_0] at C
  unfold chW
  have h01 : evAt h 1 2 := (hH 0 (by omega)).1
  simp only [h01, x63_0, x63_1, x63_4, x63_5, x63_8, x63_11, x63_12, x63_15, x63_16, x63_19, x63_20, x63_23, x63_26, evI_i, evJl_i, evJf_i, evJd_i, evA_r, evA_n, evA_q, evLk_c, evS1_d, evS2_d, evFl_n, evFl_c, evGl_n, evGl_c, evIn_n, evIn_c, evCat_i, evCat_l, evCat_f, evCat_d, evCat_r, evCat_z, evCat_q, evBd_some, evTl_s, evTl_n, va_rf_s, va_rf_n, and_true, true_and, and_false, false_and, if_true, if_false, not_true_eq_false, not_false_eq_true, reduceCtorEq, ↓reduceIte, Nat.reduceAdd, Nat.reduceEqDiff, Nat.reduceLT, Nat.reduceLeDiff, Nat.reduceSub, Nat.zero_ne_one, Nat.one_ne_zero, a0, b0, b1, b2, b3, b4, a83, a84, l84, r83, a372, r372, a373, l373, a374, l374, memW_83, memW_372, memW_373, memW_s83, memW_s372, memW_s373, P, S, C, Option.toList, List.nil_append, List.cons_append]
theorem W_pass (hx : xOK h n s) {b q t r : Nat} (hv : okV (V 0) b q t) (ht : t + 600 < 2 ^ 30) (hr : V 0 1 4 0 = nI r) (hr2 : r ≤ 9999) {x k : Nat} (hx7 : x < 7) (hk : k ≤ 6) (h1 : p 0 1 = nI x) (h2 : p 0 2 = nI k) (y : Int32) : evX 65 0 [(0, .ref 0), (1, .int y)] [] h (memW u p V n) = some (some (.int (clPass b (V 0) y).1), h, memW u (stP p x k (clPass b (V 0) y).1) (chW V x (clPass b (V 0) y).2) n) := by
  obtain ⟨hn2, hN, a0, b0, b1, b2, b3, b4, a83, a84, l84, r83, r84, a372, r372, a373, l373, a374, l374, r374, rss, hH⟩ := id hx
  have P := W_prepare (u := u) (V := V) hx hx7 h1
  have S := fun V a => W_settle (u := u) (V := V) hx hx7 hk h1 h2 a
  have C := W_letPass (u := u) (p := p) (V := Vs V (2 + x) (V 0)) hx (by rw [Vs_0]; exact hv) ht (by rw [Vs_0]; exact hr) hr2 y
  rw [Vs_0] at C
  unfold chW
  have h01 : evAt h 1 2 := (hH 0 (by omega)).1
  simp only [h01, x65_0, x65_1, x65_4, x65_5, x65_8, x65_11, x65_12, x65_15, x65_16, x65_19, x65_20, x65_23, x65_26, evI_i, evJl_i, evJf_i, evJd_i, evA_r, evA_n, evA_q, evLk_c, evS1_d, evS2_d, evFl_n, evFl_c, evGl_n, evGl_c, evIn_n, evIn_c, evCat_i, evCat_l, evCat_f, evCat_d, evCat_r, evCat_z, evCat_q, evBd_some, evTl_s, evTl_n, va_rf_s, va_rf_n, and_true, true_and, and_false, false_and, if_true, if_false, not_true_eq_false, not_false_eq_true, reduceCtorEq, ↓reduceIte, Nat.reduceAdd, Nat.reduceEqDiff, Nat.reduceLT, Nat.reduceLeDiff, Nat.reduceSub, Nat.zero_ne_one, Nat.one_ne_zero, a0, b0, b1, b2, b3, b4, a83, a84, l84, r83, a372, r372, a373, l373, a374, l374, memW_83, memW_372, memW_373, memW_s83, memW_s372, memW_s373, P, S, C, Option.toList, List.nil_append, List.cons_append]
theorem W_undo (hx : xOK h n s) {x k : Nat} (hx7 : x < 7) (hk : k ≤ 6) (h1 : p 0 1 = nI x) (h2 : p 0 2 = nI k) : evX 79 0 [(0, .ref 0)] [] h (memW u p V n) = some (some (.int (if k = 0 then -5 else nI (k - 1))), h, memW u (if k = 0 then p else ms (ms p 0 1 (nI (bkN x))) 0 2 (nI (k - 1))) (if k = 0 then V else Vs V 0 (V (2 + bkN x))) n) := by
  obtain ⟨hn2, hN, a0, b0, b1, b2, b3, b4, a83, a84, l84, r83, r84, a372, r372, a373, l373, a374, l374, r374, rss, hH⟩ := id hx
  have P := W_takeBack (u := u) (V := V) hx hx7 hk h1 h2
  simp only [x79_0, x79_1, x79_4, x79_5, x79_8, x79_11, evI_i, evJl_i, evJf_i, evJd_i, evA_r, evA_n, evA_q, evLk_c, evS1_d, evS2_d, evFl_n, evFl_c, evGl_n, evGl_c, evIn_n, evIn_c, evCat_i, evCat_l, evCat_f, evCat_d, evCat_r, evCat_z, evCat_q, evBd_some, evTl_s, evTl_n, va_rf_s, va_rf_n, and_true, true_and, and_false, false_and, if_true, if_false, not_true_eq_false, not_false_eq_true, reduceCtorEq, ↓reduceIte, Nat.reduceAdd, Nat.reduceEqDiff, Nat.reduceLT, Nat.reduceLeDiff, Nat.reduceSub, Nat.zero_ne_one, Nat.one_ne_zero, a0, b0, b1, b2, b3, b4, a83, a84, l84, r83, a372, r372, a373, l373, a374, l374, memW_83, memW_372, memW_373, memW_s83, memW_s372, memW_s373, P, Option.toList, List.nil_append, List.cons_append]
end WH
