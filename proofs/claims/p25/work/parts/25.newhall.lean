/-! a new hall -/
def gKB (K : Nat → Nat × Nat) : Nat → Nat → Nat × Nat
  | 0 => K
  | k + 1 => ks (ks (gKB K k) (7 + 2 * k) (1, 9)) (7 + 2 * k + 1) (0, 3)
def gRB (b : Nat) (R : Nat → Nat → Option Nat) : Nat → Nat → Nat → Option Nat
  | 0 => R
  | k + 1 => rs (rs (rz (rz (gRB b R k) (7 + 2 * k)) (7 + 2 * k + 1)) (7 + 2 * k) 8 (some (b + (7 + 2 * k + 1)))) 2 k (some (b + (7 + 2 * k)))
def gfB (f : Nat → Nat → Int32) : Nat → Nat → Nat → Int32
  | 0 => f
  | k + 1 => ms (mz (mz (gfB f k) (7 + 2 * k)) (7 + 2 * k + 1)) (7 + 2 * k + 1) 0 (-6)
def gKL (K : Nat → Nat × Nat) : Nat → Nat → Nat × Nat
  | 0 => K
  | k + 1 => ks (ks (gKL K k) (19 + 2 * k) (4, 6)) (19 + 2 * k + 1) (0, 3)
def gRL (b : Nat) (R : Nat → Nat → Option Nat) : Nat → Nat → Nat → Option Nat
  | 0 => R
  | k + 1 => rs (rs (rz (rz (gRL b R k) (19 + 2 * k)) (19 + 2 * k + 1)) (19 + 2 * k) 5 (some (b + (19 + 2 * k + 1)))) 3 k (some (b + (19 + 2 * k)))
def gfL (f : Nat → Nat → Int32) : Nat → Nat → Nat → Int32
  | 0 => f
  | k + 1 => ms (mz (mz (gfL f k) (19 + 2 * k)) (19 + 2 * k + 1)) (19 + 2 * k + 1) 0 (-6)
def gKE (K : Nat → Nat × Nat) : Nat → Nat → Nat × Nat
  | 0 => K
  | k + 1 => ks (gKE K k) (35 + k) (0, 3)
def gRE (b : Nat) (R : Nat → Nat → Option Nat) : Nat → Nat → Nat → Option Nat
  | 0 => R
  | k + 1 => rs (rz (gRE b R k) (35 + k)) 4 k (some (b + (35 + k)))
def gfE (f : Nat → Nat → Int32) : Nat → Nat → Nat → Int32
  | 0 => f
  | k + 1 => ms (mz (gfE f k) (35 + k)) (35 + k) 0 (-6)
theorem gKB_lt (K : Nat → Nat × Nat) (k : Nat) {o : Nat} (h : o < 7) : gKB K k o = K o := by
  induction k with
  | zero => rfl
  | succ k ih => show ks (ks (gKB K k) _ _) _ _ o = _; rw [ks_at, ks_at, if_neg (by omega), if_neg (by omega), ih]
theorem gRB_0 (b : Nat) (R : Nat → Nat → Option Nat) (k j : Nat) : gRB b R k 0 j = R 0 j := by
  induction k with
  | zero => rfl
  | succ k ih => show rs (rs (rz (rz (gRB b R k) _) _) _ _ _) _ _ _ 0 j = _; rw [rs_at, rs_at, rz_at, rz_at, if_neg (by omega), if_neg (by omega), if_neg (by omega), if_neg (by omega), ih]
theorem gKL_lt (K : Nat → Nat × Nat) (k : Nat) {o : Nat} (h : o < 7) : gKL K k o = K o := by
  induction k with
  | zero => rfl
  | succ k ih => show ks (ks (gKL K k) _ _) _ _ o = _; rw [ks_at, ks_at, if_neg (by omega), if_neg (by omega), ih]
theorem gRL_0 (b : Nat) (R : Nat → Nat → Option Nat) (k j : Nat) : gRL b R k 0 j = R 0 j := by
  induction k with
  | zero => rfl
  | succ k ih => show rs (rs (rz (rz (gRL b R k) _) _) _ _ _) _ _ _ 0 j = _; rw [rs_at, rs_at, rz_at, rz_at, if_neg (by omega), if_neg (by omega), if_neg (by omega), if_neg (by omega), ih]
theorem gKE_lt (K : Nat → Nat × Nat) (k : Nat) {o : Nat} (h : o < 7) : gKE K k o = K o := by
  induction k with
  | zero => rfl
  | succ k ih => show ks (gKE K k) _ _ o = _; rw [ks_at, if_neg (by omega), ih]
theorem gRE_0 (b : Nat) (R : Nat → Nat → Option Nat) (k j : Nat) : gRE b R k 0 j = R 0 j := by
  induction k with
  | zero => rfl
  | succ k ih => show rs (rz (gRE b R k) _) _ _ _ 0 j = _; rw [rs_at, rz_at, if_neg (by omega), if_neg (by omega), ih]
section NH
variable {h : evH} {m : evM} {b s : Nat} {K : Nat → Nat × Nat} {R : Nat → Nat → Option Nat} {f : Nat → Nat → Int32}
set_option maxHeartbeats 1000000 in
theorem c_HallB (hn : ∀ o, o < 41 → b + o < evO9) (h9 : b < evO9) (k0 : K 0 = (2, 10)) (k2 : K 2 = (11, 6)) (r6 : R 0 6 = some (b + 2)) : evX 7 73 [(0, .ref b), (1, .int (nI 0))] [] (evG h b 7 s K R) (evGM m b 7 f) = evX 7 101 [(0, .ref b), (1, .int (nI 6))] [] (evG h b 19 (s + 72) (gKB K 6) (gRB b R 6)) (evGM m b 19 (gfB f 6)) := by
  have h6 : Int32.ofNat 6 = nI 6 := rfl
  have loop := loop_up (G := fun k => evX 7 73 [(0, .ref b), (1, .int (nI k))] [] (evG h b (7 + 2 * k) (s + 12 * k) (gKB K k) (gRB b R k)) (evGM m b (7 + 2 * k) (gfB f k))) (n := 6) (fun k hk => by
    have hlt : ¬ nI 6 ≤ nI k := nI_ge hk (by omega)
    have hs : nI k + 1 = nI (k + 1) := (nI_succ k).symm
    have hp : ¬ nI k < 0 := nI_pos (by omega)
    have hc : (nI k).toNatClampNeg = k := nI_cl k (by omega)
    have a0 : (gKB K k 0).1 = 2 := by rw [gKB_lt K k (by omega), k0]
    have a2 : (gKB K k 2).1 = 11 := by rw [gKB_lt K k (by omega), k2]
    have a2' : (gKB K k 2).2 = 6 := by rw [gKB_lt K k (by omega), k2]
    have ar : gRB b R k 0 6 = some (b + 2) := by rw [gRB_0, r6]
    have n1 : 0 < 7 + 2 * k := by omega
    have n2 : 2 < 7 + 2 * k := by omega
    have n3 : 0 < 7 + 2 * k + 1 + 1 := by omega
    have n4 : 2 < 7 + 2 * k + 1 + 1 := by omega
    have n5 : b + (7 + 2 * k) < evO9 := hn _ (by omega)
    have n6 : b + (7 + 2 * k + 1) < evO9 := hn _ (by omega)
    have n7 : b + 2 < evO9 := hn _ (by omega)
    have n8 : 7 + 2 * k < 7 + 2 * k + 1 + 1 := by omega
    have n9 : ¬ 7 + 2 * k = 7 + 2 * k + 1 := by omega
    have n10 : ¬ 2 = 7 + 2 * k + 1 := by omega
    have n11 : ¬ 2 = 7 + 2 * k := by omega
    show _ = evX 7 73 [(0, .ref b), (1, .int (nI (k + 1)))] [] (evG h b (7 + 2 * (k + 1)) (s + 12 * (k + 1)) (gKB K (k + 1)) (gRB b R (k + 1))) (evGM m b (7 + 2 * (k + 1)) (gfB f (k + 1)))
    conv => lhs; rw [x7_73]
    rw [show 7 + 2 * (k + 1) = 7 + 2 * k + 1 + 1 by omega, show s + 12 * (k + 1) = s + 12 * k + 9 + 3 by omega]
    simp only [x7_74, x7_75, x7_78s, x7_79, x7_82, x7_83, x7_86, x7_87, x7_90, x7_91, x7_95, x7_98, x7_78i, x7_78b, x7_78d, x7_78h, x7_78l, x7_94b, x7_94d, x7_94h, x7_94l, evI_i, evJl_i, evJf_i, evJd_i, evA_r, evA_n, evA_q, evLk_c, evS1_d, evS2_d, evFl_n, evFl_c, evGl_n, evGl_c, evIn_n, evIn_c, evCat_i, evCat_l, evCat_f, evCat_d, evCat_r, evCat_z, evCat_q, evBd_some, evTl_s, evTl_n, va_rf_s, va_rf_n, and_true, true_and, and_false, false_and, if_true, if_false, not_true_eq_false, not_false_eq_true, reduceCtorEq, ↓reduceIte, Nat.reduceAdd, Nat.reduceEqDiff, Nat.reduceLT, Nat.reduceLeDiff, Nat.reduceSub, Nat.zero_ne_one, Nat.one_ne_zero, evG_N, evG_at, evG_at0, evG_R0, evG_len, evG_new, evG_set, evGM_new, evGM_set, ks_at, n1, n2, n3, n4, n5, n6, n7, n8, n9, n10, n11, a0, a2, a2', ar, h9, h6, hlt, hp, hc, hk, c_Bidder_init, Option.toList, List.nil_append, hs]
    rfl)
  refine Eq.trans (loop.trans ?_ : _ = evX 7 101 [(0, .ref b), (1, .int (nI 6))] [] (evG h b (7 + 2 * 6) (s + 12 * 6) (gKB K 6) (gRB b R 6)) (evGM m b (7 + 2 * 6) (gfB f 6))) rfl
  have hge : nI 6 ≤ nI 6 := Int32.le_refl _
  have a0 : (gKB K 6 0).1 = 2 := by rw [gKB_lt K 6 (by omega), k0]
  have a2 : (gKB K 6 2).1 = 11 := by rw [gKB_lt K 6 (by omega), k2]
  have a2' : (gKB K 6 2).2 = 6 := by rw [gKB_lt K 6 (by omega), k2]
  have ar : gRB b R 6 0 6 = some (b + 2) := by rw [gRB_0, r6]
  have n7 : b + 2 < evO9 := hn _ (by omega)
  have n1 : 0 < 7 + 2 * 6 := by omega
  have n2 : 2 < 7 + 2 * 6 := by omega
  simp only [x7_73, x7_74, x7_75, x7_78s, x7_79, x7_82, x7_83, x7_86, x7_87, x7_90, x7_91, x7_95, x7_98, x7_78i, x7_78b, x7_78d, x7_78h, x7_78l, x7_94b, x7_94d, x7_94h, x7_94l, evI_i, evJl_i, evJf_i, evJd_i, evA_r, evA_n, evA_q, evLk_c, evS1_d, evS2_d, evFl_n, evFl_c, evGl_n, evGl_c, evIn_n, evIn_c, evCat_i, evCat_l, evCat_f, evCat_d, evCat_r, evCat_z, evCat_q, evBd_some, evTl_s, evTl_n, va_rf_s, va_rf_n, and_true, true_and, and_false, false_and, if_true, if_false, not_true_eq_false, not_false_eq_true, reduceCtorEq, ↓reduceIte, Nat.reduceAdd, Nat.reduceEqDiff, Nat.reduceLT, Nat.reduceLeDiff, Nat.reduceSub, Nat.zero_ne_one, Nat.one_ne_zero, evG_at, evG_at0, evG_R0, evG_len, n1, n2, a0, a2, a2', ar, h9, n7, h6, hge]
set_option maxHeartbeats 1000000 in
theorem c_HallL (hn : ∀ o, o < 41 → b + o < evO9) (h9 : b < evO9) (k0 : K 0 = (2, 10)) (k2 : K 3 = (13, 8)) (r6 : R 0 7 = some (b + 3)) : evX 7 103 [(0, .ref b), (1, .int (nI 0))] [] (evG h b 19 s K R) (evGM m b 19 f) = evX 7 131 [(0, .ref b), (1, .int (nI 8))] [] (evG h b 35 (s + 72) (gKL K 8) (gRL b R 8)) (evGM m b 35 (gfL f 8)) := by
  have h6 : Int32.ofNat 8 = nI 8 := rfl
  have loop := loop_up (G := fun k => evX 7 103 [(0, .ref b), (1, .int (nI k))] [] (evG h b (19 + 2 * k) (s + 9 * k) (gKL K k) (gRL b R k)) (evGM m b (19 + 2 * k) (gfL f k))) (n := 8) (fun k hk => by
    have hlt : ¬ nI 8 ≤ nI k := nI_ge hk (by omega)
    have hs : nI k + 1 = nI (k + 1) := (nI_succ k).symm
    have hp : ¬ nI k < 0 := nI_pos (by omega)
    have hc : (nI k).toNatClampNeg = k := nI_cl k (by omega)
    have a0 : (gKL K k 0).1 = 2 := by rw [gKL_lt K k (by omega), k0]
    have a2 : (gKL K k 3).1 = 13 := by rw [gKL_lt K k (by omega), k2]
    have a2' : (gKL K k 3).2 = 8 := by rw [gKL_lt K k (by omega), k2]
    have ar : gRL b R k 0 7 = some (b + 3) := by rw [gRL_0, r6]
    have n1 : 0 < 19 + 2 * k := by omega
    have n2 : 3 < 19 + 2 * k := by omega
    have n3 : 0 < 19 + 2 * k + 1 + 1 := by omega
    have n4 : 3 < 19 + 2 * k + 1 + 1 := by omega
    have n5 : b + (19 + 2 * k) < evO9 := hn _ (by omega)
    have n6 : b + (19 + 2 * k + 1) < evO9 := hn _ (by omega)
    have n7 : b + 3 < evO9 := hn _ (by omega)
    have n8 : 19 + 2 * k < 19 + 2 * k + 1 + 1 := by omega
    have n9 : ¬ 19 + 2 * k = 19 + 2 * k + 1 := by omega
    have n10 : ¬ 3 = 19 + 2 * k + 1 := by omega
    have n11 : ¬ 3 = 19 + 2 * k := by omega
    show _ = evX 7 103 [(0, .ref b), (1, .int (nI (k + 1)))] [] (evG h b (19 + 2 * (k + 1)) (s + 9 * (k + 1)) (gKL K (k + 1)) (gRL b R (k + 1))) (evGM m b (19 + 2 * (k + 1)) (gfL f (k + 1)))
    conv => lhs; rw [x7_103]
    rw [show 19 + 2 * (k + 1) = 19 + 2 * k + 1 + 1 by omega, show s + 9 * (k + 1) = s + 9 * k + 6 + 3 by omega]
    simp only [x7_104, x7_105, x7_108s, x7_109, x7_112, x7_113, x7_116, x7_117, x7_120, x7_121, x7_125, x7_128, x7_108i, x7_108b, x7_108d, x7_108h, x7_108l, x7_124b, x7_124d, x7_124h, x7_124l, evI_i, evJl_i, evJf_i, evJd_i, evA_r, evA_n, evA_q, evLk_c, evS1_d, evS2_d, evFl_n, evFl_c, evGl_n, evGl_c, evIn_n, evIn_c, evCat_i, evCat_l, evCat_f, evCat_d, evCat_r, evCat_z, evCat_q, evBd_some, evTl_s, evTl_n, va_rf_s, va_rf_n, and_true, true_and, and_false, false_and, if_true, if_false, not_true_eq_false, not_false_eq_true, reduceCtorEq, ↓reduceIte, Nat.reduceAdd, Nat.reduceEqDiff, Nat.reduceLT, Nat.reduceLeDiff, Nat.reduceSub, Nat.zero_ne_one, Nat.one_ne_zero, evG_N, evG_at, evG_at0, evG_R0, evG_len, evG_new, evG_set, evGM_new, evGM_set, ks_at, n1, n2, n3, n4, n5, n6, n7, n8, n9, n10, n11, a0, a2, a2', ar, h9, h6, hlt, hp, hc, hk, c_Lot_init, Option.toList, List.nil_append, hs]
    rfl)
  refine Eq.trans (loop.trans ?_ : _ = evX 7 131 [(0, .ref b), (1, .int (nI 8))] [] (evG h b (19 + 2 * 8) (s + 9 * 8) (gKL K 8) (gRL b R 8)) (evGM m b (19 + 2 * 8) (gfL f 8))) rfl
  have hge : nI 8 ≤ nI 8 := Int32.le_refl _
  have a0 : (gKL K 8 0).1 = 2 := by rw [gKL_lt K 8 (by omega), k0]
  have a2 : (gKL K 8 3).1 = 13 := by rw [gKL_lt K 8 (by omega), k2]
  have a2' : (gKL K 8 3).2 = 8 := by rw [gKL_lt K 8 (by omega), k2]
  have ar : gRL b R 8 0 7 = some (b + 3) := by rw [gRL_0, r6]
  have n7 : b + 3 < evO9 := hn _ (by omega)
  have n1 : 0 < 19 + 2 * 8 := by omega
  have n2 : 3 < 19 + 2 * 8 := by omega
  simp only [x7_103, x7_104, x7_105, x7_108s, x7_109, x7_112, x7_113, x7_116, x7_117, x7_120, x7_121, x7_125, x7_128, x7_108i, x7_108b, x7_108d, x7_108h, x7_108l, x7_124b, x7_124d, x7_124h, x7_124l, evI_i, evJl_i, evJf_i, evJd_i, evA_r, evA_n, evA_q, evLk_c, evS1_d, evS2_d, evFl_n, evFl_c, evGl_n, evGl_c, evIn_n, evIn_c, evCat_i, evCat_l, evCat_f, evCat_d, evCat_r, evCat_z, evCat_q, evBd_some, evTl_s, evTl_n, va_rf_s, va_rf_n, and_true, true_and, and_false, false_and, if_true, if_false, not_true_eq_false, not_false_eq_true, reduceCtorEq, ↓reduceIte, Nat.reduceAdd, Nat.reduceEqDiff, Nat.reduceLT, Nat.reduceLeDiff, Nat.reduceSub, Nat.zero_ne_one, Nat.one_ne_zero, evG_at, evG_at0, evG_R0, evG_len, n1, n2, a0, a2, a2', ar, h9, n7, h6, hge]
set_option maxHeartbeats 1000000 in
theorem c_HallE (hn : ∀ o, o < 41 → b + o < evO9) (h9 : b < evO9) (k0 : K 0 = (2, 10)) (k2 : K 4 = (10, 6)) (r6 : R 0 8 = some (b + 4)) : evX 7 133 [(0, .ref b), (1, .int (nI 0))] [] (evG h b 35 s K R) (evGM m b 35 f) = evX 7 161 [(0, .ref b), (1, .int (nI 6))] [] (evG h b 41 (s + 18) (gKE K 6) (gRE b R 6)) (evGM m b 41 (gfE f 6)) := by
  have h6 : Int32.ofNat 6 = nI 6 := rfl
  have loop := loop_up (G := fun k => evX 7 133 [(0, .ref b), (1, .int (nI k))] [] (evG h b (35 + k) (s + 3 * k) (gKE K k) (gRE b R k)) (evGM m b (35 + k) (gfE f k))) (n := 6) (fun k hk => by
    have hlt : ¬ nI 6 ≤ nI k := nI_ge hk (by omega)
    have hs : nI k + 1 = nI (k + 1) := (nI_succ k).symm
    have hp : ¬ nI k < 0 := nI_pos (by omega)
    have hc : (nI k).toNatClampNeg = k := nI_cl k (by omega)
    have a0 : (gKE K k 0).1 = 2 := by rw [gKE_lt K k (by omega), k0]
    have a2 : (gKE K k 4).1 = 10 := by rw [gKE_lt K k (by omega), k2]
    have a2' : (gKE K k 4).2 = 6 := by rw [gKE_lt K k (by omega), k2]
    have ar : gRE b R k 0 8 = some (b + 4) := by rw [gRE_0, r6]
    have n1 : 0 < 35 + k := by omega
    have n2 : 4 < 35 + k := by omega
    have n3 : 0 < 35 + k + 1 := by omega
    have n4 : 4 < 35 + k + 1 := by omega
    have n5 : b + (35 + k) < evO9 := hn _ (by omega)
    have n7 : b + 4 < evO9 := hn _ (by omega)
    have n8 : 35 + k < 35 + k + 1 := by omega
    have n11 : ¬ 4 = 35 + k := by omega
    show _ = evX 7 133 [(0, .ref b), (1, .int (nI (k + 1)))] [] (evG h b (35 + (k + 1)) (s + 3 * (k + 1)) (gKE K (k + 1)) (gRE b R (k + 1))) (evGM m b (35 + (k + 1)) (gfE f (k + 1)))
    conv => lhs; rw [x7_133]
    rw [show 35 + (k + 1) = 35 + k + 1 by omega, show s + 3 * (k + 1) = s + 3 * k + 3 by omega]
    simp only [x7_134, x7_135, x7_138s, x7_139, x7_142, x7_143, x7_146, x7_147, x7_150, x7_151, x7_155, x7_158, x7_138i, x7_138b, x7_138d, x7_138h, x7_138l, x7_154b, x7_154d, x7_154h, x7_154l, evI_i, evJl_i, evJf_i, evJd_i, evA_r, evA_n, evA_q, evLk_c, evS1_d, evS2_d, evFl_n, evFl_c, evGl_n, evGl_c, evIn_n, evIn_c, evCat_i, evCat_l, evCat_f, evCat_d, evCat_r, evCat_z, evCat_q, evBd_some, evTl_s, evTl_n, va_rf_s, va_rf_n, and_true, true_and, and_false, false_and, if_true, if_false, not_true_eq_false, not_false_eq_true, reduceCtorEq, ↓reduceIte, Nat.reduceAdd, Nat.reduceEqDiff, Nat.reduceLT, Nat.reduceLeDiff, Nat.reduceSub, Nat.zero_ne_one, Nat.one_ne_zero, evG_N, evG_at, evG_at0, evG_R0, evG_len, evG_new, evG_set, evGM_new, evGM_set, ks_at, n1, n2, n3, n4, n5, n7, n8, n11, a0, a2, a2', ar, h9, h6, hlt, hp, hc, hk, c_Bid_init, Option.toList, List.nil_append, hs]
    rfl)
  refine Eq.trans (loop.trans ?_ : _ = evX 7 161 [(0, .ref b), (1, .int (nI 6))] [] (evG h b (35 + 6) (s + 3 * 6) (gKE K 6) (gRE b R 6)) (evGM m b (35 + 6) (gfE f 6))) rfl
  have hge : nI 6 ≤ nI 6 := Int32.le_refl _
  have a0 : (gKE K 6 0).1 = 2 := by rw [gKE_lt K 6 (by omega), k0]
  have a2 : (gKE K 6 4).1 = 10 := by rw [gKE_lt K 6 (by omega), k2]
  have a2' : (gKE K 6 4).2 = 6 := by rw [gKE_lt K 6 (by omega), k2]
  have ar : gRE b R 6 0 8 = some (b + 4) := by rw [gRE_0, r6]
  have n7 : b + 4 < evO9 := hn _ (by omega)
  have n1 : 0 < 35 + 6 := by omega
  have n2 : 4 < 35 + 6 := by omega
  simp only [x7_133, x7_134, x7_135, x7_138s, x7_139, x7_142, x7_143, x7_146, x7_147, x7_150, x7_151, x7_155, x7_158, x7_138i, x7_138b, x7_138d, x7_138h, x7_138l, x7_154b, x7_154d, x7_154h, x7_154l, evI_i, evJl_i, evJf_i, evJd_i, evA_r, evA_n, evA_q, evLk_c, evS1_d, evS2_d, evFl_n, evFl_c, evGl_n, evGl_c, evIn_n, evIn_c, evCat_i, evCat_l, evCat_f, evCat_d, evCat_r, evCat_z, evCat_q, evBd_some, evTl_s, evTl_n, va_rf_s, va_rf_n, and_true, true_and, and_false, false_and, if_true, if_false, not_true_eq_false, not_false_eq_true, reduceCtorEq, ↓reduceIte, Nat.reduceAdd, Nat.reduceEqDiff, Nat.reduceLT, Nat.reduceLeDiff, Nat.reduceSub, Nat.zero_ne_one, Nat.one_ne_zero, evG_at, evG_at0, evG_R0, evG_len, n1, n2, a0, a2, a2', ar, h9, n7, h6, hge]

def hv0 : evVt := fun t i j => if t = 0 then (if i = 0 then 1 else if i = 1 then 5 else if i = 2 then 2 else 0) else if t = 1 then (if i = 3 then -6 else 0) else if (t = 3 ∨ t = 5 ∨ t = 6) ∧ j = 0 then -6 else 0
def hallF (v : evVt) (o j : Nat) : Int32 := match hloc o j with
  | some q => v q.1 q.2.1 q.2.2
  | none => 0
theorem putV_evGM (m : evM) (b : Nat) (v : evVt) : putV m b v = evGM m b 41 (hallF v) := rfl
theorem gfB_at (f : Nat → Nat → Int32) (k : Nat) {o j : Nat} (h7 : 7 ≤ o) (h : o < 7 + 2 * k) : gfB f k o j = if o % 2 = 0 ∧ j = 0 then -6 else 0 := by
  induction k with
  | zero => omega
  | succ k ih =>
    show ms (mz (mz (gfB f k) (7 + 2 * k)) (7 + 2 * k + 1)) (7 + 2 * k + 1) 0 (-6) o j = _
    rw [ms_at, mz_at, mz_at]
    by_cases h1 : o = 7 + 2 * k + 1
    · by_cases hj : j = 0
      · rw [if_pos ⟨h1, hj⟩, if_pos ⟨by omega, hj⟩]
      · rw [if_neg (fun z => hj z.2), if_pos h1, if_neg (fun z => hj z.2)]
    · rw [if_neg (fun z => h1 z.1), if_neg h1]
      by_cases h2 : o = 7 + 2 * k
      · rw [if_pos h2, if_neg (by omega)]
      · rw [if_neg h2, ih (by omega)]
theorem gfB_lt (f : Nat → Nat → Int32) (k : Nat) {o j : Nat} (h : o < 7) : gfB f k o j = f o j := by
  induction k with
  | zero => rfl
  | succ k ih =>
    show ms (mz (mz (gfB f k) (7 + 2 * k)) (7 + 2 * k + 1)) (7 + 2 * k + 1) 0 (-6) o j = _
    rw [ms_at, mz_at, mz_at, if_neg (by omega), if_neg (by omega), if_neg (by omega), ih]
theorem gfL_at (f : Nat → Nat → Int32) (k : Nat) {o j : Nat} (h7 : 19 ≤ o) (h : o < 19 + 2 * k) : gfL f k o j = if o % 2 = 0 ∧ j = 0 then -6 else 0 := by
  induction k with
  | zero => omega
  | succ k ih =>
    show ms (mz (mz (gfL f k) (19 + 2 * k)) (19 + 2 * k + 1)) (19 + 2 * k + 1) 0 (-6) o j = _
    rw [ms_at, mz_at, mz_at]
    by_cases h1 : o = 19 + 2 * k + 1
    · by_cases hj : j = 0
      · rw [if_pos ⟨h1, hj⟩, if_pos ⟨by omega, hj⟩]
      · rw [if_neg (fun z => hj z.2), if_pos h1, if_neg (fun z => hj z.2)]
    · rw [if_neg (fun z => h1 z.1), if_neg h1]
      by_cases h2 : o = 19 + 2 * k
      · rw [if_pos h2, if_neg (by omega)]
      · rw [if_neg h2, ih (by omega)]
theorem gfL_lt (f : Nat → Nat → Int32) (k : Nat) {o j : Nat} (h : o < 19) : gfL f k o j = f o j := by
  induction k with
  | zero => rfl
  | succ k ih =>
    show ms (mz (mz (gfL f k) (19 + 2 * k)) (19 + 2 * k + 1)) (19 + 2 * k + 1) 0 (-6) o j = _
    rw [ms_at, mz_at, mz_at, if_neg (by omega), if_neg (by omega), if_neg (by omega), ih]
theorem gfE_at (f : Nat → Nat → Int32) (k : Nat) {o j : Nat} (h7 : 35 ≤ o) (h : o < 35 + k) : gfE f k o j = if j = 0 then -6 else 0 := by
  induction k with
  | zero => omega
  | succ k ih =>
    show ms (mz (gfE f k) (35 + k)) (35 + k) 0 (-6) o j = _
    rw [ms_at, mz_at]
    by_cases h1 : o = 35 + k
    · by_cases hj : j = 0
      · rw [if_pos ⟨h1, hj⟩, if_pos hj]
      · rw [if_neg (fun z => hj z.2), if_pos h1, if_neg hj]
    · rw [if_neg (fun z => h1 z.1), if_neg h1, ih (by omega)]
theorem gfE_lt (f : Nat → Nat → Int32) (k : Nat) {o j : Nat} (h : o < 35) : gfE f k o j = f o j := by
  induction k with
  | zero => rfl
  | succ k ih =>
    show ms (mz (gfE f k) (35 + k)) (35 + k) 0 (-6) o j = _
    rw [ms_at, mz_at, if_neg (by omega), if_neg (by omega), ih]
theorem newF {f : Nat → Nat → Int32} (hf : ∀ o j, o < 7 → f o j = hallF hv0 o j) {o j : Nat} (ho : o < 41) : gfE (gfL (gfB f 6) 8) 6 o j = hallF hv0 o j := by
  by_cases h1 : o < 7
  · rw [gfE_lt _ _ (by omega), gfL_lt _ _ (by omega), gfB_lt _ _ h1, hf o j h1]
  · by_cases h2 : o < 19
    · rw [gfE_lt _ _ (by omega), gfL_lt _ _ (by omega), gfB_at _ _ (by omega) (by omega)]
      generalize hx : (if o % 2 = 0 ∧ j = 0 then (-6 : Int32) else 0) = x
      unfold hallF hloc
      rw [if_neg (by omega), if_neg (by omega), if_neg (by omega), if_neg (by omega), if_pos (by omega)]
      by_cases h3 : (o - 7) % 2 = 0
      · rw [if_neg (by omega)] at hx
        rw [if_pos h3, ← hx]
        by_cases h4 : j < 8
        · rw [if_pos h4]; simp [hv0]
        · rw [if_neg h4]
      · rw [if_neg h3]
        by_cases h4 : j < 3
        · rw [if_pos h4, ← hx]; simp [hv0, show o % 2 = 0 by omega]
        · rw [if_neg (by omega)] at hx
          rw [if_neg h4, ← hx]
    · by_cases h5 : o < 35
      · rw [gfE_lt _ _ h5, gfL_at _ _ (by omega) (by omega)]
        generalize hx : (if o % 2 = 0 ∧ j = 0 then (-6 : Int32) else 0) = x
        unfold hallF hloc
        rw [if_neg (by omega), if_neg (by omega), if_neg (by omega), if_neg (by omega), if_neg (by omega), if_pos (by omega)]
        by_cases h3 : (o - 19) % 2 = 0
        · rw [if_neg (by omega)] at hx
          rw [if_pos h3, ← hx]
          by_cases h4 : j < 5
          · rw [if_pos h4]; simp [hv0]
          · rw [if_neg h4]
        · rw [if_neg h3]
          by_cases h4 : j < 3
          · rw [if_pos h4, ← hx]; simp [hv0, show o % 2 = 0 by omega]
          · rw [if_neg (by omega)] at hx
            rw [if_neg h4, ← hx]
      · rw [gfE_at _ _ (by omega) (by omega)]
        generalize hx : (if j = 0 then (-6 : Int32) else 0) = x
        unfold hallF hloc
        rw [if_neg (by omega), if_neg (by omega), if_neg (by omega), if_neg (by omega), if_neg (by omega), if_neg (by omega), if_pos (by omega)]
        by_cases h4 : j < 3
        · rw [if_pos h4, ← hx]; simp [hv0]
        · rw [if_neg (by omega)] at hx
          rw [if_neg h4, ← hx]
set_option maxHeartbeats 4000000 in
theorem c_Hall0 (hb : evN h = b) (hn : ∀ o, o < 41 → b + o < evO9) (h9 : b < evO9) : ∃ K R f, (evX 7 0 [(0, .ref b)] [] (evNew h 2 10) (evNewM h m) = evX 7 73 [(0, .ref b), (1, .int (nI 0))] [] (evG h b 7 196 K R) (evGM m b 7 f)) ∧ (K 0 = (2, 10) ∧ K 1 = (9, 4) ∧ K 2 = (11, 6) ∧ K 3 = (13, 8) ∧ K 4 = (10, 6) ∧ K 5 = (6, 2) ∧ K 6 = (9, 160)) ∧ (R 0 0 = some (b + 1) ∧ R 0 6 = some (b + 2) ∧ R 0 7 = some (b + 3) ∧ R 0 8 = some (b + 4) ∧ R 0 9 = some (b + 5) ∧ R 5 0 = some (b + 6)) ∧ (∀ o j, o < 7 → f o j = hallF hv0 o j) := by
  have z1 : ¬ (4 : Int32) < 0 := by decide
  have z2 : (4 : Int32).toNatClampNeg = 4 := by decide
  have z3 : ¬ (6 : Int32) < 0 := by decide
  have z4 : (6 : Int32).toNatClampNeg = 6 := by decide
  have z5 : ¬ (8 : Int32) < 0 := by decide
  have z6 : (8 : Int32).toNatClampNeg = 8 := by decide
  have y0 : (0 : Int32).toNatClampNeg = 0 := by decide
  have y1 : (1 : Int32).toNatClampNeg = 1 := by decide
  have y2 : (2 : Int32).toNatClampNeg = 2 := by decide
  have y3 : (3 : Int32).toNatClampNeg = 3 := by decide
  have x0 : ¬ (0 : Int32) < 0 := by decide
  have x1 : ¬ (1 : Int32) < 0 := by decide
  have x2 : ¬ (2 : Int32) < 0 := by decide
  have x3 : ¬ (3 : Int32) < 0 := by decide
  refine ⟨?K, ?R, ?f, ?e, ?a, ?r, ?d⟩
  case e =>
    conv => lhs; rw [evG_0 hb (fun _ => (0, 0)) (fun _ _ => none), evGM_0 m b (fun _ _ => 0)]
    simp only [x7_0, x7_1, x7_4, x7_5, x7_6, x7_8, x7_9, x7_10, x7_11, x7_12, x7_13, x7_14, x7_15, x7_16, x7_17, x7_18, x7_19, x7_20, x7_21, x7_22, x7_23, x7_24q, x7_24, x7_27, x7_28, x7_30, x7_33, x7_34, x7_36, x7_39q, x7_39, x7_42, x7_43, x7_45, x7_48q, x7_48, x7_51, x7_52, x7_54, x7_57q, x7_57, x7_60, x7_61, x7_64, x7_65, x7_68q, x7_68, x7_71, x7_72, evI_i, evJl_i, evJf_i, evJd_i, evA_r, evA_n, evA_q, evLk_c, evS1_d, evS2_d, evFl_n, evFl_c, evGl_n, evGl_c, evIn_n, evIn_c, evCat_i, evCat_l, evCat_f, evCat_d, evCat_r, evCat_z, evCat_q, evBd_some, evTl_s, evTl_n, va_rf_s, va_rf_n, and_true, true_and, and_false, false_and, if_true, if_false, not_true_eq_false, not_false_eq_true, reduceCtorEq, ↓reduceIte, Nat.reduceAdd, Nat.reduceEqDiff, Nat.reduceLT, Nat.reduceLeDiff, Nat.reduceSub, Nat.zero_ne_one, Nat.one_ne_zero, evG_N, evG_at, evG_at0, evG_R0, evG_len, evG_new, evG_set, evG_set0, evGM_new, evGM_set, evGM_set0, ks_at, hn, h9, c_Recent_init, Option.toList, List.nil_append, z1, z2, z3, z4, z5, z6, y0, y1, y2, y3, x0, x1, x2, x3]
    rfl
  case a => simp [ks_at]
  case r => simp [rs_at, rz_at]
  case d =>
    intro o j ho
    rcases (show o = 0 ∨ o = 1 ∨ o = 2 ∨ o = 3 ∨ o = 4 ∨ o = 5 ∨ o = 6 by omega) with rfl | rfl | rfl | rfl | rfl | rfl | rfl
    · simp only [hallF, hloc, hv0, ms_at, mz_at]
      by_cases h1 : j = 4
      · subst h1; rfl
      · by_cases h2 : 1 ≤ j ∧ j ≤ 5
        · simp [h1, h2, show ¬ j - 1 = 3 by omega]
        · simp [h1, h2]
    · simp only [hallF, hloc, hv0, ms_at, mz_at]
      by_cases h1 : j = 0
      · subst h1; rfl
      · by_cases h2 : j = 1
        · subst h2; rfl
        · by_cases h3 : j = 2
          · subst h3; rfl
          · by_cases h4 : j < 4
            · simp [h1, h2, h3, h4]
            · simp [h1, h2, h3, h4]
    all_goals first
      | (simp [hallF, hloc, hv0, ms_at, mz_at]; done)
      | (by_cases h1 : j < 160 <;> by_cases h2 : j = 1 <;> simp [hallF, hloc, hv0, ms_at, mz_at, h1, h2]; done)
/-- a hall is made: 41 cells, 358 slots -/
theorem c_Hall_init (hb : evN h = b) (hl : b + 41 ≤ evO9) : ∃ K R, evX 7 0 [(0, .ref b)] [] (evNew h 2 10) (evNewM h m) = some (none, evG h b 41 358 K R, putV m b hv0) ∧ evHall (evG h b 41 358 K R) b := by
  have hn : ∀ o, o < 41 → b + o < evO9 := fun o h => by omega
  have h9 : b < evO9 := by omega
  obtain ⟨K, R, f, e, ⟨k0, k1, k2, k3, k4, k5, k6⟩, ⟨r0, r6, r7, r8, r9, r5⟩, ff⟩ := c_Hall0 (m := m) hb hn h9
  refine ⟨gKE (gKL (gKB K 6) 8) 6, gRE b (gRL b (gRB b R 6) 8) 6, ?_, ?_⟩
  · have s1 := c_HallB (h := h) (m := m) (s := 196) (f := f) hn h9 k0 k2 r6
    have s2 := c_HallL (h := h) (m := m) (s := 196 + 72) (K := gKB K 6) (R := gRB b R 6) (f := gfB f 6) hn h9 (by rw [gKB_lt K 6 (by omega), k0]) (by rw [gKB_lt K 6 (by omega), k3]) (by rw [gRB_0, r7])
    have s3 := c_HallE (h := h) (m := m) (s := 196 + 72 + 72) (K := gKL (gKB K 6) 8) (R := gRL b (gRB b R 6) 8) (f := gfL (gfB f 6) 8) hn h9 (by rw [gKL_lt _ 8 (by omega), gKB_lt K 6 (by omega), k0]) (by rw [gKL_lt _ 8 (by omega), gKB_lt K 6 (by omega), k4]) (by rw [gRL_0, gRB_0, r8])
    rw [e, s1]
    refine Eq.trans (b := evX 7 103 [(0, .ref b), (1, .int (nI 0))] [] (evG h b 19 (196 + 72) (gKB K 6) (gRB b R 6)) (evGM m b 19 (gfB f 6))) (by simp only [x7_101, x7_102, evI_i, evJl_i, evJf_i, evJd_i, evA_r, evA_n, evA_q, evLk_c, evS1_d, evS2_d, evFl_n, evFl_c, evGl_n, evGl_c, evIn_n, evIn_c, evCat_i, evCat_l, evCat_f, evCat_d, evCat_r, evCat_z, evCat_q, evBd_some, evTl_s, evTl_n, va_rf_s, va_rf_n, and_true, true_and, and_false, false_and, if_true, if_false, not_true_eq_false, not_false_eq_true, reduceCtorEq, ↓reduceIte, Nat.reduceAdd, Nat.reduceEqDiff, Nat.reduceLT, Nat.reduceLeDiff, Nat.reduceSub, Nat.zero_ne_one, Nat.one_ne_zero]; rfl) ?_
    rw [s2]
    refine Eq.trans (b := evX 7 133 [(0, .ref b), (1, .int (nI 0))] [] (evG h b 35 (196 + 72 + 72) (gKL (gKB K 6) 8) (gRL b (gRB b R 6) 8)) (evGM m b 35 (gfL (gfB f 6) 8))) (by simp only [x7_131, x7_132, evI_i, evJl_i, evJf_i, evJd_i, evA_r, evA_n, evA_q, evLk_c, evS1_d, evS2_d, evFl_n, evFl_c, evGl_n, evGl_c, evIn_n, evIn_c, evCat_i, evCat_l, evCat_f, evCat_d, evCat_r, evCat_z, evCat_q, evBd_some, evTl_s, evTl_n, va_rf_s, va_rf_n, and_true, true_and, and_false, false_and, if_true, if_false, not_true_eq_false, not_false_eq_true, reduceCtorEq, ↓reduceIte, Nat.reduceAdd, Nat.reduceEqDiff, Nat.reduceLT, Nat.reduceLeDiff, Nat.reduceSub, Nat.zero_ne_one, Nat.one_ne_zero]; rfl) ?_
    rw [s3, x7_161]
    refine congrArg (fun z => some (none, evG h b 41 358 (gKE (gKL (gKB K 6) 8) 6) (gRE b (gRL b (gRB b R 6) 8) 6), z)) ?_
    rw [putV_evGM]
    funext a j
    unfold evGM
    by_cases ha : b ≤ a ∧ a < b + 41
    · rw [if_pos ha, if_pos ha]
      generalize ho : a - b = o
      have ho' : o < 41 := by omega
      exact newF ff ho'
    · rw [if_neg ha, if_neg ha]
  · refine ⟨?_, ⟨?_, ?_⟩, ⟨?_, ?_⟩, ⟨?_, ?_⟩, ⟨?_, ?_⟩, ?_, ⟨?_, ?_⟩, ?_, ?_, ?_, ?_, ?_, ?_, ?_, ?_, ?_⟩
    rotate_left 12
    · intro k hk
      rcases (show k = 0 ∨ k = 1 ∨ k = 2 ∨ k = 3 ∨ k = 4 ∨ k = 5 by omega) with rfl | rfl | rfl | rfl | rfl | rfl <;> simp [hB, hBb, hBs, evG_at, evG_R, hn, gKE, gKL, gKB, ks_at, gRE, gRL, gRB, rs_at, rz_at]
    · intro k hk
      rcases (show k = 0 ∨ k = 1 ∨ k = 2 ∨ k = 3 ∨ k = 4 ∨ k = 5 ∨ k = 6 ∨ k = 7 by omega) with rfl | rfl | rfl | rfl | rfl | rfl | rfl | rfl <;> simp [hL, hLh, hLs, evG_at, evG_R, hn, gKE, gKL, gKB, ks_at, gRE, gRL, gRB, rs_at, rz_at]
    · intro k hk
      rcases (show k = 0 ∨ k = 1 ∨ k = 2 ∨ k = 3 ∨ k = 4 ∨ k = 5 by omega) with rfl | rfl | rfl | rfl | rfl | rfl <;> simp [hE, hEs, evG_at, evG_R, hn, gKE, gKL, gKB, ks_at, gRE, gRL, gRB, rs_at, rz_at]
    all_goals simp [hSt, hBs, hLs, hEs, hRc, hRr, evG_at, evG_at0, evG_len, evG_R, evG_R0, hn, h9, gKE, gKL, gKB, ks_at, gRE, gRL, gRB, rs_at, rz_at, k0, k1, k2, k3, k4, k5, k6, r0, r6, r7, r8, r9, r5]
end NH
