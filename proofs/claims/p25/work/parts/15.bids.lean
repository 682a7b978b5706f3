/-! the small methods: Bid, Bidder, Lot, Recent -/
theorem i32_ff {x y : Int32} (h1 : x ≤ y) (h2 : y < x) : False := absurd h2 (Int32.not_lt.mpr h1)
theorem i32_cl {j : Int32} {n : Nat} (hn : n < 2 ^ 31) (h0 : ¬ j < 0) (h1 : j < nI n) : j.toNatClampNeg < n := by
  obtain ⟨k, hk, rfl⟩ := nI_of h0
  rw [nI_clamp hk]
  exact (nI_ltI hk hn).mp h1
theorem nI_rfl (n : Nat) : (Int32.ofNat n) = nI n := rfl
def fmod (x y : Int32) : Int32 := if 0 ≤ x ^^^ y then x - x / y * y else if x - x / y * y = 0 then x - x / y * y else x - x / y * y + y
theorem c_floorMod (h : evH) (mi : evM) (x y : Int32) (hy : ¬ y = 0) : evX 61 0 [(0, .int x), (1, .int y)] [] h mi = some (some (.int (fmod x y)), h, mi) := by
  simp only [x61_0, x61_1, x61_2, x61_3, x61_4, x61_5, x61_6, x61_7, x61_10, x61_11, x61_14, x61_15, x61_16, x61_17, x61_18, x61_19, evI_i, evJl_i, evJf_i, evJd_i, evA_r, evA_n, evA_q, evLk_c, evS1_d, evS2_d, evFl_n, evFl_c, evGl_n, evGl_c, evIn_n, evIn_c, evCat_i, evCat_l, evCat_f, evCat_d, evCat_r, evCat_z, evCat_q, evBd_some, evTl_s, evTl_n, va_rf_s, va_rf_n, and_true, true_and, and_false, false_and, if_true, if_false, not_true_eq_false, not_false_eq_true, reduceCtorEq, ↓reduceIte, Nat.reduceAdd, Nat.reduceEqDiff, Nat.reduceLT, Nat.reduceLeDiff, Nat.reduceSub, Nat.zero_ne_one, Nat.one_ne_zero, hy]
  unfold fmod
  repeat' split
  all_goals rfl
def imax (x y : Int32) : Int32 := if x < y then y else x
def imin (x y : Int32) : Int32 := if y < x then y else x
theorem c_max (h : evH) (mi : evM) (x y : Int32) : evX 62 0 [(0, .int x), (1, .int y)] [] h mi = some (some (.int (imax x y)), h, mi) := by
  simp only [x62_0, x62_1, x62_2, x62_5, x62_6, x62_9, x62_10, evI_i, evJl_i, evJf_i, evJd_i, evA_r, evA_n, evA_q, evLk_c, evS1_d, evS2_d, evFl_n, evFl_c, evGl_n, evGl_c, evIn_n, evIn_c, evCat_i, evCat_l, evCat_f, evCat_d, evCat_r, evCat_z, evCat_q, evBd_some, evTl_s, evTl_n, va_rf_s, va_rf_n, and_true, true_and, and_false, false_and, if_true, if_false, not_true_eq_false, not_false_eq_true, reduceCtorEq, ↓reduceIte, Nat.reduceAdd, Nat.reduceEqDiff, Nat.reduceLT, Nat.reduceLeDiff, Nat.reduceSub, Nat.zero_ne_one, Nat.one_ne_zero]
  unfold imax
  repeat' split
  all_goals rfl
theorem c_min (h : evH) (mi : evM) (x y : Int32) : evX 63 0 [(0, .int x), (1, .int y)] [] h mi = some (some (.int (imin x y)), h, mi) := by
  simp only [x63_0, x63_1, x63_2, x63_5, x63_6, x63_9, x63_10, evI_i, evJl_i, evJf_i, evJd_i, evA_r, evA_n, evA_q, evLk_c, evS1_d, evS2_d, evFl_n, evFl_c, evGl_n, evGl_c, evIn_n, evIn_c, evCat_i, evCat_l, evCat_f, evCat_d, evCat_r, evCat_z, evCat_q, evBd_some, evTl_s, evTl_n, va_rf_s, va_rf_n, and_true, true_and, and_false, false_and, if_true, if_false, not_true_eq_false, not_false_eq_true, reduceCtorEq, ↓reduceIte, Nat.reduceAdd, Nat.reduceEqDiff, Nat.reduceLT, Nat.reduceLeDiff, Nat.reduceSub, Nat.zero_ne_one, Nat.one_ne_zero]
  unfold imin
  repeat' split
  all_goals rfl
theorem fmod_nI {t n : Nat} (ht : t < 2 ^ 31) (h0 : 0 < n) (hn : n < 2 ^ 31) : fmod (nI t) (nI n) = nI (t % n) := by
  unfold fmod
  rw [pk_rem ht h0 hn]
  have hp : (0 : Int32) ≤ nI t ^^^ nI n := by
    have hx : nI t ^^^ nI n = nI (t ^^^ n) := by
      apply Int32.toBitVec_inj.mp
      show BitVec.ofNat 32 t ^^^ BitVec.ofNat 32 n = BitVec.ofNat 32 (t ^^^ n)
      first | rw [BitVec.ofNat_xor] | simp
    rw [hx]
    exact nI_pos' (Nat.xor_lt_two_pow ht hn)
  rw [if_pos hp]
def bidW (mi : evM) (a : Nat) (x y z : Int32) : evM := evSetM (evSetM (evSetM mi a 0 x) a 1 y) a 2 z
theorem c_Bid_clear (h : evH) (mi : evM) (a : Nat) (ha : evAt h a 0) : evX 2 0 [(0, .ref a)] [] h mi = some (none, h, bidW mi a (-6) 0 0) := by
  simp only [x2_0, x2_1, x2_3, x2_4, x2_5, x2_8, evI_i, evJl_i, evJf_i, evJd_i, evA_r, evA_n, evA_q, evLk_c, evS1_d, evS2_d, evFl_n, evFl_c, evGl_n, evGl_c, evIn_n, evIn_c, evCat_i, evCat_l, evCat_f, evCat_d, evCat_r, evCat_z, evCat_q, evBd_some, evTl_s, evTl_n, va_rf_s, va_rf_n, and_true, true_and, and_false, false_and, if_true, if_false, not_true_eq_false, not_false_eq_true, reduceCtorEq, ↓reduceIte, Nat.reduceAdd, Nat.reduceEqDiff, Nat.reduceLT, Nat.reduceLeDiff, Nat.reduceSub, Nat.zero_ne_one, Nat.one_ne_zero, ha, c_Bid_write]
  rfl
theorem c_Bid_copy (h : evH) (mi : evM) (a p : Nat) (ha : evAt h a 0) (hp : evAt h p 0) : evX 3 0 [(0, .ref a), (1, .ref p)] [] h mi = some (none, h, bidW mi a (mi p 0) (mi p 1) (mi p 2)) := by
  simp only [x3_0, x3_1, x3_2, x3_5, x3_6, x3_9, x3_10, x3_13, x3_16, evI_i, evJl_i, evJf_i, evJd_i, evA_r, evA_n, evA_q, evLk_c, evS1_d, evS2_d, evFl_n, evFl_c, evGl_n, evGl_c, evIn_n, evIn_c, evCat_i, evCat_l, evCat_f, evCat_d, evCat_r, evCat_z, evCat_q, evBd_some, evTl_s, evTl_n, va_rf_s, va_rf_n, and_true, true_and, and_false, false_and, if_true, if_false, not_true_eq_false, not_false_eq_true, reduceCtorEq, ↓reduceIte, Nat.reduceAdd, Nat.reduceEqDiff, Nat.reduceLT, Nat.reduceLeDiff, Nat.reduceSub, Nat.zero_ne_one, Nat.one_ne_zero, ha, hp, c_Bid_write]
  rfl
/-- the order of two bids: coins, the earlier round, the lower bidder -/
def abv (x y z x' y' z' : Int32) : Bool := if y = y' then (if z = z' then decide (x < x') else decide (z < z')) else decide (y' < y)
theorem c_Bid_above (h : evH) (mi : evM) (a p : Nat) (ha : evAt h a 0) (hp : evAt h p 0) : evX 4 0 [(0, .ref a), (1, .ref p)] [] h mi = some (some (.int (evBl (abv (mi a 0) (mi a 1) (mi a 2) (mi p 0) (mi p 1) (mi p 2)))), h, mi) := by
  simp only [x4_0, x4_1, x4_4, x4_5, x4_8, x4_11, x4_12, x4_15, x4_16, x4_19, x4_22, x4_23, x4_26, x4_27_0, x4_27_1, x4_27b, x4_28, x4_29, x4_32, x4_33, x4_36, x4_39, x4_40, x4_43, x4_44, x4_47, x4_50, x4_51, x4_54, x4_55_0, x4_55_1, x4_55b, x4_56, x4_57, x4_60, x4_61, x4_64, x4_67, x4_68, x4_71, x4_72_0, x4_72_1, x4_72b, evI_i, evJl_i, evJf_i, evJd_i, evA_r, evA_n, evA_q, evLk_c, evS1_d, evS2_d, evFl_n, evFl_c, evGl_n, evGl_c, evIn_n, evIn_c, evCat_i, evCat_l, evCat_f, evCat_d, evCat_r, evCat_z, evCat_q, evBd_some, evTl_s, evTl_n, va_rf_s, va_rf_n, and_true, true_and, and_false, false_and, if_true, if_false, not_true_eq_false, not_false_eq_true, reduceCtorEq, ↓reduceIte, Nat.reduceAdd, Nat.reduceEqDiff, Nat.reduceLT, Nat.reduceLeDiff, Nat.reduceSub, Nat.zero_ne_one, Nat.one_ne_zero, ha, hp]
  unfold abv evBl
  repeat' split
  all_goals first | rfl | (simp_all; done) | (exfalso; simp_all; exact i32_ff ‹_› ‹_›) | (simp_all; exact i32_ff ‹_› ‹_›)
/-- Recent -/
def rcK (x n : Int32) : Bool := decide (0 ≤ x) && (decide (x < 40) && decide (x < n))
theorem c_Recent_knows (h : evH) (mi : evM) (a : Nat) (x : Int32) (ha : evAt h a 6) : evX 44 0 [(0, .ref a), (1, .int x)] [] h mi = some (some (.int (evBl (rcK x (mi a 1)))), h, mi) := by
  simp only [x44_0, x44_1, x44_4, x44_5, x44_7, x44_10, x44_11, x44_12, x44_15, x44_18, x44_19, x44_22, x44_23_0, x44_23_1, x44_23b, evI_i, evJl_i, evJf_i, evJd_i, evA_r, evA_n, evA_q, evLk_c, evS1_d, evS2_d, evFl_n, evFl_c, evGl_n, evGl_c, evIn_n, evIn_c, evCat_i, evCat_l, evCat_f, evCat_d, evCat_r, evCat_z, evCat_q, evBd_some, evTl_s, evTl_n, va_rf_s, va_rf_n, and_true, true_and, and_false, false_and, if_true, if_false, not_true_eq_false, not_false_eq_true, reduceCtorEq, ↓reduceIte, Nat.reduceAdd, Nat.reduceEqDiff, Nat.reduceLT, Nat.reduceLeDiff, Nat.reduceSub, Nat.zero_ne_one, Nat.one_ne_zero, ha]
  unfold rcK evBl
  simp only [← Int32.not_lt]
  repeat' split
  all_goals first | rfl | (simp_all; done) | grind
theorem c_Recent_clear (h : evH) (mi : evM) (a : Nat) (ha : evAt h a 6) : evX 42 0 [(0, .ref a)] [] h mi = some (none, h, evSetM mi a 1 0) := by
  simp only [x42_0, x42_1, x42_2, x42_5, evI_i, evJl_i, evJf_i, evJd_i, evA_r, evA_n, evA_q, evLk_c, evS1_d, evS2_d, evFl_n, evFl_c, evGl_n, evGl_c, evIn_n, evIn_c, evCat_i, evCat_l, evCat_f, evCat_d, evCat_r, evCat_z, evCat_q, evBd_some, evTl_s, evTl_n, va_rf_s, va_rf_n, and_true, true_and, and_false, false_and, if_true, if_false, not_true_eq_false, not_false_eq_true, reduceCtorEq, ↓reduceIte, Nat.reduceAdd, Nat.reduceEqDiff, Nat.reduceLT, Nat.reduceLeDiff, Nat.reduceSub, Nat.zero_ne_one, Nat.one_ne_zero, ha]
def rcP (t x y : Int32) : Int32 := fmod (t - 1 - x) 40 * 4 + y
def rcAt (f : Nat → Int32) (t x y : Int32) : Int32 := if 0 ≤ rcP t x y ∧ rcP t x y < 160 then f (rcP t x y).toNatClampNeg else 0
theorem c_Recent_at (h : evH) (mi : evM) (a r : Nat) (x y : Int32) (ha : evAt h a 6) (hr : evR h a 0 = some r) (hrr : evAt h r 9) (hl : evLen h r = 160) : evX 45 0 [(0, .ref a), (1, .int x), (2, .int y)] [] h mi = some (some (.int (rcAt (mi r) (mi a 1) x y)), h, mi) := by
  have h40 : ¬ (40 : Int32) = 0 := by decide
  simp only [x45_0, x45_1, x45_4, x45_5, x45_6, x45_7, x45_8, x45_10, x45_13, x45_14, x45_15, x45_16, x45_17, x45_18, x45_19, evI_i, evJl_i, evJf_i, evJd_i, evA_r, evA_n, evA_q, evLk_c, evS1_d, evS2_d, evFl_n, evFl_c, evGl_n, evGl_c, evIn_n, evIn_c, evCat_i, evCat_l, evCat_f, evCat_d, evCat_r, evCat_z, evCat_q, evBd_some, evTl_s, evTl_n, va_rf_s, va_rf_n, and_true, true_and, and_false, false_and, if_true, if_false, not_true_eq_false, not_false_eq_true, reduceCtorEq, ↓reduceIte, Nat.reduceAdd, Nat.reduceEqDiff, Nat.reduceLT, Nat.reduceLeDiff, Nat.reduceSub, Nat.zero_ne_one, Nat.one_ne_zero, ha, h40, c_floorMod]
  rw [show fmod (mi a 1 - 1 - x) 40 * 4 + y = rcP (mi a 1) x y from rfl]
  generalize hp : rcP (mi a 1) x y = p
  unfold rcAt
  rw [hp]
  by_cases h1 : p < 0
  · have h1' : ¬ 0 ≤ p := fun q => i32_ff q h1
    simp only [x45_0, x45_1, x45_4, x45_5, x45_6, x45_7, x45_8, x45_10, x45_13, x45_14, x45_15, x45_16, x45_17, x45_18, x45_19, x45_22, x45_23, x45_24, x45_28, x45_31, x45_32, x45_35, x45_36, x45_37, x45_40, x45_41, x45_27i, x45_27b, x45_27d, x45_27h, x45_27l, evI_i, evJl_i, evJf_i, evJd_i, evA_r, evA_n, evA_q, evLk_c, evS1_d, evS2_d, evFl_n, evFl_c, evGl_n, evGl_c, evIn_n, evIn_c, evCat_i, evCat_l, evCat_f, evCat_d, evCat_r, evCat_z, evCat_q, evBd_some, evTl_s, evTl_n, va_rf_s, va_rf_n, and_true, true_and, and_false, false_and, if_true, if_false, not_true_eq_false, not_false_eq_true, reduceCtorEq, ↓reduceIte, Nat.reduceAdd, Nat.reduceEqDiff, Nat.reduceLT, Nat.reduceLeDiff, Nat.reduceSub, Nat.zero_ne_one, Nat.one_ne_zero, h1, h1']
  · by_cases h2 : p < 160
    · have h2' : ¬ 160 ≤ p := fun q => i32_ff q h2
      have h1' : 0 ≤ p := Int32.not_lt.mp h1
      have h3 : p.toNatClampNeg < 160 := i32_cl (by decide) h1 h2
      have h4 : Int32.ofNat 160 = 160 := rfl
      simp only [x45_13, x45_14, x45_15, x45_16, x45_17, x45_18, x45_19, x45_22, x45_23, x45_24, x45_28, x45_31, x45_32, x45_35, x45_36, x45_37, x45_40, x45_41, x45_27i, x45_27b, x45_27d, x45_27h, x45_27l, evI_i, evJl_i, evJf_i, evJd_i, evA_r, evA_n, evA_q, evLk_c, evS1_d, evS2_d, evFl_n, evFl_c, evGl_n, evGl_c, evIn_n, evIn_c, evCat_i, evCat_l, evCat_f, evCat_d, evCat_r, evCat_z, evCat_q, evBd_some, evTl_s, evTl_n, va_rf_s, va_rf_n, and_true, true_and, and_false, false_and, if_true, if_false, not_true_eq_false, not_false_eq_true, reduceCtorEq, ↓reduceIte, Nat.reduceAdd, Nat.reduceEqDiff, Nat.reduceLT, Nat.reduceLeDiff, Nat.reduceSub, Nat.zero_ne_one, Nat.one_ne_zero, ha, hr, h1, h1', h2, h2', h3, hrr, hl, h4, Nat.reduceLeDiff]
    · have h2' : 160 ≤ p := Int32.not_lt.mp h2
      have h1' : 0 ≤ p := Int32.not_lt.mp h1
      have h4 : Int32.ofNat 160 = 160 := rfl
      simp only [x45_13, x45_14, x45_15, x45_16, x45_17, x45_18, x45_19, x45_22, x45_23, x45_24, x45_28, x45_31, x45_32, x45_35, x45_36, x45_37, x45_40, x45_41, x45_27i, x45_27b, x45_27d, x45_27h, x45_27l, evI_i, evJl_i, evJf_i, evJd_i, evA_r, evA_n, evA_q, evLk_c, evS1_d, evS2_d, evFl_n, evFl_c, evGl_n, evGl_c, evIn_n, evIn_c, evCat_i, evCat_l, evCat_f, evCat_d, evCat_r, evCat_z, evCat_q, evBd_some, evTl_s, evTl_n, va_rf_s, va_rf_n, and_true, true_and, and_false, false_and, if_true, if_false, not_true_eq_false, not_false_eq_true, reduceCtorEq, ↓reduceIte, Nat.reduceAdd, Nat.reduceEqDiff, Nat.reduceLT, Nat.reduceLeDiff, Nat.reduceSub, Nat.zero_ne_one, Nat.one_ne_zero, ha, hr, h1, h1', h2, h2', hrr, hl, h4, Nat.reduceLeDiff]

theorem nI_cl (n : Nat) (h : n < 2 ^ 31) : (nI n).toNatClampNeg = n := nI_clamp h
def rcAdd (mi : evM) (a r t : Nat) (x y z w : Int32) : evM := evSetM (evSetM (evSetM (evSetM (evSetM mi r (4 * (t % 40)) x) r (4 * (t % 40) + 1) y) r (4 * (t % 40) + 2) z) r (4 * (t % 40) + 3) w) a 1 (nI (t + 1))
theorem c_Recent_add (h : evH) (mi : evM) (a r t : Nat) (x y z w : Int32) (ha : evAt h a 6) (hr : evR h a 0 = some r) (hrr : evAt h r 9) (hl : evLen h r = 160) (ht : mi a 1 = nI t) (ht2 : t < 2 ^ 30) : evX 43 0 [(0, .ref a), (1, .int x), (2, .int y), (3, .int z), (4, .int w)] [] h mi = some (none, h, rcAdd mi a r t x y z w) := by
  have h40 : ¬ (40 : Int32) = 0 := by decide
  have hra : ¬ a = r := by
    rintro rfl
    have := ha.2.2.symm.trans hrr.2.2
    omega
  have hm : fmod (nI t) 40 = nI (t % 40) := fmod_nI (n := 40) (by omega) (by decide) (by decide)
  have hm4 : nI (t % 40) * 4 = nI (4 * (t % 40)) := by rw [show (4 : Int32) = nI 4 from rfl, pk_mul, Nat.mul_comm]
  generalize hp : 4 * (t % 40) = p at hm4
  have hp2 : p + 4 ≤ 160 := by omega
  have e0 : ¬ nI p < 0 := nI_pos (by omega)
  have e4 : nI p + 4 = nI (p + 4) := nI_add p 4
  have e1 : nI p + 1 = nI (p + 1) := nI_add p 1
  have e2 : nI p + 2 = nI (p + 2) := nI_add p 2
  have e3 : nI p + 3 = nI (p + 3) := nI_add p 3
  have l4 : ¬ (Int32.ofNat 160) < nI (p + 4) := nI_nlt (a := 160) hp2 (by decide)
  have g1 : ¬ nI (p + 1) < 0 := nI_pos (by omega)
  have g2 : ¬ nI (p + 2) < 0 := nI_pos (by omega)
  have g3 : ¬ nI (p + 3) < 0 := nI_pos (by omega)
  have c0 : (nI p).toNatClampNeg = p := nI_clamp (by omega)
  have c1 : (nI (p + 1)).toNatClampNeg = p + 1 := nI_clamp (by omega)
  have c2 : (nI (p + 2)).toNatClampNeg = p + 2 := nI_clamp (by omega)
  have c3 : (nI (p + 3)).toNatClampNeg = p + 3 := nI_clamp (by omega)
  have b0 : p < 160 := by omega
  have b1 : p + 1 < 160 := by omega
  have b2 : p + 2 < 160 := by omega
  have b3 : p + 3 < 160 := by omega
  have et : nI t + 1 = nI (t + 1) := nI_add t 1
  simp only [x43_0, x43_1, x43_4, x43_6, x43_9, x43_10, x43_11, x43_13, x43_15, x43_18, x43_20, x43_21, x43_22, x43_23, x43_27, x43_30, x43_31, x43_34, x43_36, x43_37, x43_38, x43_39, x43_42, x43_44, x43_45, x43_46, x43_47, x43_48, x43_49, x43_52, x43_54, x43_55, x43_56, x43_57, x43_58, x43_59, x43_62, x43_64, x43_65, x43_66, x43_68, x43_69, x43_70, x43_71, x43_74, x43_75, x43_76, x43_79, x43_26i, x43_26b, x43_26d, x43_26h, x43_26l, evI_i, evJl_i, evJf_i, evJd_i, evA_r, evA_n, evA_q, evLk_c, evS1_d, evS2_d, evFl_n, evFl_c, evGl_n, evGl_c, evIn_n, evIn_c, evCat_i, evCat_l, evCat_f, evCat_d, evCat_r, evCat_z, evCat_q, evBd_some, evTl_s, evTl_n, va_rf_s, va_rf_n, and_true, true_and, and_false, false_and, if_true, if_false, not_true_eq_false, not_false_eq_true, reduceCtorEq, ↓reduceIte, Nat.reduceAdd, Nat.reduceEqDiff, Nat.reduceLT, Nat.reduceLeDiff, Nat.reduceSub, Nat.zero_ne_one, Nat.one_ne_zero, ha, hr, hrr, hl, ht, h40, c_floorMod, hm, hm4, e0, e1, e2, e3, e4, l4, g1, g2, g3, c0, c1, c2, c3, b0, b1, b2, b3]
  unfold rcAdd
  rw [hp]
  simp only [evSetM, hra, false_and, if_false, ht, et]
