/-! the small methods: Bid, Bidder, Lot, Recent -/
def bidW (mi : evM) (a : Nat) (x y z : Int32) : evM := evSetM (evSetM (evSetM mi a 0 x) a 1 y) a 2 z
theorem c_Bid_clear (h : evH) (mi : evM) (a : Nat) (ha : evAt h a 0) : evX 2 0 [(0, .ref a)] [] h mi = some (none, h, bidW mi a (-6) 0 0) := by
  simp only [x2_0, x2_1, x2_3, x2_4, x2_5, x2_8, evI_i, evJl_i, evJf_i, evJd_i, evA_r, evA_n, evA_q, evLk_c, evS1_d, evS2_d, evFl_n, evFl_c, evGl_n, evGl_c, evIn_n, evIn_c, evCat_i, evCat_l, evCat_f, evCat_d, evCat_r, evCat_z, evCat_q, evBd_some, evTl_s, evTl_n, va_rf_s, va_rf_n, and_true, true_and, and_false, false_and, if_true, if_false, not_true_eq_false, not_false_eq_true, reduceCtorEq, ↓reduceIte, ha, c_Bid_write]
  rfl
theorem c_Bid_copy (h : evH) (mi : evM) (a p : Nat) (ha : evAt h a 0) (hp : evAt h p 0) : evX 3 0 [(0, .ref a), (1, .ref p)] [] h mi = some (none, h, bidW mi a (mi p 0) (mi p 1) (mi p 2)) := by
  simp only [x3_0, x3_1, x3_2, x3_5, x3_6, x3_9, x3_10, x3_13, x3_16, evI_i, evJl_i, evJf_i, evJd_i, evA_r, evA_n, evA_q, evLk_c, evS1_d, evS2_d, evFl_n, evFl_c, evGl_n, evGl_c, evIn_n, evIn_c, evCat_i, evCat_l, evCat_f, evCat_d, evCat_r, evCat_z, evCat_q, evBd_some, evTl_s, evTl_n, va_rf_s, va_rf_n, and_true, true_and, and_false, false_and, if_true, if_false, not_true_eq_false, not_false_eq_true, reduceCtorEq, ↓reduceIte, ha, hp, c_Bid_write]
  rfl
/-- the order of two bids: coins, the earlier round, the lower bidder -/
def abv (x y z x' y' z' : Int32) : Bool := if y = y' then (if z = z' then decide (x < x') else decide (z < z')) else decide (y' < y)
theorem c_Bid_above (h : evH) (mi : evM) (a p : Nat) (ha : evAt h a 0) (hp : evAt h p 0) : evX 4 0 [(0, .ref a), (1, .ref p)] [] h mi = some (some (.int (evBl (abv (mi a 0) (mi a 1) (mi a 2) (mi p 0) (mi p 1) (mi p 2)))), h, mi) := by
  simp only [x4_0, x4_1, x4_4, x4_5, x4_8, x4_11, x4_12, x4_15, x4_16, x4_19, x4_22, x4_23, x4_26, x4_27_0, x4_27_1, x4_27b, x4_28, x4_29, x4_32, x4_33, x4_36, x4_39, x4_40, x4_43, x4_44, x4_47, x4_50, x4_51, x4_54, x4_55_0, x4_55_1, x4_55b, x4_56, x4_57, x4_60, x4_61, x4_64, x4_67, x4_68, x4_71, x4_72_0, x4_72_1, x4_72b, evI_i, evJl_i, evJf_i, evJd_i, evA_r, evA_n, evA_q, evLk_c, evS1_d, evS2_d, evFl_n, evFl_c, evGl_n, evGl_c, evIn_n, evIn_c, evCat_i, evCat_l, evCat_f, evCat_d, evCat_r, evCat_z, evCat_q, evBd_some, evTl_s, evTl_n, va_rf_s, va_rf_n, and_true, true_and, and_false, false_and, if_true, if_false, not_true_eq_false, not_false_eq_true, reduceCtorEq, ↓reduceIte, ha, hp]
  unfold abv evBl
  repeat' split
  all_goals first | rfl | simp_all
/-- Recent -/
def rcK (x n : Int32) : Bool := decide (0 ≤ x) && decide (x < 40) && decide (x < n)
