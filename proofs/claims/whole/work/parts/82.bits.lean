/-! the bits of a float and of a double, counted out by the class, given by the model -/
theorem k_f0 : FP.fconst0.toNat = 0 := rfl
theorem k_f1 : FP.fconst1 = nf 127 0 := by decide
theorem k_f2 : FP.fconst2 = nf 128 0 := by decide
theorem k_f23 : (1258291200 : UInt32) = nf 150 0 := by decide
theorem k_d0 : FP.dconst0.toNat = 0 := rfl
theorem k_d1 : FP.dconst1 = nd 1023 0 := by decide
theorem k_d2 : (4611686018427387904 : UInt64) = nd 1024 0 := by decide
theorem k_d52 : (4841369599423283200 : UInt64) = nd 1075 0 := by decide
theorem fc_0 {E T : Nat} (h1 : 1 ≤ E) (h2 : E ≤ 254) (hT : T < 8388608) : FP.fcmp (nf E T) FP.fconst0 = some .gt := by
  show FP.Core.cmp FP.Core.b32 (nf E T).toNat FP.fconst0.toNat = _
  rw [nf_t h2 hT, k_f0]
  exact nrm_0 ok32 h1 h2 hT
theorem fc_lt {E T : Nat} (h1 : 1 ≤ E) (h2 : E < 127) (hT : T < 8388608) : FP.fcmp (nf E T) FP.fconst1 = some .lt := by
  show FP.Core.cmp FP.Core.b32 (nf E T).toNat FP.fconst1.toNat = _
  rw [k_f1, nf_t (by omega) hT, nf_t (by omega) (by omega)]
  exact nrm_lt ok32 h1 h2 hT (by decide)
theorem fc_ge {T : Nat} (hT : T < 8388608) : FP.fcmp (nf 127 T) FP.fconst1 = some .gt ∨ FP.fcmp (nf 127 T) FP.fconst1 = some .eq := by
  have e : FP.fcmp (nf 127 T) FP.fconst1 = FP.Core.cmp FP.Core.b32 (nrm FP.Core.b32 127 T) (nrm FP.Core.b32 127 0) := by
    show FP.Core.cmp FP.Core.b32 (nf 127 T).toNat FP.fconst1.toNat = _
    rw [k_f1, nf_t (by omega) hT, nf_t (by omega) (by omega)]
  rw [e]
  exact nrm_ge ok32 (by omega) (Nat.le_refl _) hT (by decide)
theorem fc_self {E T : Nat} (h1 : 1 ≤ E) (h2 : E ≤ 254) (hT : T < 8388608) : FP.fcmp (nf E T) (nf E T) = some .eq := by
  show FP.Core.cmp FP.Core.b32 (nf E T).toNat (nf E T).toNat = _
  rw [nf_t h2 hT]
  exact nrm_self ok32 h1 h2 hT
theorem fc_z : FP.fcmp 0 FP.fconst0 = some .eq := z_self ok32
theorem fc_zz : FP.fcmp 0 0 = some .eq := z_self ok32
theorem dc_0 {E T : Nat} (h1 : 1 ≤ E) (h2 : E ≤ 2046) (hT : T < 4503599627370496) : FP.dcmp (nd E T) FP.dconst0 = some .gt := by
  show FP.Core.cmp FP.Core.b64 (nd E T).toNat FP.dconst0.toNat = _
  rw [nd_t h2 hT, k_d0]
  exact nrm_0 ok64 h1 h2 hT
theorem dc_lt {E T : Nat} (h1 : 1 ≤ E) (h2 : E < 1023) (hT : T < 4503599627370496) : FP.dcmp (nd E T) FP.dconst1 = some .lt := by
  show FP.Core.cmp FP.Core.b64 (nd E T).toNat FP.dconst1.toNat = _
  rw [k_d1, nd_t (by omega) hT, nd_t (by omega) (by omega)]
  exact nrm_lt ok64 h1 h2 hT (by decide)
theorem dc_ge {E T : Nat} (h1 : 1023 ≤ E) (h2 : E ≤ 2046) (hT : T < 4503599627370496) : FP.dcmp (nd E T) FP.dconst1 = some .gt ∨ FP.dcmp (nd E T) FP.dconst1 = some .eq := by
  have e : FP.dcmp (nd E T) FP.dconst1 = FP.Core.cmp FP.Core.b64 (nrm FP.Core.b64 E T) (nrm FP.Core.b64 1023 0) := by
    show FP.Core.cmp FP.Core.b64 (nd E T).toNat FP.dconst1.toNat = _
    rw [k_d1, nd_t h2 hT, nd_t (by omega) (by omega)]
  rw [e]
  exact nrm_ge ok64 (by omega) h1 hT h2
theorem dc_2l {E T : Nat} (h1 : 1 ≤ E) (h2 : E < 1024) (hT : T < 4503599627370496) : FP.dcmp (nd E T) (nd 1024 0) = some .lt := by
  show FP.Core.cmp FP.Core.b64 (nd E T).toNat (nd 1024 0).toNat = _
  rw [nd_t (by omega) hT, nd_t (by omega) (by omega)]
  exact nrm_lt ok64 h1 h2 hT (by decide)
theorem dc_2g {E T : Nat} (h1 : 1024 ≤ E) (h2 : E ≤ 2046) (hT : T < 4503599627370496) : FP.dcmp (nd E T) (nd 1024 0) = some .gt ∨ FP.dcmp (nd E T) (nd 1024 0) = some .eq := by
  have e : FP.dcmp (nd E T) (nd 1024 0) = FP.Core.cmp FP.Core.b64 (nrm FP.Core.b64 E T) (nrm FP.Core.b64 1024 0) := by
    show FP.Core.cmp FP.Core.b64 (nd E T).toNat (nd 1024 0).toNat = _
    rw [nd_t h2 hT, nd_t (by omega) (by omega)]
  rw [e]
  exact nrm_ge ok64 (by omega) h1 hT h2
theorem dc_self {E T : Nat} (h1 : 1 ≤ E) (h2 : E ≤ 2046) (hT : T < 4503599627370496) : FP.dcmp (nd E T) (nd E T) = some .eq := by
  show FP.Core.cmp FP.Core.b64 (nd E T).toNat (nd E T).toNat = _
  rw [nd_t h2 hT]
  exact nrm_self ok64 h1 h2 hT
theorem dc_z : FP.dcmp 0 FP.dconst0 = some .eq := z_self ok64
theorem dc_zz : FP.dcmp 0 0 = some .eq := z_self ok64
theorem f2i_n {T : Nat} (hT : T < 8388608) : FP.f2i (nf 150 T) = nI (8388608 + T) := by
  show FP.Core.toI (FP.Core.decode FP.Core.b32 (nf 150 T).toNat) = _
  rw [nf_t (by omega) hT, nrm_dec ok32 (by omega) (by decide) hT]
  have e : FP.Core.b32.qmin + (((150 : Nat) : Int) - 1) = 0 := by decide
  rw [e]
  have et : FP.Core.b32.tails = 8388608 := rfl
  rw [et]
  show Int32.ofInt (max (-2 ^ 31) (min (2 ^ 31 - 1) (((8388608 + T) * 2 ^ 0 / 2 ^ 0 : Nat) : Int))) = _
  rw [Nat.pow_zero, Nat.mul_one, Nat.div_one, show max (-2 ^ 31) (min (2 ^ 31 - 1) ((8388608 + T : Nat) : Int)) = ((8388608 + T : Nat) : Int) by omega]
  exact Int32.toBitVec_inj.mp (BitVec.ofInt_natCast 32 (8388608 + T))
theorem d2l_n {T : Nat} (hT : T < 4503599627370496) : FP.d2l (nd 1075 T) = lN (4503599627370496 + T) := by
  show FP.Core.toL (FP.Core.decode FP.Core.b64 (nd 1075 T).toNat) = _
  rw [nd_t (by omega) hT, nrm_dec ok64 (by omega) (by decide) hT]
  have e : FP.Core.b64.qmin + (((1075 : Nat) : Int) - 1) = 0 := by decide
  rw [e]
  have et : FP.Core.b64.tails = 4503599627370496 := rfl
  rw [et]
  show Int64.ofInt (max (-2 ^ 63) (min (2 ^ 63 - 1) (((4503599627370496 + T) * 2 ^ 0 / 2 ^ 0 : Nat) : Int))) = _
  rw [Nat.pow_zero, Nat.mul_one, Nat.div_one, show max (-2 ^ 63) (min (2 ^ 63 - 1) ((4503599627370496 + T : Nat) : Int)) = ((4503599627370496 + T : Nat) : Int) by omega]
  exact Int64.toBitVec_inj.mp (BitVec.ofInt_natCast 64 (4503599627370496 + T))
theorem b32_and {T : Nat} (hT : T < 8388608) : nI (8388608 + T) &&& 8388607 = nI T := by
  apply Int32.toBitVec_inj.mp
  show BitVec.ofNat 32 (8388608 + T) &&& BitVec.ofNat 32 8388607 = BitVec.ofNat 32 T
  apply BitVec.eq_of_toNat_eq
  rw [BitVec.toNat_and, BitVec.toNat_ofNat, BitVec.toNat_ofNat, BitVec.toNat_ofNat, Nat.mod_eq_of_lt (by omega), Nat.mod_eq_of_lt (a := 8388607) (by omega), show 8388607 = 2 ^ 23 - 1 by decide, Nat.and_two_pow_sub_one_eq_mod]
  omega
theorem b64_and {T : Nat} (hT : T < 4503599627370496) : lN (4503599627370496 + T) &&& 4503599627370495 = lN T := by
  apply Int64.toBitVec_inj.mp
  show BitVec.ofNat 64 (4503599627370496 + T) &&& BitVec.ofNat 64 4503599627370495 = BitVec.ofNat 64 T
  apply BitVec.eq_of_toNat_eq
  rw [BitVec.toNat_and, BitVec.toNat_ofNat, BitVec.toNat_ofNat, BitVec.toNat_ofNat, Nat.mod_eq_of_lt (by omega), Nat.mod_eq_of_lt (a := 4503599627370495) (by omega), show 4503599627370495 = 2 ^ 52 - 1 by decide, Nat.and_two_pow_sub_one_eq_mod]
  omega
theorem b32_or {E T : Nat} (h2 : E ≤ 254) (hT : T < 8388608) : nI E <<< ((23 : Int32) &&& 31) ||| nI T = (nf E T).toInt32 := by
  have e1 : nI E <<< ((23 : Int32) &&& 31) = nI (E * 2 ^ 23) := pk_shlN _ 23 (by decide) (by omega)
  rw [e1]
  apply Int32.toBitVec_inj.mp
  show BitVec.ofNat 32 (E * 2 ^ 23) ||| BitVec.ofNat 32 T = BitVec.ofNat 32 (nrm FP.Core.b32 E T)
  apply BitVec.eq_of_toNat_eq
  rw [nrm32, BitVec.toNat_or, BitVec.toNat_ofNat, BitVec.toNat_ofNat, BitVec.toNat_ofNat, Nat.mod_eq_of_lt (by omega), Nat.mod_eq_of_lt (a := T) (by omega), Nat.mod_eq_of_lt (by omega)]
  have := Nat.shiftLeft_add_eq_or_of_lt (b := T) (i := 23) (by omega) E
  rw [Nat.shiftLeft_eq] at this
  rw [← this]
theorem lN_t {E : Nat} (h : E < 18446744073709551616) : (lN E).toBitVec.toNat = E := by
  show (BitVec.ofNat 64 E).toNat = E
  rw [BitVec.toNat_ofNat]
  exact Nat.mod_eq_of_lt h
theorem nd_bt {E T : Nat} (h2 : E ≤ 2046) (hT : T < 4503599627370496) : (nd E T).toInt64.toBitVec.toNat = E * 4503599627370496 + T := nd_t h2 hT
theorem sh52 : ((52 : Int32).toInt64 &&& 63 : Int64).toBitVec.smod 64 = 52#64 := by decide
theorem p52 : (2 : Nat) ^ 52 = 4503599627370496 := by decide
theorem p64 : (2 : Nat) ^ 64 = 18446744073709551616 := by decide
theorem t52 : (52#64).toNat = 52 := by decide
theorem b64_or {E T : Nat} (h2 : E ≤ 2046) (hT : T < 4503599627370496) : lN E <<< ((52 : Int32).toInt64 &&& 63) ||| lN T = (nd E T).toInt64 := by
  apply Int64.toBitVec_inj.mp
  apply BitVec.eq_of_toNat_eq
  rw [nd_bt h2 hT, Int64.toBitVec_or, Int64.toBitVec_shiftLeft, sh52, BitVec.toNat_or, BitVec.shiftLeft_eq', BitVec.toNat_shiftLeft, lN_t (by omega), lN_t (by omega), t52, Nat.shiftLeft_eq, p52, p64, Nat.mod_eq_of_lt (by omega)]
  have k := Nat.shiftLeft_add_eq_or_of_lt (b := T) (i := 52) (by rw [p52]; exact hT) E
  rw [Nat.shiftLeft_eq, p52] at k
  exact k.symm
theorem cv_lt (o : CmpOp) : Op.cmpValue (some .lt) o = -1 := rfl
theorem cv_eq (o : CmpOp) : Op.cmpValue (some .eq) o = 0 := rfl
theorem cv_gt (o : CmpOp) : Op.cmpValue (some .gt) o = 1 := rfl
theorem i_m1 : ¬ (0 : Int32) ≤ -1 := by decide
theorem i_01 : (0 : Int32) < 1 := by decide
theorem i_00 : ¬ (0 : Int32) < 0 := by decide
theorem i_l0 : (0 : Int32) ≤ 0 := by decide
theorem i_l1 : (0 : Int32) ≤ 1 := by decide
section FB
variable {h : evH} {m : evM}
theorem g_floatBits {E : Nat} {F : Nat → UInt32} {X : UInt32} {R : Int32} (h1 : 1 ≤ E) (h2 : E ≤ 127) (c0 : FP.fcmp (F E) FP.fconst0 = some .gt) (clt : ∀ e, 1 ≤ e → e < 127 → FP.fcmp (F e) FP.fconst1 = some .lt) (cge : FP.fcmp (F 127) FP.fconst1 = some .gt ∨ FP.fcmp (F 127) FP.fconst1 = some .eq) (cm : ∀ e, 1 ≤ e → e < 127 → FP.fmul (F e) FP.fconst2 = F (e + 1)) (cn : ∀ e, 1 ≤ e → e < 127 → FP.fmul (F e) FP.fconst2 &&& 0x7fffffff ≤ 0x7f800000) (cX : FP.fmul (F 127) 1258291200 = X) (nX : FP.fmul (F 127) 1258291200 &&& 0x7fffffff ≤ 0x7f800000) (cR : nI E <<< ((23 : Int32) &&& 31) ||| (FP.f2i X &&& 8388607) = R) : evX 84 0 [(0, .float (F E))] [] h m = some (some (.int R), h, m) := by
  have lp : ∀ d j, E + j + d = 127 → evX 84 13 [(0, .float (F E)), (1, .float (F (E + j))), (2, .int (nI (127 - j)))] [] h m = evX 84 34 [(0, .float (F E)), (1, .float (F 127)), (2, .int (nI E))] [] h m := by
    intro d
    induction d with
    | zero =>
      intro j hj
      have e1 : E + j = 127 := by omega
      have e2 : 127 - j = E := by omega
      rw [e1, e2]
      rcases cge with c | c
      · simp only [x84_13, x84_14, x84_15, x84_16, evI_i, evJl_i, evJf_i, evJd_i, evA_r, evA_n, evA_q, evLk_c, evS1_d, evS2_d, evFl_n, evFl_c, evGl_n, evGl_c, evIn_n, evIn_c, evCat_i, evCat_l, evCat_f, evCat_d, evCat_r, evCat_z, evCat_q, evBd_some, evTl_s, evTl_n, va_rf_s, va_rf_n, and_true, true_and, and_false, false_and, if_true, if_false, not_true_eq_false, not_false_eq_true, reduceCtorEq, ↓reduceIte, Nat.reduceAdd, Nat.reduceEqDiff, Nat.reduceLT, Nat.reduceLeDiff, Nat.reduceSub, Nat.zero_ne_one, Nat.one_ne_zero, c, cv_gt, i_l1]
      · simp only [x84_13, x84_14, x84_15, x84_16, evI_i, evJl_i, evJf_i, evJd_i, evA_r, evA_n, evA_q, evLk_c, evS1_d, evS2_d, evFl_n, evFl_c, evGl_n, evGl_c, evIn_n, evIn_c, evCat_i, evCat_l, evCat_f, evCat_d, evCat_r, evCat_z, evCat_q, evBd_some, evTl_s, evTl_n, va_rf_s, va_rf_n, and_true, true_and, and_false, false_and, if_true, if_false, not_true_eq_false, not_false_eq_true, reduceCtorEq, ↓reduceIte, Nat.reduceAdd, Nat.reduceEqDiff, Nat.reduceLT, Nat.reduceLeDiff, Nat.reduceSub, Nat.zero_ne_one, Nat.one_ne_zero, c, cv_eq, i_l0]
    | succ d ih =>
      intro j hj
      have c := clt (E + j) (by omega) (by omega)
      have e1 : ¬ nI (127 - j) ≤ 1 := nI_ge (a := 1) (by omega) (by omega)
      have mu := cm (E + j) (by omega) (by omega)
      have nn := cn (E + j) (by omega) (by omega)
      have e2 : nI (127 - j) + -1 = nI (127 - (j + 1)) := by rw [show 127 - j = 127 - (j + 1) + 1 by omega]; exact pk_m1 _
      have IH := ih (j + 1) (by omega)
      rw [show E + (j + 1) = E + j + 1 by omega] at IH
      rw [← IH]
      conv => lhs; rw [x84_13]
      simp only [x84_14, x84_15, x84_16, x84_19, x84_20, x84_21, x84_24, x84_25, evI_i, evJl_i, evJf_i, evJd_i, evA_r, evA_n, evA_q, evLk_c, evS1_d, evS2_d, evFl_n, evFl_c, evGl_n, evGl_c, evIn_n, evIn_c, evCat_i, evCat_l, evCat_f, evCat_d, evCat_r, evCat_z, evCat_q, evBd_some, evTl_s, evTl_n, va_rf_s, va_rf_n, and_true, true_and, and_false, false_and, if_true, if_false, not_true_eq_false, not_false_eq_true, reduceCtorEq, ↓reduceIte, Nat.reduceAdd, Nat.reduceEqDiff, Nat.reduceLT, Nat.reduceLeDiff, Nat.reduceSub, Nat.zero_ne_one, Nat.one_ne_zero, c, cv_lt, i_m1, e1]
      rw [x84_26 _ _ _ _ _ _ nn, mu]
      simp only [x84_27, x84_28, x84_31, evI_i, evJl_i, evJf_i, evJd_i, evA_r, evA_n, evA_q, evLk_c, evS1_d, evS2_d, evFl_n, evFl_c, evGl_n, evGl_c, evIn_n, evIn_c, evCat_i, evCat_l, evCat_f, evCat_d, evCat_r, evCat_z, evCat_q, evBd_some, evTl_s, evTl_n, va_rf_s, va_rf_n, and_true, true_and, and_false, false_and, if_true, if_false, not_true_eq_false, not_false_eq_true, reduceCtorEq, ↓reduceIte, Nat.reduceAdd, Nat.reduceEqDiff, Nat.reduceLT, Nat.reduceLeDiff, Nat.reduceSub, Nat.zero_ne_one, Nat.one_ne_zero, e2]
  have LP := lp (127 - E) 0 (by omega)
  have k127 : nI (127 - 0) = (127 : Int32) := rfl
  rw [Nat.add_zero, k127] at LP
  have st : evX 84 0 [(0, .float (F E))] [] h m = evX 84 13 [(0, .float (F E)), (1, .float (F E)), (2, .int 127)] [] h m := by
    simp only [x84_0, x84_1, x84_2, x84_3, x84_6, x84_7, x84_8, x84_9, x84_10, x84_12, evI_i, evJl_i, evJf_i, evJd_i, evA_r, evA_n, evA_q, evLk_c, evS1_d, evS2_d, evFl_n, evFl_c, evGl_n, evGl_c, evIn_n, evIn_c, evCat_i, evCat_l, evCat_f, evCat_d, evCat_r, evCat_z, evCat_q, evBd_some, evTl_s, evTl_n, va_rf_s, va_rf_n, and_true, true_and, and_false, false_and, if_true, if_false, not_true_eq_false, not_false_eq_true, reduceCtorEq, ↓reduceIte, Nat.reduceAdd, Nat.reduceEqDiff, Nat.reduceLT, Nat.reduceLeDiff, Nat.reduceSub, Nat.zero_ne_one, Nat.one_ne_zero, c0, cv_gt, i_01]
  rw [st, LP]
  simp only [x84_34, x84_35, evI_i, evJl_i, evJf_i, evJd_i, evA_r, evA_n, evA_q, evLk_c, evS1_d, evS2_d, evFl_n, evFl_c, evGl_n, evGl_c, evIn_n, evIn_c, evCat_i, evCat_l, evCat_f, evCat_d, evCat_r, evCat_z, evCat_q, evBd_some, evTl_s, evTl_n, va_rf_s, va_rf_n, and_true, true_and, and_false, false_and, if_true, if_false, not_true_eq_false, not_false_eq_true, reduceCtorEq, ↓reduceIte, Nat.reduceAdd, Nat.reduceEqDiff, Nat.reduceLT, Nat.reduceLeDiff, Nat.reduceSub, Nat.zero_ne_one, Nat.one_ne_zero]
  rw [x84_37 _ _ _ _ _ _ nX, cX]
  simp only [x84_38, x84_39, x84_41, x84_42, x84_43, x84_44, x84_46, x84_47, x84_48, x84_49, evI_i, evJl_i, evJf_i, evJd_i, evA_r, evA_n, evA_q, evLk_c, evS1_d, evS2_d, evFl_n, evFl_c, evGl_n, evGl_c, evIn_n, evIn_c, evCat_i, evCat_l, evCat_f, evCat_d, evCat_r, evCat_z, evCat_q, evBd_some, evTl_s, evTl_n, va_rf_s, va_rf_n, and_true, true_and, and_false, false_and, if_true, if_false, not_true_eq_false, not_false_eq_true, reduceCtorEq, ↓reduceIte, Nat.reduceAdd, Nat.reduceEqDiff, Nat.reduceLT, Nat.reduceLeDiff, Nat.reduceSub, Nat.zero_ne_one, Nat.one_ne_zero, cR]
theorem c_floatBits {E T : Nat} (h1 : 1 ≤ E) (h2 : E ≤ 127) (hT : T < 8388608) : evX 84 0 [(0, .float (nf E T))] [] h m = some (some (.int (nf E T).toInt32), h, m) := by
  have cm : ∀ e, 1 ≤ e → e < 127 → FP.fmul (nf e T) FP.fconst2 = nf (e + 1) T := fun e a b => by rw [k_f2]; exact nf_mul a (by omega) hT (by omega) (by omega) (by omega) (by omega) (by omega)
  have mu : FP.fmul (nf 127 T) 1258291200 = nf 150 T := by rw [k_f23]; exact nf_mul (by omega) (by omega) hT (by omega) (by omega) (by omega) (by omega) (by omega)
  have cR : nI E <<< ((23 : Int32) &&& 31) ||| (FP.f2i (nf 150 T) &&& 8388607) = (nf E T).toInt32 := by
    rw [f2i_n hT, b32_and hT, b32_or (show E ≤ 254 by omega) hT]
  have nX : FP.fmul (nf 127 T) 1258291200 &&& 0x7fffffff ≤ 0x7f800000 := by
    rw [mu]
    exact nf_nn (by omega) hT
  exact g_floatBits (F := fun e => nf e T) (X := nf 150 T) h1 h2 (fc_0 h1 (by omega) hT) (fun e a b => fc_lt a b hT) (fc_ge hT) cm (fun e a b => by
    show FP.fmul (nf e T) FP.fconst2 &&& 0x7fffffff ≤ 0x7f800000
    rw [cm e a b]
    exact nf_nn (by omega) hT) mu nX cR
theorem c_floatBits0 : evX 84 0 [(0, .float 0)] [] h m = some (some (.int 0), h, m) := by
  simp only [x84_0, x84_1, x84_2, x84_3, x84_6, x84_7, evI_i, evJl_i, evJf_i, evJd_i, evA_r, evA_n, evA_q, evLk_c, evS1_d, evS2_d, evFl_n, evFl_c, evGl_n, evGl_c, evIn_n, evIn_c, evCat_i, evCat_l, evCat_f, evCat_d, evCat_r, evCat_z, evCat_q, evBd_some, evTl_s, evTl_n, va_rf_s, va_rf_n, and_true, true_and, and_false, false_and, if_true, if_false, not_true_eq_false, not_false_eq_true, reduceCtorEq, ↓reduceIte, Nat.reduceAdd, Nat.reduceEqDiff, Nat.reduceLT, Nat.reduceLeDiff, Nat.reduceSub, Nat.zero_ne_one, Nat.one_ne_zero, fc_z, cv_eq, i_00]
theorem c_fbits {x : UInt32} (c : FP.fcmp x x = some .eq) : evX 160 0 [(0, .float x)] [] h m = some (some (.int x.toInt32), h, m) := by
  have c1 : ¬ ¬ (0 : Int32) = 0 := fun z => z rfl
  have N : evX 159 0 [(0, .float x)] [] h m = some (some (.int 0), h, m) := by
    simp only [x159_0, x159_1, x159_2, x159_3, x159_6, x159_7, x159_10, x159_11_0, x159_11_1, x159_11b, evI_i, evJl_i, evJf_i, evJd_i, evA_r, evA_n, evA_q, evLk_c, evS1_d, evS2_d, evFl_n, evFl_c, evGl_n, evGl_c, evIn_n, evIn_c, evCat_i, evCat_l, evCat_f, evCat_d, evCat_r, evCat_z, evCat_q, evBd_some, evTl_s, evTl_n, va_rf_s, va_rf_n, and_true, true_and, and_false, false_and, if_true, if_false, not_true_eq_false, not_false_eq_true, reduceCtorEq, ↓reduceIte, Nat.reduceAdd, Nat.reduceEqDiff, Nat.reduceLT, Nat.reduceLeDiff, Nat.reduceSub, Nat.zero_ne_one, Nat.one_ne_zero, c, cv_eq]
  simp only [x160_0, x160_1, x160_4, x160_7, x160_8, x160_11, x160_12, x160_14, evI_i, evJl_i, evJf_i, evJd_i, evA_r, evA_n, evA_q, evLk_c, evS1_d, evS2_d, evFl_n, evFl_c, evGl_n, evGl_c, evIn_n, evIn_c, evCat_i, evCat_l, evCat_f, evCat_d, evCat_r, evCat_z, evCat_q, evBd_some, evTl_s, evTl_n, va_rf_s, va_rf_n, and_true, true_and, and_false, false_and, if_true, if_false, not_true_eq_false, not_false_eq_true, reduceCtorEq, ↓reduceIte, Nat.reduceAdd, Nat.reduceEqDiff, Nat.reduceLT, Nat.reduceLeDiff, Nat.reduceSub, Nat.zero_ne_one, Nat.one_ne_zero, N, c1, Option.toList, List.cons_append, List.nil_append]
theorem c_dbits {x : UInt64} (c : FP.dcmp x x = some .eq) : evX 158 0 [(0, .double x)] [] h m = some (some (.long x.toInt64), h, m) := by
  have N : evX 157 0 [(0, .double x)] [] h m = some (some (.int 0), h, m) := by
    simp only [x157_0, x157_1, x157_2, x157_3, x157_6, x157_7, x157_10, x157_11_0, x157_11_1, x157_11b, evI_i, evJl_i, evJf_i, evJd_i, evA_r, evA_n, evA_q, evLk_c, evS1_d, evS2_d, evFl_n, evFl_c, evGl_n, evGl_c, evIn_n, evIn_c, evCat_i, evCat_l, evCat_f, evCat_d, evCat_r, evCat_z, evCat_q, evBd_some, evTl_s, evTl_n, va_rf_s, va_rf_n, and_true, true_and, and_false, false_and, if_true, if_false, not_true_eq_false, not_false_eq_true, reduceCtorEq, ↓reduceIte, Nat.reduceAdd, Nat.reduceEqDiff, Nat.reduceLT, Nat.reduceLeDiff, Nat.reduceSub, Nat.zero_ne_one, Nat.one_ne_zero, c, cv_eq]
  simp only [x158_0, x158_1, x158_4, x158_7, x158_8, x158_11, x158_12, x158_15, evI_i, evJl_i, evJf_i, evJd_i, evA_r, evA_n, evA_q, evLk_c, evS1_d, evS2_d, evFl_n, evFl_c, evGl_n, evGl_c, evIn_n, evIn_c, evCat_i, evCat_l, evCat_f, evCat_d, evCat_r, evCat_z, evCat_q, evBd_some, evTl_s, evTl_n, va_rf_s, va_rf_n, and_true, true_and, and_false, false_and, if_true, if_false, not_true_eq_false, not_false_eq_true, reduceCtorEq, ↓reduceIte, Nat.reduceAdd, Nat.reduceEqDiff, Nat.reduceLT, Nat.reduceLeDiff, Nat.reduceSub, Nat.zero_ne_one, Nat.one_ne_zero, N, Option.toList, List.cons_append, List.nil_append]
theorem lgc_gt {a b : Nat} (h : b < a) (ha : a < 2 ^ 31) : lg_cmp (lN a) (lN b) = 1 := by
  unfold lg_cmp
  rw [if_pos ((lN_lt (by omega) ha).mpr h)]
theorem lgc_lt {a b : Nat} (h : a < b) (hb : b < 2 ^ 31) : lg_cmp (lN a) (lN b) = -1 := by
  unfold lg_cmp
  rw [if_neg (fun z => by have := (lN_lt hb (by omega)).mp z; omega), if_neg (fun z => by have := (lN_eq (by omega) hb).mp z; omega)]
theorem g_doubleBits {E : Nat} {D : Nat → UInt64} {X : UInt64} {R : Int64} (h1 : 1 ≤ E) (h2 : E ≤ 2046) (c0 : FP.dcmp (D E) FP.dconst0 = some .gt) (clt : ∀ e, 1 ≤ e → e < 1023 → FP.dcmp (D e) FP.dconst1 = some .lt) (cge : ∀ e, 1023 ≤ e → e ≤ 2046 → FP.dcmp (D e) FP.dconst1 = some .gt ∨ FP.dcmp (D e) FP.dconst1 = some .eq) (c2l : FP.dcmp (D 1023) 4611686018427387904 = some .lt) (c2g : ∀ e, 1024 ≤ e → e ≤ 2046 → FP.dcmp (D e) 4611686018427387904 = some .gt ∨ FP.dcmp (D e) 4611686018427387904 = some .eq) (cm : ∀ e, 1 ≤ e → e < 1023 → FP.dmul (D e) 4611686018427387904 = D (e + 1)) (cn : ∀ e, 1 ≤ e → e < 1023 → FP.dmul (D e) 4611686018427387904 &&& 0x7fffffffffffffff ≤ 0x7ff0000000000000) (cd : ∀ e, 1024 ≤ e → e ≤ 2046 → FP.ddiv (D e) 4611686018427387904 = D (e - 1)) (cq : ∀ e, 1024 ≤ e → e ≤ 2046 → FP.ddiv (D e) 4611686018427387904 &&& 0x7fffffffffffffff ≤ 0x7ff0000000000000) (cX : FP.dmul (D 1023) 4841369599423283200 = X) (nX : FP.dmul (D 1023) 4841369599423283200 &&& 0x7fffffffffffffff ≤ 0x7ff0000000000000) (cR : lN E <<< ((52 : Int32).toInt64 &&& 63) ||| (FP.d2l X &&& 4503599627370495) = R) : evX 85 0 [(0, .double (D E))] [] h m = some (some (.long R), h, m) := by
  have n10 : ¬ (1 : Int32) ≤ 0 := by decide
  have n1 : (-1 : Int32) < 0 := by decide
  have n2 : ¬ (1 : Int32) < 0 := by decide
  have kc3 : lN 1023 = (1023 : Int64) := rfl
  have lp1 : ∀ d j, E + j + d = 1023 → evX 85 15 [(0, .double (D E)), (2, .double (D (E + j))), (4, .long (lN (1023 - j)))] [] h m = evX 85 43 [(0, .double (D E)), (2, .double (D 1023)), (4, .long (lN E))] [] h m := by
    intro d
    induction d with
    | zero =>
      intro j hj
      have e1 : E + j = 1023 := by omega
      have e2 : 1023 - j = E := by omega
      rw [e1, e2]
      rcases cge 1023 (by omega) (by omega) with c | c
      · simp only [x85_15, x85_16, x85_17, x85_18, evI_i, evJl_i, evJf_i, evJd_i, evA_r, evA_n, evA_q, evLk_c, evS1_d, evS2_d, evFl_n, evFl_c, evGl_n, evGl_c, evIn_n, evIn_c, evCat_i, evCat_l, evCat_f, evCat_d, evCat_r, evCat_z, evCat_q, evBd_some, evTl_s, evTl_n, va_rf_s, va_rf_n, and_true, true_and, and_false, false_and, if_true, if_false, not_true_eq_false, not_false_eq_true, reduceCtorEq, ↓reduceIte, Nat.reduceAdd, Nat.reduceEqDiff, Nat.reduceLT, Nat.reduceLeDiff, Nat.reduceSub, Nat.zero_ne_one, Nat.one_ne_zero, c, cv_gt, i_l1]
      · simp only [x85_15, x85_16, x85_17, x85_18, evI_i, evJl_i, evJf_i, evJd_i, evA_r, evA_n, evA_q, evLk_c, evS1_d, evS2_d, evFl_n, evFl_c, evGl_n, evGl_c, evIn_n, evIn_c, evCat_i, evCat_l, evCat_f, evCat_d, evCat_r, evCat_z, evCat_q, evBd_some, evTl_s, evTl_n, va_rf_s, va_rf_n, and_true, true_and, and_false, false_and, if_true, if_false, not_true_eq_false, not_false_eq_true, reduceCtorEq, ↓reduceIte, Nat.reduceAdd, Nat.reduceEqDiff, Nat.reduceLT, Nat.reduceLeDiff, Nat.reduceSub, Nat.zero_ne_one, Nat.one_ne_zero, c, cv_eq, i_l0]
    | succ d ih =>
      intro j hj
      have c := clt (E + j) (by omega) (by omega)
      have e1 : lg_cmp (lN (1023 - j)) 1 = 1 := lgc_gt (b := 1) (by omega) (by omega)
      have mu := cm (E + j) (by omega) (by omega)
      have nn := cn (E + j) (by omega) (by omega)
      have e2 : lN (1023 - j) - 1 = lN (1023 - (j + 1)) := by
        have := lN_sub (a := 1023 - j) (b := 1) (by omega)
        rw [show 1023 - (j + 1) = 1023 - j - 1 by omega]
        exact this
      have IH := ih (j + 1) (by omega)
      rw [show E + (j + 1) = E + j + 1 by omega] at IH
      rw [← IH]
      conv => lhs; rw [x85_15]
      simp only [x85_16, x85_17, x85_18, x85_21, x85_23, x85_24, x85_25, x85_28, x85_29, evI_i, evJl_i, evJf_i, evJd_i, evA_r, evA_n, evA_q, evLk_c, evS1_d, evS2_d, evFl_n, evFl_c, evGl_n, evGl_c, evIn_n, evIn_c, evCat_i, evCat_l, evCat_f, evCat_d, evCat_r, evCat_z, evCat_q, evBd_some, evTl_s, evTl_n, va_rf_s, va_rf_n, and_true, true_and, and_false, false_and, if_true, if_false, not_true_eq_false, not_false_eq_true, reduceCtorEq, ↓reduceIte, Nat.reduceAdd, Nat.reduceEqDiff, Nat.reduceLT, Nat.reduceLeDiff, Nat.reduceSub, Nat.zero_ne_one, Nat.one_ne_zero, c, cv_lt, i_m1, e1, n10]
      rw [x85_32 _ _ _ _ _ _ nn, mu]
      simp only [x85_33, x85_34, x85_36, x85_37, x85_38, x85_40, evI_i, evJl_i, evJf_i, evJd_i, evA_r, evA_n, evA_q, evLk_c, evS1_d, evS2_d, evFl_n, evFl_c, evGl_n, evGl_c, evIn_n, evIn_c, evCat_i, evCat_l, evCat_f, evCat_d, evCat_r, evCat_z, evCat_q, evBd_some, evTl_s, evTl_n, va_rf_s, va_rf_n, and_true, true_and, and_false, false_and, if_true, if_false, not_true_eq_false, not_false_eq_true, reduceCtorEq, ↓reduceIte, Nat.reduceAdd, Nat.reduceEqDiff, Nat.reduceLT, Nat.reduceLeDiff, Nat.reduceSub, Nat.zero_ne_one, Nat.one_ne_zero, e2]
  have lp2 : ∀ d E', E' = 1023 + d → E' ≤ 2046 → ∀ e0, e0 + d ≤ 2046 → evX 85 43 [(0, .double (D E)), (2, .double (D E')), (4, .long (lN e0))] [] h m = evX 85 75 [(0, .double (D E)), (2, .double (D 1023)), (4, .long (lN (e0 + d)))] [] h m := by
    intro d
    induction d with
    | zero =>
      intro E' hE hE2 e0 he
      rw [Nat.add_zero] at hE ⊢
      rw [hE]
      simp only [x85_43, x85_44, x85_47, x85_48, evI_i, evJl_i, evJf_i, evJd_i, evA_r, evA_n, evA_q, evLk_c, evS1_d, evS2_d, evFl_n, evFl_c, evGl_n, evGl_c, evIn_n, evIn_c, evCat_i, evCat_l, evCat_f, evCat_d, evCat_r, evCat_z, evCat_q, evBd_some, evTl_s, evTl_n, va_rf_s, va_rf_n, and_true, true_and, and_false, false_and, if_true, if_false, not_true_eq_false, not_false_eq_true, reduceCtorEq, ↓reduceIte, Nat.reduceAdd, Nat.reduceEqDiff, Nat.reduceLT, Nat.reduceLeDiff, Nat.reduceSub, Nat.zero_ne_one, Nat.one_ne_zero, c2l, cv_lt, n1]
    | succ d ih =>
      intro E' hE hE2 e0 he
      have c := c2g E' (by omega) hE2
      have e1 : lg_cmp (lN e0) 2046 = -1 := lgc_lt (b := 2046) (by omega) (by omega)
      have mu := cd E' (by omega) hE2
      have nn := cq E' (by omega) hE2
      have e2 : lN e0 + 1 = lN (e0 + 1) := lN_1 e0
      rw [show e0 + (d + 1) = e0 + 1 + d by omega, ← ih (E' - 1) (by omega) (by omega) (e0 + 1) (by omega)]
      conv => lhs; rw [x85_43]
      rcases c with c | c
      · simp only [x85_44, x85_47, x85_48, x85_51, x85_53, x85_56, x85_57, x85_60, x85_61, evI_i, evJl_i, evJf_i, evJd_i, evA_r, evA_n, evA_q, evLk_c, evS1_d, evS2_d, evFl_n, evFl_c, evGl_n, evGl_c, evIn_n, evIn_c, evCat_i, evCat_l, evCat_f, evCat_d, evCat_r, evCat_z, evCat_q, evBd_some, evTl_s, evTl_n, va_rf_s, va_rf_n, and_true, true_and, and_false, false_and, if_true, if_false, not_true_eq_false, not_false_eq_true, reduceCtorEq, ↓reduceIte, Nat.reduceAdd, Nat.reduceEqDiff, Nat.reduceLT, Nat.reduceLeDiff, Nat.reduceSub, Nat.zero_ne_one, Nat.one_ne_zero, c, cv_gt, n2, e1, i_m1]
        rw [x85_64 _ _ _ _ _ _ nn, mu]
        simp only [x85_65, x85_66, x85_68, x85_69, x85_70, x85_72, evI_i, evJl_i, evJf_i, evJd_i, evA_r, evA_n, evA_q, evLk_c, evS1_d, evS2_d, evFl_n, evFl_c, evGl_n, evGl_c, evIn_n, evIn_c, evCat_i, evCat_l, evCat_f, evCat_d, evCat_r, evCat_z, evCat_q, evBd_some, evTl_s, evTl_n, va_rf_s, va_rf_n, and_true, true_and, and_false, false_and, if_true, if_false, not_true_eq_false, not_false_eq_true, reduceCtorEq, ↓reduceIte, Nat.reduceAdd, Nat.reduceEqDiff, Nat.reduceLT, Nat.reduceLeDiff, Nat.reduceSub, Nat.zero_ne_one, Nat.one_ne_zero, e2]
      · simp only [x85_44, x85_47, x85_48, x85_51, x85_53, x85_56, x85_57, x85_60, x85_61, evI_i, evJl_i, evJf_i, evJd_i, evA_r, evA_n, evA_q, evLk_c, evS1_d, evS2_d, evFl_n, evFl_c, evGl_n, evGl_c, evIn_n, evIn_c, evCat_i, evCat_l, evCat_f, evCat_d, evCat_r, evCat_z, evCat_q, evBd_some, evTl_s, evTl_n, va_rf_s, va_rf_n, and_true, true_and, and_false, false_and, if_true, if_false, not_true_eq_false, not_false_eq_true, reduceCtorEq, ↓reduceIte, Nat.reduceAdd, Nat.reduceEqDiff, Nat.reduceLT, Nat.reduceLeDiff, Nat.reduceSub, Nat.zero_ne_one, Nat.one_ne_zero, c, cv_eq, i_00, e1, i_m1]
        rw [x85_64 _ _ _ _ _ _ nn, mu]
        simp only [x85_65, x85_66, x85_68, x85_69, x85_70, x85_72, evI_i, evJl_i, evJf_i, evJd_i, evA_r, evA_n, evA_q, evLk_c, evS1_d, evS2_d, evFl_n, evFl_c, evGl_n, evGl_c, evIn_n, evIn_c, evCat_i, evCat_l, evCat_f, evCat_d, evCat_r, evCat_z, evCat_q, evBd_some, evTl_s, evTl_n, va_rf_s, va_rf_n, and_true, true_and, and_false, false_and, if_true, if_false, not_true_eq_false, not_false_eq_true, reduceCtorEq, ↓reduceIte, Nat.reduceAdd, Nat.reduceEqDiff, Nat.reduceLT, Nat.reduceLeDiff, Nat.reduceSub, Nat.zero_ne_one, Nat.one_ne_zero, e2]
  have fin : evX 85 75 [(0, .double (D E)), (2, .double (D 1023)), (4, .long (lN E))] [] h m = some (some (.long R), h, m) := by
    simp only [x85_75, x85_76, evI_i, evJl_i, evJf_i, evJd_i, evA_r, evA_n, evA_q, evLk_c, evS1_d, evS2_d, evFl_n, evFl_c, evGl_n, evGl_c, evIn_n, evIn_c, evCat_i, evCat_l, evCat_f, evCat_d, evCat_r, evCat_z, evCat_q, evBd_some, evTl_s, evTl_n, va_rf_s, va_rf_n, and_true, true_and, and_false, false_and, if_true, if_false, not_true_eq_false, not_false_eq_true, reduceCtorEq, ↓reduceIte, Nat.reduceAdd, Nat.reduceEqDiff, Nat.reduceLT, Nat.reduceLeDiff, Nat.reduceSub, Nat.zero_ne_one, Nat.one_ne_zero]
    rw [x85_79 _ _ _ _ _ _ nX, cX]
    simp only [x85_80, x85_81, x85_84, x85_85, x85_87, x85_89, x85_91, x85_92, x85_94, x85_95, evI_i, evJl_i, evJf_i, evJd_i, evA_r, evA_n, evA_q, evLk_c, evS1_d, evS2_d, evFl_n, evFl_c, evGl_n, evGl_c, evIn_n, evIn_c, evCat_i, evCat_l, evCat_f, evCat_d, evCat_r, evCat_z, evCat_q, evBd_some, evTl_s, evTl_n, va_rf_s, va_rf_n, and_true, true_and, and_false, false_and, if_true, if_false, not_true_eq_false, not_false_eq_true, reduceCtorEq, ↓reduceIte, Nat.reduceAdd, Nat.reduceEqDiff, Nat.reduceLT, Nat.reduceLeDiff, Nat.reduceSub, Nat.zero_ne_one, Nat.one_ne_zero, cR]
  have st : evX 85 0 [(0, .double (D E))] [] h m = evX 85 15 [(0, .double (D E)), (2, .double (D E)), (4, .long 1023)] [] h m := by
    simp only [x85_0, x85_1, x85_2, x85_3, x85_6, x85_7, x85_8, x85_9, x85_10, x85_13, evI_i, evJl_i, evJf_i, evJd_i, evA_r, evA_n, evA_q, evLk_c, evS1_d, evS2_d, evFl_n, evFl_c, evGl_n, evGl_c, evIn_n, evIn_c, evCat_i, evCat_l, evCat_f, evCat_d, evCat_r, evCat_z, evCat_q, evBd_some, evTl_s, evTl_n, va_rf_s, va_rf_n, and_true, true_and, and_false, false_and, if_true, if_false, not_true_eq_false, not_false_eq_true, reduceCtorEq, ↓reduceIte, Nat.reduceAdd, Nat.reduceEqDiff, Nat.reduceLT, Nat.reduceLeDiff, Nat.reduceSub, Nat.zero_ne_one, Nat.one_ne_zero, c0, cv_gt, i_01]
  rw [st]
  by_cases hE : E ≤ 1023
  · have a := lp1 (1023 - E) 0 (by omega)
    have b := lp2 0 1023 rfl (by omega) E (by omega)
    rw [Nat.add_zero, Nat.sub_zero, kc3] at a
    rw [Nat.add_zero] at b
    rw [a, b]
    exact fin
  · have a : evX 85 15 [(0, .double (D E)), (2, .double (D E)), (4, .long 1023)] [] h m = evX 85 43 [(0, .double (D E)), (2, .double (D E)), (4, .long 1023)] [] h m := by
      rcases cge E (by omega) h2 with c | c
      · simp only [x85_15, x85_16, x85_17, x85_18, evI_i, evJl_i, evJf_i, evJd_i, evA_r, evA_n, evA_q, evLk_c, evS1_d, evS2_d, evFl_n, evFl_c, evGl_n, evGl_c, evIn_n, evIn_c, evCat_i, evCat_l, evCat_f, evCat_d, evCat_r, evCat_z, evCat_q, evBd_some, evTl_s, evTl_n, va_rf_s, va_rf_n, and_true, true_and, and_false, false_and, if_true, if_false, not_true_eq_false, not_false_eq_true, reduceCtorEq, ↓reduceIte, Nat.reduceAdd, Nat.reduceEqDiff, Nat.reduceLT, Nat.reduceLeDiff, Nat.reduceSub, Nat.zero_ne_one, Nat.one_ne_zero, c, cv_gt, i_l1]
      · simp only [x85_15, x85_16, x85_17, x85_18, evI_i, evJl_i, evJf_i, evJd_i, evA_r, evA_n, evA_q, evLk_c, evS1_d, evS2_d, evFl_n, evFl_c, evGl_n, evGl_c, evIn_n, evIn_c, evCat_i, evCat_l, evCat_f, evCat_d, evCat_r, evCat_z, evCat_q, evBd_some, evTl_s, evTl_n, va_rf_s, va_rf_n, and_true, true_and, and_false, false_and, if_true, if_false, not_true_eq_false, not_false_eq_true, reduceCtorEq, ↓reduceIte, Nat.reduceAdd, Nat.reduceEqDiff, Nat.reduceLT, Nat.reduceLeDiff, Nat.reduceSub, Nat.zero_ne_one, Nat.one_ne_zero, c, cv_eq, i_l0]
    have b := lp2 (E - 1023) E (by omega) h2 1023 (by omega)
    rw [show 1023 + (E - 1023) = E by omega, kc3] at b
    rw [a, b]
    exact fin
theorem c_doubleBits {E T : Nat} (h1 : 1 ≤ E) (h2 : E ≤ 2046) (hT : T < 4503599627370496) : evX 85 0 [(0, .double (nd E T))] [] h m = some (some (.long (nd E T).toInt64), h, m) := by
  have cm : ∀ e, 1 ≤ e → e < 1023 → FP.dmul (nd e T) 4611686018427387904 = nd (e + 1) T := fun e a b => by rw [k_d2]; exact nd_mul a (by omega) hT (by omega) (by omega) (by omega) (by omega) (by omega)
  have cd : ∀ e, 1024 ≤ e → e ≤ 2046 → FP.ddiv (nd e T) 4611686018427387904 = nd (e - 1) T := fun e a b => by rw [k_d2]; exact nd_div (by omega) b hT (by omega) (by omega) (by omega) (by omega) (by omega)
  have mu : FP.dmul (nd 1023 T) 4841369599423283200 = nd 1075 T := by rw [k_d52]; exact nd_mul (by omega) (by omega) hT (by omega) (by omega) (by omega) (by omega) (by omega)
  have nX : FP.dmul (nd 1023 T) 4841369599423283200 &&& 0x7fffffffffffffff ≤ 0x7ff0000000000000 := by
    rw [mu]
    exact nd_nn (by omega) hT
  have cR : lN E <<< ((52 : Int32).toInt64 &&& 63) ||| (FP.d2l (nd 1075 T) &&& 4503599627370495) = (nd E T).toInt64 := by
    rw [d2l_n hT, b64_and hT, b64_or h2 hT]
  have c2l : FP.dcmp (nd 1023 T) 4611686018427387904 = some .lt := by
    rw [k_d2]
    exact dc_2l (by omega) (by omega) hT
  have c2g : ∀ e, 1024 ≤ e → e ≤ 2046 → FP.dcmp (nd e T) 4611686018427387904 = some .gt ∨ FP.dcmp (nd e T) 4611686018427387904 = some .eq := fun e a b => by
    rw [k_d2]
    exact dc_2g a b hT
  exact g_doubleBits (D := fun e => nd e T) (X := nd 1075 T) h1 h2 (dc_0 h1 h2 hT) (fun e a b => dc_lt a b hT) (fun e a b => dc_ge a b hT) c2l c2g cm (fun e a b => by
    show FP.dmul (nd e T) 4611686018427387904 &&& 0x7fffffffffffffff ≤ 0x7ff0000000000000
    rw [cm e a b]
    exact nd_nn (by omega) hT) cd (fun e a b => by
    show FP.ddiv (nd e T) 4611686018427387904 &&& 0x7fffffffffffffff ≤ 0x7ff0000000000000
    rw [cd e a b]
    exact nd_nn (by omega) hT) mu nX cR
theorem c_doubleBits0 : evX 85 0 [(0, .double 0)] [] h m = some (some (.long 0), h, m) := by
  simp only [x85_0, x85_1, x85_2, x85_3, x85_6, x85_7, evI_i, evJl_i, evJf_i, evJd_i, evA_r, evA_n, evA_q, evLk_c, evS1_d, evS2_d, evFl_n, evFl_c, evGl_n, evGl_c, evIn_n, evIn_c, evCat_i, evCat_l, evCat_f, evCat_d, evCat_r, evCat_z, evCat_q, evBd_some, evTl_s, evTl_n, va_rf_s, va_rf_n, and_true, true_and, and_false, false_and, if_true, if_false, not_true_eq_false, not_false_eq_true, reduceCtorEq, ↓reduceIte, Nat.reduceAdd, Nat.reduceEqDiff, Nat.reduceLT, Nat.reduceLeDiff, Nat.reduceSub, Nat.zero_ne_one, Nat.one_ne_zero, dc_z, cv_eq, i_00]
end FB
