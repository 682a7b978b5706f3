/-! shares: the bits of the quotients, by both -/
theorem int_ord {f : FP.Core.Fmt} (h : fOK f) {a b k1 k2 T1 T2 : Nat} (hab : a ≤ b) (a1 : k1 < f.p) (a2 : k2 < f.p) (b1 : T1 < f.tails) (b2 : T2 < f.tails) (e1 : f.tails + T1 = a * 2 ^ (f.p - 1 - k1)) (e2 : f.tails + T2 = b * 2 ^ (f.p - 1 - k2)) : k1 < k2 ∨ k1 = k2 ∧ T1 ≤ T2 := by
  have hp := h.1
  have tp := t_pow f
  rcases Nat.lt_trichotomy k1 k2 with z | z | z
  · exact Or.inl z
  · right
    refine ⟨z, ?_⟩
    subst z
    have := Nat.mul_le_mul_right (2 ^ (f.p - 1 - k1)) hab
    omega
  · exfalso
    have m1 : 2 ^ k1 * 2 ^ (f.p - 1 - k1) = f.tails := by rw [← Nat.pow_add, tp]; congr 1; omega
    have m2 : 2 ^ (k2 + 1) * 2 ^ (f.p - 1 - k2) = 2 * f.tails := by
      rw [← Nat.pow_add, show k2 + 1 + (f.p - 1 - k2) = f.p - 1 + 1 by omega, Nat.pow_succ, ← tp, Nat.mul_comm]
    have g1 : 2 ^ k1 ≤ a := Nat.le_of_mul_le_mul_right (by rw [m1]; omega) (Nat.two_pow_pos (f.p - 1 - k1))
    have g2 : b < 2 ^ (k2 + 1) := Nat.lt_of_mul_lt_mul_right (a := 2 ^ (f.p - 1 - k2)) (by rw [m2]; omega)
    have g3 : 2 ^ (k2 + 1) ≤ 2 ^ k1 := Nat.pow_le_pow_right (by omega) (by omega)
    omega
theorem i2f_pos {a : Nat} (h0 : 0 < a) (ha : a < 16777216) : ∃ k T, k < 24 ∧ T < 8388608 ∧ FP.i2f (nI a) = nf (127 + k) T ∧ FP.Core.b32.tails + T = a * 2 ^ (24 - 1 - k) := by
  obtain ⟨k, T, h1, h2, h3, h4⟩ := nrm_int ok32 h0 (show a < 2 * FP.Core.b32.tails from ha)
  refine ⟨k, T, h1, h2, ?_, h4⟩
  show UInt32.ofNat (FP.Core.fromInt FP.Core.b32 (nI a).toInt) = _
  rw [nI_toInt (by omega), h3]
  rfl
theorem i2d_pos {a : Nat} (h0 : 0 < a) (ha : a < 2147483648) : ∃ k T, k < 53 ∧ T < 4503599627370496 ∧ FP.i2d (nI a) = nd (1023 + k) T := by
  obtain ⟨k, T, h1, h2, h3, h4⟩ := nrm_int ok64 h0 (show a < 2 * 4503599627370496 by omega)
  refine ⟨k, T, h1, h2, ?_⟩
  show UInt64.ofNat (FP.Core.fromInt FP.Core.b64 (nI a).toInt) = _
  rw [nI_toInt (by omega), h3]
  rfl
theorem i2f_0 : FP.i2f (nI 0) = 0 := by
  show UInt32.ofNat (FP.Core.fromInt FP.Core.b32 0) = 0
  rw [int_0 ok32]
  rfl
theorem i2d_0 : FP.i2d (nI 0) = 0 := by
  show UInt64.ofNat (FP.Core.fromInt FP.Core.b64 0) = 0
  rw [int_0 ok64]
  rfl
theorem z32 : (0 : UInt32).toNat = 0 := rfl
theorem z64 : (0 : UInt64).toNat = 0 := rfl
theorem q32 {a b : Nat} (hb : 0 < b) (hab : a ≤ b) (hb2 : b < 16777216) : ∃ R : Int32, (∀ (h : evH) (m : evM), evX 84 0 [(0, .float (FP.fdiv (FP.i2f (nI a)) (FP.i2f (nI b))))] [] h m = some (some (.int R), h, m)) ∧ (∀ (h : evH) (m : evM), evX 160 0 [(0, .float (FP.fdiv (FP.i2f (nI a)) (FP.i2f (nI b))))] [] h m = some (some (.int R), h, m)) ∧ FP.fdiv (FP.i2f (nI a)) (FP.i2f (nI b)) &&& 0x7fffffff ≤ 0x7f800000 := by
  obtain ⟨k2, T2, c1, c2, c3, c4⟩ := i2f_pos hb hb2
  rw [c3]
  rcases Nat.eq_zero_or_pos a with rfl | ha
  · have e : FP.fdiv (FP.i2f (nI 0)) (nf (127 + k2) T2) = 0 := by
      rw [i2f_0]
      show UInt32.ofNat (FP.Core.div FP.Core.b32 (0 : UInt32).toNat (nf (127 + k2) T2).toNat) = 0
      rw [nf_t (by omega) c2, z32, div_0 ok32 (by omega) (show 127 + k2 ≤ 254 by omega) c2]
      rfl
    rw [e]
    refine ⟨0, fun h m => c_floatBits0, fun h m => ?_, by decide⟩
    have := c_fbits (h := h) (m := m) fc_zz
    exact this
  · obtain ⟨k1, T1, d1, d2, d3, d4⟩ := i2f_pos ha (by omega)
    rw [d3]
    obtain ⟨E, T, m1, m2, m3, m4, m5⟩ := nrm_quo ok32 (k1 := k1) (k2 := k2) (T1 := T1) (T2 := T2) d1 c1 d2 c2
    have hE : E ≤ 127 := m5 (int_ord ok32 hab d1 c1 d2 c2 d4 c4)
    have hT : T < 8388608 := m3
    have e : FP.fdiv (nf (127 + k1) T1) (nf (127 + k2) T2) = nf E T := by
      show UInt32.ofNat (FP.Core.div FP.Core.b32 (nf (127 + k1) T1).toNat (nf (127 + k2) T2).toNat) = _
      rw [nf_t (by omega) d2, nf_t (by omega) c2]
      exact congrArg UInt32.ofNat m4
    rw [e]
    exact ⟨(nf E T).toInt32, fun h m => c_floatBits m1 hE hT, fun h m => c_fbits (fc_self m1 (by omega) hT), nf_nn (by omega) hT⟩
theorem q64 {a b : Nat} (hb : 0 < b) (ha2 : a < 2147483648) (hb2 : b < 2147483648) : ∃ R : Int64, (∀ (h : evH) (m : evM), evX 85 0 [(0, .double (FP.ddiv (FP.i2d (nI a)) (FP.i2d (nI b))))] [] h m = some (some (.long R), h, m)) ∧ (∀ (h : evH) (m : evM), evX 158 0 [(0, .double (FP.ddiv (FP.i2d (nI a)) (FP.i2d (nI b))))] [] h m = some (some (.long R), h, m)) ∧ FP.ddiv (FP.i2d (nI a)) (FP.i2d (nI b)) &&& 0x7fffffffffffffff ≤ 0x7ff0000000000000 := by
  obtain ⟨k2, T2, c1, c2, c3⟩ := i2d_pos hb hb2
  rw [c3]
  rcases Nat.eq_zero_or_pos a with rfl | ha
  · have e : FP.ddiv (FP.i2d (nI 0)) (nd (1023 + k2) T2) = 0 := by
      rw [i2d_0]
      show UInt64.ofNat (FP.Core.div FP.Core.b64 (0 : UInt64).toNat (nd (1023 + k2) T2).toNat) = 0
      rw [nd_t (by omega) c2, z64, div_0 ok64 (by omega) (show 1023 + k2 ≤ 2046 by omega) c2]
      rfl
    rw [e]
    refine ⟨0, fun h m => c_doubleBits0, fun h m => ?_, by decide⟩
    have := c_dbits (h := h) (m := m) dc_zz
    exact this
  · obtain ⟨k1, T1, d1, d2, d3⟩ := i2d_pos ha ha2
    rw [d3]
    obtain ⟨E, T, m1, m2, m3, m4, m5⟩ := nrm_quo ok64 (k1 := k1) (k2 := k2) (T1 := T1) (T2 := T2) d1 c1 d2 c2
    have hE : E ≤ 2046 := m2
    have hT : T < 4503599627370496 := m3
    have e : FP.ddiv (nd (1023 + k1) T1) (nd (1023 + k2) T2) = nd E T := by
      show UInt64.ofNat (FP.Core.div FP.Core.b64 (nd (1023 + k1) T1).toNat (nd (1023 + k2) T2).toNat) = _
      rw [nd_t (by omega) d2, nd_t (by omega) c2]
      exact congrArg UInt64.ofNat m4
    rw [e]
    exact ⟨(nd E T).toInt64, fun h m => c_doubleBits m1 hE hT, fun h m => c_dbits (dc_self m1 hE hT), nd_nn hE hT⟩
theorem sum_bd {v : evVt} {p B : Nat} (hB : B ≤ 1000000) (e : ∀ i, i < 6 → 0 ≤ (v 2 i p).toInt ∧ (v 2 i p).toInt ≤ B) (k : Nat) (hk : k ≤ 6) : 0 ≤ (sumV v p k).toInt ∧ (sumV v p k).toInt ≤ k * B := by
  induction k with
  | zero =>
    show 0 ≤ (0 : Int32).toInt ∧ (0 : Int32).toInt ≤ _
    have z := ti_0
    omega
  | succ k ih =>
    have i := ih (by omega)
    have ek := e k (by omega)
    have hkB : k * B ≤ 6 * 1000000 := Nat.mul_le_mul (by omega) hB
    rw [sumV_s]
    have s := ti_add (a := sumV v p k) (b := v 2 k p) (by omega) (by omega)
    rw [s]
    have : ((k + 1 : Nat) : Int) * (B : Int) = (k : Int) * (B : Int) + B := by
      rw [show ((k + 1 : Nat) : Int) = (k : Int) + 1 by omega, Int.add_mul, Int.one_mul]
    omega
theorem sum_le {v : evVt} {p p' B : Nat} (hB : B ≤ 1000000) (e : ∀ i, i < 6 → 0 ≤ (v 2 i p).toInt ∧ (v 2 i p).toInt ≤ (v 2 i p').toInt ∧ (v 2 i p').toInt ≤ B) (k : Nat) (hk : k ≤ 6) : (sumV v p k).toInt ≤ (sumV v p' k).toInt := by
  induction k with
  | zero => exact Int.le_refl _
  | succ k ih =>
    have i := ih (by omega)
    have ek := e k (by omega)
    have b1 := sum_bd (v := v) (p := p) hB (fun i hi => by have := e i hi; omega) k (by omega)
    have b2 := sum_bd (v := v) (p := p') hB (fun i hi => by have := e i hi; omega) k (by omega)
    have hkB : k * B ≤ 6 * 1000000 := Nat.mul_le_mul (by omega) hB
    rw [sumV_s, sumV_s, ti_add (a := sumV v p k) (b := v 2 k p) (by omega) (by omega), ti_add (a := sumV v p' k) (b := v 2 k p') (by omega) (by omega)]
    omega
theorem nat_of {x : Int32} (h : 0 ≤ x.toInt) : ∃ a : Nat, a < 2147483648 ∧ x = nI a ∧ x.toInt = a := by
  have hx : ¬ x < 0 := by
    rw [Int32.lt_iff_toInt_lt]
    have := ti_0
    omega
  obtain ⟨a, ha, e⟩ := nI_of hx
  exact ⟨a, ha, e, by rw [e]; exact nI_toInt ha⟩
section SH
variable {h : evH} {s : Nat → Option Nat} {n : Nat} {u p : Nat → Nat → Int32} {V : Nat → evVt} {x k L : Nat}
theorem sums_of {v : evVt} {r : Nat → Int32} {n q T lag g tot : Nat} (hF : rFu v r n q T lag g tot) (hT : T ≤ 9999) : (∃ a b, sumV v 7 n = nI a ∧ sumV v 6 n = nI b ∧ a ≤ b ∧ b < 16777216) ∧ ∃ a b, sumV v 4 n = nI a ∧ sumV v 5 n = nI b ∧ a < 2147483648 ∧ b < 2147483648 := by
  have hn := hF.1.1.1.1
  have hg : g ≤ 8 := by
    have h1 := hF.1.1.2.2.1.1
    have h2 := hF.1.1.1.2.1
    omega
  obtain ⟨e, he, hB⟩ : ∃ e, e ≤ 8 ∧ rBd v e T := ⟨_, by split <;> omega, hF.2⟩
  have hi := hB.2.1
  have b7 := sum_bd (v := v) (p := 7) (B := 9999) (by omega) (fun i h6 => by obtain ⟨a1, a2, a3, a4, a5, a6, a7, a8, a9⟩ := hi i h6; omega) n hn
  have b6 := sum_bd (v := v) (p := 6) (B := 9999) (by omega) (fun i h6 => by obtain ⟨a1, a2, a3, a4, a5, a6, a7, a8, a9⟩ := hi i h6; omega) n hn
  have bl := sum_le (v := v) (p := 7) (p' := 6) (B := 9999) (by omega) (fun i h6 => by obtain ⟨a1, a2, a3, a4, a5, a6, a7, a8, a9⟩ := hi i h6; omega) n hn
  have b4 := sum_bd (v := v) (p := 4) (B := 79992) (by omega) (fun i h6 => by obtain ⟨a1, a2, a3, a4, a5, a6, a7, a8, a9⟩ := hi i h6; omega) n hn
  have b5 := sum_bd (v := v) (p := 5) (B := 79992) (by omega) (fun i h6 => by obtain ⟨a1, a2, a3, a4, a5, a6, a7, a8, a9⟩ := hi i h6; omega) n hn
  obtain ⟨a, ha, ea, ea'⟩ := nat_of b7.1
  obtain ⟨b, hb, eb, eb'⟩ := nat_of b6.1
  obtain ⟨c, hc, ec, ec'⟩ := nat_of b4.1
  obtain ⟨d, hd, ed, ed'⟩ := nat_of b5.1
  exact ⟨⟨a, b, ea, eb, by omega, by omega⟩, c, d, ec, ed, hc, hd⟩
theorem S_shadows (H : LR h s n u p V x k L) : stepI 70 132 [] h n u p V := by
  obtain ⟨hx, hm, -, -, -, ⟨n0, q, T, lag, g, tot, hT, hF⟩, -, -, -, -, -⟩ := id H
  have HN := hF.1.1.1
  obtain ⟨⟨a, b, ea, eb, hab, hb2⟩, -⟩ := sums_of hF hT
  have M6 : mSum (u 1) 5 n0 = nI b := (sum_fu hF.1 (p := 5) (by omega)).symm.trans eb
  have M7 : mSum (u 1) 6 n0 = nI a := (sum_fu hF.1 (p := 6) (by omega)).symm.trans ea
  generalize hcc : (375 : Nat) = cc at hm
  have hm' := hm
  obtain ⟨hn2, hN, a0, b0, b1, b2, b3, b4, a83, a84, l84, r83, r84, a372, r372, a373, l373, a374, l374, r374, rss, hH⟩ := id hx
  obtain ⟨w0, w1, w2, w3, w4, w5, w6, w7, w8, w9, w10, w11, w12, w13, w14, w15, w16, w17, w18, w19, w20, w21, w22, w23, w24⟩ := id hm
  have h01 : evAt h 1 2 := (hH 0 (by omega)).1
  have S3 := c_bidsMade (m := memW u p V n) (v := V 0) (hH 0 (by omega)) HN.1 HN.2.2.2.2.1.1
  have S4 := c_shadowsMade (m := memW u p V n) (v := V 0) (hH 0 (by omega)) HN.1 HN.2.2.2.2.1.1
  rw [← memW_self (by omega) hn2, hb0] at S3 S4
  rw [eb] at S3
  rw [ea] at S4
  have A := fun (m : evM) (x : Int32) (h0 : ¬ x < 0) (h8 : x.toNatClampNeg < 8) => c_ofAll (m := m) (u := u) hm' HN.1 HN.2.2.2.2.1.2 (x := x) h0 h8
  have A5 := fun m => A m 5 lt5 (by decide)
  have A6 := fun m => A m 6 lt6 (by decide)
  simp only [lc5, lc6, M6, M7] at A5 A6
  by_cases hb : b = 0
  · subst hb
    have z : nI 0 = 0 := rfl
    have W : evX 70 0 [(0, .ref 0)] [] h (memW u p V n) = some (some (.int 0), h, memW u p V n) := by
      simp only [x70_0, x70_1, x70_4, x70_7, x70_8, x70_9, x70_12, x70_13, evI_i, evJl_i, evJf_i, evJd_i, evA_r, evA_n, evA_q, evLk_c, evS1_d, evS2_d, evFl_n, evFl_c, evGl_n, evGl_c, evIn_n, evIn_c, evCat_i, evCat_l, evCat_f, evCat_d, evCat_r, evCat_z, evCat_q, evBd_some, evTl_s, evTl_n, va_rf_s, va_rf_n, and_true, true_and, and_false, false_and, if_true, if_false, not_true_eq_false, not_false_eq_true, reduceCtorEq, ↓reduceIte, Nat.reduceAdd, Nat.reduceEqDiff, Nat.reduceLT, Nat.reduceLeDiff, Nat.reduceSub, Nat.zero_ne_one, Nat.one_ne_zero, a0, b0, b1, b2, b3, b4, a83, a84, l84, r83, a372, r372, a373, l373, a374, l374, memW_83, memW_372, memW_373, memW_s83, memW_s372, memW_s373, h01, S3, z, Option.toList, List.nil_append, List.cons_append]
    have M : ∀ m : evM, evX 132 0 [(0, .ref cc)] [] h (evGM m cc 9 u) = some (some (.int 0), h, evGM m cc 9 u) := fun m => by
      simp only [x132_0, x132_1, x132_2, x132_5, x132_6, x132_7, x132_10, x132_11, x132_14, x132_15, x132_17, x132_20, x132_21, x132_22, x132_23, x132_24, x132_27, evI_i, evJl_i, evJf_i, evJd_i, evA_r, evA_n, evA_q, evLk_c, evS1_d, evS2_d, evFl_n, evFl_c, evGl_n, evGl_c, evIn_n, evIn_c, evCat_i, evCat_l, evCat_f, evCat_d, evCat_r, evCat_z, evCat_q, evBd_some, evTl_s, evTl_n, va_rf_s, va_rf_n, and_true, true_and, and_false, false_and, if_true, if_false, not_true_eq_false, not_false_eq_true, reduceCtorEq, ↓reduceIte, Nat.reduceAdd, Nat.reduceEqDiff, Nat.reduceLT, Nat.reduceLeDiff, Nat.reduceSub, Nat.zero_ne_one, Nat.one_ne_zero, w0, w1, w2, w3, w4, w5, w6, w7, w8, w9, w10, w11, w12, w13, w14, w15, w16, w17, w18, w19, w20, w21, w22, w23, w24, evGM_get, evGM_set, evGM_get0, evGM_set0, A5, z, Option.toList, List.nil_append, List.cons_append]
    have M' := M (memW u p V n)
    subst hcc
    rw [memW_u] at M'
    exact ⟨_, h, s, n, _, _, _, _, _, _, W, M', H, rfl⟩
  · have z : ¬ nI b = 0 := nI_ne0 (by omega) (by omega)
    obtain ⟨R, Q1, Q2, Q3⟩ := q32 (a := a) (b := b) (by omega) hab hb2
    have W : evX 70 0 [(0, .ref 0)] [] h (memW u p V n) = some (some (.int R), h, memW u p V n) := by
      simp only [x70_0, x70_1, x70_4, x70_7, x70_8, x70_9, x70_12, x70_13, x70_14, x70_15, x70_18, x70_21, x70_22, x70_23, x70_24, x70_25, x70_28, evI_i, evJl_i, evJf_i, evJd_i, evA_r, evA_n, evA_q, evLk_c, evS1_d, evS2_d, evFl_n, evFl_c, evGl_n, evGl_c, evIn_n, evIn_c, evCat_i, evCat_l, evCat_f, evCat_d, evCat_r, evCat_z, evCat_q, evBd_some, evTl_s, evTl_n, va_rf_s, va_rf_n, and_true, true_and, and_false, false_and, if_true, if_false, not_true_eq_false, not_false_eq_true, reduceCtorEq, ↓reduceIte, Nat.reduceAdd, Nat.reduceEqDiff, Nat.reduceLT, Nat.reduceLeDiff, Nat.reduceSub, Nat.zero_ne_one, Nat.one_ne_zero, a0, b0, b1, b2, b3, b4, a83, a84, l84, r83, a372, r372, a373, l373, a374, l374, memW_83, memW_372, memW_373, memW_s83, memW_s372, memW_s373, h01, S3, S4, z, Q1, Q3, Option.toList, List.nil_append, List.cons_append]
    have M : ∀ m : evM, evX 132 0 [(0, .ref cc)] [] h (evGM m cc 9 u) = some (some (.int R), h, evGM m cc 9 u) := fun m => by
      simp only [x132_0, x132_1, x132_2, x132_5, x132_6, x132_7, x132_10, x132_11, x132_14, x132_15, x132_17, x132_20, x132_21, x132_22, x132_23, x132_24, x132_27, evI_i, evJl_i, evJf_i, evJd_i, evA_r, evA_n, evA_q, evLk_c, evS1_d, evS2_d, evFl_n, evFl_c, evGl_n, evGl_c, evIn_n, evIn_c, evCat_i, evCat_l, evCat_f, evCat_d, evCat_r, evCat_z, evCat_q, evBd_some, evTl_s, evTl_n, va_rf_s, va_rf_n, and_true, true_and, and_false, false_and, if_true, if_false, not_true_eq_false, not_false_eq_true, reduceCtorEq, ↓reduceIte, Nat.reduceAdd, Nat.reduceEqDiff, Nat.reduceLT, Nat.reduceLeDiff, Nat.reduceSub, Nat.zero_ne_one, Nat.one_ne_zero, w0, w1, w2, w3, w4, w5, w6, w7, w8, w9, w10, w11, w12, w13, w14, w15, w16, w17, w18, w19, w20, w21, w22, w23, w24, evGM_get, evGM_set, evGM_get0, evGM_set0, A5, A6, z, Q2, Q3, Option.toList, List.nil_append, List.cons_append]
    have M' := M (memW u p V n)
    subst hcc
    rw [memW_u] at M'
    exact ⟨_, h, s, n, _, _, _, _, _, _, W, M', H, rfl⟩
theorem S_dear (H : LR h s n u p V x k L) : stepD h n u p V := by
  obtain ⟨hx, hm, -, -, -, ⟨n0, q, T, lag, g, tot, hT, hF⟩, -, -, -, -, -⟩ := id H
  have HN := hF.1.1.1
  obtain ⟨-, a, b, ea, eb, ha2, hb2⟩ := sums_of hF hT
  have M6 : mSum (u 1) 4 n0 = nI b := (sum_fu hF.1 (p := 4) (by omega)).symm.trans eb
  have M7 : mSum (u 1) 3 n0 = nI a := (sum_fu hF.1 (p := 3) (by omega)).symm.trans ea
  generalize hcc : (375 : Nat) = cc at hm
  have hm' := hm
  obtain ⟨hn2, hN, a0, b0, b1, b2, b3, b4, a83, a84, l84, r83, r84, a372, r372, a373, l373, a374, l374, r374, rss, hH⟩ := id hx
  obtain ⟨w0, w1, w2, w3, w4, w5, w6, w7, w8, w9, w10, w11, w12, w13, w14, w15, w16, w17, w18, w19, w20, w21, w22, w23, w24⟩ := id hm
  have h01 : evAt h 1 2 := (hH 0 (by omega)).1
  have S3 := c_worthSold (m := memW u p V n) (v := V 0) (hH 0 (by omega)) HN.1 HN.2.2.2.2.1.1
  have S4 := c_coinsPaid (m := memW u p V n) (v := V 0) (hH 0 (by omega)) HN.1 HN.2.2.2.2.1.1
  rw [← memW_self (by omega) hn2, hb0] at S3 S4
  rw [eb] at S3
  rw [ea] at S4
  have A := fun (m : evM) (x : Int32) (h0 : ¬ x < 0) (h8 : x.toNatClampNeg < 8) => c_ofAll (m := m) (u := u) hm' HN.1 HN.2.2.2.2.1.2 (x := x) h0 h8
  have A5 := fun m => A m 4 lt4 (by decide)
  have A6 := fun m => A m 3 lt3 (by decide)
  simp only [lc4, lc3, M6, M7] at A5 A6
  by_cases hb : b = 0
  · subst hb
    have z : nI 0 = 0 := rfl
    have W : evX 71 0 [(0, .ref 0)] [] h (memW u p V n) = some (some (.long 0), h, memW u p V n) := by
      simp only [x71_0, x71_1, x71_4, x71_7, x71_8, x71_9, x71_12, x71_13, evI_i, evJl_i, evJf_i, evJd_i, evA_r, evA_n, evA_q, evLk_c, evS1_d, evS2_d, evFl_n, evFl_c, evGl_n, evGl_c, evIn_n, evIn_c, evCat_i, evCat_l, evCat_f, evCat_d, evCat_r, evCat_z, evCat_q, evBd_some, evTl_s, evTl_n, va_rf_s, va_rf_n, and_true, true_and, and_false, false_and, if_true, if_false, not_true_eq_false, not_false_eq_true, reduceCtorEq, ↓reduceIte, Nat.reduceAdd, Nat.reduceEqDiff, Nat.reduceLT, Nat.reduceLeDiff, Nat.reduceSub, Nat.zero_ne_one, Nat.one_ne_zero, a0, b0, b1, b2, b3, b4, a83, a84, l84, r83, a372, r372, a373, l373, a374, l374, memW_83, memW_372, memW_373, memW_s83, memW_s372, memW_s373, h01, S3, z, Option.toList, List.nil_append, List.cons_append]
    have M : ∀ m : evM, evX 133 0 [(0, .ref cc)] [] h (evGM m cc 9 u) = some (some (.long 0), h, evGM m cc 9 u) := fun m => by
      simp only [x133_0, x133_1, x133_2, x133_5, x133_6, x133_7, x133_10, x133_11, x133_14, x133_15, x133_16, x133_19, x133_20, x133_21, x133_22, x133_23, x133_26, evI_i, evJl_i, evJf_i, evJd_i, evA_r, evA_n, evA_q, evLk_c, evS1_d, evS2_d, evFl_n, evFl_c, evGl_n, evGl_c, evIn_n, evIn_c, evCat_i, evCat_l, evCat_f, evCat_d, evCat_r, evCat_z, evCat_q, evBd_some, evTl_s, evTl_n, va_rf_s, va_rf_n, and_true, true_and, and_false, false_and, if_true, if_false, not_true_eq_false, not_false_eq_true, reduceCtorEq, ↓reduceIte, Nat.reduceAdd, Nat.reduceEqDiff, Nat.reduceLT, Nat.reduceLeDiff, Nat.reduceSub, Nat.zero_ne_one, Nat.one_ne_zero, w0, w1, w2, w3, w4, w5, w6, w7, w8, w9, w10, w11, w12, w13, w14, w15, w16, w17, w18, w19, w20, w21, w22, w23, w24, evGM_get, evGM_set, evGM_get0, evGM_set0, A5, z, Option.toList, List.nil_append, List.cons_append]
    have M' := M (memW u p V n)
    subst hcc
    rw [memW_u] at M'
    exact ⟨_, h, s, n, _, _, _, _, _, _, W, M', H, rfl⟩
  · have z : ¬ nI b = 0 := nI_ne0 (by omega) (by omega)
    obtain ⟨R, Q1, Q2, Q3⟩ := q64 (a := a) (b := b) (by omega) ha2 hb2
    have W : evX 71 0 [(0, .ref 0)] [] h (memW u p V n) = some (some (.long R), h, memW u p V n) := by
      simp only [x71_0, x71_1, x71_4, x71_7, x71_8, x71_9, x71_12, x71_13, x71_14, x71_15, x71_18, x71_21, x71_22, x71_23, x71_24, x71_25, x71_28, evI_i, evJl_i, evJf_i, evJd_i, evA_r, evA_n, evA_q, evLk_c, evS1_d, evS2_d, evFl_n, evFl_c, evGl_n, evGl_c, evIn_n, evIn_c, evCat_i, evCat_l, evCat_f, evCat_d, evCat_r, evCat_z, evCat_q, evBd_some, evTl_s, evTl_n, va_rf_s, va_rf_n, and_true, true_and, and_false, false_and, if_true, if_false, not_true_eq_false, not_false_eq_true, reduceCtorEq, ↓reduceIte, Nat.reduceAdd, Nat.reduceEqDiff, Nat.reduceLT, Nat.reduceLeDiff, Nat.reduceSub, Nat.zero_ne_one, Nat.one_ne_zero, a0, b0, b1, b2, b3, b4, a83, a84, l84, r83, a372, r372, a373, l373, a374, l374, memW_83, memW_372, memW_373, memW_s83, memW_s372, memW_s373, h01, S3, S4, z, Q1, Q3, Option.toList, List.nil_append, List.cons_append]
    have M : ∀ m : evM, evX 133 0 [(0, .ref cc)] [] h (evGM m cc 9 u) = some (some (.long R), h, evGM m cc 9 u) := fun m => by
      simp only [x133_0, x133_1, x133_2, x133_5, x133_6, x133_7, x133_10, x133_11, x133_14, x133_15, x133_16, x133_19, x133_20, x133_21, x133_22, x133_23, x133_26, evI_i, evJl_i, evJf_i, evJd_i, evA_r, evA_n, evA_q, evLk_c, evS1_d, evS2_d, evFl_n, evFl_c, evGl_n, evGl_c, evIn_n, evIn_c, evCat_i, evCat_l, evCat_f, evCat_d, evCat_r, evCat_z, evCat_q, evBd_some, evTl_s, evTl_n, va_rf_s, va_rf_n, and_true, true_and, and_false, false_and, if_true, if_false, not_true_eq_false, not_false_eq_true, reduceCtorEq, ↓reduceIte, Nat.reduceAdd, Nat.reduceEqDiff, Nat.reduceLT, Nat.reduceLeDiff, Nat.reduceSub, Nat.zero_ne_one, Nat.one_ne_zero, w0, w1, w2, w3, w4, w5, w6, w7, w8, w9, w10, w11, w12, w13, w14, w15, w16, w17, w18, w19, w20, w21, w22, w23, w24, evGM_get, evGM_set, evGM_get0, evGM_set0, A5, A6, z, Q2, Q3, Option.toList, List.nil_append, List.cons_append]
    have M' := M (memW u p V n)
    subst hcc
    rw [memW_u] at M'
    exact ⟨_, h, s, n, _, _, _, _, _, _, W, M', H, rfl⟩
end SH
theorem law_all (L : Nat) (xs : Nat → Int32) (hL : L ≤ 1536) : evLaw L xs := law_start (fun H => S_shadows H) (fun H => S_dear H) L xs hL
