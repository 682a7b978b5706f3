/-! the class's object: what if -/
def eiC (b : Nat) (v : evVt) : Nat → Nat → Int32
  | 0, _ => -6
  | d + 1, k => if (playV b (passV b v k).1).2 = true then nI (k + 1) else eiC b v d (k + 1)
def ilC (b : Nat) (v : evVt) (x : Int32) : Int32 := if (clSet v 0 x).1 = -2 then -2 else sumV (outV b (clSet v 0 x).2 1000) 4 b - sumV v 4 b
def gnW (b : Nat) (v : evVt) (k : Nat) (y : Int32) : evVt := outV b (vs v 2 k 1 y) 1000
def gnC (b : Nat) (v : evVt) (k : Nat) (y : Int32) : Int32 := gnW b v k y 2 k 5 - gnW b v k y 2 k 4 - (v 2 k 5 - v 2 k 4)
def bsC (b : Nat) (v : evVt) (k : Nat) : Nat → Int32 × Int32
  | 0 => (0, gnC b v k 0)
  | j + 1 => if (bsC b v k j).2 < gnC b v k (nI (10 * (j + 1))) then (nI (10 * (j + 1)), gnC b v k (nI (10 * (j + 1)))) else bsC b v k j
section WI
variable {h : evH} {u p : Nat → Nat → Int32} {V : Nat → evVt} {n : Nat} {s : Nat → Option Nat}
theorem Vs_2 (V : Nat → evVt) (i : Nat) (v w : evVt) : Vs (Vs V i v) i w = Vs V i w := by
  funext k
  rw [Vs_at, Vs_at, Vs_at]
  split <;> rfl
theorem Vs_i (V : Nat → evVt) (i : Nat) (v : evVt) : Vs V i v i = v := by rw [Vs_at, if_pos rfl]
theorem W_hasLots (hx : xOK h n s) : evX 20 0 [(0, .ref 1)] [] h (memW u p V n) = some (some (.int (evBl (hasV (V 0)))), h, memW u p V n) := by
  obtain ⟨hn2, hN, a0, b0, b1, b2, b3, b4, a83, a84, l84, r83, r84, a372, r372, a373, l373, a374, l374, r374, rss, hH⟩ := id hx
  have C := c_hasLots (m := memW u p V n) (v := V 0) (hH 0 (by omega))
  rw [← memW_self (by omega) hn2, hb0] at C
  exact C
theorem W_play1 (hx : xOK h n s) {b m' t : Nat} {w : evVt} (hv : okV w b m' t) (ht : t + b < 2 ^ 30) : evX 21 0 [(0, .ref 42)] [] h (memW u p (Vs V 1 w) n) = some (some (.int (evBl (playV b w).2)), h, memW u p (Vs V 1 (playV b w).1) n) := by
  obtain ⟨hn2, hN, a0, b0, b1, b2, b3, b4, a83, a84, l84, r83, r84, a372, r372, a373, l373, a374, l374, r374, rss, hH⟩ := id hx
  have C := c_play (m := memW u p (Vs V 1 w) n) (v := Vs V 1 w 1) (hH 1 (by omega)) (by rw [Vs_i]; exact hv) ht
  rw [← memW_self (by omega) hn2, memW_put (by omega) hn2, hb1, Vs_i, Vs_2] at C
  exact C
theorem W_trial (hx : xOK h n s) : evX 8 0 [(0, .ref 42), (1, .ref 1)] [] h (memW u p V n) = some (none, h, memW u p (Vs V 1 (V 0)) n) := W_copy (u := u) (p := p) (V := V) hx (i := 1) (k := 0) (by omega) (by omega) (by omega)
theorem W_out1 (hx : xOK h n s) {b m' t : Nat} {w : evVt} (hv : okV w b m' t) (ht : t + 6000 < 2 ^ 30) : evX 19 0 [(0, .ref 42), (1, .int 1000)] [] h (memW u p (Vs V 1 w) n) = some (none, h, memW u p (Vs V 1 (outV b w 1000)) n) := by
  obtain ⟨hn2, hN, a0, b0, b1, b2, b3, b4, a83, a84, l84, r83, r84, a372, r372, a373, l373, a374, l374, r374, rss, hH⟩ := id hx
  have C := c_playOut (m := memW u p (Vs V 1 w) n) (v := Vs V 1 w 1) (c := 1000) (hH 1 (by omega)) (by rw [Vs_i]; exact hv) (by omega) ht
  rw [← memW_self (by omega) hn2, memW_put (by omega) hn2, hb1, Vs_i, Vs_2] at C
  exact C
theorem W_endsIn (hx : xOK h n s) {b m' t : Nat} (hv : okV (V 0) b m' t) (ht : t + 6006 < 2 ^ 30) : ∃ w, evX 72 0 [(0, .ref 0)] [] h (memW u p V n) = some (some (.int (if hasV (V 0) = true then eiC b (V 0) 500 0 else -6)), h, memW u p (Vs V 1 w) n) := by
  obtain ⟨hn2, hN, a0, b0, b1, b2, b3, b4, a83, a84, l84, r83, r84, a372, r372, a373, l373, a374, l374, r374, rss, hH⟩ := id hx
  have h01 : evAt h 1 2 := (hH 0 (by omega)).1
  have h42 : evAt h 42 2 := (hH 1 (by omega)).1
  have L := W_hasLots (u := u) (p := p) (V := V) hx
  have TR := W_trial (u := u) (p := p) (V := V) hx
  have t1 : ¬ evBl true = 0 := by decide
  have hb6 : b ≤ 6 := hv.2.1
  by_cases hh : hasV (V 0) = true
  · rw [if_pos hh]
    rw [hh] at L
    have lp : ∀ d k, k + d = 500 → ∃ w, evX 72 26 [(0, .ref 0), (1, .int (nI (k + 1)))] [] h (memW u p (Vs V 1 (passV b (V 0) k).1) n) = some (some (.int (eiC b (V 0) d k)), h, memW u p (Vs V 1 w) n) := by
      intro d
      induction d with
      | zero =>
        intro k hk
        have e0 : (500 : Int32) < nI (k + 1) := nI_lt (a := 500) (by omega) (by omega)
        refine ⟨(passV b (V 0) k).1, ?_⟩
        show _ = some (some (Value.int (-6)), _, _)
        simp only [x72_26, x72_27, x72_30, x72_33, x72_34, x72_37, x72_40, x72_43, x72_44, x72_45, x72_48, x72_51, x72_53, evI_i, evJl_i, evJf_i, evJd_i, evA_r, evA_n, evA_q, evLk_c, evS1_d, evS2_d, evFl_n, evFl_c, evGl_n, evGl_c, evIn_n, evIn_c, evCat_i, evCat_l, evCat_f, evCat_d, evCat_r, evCat_z, evCat_q, evBd_some, evTl_s, evTl_n, va_rf_s, va_rf_n, and_true, true_and, and_false, false_and, if_true, if_false, not_true_eq_false, not_false_eq_true, reduceCtorEq, ↓reduceIte, Nat.reduceAdd, Nat.reduceEqDiff, Nat.reduceLT, Nat.reduceLeDiff, Nat.reduceSub, Nat.zero_ne_one, Nat.one_ne_zero, e0]
      | succ d ih =>
        intro k hk
        have e0 : ¬ (500 : Int32) < nI (k + 1) := nI_nlt (a := 500) (by omega) (by omega)
        have e1 : nI (k + 1) + 1 = nI (k + 1 + 1) := (nI_succ (k + 1)).symm
        obtain ⟨t', o1, o2⟩ := okV_pass (k := k) hv (by have : b * k ≤ 6 * 500 := Nat.mul_le_mul hb6 (by omega); omega)
        have P := W_play1 (u := u) (p := p) (V := V) hx o1 (by have : b * k ≤ 6 * 500 := Nat.mul_le_mul hb6 (by omega); omega)
        by_cases hp : (playV b (passV b (V 0) k).1).2 = true
        · rw [hp] at P
          refine ⟨(playV b (passV b (V 0) k).1).1, ?_⟩
          show _ = some (some (Value.int (if (playV b (passV b (V 0) k).1).2 = true then nI (k + 1) else eiC b (V 0) d (k + 1))), _, _)
          rw [if_pos hp]
          simp only [x72_26, x72_27, x72_30, x72_33, x72_34, x72_37, x72_40, x72_43, x72_44, evI_i, evJl_i, evJf_i, evJd_i, evA_r, evA_n, evA_q, evLk_c, evS1_d, evS2_d, evFl_n, evFl_c, evGl_n, evGl_c, evIn_n, evIn_c, evCat_i, evCat_l, evCat_f, evCat_d, evCat_r, evCat_z, evCat_q, evBd_some, evTl_s, evTl_n, va_rf_s, va_rf_n, and_true, true_and, and_false, false_and, if_true, if_false, not_true_eq_false, not_false_eq_true, reduceCtorEq, ↓reduceIte, Nat.reduceAdd, Nat.reduceEqDiff, Nat.reduceLT, Nat.reduceLeDiff, Nat.reduceSub, Nat.zero_ne_one, Nat.one_ne_zero, a0, b0, b1, b2, b3, b4, a83, a84, l84, r83, a372, r372, a373, l373, a374, l374, memW_83, memW_372, memW_373, memW_s83, memW_s372, memW_s373, h42, e0, P, t1, Option.toList, List.nil_append, List.cons_append]
        · obtain ⟨w, IH⟩ := ih (k + 1) (by omega)
          refine ⟨w, ?_⟩
          show _ = some (some (Value.int (if (playV b (passV b (V 0) k).1).2 = true then nI (k + 1) else eiC b (V 0) d (k + 1))), _, _)
          rw [if_neg hp, ← IH]
          rw [b_ne hp] at P
          conv => lhs; rw [x72_26]
          simp only [x72_27, x72_30, x72_33, x72_34, x72_37, x72_40, x72_43, x72_44, x72_45, x72_48, evI_i, evJl_i, evJf_i, evJd_i, evA_r, evA_n, evA_q, evLk_c, evS1_d, evS2_d, evFl_n, evFl_c, evGl_n, evGl_c, evIn_n, evIn_c, evCat_i, evCat_l, evCat_f, evCat_d, evCat_r, evCat_z, evCat_q, evBd_some, evTl_s, evTl_n, va_rf_s, va_rf_n, and_true, true_and, and_false, false_and, if_true, if_false, not_true_eq_false, not_false_eq_true, reduceCtorEq, ↓reduceIte, Nat.reduceAdd, Nat.reduceEqDiff, Nat.reduceLT, Nat.reduceLeDiff, Nat.reduceSub, Nat.zero_ne_one, Nat.one_ne_zero, a0, b0, b1, b2, b3, b4, a83, a84, l84, r83, a372, r372, a373, l373, a374, l374, memW_83, memW_372, memW_373, memW_s83, memW_s372, memW_s373, h42, e0, e1, P, evBl_f, Option.toList, List.nil_append, List.cons_append]
          rfl
    obtain ⟨w, LP⟩ := lp 500 0 rfl
    refine ⟨w, ?_⟩
    rw [← LP]
    simp only [x72_0, x72_1, x72_4, x72_7, x72_10, x72_12, x72_13, x72_14, x72_17, x72_18, x72_21, x72_24, x72_25, evI_i, evJl_i, evJf_i, evJd_i, evA_r, evA_n, evA_q, evLk_c, evS1_d, evS2_d, evFl_n, evFl_c, evGl_n, evGl_c, evIn_n, evIn_c, evCat_i, evCat_l, evCat_f, evCat_d, evCat_r, evCat_z, evCat_q, evBd_some, evTl_s, evTl_n, va_rf_s, va_rf_n, and_true, true_and, and_false, false_and, if_true, if_false, not_true_eq_false, not_false_eq_true, reduceCtorEq, ↓reduceIte, Nat.reduceAdd, Nat.reduceEqDiff, Nat.reduceLT, Nat.reduceLeDiff, Nat.reduceSub, Nat.zero_ne_one, Nat.one_ne_zero, a0, b0, b1, b2, b3, b4, a83, a84, l84, r83, a372, r372, a373, l373, a374, l374, memW_83, memW_372, memW_373, memW_s83, memW_s372, memW_s373, h01, h42, L, TR, t1, Option.toList, List.nil_append, List.cons_append]
    rfl
  · rw [if_neg hh]
    rw [b_ne hh] at L
    refine ⟨V 1, ?_⟩
    rw [Vs_id]
    simp only [x72_0, x72_1, x72_4, x72_7, x72_10, x72_12, evI_i, evJl_i, evJf_i, evJd_i, evA_r, evA_n, evA_q, evLk_c, evS1_d, evS2_d, evFl_n, evFl_c, evGl_n, evGl_c, evIn_n, evIn_c, evCat_i, evCat_l, evCat_f, evCat_d, evCat_r, evCat_z, evCat_q, evBd_some, evTl_s, evTl_n, va_rf_s, va_rf_n, and_true, true_and, and_false, false_and, if_true, if_false, not_true_eq_false, not_false_eq_true, reduceCtorEq, ↓reduceIte, Nat.reduceAdd, Nat.reduceEqDiff, Nat.reduceLT, Nat.reduceLeDiff, Nat.reduceSub, Nat.zero_ne_one, Nat.one_ne_zero, a0, b0, b1, b2, b3, b4, a83, a84, l84, r83, a372, r372, a373, l373, a374, l374, memW_83, memW_372, memW_373, memW_s83, memW_s372, memW_s373, h01, L, evBl_f, Option.toList, List.nil_append, List.cons_append]
theorem W_coins (hx : xOK h n s) {i b : Nat} (hi : i < 9 + n) (hb6 : b ≤ 6) (hv : V i 1 0 0 = nI b) : evX 31 0 [(0, .ref (hb i))] [] h (memW u p V n) = some (some (.int (sumV (V i) 4 b)), h, memW u p V n) := by
  obtain ⟨hn2, hN, a0, b0, b1, b2, b3, b4, a83, a84, l84, r83, r84, a372, r372, a373, l373, a374, l374, r374, rss, hH⟩ := id hx
  have C := c_coinsPaid (m := memW u p V n) (v := V i) (hH i hi) hb6 hv
  rw [← memW_self hi hn2] at C
  exact C
theorem W_ifLag (hx : xOK h n s) (hs0 : evSp h 0 = (4, evGv 0)) (hs1 : evSp h 1 = (4, evGv 1)) {b m' t : Nat} (hv : okV (V 0) b m' t) (ht : t + 6006 < 2 ^ 30) (x : Int32) : ∃ w, evX 73 0 [(0, .ref 0), (1, .int x)] [] h (memW u p V n) = some (some (.int (ilC b (V 0) x)), h, memW u p (Vs V 1 w) n) := by
  obtain ⟨hn2, hN, a0, b0, b1, b2, b3, b4, a83, a84, l84, r83, r84, a372, r372, a373, l373, a374, l374, r374, rss, hH⟩ := id hx
  have h01 : evAt h 1 2 := (hH 0 (by omega)).1
  have h42 : evAt h 42 2 := (hH 1 (by omega)).1
  have hb6 : b ≤ 6 := hv.2.1
  have TR := W_trial (u := u) (p := p) (V := V) hx
  have CS := W_changeSetting (u := u) (p := p) (V := Vs V 1 (V 0)) hx hs0 hs1 (i := 1) (by omega) 0 x
  rw [Vs_i, Vs_2, hb1] at CS
  unfold ilC
  by_cases hm : (clSet (V 0) 0 x).1 = -2
  · rw [if_pos hm]
    rw [hm] at CS
    refine ⟨(clSet (V 0) 0 x).2, ?_⟩
    simp only [x73_0, x73_1, x73_4, x73_5, x73_8, x73_11, x73_12, x73_15, x73_16, x73_17, x73_20, x73_22, x73_25, x73_27, x73_28, x73_29, x73_32, x73_35, x73_38, x73_39, x73_42, x73_45, x73_46, x73_49, x73_52, x73_53, evI_i, evJl_i, evJf_i, evJd_i, evA_r, evA_n, evA_q, evLk_c, evS1_d, evS2_d, evFl_n, evFl_c, evGl_n, evGl_c, evIn_n, evIn_c, evCat_i, evCat_l, evCat_f, evCat_d, evCat_r, evCat_z, evCat_q, evBd_some, evTl_s, evTl_n, va_rf_s, va_rf_n, and_true, true_and, and_false, false_and, if_true, if_false, not_true_eq_false, not_false_eq_true, reduceCtorEq, ↓reduceIte, Nat.reduceAdd, Nat.reduceEqDiff, Nat.reduceLT, Nat.reduceLeDiff, Nat.reduceSub, Nat.zero_ne_one, Nat.one_ne_zero, a0, b0, b1, b2, b3, b4, a83, a84, l84, r83, a372, r372, a373, l373, a374, l374, memW_83, memW_372, memW_373, memW_s83, memW_s372, memW_s373, h01, h42, TR, CS, Option.toList, List.nil_append, List.cons_append]
  · rw [if_neg hm]
    have ok2 : okV (clSet (V 0) 0 x).2 b m' t := by
      unfold clSet
      split
      · exact hv
      · split
        · exact hv
        · exact ⟨by dsimp only; rw [vs_at, if_neg (by omega)]; exact hv.1, hv.2.1, by dsimp only; rw [vs_at, if_neg (by omega)]; exact hv.2.2.1, hv.2.2.2.1, by dsimp only; rw [vs_at, if_neg (by omega)]; exact hv.2.2.2.2⟩
    have O := W_out1 (u := u) (p := p) (V := V) hx ok2 (by omega)
    obtain ⟨t', o1, o2⟩ := okV_out (k := 1000) ok2 (by have : b * 1000 ≤ 6 * 1000 := Nat.mul_le_mul hb6 (by omega); omega)
    have C1 := W_coins (u := u) (p := p) (V := Vs V 1 (outV b (clSet (V 0) 0 x).2 1000)) hx (i := 1) (b := b) (by omega) hb6 (by rw [Vs_i]; exact o1.1)
    have C0 := W_coins (u := u) (p := p) (V := Vs V 1 (outV b (clSet (V 0) 0 x).2 1000)) hx (i := 0) (b := b) (by omega) hb6 (by rw [Vs_at, if_neg (by omega)]; exact hv.1)
    rw [Vs_i, hb1] at C1
    rw [show Vs V 1 (outV b (clSet (V 0) 0 x).2 1000) 0 = V 0 by rw [Vs_at, if_neg (by omega)], hb0] at C0
    refine ⟨outV b (clSet (V 0) 0 x).2 1000, ?_⟩
    simp only [x73_0, x73_1, x73_4, x73_5, x73_8, x73_11, x73_12, x73_15, x73_16, x73_17, x73_20, x73_22, x73_25, x73_27, x73_28, x73_29, x73_32, x73_35, x73_38, x73_39, x73_42, x73_45, x73_46, x73_49, x73_52, x73_53, evI_i, evJl_i, evJf_i, evJd_i, evA_r, evA_n, evA_q, evLk_c, evS1_d, evS2_d, evFl_n, evFl_c, evGl_n, evGl_c, evIn_n, evIn_c, evCat_i, evCat_l, evCat_f, evCat_d, evCat_r, evCat_z, evCat_q, evBd_some, evTl_s, evTl_n, va_rf_s, va_rf_n, and_true, true_and, and_false, false_and, if_true, if_false, not_true_eq_false, not_false_eq_true, reduceCtorEq, ↓reduceIte, Nat.reduceAdd, Nat.reduceEqDiff, Nat.reduceLT, Nat.reduceLeDiff, Nat.reduceSub, Nat.zero_ne_one, Nat.one_ne_zero, a0, b0, b1, b2, b3, b4, a83, a84, l84, r83, a372, r372, a373, l373, a374, l374, memW_83, memW_372, memW_373, memW_s83, memW_s372, memW_s373, h01, h42, TR, CS, hm, O, C1, C0, Option.toList, List.nil_append, List.cons_append]
theorem W_gain (hx : xOK h n s) {b m' t k : Nat} (hv : okV (V 0) b m' t) (ht : t + 6006 < 2 ^ 30) (hk : k < b) (w0 : evVt) (y : Int32) : evX 82 0 [(0, .ref 0), (1, .int (nI k)), (2, .int y)] [] h (memW u p (Vs V 1 w0) n) = some (some (.int (gnC b (V 0) k y)), h, memW u p (Vs V 1 (gnW b (V 0) k y)) n) := by
  obtain ⟨hn2, hN, a0, b0, b1, b2, b3, b4, a83, a84, l84, r83, r84, a372, r372, a373, l373, a374, l374, r374, rss, hH⟩ := id hx
  have h01 : evAt h 1 2 := (hH 0 (by omega)).1
  have H1 := hH 1 (by omega)
  have h42 : evAt h 42 2 := H1.1
  have hb6 : b ≤ 6 := hv.2.1
  have hk6 : k < 6 := by omega
  have TR := W_trial (u := u) (p := p) (V := Vs V 1 w0) hx
  have V00 : Vs V 1 w0 0 = V 0 := by rw [Vs_at, if_neg (by omega)]
  rw [Vs_2, V00] at TR
  have B := c_bidderAt (m := memW u p (Vs V 1 (V 0)) n) (v := Vs V 1 (V 0) 1) H1 (nI k)
  rw [← memW_self (by omega) hn2, hb1, Vs_i, bAt_in (b := 42) hk hb6 hv.1] at B
  have u1 : evAt h (hB 42 k) 1 := (H1.2.2.2.2.2.2.2.1 k hk6).1
  have D : ∀ (w : evVt) j, j < 8 → memW u p (Vs V 1 w) n (hB 42 k) j = w 2 k j := fun w j hj => by
    have e := (mW_at (u := u) (p := p) (V := Vs V 1 w) (i := 1) (n := n) (by omega) hn2 _ _).trans (pv_B (b := hb 1) hk6 hj)
    rw [Vs_i] at e
    exact e
  have S : ∀ (w : evVt) (x : Int32), evSetM (memW u p (Vs V 1 w) n) (hB 42 k) 1 x = memW u p (Vs V 1 (vs w 2 k 1 x)) n := fun w x => by
    have e : evSetM (putV (memW u p (Vs V 1 w) n) (hb 1) (Vs V 1 w 1)) (hB (hb 1) k) 1 x = putV (memW u p (Vs V 1 w) n) (hb 1) (vs (Vs V 1 w 1) 2 k 1 x) := ps_B hk6 (by omega)
    rw [← memW_self (by omega) hn2, memW_put (by omega) hn2, Vs_2, Vs_i] at e
    exact e
  have ok2 : okV (vs (V 0) 2 k 1 y) b m' t := ⟨by rw [vs_at, if_neg (by omega)]; exact hv.1, hv.2.1, by rw [vs_at, if_neg (by omega)]; exact hv.2.2.1, hv.2.2.2.1, by rw [vs_at, if_neg (by omega)]; exact hv.2.2.2.2⟩
  have O := W_out1 (u := u) (p := p) (V := V) hx ok2 (by omega)
  have d4 := fun w => D w 4 (by omega)
  have d5 := fun w => D w 5 (by omega)
  unfold gnC gnW
  simp only [x82_0, x82_1, x82_4, x82_5, x82_8, x82_11, x82_12, x82_15, x82_16, x82_19, x82_19n, x82_19q, x82_20, x82_21n, x82_21, x82_21q, x82_24, x82_25, x82_26, x82_27, x82_30, x82_31, x82_34, x82_35, x82_37, x82_38, x82_39, x82_42, x82_43, x82_46, x82_49, x82_52, x82_53, x82_56, x82_57, x82_60, x82_61, x82_63, x82_64, evI_i, evJl_i, evJf_i, evJd_i, evA_r, evA_n, evA_q, evLk_c, evS1_d, evS2_d, evFl_n, evFl_c, evGl_n, evGl_c, evIn_n, evIn_c, evCat_i, evCat_l, evCat_f, evCat_d, evCat_r, evCat_z, evCat_q, evBd_some, evTl_s, evTl_n, va_rf_s, va_rf_n, and_true, true_and, and_false, false_and, if_true, if_false, not_true_eq_false, not_false_eq_true, reduceCtorEq, ↓reduceIte, Nat.reduceAdd, Nat.reduceEqDiff, Nat.reduceLT, Nat.reduceLeDiff, Nat.reduceSub, Nat.zero_ne_one, Nat.one_ne_zero, a0, b0, b1, b2, b3, b4, a83, a84, l84, r83, a372, r372, a373, l373, a374, l374, memW_83, memW_372, memW_373, memW_s83, memW_s372, memW_s373, h01, h42, TR, B, u1, d4, d5, S, O, Option.toList, List.nil_append, List.cons_append]
theorem W_bestPlan (hx : xOK h n s) {b m' t : Nat} (hv : okV (V 0) b m' t) (ht : t + 6006 < 2 ^ 30) (x w : Int32) : ∃ z, evX 74 0 [(0, .ref 0), (1, .int x), (2, .int w)] [] h (memW u p V n) = some (some (.int (if bAt (V 0) 0 x = none then -1 else if w = 0 then (bsC b (V 0) x.toNatClampNeg 20).1 else if w = 1 then (bsC b (V 0) x.toNatClampNeg 20).2 + 100000 else -2)), h, memW u p (Vs V 1 z) n) := by
  obtain ⟨hn2, hN, a0, b0, b1, b2, b3, b4, a83, a84, l84, r83, r84, a372, r372, a373, l373, a374, l374, r374, rss, hH⟩ := id hx
  have h0 : 0 < 9 + n := by omega
  have H0 := hH 0 h0
  have h01 : evAt h 1 2 := H0.1
  have hb6 : b ≤ 6 := hv.2.1
  have B := c_bidderAt (m := memW u p V n) (v := V 0) H0 x
  rw [← memW_self h0 hn2, hb0] at B
  have eb : (bAt (V 0) 1 x = none) = (bAt (V 0) 0 x = none) := bAt_n0 x
  rcases bAt_of (b := 1) (x := x) hb6 hv.1 with ⟨k, hk, rfl, hbk⟩ | ⟨hbk, -⟩
  · have hq : ¬ bAt (V 0) 0 (nI k) = none := by rw [← eb, hbk]; exact fun z => by cases z
    rw [if_neg hq, nI_cl k (by omega)]
    rw [hbk] at B
    have G := fun w0 y => W_gain (u := u) (p := p) (V := V) hx hv ht hk w0 y
    have G0 := G (V 1) 0
    rw [Vs_id] at G0
    have lp : ∀ (w : Int32) (j : Nat), j ≤ 20 → ∀ (z : evVt) (e : evL), (e = [] ∨ ∃ y, e = [(6, .int y)]) → ∃ z' e', evX 74 39 ([(0, .ref 0), (1, .int (nI k)), (2, .int w), (3, .int (bsC b (V 0) k 0).1), (4, .int (bsC b (V 0) k 0).2), (5, .int (nI (10 * 1)))] ++ e) [] h (memW u p (Vs V 1 z) n) = evX 74 39 ([(0, .ref 0), (1, .int (nI k)), (2, .int w), (3, .int (bsC b (V 0) k j).1), (4, .int (bsC b (V 0) k j).2), (5, .int (nI (10 * (j + 1))))] ++ e') [] h (memW u p (Vs V 1 z') n) ∧ (e' = [] ∨ ∃ y, e' = [(6, .int y)]) := by
      intro w j
      induction j with
      | zero => intro _ z e he; exact ⟨z, e, rfl, he⟩
      | succ j ih =>
        intro hj z e he
        obtain ⟨z', e', IH, he'⟩ := ih (by omega) z e he
        have e0 : ¬ (200 : Int32) < nI (10 * (j + 1)) := nI_nlt (a := 200) (by omega) (by omega)
        have e1 : nI (10 * (j + 1)) + 10 = nI (10 * (j + 1 + 1)) := by
          rw [show (10 : Int32) = nI 10 from rfl, nI_add]
          congr 1
        have Gz := G z' (nI (10 * (j + 1)))
        refine ⟨gnW b (V 0) k (nI (10 * (j + 1))), [(6, .int (gnC b (V 0) k (nI (10 * (j + 1)))))], ?_, Or.inr ⟨_, rfl⟩⟩
        rw [IH]
        show _ = evX 74 39 ([(0, .ref 0), (1, .int (nI k)), (2, .int w), (3, .int (if (bsC b (V 0) k j).2 < gnC b (V 0) k (nI (10 * (j + 1))) then (nI (10 * (j + 1)), gnC b (V 0) k (nI (10 * (j + 1)))) else bsC b (V 0) k j).1), (4, .int (if (bsC b (V 0) k j).2 < gnC b (V 0) k (nI (10 * (j + 1))) then (nI (10 * (j + 1)), gnC b (V 0) k (nI (10 * (j + 1)))) else bsC b (V 0) k j).2), (5, .int (nI (10 * (j + 1 + 1))))] ++ [(6, .int (gnC b (V 0) k (nI (10 * (j + 1)))))]) [] h _
        by_cases hc : (bsC b (V 0) k j).2 < gnC b (V 0) k (nI (10 * (j + 1)))
        · have hc' : ¬ gnC b (V 0) k (nI (10 * (j + 1))) ≤ (bsC b (V 0) k j).2 := fun q => i32_ff q hc
          rw [if_pos hc]
          rcases he' with rfl | ⟨y, rfl⟩
          · conv => lhs; rw [x74_39]
            simp only [x74_41, x74_44, x74_47, x74_48, x74_49, x74_51, x74_54, x74_56, x74_58, x74_60, x74_63, x74_65, x74_66, x74_68, x74_70, x74_73, evI_i, evJl_i, evJf_i, evJd_i, evA_r, evA_n, evA_q, evLk_c, evS1_d, evS2_d, evFl_n, evFl_c, evGl_n, evGl_c, evIn_n, evIn_c, evCat_i, evCat_l, evCat_f, evCat_d, evCat_r, evCat_z, evCat_q, evBd_some, evTl_s, evTl_n, va_rf_s, va_rf_n, and_true, true_and, and_false, false_and, if_true, if_false, not_true_eq_false, not_false_eq_true, reduceCtorEq, ↓reduceIte, Nat.reduceAdd, Nat.reduceEqDiff, Nat.reduceLT, Nat.reduceLeDiff, Nat.reduceSub, Nat.zero_ne_one, Nat.one_ne_zero, a0, b0, b1, b2, b3, b4, a83, a84, l84, r83, a372, r372, a373, l373, a374, l374, memW_83, memW_372, memW_373, memW_s83, memW_s372, memW_s373, e0, e1, Gz, hc, hc', Option.toList, List.nil_append, List.cons_append, List.append_nil]
          · conv => lhs; rw [x74_39]
            simp only [x74_41, x74_44, x74_47, x74_48, x74_49, x74_51, x74_54, x74_56, x74_58, x74_60, x74_63, x74_65, x74_66, x74_68, x74_70, x74_73, evI_i, evJl_i, evJf_i, evJd_i, evA_r, evA_n, evA_q, evLk_c, evS1_d, evS2_d, evFl_n, evFl_c, evGl_n, evGl_c, evIn_n, evIn_c, evCat_i, evCat_l, evCat_f, evCat_d, evCat_r, evCat_z, evCat_q, evBd_some, evTl_s, evTl_n, va_rf_s, va_rf_n, and_true, true_and, and_false, false_and, if_true, if_false, not_true_eq_false, not_false_eq_true, reduceCtorEq, ↓reduceIte, Nat.reduceAdd, Nat.reduceEqDiff, Nat.reduceLT, Nat.reduceLeDiff, Nat.reduceSub, Nat.zero_ne_one, Nat.one_ne_zero, a0, b0, b1, b2, b3, b4, a83, a84, l84, r83, a372, r372, a373, l373, a374, l374, memW_83, memW_372, memW_373, memW_s83, memW_s372, memW_s373, e0, e1, Gz, hc, hc', Option.toList, List.nil_append, List.cons_append, List.append_nil]
        · have hc' : gnC b (V 0) k (nI (10 * (j + 1))) ≤ (bsC b (V 0) k j).2 := Int32.not_lt.mp hc
          rw [if_neg hc]
          rcases he' with rfl | ⟨y, rfl⟩
          · conv => lhs; rw [x74_39]
            simp only [x74_41, x74_44, x74_47, x74_48, x74_49, x74_51, x74_54, x74_56, x74_58, x74_60, x74_63, x74_65, x74_66, x74_68, x74_70, x74_73, evI_i, evJl_i, evJf_i, evJd_i, evA_r, evA_n, evA_q, evLk_c, evS1_d, evS2_d, evFl_n, evFl_c, evGl_n, evGl_c, evIn_n, evIn_c, evCat_i, evCat_l, evCat_f, evCat_d, evCat_r, evCat_z, evCat_q, evBd_some, evTl_s, evTl_n, va_rf_s, va_rf_n, and_true, true_and, and_false, false_and, if_true, if_false, not_true_eq_false, not_false_eq_true, reduceCtorEq, ↓reduceIte, Nat.reduceAdd, Nat.reduceEqDiff, Nat.reduceLT, Nat.reduceLeDiff, Nat.reduceSub, Nat.zero_ne_one, Nat.one_ne_zero, a0, b0, b1, b2, b3, b4, a83, a84, l84, r83, a372, r372, a373, l373, a374, l374, memW_83, memW_372, memW_373, memW_s83, memW_s372, memW_s373, e0, e1, Gz, hc, hc', Option.toList, List.nil_append, List.cons_append, List.append_nil]
          · conv => lhs; rw [x74_39]
            simp only [x74_41, x74_44, x74_47, x74_48, x74_49, x74_51, x74_54, x74_56, x74_58, x74_60, x74_63, x74_65, x74_66, x74_68, x74_70, x74_73, evI_i, evJl_i, evJf_i, evJd_i, evA_r, evA_n, evA_q, evLk_c, evS1_d, evS2_d, evFl_n, evFl_c, evGl_n, evGl_c, evIn_n, evIn_c, evCat_i, evCat_l, evCat_f, evCat_d, evCat_r, evCat_z, evCat_q, evBd_some, evTl_s, evTl_n, va_rf_s, va_rf_n, and_true, true_and, and_false, false_and, if_true, if_false, not_true_eq_false, not_false_eq_true, reduceCtorEq, ↓reduceIte, Nat.reduceAdd, Nat.reduceEqDiff, Nat.reduceLT, Nat.reduceLeDiff, Nat.reduceSub, Nat.zero_ne_one, Nat.one_ne_zero, a0, b0, b1, b2, b3, b4, a83, a84, l84, r83, a372, r372, a373, l373, a374, l374, memW_83, memW_372, memW_373, memW_s83, memW_s372, memW_s373, e0, e1, Gz, hc, hc', Option.toList, List.nil_append, List.cons_append, List.append_nil]
    have fin : ∀ w, ∃ z, evX 74 39 ([(0, .ref 0), (1, .int (nI k)), (2, .int w), (3, .int (bsC b (V 0) k 0).1), (4, .int (bsC b (V 0) k 0).2), (5, .int (nI (10 * 1)))]) [] h (memW u p (Vs V 1 (gnW b (V 0) k 0)) n) = some (some (.int (if w = 0 then (bsC b (V 0) k 20).1 else (bsC b (V 0) k 20).2 + 100000)), h, memW u p (Vs V 1 z) n) := by
      intro w
      obtain ⟨z', e', LP, he'⟩ := lp w 20 (Nat.le_refl _) (gnW b (V 0) k 0) [] (Or.inl rfl)
      rw [List.append_nil] at LP
      have e0 : (200 : Int32) < nI (10 * (20 + 1)) := by decide
      refine ⟨z', ?_⟩
      rw [LP]
      by_cases hw : w = 0
      · rcases he' with rfl | ⟨y, rfl⟩
        · simp only [x74_39, x74_41, x74_44, x74_47, x74_48, x74_49, x74_51, x74_54, x74_56, x74_58, x74_60, x74_63, x74_65, x74_66, x74_68, x74_70, x74_73, x74_76, x74_77, x74_80, x74_81, x74_84, x74_86, x74_88, x74_89, evI_i, evJl_i, evJf_i, evJd_i, evA_r, evA_n, evA_q, evLk_c, evS1_d, evS2_d, evFl_n, evFl_c, evGl_n, evGl_c, evIn_n, evIn_c, evCat_i, evCat_l, evCat_f, evCat_d, evCat_r, evCat_z, evCat_q, evBd_some, evTl_s, evTl_n, va_rf_s, va_rf_n, and_true, true_and, and_false, false_and, if_true, if_false, not_true_eq_false, not_false_eq_true, reduceCtorEq, ↓reduceIte, Nat.reduceAdd, Nat.reduceEqDiff, Nat.reduceLT, Nat.reduceLeDiff, Nat.reduceSub, Nat.zero_ne_one, Nat.one_ne_zero, e0, hw, List.nil_append, List.cons_append, List.append_nil]
        · simp only [x74_39, x74_41, x74_44, x74_47, x74_48, x74_49, x74_51, x74_54, x74_56, x74_58, x74_60, x74_63, x74_65, x74_66, x74_68, x74_70, x74_73, x74_76, x74_77, x74_80, x74_81, x74_84, x74_86, x74_88, x74_89, evI_i, evJl_i, evJf_i, evJd_i, evA_r, evA_n, evA_q, evLk_c, evS1_d, evS2_d, evFl_n, evFl_c, evGl_n, evGl_c, evIn_n, evIn_c, evCat_i, evCat_l, evCat_f, evCat_d, evCat_r, evCat_z, evCat_q, evBd_some, evTl_s, evTl_n, va_rf_s, va_rf_n, and_true, true_and, and_false, false_and, if_true, if_false, not_true_eq_false, not_false_eq_true, reduceCtorEq, ↓reduceIte, Nat.reduceAdd, Nat.reduceEqDiff, Nat.reduceLT, Nat.reduceLeDiff, Nat.reduceSub, Nat.zero_ne_one, Nat.one_ne_zero, e0, hw, List.nil_append, List.cons_append, List.append_nil]
      · rcases he' with rfl | ⟨y, rfl⟩
        · simp only [x74_39, x74_41, x74_44, x74_47, x74_48, x74_49, x74_51, x74_54, x74_56, x74_58, x74_60, x74_63, x74_65, x74_66, x74_68, x74_70, x74_73, x74_76, x74_77, x74_80, x74_81, x74_84, x74_86, x74_88, x74_89, evI_i, evJl_i, evJf_i, evJd_i, evA_r, evA_n, evA_q, evLk_c, evS1_d, evS2_d, evFl_n, evFl_c, evGl_n, evGl_c, evIn_n, evIn_c, evCat_i, evCat_l, evCat_f, evCat_d, evCat_r, evCat_z, evCat_q, evBd_some, evTl_s, evTl_n, va_rf_s, va_rf_n, and_true, true_and, and_false, false_and, if_true, if_false, not_true_eq_false, not_false_eq_true, reduceCtorEq, ↓reduceIte, Nat.reduceAdd, Nat.reduceEqDiff, Nat.reduceLT, Nat.reduceLeDiff, Nat.reduceSub, Nat.zero_ne_one, Nat.one_ne_zero, e0, hw, List.nil_append, List.cons_append, List.append_nil]
        · simp only [x74_39, x74_41, x74_44, x74_47, x74_48, x74_49, x74_51, x74_54, x74_56, x74_58, x74_60, x74_63, x74_65, x74_66, x74_68, x74_70, x74_73, x74_76, x74_77, x74_80, x74_81, x74_84, x74_86, x74_88, x74_89, evI_i, evJl_i, evJf_i, evJd_i, evA_r, evA_n, evA_q, evLk_c, evS1_d, evS2_d, evFl_n, evFl_c, evGl_n, evGl_c, evIn_n, evIn_c, evCat_i, evCat_l, evCat_f, evCat_d, evCat_r, evCat_z, evCat_q, evBd_some, evTl_s, evTl_n, va_rf_s, va_rf_n, and_true, true_and, and_false, false_and, if_true, if_false, not_true_eq_false, not_false_eq_true, reduceCtorEq, ↓reduceIte, Nat.reduceAdd, Nat.reduceEqDiff, Nat.reduceLT, Nat.reduceLeDiff, Nat.reduceSub, Nat.zero_ne_one, Nat.one_ne_zero, e0, hw, List.nil_append, List.cons_append, List.append_nil]
    have e10 : (10 : Int32) = nI (10 * 1) := rfl
    by_cases hw0 : w = 0
    · obtain ⟨z, F⟩ := fin w
      refine ⟨z, ?_⟩
      rw [if_pos hw0] at F ⊢
      rw [← F]
      simp only [x74_0, x74_1, x74_4, x74_5, x74_8n, x74_8, x74_8q, x74_11, x74_12, x74_13, x74_14, x74_17, x74_18, x74_19, x74_22, x74_24, x74_25, x74_26, x74_27, x74_28, x74_29, x74_30, x74_33, x74_35, x74_37, evI_i, evJl_i, evJf_i, evJd_i, evA_r, evA_n, evA_q, evLk_c, evS1_d, evS2_d, evFl_n, evFl_c, evGl_n, evGl_c, evIn_n, evIn_c, evCat_i, evCat_l, evCat_f, evCat_d, evCat_r, evCat_z, evCat_q, evBd_some, evTl_s, evTl_n, va_rf_s, va_rf_n, and_true, true_and, and_false, false_and, if_true, if_false, not_true_eq_false, not_false_eq_true, reduceCtorEq, ↓reduceIte, Nat.reduceAdd, Nat.reduceEqDiff, Nat.reduceLT, Nat.reduceLeDiff, Nat.reduceSub, Nat.zero_ne_one, Nat.one_ne_zero, a0, b0, b1, b2, b3, b4, a83, a84, l84, r83, a372, r372, a373, l373, a374, l374, memW_83, memW_372, memW_373, memW_s83, memW_s372, memW_s373, h01, B, hw0, G0, Option.toList, List.nil_append, List.cons_append]
      rfl
    · by_cases hw1 : w = 1
      · obtain ⟨z, F⟩ := fin w
        refine ⟨z, ?_⟩
        rw [if_neg hw0] at F ⊢
        rw [if_pos hw1, ← F]
        simp only [x74_0, x74_1, x74_4, x74_5, x74_8n, x74_8, x74_8q, x74_11, x74_12, x74_13, x74_14, x74_17, x74_18, x74_19, x74_22, x74_24, x74_25, x74_26, x74_27, x74_28, x74_29, x74_30, x74_33, x74_35, x74_37, evI_i, evJl_i, evJf_i, evJd_i, evA_r, evA_n, evA_q, evLk_c, evS1_d, evS2_d, evFl_n, evFl_c, evGl_n, evGl_c, evIn_n, evIn_c, evCat_i, evCat_l, evCat_f, evCat_d, evCat_r, evCat_z, evCat_q, evBd_some, evTl_s, evTl_n, va_rf_s, va_rf_n, and_true, true_and, and_false, false_and, if_true, if_false, not_true_eq_false, not_false_eq_true, reduceCtorEq, ↓reduceIte, Nat.reduceAdd, Nat.reduceEqDiff, Nat.reduceLT, Nat.reduceLeDiff, Nat.reduceSub, Nat.zero_ne_one, Nat.one_ne_zero, a0, b0, b1, b2, b3, b4, a83, a84, l84, r83, a372, r372, a373, l373, a374, l374, memW_83, memW_372, memW_373, memW_s83, memW_s372, memW_s373, h01, B, hw0, hw1, G0, Option.toList, List.nil_append, List.cons_append]
        rfl
      · refine ⟨V 1, ?_⟩
        rw [if_neg hw0, if_neg hw1, Vs_id]
        simp only [x74_0, x74_1, x74_4, x74_5, x74_8n, x74_8, x74_8q, x74_11, x74_12, x74_13, x74_14, x74_17, x74_18, x74_19, x74_22, x74_24, evI_i, evJl_i, evJf_i, evJd_i, evA_r, evA_n, evA_q, evLk_c, evS1_d, evS2_d, evFl_n, evFl_c, evGl_n, evGl_c, evIn_n, evIn_c, evCat_i, evCat_l, evCat_f, evCat_d, evCat_r, evCat_z, evCat_q, evBd_some, evTl_s, evTl_n, va_rf_s, va_rf_n, and_true, true_and, and_false, false_and, if_true, if_false, not_true_eq_false, not_false_eq_true, reduceCtorEq, ↓reduceIte, Nat.reduceAdd, Nat.reduceEqDiff, Nat.reduceLT, Nat.reduceLeDiff, Nat.reduceSub, Nat.zero_ne_one, Nat.one_ne_zero, a0, b0, b1, b2, b3, b4, a83, a84, l84, r83, a372, r372, a373, l373, a374, l374, memW_83, memW_372, memW_373, memW_s83, memW_s372, memW_s373, h01, B, hw0, hw1, Option.toList, List.nil_append, List.cons_append]
  · have hq : bAt (V 0) 0 x = none := by rw [← eb]; exact hbk
    rw [if_pos hq]
    rw [hbk] at B
    refine ⟨V 1, ?_⟩
    rw [Vs_id]
    simp only [x74_0, x74_1, x74_4, x74_5, x74_8n, x74_8, x74_8q, x74_11, x74_12, evI_i, evJl_i, evJf_i, evJd_i, evA_r, evA_n, evA_q, evLk_c, evS1_d, evS2_d, evFl_n, evFl_c, evGl_n, evGl_c, evIn_n, evIn_c, evCat_i, evCat_l, evCat_f, evCat_d, evCat_r, evCat_z, evCat_q, evBd_some, evTl_s, evTl_n, va_rf_s, va_rf_n, and_true, true_and, and_false, false_and, if_true, if_false, not_true_eq_false, not_false_eq_true, reduceCtorEq, ↓reduceIte, Nat.reduceAdd, Nat.reduceEqDiff, Nat.reduceLT, Nat.reduceLeDiff, Nat.reduceSub, Nat.zero_ne_one, Nat.one_ne_zero, a0, b0, b1, b2, b3, b4, a83, a84, l84, r83, a372, r372, a373, l373, a374, l374, memW_83, memW_372, memW_373, memW_s83, memW_s372, memW_s373, h01, B, Option.toList, List.nil_append, List.cons_append]
end WI
