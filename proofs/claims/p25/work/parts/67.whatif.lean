/-! the class's object: what if -/
def eiC (b : Nat) (v : evVt) : Nat → Nat → Int32
  | 0, _ => -6
  | d + 1, k => if (playV b (passV b v k).1).2 = true then nI (k + 1) else eiC b v d (k + 1)
def ilC (b : Nat) (v : evVt) (x : Int32) : Int32 := if (clSet v 0 x).1 = -2 then -2 else sumV (outV b (clSet v 0 x).2 1000) 4 b - sumV v 4 b
def gnW (b : Nat) (v : evVt) (k : Nat) (y : Int32) : evVt := outV b (vs v 2 k 1 y) 1000
def gnC (b : Nat) (v : evVt) (k : Nat) (y : Int32) : Int32 := gnW b v k y 2 k 5 - gnW b v k y 2 k 4 - (v 2 k 5 - v 2 k 4)
def bsC (b : Nat) (v : evVt) (k : Nat) : Nat → Int32 × Int32
  | 0 => (0, gnC b v k 0)
  | j + 1 => if (bsC b v k j).2 < gnC b v k (nI (10 * (j + 1))) then (nI (10 * (j + 1)), gnC b v k (nI (10 * (j + 1)))) else bsC b v k j
section WI
variable {h : evH} {u p : Nat → Nat → Int32} {V : Nat → evVt} {n : Nat} {s : Nat → Option Nat}
theorem Vs_2 (V : Nat → evVt) (i : Nat) (v w : evVt) : Vs (Vs V i v) i w = Vs V i w := by
  funext k
  rw [Vs_at, Vs_at, Vs_at]
  split <;> rfl
theorem Vs_i (V : Nat → evVt) (i : Nat) (v : evVt) : Vs V i v i = v := by rw [Vs_at, if_pos rfl]
theorem W_hasLots (hx : xOK h n s) : evX 20 0 [(0, .ref 1)] [] h (memW u p V n) = some (some (.int (evBl (hasV (V 0)))), h, memW u p V n) := by
  obtain ⟨hn2, hN, a0, b0, b1, b2, b3, b4, a83, a84, l84, r83, r84, a372, r372, a373, l373, a374, l374, r374, rss, hH⟩ := id hx
  have C := c_hasLots (m := memW u p V n) (v := V 0) (hH 0 (by omega))
  rw [← memW_self (by omega) hn2, hb0] at C
  exact C
theorem W_play1 (hx : xOK h n s) {b m' t : Nat} {w : evVt} (hv : okV w b m' t) (ht : t + b < 2 ^ 30) : evX 21 0 [(0, .ref 42)] [] h (memW u p (Vs V 1 w) n) = some (some (.int (evBl (playV b w).2)), h, memW u p (Vs V 1 (playV b w).1) n) := by
  obtain ⟨hn2, hN, a0, b0, b1, b2, b3, b4, a83, a84, l84, r83, r84, a372, r372, a373, l373, a374, l374, r374, rss, hH⟩ := id hx
  have C := c_play (m := memW u p (Vs V 1 w) n) (v := Vs V 1 w 1) (hH 1 (by omega)) (by rw [Vs_i]; exact hv) ht
  rw [← memW_self (by omega) hn2, memW_put (by omega) hn2, hb1, Vs_i, Vs_2] at C
  exact C
theorem W_trial (hx : xOK h n s) : evX 8 0 [(0, .ref 42), (1, .ref 1)] [] h (memW u p V n) = some (none, h, memW u p (Vs V 1 (V 0)) n) := W_copy (u := u) (p := p) (V := V) hx (i := 1) (k := 0) (by omega) (by omega) (by omega)
theorem W_out1 (hx : xOK h n s) {b m' t : Nat} {w : evVt} (hv : okV w b m' t) (ht : t + 6000 < 2 ^ 30) : evX 19 0 [(0, .ref 42), (1, .int 1000)] [] h (memW u p (Vs V 1 w) n) = some (none, h, memW u p (Vs V 1 (outV b w 1000)) n) := by
  obtain ⟨hn2, hN, a0, b0, b1, b2, b3, b4, a83, a84, l84, r83, r84, a372, r372, a373, l373, a374, l374, r374, rss, hH⟩ := id hx
  have C := c_playOut (m := memW u p (Vs V 1 w) n) (v := Vs V 1 w 1) (c := 1000) (hH 1 (by omega)) (by rw [Vs_i]; exact hv) (by omega) ht
  rw [← memW_self (by omega) hn2, memW_put (by omega) hn2, hb1, Vs_i, Vs_2] at C
  exact C
theorem W_endsIn (hx : xOK h n s) {b m' t : Nat} (hv : okV (V 0) b m' t) (ht : t + 6006 < 2 ^ 30) : ∃ w, evX 57 0 [(0, .ref 0)] [] h (memW u p V n) = some (some (.int (if hasV (V 0) = true then eiC b (V 0) 500 0 else -6)), h, memW u p (Vs V 1 w) n) := by
  obtain ⟨hn2, hN, a0, b0, b1, b2, b3, b4, a83, a84, l84, r83, r84, a372, r372, a373, l373, a374, l374, r374, rss, hH⟩ := id hx
  have h01 : evAt h 1 2 := (hH 0 (by omega)).1
  have h42 : evAt h 42 2 := (hH 1 (by omega)).1
  have L := W_hasLots (u := u) (p := p) (V := V) hx
  have TR := W_trial (u := u) (p := p) (V := V) hx
  have t1 : ¬ evBl true = 0 := by decide
  have hb6 : b ≤ 6 := hv.2.1
  by_cases hh : hasV (V 0) = true
  · rw [if_pos hh]
    rw [hh] at L
    have lp : ∀ d k, k + d = 500 → ∃ w, evX 57 26 [(0, .ref 0), (1, .int (nI (k + 1)))] [] h (memW u p (Vs V 1 (passV b (V 0) k).1) n) = some (some (.int (eiC b (V 0) d k)), h, memW u p (Vs V 1 w) n) := by
      intro d
      induction d with
      | zero =>
        intro k hk
        have e0 : (500 : Int32) < nI (k + 1) := nI_lt (a := 500) (by omega) (by omega)
        refine ⟨(passV b (V 0) k).1, ?_⟩
        show _ = some (some (Value.int (-6)), _, _)
        simp only [x57_26, x57_27, x57_30, x57_33, x57_34, x57_37, x57_40, x57_43, x57_44, x57_45, x57_48, x57_51, x57_53, evI_i, evJl_i, evJf_i, evJd_i, evA_r, evA_n, evA_q, evLk_c, evS1_d, evS2_d, evFl_n, evFl_c, evGl_n, evGl_c, evIn_n, evIn_c, evCat_i, evCat_l, evCat_f, evCat_d, evCat_r, evCat_z, evCat_q, evBd_some, evTl_s, evTl_n, va_rf_s, va_rf_n, and_true, true_and, and_false, false_and, if_true, if_false, not_true_eq_false, not_false_eq_true, reduceCtorEq, ↓reduceIte, Nat.reduceAdd, Nat.reduceEqDiff, Nat.reduceLT, Nat.reduceLeDiff, Nat.reduceSub, Nat.zero_ne_one, Nat.one_ne_zero, e0]
      | succ d ih =>
        intro k hk
        have e0 : ¬ (500 : Int32) < nI (k + 1) := nI_nlt (a := 500) (by omega) (by omega)
        have e1 : nI (k + 1) + 1 = nI (k + 1 + 1) := (nI_succ (k + 1)).symm
        obtain ⟨t', o1, o2⟩ := okV_pass (k := k) hv (by have : b * k ≤ 6 * 500 := Nat.mul_le_mul hb6 (by omega); omega)
        have P := W_play1 (u := u) (p := p) (V := V) hx o1 (by have : b * k ≤ 6 * 500 := Nat.mul_le_mul hb6 (by omega); omega)
        by_cases hp : (playV b (passV b (V 0) k).1).2 = true
        · rw [hp] at P
          refine ⟨(playV b (passV b (V 0) k).1).1, ?_⟩
          show _ = some (some (Value.int (if (playV b (passV b (V 0) k).1).2 = true then nI (k + 1) else eiC b (V 0) d (k + 1))), _, _)
          rw [if_pos hp]
          simp only [x57_26, x57_27, x57_30, x57_33, x57_34, x57_37, x57_40, x57_43, x57_44, evI_i, evJl_i, evJf_i, evJd_i, evA_r, evA_n, evA_q, evLk_c, evS1_d, evS2_d, evFl_n, evFl_c, evGl_n, evGl_c, evIn_n, evIn_c, evCat_i, evCat_l, evCat_f, evCat_d, evCat_r, evCat_z, evCat_q, evBd_some, evTl_s, evTl_n, va_rf_s, va_rf_n, and_true, true_and, and_false, false_and, if_true, if_false, not_true_eq_false, not_false_eq_true, reduceCtorEq, ↓reduceIte, Nat.reduceAdd, Nat.reduceEqDiff, Nat.reduceLT, Nat.reduceLeDiff, Nat.reduceSub, Nat.zero_ne_one, Nat.one_ne_zero, a0, b0, b1, b2, b3, b4, a83, a84, l84, r83, a372, r372, a373, l373, a374, l374, memW_83, memW_372, memW_373, memW_s83, memW_s372, memW_s373, h42, e0, P, t1, Option.toList, List.nil_append, List.cons_append]
        · obtain ⟨w, IH⟩ := ih (k + 1) (by omega)
          refine ⟨w, ?_⟩
          show _ = some (some (Value.int (if (playV b (passV b (V 0) k).1).2 = true then nI (k + 1) else eiC b (V 0) d (k + 1))), _, _)
          rw [if_neg hp, ← IH]
          rw [b_ne hp] at P
          conv => lhs; rw [x57_26]
          simp only [x57_27, x57_30, x57_33, x57_34, x57_37, x57_40, x57_43, x57_44, x57_45, x57_48, evI_i, evJl_i, evJf_i, evJd_i, evA_r, evA_n, evA_q, evLk_c, evS1_d, evS2_d, evFl_n, evFl_c, evGl_n, evGl_c, evIn_n, evIn_c, evCat_i, evCat_l, evCat_f, evCat_d, evCat_r, evCat_z, evCat_q, evBd_some, evTl_s, evTl_n, va_rf_s, va_rf_n, and_true, true_and, and_false, false_and, if_true, if_false, not_true_eq_false, not_false_eq_true, reduceCtorEq, ↓reduceIte, Nat.reduceAdd, Nat.reduceEqDiff, Nat.reduceLT, Nat.reduceLeDiff, Nat.reduceSub, Nat.zero_ne_one, Nat.one_ne_zero, a0, b0, b1, b2, b3, b4, a83, a84, l84, r83, a372, r372, a373, l373, a374, l374, memW_83, memW_372, memW_373, memW_s83, memW_s372, memW_s373, h42, e0, e1, P, evBl_f, Option.toList, List.nil_append, List.cons_append]
          rfl
    obtain ⟨w, LP⟩ := lp 500 0 rfl
    refine ⟨w, ?_⟩
    rw [← LP]
    simp only [x57_0, x57_1, x57_4, x57_7, x57_10, x57_12, x57_13, x57_14, x57_17, x57_18, x57_21, x57_24, x57_25, evI_i, evJl_i, evJf_i, evJd_i, evA_r, evA_n, evA_q, evLk_c, evS1_d, evS2_d, evFl_n, evFl_c, evGl_n, evGl_c, evIn_n, evIn_c, evCat_i, evCat_l, evCat_f, evCat_d, evCat_r, evCat_z, evCat_q, evBd_some, evTl_s, evTl_n, va_rf_s, va_rf_n, and_true, true_and, and_false, false_and, if_true, if_false, not_true_eq_false, not_false_eq_true, reduceCtorEq, ↓reduceIte, Nat.reduceAdd, Nat.reduceEqDiff, Nat.reduceLT, Nat.reduceLeDiff, Nat.reduceSub, Nat.zero_ne_one, Nat.one_ne_zero, a0, b0, b1, b2, b3, b4, a83, a84, l84, r83, a372, r372, a373, l373, a374, l374, memW_83, memW_372, memW_373, memW_s83, memW_s372, memW_s373, h01, h42, L, TR, t1, Option.toList, List.nil_append, List.cons_append]
    rfl
  · rw [if_neg hh]
    rw [b_ne hh] at L
    refine ⟨V 1, ?_⟩
    rw [Vs_id]
    simp only [x57_0, x57_1, x57_4, x57_7, x57_10, x57_12, evI_i, evJl_i, evJf_i, evJd_i, evA_r, evA_n, evA_q, evLk_c, evS1_d, evS2_d, evFl_n, evFl_c, evGl_n, evGl_c, evIn_n, evIn_c, evCat_i, evCat_l, evCat_f, evCat_d, evCat_r, evCat_z, evCat_q, evBd_some, evTl_s, evTl_n, va_rf_s, va_rf_n, and_true, true_and, and_false, false_and, if_true, if_false, not_true_eq_false, not_false_eq_true, reduceCtorEq, ↓reduceIte, Nat.reduceAdd, Nat.reduceEqDiff, Nat.reduceLT, Nat.reduceLeDiff, Nat.reduceSub, Nat.zero_ne_one, Nat.one_ne_zero, a0, b0, b1, b2, b3, b4, a83, a84, l84, r83, a372, r372, a373, l373, a374, l374, memW_83, memW_372, memW_373, memW_s83, memW_s372, memW_s373, h01, L, evBl_f, Option.toList, List.nil_append, List.cons_append]
theorem W_coins (hx : xOK h n s) {i b : Nat} (hi : i < 9 + n) (hb6 : b ≤ 6) (hv : V i 1 0 0 = nI b) : evX 31 0 [(0, .ref (hb i))] [] h (memW u p V n) = some (some (.int (sumV (V i) 4 b)), h, memW u p V n) := by
  obtain ⟨hn2, hN, a0, b0, b1, b2, b3, b4, a83, a84, l84, r83, r84, a372, r372, a373, l373, a374, l374, r374, rss, hH⟩ := id hx
  have C := c_coinsPaid (m := memW u p V n) (v := V i) (hH i hi) hb6 hv
  rw [← memW_self hi hn2] at C
  exact C
theorem W_ifLag (hx : xOK h n s) (hs0 : evSp h 0 = (4, evGv 0)) (hs1 : evSp h 1 = (4, evGv 1)) {b m' t : Nat} (hv : okV (V 0) b m' t) (ht : t + 6006 < 2 ^ 30) (x : Int32) : ∃ w, evX 58 0 [(0, .ref 0), (1, .int x)] [] h (memW u p V n) = some (some (.int (ilC b (V 0) x)), h, memW u p (Vs V 1 w) n) := by
  obtain ⟨hn2, hN, a0, b0, b1, b2, b3, b4, a83, a84, l84, r83, r84, a372, r372, a373, l373, a374, l374, r374, rss, hH⟩ := id hx
  have h01 : evAt h 1 2 := (hH 0 (by omega)).1
  have h42 : evAt h 42 2 := (hH 1 (by omega)).1
  have hb6 : b ≤ 6 := hv.2.1
  have TR := W_trial (u := u) (p := p) (V := V) hx
  have CS := W_changeSetting (u := u) (p := p) (V := Vs V 1 (V 0)) hx hs0 hs1 (i := 1) (by omega) 0 x
  rw [Vs_i, Vs_2, hb1] at CS
  unfold ilC
  by_cases hm : (clSet (V 0) 0 x).1 = -2
  · rw [if_pos hm]
    rw [hm] at CS
    refine ⟨(clSet (V 0) 0 x).2, ?_⟩
    simp only [x58_0, x58_1, x58_4, x58_5, x58_8, x58_11, x58_12, x58_15, x58_16, x58_17, x58_20, x58_22, x58_25, x58_27, x58_28, x58_29, x58_32, x58_35, x58_38, x58_39, x58_42, x58_45, x58_46, x58_49, x58_52, x58_53, evI_i, evJl_i, evJf_i, evJd_i, evA_r, evA_n, evA_q, evLk_c, evS1_d, evS2_d, evFl_n, evFl_c, evGl_n, evGl_c, evIn_n, evIn_c, evCat_i, evCat_l, evCat_f, evCat_d, evCat_r, evCat_z, evCat_q, evBd_some, evTl_s, evTl_n, va_rf_s, va_rf_n, and_true, true_and, and_false, false_and, if_true, if_false, not_true_eq_false, not_false_eq_true, reduceCtorEq, ↓reduceIte, Nat.reduceAdd, Nat.reduceEqDiff, Nat.reduceLT, Nat.reduceLeDiff, Nat.reduceSub, Nat.zero_ne_one, Nat.one_ne_zero, a0, b0, b1, b2, b3, b4, a83, a84, l84, r83, a372, r372, a373, l373, a374, l374, memW_83, memW_372, memW_373, memW_s83, memW_s372, memW_s373, h01, h42, TR, CS, Option.toList, List.nil_append, List.cons_append]
  · rw [if_neg hm]
    have ok2 : okV (clSet (V 0) 0 x).2 b m' t := by
      unfold clSet
      split
      · exact hv
      · split
        · exact hv
        · exact ⟨by dsimp only; rw [vs_at, if_neg (by omega)]; exact hv.1, hv.2.1, by dsimp only; rw [vs_at, if_neg (by omega)]; exact hv.2.2.1, hv.2.2.2.1, by dsimp only; rw [vs_at, if_neg (by omega)]; exact hv.2.2.2.2⟩
    have O := W_out1 (u := u) (p := p) (V := V) hx ok2 (by omega)
    obtain ⟨t', o1, o2⟩ := okV_out (k := 1000) ok2 (by have : b * 1000 ≤ 6 * 1000 := Nat.mul_le_mul hb6 (by omega); omega)
    have C1 := W_coins (u := u) (p := p) (V := Vs V 1 (outV b (clSet (V 0) 0 x).2 1000)) hx (i := 1) (b := b) (by omega) hb6 (by rw [Vs_i]; exact o1.1)
    have C0 := W_coins (u := u) (p := p) (V := Vs V 1 (outV b (clSet (V 0) 0 x).2 1000)) hx (i := 0) (b := b) (by omega) hb6 (by rw [Vs_at, if_neg (by omega)]; exact hv.1)
    rw [Vs_i, hb1] at C1
    rw [show Vs V 1 (outV b (clSet (V 0) 0 x).2 1000) 0 = V 0 by rw [Vs_at, if_neg (by omega)], hb0] at C0
    refine ⟨outV b (clSet (V 0) 0 x).2 1000, ?_⟩
    simp only [x58_0, x58_1, x58_4, x58_5, x58_8, x58_11, x58_12, x58_15, x58_16, x58_17, x58_20, x58_22, x58_25, x58_27, x58_28, x58_29, x58_32, x58_35, x58_38, x58_39, x58_42, x58_45, x58_46, x58_49, x58_52, x58_53, evI_i, evJl_i, evJf_i, evJd_i, evA_r, evA_n, evA_q, evLk_c, evS1_d, evS2_d, evFl_n, evFl_c, evGl_n, evGl_c, evIn_n, evIn_c, evCat_i, evCat_l, evCat_f, evCat_d, evCat_r, evCat_z, evCat_q, evBd_some, evTl_s, evTl_n, va_rf_s, va_rf_n, and_true, true_and, and_false, false_and, if_true, if_false, not_true_eq_false, not_false_eq_true, reduceCtorEq, ↓reduceIte, Nat.reduceAdd, Nat.reduceEqDiff, Nat.reduceLT, Nat.reduceLeDiff, Nat.reduceSub, Nat.zero_ne_one, Nat.one_ne_zero, a0, b0, b1, b2, b3, b4, a83, a84, l84, r83, a372, r372, a373, l373, a374, l374, memW_83, memW_372, memW_373, memW_s83, memW_s372, memW_s373, h01, h42, TR, CS, hm, O, C1, C0, Option.toList, List.nil_append, List.cons_append]
theorem W_gain (hx : xOK h n s) {b m' t k : Nat} (hv : okV (V 0) b m' t) (ht : t + 6006 < 2 ^ 30) (hk : k < b) (w0 : evVt) (y : Int32) : evX 60 0 [(0, .ref 0), (1, .int (nI k)), (2, .int y)] [] h (memW u p (Vs V 1 w0) n) = some (some (.int (gnC b (V 0) k y)), h, memW u p (Vs V 1 (gnW b (V 0) k y)) n) := by
  obtain ⟨hn2, hN, a0, b0, b1, b2, b3, b4, a83, a84, l84, r83, r84, a372, r372, a373, l373, a374, l374, r374, rss, hH⟩ := id hx
  have h01 : evAt h 1 2 := (hH 0 (by omega)).1
  have H1 := hH 1 (by omega)
  have h42 : evAt h 42 2 := H1.1
  have hb6 : b ≤ 6 := hv.2.1
  have hk6 : k < 6 := by omega
  have TR := W_trial (u := u) (p := p) (V := Vs V 1 w0) hx
  have V00 : Vs V 1 w0 0 = V 0 := by rw [Vs_at, if_neg (by omega)]
  rw [Vs_2, V00] at TR
  have B := c_bidderAt (m := memW u p (Vs V 1 (V 0)) n) (v := Vs V 1 (V 0) 1) H1 (nI k)
  rw [← memW_self (by omega) hn2, hb1, Vs_i, bAt_in (b := 42) hk hb6 hv.1] at B
  have u1 : evAt h (hB 42 k) 1 := (H1.2.2.2.2.2.2.2.1 k hk6).1
  have D : ∀ (w : evVt) j, j < 8 → memW u p (Vs V 1 w) n (hB 42 k) j = w 2 k j := fun w j hj => by
    have e := (mW_at (u := u) (p := p) (V := Vs V 1 w) (i := 1) (n := n) (by omega) hn2 _ _).trans (pv_B (b := hb 1) hk6 hj)
    rw [Vs_i] at e
    exact e
  have S : ∀ (w : evVt) (x : Int32), evSetM (memW u p (Vs V 1 w) n) (hB 42 k) 1 x = memW u p (Vs V 1 (vs w 2 k 1 x)) n := fun w x => by
    have e : evSetM (putV (memW u p (Vs V 1 w) n) (hb 1) (Vs V 1 w 1)) (hB (hb 1) k) 1 x = putV (memW u p (Vs V 1 w) n) (hb 1) (vs (Vs V 1 w 1) 2 k 1 x) := ps_B hk6 (by omega)
    rw [← memW_self (by omega) hn2, memW_put (by omega) hn2, Vs_2, Vs_i] at e
    exact e
  have ok2 : okV (vs (V 0) 2 k 1 y) b m' t := ⟨by rw [vs_at, if_neg (by omega)]; exact hv.1, hv.2.1, by rw [vs_at, if_neg (by omega)]; exact hv.2.2.1, hv.2.2.2.1, by rw [vs_at, if_neg (by omega)]; exact hv.2.2.2.2⟩
  have O := W_out1 (u := u) (p := p) (V := V) hx ok2 (by omega)
  have d4 := fun w => D w 4 (by omega)
  have d5 := fun w => D w 5 (by omega)
  unfold gnC gnW
  simp only [x60_0, x60_1, x60_4, x60_5, x60_8, x60_11, x60_12, x60_15, x60_16, x60_19, x60_19n, x60_19q, x60_20, x60_21n, x60_21, x60_21q, x60_24, x60_25, x60_26, x60_27, x60_30, x60_31, x60_34, x60_35, x60_37, x60_38, x60_39, x60_42, x60_43, x60_46, x60_49, x60_52, x60_53, x60_56, x60_57, x60_60, x60_61, x60_63, x60_64, evI_i, evJl_i, evJf_i, evJd_i, evA_r, evA_n, evA_q, evLk_c, evS1_d, evS2_d, evFl_n, evFl_c, evGl_n, evGl_c, evIn_n, evIn_c, evCat_i, evCat_l, evCat_f, evCat_d, evCat_r, evCat_z, evCat_q, evBd_some, evTl_s, evTl_n, va_rf_s, va_rf_n, and_true, true_and, and_false, false_and, if_true, if_false, not_true_eq_false, not_false_eq_true, reduceCtorEq, ↓reduceIte, Nat.reduceAdd, Nat.reduceEqDiff, Nat.reduceLT, Nat.reduceLeDiff, Nat.reduceSub, Nat.zero_ne_one, Nat.one_ne_zero, a0, b0, b1, b2, b3, b4, a83, a84, l84, r83, a372, r372, a373, l373, a374, l374, memW_83, memW_372, memW_373, memW_s83, memW_s372, memW_s373, h01, h42, TR, B, u1, d4, d5, S, O, Option.toList, List.nil_append, List.cons_append]
theorem W_bestPlan (hx : xOK h n s) {b m' t : Nat} (hv : okV (V 0) b m' t) (ht : t + 6006 < 2 ^ 30) (x w : Int32) : ∃ z, evX 59 0 [(0, .ref 0), (1, .int x), (2, .int w)] [] h (memW u p V n) = some (some (.int (if bAt (V 0) 0 x = none then -1 else if w = 0 then (bsC b (V 0) x.toNatClampNeg 20).1 else if w = 1 then (bsC b (V 0) x.toNatClampNeg 20).2 + 100000 else -2)), h, memW u p (Vs V 1 z) n) := by
  obtain ⟨hn2, hN, a0, b0, b1, b2, b3, b4, a83, a84, l84, r83, r84, a372, r372, a373, l373, a374, l374, r374, rss, hH⟩ := id hx
  have h0 : 0 < 9 + n := by omega
  have H0 := hH 0 h0
  have h01 : evAt h 1 2 := H0.1
  have hb6 : b ≤ 6 := hv.2.1
  have B := c_bidderAt (m := memW u p V n) (v := V 0) H0 x
  rw [← memW_self h0 hn2, hb0] at B
  have eb : (bAt (V 0) 1 x = none) = (bAt (V 0) 0 x = none) := bAt_n0 x
  rcases bAt_of (b := 1) (x := x) hb6 hv.1 with ⟨k, hk, rfl, hbk⟩ | ⟨hbk, -⟩
  · have hq : ¬ bAt (V 0) 0 (nI k) = none := by rw [← eb, hbk]; exact fun z => by cases z
    rw [if_neg hq, nI_cl k (by omega)]
    rw [hbk] at B
    have G := fun w0 y => W_gain (u := u) (p := p) (V := V) hx hv ht hk w0 y
    have G0 := G (V 1) 0
    rw [Vs_id] at G0
    have lp : ∀ (w : Int32) (j : Nat), j ≤ 20 → ∀ (z : evVt) (e : evL), (e = [] ∨ ∃ y, e = [(6, .int y)]) → ∃ z' e', evX 59 39 ([(0, .ref 0), (1, .int (nI k)), (2, .int w), (3, .int (bsC b (V 0) k 0).1), (4, .int (bsC b (V 0) k 0).2), (5, .int (nI (10 * 1)))] ++ e) [] h (memW u p (Vs V 1 z) n) = evX 59 39 ([(0, .ref 0), (1, .int (nI k)), (2, .int w), (3, .int (bsC b (V 0) k j).1), (4, .int (bsC b (V 0) k j).2), (5, .int (nI (10 * (j + 1))))] ++ e') [] h (memW u p (Vs V 1 z') n) ∧ (e' = [] ∨ ∃ y, e' = [(6, .int y)]) := by
      intro w j
      induction j with
      | zero => intro _ z e he; exact ⟨z, e, rfl, he⟩
      | succ j ih =>
        intro hj z e he
        obtain ⟨z', e', IH, he'⟩ := ih (by omega) z e he
        have e0 : ¬ (200 : Int32) < nI (10 * (j + 1)) := nI_nlt (a := 200) (by omega) (by omega)
        have e1 : nI (10 * (j + 1)) + 10 = nI (10 * (j + 1 + 1)) := by
          rw [show (10 : Int32) = nI 10 from rfl, nI_add]
          congr 1
        have Gz := G z' (nI (10 * (j + 1)))
        refine ⟨gnW b (V 0) k (nI (10 * (j + 1))), [(6, .int (gnC b (V 0) k (nI (10 * (j + 1)))))], ?_, Or.inr ⟨_, rfl⟩⟩
        rw [IH]
        show _ = evX 59 39 ([(0, .ref 0), (1, .int (nI k)), (2, .int w), (3, .int (if (bsC b (V 0) k j).2 < gnC b (V 0) k (nI (10 * (j + 1))) then (nI (10 * (j + 1)), gnC b (V 0) k (nI (10 * (j + 1)))) else bsC b (V 0) k j).1), (4, .int (if (bsC b (V 0) k j).2 < gnC b (V 0) k (nI (10 * (j + 1))) then (nI (10 * (j + 1)), gnC b (V 0) k (nI (10 * (j + 1)))) else bsC b (V 0) k j).2), (5, .int (nI (10 * (j + 1 + 1))))] ++ [(6, .int (gnC b (V 0) k (nI (10 * (j + 1)))))]) [] h _
        by_cases hc : (bsC b (V 0) k j).2 < gnC b (V 0) k (nI (10 * (j + 1)))
        · have hc' : ¬ gnC b (V 0) k (nI (10 * (j + 1))) ≤ (bsC b (V 0) k j).2 := fun q => i32_ff q hc
          rw [if_pos hc]
          rcases he' with rfl | ⟨y, rfl⟩
          · conv => lhs; rw [x59_39]
            simp only [x59_41, x59_44, x59_47, x59_48, x59_49, x59_51, x59_54, x59_56, x59_58, x59_60, x59_63, x59_65, x59_66, x59_68, x59_70, x59_73, evI_i, evJl_i, evJf_i, evJd_i, evA_r, evA_n, evA_q, evLk_c, evS1_d, evS2_d, evFl_n, evFl_c, evGl_n, evGl_c, evIn_n, evIn_c, evCat_i, evCat_l, evCat_f, evCat_d, evCat_r, evCat_z, evCat_q, evBd_some, evTl_s, evTl_n, va_rf_s, va_rf_n, and_true, true_and, and_false, false_and, if_true, if_false, not_true_eq_false, not_false_eq_true, reduceCtorEq, ↓reduceIte, Nat.reduceAdd, Nat.reduceEqDiff, Nat.reduceLT, Nat.reduceLeDiff, Nat.reduceSub, Nat.zero_ne_one, Nat.one_ne_zero, a0, b0, b1, b2, b3, b4, a83, a84, l84, r83, a372, r372, a373, l373, a374, l374, memW_83, memW_372, memW_373, memW_s83, memW_s372, memW_s373, e0, e1, Gz, hc, hc', Option.toList, List.nil_append, List.cons_append, List.append_nil]
          · conv => lhs; rw [x59_39]
            simp only [x59_41, x59_44, x59_47, x59_48, x59_49, x59_51, x59_54, x59_56, x59_58, x59_60, x59_63, x59_65, x59_66, x59_68, x59_70, x59_73, evI_i, evJl_i, evJf_i, evJd_i, evA_r, evA_n, evA_q, evLk_c, evS1_d, evS2_d, evFl_n, evFl_c, evGl_n, evGl_c, evIn_n, evIn_c, evCat_i, evCat_l, evCat_f, evCat_d, evCat_r, evCat_z, evCat_q, evBd_some, evTl_s, evTl_n, va_rf_s, va_rf_n, and_true, true_and, and_false, false_and, if_true, if_false, not_true_eq_false, not_false_eq_true, reduceCtorEq, ↓reduceIte, Nat.reduceAdd, Nat.reduceEqDiff, Nat.reduceLT, Nat.reduceLeDiff, Nat.reduceSub, Nat.zero_ne_one, Nat.one_ne_zero, a0, b0, b1, b2, b3, b4, a83, a84, l84, r83, a372, r372, a373, l373, a374, l374, memW_83, memW_372, memW_373, memW_s83, memW_s372, memW_s373, e0, e1, Gz, hc, hc', Option.toList, List.nil_append, List.cons_append, List.append_nil]
        · have hc' : gnC b (V 0) k (nI (10 * (j + 1))) ≤ (bsC b (V 0) k j).2 := Int32.not_lt.mp hc
          rw [if_neg hc]
          rcases he' with rfl | ⟨y, rfl⟩
          · conv => lhs; rw [x59_39]
            simp only [x59_41, x59_44, x59_47, x59_48, x59_49, x59_51, x59_54, x59_56, x59_58, x59_60, x59_63, x59_65, x59_66, x59_68, x59_70, x59_73, evI_i, evJl_i, evJf_i, evJd_i, evA_r, evA_n, evA_q, evLk_c, evS1_d, evS2_d, evFl_n, evFl_c, evGl_n, evGl_c, evIn_n, evIn_c, evCat_i, evCat_l, evCat_f, evCat_d, evCat_r, evCat_z, evCat_q, evBd_some, evTl_s, evTl_n, va_rf_s, va_rf_n, and_true, true_and, and_false, false_and, if_true, if_false, not_true_eq_false, not_false_eq_true, reduceCtorEq, ↓reduceIte, Nat.reduceAdd, Nat.reduceEqDiff, Nat.reduceLT, Nat.reduceLeDiff, Nat.reduceSub, Nat.zero_ne_one, Nat.one_ne_zero, a0, b0, b1, b2, b3, b4, a83, a84, l84, r83, a372, r372, a373, l373, a374, l374, memW_83, memW_372, memW_373, memW_s83, memW_s372, memW_s373, e0, e1, Gz, hc, hc', Option.toList, List.nil_append, List.cons_append, List.append_nil]
          · conv => lhs; rw [x59_39]
            simp only [x59_41, x59_44, x59_47, x59_48, x59_49, x59_51, x59_54, x59_56, x59_58, x59_60, x59_63, x59_65, x59_66, x59_68, x59_70, x59_73, evI_i, evJl_i, evJf_i, evJd_i, evA_r, evA_n, evA_q, evLk_c, evS1_d, evS2_d, evFl_n, evFl_c, evGl_n, evGl_c, evIn_n, evIn_c, evCat_i, evCat_l, evCat_f, evCat_d, evCat_r, evCat_z, evCat_q, evBd_some, evTl_s, evTl_n, va_rf_s, va_rf_n, and_true, true_and, and_false, false_and, if_true, if_false, not_true_eq_false, not_false_eq_true, reduceCtorEq, ↓reduceIte, Nat.reduceAdd, Nat.reduceEqDiff, Nat.reduceLT, Nat.reduceLeDiff, Nat.reduceSub, Nat.zero_ne_one, Nat.one_ne_zero, a0, b0, b1, b2, b3, b4, a83, a84, l84, r83, a372, r372, a373, l373, a374, l374, memW_83, memW_372, memW_373, memW_s83, memW_s372, memW_s373, e0, e1, Gz, hc, hc', Option.toList, List.nil_append, List.cons_append, List.append_nil]
    have fin : ∀ w, ∃ z, evX 59 39 ([(0, .ref 0), (1, .int (nI k)), (2, .int w), (3, .int (bsC b (V 0) k 0).1), (4, .int (bsC b (V 0) k 0).2), (5, .int (nI (10 * 1)))]) [] h (memW u p (Vs V 1 (gnW b (V 0) k 0)) n) = some (some (.int (if w = 0 then (bsC b (V 0) k 20).1 else (bsC b (V 0) k 20).2 + 100000)), h, memW u p (Vs V 1 z) n) := by
      intro w
      obtain ⟨z', e', LP, he'⟩ := lp w 20 (Nat.le_refl _) (gnW b (V 0) k 0) [] (Or.inl rfl)
      rw [List.append_nil] at LP
      have e0 : (200 : Int32) < nI (10 * (20 + 1)) := by decide
      refine ⟨z', ?_⟩
      rw [LP]
      by_cases hw : w = 0
      · rcases he' with rfl | ⟨y, rfl⟩
        · simp only [x59_39, x59_41, x59_44, x59_47, x59_48, x59_49, x59_51, x59_54, x59_56, x59_58, x59_60, x59_63, x59_65, x59_66, x59_68, x59_70, x59_73, x59_76, x59_77, x59_80, x59_81, x59_84, x59_86, x59_88, x59_89, evI_i, evJl_i, evJf_i, evJd_i, evA_r, evA_n, evA_q, evLk_c, evS1_d, evS2_d, evFl_n, evFl_c, evGl_n, evGl_c, evIn_n, evIn_c, evCat_i, evCat_l, evCat_f, evCat_d, evCat_r, evCat_z, evCat_q, evBd_some, evTl_s, evTl_n, va_rf_s, va_rf_n, and_true, true_and, and_false, false_and, if_true, if_false, not_true_eq_false, not_false_eq_true, reduceCtorEq, ↓reduceIte, Nat.reduceAdd, Nat.reduceEqDiff, Nat.reduceLT, Nat.reduceLeDiff, Nat.reduceSub, Nat.zero_ne_one, Nat.one_ne_zero, e0, hw, List.nil_append, List.cons_append, List.append_nil]
        · simp only [x59_39, x59_41, x59_44, x59_47, x59_48, x59_49, x59_51, x59_54, x59_56, x59_58, x59_60, x59_63, x59_65, x59_66, x59_68, x59_70, x59_73, x59_76, x59_77, x59_80, x59_81, x59_84, x59_86, x59_88, x59_89, evI_i, evJl_i, evJf_i, evJd_i, evA_r, evA_n, evA_q, evLk_c, evS1_d, evS2_d, evFl_n, evFl_c, evGl_n, evGl_c, evIn_n, evIn_c, evCat_i, evCat_l, evCat_f, evCat_d, evCat_r, evCat_z, evCat_q, evBd_some, evTl_s, evTl_n, va_rf_s, va_rf_n, and_true, true_and, and_false, false_and, if_true, if_false, not_true_eq_false, not_false_eq_true, reduceCtorEq, ↓reduceIte, Nat.reduceAdd, Nat.reduceEqDiff, Nat.reduceLT, Nat.reduceLeDiff, Nat.reduceSub, Nat.zero_ne_one, Nat.one_ne_zero, e0, hw, List.nil_append, List.cons_append, List.append_nil]
      · rcases he' with rfl | ⟨y, rfl⟩
        · simp only [x59_39, x59_41, x59_44, x59_47, x59_48, x59_49, x59_51, x59_54, x59_56, x59_58, x59_60, x59_63, x59_65, x59_66, x59_68, x59_70, x59_73, x59_76, x59_77, x59_80, x59_81, x59_84, x59_86, x59_88, x59_89, evI_i, evJl_i, evJf_i, evJd_i, evA_r, evA_n, evA_q, evLk_c, evS1_d, evS2_d, evFl_n, evFl_c, evGl_n, evGl_c, evIn_n, evIn_c, evCat_i, evCat_l, evCat_f, evCat_d, evCat_r, evCat_z, evCat_q, evBd_some, evTl_s, evTl_n, va_rf_s, va_rf_n, and_true, true_and, and_false, false_and, if_true, if_false, not_true_eq_false, not_false_eq_true, reduceCtorEq, ↓reduceIte, Nat.reduceAdd, Nat.reduceEqDiff, Nat.reduceLT, Nat.reduceLeDiff, Nat.reduceSub, Nat.zero_ne_one, Nat.one_ne_zero, e0, hw, List.nil_append, List.cons_append, List.append_nil]
        · simp only [x59_39, x59_41, x59_44, x59_47, x59_48, x59_49, x59_51, x59_54, x59_56, x59_58, x59_60, x59_63, x59_65, x59_66, x59_68, x59_70, x59_73, x59_76, x59_77, x59_80, x59_81, x59_84, x59_86, x59_88, x59_89, evI_i, evJl_i, evJf_i, evJd_i, evA_r, evA_n, evA_q, evLk_c, evS1_d, evS2_d, evFl_n, evFl_c, evGl_n, evGl_c, evIn_n, evIn_c, evCat_i, evCat_l, evCat_f, evCat_d, evCat_r, evCat_z, evCat_q, evBd_some, evTl_s, evTl_n, va_rf_s, va_rf_n, and_true, true_and, and_false, false_and, if_true, if_false, not_true_eq_false, not_false_eq_true, reduceCtorEq, ↓reduceIte, Nat.reduceAdd, Nat.reduceEqDiff, Nat.reduceLT, Nat.reduceLeDiff, Nat.reduceSub, Nat.zero_ne_one, Nat.one_ne_zero, e0, hw, List.nil_append, List.cons_append, List.append_nil]
    have e10 : (10 : Int32) = nI (10 * 1) := rfl
    by_cases hw0 : w = 0
    · obtain ⟨z, F⟩ := fin w
      refine ⟨z, ?_⟩
      rw [if_pos hw0] at F ⊢
      rw [← F]
      simp only [x59_0, x59_1, x59_4, x59_5, x59_8n, x59_8, x59_8q, x59_11, x59_12, x59_13, x59_14, x59_17, x59_18, x59_19, x59_22, x59_24, x59_25, x59_26, x59_27, x59_28, x59_29, x59_30, x59_33, x59_35, x59_37, evI_i, evJl_i, evJf_i, evJd_i, evA_r, evA_n, evA_q, evLk_c, evS1_d, evS2_d, evFl_n, evFl_c, evGl_n, evGl_c, evIn_n, evIn_c, evCat_i, evCat_l, evCat_f, evCat_d, evCat_r, evCat_z, evCat_q, evBd_some, evTl_s, evTl_n, va_rf_s, va_rf_n, and_true, true_and, and_false, false_and, if_true, if_false, not_true_eq_false, not_false_eq_true, reduceCtorEq, ↓reduceIte, Nat.reduceAdd, Nat.reduceEqDiff, Nat.reduceLT, Nat.reduceLeDiff, Nat.reduceSub, Nat.zero_ne_one, Nat.one_ne_zero, a0, b0, b1, b2, b3, b4, a83, a84, l84, r83, a372, r372, a373, l373, a374, l374, memW_83, memW_372, memW_373, memW_s83, memW_s372, memW_s373, h01, B, hw0, G0, Option.toList, List.nil_append, List.cons_append]
      rfl
    · by_cases hw1 : w = 1
      · obtain ⟨z, F⟩ := fin w
        refine ⟨z, ?_⟩
        rw [if_neg hw0] at F ⊢
        rw [if_pos hw1, ← F]
        simp only [x59_0, x59_1, x59_4, x59_5, x59_8n, x59_8, x59_8q, x59_11, x59_12, x59_13, x59_14, x59_17, x59_18, x59_19, x59_22, x59_24, x59_25, x59_26, x59_27, x59_28, x59_29, x59_30, x59_33, x59_35, x59_37, evI_i, evJl_i, evJf_i, evJd_i, evA_r, evA_n, evA_q, evLk_c, evS1_d, evS2_d, evFl_n, evFl_c, evGl_n, evGl_c, evIn_n, evIn_c, evCat_i, evCat_l, evCat_f, evCat_d, evCat_r, evCat_z, evCat_q, evBd_some, evTl_s, evTl_n, va_rf_s, va_rf_n, and_true, true_and, and_false, false_and, if_true, if_false, not_true_eq_false, not_false_eq_true, reduceCtorEq, ↓reduceIte, Nat.reduceAdd, Nat.reduceEqDiff, Nat.reduceLT, Nat.reduceLeDiff, Nat.reduceSub, Nat.zero_ne_one, Nat.one_ne_zero, a0, b0, b1, b2, b3, b4, a83, a84, l84, r83, a372, r372, a373, l373, a374, l374, memW_83, memW_372, memW_373, memW_s83, memW_s372, memW_s373, h01, B, hw0, hw1, G0, Option.toList, List.nil_append, List.cons_append]
        rfl
      · refine ⟨V 1, ?_⟩
        rw [if_neg hw0, if_neg hw1, Vs_id]
        simp only [x59_0, x59_1, x59_4, x59_5, x59_8n, x59_8, x59_8q, x59_11, x59_12, x59_13, x59_14, x59_17, x59_18, x59_19, x59_22, x59_24, evI_i, evJl_i, evJf_i, evJd_i, evA_r, evA_n, evA_q, evLk_c, evS1_d, evS2_d, evFl_n, evFl_c, evGl_n, evGl_c, evIn_n, evIn_c, evCat_i, evCat_l, evCat_f, evCat_d, evCat_r, evCat_z, evCat_q, evBd_some, evTl_s, evTl_n, va_rf_s, va_rf_n, and_true, true_and, and_false, false_and, if_true, if_false, not_true_eq_false, not_false_eq_true, reduceCtorEq, ↓reduceIte, Nat.reduceAdd, Nat.reduceEqDiff, Nat.reduceLT, Nat.reduceLeDiff, Nat.reduceSub, Nat.zero_ne_one, Nat.one_ne_zero, a0, b0, b1, b2, b3, b4, a83, a84, l84, r83, a372, r372, a373, l373, a374, l374, memW_83, memW_372, memW_373, memW_s83, memW_s372, memW_s373, h01, B, hw0, hw1, Option.toList, List.nil_append, List.cons_append]
  · have hq : bAt (V 0) 0 x = none := by rw [← eb]; exact hbk
    rw [if_pos hq]
    rw [hbk] at B
    refine ⟨V 1, ?_⟩
    rw [Vs_id]
    simp only [x59_0, x59_1, x59_4, x59_5, x59_8n, x59_8, x59_8q, x59_11, x59_12, evI_i, evJl_i, evJf_i, evJd_i, evA_r, evA_n, evA_q, evLk_c, evS1_d, evS2_d, evFl_n, evFl_c, evGl_n, evGl_c, evIn_n, evIn_c, evCat_i, evCat_l, evCat_f, evCat_d, evCat_r, evCat_z, evCat_q, evBd_some, evTl_s, evTl_n, va_rf_s, va_rf_n, and_true, true_and, and_false, false_and, if_true, if_false, not_true_eq_false, not_false_eq_true, reduceCtorEq, ↓reduceIte, Nat.reduceAdd, Nat.reduceEqDiff, Nat.reduceLT, Nat.reduceLeDiff, Nat.reduceSub, Nat.zero_ne_one, Nat.one_ne_zero, a0, b0, b1, b2, b3, b4, a83, a84, l84, r83, a372, r372, a373, l373, a374, l374, memW_83, memW_372, memW_373, memW_s83, memW_s372, memW_s373, h01, B, Option.toList, List.nil_append, List.cons_append]
end WI
