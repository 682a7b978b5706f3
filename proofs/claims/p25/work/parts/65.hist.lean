/-! the class's object: history, and the changes -/
def stN (x : Nat) : Nat := if x + 1 < 7 then x + 1 else 0
def stP (p : Nat → Nat → Int32) (x k : Nat) (a : Int32) : Nat → Nat → Int32 := if a < 0 then p else ms (ms p 0 1 (nI (stN x))) 0 2 (nI (if k + 1 < 6 then k + 1 else 6))
section WH
variable {h : evH} {u p : Nat → Nat → Int32} {V : Nat → evVt} {n : Nat} {s : Nat → Option Nat}
theorem hb0 : hb 0 = 1 := rfl
theorem hb1 : hb 1 = 42 := rfl
theorem W_copy (hx : xOK h n s) {i k : Nat} (hi : i < 9 + n) (hk : k < 9 + n) (hne : i ≠ k) : evX 8 0 [(0, .ref (hb i)), (1, .ref (hb k))] [] h (memW u p V n) = some (none, h, memW u p (Vs V i (V k)) n) := by
  obtain ⟨hn2, hN, a0, b0, b1, b2, b3, b4, a83, a84, l84, r83, r84, a372, r372, a373, l373, a374, l374, r374, rss, hH⟩ := id hx
  have C := c_HallCopy (m := memW u p V n) (v := V i) (w := V k) (hH i hi) (hH k hk) (hb_apart hne)
  rw [← memW_self hk hn2, ← memW_self hi hn2, memW_put hi hn2] at C
  exact C
theorem W_prepare (hx : xOK h n s) {x : Nat} (hx7 : x < 7) (h1 : p 0 1 = nI x) : evX 35 0 [(0, .ref 83), (1, .ref 1)] [] h (memW u p V n) = some (none, h, memW u p (Vs V (2 + x) (V 0)) n) := by
  obtain ⟨hn2, hN, a0, b0, b1, b2, b3, b4, a83, a84, l84, r83, r84, a372, r372, a373, l373, a374, l374, r374, rss, hH⟩ := id hx
  have e0 : ¬ nI x < 0 := nI_pos (by omega)
  have e1 : (nI x).toNatClampNeg = x := nI_cl _ (by omega)
  have e2 : ¬ Int32.ofNat 7 ≤ nI x := nI_ge hx7 (by omega)
  have e3 := r84 x hx7
  have C := W_copy (u := u) (p := p) (V := V) hx (i := 2 + x) (k := 0) (by omega) (by omega) (by omega)
  rw [hb0] at C
  have h2x : evAt h (hb (2 + x)) 2 := (hH (2 + x) (by omega)).1
  simp only [x35_0, x35_1, x35_4, x35_7, x35_8, x35_11, x35_12, x35_16, x35_19, x35_20, x35_23, x35_24, x35_28n, x35_28, x35_28q, x35_31, x35_32, x35_35, x35_36, x35_40, x35_41, x35_44, x35_15i, x35_15b, x35_15d, x35_15h, x35_15l, x35_27b, x35_27d, x35_27h, x35_27l, x35_39b, x35_39d, x35_39h, x35_39l, evI_i, evJl_i, evJf_i, evJd_i, evA_r, evA_n, evA_q, evLk_c, evS1_d, evS2_d, evFl_n, evFl_c, evGl_n, evGl_c, evIn_n, evIn_c, evCat_i, evCat_l, evCat_f, evCat_d, evCat_r, evCat_z, evCat_q, evBd_some, evTl_s, evTl_n, va_rf_s, va_rf_n, and_true, true_and, and_false, false_and, if_true, if_false, not_true_eq_false, not_false_eq_true, reduceCtorEq, ↓reduceIte, Nat.reduceAdd, Nat.reduceEqDiff, Nat.reduceLT, Nat.reduceLeDiff, Nat.reduceSub, Nat.zero_ne_one, Nat.one_ne_zero, a0, b0, b1, b2, b3, b4, a83, a84, l84, r83, a372, r372, a373, l373, a374, l374, memW_83, memW_372, memW_373, memW_s83, memW_s372, memW_s373, h2x, h1, e0, e1, e2, e3, hx7, C, Option.toList, List.nil_append]
theorem W_settle (hx : xOK h n s) {x k : Nat} (hx7 : x < 7) (hk : k ≤ 6) (h1 : p 0 1 = nI x) (h2 : p 0 2 = nI k) (a : Int32) : evX 36 0 [(0, .ref 83), (1, .int a)] [] h (memW u p V n) = some (some (.int a), h, memW u (stP p x k a) V n) := by
  obtain ⟨hn2, hN, a0, b0, b1, b2, b3, b4, a83, a84, l84, r83, r84, a372, r372, a373, l373, a374, l374, r374, rss, hH⟩ := id hx
  unfold stP
  by_cases ha : a < 0
  · simp only [x36_0, x36_1, x36_4, x36_5, x36_6, x36_9, x36_10, x36_11, x36_12, x36_16, x36_19, x36_20, x36_23, x36_24, x36_25, x36_28, x36_29, x36_32, x36_33, x36_34, x36_37, x36_38, x36_39, x36_41, x36_44, x36_47, x36_48, x36_15i, x36_15b, x36_15d, x36_15h, x36_15l, evI_i, evJl_i, evJf_i, evJd_i, evA_r, evA_n, evA_q, evLk_c, evS1_d, evS2_d, evFl_n, evFl_c, evGl_n, evGl_c, evIn_n, evIn_c, evCat_i, evCat_l, evCat_f, evCat_d, evCat_r, evCat_z, evCat_q, evBd_some, evTl_s, evTl_n, va_rf_s, va_rf_n, and_true, true_and, and_false, false_and, if_true, if_false, not_true_eq_false, not_false_eq_true, reduceCtorEq, ↓reduceIte, Nat.reduceAdd, Nat.reduceEqDiff, Nat.reduceLT, Nat.reduceLeDiff, Nat.reduceSub, Nat.zero_ne_one, Nat.one_ne_zero, ha]
  · have e1 : nI x + 1 = nI (x + 1) := (nI_succ x).symm
    have g : ∀ y, ms p 0 1 y 0 2 = nI k := fun y => by rw [ms_at, if_neg (by omega), h2]
    have e2 : imin (nI k + 1) 6 = nI (if k + 1 < 6 then k + 1 else 6) := by
      rw [show nI k + 1 = nI (k + 1) from (nI_succ k).symm]
      unfold imin
      by_cases hk6 : k + 1 < 6
      · rw [if_neg (show ¬ (6 : Int32) < nI (k + 1) from nI_nlt (a := 6) (by omega) (by omega)), if_pos hk6]
      · by_cases hk7 : k = 6
        · subst hk7; rfl
        · have : k = 5 := by omega
          subst this; rfl
    by_cases hx6 : x + 1 < 7
    · have e3 : ¬ Int32.ofNat 7 ≤ nI (x + 1) := nI_ge hx6 (by omega)
      have e4 : stN x = x + 1 := by unfold stN; rw [if_pos hx6]
      simp only [x36_0, x36_1, x36_4, x36_5, x36_6, x36_9, x36_10, x36_11, x36_12, x36_16, x36_19, x36_20, x36_23, x36_24, x36_25, x36_28, x36_29, x36_32, x36_33, x36_34, x36_37, x36_38, x36_39, x36_41, x36_44, x36_47, x36_48, x36_15i, x36_15b, x36_15d, x36_15h, x36_15l, evI_i, evJl_i, evJf_i, evJd_i, evA_r, evA_n, evA_q, evLk_c, evS1_d, evS2_d, evFl_n, evFl_c, evGl_n, evGl_c, evIn_n, evIn_c, evCat_i, evCat_l, evCat_f, evCat_d, evCat_r, evCat_z, evCat_q, evBd_some, evTl_s, evTl_n, va_rf_s, va_rf_n, and_true, true_and, and_false, false_and, if_true, if_false, not_true_eq_false, not_false_eq_true, reduceCtorEq, ↓reduceIte, Nat.reduceAdd, Nat.reduceEqDiff, Nat.reduceLT, Nat.reduceLeDiff, Nat.reduceSub, Nat.zero_ne_one, Nat.one_ne_zero, a0, b0, b1, b2, b3, b4, a83, a84, l84, r83, a372, r372, a373, l373, a374, l374, memW_83, memW_372, memW_373, memW_s83, memW_s372, memW_s373, ha, h1, e1, e3, e4, g, c_min, e2, Option.toList, List.nil_append, List.cons_append]
    · have e3 : Int32.ofNat 7 ≤ nI (x + 1) := nI_le (a := 7) (by omega) (by omega)
      have e4 : stN x = 0 := by unfold stN; rw [if_neg hx6]
      have e5 : nI 0 = 0 := rfl
      simp only [x36_0, x36_1, x36_4, x36_5, x36_6, x36_9, x36_10, x36_11, x36_12, x36_16, x36_19, x36_20, x36_23, x36_24, x36_25, x36_28, x36_29, x36_32, x36_33, x36_34, x36_37, x36_38, x36_39, x36_41, x36_44, x36_47, x36_48, x36_15i, x36_15b, x36_15d, x36_15h, x36_15l, evI_i, evJl_i, evJf_i, evJd_i, evA_r, evA_n, evA_q, evLk_c, evS1_d, evS2_d, evFl_n, evFl_c, evGl_n, evGl_c, evIn_n, evIn_c, evCat_i, evCat_l, evCat_f, evCat_d, evCat_r, evCat_z, evCat_q, evBd_some, evTl_s, evTl_n, va_rf_s, va_rf_n, and_true, true_and, and_false, false_and, if_true, if_false, not_true_eq_false, not_false_eq_true, reduceCtorEq, ↓reduceIte, Nat.reduceAdd, Nat.reduceEqDiff, Nat.reduceLT, Nat.reduceLeDiff, Nat.reduceSub, Nat.zero_ne_one, Nat.one_ne_zero, a0, b0, b1, b2, b3, b4, a83, a84, l84, r83, a372, r372, a373, l373, a374, l374, memW_83, memW_372, memW_373, memW_s83, memW_s372, memW_s373, ha, h1, e1, e3, e4, e5, g, c_min, e2, Option.toList, List.nil_append, List.cons_append]
def bkN (x : Nat) : Nat := if 0 < x then x - 1 else 6
theorem W_changeSetting (hx : xOK h n s) (hs0 : evSp h 0 = (4, evGv 0)) (hs1 : evSp h 1 = (4, evGv 1)) {i : Nat} (hi : i < 9 + n) (x y : Int32) : evX 13 0 [(0, .ref (hb i)), (1, .int x), (2, .int y)] [] h (memW u p V n) = some (some (.int (clSet (V i) x y).1), h, memW u p (Vs V i (clSet (V i) x y).2) n) := by
  obtain ⟨hn2, hN, a0, b0, b1, b2, b3, b4, a83, a84, l84, r83, r84, a372, r372, a373, l373, a374, l374, r374, rss, hH⟩ := id hx
  have C := c_changeSetting (m := memW u p V n) (v := V i) (hH i hi) hs0 hs1 x y
  rw [← memW_self hi hn2, memW_put hi hn2] at C
  rw [C]
  unfold clSet
  split
  · rw [Vs_id]
  · split
    · rw [Vs_id]
    · rfl
theorem W_tellBid (hx : xOK h n s) {b : Nat} (hb6 : b ≤ 6) (hv : V 0 1 0 0 = nI b) (x y : Int32) : evX 17 0 [(0, .ref 1), (1, .int x), (2, .int y)] [] h (memW u p V n) = some (some (.int (clTold (V 0) x y).1), h, memW u p (Vs V 0 (clTold (V 0) x y).2) n) := by
  obtain ⟨hn2, hN, a0, b0, b1, b2, b3, b4, a83, a84, l84, r83, r84, a372, r372, a373, l373, a374, l374, r374, rss, hH⟩ := id hx
  have C := c_tellBid (m := memW u p V n) (v := V 0) (hH 0 (by omega)) hb6 hv x y
  rw [← memW_self (by omega) hn2, memW_put (by omega) hn2, hb0] at C
  rw [C]
  unfold clTold
  have eb : (bAt (V 0) 1 x = none) = (bAt (V 0) 0 x = none) := bAt_n0 x
  by_cases hq : bAt (V 0) 0 x = none
  · rw [if_pos (eb.mpr hq), if_pos hq, Vs_id]
  · rw [if_neg (fun z => hq (eb.mp z)), if_neg hq]
    split
    · rw [Vs_id]
    · rfl
theorem W_changePlan (hx : xOK h n s) {b : Nat} (hb6 : b ≤ 6) (hv : V 0 1 0 0 = nI b) (x y : Int32) : evX 15 0 [(0, .ref 1), (1, .int x), (2, .int y)] [] h (memW u p V n) = some (some (.int (clPlan (V 0) x y).1), h, memW u p (Vs V 0 (clPlan (V 0) x y).2) n) := by
  obtain ⟨hn2, hN, a0, b0, b1, b2, b3, b4, a83, a84, l84, r83, r84, a372, r372, a373, l373, a374, l374, r374, rss, hH⟩ := id hx
  have C := c_changePlan (m := memW u p V n) (v := V 0) (hH 0 (by omega)) hb6 hv x y
  rw [← memW_self (by omega) hn2, memW_put (by omega) hn2, hb0] at C
  rw [C]
  unfold clPlan
  have eb : (bAt (V 0) 1 x = none) = (bAt (V 0) 0 x = none) := bAt_n0 x
  by_cases hq : bAt (V 0) 0 x = none
  · rw [if_pos (eb.mpr hq), if_pos hq, Vs_id]
  · rw [if_neg (fun z => hq (eb.mp z)), if_neg hq]
    split
    · rw [Vs_id]
    · rfl
theorem W_addBidder (hx : xOK h n s) {b : Nat} (hb6 : b ≤ 6) (hv : V 0 1 0 0 = nI b) (x y : Int32) : evX 14 0 [(0, .ref 1), (1, .int x), (2, .int y)] [] h (memW u p V n) = some (some (.int (clBidder b (V 0) x y).1), h, memW u p (Vs V 0 (clBidder b (V 0) x y).2) n) := by
  obtain ⟨hn2, hN, a0, b0, b1, b2, b3, b4, a83, a84, l84, r83, r84, a372, r372, a373, l373, a374, l374, r374, rss, hH⟩ := id hx
  have C := c_addBidder (m := memW u p V n) (v := V 0) (hH 0 (by omega)) hb6 hv x y
  rw [← memW_self (by omega) hn2, memW_put (by omega) hn2, hb0] at C
  rw [C]
  unfold clBidder
  split
  · rw [Vs_id]
  · split
    · rw [Vs_id]
    · rfl
theorem W_addLot (hx : xOK h n s) {q : Nat} (hq8 : q ≤ 8) (hv : V 0 1 1 0 = nI q) (x : Int32) : evX 16 0 [(0, .ref 1), (1, .int x)] [] h (memW u p V n) = some (some (.int (clLot q (V 0) x).1), h, memW u p (Vs V 0 (clLot q (V 0) x).2) n) := by
  obtain ⟨hn2, hN, a0, b0, b1, b2, b3, b4, a83, a84, l84, r83, r84, a372, r372, a373, l373, a374, l374, r374, rss, hH⟩ := id hx
  have C := c_addLot (m := memW u p V n) (v := V 0) (hH 0 (by omega)) hq8 hv x
  rw [← memW_self (by omega) hn2, memW_put (by omega) hn2, hb0] at C
  rw [C]
  unfold clLot
  split
  · rw [Vs_id]
  · split
    · rw [Vs_id]
    · rfl
theorem W_letPass (hx : xOK h n s) {b q t r : Nat} (hv : okV (V 0) b q t) (ht : t + 600 < 2 ^ 30) (hr : V 0 1 4 0 = nI r) (hr2 : r ≤ 9999) (x : Int32) : evX 18 0 [(0, .ref 1), (1, .int x)] [] h (memW u p V n) = some (some (.int (clPass b (V 0) x).1), h, memW u p (Vs V 0 (clPass b (V 0) x).2) n) := by
  obtain ⟨hn2, hN, a0, b0, b1, b2, b3, b4, a83, a84, l84, r83, r84, a372, r372, a373, l373, a374, l374, r374, rss, hH⟩ := id hx
  have C := c_letPass (m := memW u p V n) (v := V 0) (hH 0 (by omega)) hv ht hr hr2 x
  rw [← memW_self (by omega) hn2, memW_put (by omega) hn2, hb0] at C
  rw [C]
  unfold clPass
  split
  · rw [Vs_id]
  · split
    · rw [Vs_id]
    · rfl
/-- a change: what is ahead is prepared, then the hall changes, then it is settled -/
def chW (V : Nat → evVt) (x : Nat) (v : evVt) : Nat → evVt := Vs (Vs V (2 + x) (V 0)) 0 v
theorem Vs_0 (x : Nat) (v : evVt) : Vs V (2 + x) v 0 = V 0 := by rw [Vs_at, if_neg (by omega)]
theorem W_set (hx : xOK h n s) (hs0 : evSp h 0 = (4, evGv 0)) (hs1 : evSp h 1 = (4, evGv 1)) {x k : Nat} (hx7 : x < 7) (hk : k ≤ 6) (h1 : p 0 1 = nI x) (h2 : p 0 2 = nI k) (y z : Int32) : evX 47 0 [(0, .ref 0), (1, .int y), (2, .int z)] [] h (memW u p V n) = some (some (.int (clSet (V 0) y z).1), h, memW u (stP p x k (clSet (V 0) y z).1) (chW V x (clSet (V 0) y z).2) n) := by
  obtain ⟨hn2, hN, a0, b0, b1, b2, b3, b4, a83, a84, l84, r83, r84, a372, r372, a373, l373, a374, l374, r374, rss, hH⟩ := id hx
  have P := W_prepare (u := u) (V := V) hx hx7 h1
  have S := fun V a => W_settle (u := u) (V := V) hx hx7 hk h1 h2 a
  have C := W_changeSetting (u := u) (p := p) (V := Vs V (2 + x) (V 0)) hx hs0 hs1 (i := 0) (by omega) y z
  rw [Vs_0, hb0] at C
  unfold chW
  have h01 : evAt h 1 2 := (hH 0 (by omega)).1
  simp only [h01, x47_0, x47_1, x47_4, x47_5, x47_8, x47_11, x47_12, x47_15, x47_16, x47_19, x47_20, x47_21, x47_24, x47_27, evI_i, evJl_i, evJf_i, evJd_i, evA_r, evA_n, evA_q, evLk_c, evS1_d, evS2_d, evFl_n, evFl_c, evGl_n, evGl_c, evIn_n, evIn_c, evCat_i, evCat_l, evCat_f, evCat_d, evCat_r, evCat_z, evCat_q, evBd_some, evTl_s, evTl_n, va_rf_s, va_rf_n, and_true, true_and, and_false, false_and, if_true, if_false, not_true_eq_false, not_false_eq_true, reduceCtorEq, ↓reduceIte, Nat.reduceAdd, Nat.reduceEqDiff, Nat.reduceLT, Nat.reduceLeDiff, Nat.reduceSub, Nat.zero_ne_one, Nat.one_ne_zero, a0, b0, b1, b2, b3, b4, a83, a84, l84, r83, a372, r372, a373, l373, a374, l374, memW_83, memW_372, memW_373, memW_s83, memW_s372, memW_s373, P, S, C, Option.toList, List.nil_append, List.cons_append]
theorem W_bidder (hx : xOK h n s) {b : Nat} (hb6 : b ≤ 6) (hv : V 0 1 0 0 = nI b) {x k : Nat} (hx7 : x < 7) (hk : k ≤ 6) (h1 : p 0 1 = nI x) (h2 : p 0 2 = nI k) (y z : Int32) : evX 48 0 [(0, .ref 0), (1, .int y), (2, .int z)] [] h (memW u p V n) = some (some (.int (clBidder b (V 0) y z).1), h, memW u (stP p x k (clBidder b (V 0) y z).1) (chW V x (clBidder b (V 0) y z).2) n) := by
  obtain ⟨hn2, hN, a0, b0, b1, b2, b3, b4, a83, a84, l84, r83, r84, a372, r372, a373, l373, a374, l374, r374, rss, hH⟩ := id hx
  have P := W_prepare (u := u) (V := V) hx hx7 h1
  have S := fun V a => W_settle (u := u) (V := V) hx hx7 hk h1 h2 a
  have C := W_addBidder (u := u) (p := p) (V := Vs V (2 + x) (V 0)) hx hb6 (by rw [Vs_0]; exact hv) y z
  rw [Vs_0] at C
  unfold chW
  have h01 : evAt h 1 2 := (hH 0 (by omega)).1
  simp only [h01, x48_0, x48_1, x48_4, x48_5, x48_8, x48_11, x48_12, x48_15, x48_16, x48_19, x48_20, x48_21, x48_24, x48_27, evI_i, evJl_i, evJf_i, evJd_i, evA_r, evA_n, evA_q, evLk_c, evS1_d, evS2_d, evFl_n, evFl_c, evGl_n, evGl_c, evIn_n, evIn_c, evCat_i, evCat_l, evCat_f, evCat_d, evCat_r, evCat_z, evCat_q, evBd_some, evTl_s, evTl_n, va_rf_s, va_rf_n, and_true, true_and, and_false, false_and, if_true, if_false, not_true_eq_false, not_false_eq_true, reduceCtorEq, ↓reduceIte, Nat.reduceAdd, Nat.reduceEqDiff, Nat.reduceLT, Nat.reduceLeDiff, Nat.reduceSub, Nat.zero_ne_one, Nat.one_ne_zero, a0, b0, b1, b2, b3, b4, a83, a84, l84, r83, a372, r372, a373, l373, a374, l374, memW_83, memW_372, memW_373, memW_s83, memW_s372, memW_s373, P, S, C, Option.toList, List.nil_append, List.cons_append]
theorem W_plan (hx : xOK h n s) {b : Nat} (hb6 : b ≤ 6) (hv : V 0 1 0 0 = nI b) {x k : Nat} (hx7 : x < 7) (hk : k ≤ 6) (h1 : p 0 1 = nI x) (h2 : p 0 2 = nI k) (y z : Int32) : evX 49 0 [(0, .ref 0), (1, .int y), (2, .int z)] [] h (memW u p V n) = some (some (.int (clPlan (V 0) y z).1), h, memW u (stP p x k (clPlan (V 0) y z).1) (chW V x (clPlan (V 0) y z).2) n) := by
  obtain ⟨hn2, hN, a0, b0, b1, b2, b3, b4, a83, a84, l84, r83, r84, a372, r372, a373, l373, a374, l374, r374, rss, hH⟩ := id hx
  have P := W_prepare (u := u) (V := V) hx hx7 h1
  have S := fun V a => W_settle (u := u) (V := V) hx hx7 hk h1 h2 a
  have C := W_changePlan (u := u) (p := p) (V := Vs V (2 + x) (V 0)) hx hb6 (by rw [Vs_0]; exact hv) y z
  rw [Vs_0] at C
  unfold chW
  have h01 : evAt h 1 2 := (hH 0 (by omega)).1
  simp only [h01, x49_0, x49_1, x49_4, x49_5, x49_8, x49_11, x49_12, x49_15, x49_16, x49_19, x49_20, x49_21, x49_24, x49_27, evI_i, evJl_i, evJf_i, evJd_i, evA_r, evA_n, evA_q, evLk_c, evS1_d, evS2_d, evFl_n, evFl_c, evGl_n, evGl_c, evIn_n, evIn_c, evCat_i, evCat_l, evCat_f, evCat_d, evCat_r, evCat_z, evCat_q, evBd_some, evTl_s, evTl_n, va_rf_s, va_rf_n, and_true, true_and, and_false, false_and, if_true, if_false, not_true_eq_false, not_false_eq_true, reduceCtorEq, ↓reduceIte, Nat.reduceAdd, Nat.reduceEqDiff, Nat.reduceLT, Nat.reduceLeDiff, Nat.reduceSub, Nat.zero_ne_one, Nat.one_ne_zero, a0, b0, b1, b2, b3, b4, a83, a84, l84, r83, a372, r372, a373, l373, a374, l374, memW_83, memW_372, memW_373, memW_s83, memW_s372, memW_s373, P, S, C, Option.toList, List.nil_append, List.cons_append]
theorem W_bid (hx : xOK h n s) {b : Nat} (hb6 : b ≤ 6) (hv : V 0 1 0 0 = nI b) {x k : Nat} (hx7 : x < 7) (hk : k ≤ 6) (h1 : p 0 1 = nI x) (h2 : p 0 2 = nI k) (y z : Int32) : evX 51 0 [(0, .ref 0), (1, .int y), (2, .int z)] [] h (memW u p V n) = some (some (.int (clTold (V 0) y z).1), h, memW u (stP p x k (clTold (V 0) y z).1) (chW V x (clTold (V 0) y z).2) n) := by
  obtain ⟨hn2, hN, a0, b0, b1, b2, b3, b4, a83, a84, l84, r83, r84, a372, r372, a373, l373, a374, l374, r374, rss, hH⟩ := id hx
  have P := W_prepare (u := u) (V := V) hx hx7 h1
  have S := fun V a => W_settle (u := u) (V := V) hx hx7 hk h1 h2 a
  have C := W_tellBid (u := u) (p := p) (V := Vs V (2 + x) (V 0)) hx hb6 (by rw [Vs_0]; exact hv) y z
  rw [Vs_0] at C
  unfold chW
  have h01 : evAt h 1 2 := (hH 0 (by omega)).1
  simp only [h01, x51_0, x51_1, x51_4, x51_5, x51_8, x51_11, x51_12, x51_15, x51_16, x51_19, x51_20, x51_21, x51_24, x51_27, evI_i, evJl_i, evJf_i, evJd_i, evA_r, evA_n, evA_q, evLk_c, evS1_d, evS2_d, evFl_n, evFl_c, evGl_n, evGl_c, evIn_n, evIn_c, evCat_i, evCat_l, evCat_f, evCat_d, evCat_r, evCat_z, evCat_q, evBd_some, evTl_s, evTl_n, va_rf_s, va_rf_n, and_true, true_and, and_false, false_and, if_true, if_false, not_true_eq_false, not_false_eq_true, reduceCtorEq, ↓reduceIte, Nat.reduceAdd, Nat.reduceEqDiff, Nat.reduceLT, Nat.reduceLeDiff, Nat.reduceSub, Nat.zero_ne_one, Nat.one_ne_zero, a0, b0, b1, b2, b3, b4, a83, a84, l84, r83, a372, r372, a373, l373, a374, l374, memW_83, memW_372, memW_373, memW_s83, memW_s372, memW_s373, P, S, C, Option.toList, List.nil_append, List.cons_append]
theorem W_lot (hx : xOK h n s) {q : Nat} (hq8 : q ≤ 8) (hv : V 0 1 1 0 = nI q) {x k : Nat} (hx7 : x < 7) (hk : k ≤ 6) (h1 : p 0 1 = nI x) (h2 : p 0 2 = nI k) (y : Int32) : evX 50 0 [(0, .ref 0), (1, .int y)] [] h (memW u p V n) = some (some (.int (clLot q (V 0) y).1), h, memW u (stP p x k (clLot q (V 0) y).1) (chW V x (clLot q (V 0) y).2) n) := by
  obtain ⟨hn2, hN, a0, b0, b1, b2, b3, b4, a83, a84, l84, r83, r84, a372, r372, a373, l373, a374, l374, r374, rss, hH⟩ := id hx
  have P := W_prepare (u := u) (V := V) hx hx7 h1
  have S := fun V a => W_settle (u := u) (V := V) hx hx7 hk h1 h2 a
  have C := W_addLot (u := u) (p := p) (V := Vs V (2 + x) (V 0)) hx hq8 (by rw [Vs_0]; exact hv) y
  rw [Vs_0] at C
  unfold chW
  have h01 : evAt h 1 2 := (hH 0 (by omega)).1
  simp only [h01, x50_0, x50_1, x50_4, x50_5, x50_8, x50_11, x50_12, x50_15, x50_16, x50_19, x50_20, x50_23, x50_26, evI_i, evJl_i, evJf_i, evJd_i, evA_r, evA_n, evA_q, evLk_c, evS1_d, evS2_d, evFl_n, evFl_c, evGl_n, evGl_c, evIn_n, evIn_c, evCat_i, evCat_l, evCat_f, evCat_d, evCat_r, evCat_z, evCat_q, evBd_some, evTl_s, evTl_n, va_rf_s, va_rf_n, and_true, true_and, and_false, false_and, if_true, if_false, not_true_eq_false, not_false_eq_true, reduceCtorEq, ↓reduceIte, Nat.reduceAdd, Nat.reduceEqDiff, Nat.reduceLT, Nat.reduceLeDiff, Nat.reduceSub, Nat.zero_ne_one, Nat.one_ne_zero, a0, b0, b1, b2, b3, b4, a83, a84, l84, r83, a372, r372, a373, l373, a374, l374, memW_83, memW_372, memW_373, memW_s83, memW_s372, memW_s373, P, S, C, Option.toList, List.nil_append, List.cons_append]
theorem W_pass (hx : xOK h n s) {b q t r : Nat} (hv : okV (V 0) b q t) (ht : t + 600 < 2 ^ 30) (hr : V 0 1 4 0 = nI r) (hr2 : r ≤ 9999) {x k : Nat} (hx7 : x < 7) (hk : k ≤ 6) (h1 : p 0 1 = nI x) (h2 : p 0 2 = nI k) (y : Int32) : evX 52 0 [(0, .ref 0), (1, .int y)] [] h (memW u p V n) = some (some (.int (clPass b (V 0) y).1), h, memW u (stP p x k (clPass b (V 0) y).1) (chW V x (clPass b (V 0) y).2) n) := by
  obtain ⟨hn2, hN, a0, b0, b1, b2, b3, b4, a83, a84, l84, r83, r84, a372, r372, a373, l373, a374, l374, r374, rss, hH⟩ := id hx
  have P := W_prepare (u := u) (V := V) hx hx7 h1
  have S := fun V a => W_settle (u := u) (V := V) hx hx7 hk h1 h2 a
  have C := W_letPass (u := u) (p := p) (V := Vs V (2 + x) (V 0)) hx (by rw [Vs_0]; exact hv) ht (by rw [Vs_0]; exact hr) hr2 y
  rw [Vs_0] at C
  unfold chW
  have h01 : evAt h 1 2 := (hH 0 (by omega)).1
  simp only [h01, x52_0, x52_1, x52_4, x52_5, x52_8, x52_11, x52_12, x52_15, x52_16, x52_19, x52_20, x52_23, x52_26, evI_i, evJl_i, evJf_i, evJd_i, evA_r, evA_n, evA_q, evLk_c, evS1_d, evS2_d, evFl_n, evFl_c, evGl_n, evGl_c, evIn_n, evIn_c, evCat_i, evCat_l, evCat_f, evCat_d, evCat_r, evCat_z, evCat_q, evBd_some, evTl_s, evTl_n, va_rf_s, va_rf_n, and_true, true_and, and_false, false_and, if_true, if_false, not_true_eq_false, not_false_eq_true, reduceCtorEq, ↓reduceIte, Nat.reduceAdd, Nat.reduceEqDiff, Nat.reduceLT, Nat.reduceLeDiff, Nat.reduceSub, Nat.zero_ne_one, Nat.one_ne_zero, a0, b0, b1, b2, b3, b4, a83, a84, l84, r83, a372, r372, a373, l373, a374, l374, memW_83, memW_372, memW_373, memW_s83, memW_s372, memW_s373, P, S, C, Option.toList, List.nil_append, List.cons_append]
end WH
