/-! the price, a lot's end, a lot's beginning, a round -/
section RD
variable {h : evH} {m : evM} {b : Nat} {v : evVt}
def scV (q : Nat) (v : evVt) : Nat → Int32
  | 0 => 0
  | k + 1 => if nI k = v 5 q 0 then scV q v k else imax (scV q v k) (v 3 k 1)
theorem scV_s (q : Nat) (k : Nat) : scV q v (k + 1) = if nI k = v 5 q 0 then scV q v k else imax (scV q v k) (v 3 k 1) := rfl
def prV (q n : Nat) (v : evVt) : Int32 := if setAt v 3 = 0 then v 5 q 1 else imin (scV q v n + setAt v 1) (v 5 q 1)
def lvP (b q : Nat) (s : Int32) (k : Nat) : evL := match k with
  | 0 => [(0, .ref b), (1, .ref (hL b q)), (2, .int s), (3, .int (nI 0))]
  | k + 1 => [(0, .ref b), (1, .ref (hL b q)), (2, .int s), (3, .int (nI (k + 1))), (4, .ref (hB b k))]
set_option maxHeartbeats 1000000 in
theorem c_price (hH : evHall h b) {q n : Nat} (hq : q < 8) (hn : n ≤ 6) (hv : v 1 0 0 = nI n) : evX 29 0 [(0, .ref b), (1, .ref (hL b q))] [] h (putV m b v) = some (some (.int (prV q n v)), h, putV m b v) := by
  obtain ⟨q0, ⟨q1, r1⟩, ⟨q2, r2⟩, ⟨q3, r3⟩, ⟨q4, r4⟩, q5, ⟨q6, r6⟩, q7, q8, q9, f0, f6, f7, f8, f9, f10⟩ := id hH
  obtain ⟨l1, l2, l3, l4⟩ := q8 q hq
  have e0 : putV m b v (hLh b q) 0 = v 5 q 0 := pv_Lh hq (by omega)
  have e1 : putV m b v (hLh b q) 1 = v 5 q 1 := pv_Lh hq (by omega)
  unfold prV
  by_cases h0 : setAt v 3 = 0
  · simp only [x29_0, x29_1, x29_2, x29_5, x29_8, x29_9, x29_12, x29_15, evI_i, evJl_i, evJf_i, evJd_i, evA_r, evA_n, evA_q, evLk_c, evS1_d, evS2_d, evFl_n, evFl_c, evGl_n, evGl_c, evIn_n, evIn_c, evCat_i, evCat_l, evCat_f, evCat_d, evCat_r, evCat_z, evCat_q, evBd_some, evTl_s, evTl_n, va_rf_s, va_rf_n, and_true, true_and, and_false, false_and, if_true, if_false, not_true_eq_false, not_false_eq_true, reduceCtorEq, ↓reduceIte, Nat.reduceAdd, Nat.reduceEqDiff, Nat.reduceLT, Nat.reduceLeDiff, Nat.reduceSub, Nat.zero_ne_one, Nat.one_ne_zero, q0, c_settingAt hH, h0, l1, l2, l4, e1]
  · have loop := loop_up (G := fun k => evX 29 20 (lvP b q (scV q v k) k) [] h (putV m b v)) (n := n) (fun k hk => by
      have hk6 : k < 6 := by omega
      obtain ⟨u1, u2, u3, u4⟩ := q7 k hk6
      have d1 : putV m b v (hBb b k) 1 = v 3 k 1 := pv_Bb hk6 (by omega)
      have hlt : ¬ nI n ≤ nI k := nI_ge hk (by omega)
      have hs : nI k + 1 = nI (k + 1) := (nI_succ k).symm
      show _ = evX 29 20 [(0, .ref b), (1, .ref (hL b q)), (2, .int (scV q v (k + 1))), (3, .int (nI (k + 1))), (4, .ref (hB b k))] [] h (putV m b v)
      rw [scV_s]
      have hb := bAt_in (b := b) hk hn hv
      by_cases h1 : nI k = v 5 q 0
      · have h1t := eq_true h1
        cases k <;>
          (conv => lhs; unfold lvP; rw [x29_20]) <;>
          simp only [x29_0, x29_1, x29_2, x29_5, x29_8, x29_9, x29_12, x29_15, x29_16, x29_17, x29_18, x29_19, x29_21, x29_22, x29_25, x29_28, x29_29, x29_30, x29_33, x29_33n, x29_33q, x29_35, x29_37n, x29_37, x29_37q, x29_40, x29_41, x29_42, x29_45, x29_48, x29_51, x29_52, x29_54, x29_57, x29_60, x29_63, x29_64, x29_67, x29_70, x29_71, x29_72, x29_73, x29_76, x29_77, x29_78, x29_81, x29_84, x29_87, evI_i, evJl_i, evJf_i, evJd_i, evA_r, evA_n, evA_q, evLk_c, evS1_d, evS2_d, evFl_n, evFl_c, evGl_n, evGl_c, evIn_n, evIn_c, evCat_i, evCat_l, evCat_f, evCat_d, evCat_r, evCat_z, evCat_q, evBd_some, evTl_s, evTl_n, va_rf_s, va_rf_n, and_true, true_and, and_false, false_and, if_true, if_false, not_true_eq_false, not_false_eq_true, reduceCtorEq, ↓reduceIte, Nat.reduceAdd, Nat.reduceEqDiff, Nat.reduceLT, Nat.reduceLeDiff, Nat.reduceSub, Nat.zero_ne_one, Nat.one_ne_zero, q0, q1, r1, q2, r2, q3, r3, q4, r4, q5, q6, r6, f0, f6, f7, f8, f9, f10, pv_H1, pv_H2, pv_H3, pv_H4, pv_H5, pv_St, pv_Rc, pv_Rr, ps_H1, ps_H2, ps_H3, ps_H4, ps_H5, ps_St, ps_Rc, ps_Rr, hv, hlt, c_bidderAt hH, hb, u1, u2, u4, l1, l2, l4, e0, d1, c_max, h1t, hs]
      · cases k <;>
          (conv => lhs; unfold lvP; rw [x29_20]) <;>
          simp only [x29_0, x29_1, x29_2, x29_5, x29_8, x29_9, x29_12, x29_15, x29_16, x29_17, x29_18, x29_19, x29_21, x29_22, x29_25, x29_28, x29_29, x29_30, x29_33, x29_33n, x29_33q, x29_35, x29_37n, x29_37, x29_37q, x29_40, x29_41, x29_42, x29_45, x29_48, x29_51, x29_52, x29_54, x29_57, x29_60, x29_63, x29_64, x29_67, x29_70, x29_71, x29_72, x29_73, x29_76, x29_77, x29_78, x29_81, x29_84, x29_87, evI_i, evJl_i, evJf_i, evJd_i, evA_r, evA_n, evA_q, evLk_c, evS1_d, evS2_d, evFl_n, evFl_c, evGl_n, evGl_c, evIn_n, evIn_c, evCat_i, evCat_l, evCat_f, evCat_d, evCat_r, evCat_z, evCat_q, evBd_some, evTl_s, evTl_n, va_rf_s, va_rf_n, and_true, true_and, and_false, false_and, if_true, if_false, not_true_eq_false, not_false_eq_true, reduceCtorEq, ↓reduceIte, Nat.reduceAdd, Nat.reduceEqDiff, Nat.reduceLT, Nat.reduceLeDiff, Nat.reduceSub, Nat.zero_ne_one, Nat.one_ne_zero, q0, q1, r1, q2, r2, q3, r3, q4, r4, q5, q6, r6, f0, f6, f7, f8, f9, f10, pv_H1, pv_H2, pv_H3, pv_H4, pv_H5, pv_St, pv_Rc, pv_Rr, ps_H1, ps_H2, ps_H3, ps_H4, ps_H5, ps_St, ps_Rc, ps_Rr, hv, hlt, c_bidderAt hH, hb, u1, u2, u4, l1, l2, l4, e0, d1, c_max, h1, hs])
    have start : evX 29 0 [(0, .ref b), (1, .ref (hL b q))] [] h (putV m b v) = evX 29 20 (lvP b q (scV q v 0) 0) [] h (putV m b v) := by
      simp only [x29_0, x29_1, x29_2, x29_5, x29_8, x29_9, x29_12, x29_15, x29_16, x29_17, x29_18, x29_19, evI_i, evJl_i, evJf_i, evJd_i, evA_r, evA_n, evA_q, evLk_c, evS1_d, evS2_d, evFl_n, evFl_c, evGl_n, evGl_c, evIn_n, evIn_c, evCat_i, evCat_l, evCat_f, evCat_d, evCat_r, evCat_z, evCat_q, evBd_some, evTl_s, evTl_n, va_rf_s, va_rf_n, and_true, true_and, and_false, false_and, if_true, if_false, not_true_eq_false, not_false_eq_true, reduceCtorEq, ↓reduceIte, Nat.reduceAdd, Nat.reduceEqDiff, Nat.reduceLT, Nat.reduceLeDiff, Nat.reduceSub, Nat.zero_ne_one, Nat.one_ne_zero, q0, c_settingAt hH, h0]
      rfl
    rw [start]
    refine loop.trans ?_
    have hge : nI n ≤ nI n := Int32.le_refl _
    show evX 29 20 (lvP b q (scV q v n) n) [] h (putV m b v) = _
    cases n <;> (unfold lvP; simp only [x29_0, x29_1, x29_2, x29_5, x29_8, x29_9, x29_12, x29_15, x29_16, x29_17, x29_18, x29_19, x29_20, x29_21, x29_22, x29_25, x29_28, x29_29, x29_30, x29_33, x29_33n, x29_33q, x29_35, x29_37n, x29_37, x29_37q, x29_40, x29_41, x29_42, x29_45, x29_48, x29_51, x29_52, x29_54, x29_57, x29_60, x29_63, x29_64, x29_67, x29_70, x29_71, x29_72, x29_73, x29_76, x29_77, x29_78, x29_81, x29_84, x29_87, evI_i, evJl_i, evJf_i, evJd_i, evA_r, evA_n, evA_q, evLk_c, evS1_d, evS2_d, evFl_n, evFl_c, evGl_n, evGl_c, evIn_n, evIn_c, evCat_i, evCat_l, evCat_f, evCat_d, evCat_r, evCat_z, evCat_q, evBd_some, evTl_s, evTl_n, va_rf_s, va_rf_n, and_true, true_and, and_false, false_and, if_true, if_false, not_true_eq_false, not_false_eq_true, reduceCtorEq, ↓reduceIte, Nat.reduceAdd, Nat.reduceEqDiff, Nat.reduceLT, Nat.reduceLeDiff, Nat.reduceSub, Nat.zero_ne_one, Nat.one_ne_zero, q0, q1, r1, q2, r2, q3, r3, q4, r4, q5, q6, r6, f0, f6, f7, f8, f9, f10, pv_H1, pv_H2, pv_H3, pv_H4, pv_H5, pv_St, pv_Rc, pv_Rr, ps_H1, ps_H2, ps_H3, ps_H4, ps_H5, ps_St, ps_Rc, ps_Rr, hv, hge, h0, c_settingAt hH, c_min, l1, l2, l4, e1])
theorem bAt_n0 (x : Int32) : (bAt v b x = none) = (bAt v 0 x = none) := by
  unfold bAt
  split <;> simp
theorem lAt_n0 (x : Int32) : (lAt v b x = none) = (lAt v 0 x = none) := by
  unfold lAt
  split <;> simp
/-- the lot's end -/
def endV (q n : Nat) (v : evVt) : evVt :=
  if bAt v 0 (v 5 q 0) = none then vs (vs v 1 3 0 (-6)) 4 q 1 3 else
    let w := (v 5 q 0).toNatClampNeg
    let v2 := vs (vs v 1 3 0 (-6)) 4 q 1 2
    let p := prV q n v2
    let v3 := vs v2 4 q 2 p
    let v4 := vs v3 2 w 0 (v 2 w 0 - p)
    let v5 := vs v4 2 w 4 (v 2 w 4 + p)
    let v6 := vs v5 2 w 5 (v 2 w 5 + v 4 q 0)
    vs v6 2 w 3 (v 2 w 3 ||| (1 <<< ((v 1 2 0 - 1) &&& 31)))
set_option maxHeartbeats 1000000 in
theorem c_endLot (hH : evHall h b) {q n : Nat} (hq : q < 8) (hn : n ≤ 6) (hv : v 1 0 0 = nI n) : evX 28 0 [(0, .ref b), (1, .ref (hL b q))] [] h (putV m b v) = some (none, h, putV m b (endV q n v)) := by
  obtain ⟨q0, ⟨q1, r1⟩, ⟨q2, r2⟩, ⟨q3, r3⟩, ⟨q4, r4⟩, q5, ⟨q6, r6⟩, q7, q8, q9, f0, f6, f7, f8, f9, f10⟩ := id hH
  obtain ⟨l1, l2, l3, l4⟩ := q8 q hq
  have e0 : ∀ v : evVt, putV m b v (hLh b q) 0 = v 5 q 0 := fun v => pv_Lh hq (by omega)
  have g0 : ∀ v : evVt, putV m b v (hL b q) 0 = v 4 q 0 := fun v => pv_L hq (by omega)
  have g2 : ∀ v : evVt, putV m b v (hL b q) 2 = v 4 q 2 := fun v => pv_L hq (by omega)
  have s1 : ∀ (v : evVt) (x : Int32), evSetM (putV m b v) (hL b q) 1 x = putV m b (vs v 4 q 1 x) := fun v x => ps_L hq (by omega)
  have s2 : ∀ (v : evVt) (x : Int32), evSetM (putV m b v) (hL b q) 2 x = putV m b (vs v 4 q 2 x) := fun v x => ps_L hq (by omega)
  have hv1 : vs v 1 3 0 (-6) 1 0 0 = nI n := by rw [vs_at, if_neg (by omega)]; exact hv
  have hx : bAt (vs v 1 3 0 (-6)) b (v 5 q 0) = bAt v b (v 5 q 0) := by unfold bAt; simp only [vs_at, Nat.reduceEqDiff, false_and, and_false, if_false, Nat.zero_ne_one]
  have hx5 : vs v 1 3 0 (-6) 5 q 0 = v 5 q 0 := by rw [vs_at, if_neg (by omega)]
  unfold endV
  rcases bAt_of (b := b) (x := v 5 q 0) hn hv with ⟨k, hk, hxk, hb⟩ | ⟨hb, -⟩
  · have hk6 : k < 6 := by omega
    obtain ⟨u1, u2, u3, u4⟩ := q7 k hk6
    have b0 : ∀ v : evVt, putV m b v (hB b k) 0 = v 2 k 0 := fun v => pv_B hk6 (by omega)
    have b3 : ∀ v : evVt, putV m b v (hB b k) 3 = v 2 k 3 := fun v => pv_B hk6 (by omega)
    have b4 : ∀ v : evVt, putV m b v (hB b k) 4 = v 2 k 4 := fun v => pv_B hk6 (by omega)
    have b5 : ∀ v : evVt, putV m b v (hB b k) 5 = v 2 k 5 := fun v => pv_B hk6 (by omega)
    have w0 : ∀ (v : evVt) (x : Int32), evSetM (putV m b v) (hB b k) 0 x = putV m b (vs v 2 k 0 x) := fun v x => ps_B hk6 (by omega)
    have w3 : ∀ (v : evVt) (x : Int32), evSetM (putV m b v) (hB b k) 3 x = putV m b (vs v 2 k 3 x) := fun v x => ps_B hk6 (by omega)
    have w4 : ∀ (v : evVt) (x : Int32), evSetM (putV m b v) (hB b k) 4 x = putV m b (vs v 2 k 4 x) := fun v x => ps_B hk6 (by omega)
    have w5 : ∀ (v : evVt) (x : Int32), evSetM (putV m b v) (hB b k) 5 x = putV m b (vs v 2 k 5 x) := fun v x => ps_B hk6 (by omega)
    have hnn : ¬ bAt v 0 (v 5 q 0) = none := by rw [← bAt_n0 (b := b), hb]; intro z; cases z
    have pr := c_price (m := m) (v := vs (vs v 1 3 0 (-6)) 4 q 1 2) hH hq hn (by rw [vs_at, if_neg (by omega)]; exact hv1)
    rw [if_neg hnn, hxk, nI_cl k (by omega)]
    simp only [x28_0, x28_1, x28_3, x28_6, x28_7, x28_8, x28_11, x28_14, x28_17, x28_17n, x28_17q, x28_18, x28_19n, x28_19, x28_19q, x28_22, x28_23, x28_24, x28_27, x28_28, x28_29, x28_30, x28_33, x28_34, x28_35, x28_36, x28_39, x28_42, x28_43, x28_44, x28_47, x28_48, x28_51, x28_52, x28_55, x28_56, x28_57, x28_60, x28_61, x28_64, x28_65, x28_68, x28_69, x28_70, x28_73, x28_74, x28_77, x28_78, x28_81, x28_82, x28_83, x28_86, x28_87, x28_88, x28_91, x28_92, x28_93, x28_94, x28_95, x28_98, evI_i, evJl_i, evJf_i, evJd_i, evA_r, evA_n, evA_q, evLk_c, evS1_d, evS2_d, evFl_n, evFl_c, evGl_n, evGl_c, evIn_n, evIn_c, evCat_i, evCat_l, evCat_f, evCat_d, evCat_r, evCat_z, evCat_q, evBd_some, evTl_s, evTl_n, va_rf_s, va_rf_n, and_true, true_and, and_false, false_and, if_true, if_false, not_true_eq_false, not_false_eq_true, reduceCtorEq, ↓reduceIte, Nat.reduceAdd, Nat.reduceEqDiff, Nat.reduceLT, Nat.reduceLeDiff, Nat.reduceSub, Nat.zero_ne_one, Nat.one_ne_zero, q0, q1, r1, q2, r2, q3, r3, q4, r4, q5, q6, r6, f0, f6, f7, f8, f9, f10, pv_H1, pv_H2, pv_H3, pv_H4, pv_H5, pv_St, pv_Rc, pv_Rr, ps_H1, ps_H2, ps_H3, ps_H4, ps_H5, ps_St, ps_Rc, ps_Rr, c_bidderAt hH, hx, hx5, hb, e0, g0, g2, s1, s2, u1, u2, u4, l1, l2, l4, b0, b3, b4, b5, w0, w3, w4, w5, pr, vs_at, and_self]
  · have hnn : bAt v 0 (v 5 q 0) = none := by rw [← bAt_n0 (b := b)]; exact hb
    rw [if_pos hnn]
    simp only [x28_0, x28_1, x28_3, x28_6, x28_7, x28_8, x28_11, x28_14, x28_17, x28_17n, x28_17q, x28_18, x28_19n, x28_19, x28_19q, x28_22, x28_23, x28_24, x28_27, x28_28, x28_29, x28_30, x28_33, x28_34, x28_35, x28_36, x28_39, x28_42, x28_43, x28_44, x28_47, x28_48, x28_51, x28_52, x28_55, x28_56, x28_57, x28_60, x28_61, x28_64, x28_65, x28_68, x28_69, x28_70, x28_73, x28_74, x28_77, x28_78, x28_81, x28_82, x28_83, x28_86, x28_87, x28_88, x28_91, x28_92, x28_93, x28_94, x28_95, x28_98, evI_i, evJl_i, evJf_i, evJd_i, evA_r, evA_n, evA_q, evLk_c, evS1_d, evS2_d, evFl_n, evFl_c, evGl_n, evGl_c, evIn_n, evIn_c, evCat_i, evCat_l, evCat_f, evCat_d, evCat_r, evCat_z, evCat_q, evBd_some, evTl_s, evTl_n, va_rf_s, va_rf_n, and_true, true_and, and_false, false_and, if_true, if_false, not_true_eq_false, not_false_eq_true, reduceCtorEq, ↓reduceIte, Nat.reduceAdd, Nat.reduceEqDiff, Nat.reduceLT, Nat.reduceLeDiff, Nat.reduceSub, Nat.zero_ne_one, Nat.one_ne_zero, q0, q1, r1, q2, r2, q3, r3, q4, r4, q5, q6, r6, f0, f6, f7, f8, f9, f10, pv_H1, pv_H2, pv_H3, pv_H4, pv_H5, pv_St, pv_Rc, pv_Rr, ps_H1, ps_H2, ps_H3, ps_H4, ps_H5, ps_St, ps_Rc, ps_Rr, c_bidderAt hH, hx, hx5, hb, e0, g0, g2, s1, s2, l1, l2, l4]
def clB : Nat → evVt → evVt
  | 0, v => v
  | k + 1, v => set3 (clB k v) 3 k (-6) 0 0
def clE : Nat → evVt → evVt
  | 0, v => v
  | k + 1, v => set3 (clE k v) 6 k (-6) 0 0
/-- the next lot begins, if one waits -/
def beginV (v : evVt) : evVt :=
  if lAt v 0 (v 1 2 0) = none then v else clE 6 (clB 6 (vs (vs (vs (vs v 4 (v 1 2 0).toNatClampNeg 1 1) 1 3 0 (v 1 2 0)) 1 2 0 (v 1 2 0 + 1)) 7 0 0 0))
set_option maxHeartbeats 1000000 in
theorem c_begin (hH : evHall h b) {n : Nat} (hn : n ≤ 8) (hv : v 1 1 0 = nI n) : evX 22 0 [(0, .ref b)] [] h (putV m b v) = some (none, h, putV m b (beginV v)) := by
  obtain ⟨q0, ⟨q1, r1⟩, ⟨q2, r2⟩, ⟨q3, r3⟩, ⟨q4, r4⟩, q5, ⟨q6, r6⟩, q7, q8, q9, f0, f6, f7, f8, f9, f10⟩ := id hH
  unfold beginV
  rcases lAt_of (b := b) (x := v 1 2 0) hn hv with ⟨g, hg, hxg, hb⟩ | ⟨hb, -⟩
  · have hg8 : g < 8 := by omega
    obtain ⟨l1, l2, l3, l4⟩ := q8 g hg8
    have s1 : ∀ (v : evVt) (x : Int32), evSetM (putV m b v) (hL b g) 1 x = putV m b (vs v 4 g 1 x) := fun v x => ps_L hg8 (by omega)
    have hnn : ¬ lAt v 0 (v 1 2 0) = none := by rw [← lAt_n0 (b := b), hb]; intro z; cases z
    rw [if_neg hnn, hxg, nI_cl g (by omega)]
    rw [hxg] at hb
    generalize hw : vs (vs (vs (vs v 4 g 1 1) 1 3 0 (nI g)) 1 2 0 (nI g + 1)) 7 0 0 0 = w
    have h6 : Int32.ofNat 6 = nI 6 := rfl
    have loop1 := loop_up (G := fun k => evX 22 46 [(0, .ref b), (1, .ref (hL b g)), (2, .int (nI k))] [] h (putV m b (clB k w))) (n := 6) (fun k hk => by
      obtain ⟨u1, u2, u3, u4⟩ := q7 k hk
      have hlt : ¬ nI 6 ≤ nI k := nI_ge hk (by omega)
      have hs : nI k + 1 = nI (k + 1) := (nI_succ k).symm
      have h0 : ¬ nI k < 0 := nI_pos (by omega)
      have hc : (nI k).toNatClampNeg = k := nI_cl k (by omega)
      conv => lhs; rw [x22_46]
      simp only [x22_47, x22_48, x22_51s, x22_52, x22_55, x22_56, x22_59, x22_61n, x22_61, x22_61q, x22_64, x22_65, x22_68, x22_70, x22_73, x22_76, x22_79, x22_51i, x22_51b, x22_51d, x22_51h, x22_51l, x22_60b, x22_60d, x22_60h, x22_60l, x22_69b, x22_69d, x22_69h, x22_69l, evI_i, evJl_i, evJf_i, evJd_i, evA_r, evA_n, evA_q, evLk_c, evS1_d, evS2_d, evFl_n, evFl_c, evGl_n, evGl_c, evIn_n, evIn_c, evCat_i, evCat_l, evCat_f, evCat_d, evCat_r, evCat_z, evCat_q, evBd_some, evTl_s, evTl_n, va_rf_s, va_rf_n, and_true, true_and, and_false, false_and, if_true, if_false, not_true_eq_false, not_false_eq_true, reduceCtorEq, ↓reduceIte, Nat.reduceAdd, Nat.reduceEqDiff, Nat.reduceLT, Nat.reduceLeDiff, Nat.reduceSub, Nat.zero_ne_one, Nat.one_ne_zero, q0, q1, r1, q2, r2, q3, r3, q4, r4, q5, q6, r6, f0, f6, f7, f8, f9, f10, h6, hlt, h0, hc, hk, u1, u2, u3, u4, c_Bid_clear, bw_Bb hk, hs]
      rfl)
    have loop2 := loop_up (G := fun k => evX 22 84 [(0, .ref b), (1, .ref (hL b g)), (2, .int (nI k))] [] h (putV m b (clE k (clB 6 w)))) (n := 6) (fun k hk => by
      obtain ⟨u1, u2⟩ := q9 k hk
      have hlt : ¬ nI 6 ≤ nI k := nI_ge hk (by omega)
      have hs : nI k + 1 = nI (k + 1) := (nI_succ k).symm
      have h0 : ¬ nI k < 0 := nI_pos (by omega)
      have hc : (nI k).toNatClampNeg = k := nI_cl k (by omega)
      conv => lhs; rw [x22_84]
      simp only [x22_85, x22_86, x22_89s, x22_90, x22_93, x22_94, x22_97, x22_99n, x22_99, x22_99q, x22_102, x22_103, x22_106, x22_108, x22_111, x22_114, x22_89i, x22_89b, x22_89d, x22_89h, x22_89l, x22_98b, x22_98d, x22_98h, x22_98l, x22_107b, x22_107d, x22_107h, x22_107l, evI_i, evJl_i, evJf_i, evJd_i, evA_r, evA_n, evA_q, evLk_c, evS1_d, evS2_d, evFl_n, evFl_c, evGl_n, evGl_c, evIn_n, evIn_c, evCat_i, evCat_l, evCat_f, evCat_d, evCat_r, evCat_z, evCat_q, evBd_some, evTl_s, evTl_n, va_rf_s, va_rf_n, and_true, true_and, and_false, false_and, if_true, if_false, not_true_eq_false, not_false_eq_true, reduceCtorEq, ↓reduceIte, Nat.reduceAdd, Nat.reduceEqDiff, Nat.reduceLT, Nat.reduceLeDiff, Nat.reduceSub, Nat.zero_ne_one, Nat.one_ne_zero, q0, q1, r1, q2, r2, q3, r3, q4, r4, q5, q6, r6, f0, f6, f7, f8, f9, f10, h6, hlt, h0, hc, hk, u1, u2, c_Bid_clear, bw_E hk, hs]
      rfl)
    have start : evX 22 0 [(0, .ref b)] [] h (putV m b v) = evX 22 46 [(0, .ref b), (1, .ref (hL b g)), (2, .int (nI 0))] [] h (putV m b (clB 0 w)) := by
      simp only [x22_0, x22_1, x22_2, x22_5, x22_8, x22_8n, x22_8q, x22_9, x22_10n, x22_10, x22_10q, x22_13, x22_14, x22_15, x22_16, x22_19, x22_20, x22_21, x22_24, x22_27, x22_28, x22_29, x22_32, x22_33, x22_34, x22_37, x22_38, x22_41, x22_44, x22_45, evI_i, evJl_i, evJf_i, evJd_i, evA_r, evA_n, evA_q, evLk_c, evS1_d, evS2_d, evFl_n, evFl_c, evGl_n, evGl_c, evIn_n, evIn_c, evCat_i, evCat_l, evCat_f, evCat_d, evCat_r, evCat_z, evCat_q, evBd_some, evTl_s, evTl_n, va_rf_s, va_rf_n, and_true, true_and, and_false, false_and, if_true, if_false, not_true_eq_false, not_false_eq_true, reduceCtorEq, ↓reduceIte, Nat.reduceAdd, Nat.reduceEqDiff, Nat.reduceLT, Nat.reduceLeDiff, Nat.reduceSub, Nat.zero_ne_one, Nat.one_ne_zero, q0, q1, r1, q2, r2, q3, r3, q4, r4, q5, q6, r6, f0, f6, f7, f8, f9, f10, pv_H1, pv_H2, pv_H3, pv_H4, pv_H5, pv_St, pv_Rc, pv_Rr, ps_H1, ps_H2, ps_H3, ps_H4, ps_H5, ps_St, ps_Rc, ps_Rr, c_lotAt hH, hb, l1, s1, vs_at, Nat.reduceEqDiff, false_and, if_false, Nat.one_ne_zero, c_Recent_clear, hxg, hw, and_false]
      rfl
    have mid : evX 22 46 [(0, .ref b), (1, .ref (hL b g)), (2, .int (nI 6))] [] h (putV m b (clB 6 w)) = evX 22 84 [(0, .ref b), (1, .ref (hL b g)), (2, .int (nI 0))] [] h (putV m b (clE 0 (clB 6 w))) := by
      have hge : nI 6 ≤ nI 6 := Int32.le_refl _
      simp only [x22_46, x22_47, x22_48, x22_51s, x22_52, x22_55, x22_56, x22_59, x22_61n, x22_61, x22_61q, x22_64, x22_65, x22_68, x22_70, x22_73, x22_76, x22_79, x22_82, x22_83, x22_51i, x22_51b, x22_51d, x22_51h, x22_51l, x22_60b, x22_60d, x22_60h, x22_60l, x22_69b, x22_69d, x22_69h, x22_69l, evI_i, evJl_i, evJf_i, evJd_i, evA_r, evA_n, evA_q, evLk_c, evS1_d, evS2_d, evFl_n, evFl_c, evGl_n, evGl_c, evIn_n, evIn_c, evCat_i, evCat_l, evCat_f, evCat_d, evCat_r, evCat_z, evCat_q, evBd_some, evTl_s, evTl_n, va_rf_s, va_rf_n, and_true, true_and, and_false, false_and, if_true, if_false, not_true_eq_false, not_false_eq_true, reduceCtorEq, ↓reduceIte, Nat.reduceAdd, Nat.reduceEqDiff, Nat.reduceLT, Nat.reduceLeDiff, Nat.reduceSub, Nat.zero_ne_one, Nat.one_ne_zero, q0, q1, r1, q2, r2, q3, r3, q4, r4, q5, q6, r6, f0, f6, f7, f8, f9, f10, h6, hge]
      rfl
    refine start.trans (loop1.trans (mid.trans (loop2.trans ?_)))
    have hge : nI 6 ≤ nI 6 := Int32.le_refl _
    simp only [x22_84, x22_85, x22_86, x22_89s, x22_90, x22_93, x22_94, x22_97, x22_99n, x22_99, x22_99q, x22_102, x22_103, x22_106, x22_108, x22_111, x22_114, x22_117, x22_89i, x22_89b, x22_89d, x22_89h, x22_89l, x22_98b, x22_98d, x22_98h, x22_98l, x22_107b, x22_107d, x22_107h, x22_107l, evI_i, evJl_i, evJf_i, evJd_i, evA_r, evA_n, evA_q, evLk_c, evS1_d, evS2_d, evFl_n, evFl_c, evGl_n, evGl_c, evIn_n, evIn_c, evCat_i, evCat_l, evCat_f, evCat_d, evCat_r, evCat_z, evCat_q, evBd_some, evTl_s, evTl_n, va_rf_s, va_rf_n, and_true, true_and, and_false, false_and, if_true, if_false, not_true_eq_false, not_false_eq_true, reduceCtorEq, ↓reduceIte, Nat.reduceAdd, Nat.reduceEqDiff, Nat.reduceLT, Nat.reduceLeDiff, Nat.reduceSub, Nat.zero_ne_one, Nat.one_ne_zero, q0, q1, r1, q2, r2, q3, r3, q4, r4, q5, q6, r6, f0, f6, f7, f8, f9, f10, h6, hge]
  · have hnn : lAt v 0 (v 1 2 0) = none := by rw [← lAt_n0 (b := b)]; exact hb
    rw [if_pos hnn]
    simp only [x22_0, x22_1, x22_2, x22_5, x22_8, x22_8n, x22_8q, x22_9, x22_10n, x22_10, x22_10q, x22_13, evI_i, evJl_i, evJf_i, evJd_i, evA_r, evA_n, evA_q, evLk_c, evS1_d, evS2_d, evFl_n, evFl_c, evGl_n, evGl_c, evIn_n, evIn_c, evCat_i, evCat_l, evCat_f, evCat_d, evCat_r, evCat_z, evCat_q, evBd_some, evTl_s, evTl_n, va_rf_s, va_rf_n, and_true, true_and, and_false, false_and, if_true, if_false, not_true_eq_false, not_false_eq_true, reduceCtorEq, ↓reduceIte, Nat.reduceAdd, Nat.reduceEqDiff, Nat.reduceLT, Nat.reduceLeDiff, Nat.reduceSub, Nat.zero_ne_one, Nat.one_ne_zero, q0, q1, r1, q2, r2, q3, r3, q4, r4, q5, q6, r6, f0, f6, f7, f8, f9, f10, pv_H1, pv_H2, pv_H3, pv_H4, pv_H5, pv_St, pv_Rc, pv_Rr, ps_H1, ps_H2, ps_H3, ps_H4, ps_H5, ps_St, ps_Rc, ps_Rr, c_lotAt hH, hb]
end RD
