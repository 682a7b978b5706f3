/-! a round: echoes, bids, price, the lot's end and beginning -/
def set3 (v : evVt) (t i : Nat) (x y z : Int32) : evVt := vs (vs (vs v t i 0 x) t i 1 y) t i 2 z
theorem set3_at (v : evVt) (t i : Nat) (x y z : Int32) (t' i' j' : Nat) : set3 v t i x y z t' i' j' = if t' = t ∧ i' = i ∧ j' = 2 then z else if t' = t ∧ i' = i ∧ j' = 1 then y else if t' = t ∧ i' = i ∧ j' = 0 then x else v t' i' j' := rfl
section H3
variable {h : evH} {m : evM} {b : Nat} {v : evVt}
theorem bw_Bb {k : Nat} (hk : k < 6) (x y z : Int32) : bidW (putV m b v) (hBb b k) x y z = putV m b (set3 v 3 k x y z) := by
  unfold bidW set3
  rw [ps_Bb hk (by omega), ps_Bb hk (by omega), ps_Bb hk (by omega)]
theorem bw_Lh {k : Nat} (hk : k < 8) (x y z : Int32) : bidW (putV m b v) (hLh b k) x y z = putV m b (set3 v 5 k x y z) := by
  unfold bidW set3
  rw [ps_Lh hk (by omega), ps_Lh hk (by omega), ps_Lh hk (by omega)]
theorem bw_E {k : Nat} (hk : k < 6) (x y z : Int32) : bidW (putV m b v) (hE b k) x y z = putV m b (set3 v 6 k x y z) := by
  unfold bidW set3
  rw [ps_E hk (by omega), ps_E hk (by omega), ps_E hk (by omega)]
/-- the lot's highest bid against the best ones of the first k bidders -/
def ecV (q : Nat) : Nat → evVt → evVt
  | 0, v => v
  | k + 1, v => if abv (ecV q k v 3 k 0) (ecV q k v 3 k 1) (ecV q k v 3 k 2) (ecV q k v 5 q 0) (ecV q k v 5 q 1) (ecV q k v 5 q 2) = true then set3 (ecV q k v) 5 q (ecV q k v 3 k 0) (ecV q k v 3 k 1) (ecV q k v 3 k 2) else ecV q k v
theorem ecV_o {q k t i j : Nat} (ht : t ≠ 5) : ecV q k v t i j = v t i j := by
  induction k with
  | zero => rfl
  | succ k ih =>
    unfold ecV
    split
    · rw [set3_at]
      simp only [ht, false_and, if_false]
      exact ih
    · exact ih
def echoV (q n : Nat) (v : evVt) : evVt :=
  if 0 ≤ fmod (v 1 4 0) 6 ∧ fmod (v 1 4 0) 6 < 6 then set3 (ecV q n v) 6 (fmod (v 1 4 0) 6).toNatClampNeg (ecV q n v 5 q 0) (ecV q n v 5 q 1) (ecV q n v 5 q 2) else ecV q n v
def lvE (b q : Nat) (k : Nat) : evL := match k with
  | 0 => [(0, .ref b), (1, .ref (hL b q)), (2, .int (nI 0))]
  | k + 1 => [(0, .ref b), (1, .ref (hL b q)), (2, .int (nI (k + 1))), (3, .ref (hB b k))]
set_option maxHeartbeats 1000000 in
theorem c_echo (hH : evHall h b) {q n : Nat} (hq : q < 8) (hn : n ≤ 6) (hv : v 1 0 0 = nI n) : evX 27 0 [(0, .ref b), (1, .ref (hL b q))] [] h (putV m b v) = some (none, h, putV m b (echoV q n v)) := by
  obtain ⟨q0, ⟨q1, r1⟩, ⟨q2, r2⟩, ⟨q3, r3⟩, ⟨q4, r4⟩, q5, ⟨q6, r6⟩, q7, q8, q9, f0, f6, f7, f8, f9, f10⟩ := id hH
  obtain ⟨l1, l2, l3, l4⟩ := q8 q hq
  have e0 : ∀ v : evVt, putV m b v (hLh b q) 0 = v 5 q 0 := fun v => pv_Lh hq (by omega)
  have e1 : ∀ v : evVt, putV m b v (hLh b q) 1 = v 5 q 1 := fun v => pv_Lh hq (by omega)
  have e2 : ∀ v : evVt, putV m b v (hLh b q) 2 = v 5 q 2 := fun v => pv_Lh hq (by omega)
  have loop := loop_up (G := fun k => evX 27 2 (lvE b q k) [] h (putV m b (ecV q k v))) (n := n) (fun k hk => by
    have hk6 : k < 6 := by omega
    obtain ⟨u1, u2, u3, u4⟩ := q7 k hk6
    have hw : ecV q k v 1 0 0 = nI n := (ecV_o (by omega)).trans hv
    have d0 : ∀ v : evVt, putV m b v (hBb b k) 0 = v 3 k 0 := fun v => pv_Bb hk6 (by omega)
    have d1 : ∀ v : evVt, putV m b v (hBb b k) 1 = v 3 k 1 := fun v => pv_Bb hk6 (by omega)
    have d2 : ∀ v : evVt, putV m b v (hBb b k) 2 = v 3 k 2 := fun v => pv_Bb hk6 (by omega)
    have hlt : ¬ nI n ≤ nI k := nI_ge hk (by omega)
    have hs : nI k + 1 = nI (k + 1) := (nI_succ k).symm
    show _ = evX 27 2 [(0, .ref b), (1, .ref (hL b q)), (2, .int (nI (k + 1))), (3, .ref (hB b k))] [] h (putV m b (ecV q (k + 1) v))
    conv => rhs; unfold ecV
    cases ha : abv (ecV q k v 3 k 0) (ecV q k v 3 k 1) (ecV q k v 3 k 2) (ecV q k v 5 q 0) (ecV q k v 5 q 1) (ecV q k v 5 q 2) <;>
      cases k <;>
      (conv => lhs; unfold lvE; rw [x27_2]) <;>
      simp only [x27_0, x27_1, x27_3, x27_4, x27_7, x27_10, x27_11, x27_12, x27_15, x27_15n, x27_15q, x27_16, x27_17n, x27_17, x27_17q, x27_20, x27_21, x27_24, x27_25, x27_28, x27_31, x27_34, x27_35, x27_38, x27_39, x27_42, x27_45, x27_48, x27_51, x27_52, x27_55, x27_57, x27_60, x27_61, x27_62, x27_65, x27_66, x27_67, x27_70s, x27_71, x27_74, x27_75, x27_78, x27_80n, x27_80, x27_80q, x27_83, x27_84, x27_87, x27_89, x27_90, x27_93, x27_96, x27_70i, x27_70b, x27_70d, x27_70h, x27_70l, x27_79b, x27_79d, x27_79h, x27_79l, x27_88b, x27_88d, x27_88h, x27_88l, evI_i, evJl_i, evJf_i, evJd_i, evA_r, evA_n, evA_q, evLk_c, evS1_d, evS2_d, evFl_n, evFl_c, evGl_n, evGl_c, evIn_n, evIn_c, evCat_i, evCat_l, evCat_f, evCat_d, evCat_r, evCat_z, evCat_q, evBd_some, evTl_s, evTl_n, va_rf_s, va_rf_n, and_true, true_and, and_false, false_and, if_true, if_false, not_true_eq_false, not_false_eq_true, reduceCtorEq, ↓reduceIte, Nat.reduceAdd, Nat.reduceEqDiff, Nat.reduceLT, Nat.reduceLeDiff, Nat.reduceSub, Nat.zero_ne_one, Nat.one_ne_zero, q0, q1, r1, q2, r2, q3, r3, q4, r4, q5, q6, r6, f0, f6, f7, f8, f9, f10, pv_H1, pv_H2, pv_H3, pv_H4, pv_H5, pv_St, pv_Rc, pv_Rr, ps_H1, ps_H2, ps_H3, ps_H4, ps_H5, ps_St, ps_Rc, ps_Rr, hw, hlt, c_bidderAt hH, bAt_in hk hn hw, u1, u2, u4, l1, l2, l4, d0, d1, d2, e0, e1, e2, c_Bid_above, c_Bid_copy, bw_Lh hq, ha, evBl_f, evBl_t, hs, show ¬ (1 : Int32) = 0 by decide, Bool.false_eq_true])
  have start : evX 27 0 [(0, .ref b), (1, .ref (hL b q))] [] h (putV m b v) = evX 27 2 (lvE b q 0) [] h (putV m b (ecV q 0 v)) := by
    simp only [x27_0, x27_1, evI_i, evJl_i, evJf_i, evJd_i, evA_r, evA_n, evA_q, evLk_c, evS1_d, evS2_d, evFl_n, evFl_c, evGl_n, evGl_c, evIn_n, evIn_c, evCat_i, evCat_l, evCat_f, evCat_d, evCat_r, evCat_z, evCat_q, evBd_some, evTl_s, evTl_n, va_rf_s, va_rf_n, and_true, true_and, and_false, false_and, if_true, if_false, not_true_eq_false, not_false_eq_true, reduceCtorEq, ↓reduceIte, Nat.reduceAdd, Nat.reduceEqDiff, Nat.reduceLT, Nat.reduceLeDiff, Nat.reduceSub, Nat.zero_ne_one, Nat.one_ne_zero]
    rfl
  rw [start]
  refine loop.trans ?_
  have hw : ecV q n v 1 0 0 = nI n := (ecV_o (by omega)).trans hv
  have hw4 : ecV q n v 1 4 0 = v 1 4 0 := ecV_o (by omega)
  have hge : nI n ≤ nI n := Int32.le_refl _
  have h4 : Int32.ofNat 6 = 6 := rfl
  unfold echoV
  generalize hf : fmod (v 1 4 0) 6 = f
  show evX 27 2 (lvE b q n) [] h (putV m b (ecV q n v)) = _
  by_cases h1 : f < 0
  · have h1' : ¬ 0 ≤ f := fun z => i32_ff z h1
    cases n <;> (unfold lvE; simp only [x27_0, x27_1, x27_2, x27_3, x27_4, x27_7, x27_10, x27_11, x27_12, x27_15, x27_15n, x27_15q, x27_16, x27_17n, x27_17, x27_17q, x27_20, x27_21, x27_24, x27_25, x27_28, x27_31, x27_34, x27_35, x27_38, x27_39, x27_42, x27_45, x27_48, x27_51, x27_52, x27_55, x27_57, x27_60, x27_61, x27_62, x27_65, x27_66, x27_67, x27_70s, x27_71, x27_74, x27_75, x27_78, x27_80n, x27_80, x27_80q, x27_83, x27_84, x27_87, x27_89, x27_90, x27_93, x27_96, x27_70i, x27_70b, x27_70d, x27_70h, x27_70l, x27_79b, x27_79d, x27_79h, x27_79l, x27_88b, x27_88d, x27_88h, x27_88l, evI_i, evJl_i, evJf_i, evJd_i, evA_r, evA_n, evA_q, evLk_c, evS1_d, evS2_d, evFl_n, evFl_c, evGl_n, evGl_c, evIn_n, evIn_c, evCat_i, evCat_l, evCat_f, evCat_d, evCat_r, evCat_z, evCat_q, evBd_some, evTl_s, evTl_n, va_rf_s, va_rf_n, and_true, true_and, and_false, false_and, if_true, if_false, not_true_eq_false, not_false_eq_true, reduceCtorEq, ↓reduceIte, Nat.reduceAdd, Nat.reduceEqDiff, Nat.reduceLT, Nat.reduceLeDiff, Nat.reduceSub, Nat.zero_ne_one, Nat.one_ne_zero, q0, q1, r1, q2, r2, q3, r3, q4, r4, q5, q6, r6, f0, f6, f7, f8, f9, f10, pv_H1, pv_H2, pv_H3, pv_H4, pv_H5, pv_St, pv_Rc, pv_Rr, ps_H1, ps_H2, ps_H3, ps_H4, ps_H5, ps_St, ps_Rc, ps_Rr, hw, hw4, hge, c_floorMod, ne6, hf, h1, h1', false_and])
  · have h1' : 0 ≤ f := Int32.not_lt.mp h1
    by_cases h2 : f < 6
    · have h2' : ¬ 6 ≤ f := fun z => i32_ff z h2
      have h3 : f.toNatClampNeg < 6 := i32_cl (by decide) h1 h2
      obtain ⟨w1, w2⟩ := q9 _ h3
      cases n <;> (unfold lvE; simp only [x27_0, x27_1, x27_2, x27_3, x27_4, x27_7, x27_10, x27_11, x27_12, x27_15, x27_15n, x27_15q, x27_16, x27_17n, x27_17, x27_17q, x27_20, x27_21, x27_24, x27_25, x27_28, x27_31, x27_34, x27_35, x27_38, x27_39, x27_42, x27_45, x27_48, x27_51, x27_52, x27_55, x27_57, x27_60, x27_61, x27_62, x27_65, x27_66, x27_67, x27_70s, x27_71, x27_74, x27_75, x27_78, x27_80n, x27_80, x27_80q, x27_83, x27_84, x27_87, x27_89, x27_90, x27_93, x27_96, x27_70i, x27_70b, x27_70d, x27_70h, x27_70l, x27_79b, x27_79d, x27_79h, x27_79l, x27_88b, x27_88d, x27_88h, x27_88l, evI_i, evJl_i, evJf_i, evJd_i, evA_r, evA_n, evA_q, evLk_c, evS1_d, evS2_d, evFl_n, evFl_c, evGl_n, evGl_c, evIn_n, evIn_c, evCat_i, evCat_l, evCat_f, evCat_d, evCat_r, evCat_z, evCat_q, evBd_some, evTl_s, evTl_n, va_rf_s, va_rf_n, and_true, true_and, and_false, false_and, if_true, if_false, not_true_eq_false, not_false_eq_true, reduceCtorEq, ↓reduceIte, Nat.reduceAdd, Nat.reduceEqDiff, Nat.reduceLT, Nat.reduceLeDiff, Nat.reduceSub, Nat.zero_ne_one, Nat.one_ne_zero, q0, q1, r1, q2, r2, q3, r3, q4, r4, q5, q6, r6, f0, f6, f7, f8, f9, f10, pv_H1, pv_H2, pv_H3, pv_H4, pv_H5, pv_St, pv_Rc, pv_Rr, ps_H1, ps_H2, ps_H3, ps_H4, ps_H5, ps_St, ps_Rc, ps_Rr, hw, hw4, hge, c_floorMod, ne6, hf, h1, h1', h2, h2', h3, h4, w1, w2, l1, l2, l4, e0, e1, e2, c_Bid_copy, bw_E h3, and_self])
    · have h2' : 6 ≤ f := Int32.not_lt.mp h2
      cases n <;> (unfold lvE; simp only [x27_0, x27_1, x27_2, x27_3, x27_4, x27_7, x27_10, x27_11, x27_12, x27_15, x27_15n, x27_15q, x27_16, x27_17n, x27_17, x27_17q, x27_20, x27_21, x27_24, x27_25, x27_28, x27_31, x27_34, x27_35, x27_38, x27_39, x27_42, x27_45, x27_48, x27_51, x27_52, x27_55, x27_57, x27_60, x27_61, x27_62, x27_65, x27_66, x27_67, x27_70s, x27_71, x27_74, x27_75, x27_78, x27_80n, x27_80, x27_80q, x27_83, x27_84, x27_87, x27_89, x27_90, x27_93, x27_96, x27_70i, x27_70b, x27_70d, x27_70h, x27_70l, x27_79b, x27_79d, x27_79h, x27_79l, x27_88b, x27_88d, x27_88h, x27_88l, evI_i, evJl_i, evJf_i, evJd_i, evA_r, evA_n, evA_q, evLk_c, evS1_d, evS2_d, evFl_n, evFl_c, evGl_n, evGl_c, evIn_n, evIn_c, evCat_i, evCat_l, evCat_f, evCat_d, evCat_r, evCat_z, evCat_q, evBd_some, evTl_s, evTl_n, va_rf_s, va_rf_n, and_true, true_and, and_false, false_and, if_true, if_false, not_true_eq_false, not_false_eq_true, reduceCtorEq, ↓reduceIte, Nat.reduceAdd, Nat.reduceEqDiff, Nat.reduceLT, Nat.reduceLeDiff, Nat.reduceSub, Nat.zero_ne_one, Nat.one_ne_zero, q0, q1, r1, q2, r2, q3, r3, q4, r4, q5, q6, r6, f0, f6, f7, f8, f9, f10, pv_H1, pv_H2, pv_H3, pv_H4, pv_H5, pv_St, pv_Rc, pv_Rr, ps_H1, ps_H2, ps_H3, ps_H4, ps_H5, ps_St, ps_Rc, ps_Rr, hw, hw4, hge, c_floorMod, ne6, hf, h1, h1', h2, h2', h4, and_false])
end H3
