/-! rounds, one by one and many; sums; what changes the hall -/
theorem loop_dn {α : Type} {G : Nat → α} {r : α} {n : Nat} (hs : ∀ k, k < n → G k = G (k + 1) ∨ G k = r) (hn : G n = r) : G 0 = r := by
  have : ∀ d k, k + d = n → G k = r := by
    intro d
    induction d with
    | zero => intro k hk; rw [show k = n by omega]; exact hn
    | succ d ih =>
      intro k hk
      rcases hs k (by omega) with h | h
      · rw [h]; exact ih (k + 1) (by omega)
      · exact h
  exact this n 0 (by omega)
/-- what every hall keeps: how many bidders, lots, notes -/
def okV (v : evVt) (n m t : Nat) : Prop := v 1 0 0 = nI n ∧ n ≤ 6 ∧ v 1 1 0 = nI m ∧ m ≤ 8 ∧ v 7 0 0 = nI t
/-- a round: the state behind it, whether a lot ended -/
def playV (n : Nat) (v : evVt) : evVt × Bool :=
  let v1 := if v 1 3 0 = -6 then beginV v else v
  if lAt v1 0 (v1 1 3 0) = none then (vs v1 1 4 0 (v1 1 4 0 + 1), false) else
    let q := (v1 1 3 0).toNatClampNeg
    let v2 := takeV q n v1
    let e := decide (setAt v2 2 + setAt v2 0 ≤ v2 4 q 4)
    let v3 := if e = true then endV q n v2 else v2
    (vs v3 1 4 0 (v3 1 4 0 + 1), e)
section PL
variable {h : evH} {m : evM} {b : Nat} {v : evVt}
theorem echoV_o {q n t i j : Nat} (h5 : t ≠ 5) (h6 : t ≠ 6) : echoV q n v t i j = v t i j := by
  unfold echoV
  split
  · rw [set3_at]
    simp only [h6, false_and, if_false]
    exact ecV_o h5
  · exact ecV_o h5
theorem takeV_o {q n t i j : Nat} (h2 : t ≠ 2) (h3 : t ≠ 3) (h4 : t ≠ 4) (h5 : t ≠ 5) (h6 : t ≠ 6) (h7 : t ≠ 7) (h8 : t ≠ 8) : takeV q n v t i j = v t i j := by
  unfold takeV
  rw [echoV_o h5 h6]
  simp only [vs_at, h4, false_and, if_false]
  exact tkV_o h2 h3 h7 h8
theorem takeV_t {q n t : Nat} (ht : v 7 0 0 = nI t) (ht2 : t + n < 2 ^ 30) : ∃ t', takeV q n v 7 0 0 = nI t' ∧ t' ≤ t + n := by
  obtain ⟨t', h1, h2⟩ := tkV_t (q := q) (k := n) (bf := v 5 q 1) ht ht2
  refine ⟨t', ?_, h2⟩
  unfold takeV
  rw [echoV_o (by omega) (by omega)]
  simp only [vs_at, Nat.reduceEqDiff, false_and, if_false]
  exact h1
theorem endV_o {q n t i j : Nat} (h1 : t ≠ 1) (h2 : t ≠ 2) (h4 : t ≠ 4) : endV q n v t i j = v t i j := by
  unfold endV
  split <;> simp only [vs_at, h1, h2, h4, false_and, if_false]
theorem endV_1 {q n i : Nat} (hi : i ≠ 3) : endV q n v 1 i 0 = v 1 i 0 := by
  unfold endV
  split <;> simp only [vs_at, hi, Nat.reduceEqDiff, false_and, and_false, if_false, true_and, and_self, and_true]
theorem clB_o {k t i j : Nat} (h3 : t ≠ 3) : clB k v t i j = v t i j := by
  induction k with
  | zero => rfl
  | succ k ih => unfold clB; rw [set3_at]; simp only [h3, false_and, if_false]; exact ih
theorem clE_o {k t i j : Nat} (h6 : t ≠ 6) : clE k v t i j = v t i j := by
  induction k with
  | zero => rfl
  | succ k ih => unfold clE; rw [set3_at]; simp only [h6, false_and, if_false]; exact ih
theorem beginV_10 {i : Nat} (h2 : i ≠ 2) (h3 : i ≠ 3) : beginV v 1 i 0 = v 1 i 0 := by
  unfold beginV
  split
  · rfl
  · rw [clE_o (by omega), clB_o (by omega)]
    simp only [vs_at, h2, h3, Nat.reduceEqDiff, false_and, and_false, if_false]
theorem beginV_7 : beginV v 7 0 0 = v 7 0 0 ∨ beginV v 7 0 0 = nI 0 := by
  unfold beginV
  split
  · exact Or.inl rfl
  · right
    rw [clE_o (by omega), clB_o (by omega), vs_at, if_pos ⟨rfl, rfl, rfl⟩]
    rfl
theorem okV_begin {n k t : Nat} (hv : okV v n k t) : ∃ t', okV (beginV v) n k t' ∧ t' ≤ t := by
  obtain ⟨h1, h2, h3, h4, h5⟩ := hv
  rcases beginV_7 (v := v) with h | h
  · exact ⟨t, ⟨by rw [beginV_10 (by omega) (by omega)]; exact h1, h2, by rw [beginV_10 (by omega) (by omega)]; exact h3, h4, by rw [h]; exact h5⟩, Nat.le_refl _⟩
  · exact ⟨0, ⟨by rw [beginV_10 (by omega) (by omega)]; exact h1, h2, by rw [beginV_10 (by omega) (by omega)]; exact h3, h4, h⟩, Nat.zero_le _⟩
theorem okV_play {n k t : Nat} (hv : okV v n k t) (ht : t + n < 2 ^ 30) : ∃ t', okV (playV n v).1 n k t' ∧ t' ≤ t + n := by
  unfold playV
  dsimp only
  have hv1 : ∃ t', okV (if v 1 3 0 = -6 then beginV v else v) n k t' ∧ t' ≤ t := by
    split
    · exact okV_begin hv
    · exact ⟨t, hv, Nat.le_refl _⟩
  obtain ⟨t1, ⟨a1, a2, a3, a4, a5⟩, ht1⟩ := hv1
  generalize hw : (if v 1 3 0 = -6 then beginV v else v) = w at a1 a3 a5 ⊢
  by_cases hl : lAt w 0 (w 1 3 0) = none
  · rw [if_pos hl]
    refine ⟨t1, ⟨?_, a2, ?_, a4, ?_⟩, by omega⟩ <;> (dsimp only; rw [vs_at, if_neg (by omega)]; assumption)
  · rw [if_neg hl]
    obtain ⟨t2, b1, b2⟩ := takeV_t (q := (w 1 3 0).toNatClampNeg) (n := n) a5 (by omega)
    have c1 : takeV (w 1 3 0).toNatClampNeg n w 1 0 0 = nI n := (takeV_o (by omega) (by omega) (by omega) (by omega) (by omega) (by omega) (by omega)).trans a1
    have c2 : takeV (w 1 3 0).toNatClampNeg n w 1 1 0 = nI k := (takeV_o (by omega) (by omega) (by omega) (by omega) (by omega) (by omega) (by omega)).trans a3
    refine ⟨t2, ⟨?_, a2, ?_, a4, ?_⟩, by omega⟩ <;> (dsimp only; rw [vs_at, if_neg (by omega)]; split)
    · rw [endV_1 (by omega)]; exact c1
    · exact c1
    · rw [endV_1 (by omega)]; exact c2
    · exact c2
    · rw [endV_o (by omega) (by omega) (by omega)]; exact b1
    · exact b1
set_option maxHeartbeats 2000000 in
theorem c_play (hH : evHall h b) {n k t : Nat} (hv : okV v n k t) (ht : t + n < 2 ^ 30) : evX 21 0 [(0, .ref b)] [] h (putV m b v) = some (some (.int (evBl (playV n v).2)), h, putV m b (playV n v).1) := by
  obtain ⟨q0, ⟨q1, r1⟩, ⟨q2, r2⟩, ⟨q3, r3⟩, ⟨q4, r4⟩, q5, ⟨q6, r6⟩, q7, q8, q9, f0, f6, f7, f8, f9, f10⟩ := id hH
  have st : evX 21 0 [(0, .ref b)] [] h (putV m b v) = evX 21 13 [(0, .ref b)] [] h (putV m b (if v 1 3 0 = -6 then beginV v else v)) := by
    by_cases h6 : v 1 3 0 = -6
    · simp only [x21_0, x21_1, x21_4, x21_6, x21_9, x21_10, evI_i, evJl_i, evJf_i, evJd_i, evA_r, evA_n, evA_q, evLk_c, evS1_d, evS2_d, evFl_n, evFl_c, evGl_n, evGl_c, evIn_n, evIn_c, evCat_i, evCat_l, evCat_f, evCat_d, evCat_r, evCat_z, evCat_q, evBd_some, evTl_s, evTl_n, va_rf_s, va_rf_n, and_true, true_and, and_false, false_and, if_true, if_false, not_true_eq_false, not_false_eq_true, reduceCtorEq, ↓reduceIte, Nat.reduceAdd, Nat.reduceEqDiff, Nat.reduceLT, Nat.reduceLeDiff, Nat.reduceSub, Nat.zero_ne_one, Nat.one_ne_zero, q0, q1, r1, q2, r2, q3, r3, q4, r4, q5, q6, r6, f0, f6, f7, f8, f9, f10, pv_H1, pv_H2, pv_H3, pv_H4, pv_H5, pv_St, pv_Rc, pv_Rr, ps_H1, ps_H2, ps_H3, ps_H4, ps_H5, ps_St, ps_Rc, ps_Rr, h6, c_begin hH hv.2.2.2.1 hv.2.2.1]
    · simp only [x21_0, x21_1, x21_4, x21_6, x21_9, x21_10, evI_i, evJl_i, evJf_i, evJd_i, evA_r, evA_n, evA_q, evLk_c, evS1_d, evS2_d, evFl_n, evFl_c, evGl_n, evGl_c, evIn_n, evIn_c, evCat_i, evCat_l, evCat_f, evCat_d, evCat_r, evCat_z, evCat_q, evBd_some, evTl_s, evTl_n, va_rf_s, va_rf_n, and_true, true_and, and_false, false_and, if_true, if_false, not_true_eq_false, not_false_eq_true, reduceCtorEq, ↓reduceIte, Nat.reduceAdd, Nat.reduceEqDiff, Nat.reduceLT, Nat.reduceLeDiff, Nat.reduceSub, Nat.zero_ne_one, Nat.one_ne_zero, q0, q1, r1, q2, r2, q3, r3, q4, r4, q5, q6, r6, f0, f6, f7, f8, f9, f10, pv_H1, pv_H2, pv_H3, pv_H4, pv_H5, pv_St, pv_Rc, pv_Rr, ps_H1, ps_H2, ps_H3, ps_H4, ps_H5, ps_St, ps_Rc, ps_Rr, h6]
  have hv1 : ∃ t', okV (if v 1 3 0 = -6 then beginV v else v) n k t' ∧ t' ≤ t := by
    split
    · exact okV_begin hv
    · exact ⟨t, hv, Nat.le_refl _⟩
  rw [st]
  unfold playV
  dsimp only
  obtain ⟨t1, ⟨a1, a2, a3, a4, a5⟩, ht1⟩ := hv1
  generalize hw : (if v 1 3 0 = -6 then beginV v else v) = w at a1 a3 a5 ⊢
  rcases lAt_of (b := b) (x := w 1 3 0) a4 a3 with ⟨q, hq, hxq, hb⟩ | ⟨hb, -⟩
  · have hq8 : q < 8 := by omega
    obtain ⟨l1, l2, l3, l4⟩ := q8 q hq8
    have hnn : ¬ lAt w 0 (w 1 3 0) = none := by rw [← lAt_n0 (b := b), hb]; intro z; cases z
    rw [if_neg hnn]
    have hqc : (w 1 3 0).toNatClampNeg = q := by rw [hxq, nI_cl q (by omega)]
    rw [hqc]
    have tk := c_take (m := m) (v := w) hH hq8 a2 a1 a5 (by omega)
    have c0 : take0V q n w 1 0 0 = nI n := by
      unfold take0V
      simp only [vs_at, Nat.reduceEqDiff, false_and, if_false]
      exact (tkV_o (by omega) (by omega) (by omega) (by omega)).trans a1
    have ech : evX 27 0 [(0, .ref b), (1, .ref (hL b q))] [] h (putV m b (take0V q n w)) = some (none, h, putV m b (takeV q n w)) := c_echo (m := m) hH hq8 a2 c0
    have c1 : takeV q n w 1 0 0 = nI n := (takeV_o (by omega) (by omega) (by omega) (by omega) (by omega) (by omega) (by omega)).trans a1
    have en := c_endLot (m := m) (v := takeV q n w) hH hq8 a2 c1
    have g4 : ∀ v : evVt, putV m b v (hL b q) 4 = v 4 q 4 := fun v => pv_L hq8 (by omega)
    generalize takeV q n w = z at ech en ⊢
    by_cases he : setAt z 2 + setAt z 0 ≤ z 4 q 4
    · have he' : ¬ z 4 q 4 < setAt z 2 + setAt z 0 := fun y => i32_ff he y
      simp only [x21_13, x21_14, x21_15, x21_18, x21_21, x21_21n, x21_21q, x21_22, x21_23, x21_24, x21_25n, x21_25, x21_25q, x21_28, x21_29, x21_30, x21_33, x21_34, x21_35, x21_38, x21_39, x21_42, x21_43, x21_44, x21_47, x21_48, x21_49, x21_52, x21_53, x21_56, x21_57, x21_60, x21_61, x21_62, x21_63, x21_66, x21_67, x21_68, x21_71, x21_72, x21_73, x21_76, x21_77, x21_78, x21_81, x21_82_0, x21_82_1, x21_82b, evI_i, evJl_i, evJf_i, evJd_i, evA_r, evA_n, evA_q, evLk_c, evS1_d, evS2_d, evFl_n, evFl_c, evGl_n, evGl_c, evIn_n, evIn_c, evCat_i, evCat_l, evCat_f, evCat_d, evCat_r, evCat_z, evCat_q, evBd_some, evTl_s, evTl_n, va_rf_s, va_rf_n, and_true, true_and, and_false, false_and, if_true, if_false, not_true_eq_false, not_false_eq_true, reduceCtorEq, ↓reduceIte, Nat.reduceAdd, Nat.reduceEqDiff, Nat.reduceLT, Nat.reduceLeDiff, Nat.reduceSub, Nat.zero_ne_one, Nat.one_ne_zero, q0, q1, r1, q2, r2, q3, r3, q4, r4, q5, q6, r6, f0, f6, f7, f8, f9, f10, pv_H1, pv_H2, pv_H3, pv_H4, pv_H5, pv_St, pv_Rc, pv_Rr, ps_H1, ps_H2, ps_H3, ps_H4, ps_H5, ps_St, ps_Rc, ps_Rr, c_lotAt hH, hb, tk, ech, l1, g4, c_settingAt hH, he, he', en, decide_true, evBl_t, show ¬ (1 : Int32) = 0 by decide]
    · have he' : z 4 q 4 < setAt z 2 + setAt z 0 := Int32.not_le.mp he
      simp only [x21_13, x21_14, x21_15, x21_18, x21_21, x21_21n, x21_21q, x21_22, x21_23, x21_24, x21_25n, x21_25, x21_25q, x21_28, x21_29, x21_30, x21_33, x21_34, x21_35, x21_38, x21_39, x21_42, x21_43, x21_44, x21_47, x21_48, x21_49, x21_52, x21_53, x21_56, x21_57, x21_60, x21_61, x21_62, x21_63, x21_66, x21_67, x21_68, x21_71, x21_72, x21_73, x21_76, x21_77, x21_78, x21_81, x21_82_0, x21_82_1, x21_82b, evI_i, evJl_i, evJf_i, evJd_i, evA_r, evA_n, evA_q, evLk_c, evS1_d, evS2_d, evFl_n, evFl_c, evGl_n, evGl_c, evIn_n, evIn_c, evCat_i, evCat_l, evCat_f, evCat_d, evCat_r, evCat_z, evCat_q, evBd_some, evTl_s, evTl_n, va_rf_s, va_rf_n, and_true, true_and, and_false, false_and, if_true, if_false, not_true_eq_false, not_false_eq_true, reduceCtorEq, ↓reduceIte, Nat.reduceAdd, Nat.reduceEqDiff, Nat.reduceLT, Nat.reduceLeDiff, Nat.reduceSub, Nat.zero_ne_one, Nat.one_ne_zero, q0, q1, r1, q2, r2, q3, r3, q4, r4, q5, q6, r6, f0, f6, f7, f8, f9, f10, pv_H1, pv_H2, pv_H3, pv_H4, pv_H5, pv_St, pv_Rc, pv_Rr, ps_H1, ps_H2, ps_H3, ps_H4, ps_H5, ps_St, ps_Rc, ps_Rr, c_lotAt hH, hb, tk, ech, l1, g4, c_settingAt hH, he, he', decide_false, evBl_f, Bool.false_eq_true]
  · have hnn : lAt w 0 (w 1 3 0) = none := by rw [← lAt_n0 (b := b)]; exact hb
    rw [if_pos hnn]
    simp only [x21_13, x21_14, x21_15, x21_18, x21_21, x21_21n, x21_21q, x21_22, x21_23, x21_24, x21_25n, x21_25, x21_25q, x21_28, x21_29, x21_30, x21_33, x21_34, x21_35, x21_38, x21_39, x21_42, x21_43, x21_44, x21_47, x21_48, x21_49, x21_52, x21_53, x21_56, x21_57, x21_60, x21_61, x21_62, x21_63, x21_66, x21_67, x21_68, x21_71, x21_72, x21_73, x21_76, x21_77, x21_78, x21_81, x21_82_0, x21_82_1, x21_82b, evI_i, evJl_i, evJf_i, evJd_i, evA_r, evA_n, evA_q, evLk_c, evS1_d, evS2_d, evFl_n, evFl_c, evGl_n, evGl_c, evIn_n, evIn_c, evCat_i, evCat_l, evCat_f, evCat_d, evCat_r, evCat_z, evCat_q, evBd_some, evTl_s, evTl_n, va_rf_s, va_rf_n, and_true, true_and, and_false, false_and, if_true, if_false, not_true_eq_false, not_false_eq_true, reduceCtorEq, ↓reduceIte, Nat.reduceAdd, Nat.reduceEqDiff, Nat.reduceLT, Nat.reduceLeDiff, Nat.reduceSub, Nat.zero_ne_one, Nat.one_ne_zero, q0, q1, r1, q2, r2, q3, r3, q4, r4, q5, q6, r6, f0, f6, f7, f8, f9, f10, pv_H1, pv_H2, pv_H3, pv_H4, pv_H5, pv_St, pv_Rc, pv_Rr, ps_H1, ps_H2, ps_H3, ps_H4, ps_H5, ps_St, ps_Rc, ps_Rr, c_lotAt hH, hb, evBl_f]
/-- k rounds: the state, how many lots ended -/
def passV (n : Nat) (v : evVt) : Nat → evVt × Int32
  | 0 => (v, 0)
  | k + 1 => ((playV n (passV n v k).1).1, if (playV n (passV n v k).1).2 = true then (passV n v k).2 + 1 else (passV n v k).2)
theorem passV_s (n k : Nat) : passV n v (k + 1) = ((playV n (passV n v k).1).1, if (playV n (passV n v k).1).2 = true then (passV n v k).2 + 1 else (passV n v k).2) := rfl
theorem okV_pass {n m' t k : Nat} (hv : okV v n m' t) (ht : t + n * k < 2 ^ 30) : ∃ t', okV (passV n v k).1 n m' t' ∧ t' ≤ t + n * k := by
  induction k with
  | zero => exact ⟨t, hv, Nat.le_refl _⟩
  | succ k ih =>
    rw [Nat.mul_succ] at ht
    obtain ⟨t1, h1, h2⟩ := ih (by omega)
    obtain ⟨t2, h3, h4⟩ := okV_play h1 (by omega)
    exact ⟨t2, h3, by rw [Nat.mul_succ]; omega⟩
set_option maxHeartbeats 1000000 in
theorem c_letPass (hH : evHall h b) {n k t r : Nat} (hv : okV v n k t) (ht : t + 600 < 2 ^ 30) (hr : v 1 4 0 = nI r) (hr2 : r ≤ 9999) (x : Int32) : evX 18 0 [(0, .ref b), (1, .int x)] [] h (putV m b v) = if x < 1 ∨ 99 < x then some (some (.int (-2)), h, putV m b v) else if 9999 < v 1 4 0 + x then some (some (.int (-5)), h, putV m b v) else some (some (.int (passV n v x.toNatClampNeg).2), h, putV m b (passV n v x.toNatClampNeg).1) := by
  obtain ⟨q0, ⟨q1, r1⟩, ⟨q2, r2⟩, ⟨q3, r3⟩, ⟨q4, r4⟩, q5, ⟨q6, r6⟩, q7, q8, q9, f0, f6, f7, f8, f9, f10⟩ := id hH
  by_cases h1 : x < 1
  · simp only [x18_0, x18_1, x18_2, x18_5, x18_6, x18_8, x18_11, x18_13, x18_14, x18_15, x18_18, x18_19, x18_20, x18_23, x18_26, x18_28, evI_i, evJl_i, evJf_i, evJd_i, evA_r, evA_n, evA_q, evLk_c, evS1_d, evS2_d, evFl_n, evFl_c, evGl_n, evGl_c, evIn_n, evIn_c, evCat_i, evCat_l, evCat_f, evCat_d, evCat_r, evCat_z, evCat_q, evBd_some, evTl_s, evTl_n, va_rf_s, va_rf_n, and_true, true_and, and_false, false_and, if_true, if_false, not_true_eq_false, not_false_eq_true, reduceCtorEq, ↓reduceIte, Nat.reduceAdd, Nat.reduceEqDiff, Nat.reduceLT, Nat.reduceLeDiff, Nat.reduceSub, Nat.zero_ne_one, Nat.one_ne_zero, q0, q1, r1, q2, r2, q3, r3, q4, r4, q5, q6, r6, f0, f6, f7, f8, f9, f10, pv_H1, pv_H2, pv_H3, pv_H4, pv_H5, pv_St, pv_Rc, pv_Rr, ps_H1, ps_H2, ps_H3, ps_H4, ps_H5, ps_St, ps_Rc, ps_Rr, h1, true_or]
  · have h1' : 1 ≤ x := Int32.not_lt.mp h1
    by_cases h2 : 99 < x
    · have h2' : ¬ x ≤ 99 := fun z => i32_ff z h2
      simp only [x18_0, x18_1, x18_2, x18_5, x18_6, x18_8, x18_11, x18_13, x18_14, x18_15, x18_18, x18_19, x18_20, x18_23, x18_26, x18_28, evI_i, evJl_i, evJf_i, evJd_i, evA_r, evA_n, evA_q, evLk_c, evS1_d, evS2_d, evFl_n, evFl_c, evGl_n, evGl_c, evIn_n, evIn_c, evCat_i, evCat_l, evCat_f, evCat_d, evCat_r, evCat_z, evCat_q, evBd_some, evTl_s, evTl_n, va_rf_s, va_rf_n, and_true, true_and, and_false, false_and, if_true, if_false, not_true_eq_false, not_false_eq_true, reduceCtorEq, ↓reduceIte, Nat.reduceAdd, Nat.reduceEqDiff, Nat.reduceLT, Nat.reduceLeDiff, Nat.reduceSub, Nat.zero_ne_one, Nat.one_ne_zero, q0, q1, r1, q2, r2, q3, r3, q4, r4, q5, q6, r6, f0, f6, f7, f8, f9, f10, pv_H1, pv_H2, pv_H3, pv_H4, pv_H5, pv_St, pv_Rc, pv_Rr, ps_H1, ps_H2, ps_H3, ps_H4, ps_H5, ps_St, ps_Rc, ps_Rr, h1, h1', h2, h2', or_true]
    · have h2' : x ≤ 99 := Int32.not_lt.mp h2
      by_cases h3 : 9999 < v 1 4 0 + x
      · have h3' : ¬ v 1 4 0 + x ≤ 9999 := fun z => i32_ff z h3
        simp only [x18_0, x18_1, x18_2, x18_5, x18_6, x18_8, x18_11, x18_13, x18_14, x18_15, x18_18, x18_19, x18_20, x18_23, x18_26, x18_28, evI_i, evJl_i, evJf_i, evJd_i, evA_r, evA_n, evA_q, evLk_c, evS1_d, evS2_d, evFl_n, evFl_c, evGl_n, evGl_c, evIn_n, evIn_c, evCat_i, evCat_l, evCat_f, evCat_d, evCat_r, evCat_z, evCat_q, evBd_some, evTl_s, evTl_n, va_rf_s, va_rf_n, and_true, true_and, and_false, false_and, if_true, if_false, not_true_eq_false, not_false_eq_true, reduceCtorEq, ↓reduceIte, Nat.reduceAdd, Nat.reduceEqDiff, Nat.reduceLT, Nat.reduceLeDiff, Nat.reduceSub, Nat.zero_ne_one, Nat.one_ne_zero, q0, q1, r1, q2, r2, q3, r3, q4, r4, q5, q6, r6, f0, f6, f7, f8, f9, f10, pv_H1, pv_H2, pv_H3, pv_H4, pv_H5, pv_St, pv_Rc, pv_Rr, ps_H1, ps_H2, ps_H3, ps_H4, ps_H5, ps_St, ps_Rc, ps_Rr, h1, h1', h2, h2', h3, h3', or_self]
      · have h3' : v 1 4 0 + x ≤ 9999 := Int32.not_lt.mp h3
        obtain ⟨c, hc, rfl⟩ := nI_of2 (M := 99) (n := 99) rfl (fun z => h1 (Int32.lt_trans z (by decide))) h2'
        rw [nI_cl c (by omega)]
        have loop := loop_up (G := fun j => evX 18 33 [(0, .ref b), (1, .int (nI c)), (2, .int (passV n v j).2), (3, .int (nI j))] [] h (putV m b (passV n v j).1)) (n := c) (fun j hj => by
          have hlt : ¬ nI c ≤ nI j := nI_ge hj (by omega)
          have hs : nI j + 1 = nI (j + 1) := (nI_succ j).symm
          have hnj : n * j ≤ 6 * 99 := Nat.mul_le_mul hv.2.1 (by omega)
          obtain ⟨t1, o1, o2⟩ := okV_pass (k := j) hv (by omega)
          have pl := c_play (m := m) hH o1 (by have := hv.2.1; omega)
          rw [passV_s]
          conv => lhs; rw [x18_33]
          cases he : (playV n (passV n v j).1).2 <;>
            simp only [x18_34, x18_35, x18_38, x18_39, x18_42, x18_45, x18_48, x18_51, evI_i, evJl_i, evJf_i, evJd_i, evA_r, evA_n, evA_q, evLk_c, evS1_d, evS2_d, evFl_n, evFl_c, evGl_n, evGl_c, evIn_n, evIn_c, evCat_i, evCat_l, evCat_f, evCat_d, evCat_r, evCat_z, evCat_q, evBd_some, evTl_s, evTl_n, va_rf_s, va_rf_n, and_true, true_and, and_false, false_and, if_true, if_false, not_true_eq_false, not_false_eq_true, reduceCtorEq, ↓reduceIte, Nat.reduceAdd, Nat.reduceEqDiff, Nat.reduceLT, Nat.reduceLeDiff, Nat.reduceSub, Nat.zero_ne_one, Nat.one_ne_zero, q0, q1, r1, q2, r2, q3, r3, q4, r4, q5, q6, r6, f0, f6, f7, f8, f9, f10, hlt, pl, he, evBl_f, evBl_t, hs, show ¬ (1 : Int32) = 0 by decide, Bool.false_eq_true])
        have start : evX 18 0 [(0, .ref b), (1, .int (nI c))] [] h (putV m b v) = evX 18 33 [(0, .ref b), (1, .int (nI c)), (2, .int (passV n v 0).2), (3, .int (nI 0))] [] h (putV m b (passV n v 0).1) := by
          simp only [x18_0, x18_1, x18_2, x18_5, x18_6, x18_8, x18_11, x18_13, x18_14, x18_15, x18_18, x18_19, x18_20, x18_23, x18_26, x18_28, x18_29, x18_30, x18_31, x18_32, evI_i, evJl_i, evJf_i, evJd_i, evA_r, evA_n, evA_q, evLk_c, evS1_d, evS2_d, evFl_n, evFl_c, evGl_n, evGl_c, evIn_n, evIn_c, evCat_i, evCat_l, evCat_f, evCat_d, evCat_r, evCat_z, evCat_q, evBd_some, evTl_s, evTl_n, va_rf_s, va_rf_n, and_true, true_and, and_false, false_and, if_true, if_false, not_true_eq_false, not_false_eq_true, reduceCtorEq, ↓reduceIte, Nat.reduceAdd, Nat.reduceEqDiff, Nat.reduceLT, Nat.reduceLeDiff, Nat.reduceSub, Nat.zero_ne_one, Nat.one_ne_zero, q0, q1, r1, q2, r2, q3, r3, q4, r4, q5, q6, r6, f0, f6, f7, f8, f9, f10, pv_H1, pv_H2, pv_H3, pv_H4, pv_H5, pv_St, pv_Rc, pv_Rr, ps_H1, ps_H2, ps_H3, ps_H4, ps_H5, ps_St, ps_Rc, ps_Rr, h1, h1', h2, h2', h3, h3']
          rfl
        rw [start]
        refine loop.trans ?_
        have hge : nI c ≤ nI c := Int32.le_refl _
        simp only [x18_33, x18_34, x18_35, x18_38, x18_39, x18_42, x18_45, x18_48, x18_51, x18_54, x18_55, evI_i, evJl_i, evJf_i, evJd_i, evA_r, evA_n, evA_q, evLk_c, evS1_d, evS2_d, evFl_n, evFl_c, evGl_n, evGl_c, evIn_n, evIn_c, evCat_i, evCat_l, evCat_f, evCat_d, evCat_r, evCat_z, evCat_q, evBd_some, evTl_s, evTl_n, va_rf_s, va_rf_n, and_true, true_and, and_false, false_and, if_true, if_false, not_true_eq_false, not_false_eq_true, reduceCtorEq, ↓reduceIte, Nat.reduceAdd, Nat.reduceEqDiff, Nat.reduceLT, Nat.reduceLeDiff, Nat.reduceSub, Nat.zero_ne_one, Nat.one_ne_zero, hge, h1, h2, h3, or_self]
def hasV (v : evVt) : Bool := !decide (v 1 3 0 = -6) || decide (v 1 2 0 < v 1 1 0)
/-- at most k rounds, as long as a lot runs or waits -/
def outV (n : Nat) (v : evVt) : Nat → evVt
  | 0 => v
  | k + 1 => if hasV (outV n v k) = true then (playV n (outV n v k)).1 else outV n v k
theorem outV_s (n k : Nat) : outV n v (k + 1) = if hasV (outV n v k) = true then (playV n (outV n v k)).1 else outV n v k := rfl
theorem outV_stop {n k : Nat} (hs : hasV (outV n v k) = false) : ∀ d, outV n v (k + d) = outV n v k := by
  intro d
  induction d with
  | zero => rfl
  | succ d ih => rw [← Nat.add_assoc, outV_s, ih, hs]; rfl
theorem okV_out {n m' t k : Nat} (hv : okV v n m' t) (ht : t + n * k < 2 ^ 30) : ∃ t', okV (outV n v k) n m' t' ∧ t' ≤ t + n * k := by
  induction k with
  | zero => exact ⟨t, hv, Nat.le_refl _⟩
  | succ k ih =>
    rw [Nat.mul_succ] at ht
    obtain ⟨t1, h1, h2⟩ := ih (by omega)
    rw [outV_s]
    split
    · obtain ⟨t2, h3, h4⟩ := okV_play h1 (by omega)
      exact ⟨t2, h3, by rw [Nat.mul_succ]; omega⟩
    · exact ⟨t1, h1, by rw [Nat.mul_succ]; omega⟩
set_option maxHeartbeats 1000000 in
theorem c_playOut (hH : evHall h b) {n k t c : Nat} (hv : okV v n k t) (hc : c ≤ 1000) (ht : t + 6000 < 2 ^ 30) : evX 19 0 [(0, .ref b), (1, .int (nI c))] [] h (putV m b v) = some (none, h, putV m b (outV n v c)) := by
  obtain ⟨q0, ⟨q1, r1⟩, ⟨q2, r2⟩, ⟨q3, r3⟩, ⟨q4, r4⟩, q5, ⟨q6, r6⟩, q7, q8, q9, f0, f6, f7, f8, f9, f10⟩ := id hH
  have start : evX 19 0 [(0, .ref b), (1, .int (nI c))] [] h (putV m b v) = evX 19 2 [(0, .ref b), (1, .int (nI c)), (2, .int (nI 0))] [] h (putV m b (outV n v 0)) := by
    simp only [x19_0, x19_1, evI_i, evJl_i, evJf_i, evJd_i, evA_r, evA_n, evA_q, evLk_c, evS1_d, evS2_d, evFl_n, evFl_c, evGl_n, evGl_c, evIn_n, evIn_c, evCat_i, evCat_l, evCat_f, evCat_d, evCat_r, evCat_z, evCat_q, evBd_some, evTl_s, evTl_n, va_rf_s, va_rf_n, and_true, true_and, and_false, false_and, if_true, if_false, not_true_eq_false, not_false_eq_true, reduceCtorEq, ↓reduceIte, Nat.reduceAdd, Nat.reduceEqDiff, Nat.reduceLT, Nat.reduceLeDiff, Nat.reduceSub, Nat.zero_ne_one, Nat.one_ne_zero]
    rfl
  rw [start]
  refine loop_dn (G := fun j => evX 19 2 [(0, .ref b), (1, .int (nI c)), (2, .int (nI j))] [] h (putV m b (outV n v j))) (n := c) (fun j hj => ?_) ?_
  · have hlt : ¬ nI c ≤ nI j := nI_ge hj (by omega)
    have hs : nI j + 1 = nI (j + 1) := (nI_succ j).symm
    have hnj : n * j ≤ 6 * 999 := Nat.mul_le_mul hv.2.1 (by omega)
    obtain ⟨t1, o1, o2⟩ := okV_out (k := j) hv (by omega)
    have hl := c_hasLots (m := m) (v := outV n v j) hH
    rw [show (!decide (outV n v j 1 3 0 = -6) || decide (outV n v j 1 2 0 < outV n v j 1 1 0)) = hasV (outV n v j) from rfl] at hl
    cases hh : hasV (outV n v j)
    · right
      have := outV_stop hh (c - j)
      rw [show j + (c - j) = c by omega] at this
      rw [this]
      simp only [x19_2, x19_3, x19_4, x19_7, x19_8, x19_11, x19_14, x19_15, x19_18, x19_19, x19_22, x19_25, evI_i, evJl_i, evJf_i, evJd_i, evA_r, evA_n, evA_q, evLk_c, evS1_d, evS2_d, evFl_n, evFl_c, evGl_n, evGl_c, evIn_n, evIn_c, evCat_i, evCat_l, evCat_f, evCat_d, evCat_r, evCat_z, evCat_q, evBd_some, evTl_s, evTl_n, va_rf_s, va_rf_n, and_true, true_and, and_false, false_and, if_true, if_false, not_true_eq_false, not_false_eq_true, reduceCtorEq, ↓reduceIte, Nat.reduceAdd, Nat.reduceEqDiff, Nat.reduceLT, Nat.reduceLeDiff, Nat.reduceSub, Nat.zero_ne_one, Nat.one_ne_zero, q0, q1, r1, q2, r2, q3, r3, q4, r4, q5, q6, r6, f0, f6, f7, f8, f9, f10, hlt, hl, hh, evBl_f]
    · left
      have pl := c_play (m := m) hH o1 (by have := hv.2.1; omega)
      rw [outV_s, if_pos hh]
      conv => lhs; rw [x19_2]
      cases he : (playV n (outV n v j)).2 <;>
        simp only [x19_3, x19_4, x19_7, x19_8, x19_11, x19_14, x19_15, x19_18, x19_19, x19_22, evI_i, evJl_i, evJf_i, evJd_i, evA_r, evA_n, evA_q, evLk_c, evS1_d, evS2_d, evFl_n, evFl_c, evGl_n, evGl_c, evIn_n, evIn_c, evCat_i, evCat_l, evCat_f, evCat_d, evCat_r, evCat_z, evCat_q, evBd_some, evTl_s, evTl_n, va_rf_s, va_rf_n, and_true, true_and, and_false, false_and, if_true, if_false, not_true_eq_false, not_false_eq_true, reduceCtorEq, ↓reduceIte, Nat.reduceAdd, Nat.reduceEqDiff, Nat.reduceLT, Nat.reduceLeDiff, Nat.reduceSub, Nat.zero_ne_one, Nat.one_ne_zero, q0, q1, r1, q2, r2, q3, r3, q4, r4, q5, q6, r6, f0, f6, f7, f8, f9, f10, hlt, hl, hh, pl, evBl_t, hs, show ¬ (1 : Int32) = 0 by decide]
  · have hge : nI c ≤ nI c := Int32.le_refl _
    simp only [x19_2, x19_3, x19_4, x19_7, x19_8, x19_11, x19_14, x19_15, x19_18, x19_19, x19_22, x19_25, evI_i, evJl_i, evJf_i, evJd_i, evA_r, evA_n, evA_q, evLk_c, evS1_d, evS2_d, evFl_n, evFl_c, evGl_n, evGl_c, evIn_n, evIn_c, evCat_i, evCat_l, evCat_f, evCat_d, evCat_r, evCat_z, evCat_q, evBd_some, evTl_s, evTl_n, va_rf_s, va_rf_n, and_true, true_and, and_false, false_and, if_true, if_false, not_true_eq_false, not_false_eq_true, reduceCtorEq, ↓reduceIte, Nat.reduceAdd, Nat.reduceEqDiff, Nat.reduceLT, Nat.reduceLeDiff, Nat.reduceSub, Nat.zero_ne_one, Nat.one_ne_zero, hge]
end PL
