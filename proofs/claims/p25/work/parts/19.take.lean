/-! the bids of a round -/
section TK
variable {h : evH} {m : evM} {b : Nat} {v : evVt}
/-- what bidder k bids -/
def bidC (q k : Nat) (v : evVt) : Int32 := chB v k (nI k) (v 4 q 0) (blP v k 0) (blP v k 1)
/-- the state and 'quiet' behind the first k bidders -/
def tkV (q : Nat) (bf : Int32) (v : evVt) : Nat → evVt × Bool
  | 0 => (v, true)
  | k + 1 => if 0 < bidC q k (tkV q bf v k).1 then
      (noteV (vs (tkV q bf v k).1 2 k 2 0) k (nI k) (bidC q k (tkV q bf v k).1) (if bf < bidC q k (tkV q bf v k).1 then 0 else 1) ((tkV q bf v k).1 7 0 0).toNatClampNeg, false)
    else (vs (tkV q bf v k).1 2 k 2 0, (tkV q bf v k).2)
theorem noteV_o {k : Nat} {x y z : Int32} {t a i j : Nat} (h2 : a ≠ 2) (h3 : a ≠ 3) (h7 : a ≠ 7) (h8 : a ≠ 8) : noteV v k x y z t a i j = v a i j := by
  unfold noteV
  split <;> simp only [vs_at, h2, h3, h7, h8, false_and, if_false]
theorem noteV_7 {k : Nat} {x y z : Int32} {t : Nat} : noteV v k x y z t 7 0 0 = nI (t + 1) := by
  unfold noteV
  simp only [vs_at, and_self, if_true]
theorem tkV_o {q k a i j : Nat} {bf : Int32} (h2 : a ≠ 2) (h3 : a ≠ 3) (h7 : a ≠ 7) (h8 : a ≠ 8) : (tkV q bf v k).1 a i j = v a i j := by
  induction k with
  | zero => rfl
  | succ k ih =>
    unfold tkV
    split
    · exact (noteV_o h2 h3 h7 h8).trans (by simp only [vs_at, h2, false_and, if_false]; exact ih)
    · show vs _ 2 k 2 0 a i j = _
      simp only [vs_at, h2, false_and, if_false]
      exact ih
theorem tkV_t {q k t : Nat} {bf : Int32} (ht : v 7 0 0 = nI t) (ht2 : t + k < 2 ^ 30) : ∃ t', (tkV q bf v k).1 7 0 0 = nI t' ∧ t' ≤ t + k := by
  induction k with
  | zero => exact ⟨t, ht, Nat.le_refl _⟩
  | succ k ih =>
    obtain ⟨t', h1, h2⟩ := ih (by omega)
    unfold tkV
    split
    · refine ⟨t' + 1, ?_, by omega⟩
      dsimp only
      rw [noteV_7, h1, nI_cl t' (by omega)]
    · refine ⟨t', ?_, by omega⟩
      show vs _ 2 k 2 0 7 0 0 = _
      rw [vs_at, if_neg (by omega)]
      exact h1
theorem tkV_s (q : Nat) (bf : Int32) (k : Nat) : tkV q bf v (k + 1) = if 0 < bidC q k (tkV q bf v k).1 then
      (noteV (vs (tkV q bf v k).1 2 k 2 0) k (nI k) (bidC q k (tkV q bf v k).1) (if bf < bidC q k (tkV q bf v k).1 then 0 else 1) ((tkV q bf v k).1 7 0 0).toNatClampNeg, false)
    else (vs (tkV q bf v k).1 2 k 2 0, (tkV q bf v k).2) := rfl
def takeV (q n : Nat) (v : evVt) : evVt :=
  let s := tkV q (v 5 q 1) v n
  let w := vs s.1 4 q 3 (s.1 4 q 3 + 1)
  echoV q n (vs w 4 q 4 (if s.2 = true then w 4 q 4 + 1 else 0))
/-- the same without the echo -/
def take0V (q n : Nat) (v : evVt) : evVt :=
  let s := tkV q (v 5 q 1) v n
  let w := vs s.1 4 q 3 (s.1 4 q 3 + 1)
  vs w 4 q 4 (if s.2 = true then w 4 q 4 + 1 else 0)
def lvT (b q : Nat) (bf : Int32) (s : evVt × Bool) (c : Int32) (k : Nat) : evL := match k with
  | 0 => [(0, .ref b), (1, .ref (hL b q)), (2, .int bf), (3, .int (evBl s.2)), (4, .int (nI 0))]
  | k + 1 => [(0, .ref b), (1, .ref (hL b q)), (2, .int bf), (3, .int (evBl s.2)), (4, .int (nI (k + 1))), (5, .ref (hB b k)), (6, .int c)]
set_option maxHeartbeats 2000000 in
theorem c_take (hH : evHall h b) {q n t : Nat} (hq : q < 8) (hn : n ≤ 6) (hv : v 1 0 0 = nI n) (ht : v 7 0 0 = nI t) (ht2 : t + n < 2 ^ 30) : evX 23 0 [(0, .ref b), (1, .ref (hL b q))] [] h (putV m b v) = some (none, h, putV m b (take0V q n v)) := by
  obtain ⟨q0, ⟨q1, r1⟩, ⟨q2, r2⟩, ⟨q3, r3⟩, ⟨q4, r4⟩, q5, ⟨q6, r6⟩, q7, q8, q9, f0, f6, f7, f8, f9, f10⟩ := id hH
  obtain ⟨l1, l2, l3, l4⟩ := q8 q hq
  have e1 : ∀ v : evVt, putV m b v (hLh b q) 1 = v 5 q 1 := fun v => pv_Lh hq (by omega)
  have g0 : ∀ v : evVt, putV m b v (hL b q) 0 = v 4 q 0 := fun v => pv_L hq (by omega)
  have g3 : ∀ v : evVt, putV m b v (hL b q) 3 = v 4 q 3 := fun v => pv_L hq (by omega)
  have g4 : ∀ v : evVt, putV m b v (hL b q) 4 = v 4 q 4 := fun v => pv_L hq (by omega)
  have s3 : ∀ (v : evVt) (x : Int32), evSetM (putV m b v) (hL b q) 3 x = putV m b (vs v 4 q 3 x) := fun v x => ps_L hq (by omega)
  have s4 : ∀ (v : evVt) (x : Int32), evSetM (putV m b v) (hL b q) 4 x = putV m b (vs v 4 q 4 x) := fun v x => ps_L hq (by omega)
  have loop := loop_up (G := fun k => evX 23 13 (lvT b q (v 5 q 1) (tkV q (v 5 q 1) v k) (bidC q (k - 1) (tkV q (v 5 q 1) v (k - 1)).1) k) [] h (putV m b (tkV q (v 5 q 1) v k).1)) (n := n) (fun k hk => by
    have hk6 : k < 6 := by omega
    obtain ⟨u1, u2, u3, u4⟩ := q7 k hk6
    have hw : (tkV q (v 5 q 1) v k).1 1 0 0 = nI n := (tkV_o (by omega) (by omega) (by omega) (by omega)).trans hv
    obtain ⟨t', ht1', ht2'⟩ := tkV_t (q := q) (k := k) (bf := v 5 q 1) ht (by omega)
    have hlt : ¬ nI n ≤ nI k := nI_ge hk (by omega)
    have hs : nI k + 1 = nI (k + 1) := (nI_succ k).symm
    have sb : ∀ (v : evVt) (x : Int32), evSetM (putV m b v) (hB b k) 2 x = putV m b (vs v 2 k 2 x) := fun v x => ps_B hk6 (by omega)
    have ht3 : vs (tkV q (v 5 q 1) v k).1 2 k 2 0 7 0 0 = nI t' := by rw [vs_at, if_neg (by omega)]; exact ht1'
    have note := fun (x y z : Int32) => c_note (m := m) hH hk6 ht3 (by omega) x y z
    have p0 : putV m b (tkV q (v 5 q 1) v k).1 (blA (tkV q (v 5 q 1) v k).1 b k) 0 = blP (tkV q (v 5 q 1) v k).1 k 0 := blP_at hk6 (by omega)
    have p1 : putV m b (tkV q (v 5 q 1) v k).1 (blA (tkV q (v 5 q 1) v k).1 b k) 1 = blP (tkV q (v 5 q 1) v k).1 k 1 := blP_at hk6 (by omega)
    have ch := c_choose (m := m) (v := (tkV q (v 5 q 1) v k).1) hH hk6 (blA_at (v := (tkV q (v 5 q 1) v k).1) hH hk6) (nI k) ((tkV q (v 5 q 1) v k).1 4 q 0)
    rw [p0, p1] at ch
    have ch' : chB (tkV q (v 5 q 1) v k).1 k (nI k) ((tkV q (v 5 q 1) v k).1 4 q 0) (blP (tkV q (v 5 q 1) v k).1 k 0) (blP (tkV q (v 5 q 1) v k).1 k 1) = bidC q k (tkV q (v 5 q 1) v k).1 := rfl
    rw [ch'] at ch
    show _ = evX 23 13 [(0, .ref b), (1, .ref (hL b q)), (2, .int (v 5 q 1)), (3, .int (evBl (tkV q (v 5 q 1) v (k + 1)).2)), (4, .int (nI (k + 1))), (5, .ref (hB b k)), (6, .int (bidC q k (tkV q (v 5 q 1) v k).1))] [] h (putV m b (tkV q (v 5 q 1) v (k + 1)).1)
    rw [tkV_s, ht1', nI_cl t' (by omega)]
    generalize hcc : bidC q k (tkV q (v 5 q 1) v k).1 = cc at ch ⊢
    by_cases h1 : 0 < cc
    · have h1' : ¬ cc ≤ 0 := fun z => i32_ff z h1
      by_cases h2 : v 5 q 1 < cc
      · cases k <;>
          (conv => lhs; unfold lvT; rw [x23_13]) <;>
          simp only [x23_0, x23_1, x23_4, x23_7, x23_8, x23_9, x23_10, x23_11, x23_15, x23_16, x23_19, x23_22, x23_23, x23_25, x23_28, x23_28n, x23_28q, x23_30, x23_32n, x23_32, x23_32q, x23_35, x23_36, x23_38, x23_40, x23_41, x23_44, x23_45, x23_47, x23_50, x23_53, x23_55, x23_57, x23_58, x23_61, x23_63, x23_66, x23_67, x23_69, x23_71, x23_73, x23_75, x23_76, x23_79, x23_80, x23_83, x23_84, x23_87, x23_88, x23_89, x23_92, x23_95, x23_96, x23_97, x23_100, x23_101, x23_102, x23_105, x23_106, x23_107, x23_110, x23_111, x23_114, x23_115, x23_116, x23_119, x23_120, x23_123, evI_i, evJl_i, evJf_i, evJd_i, evA_r, evA_n, evA_q, evLk_c, evS1_d, evS2_d, evFl_n, evFl_c, evGl_n, evGl_c, evIn_n, evIn_c, evCat_i, evCat_l, evCat_f, evCat_d, evCat_r, evCat_z, evCat_q, evBd_some, evTl_s, evTl_n, va_rf_s, va_rf_n, and_true, true_and, and_false, false_and, if_true, if_false, not_true_eq_false, not_false_eq_true, reduceCtorEq, ↓reduceIte, Nat.reduceAdd, Nat.reduceEqDiff, Nat.reduceLT, Nat.reduceLeDiff, Nat.reduceSub, Nat.zero_ne_one, Nat.one_ne_zero, q0, q1, r1, q2, r2, q3, r3, q4, r4, q5, q6, r6, f0, f6, f7, f8, f9, f10, pv_H1, pv_H2, pv_H3, pv_H4, pv_H5, pv_St, pv_Rc, pv_Rr, ps_H1, ps_H2, ps_H3, ps_H4, ps_H5, ps_St, ps_Rc, ps_Rr, hw, hlt, c_bidderAt hH, bAt_in hk hn hw, u1, u2, u4, l1, l2, l4, g0, c_believed hH hk6, ch, sb, h1, h1', h2, note, hs, evBl_f]
      · have h2' : cc ≤ v 5 q 1 := Int32.not_lt.mp h2
        cases k <;>
          (conv => lhs; unfold lvT; rw [x23_13]) <;>
          simp only [x23_0, x23_1, x23_4, x23_7, x23_8, x23_9, x23_10, x23_11, x23_15, x23_16, x23_19, x23_22, x23_23, x23_25, x23_28, x23_28n, x23_28q, x23_30, x23_32n, x23_32, x23_32q, x23_35, x23_36, x23_38, x23_40, x23_41, x23_44, x23_45, x23_47, x23_50, x23_53, x23_55, x23_57, x23_58, x23_61, x23_63, x23_66, x23_67, x23_69, x23_71, x23_73, x23_75, x23_76, x23_79, x23_80, x23_83, x23_84, x23_87, x23_88, x23_89, x23_92, x23_95, x23_96, x23_97, x23_100, x23_101, x23_102, x23_105, x23_106, x23_107, x23_110, x23_111, x23_114, x23_115, x23_116, x23_119, x23_120, x23_123, evI_i, evJl_i, evJf_i, evJd_i, evA_r, evA_n, evA_q, evLk_c, evS1_d, evS2_d, evFl_n, evFl_c, evGl_n, evGl_c, evIn_n, evIn_c, evCat_i, evCat_l, evCat_f, evCat_d, evCat_r, evCat_z, evCat_q, evBd_some, evTl_s, evTl_n, va_rf_s, va_rf_n, and_true, true_and, and_false, false_and, if_true, if_false, not_true_eq_false, not_false_eq_true, reduceCtorEq, ↓reduceIte, Nat.reduceAdd, Nat.reduceEqDiff, Nat.reduceLT, Nat.reduceLeDiff, Nat.reduceSub, Nat.zero_ne_one, Nat.one_ne_zero, q0, q1, r1, q2, r2, q3, r3, q4, r4, q5, q6, r6, f0, f6, f7, f8, f9, f10, pv_H1, pv_H2, pv_H3, pv_H4, pv_H5, pv_St, pv_Rc, pv_Rr, ps_H1, ps_H2, ps_H3, ps_H4, ps_H5, ps_St, ps_Rc, ps_Rr, hw, hlt, c_bidderAt hH, bAt_in hk hn hw, u1, u2, u4, l1, l2, l4, g0, c_believed hH hk6, ch, sb, h1, h1', h2, h2', note, hs, evBl_f]
    · have h1' : cc ≤ 0 := Int32.not_lt.mp h1
      cases k <;>
        (conv => lhs; unfold lvT; rw [x23_13]) <;>
        simp only [x23_0, x23_1, x23_4, x23_7, x23_8, x23_9, x23_10, x23_11, x23_15, x23_16, x23_19, x23_22, x23_23, x23_25, x23_28, x23_28n, x23_28q, x23_30, x23_32n, x23_32, x23_32q, x23_35, x23_36, x23_38, x23_40, x23_41, x23_44, x23_45, x23_47, x23_50, x23_53, x23_55, x23_57, x23_58, x23_61, x23_63, x23_66, x23_67, x23_69, x23_71, x23_73, x23_75, x23_76, x23_79, x23_80, x23_83, x23_84, x23_87, x23_88, x23_89, x23_92, x23_95, x23_96, x23_97, x23_100, x23_101, x23_102, x23_105, x23_106, x23_107, x23_110, x23_111, x23_114, x23_115, x23_116, x23_119, x23_120, x23_123, evI_i, evJl_i, evJf_i, evJd_i, evA_r, evA_n, evA_q, evLk_c, evS1_d, evS2_d, evFl_n, evFl_c, evGl_n, evGl_c, evIn_n, evIn_c, evCat_i, evCat_l, evCat_f, evCat_d, evCat_r, evCat_z, evCat_q, evBd_some, evTl_s, evTl_n, va_rf_s, va_rf_n, and_true, true_and, and_false, false_and, if_true, if_false, not_true_eq_false, not_false_eq_true, reduceCtorEq, ↓reduceIte, Nat.reduceAdd, Nat.reduceEqDiff, Nat.reduceLT, Nat.reduceLeDiff, Nat.reduceSub, Nat.zero_ne_one, Nat.one_ne_zero, q0, q1, r1, q2, r2, q3, r3, q4, r4, q5, q6, r6, f0, f6, f7, f8, f9, f10, pv_H1, pv_H2, pv_H3, pv_H4, pv_H5, pv_St, pv_Rc, pv_Rr, ps_H1, ps_H2, ps_H3, ps_H4, ps_H5, ps_St, ps_Rc, ps_Rr, hw, hlt, c_bidderAt hH, bAt_in hk hn hw, u1, u2, u4, l1, l2, l4, g0, c_believed hH hk6, ch, sb, h1, h1', hs])
  have start : evX 23 0 [(0, .ref b), (1, .ref (hL b q))] [] h (putV m b v) = evX 23 13 (lvT b q (v 5 q 1) (tkV q (v 5 q 1) v 0) (bidC q (0 - 1) (tkV q (v 5 q 1) v (0 - 1)).1) 0) [] h (putV m b (tkV q (v 5 q 1) v 0).1) := by
    simp only [x23_0, x23_1, x23_4, x23_7, x23_8, x23_9, x23_10, x23_11, evI_i, evJl_i, evJf_i, evJd_i, evA_r, evA_n, evA_q, evLk_c, evS1_d, evS2_d, evFl_n, evFl_c, evGl_n, evGl_c, evIn_n, evIn_c, evCat_i, evCat_l, evCat_f, evCat_d, evCat_r, evCat_z, evCat_q, evBd_some, evTl_s, evTl_n, va_rf_s, va_rf_n, and_true, true_and, and_false, false_and, if_true, if_false, not_true_eq_false, not_false_eq_true, reduceCtorEq, ↓reduceIte, Nat.reduceAdd, Nat.reduceEqDiff, Nat.reduceLT, Nat.reduceLeDiff, Nat.reduceSub, Nat.zero_ne_one, Nat.one_ne_zero, l1, l2, l4, e1]
    rfl
  rw [start]
  refine loop.trans ?_
  have hw : (tkV q (v 5 q 1) v n).1 1 0 0 = nI n := (tkV_o (by omega) (by omega) (by omega) (by omega)).trans hv
  have hge : nI n ≤ nI n := Int32.le_refl _
  show evX 23 13 (lvT b q (v 5 q 1) (tkV q (v 5 q 1) v n) (bidC q (n - 1) (tkV q (v 5 q 1) v (n - 1)).1) n) [] h (putV m b (tkV q (v 5 q 1) v n).1) = _
  unfold take0V
  dsimp only
  cases hq2 : (tkV q (v 5 q 1) v n).2 <;> cases n <;>
    (unfold lvT; simp only [x23_0, x23_1, x23_4, x23_7, x23_8, x23_9, x23_10, x23_11, x23_13, x23_15, x23_16, x23_19, x23_22, x23_23, x23_25, x23_28, x23_28n, x23_28q, x23_30, x23_32n, x23_32, x23_32q, x23_35, x23_36, x23_38, x23_40, x23_41, x23_44, x23_45, x23_47, x23_50, x23_53, x23_55, x23_57, x23_58, x23_61, x23_63, x23_66, x23_67, x23_69, x23_71, x23_73, x23_75, x23_76, x23_79, x23_80, x23_83, x23_84, x23_87, x23_88, x23_89, x23_92, x23_95, x23_96, x23_97, x23_100, x23_101, x23_102, x23_105, x23_106, x23_107, x23_110, x23_111, x23_114, x23_115, x23_116, x23_119, x23_120, x23_123, evI_i, evJl_i, evJf_i, evJd_i, evA_r, evA_n, evA_q, evLk_c, evS1_d, evS2_d, evFl_n, evFl_c, evGl_n, evGl_c, evIn_n, evIn_c, evCat_i, evCat_l, evCat_f, evCat_d, evCat_r, evCat_z, evCat_q, evBd_some, evTl_s, evTl_n, va_rf_s, va_rf_n, and_true, true_and, and_false, false_and, if_true, if_false, not_true_eq_false, not_false_eq_true, reduceCtorEq, ↓reduceIte, Nat.reduceAdd, Nat.reduceEqDiff, Nat.reduceLT, Nat.reduceLeDiff, Nat.reduceSub, Nat.zero_ne_one, Nat.one_ne_zero, q0, q1, r1, q2, r2, q3, r3, q4, r4, q5, q6, r6, f0, f6, f7, f8, f9, f10, pv_H1, pv_H2, pv_H3, pv_H4, pv_H5, pv_St, pv_Rc, pv_Rr, ps_H1, ps_H2, ps_H3, ps_H4, ps_H5, ps_St, ps_Rc, ps_Rr, hw, hge, l1, l2, l4, g0, g3, g4, s3, s4, hq2, evBl_f, evBl_t, show ¬ (1 : Int32) = 0 by decide, Bool.false_eq_true, vs_at, and_self])
end TK
