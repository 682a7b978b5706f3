/-! copies of halls -/
theorem hloc_rng {o j : Nat} {q : Nat × Nat × Nat} (h : hloc o j = some q) : (q.1 = 0 ∧ q.2.1 < 4 ∧ q.2.2 = 0) ∨ (q.1 = 1 ∧ q.2.1 < 5 ∧ q.2.2 = 0) ∨ (q.1 = 2 ∧ q.2.1 < 6 ∧ q.2.2 < 8) ∨ (q.1 = 3 ∧ q.2.1 < 6 ∧ q.2.2 < 3) ∨ (q.1 = 4 ∧ q.2.1 < 8 ∧ q.2.2 < 5) ∨ (q.1 = 5 ∧ q.2.1 < 8 ∧ q.2.2 < 3) ∨ (q.1 = 6 ∧ q.2.1 < 6 ∧ q.2.2 < 3) ∨ (q.1 = 7 ∧ q.2.1 = 0 ∧ q.2.2 = 0) ∨ (q.1 = 8 ∧ q.2.1 < 160 ∧ q.2.2 = 0) := by
  unfold hloc at h
  repeat' split at h
  all_goals first
    | (cases h; done)
    | (cases h; simp only [Nat.reduceEqDiff, false_and, false_or, or_false, true_and, and_true, Nat.zero_ne_one, Nat.one_ne_zero]; done)
    | (cases h; simp only [Nat.reduceEqDiff, false_and, false_or, or_false, true_and, and_true, Nat.zero_ne_one, Nat.one_ne_zero]; omega)
/-- kind t (and u) of number k comes from w -/
def bcp (v w : evVt) (t u k : Nat) : evVt := fun t' i' j' => if (t' = t ∨ t' = u) ∧ i' = k then w t' i' j' else v t' i' j'
/-- kind t (and u), all numbers below k, come from w -/
def bcV (v w : evVt) (t u k : Nat) : evVt := fun t' i' j' => if (t' = t ∨ t' = u) ∧ i' < k then w t' i' j' else v t' i' j'
theorem bcV_0 (v w : evVt) (t u : Nat) : bcV v w t u 0 = v := by
  funext t' i' j'
  unfold bcV
  rw [if_neg (by omega)]
theorem bcV_s (v w : evVt) (t u k : Nat) : bcp (bcV v w t u k) w t u k = bcV v w t u (k + 1) := by
  funext t' i' j'
  unfold bcp bcV
  by_cases h : t' = t ∨ t' = u
  · by_cases h1 : i' = k
    · rw [if_pos ⟨h, h1⟩, if_pos ⟨h, by omega⟩]
    · rw [if_neg (fun z => h1 z.2)]
      by_cases h2 : i' < k
      · rw [if_pos ⟨h, h2⟩, if_pos ⟨h, by omega⟩]
      · rw [if_neg (fun z => h2 z.2), if_neg (by omega)]
  · rw [if_neg (fun z => h z.1), if_neg (fun z => h z.1), if_neg (fun z => h z.1)]
section CP
variable {h : evH} {m : evM} {b c : Nat} {v w : evVt}
theorem pp_H1 (hap : b + 41 ≤ c ∨ c + 41 ≤ b) : putV (putV m c w) b v c 1 = w 1 0 0 := putV_past (o := 0) hap (by omega) rfl
theorem pp_H2 (hap : b + 41 ≤ c ∨ c + 41 ≤ b) : putV (putV m c w) b v c 2 = w 1 1 0 := putV_past (o := 0) hap (by omega) rfl
theorem pp_H3 (hap : b + 41 ≤ c ∨ c + 41 ≤ b) : putV (putV m c w) b v c 3 = w 1 2 0 := putV_past (o := 0) hap (by omega) rfl
theorem pp_H4 (hap : b + 41 ≤ c ∨ c + 41 ≤ b) : putV (putV m c w) b v c 4 = w 1 3 0 := putV_past (o := 0) hap (by omega) rfl
theorem pp_H5 (hap : b + 41 ≤ c ∨ c + 41 ≤ b) : putV (putV m c w) b v c 5 = w 1 4 0 := putV_past (o := 0) hap (by omega) rfl
theorem pp_Rc (hap : b + 41 ≤ c ∨ c + 41 ≤ b) : putV (putV m c w) b v (hRc c) 1 = w 7 0 0 := putV_past (o := 5) hap (by omega) rfl
theorem pp_B {k j : Nat} (hap : b + 41 ≤ c ∨ c + 41 ≤ b) (hk : k < 6) (hj : j < 8) : putV (putV m c w) b v (hB c k) j = w 2 k j := putV_past hap (by omega) (hloc_B hk hj)
theorem pp_Bb {k j : Nat} (hap : b + 41 ≤ c ∨ c + 41 ≤ b) (hk : k < 6) (hj : j < 3) : putV (putV m c w) b v (hBb c k) j = w 3 k j := putV_past hap (by omega) (hloc_Bb hk hj)
theorem pp_L {k j : Nat} (hap : b + 41 ≤ c ∨ c + 41 ≤ b) (hk : k < 8) (hj : j < 5) : putV (putV m c w) b v (hL c k) j = w 4 k j := putV_past hap (by omega) (hloc_L hk hj)
theorem pp_Lh {k j : Nat} (hap : b + 41 ≤ c ∨ c + 41 ≤ b) (hk : k < 8) (hj : j < 3) : putV (putV m c w) b v (hLh c k) j = w 5 k j := putV_past hap (by omega) (hloc_Lh hk hj)
theorem pp_E {k j : Nat} (hap : b + 41 ≤ c ∨ c + 41 ≤ b) (hk : k < 6) (hj : j < 3) : putV (putV m c w) b v (hE c k) j = w 6 k j := putV_past hap (by omega) (hloc_E hk hj)
set_option maxHeartbeats 1000000 in
theorem c_BidderCopy (hH : evHall h b) (hG : evHall h c) (hap : b + 41 ≤ c ∨ c + 41 ≤ b) {k : Nat} (hk : k < 6) : evX 6 0 [(0, .ref (hB b k)), (1, .ref (hB c k))] [] h (putV (putV m c w) b v) = some (none, h, putV (putV m c w) b (bcp v w 2 3 k)) := by
  obtain ⟨u1, u2, u3, u4⟩ := hH.2.2.2.2.2.2.2.1 k hk
  obtain ⟨w1, w2, w3, w4⟩ := hG.2.2.2.2.2.2.2.1 k hk
  have s : ∀ (v : evVt) (j : Nat) (x : Int32), j < 8 → evSetM (putV (putV m c w) b v) (hB b k) j x = putV (putV m c w) b (vs v 2 k j x) := fun v j x hj => ps_B hk hj
  have g : ∀ (v : evVt) (j : Nat), j < 8 → putV (putV m c w) b v (hB c k) j = w 2 k j := fun v j hj => pp_B hap hk hj
  have g3 : ∀ (v : evVt) (j : Nat), j < 3 → putV (putV m c w) b v (hBb c k) j = w 3 k j := fun v j hj => pp_Bb hap hk hj
  simp only [x6_0, x6_1, x6_2, x6_5, x6_8, x6_9, x6_10, x6_13, x6_16, x6_17, x6_18, x6_21, x6_24, x6_25, x6_26, x6_29, x6_32, x6_33, x6_34, x6_37, x6_40, x6_41, x6_42, x6_45, x6_48, x6_49, x6_50, x6_53, x6_56, x6_57, x6_58, x6_61, x6_64, x6_65, x6_68, x6_69, x6_72, x6_75, evI_i, evJl_i, evJf_i, evJd_i, evA_r, evA_n, evA_q, evLk_c, evS1_d, evS2_d, evFl_n, evFl_c, evGl_n, evGl_c, evIn_n, evIn_c, evCat_i, evCat_l, evCat_f, evCat_d, evCat_r, evCat_z, evCat_q, evBd_some, evTl_s, evTl_n, va_rf_s, va_rf_n, and_true, true_and, and_false, false_and, if_true, if_false, not_true_eq_false, not_false_eq_true, reduceCtorEq, ↓reduceIte, Nat.reduceAdd, Nat.reduceEqDiff, Nat.reduceLT, Nat.reduceLeDiff, Nat.reduceSub, Nat.zero_ne_one, Nat.one_ne_zero, u1, u2, u4, w1, w2, w4, s, g, g3, c_Bid_copy, bw_Bb hk]
  refine congrArg (fun z => some (none, h, z)) (putV_ext (fun o j q ho hq => ?_))
  have hr := hloc_rng hq
  obtain ⟨t, i, jj⟩ := q
  dsimp only at hr ⊢
  unfold bcp
  simp only [set3_at, vs_at]
  by_cases hi : i = k
  · subst hi
    rcases hr with ⟨rfl, -, -⟩ | ⟨rfl, -, -⟩ | ⟨rfl, -, hj⟩ | ⟨rfl, -, hj⟩ | ⟨rfl, -, -⟩ | ⟨rfl, -, -⟩ | ⟨rfl, -, -⟩ | ⟨rfl, -, -⟩ | ⟨rfl, -, -⟩ <;> first
      | (simp; done)
      | (have z : jj = 0 ∨ jj = 1 ∨ jj = 2 := (by omega); rcases z with rfl | rfl | rfl <;> simp; done)
      | (rcases (show jj = 0 ∨ jj = 1 ∨ jj = 2 ∨ jj = 3 ∨ jj = 4 ∨ jj = 5 ∨ jj = 6 ∨ jj = 7 by omega) with rfl | rfl | rfl | rfl | rfl | rfl | rfl | rfl <;> simp; done)
  · simp [hi]
set_option maxHeartbeats 1000000 in
theorem c_LotCopy (hH : evHall h b) (hG : evHall h c) (hap : b + 41 ≤ c ∨ c + 41 ≤ b) {k : Nat} (hk : k < 8) : evX 38 0 [(0, .ref (hL b k)), (1, .ref (hL c k))] [] h (putV (putV m c w) b v) = some (none, h, putV (putV m c w) b (bcp v w 4 5 k)) := by
  obtain ⟨u1, u2, u3, u4⟩ := hH.2.2.2.2.2.2.2.2.1 k hk
  obtain ⟨w1, w2, w3, w4⟩ := hG.2.2.2.2.2.2.2.2.1 k hk
  have s : ∀ (v : evVt) (j : Nat) (x : Int32), j < 5 → evSetM (putV (putV m c w) b v) (hL b k) j x = putV (putV m c w) b (vs v 4 k j x) := fun v j x hj => ps_L hk hj
  have g : ∀ (v : evVt) (j : Nat), j < 5 → putV (putV m c w) b v (hL c k) j = w 4 k j := fun v j hj => pp_L hap hk hj
  have g3 : ∀ (v : evVt) (j : Nat), j < 3 → putV (putV m c w) b v (hLh c k) j = w 5 k j := fun v j hj => pp_Lh hap hk hj
  simp only [x38_0, x38_1, x38_2, x38_5, x38_8, x38_9, x38_10, x38_13, x38_16, x38_17, x38_18, x38_21, x38_24, x38_25, x38_26, x38_29, x38_32, x38_33, x38_34, x38_37, x38_40, x38_41, x38_44, x38_45, x38_48, x38_51, evI_i, evJl_i, evJf_i, evJd_i, evA_r, evA_n, evA_q, evLk_c, evS1_d, evS2_d, evFl_n, evFl_c, evGl_n, evGl_c, evIn_n, evIn_c, evCat_i, evCat_l, evCat_f, evCat_d, evCat_r, evCat_z, evCat_q, evBd_some, evTl_s, evTl_n, va_rf_s, va_rf_n, and_true, true_and, and_false, false_and, if_true, if_false, not_true_eq_false, not_false_eq_true, reduceCtorEq, ↓reduceIte, Nat.reduceAdd, Nat.reduceEqDiff, Nat.reduceLT, Nat.reduceLeDiff, Nat.reduceSub, Nat.zero_ne_one, Nat.one_ne_zero, u1, u2, u4, w1, w2, w4, s, g, g3, c_Bid_copy, bw_Lh hk]
  refine congrArg (fun z => some (none, h, z)) (putV_ext (fun o j q ho hq => ?_))
  have hr := hloc_rng hq
  obtain ⟨t, i, jj⟩ := q
  dsimp only at hr ⊢
  unfold bcp
  simp only [set3_at, vs_at]
  by_cases hi : i = k
  · subst hi
    rcases hr with ⟨rfl, -, -⟩ | ⟨rfl, -, -⟩ | ⟨rfl, -, hj⟩ | ⟨rfl, -, hj⟩ | ⟨rfl, -, hj⟩ | ⟨rfl, -, hj⟩ | ⟨rfl, -, -⟩ | ⟨rfl, -, -⟩ | ⟨rfl, -, -⟩ <;> first
      | (simp; done)
      | (have z : jj = 0 ∨ jj = 1 ∨ jj = 2 := (by omega); rcases z with rfl | rfl | rfl <;> simp; done)
      | (rcases (show jj = 0 ∨ jj = 1 ∨ jj = 2 ∨ jj = 3 ∨ jj = 4 by omega) with rfl | rfl | rfl | rfl | rfl <;> simp; done)
  · simp [hi]
theorem c_EchoCopy (hH : evHall h b) (hG : evHall h c) (hap : b + 41 ≤ c ∨ c + 41 ≤ b) {k : Nat} (hk : k < 6) : evX 3 0 [(0, .ref (hE b k)), (1, .ref (hE c k))] [] h (putV (putV m c w) b v) = some (none, h, putV (putV m c w) b (bcp v w 6 6 k)) := by
  obtain ⟨u1, u2⟩ := hH.2.2.2.2.2.2.2.2.2.1 k hk
  obtain ⟨w1, w2⟩ := hG.2.2.2.2.2.2.2.2.2.1 k hk
  rw [c_Bid_copy h _ _ _ u1 w1, bw_E hk, pp_E hap hk (by omega), pp_E hap hk (by omega), pp_E hap hk (by omega)]
  refine congrArg (fun z => some (none, h, z)) (putV_ext (fun o j q ho hq => ?_))
  have hr := hloc_rng hq
  obtain ⟨t, i, jj⟩ := q
  dsimp only at hr ⊢
  unfold bcp
  simp only [set3_at]
  by_cases hi : i = k
  · subst hi
    rcases hr with ⟨rfl, -, -⟩ | ⟨rfl, -, -⟩ | ⟨rfl, -, hj⟩ | ⟨rfl, -, hj⟩ | ⟨rfl, -, hj⟩ | ⟨rfl, -, hj⟩ | ⟨rfl, -, hj⟩ | ⟨rfl, -, -⟩ | ⟨rfl, -, -⟩ <;> first
      | (simp; done)
      | (rcases (show jj = 0 ∨ jj = 1 ∨ jj = 2 by omega) with rfl | rfl | rfl <;> simp; done)
  · simp [hi]
theorem c_RecentCopy (hH : evHall h b) (hG : evHall h c) (hap : b + 41 ≤ c ∨ c + 41 ≤ b) : evX 41 0 [(0, .ref (hRc b)), (1, .ref (hRc c))] [] h (putV (putV m c w) b v) = some (none, h, putV (putV m c w) b (vs (vrow v 8 160 w) 7 0 0 (w 7 0 0))) := by
  obtain ⟨-, -, -, -, -, q5, ⟨q6, r6⟩, -, -, -, -, -, -, -, -, f10⟩ := id hH
  obtain ⟨-, -, -, -, -, p5, ⟨p6, s6⟩, -, -, -, -, -, -, -, -, g10⟩ := id hG
  have z0 : ¬ (0 : Int32) < 0 := by decide
  have z1 : ¬ (160 : Int32) < 0 := by decide
  have z2 : (0 : Int32).toNatClampNeg = 0 := by decide
  have z3 : (160 : Int32).toNatClampNeg = 160 := by decide
  have z4 : 0 + 160 ≤ 160 := by decide
  have rw1 : evRowM (putV (putV m c w) b v) (hRr b) (va_cpy (putV (putV m c w) b v (hRr c)) (putV (putV m c w) b v (hRr b)) 0 0 160) = putV (putV m c w) b (vrow v 8 160 w) :=
    putV_rowc (o := 6) hap (by omega) (fun j hj => hloc_Rr hj) (fun j hj => by unfold hloc; simp [hj]) (fun o' j' q hq h8 => by
      have hi := hloc_inv hq
      unfold hinv at hi
      rw [if_neg (by omega), if_neg (by omega), if_neg (by omega), if_neg (by omega), if_neg (by omega), if_neg (by omega), if_neg (by omega), if_neg (by omega)] at hi
      exact (congrArg Prod.fst hi).symm) rfl rfl
  simp only [x41_0, x41_1, x41_4, x41_5, x41_6, x41_9, x41_10, x41_13, x41_16, x41_17, x41_18, x41_21, x41_24, evI_i, evJl_i, evJf_i, evJd_i, evA_r, evA_n, evA_q, evLk_c, evS1_d, evS2_d, evFl_n, evFl_c, evGl_n, evGl_c, evIn_n, evIn_c, evCat_i, evCat_l, evCat_f, evCat_d, evCat_r, evCat_z, evCat_q, evBd_some, evTl_s, evTl_n, va_rf_s, va_rf_n, and_true, true_and, and_false, false_and, if_true, if_false, not_true_eq_false, not_false_eq_true, reduceCtorEq, ↓reduceIte, Nat.reduceAdd, Nat.reduceEqDiff, Nat.reduceLT, Nat.reduceLeDiff, Nat.reduceSub, Nat.zero_ne_one, Nat.one_ne_zero, q5, q6, r6, f10, p5, p6, s6, g10, z0, z1, z2, z3, z4, Nat.le_refl, rw1, pp_Rc hap, ps_Rc]
set_option maxHeartbeats 2000000 in
theorem c_copyRows (hH : evHall h b) (hG : evHall h c) (hap : b + 41 ≤ c ∨ c + 41 ≤ b) : evX 9 0 [(0, .ref b), (1, .ref c)] [] h (putV (putV m c w) b v) = some (none, h, putV (putV m c w) b (bcV (bcV (bcV v w 2 3 6) w 4 5 8) w 6 6 6)) := by
  obtain ⟨q0, ⟨q1, r1⟩, ⟨q2, r2⟩, ⟨q3, r3⟩, ⟨q4, r4⟩, q5, ⟨q6, r6⟩, q7, q8, q9, f0, f6, f7, f8, f9, f10⟩ := id hH
  obtain ⟨p0, -, ⟨p2, s2⟩, ⟨p3, s3⟩, ⟨p4, s4⟩, -, -, p7, p8, p9, -, g6, g7, g8, -, -⟩ := id hG
  have h6 : Int32.ofNat 6 = nI 6 := rfl
  have h8 : Int32.ofNat 8 = nI 8 := rfl
  have st : ∀ z : evVt, evX 9 0 [(0, .ref b), (1, .ref c)] [] h (putV (putV m c w) b z) = evX 9 2 [(0, .ref b), (1, .ref c), (2, .int (nI 0))] [] h (putV (putV m c w) b (bcV z w 2 3 0)) := by
    intro z
    rw [bcV_0]
    simp only [x9_0, x9_1, evI_i, evJl_i, evJf_i, evJd_i, evA_r, evA_n, evA_q, evLk_c, evS1_d, evS2_d, evFl_n, evFl_c, evGl_n, evGl_c, evIn_n, evIn_c, evCat_i, evCat_l, evCat_f, evCat_d, evCat_r, evCat_z, evCat_q, evBd_some, evTl_s, evTl_n, va_rf_s, va_rf_n, and_true, true_and, and_false, false_and, if_true, if_false, not_true_eq_false, not_false_eq_true, reduceCtorEq, ↓reduceIte, Nat.reduceAdd, Nat.reduceEqDiff, Nat.reduceLT, Nat.reduceLeDiff, Nat.reduceSub, Nat.zero_ne_one, Nat.one_ne_zero]
    rfl
  have loop1 := loop_up (G := fun k => evX 9 2 [(0, .ref b), (1, .ref c), (2, .int (nI k))] [] h (putV (putV m c w) b (bcV v w 2 3 k))) (n := 6) (fun k hk => by
    obtain ⟨u1, u2, u3, u4⟩ := q7 k hk
    obtain ⟨w1, w2, w3, w4⟩ := p7 k hk
    have hlt : ¬ nI 6 ≤ nI k := nI_ge hk (by omega)
    have hs : nI k + 1 = nI (k + 1) := (nI_succ k).symm
    have h0 : ¬ nI k < 0 := nI_pos (by omega)
    have hc : (nI k).toNatClampNeg = k := nI_cl k (by omega)
    rw [← bcV_s _ _ _ _ k]
    conv => lhs; rw [x9_2]
    simp only [x9_3, x9_4, x9_7s, x9_8, x9_11, x9_12, x9_13, x9_16s, x9_17, x9_20, x9_21, x9_24, x9_26n, x9_26, x9_26q, x9_29, x9_30, x9_33, x9_35n, x9_35, x9_35q, x9_38, x9_39, x9_42, x9_44, x9_45, x9_48, x9_50, x9_53, x9_56, x9_7i, x9_7b, x9_7d, x9_7h, x9_7l, x9_16i, x9_16b, x9_16d, x9_16h, x9_16l, x9_25b, x9_25d, x9_25h, x9_25l, x9_34b, x9_34d, x9_34h, x9_34l, x9_43b, x9_43d, x9_43h, x9_43l, x9_49b, x9_49d, x9_49h, x9_49l, evI_i, evJl_i, evJf_i, evJd_i, evA_r, evA_n, evA_q, evLk_c, evS1_d, evS2_d, evFl_n, evFl_c, evGl_n, evGl_c, evIn_n, evIn_c, evCat_i, evCat_l, evCat_f, evCat_d, evCat_r, evCat_z, evCat_q, evBd_some, evTl_s, evTl_n, va_rf_s, va_rf_n, and_true, true_and, and_false, false_and, if_true, if_false, not_true_eq_false, not_false_eq_true, reduceCtorEq, ↓reduceIte, Nat.reduceAdd, Nat.reduceEqDiff, Nat.reduceLT, Nat.reduceLeDiff, Nat.reduceSub, Nat.zero_ne_one, Nat.one_ne_zero, q0, q1, r1, q2, r2, q3, r3, q4, r4, q5, q6, r6, f0, f6, f7, f8, f9, f10, p0, p2, s2, g6, h6, hlt, h0, hc, hk, u1, u3, w1, w3, c_BidderCopy hH hG hap hk, hs])
  have mid1 : ∀ z : evVt, evX 9 2 [(0, .ref b), (1, .ref c), (2, .int (nI 6))] [] h (putV (putV m c w) b z) = evX 9 61 [(0, .ref b), (1, .ref c), (2, .int (nI 0))] [] h (putV (putV m c w) b (bcV z w 4 5 0)) := by
    intro z
    have hge : nI 6 ≤ nI 6 := Int32.le_refl _
    rw [bcV_0]
    simp only [x9_2, x9_3, x9_4, x9_7s, x9_8, x9_11, x9_12, x9_13, x9_16s, x9_17, x9_20, x9_21, x9_24, x9_26n, x9_26, x9_26q, x9_29, x9_30, x9_33, x9_35n, x9_35, x9_35q, x9_38, x9_39, x9_42, x9_44, x9_45, x9_48, x9_50, x9_53, x9_56, x9_59, x9_60, x9_7i, x9_7b, x9_7d, x9_7h, x9_7l, x9_16i, x9_16b, x9_16d, x9_16h, x9_16l, x9_25b, x9_25d, x9_25h, x9_25l, x9_34b, x9_34d, x9_34h, x9_34l, x9_43b, x9_43d, x9_43h, x9_43l, x9_49b, x9_49d, x9_49h, x9_49l, evI_i, evJl_i, evJf_i, evJd_i, evA_r, evA_n, evA_q, evLk_c, evS1_d, evS2_d, evFl_n, evFl_c, evGl_n, evGl_c, evIn_n, evIn_c, evCat_i, evCat_l, evCat_f, evCat_d, evCat_r, evCat_z, evCat_q, evBd_some, evTl_s, evTl_n, va_rf_s, va_rf_n, and_true, true_and, and_false, false_and, if_true, if_false, not_true_eq_false, not_false_eq_true, reduceCtorEq, ↓reduceIte, Nat.reduceAdd, Nat.reduceEqDiff, Nat.reduceLT, Nat.reduceLeDiff, Nat.reduceSub, Nat.zero_ne_one, Nat.one_ne_zero, q0, q1, r1, q2, r2, q3, r3, q4, r4, q5, q6, r6, f0, f6, f7, f8, f9, f10, h6, hge]
    rfl
  have loop2 := loop_up (G := fun k => evX 9 61 [(0, .ref b), (1, .ref c), (2, .int (nI k))] [] h (putV (putV m c w) b (bcV (bcV v w 2 3 6) w 4 5 k))) (n := 8) (fun k hk => by
    obtain ⟨u1, u2, u3, u4⟩ := q8 k hk
    obtain ⟨w1, w2, w3, w4⟩ := p8 k hk
    have hlt : ¬ nI 8 ≤ nI k := nI_ge hk (by omega)
    have hs : nI k + 1 = nI (k + 1) := (nI_succ k).symm
    have h0 : ¬ nI k < 0 := nI_pos (by omega)
    have hc : (nI k).toNatClampNeg = k := nI_cl k (by omega)
    rw [← bcV_s _ _ _ _ k]
    conv => lhs; rw [x9_61]
    simp only [x9_62, x9_63, x9_66s, x9_67, x9_70, x9_71, x9_72, x9_75s, x9_76, x9_79, x9_80, x9_83, x9_85n, x9_85, x9_85q, x9_88, x9_89, x9_92, x9_94n, x9_94, x9_94q, x9_97, x9_98, x9_101, x9_103, x9_104, x9_107, x9_109, x9_112, x9_115, x9_66i, x9_66b, x9_66d, x9_66h, x9_66l, x9_75i, x9_75b, x9_75d, x9_75h, x9_75l, x9_84b, x9_84d, x9_84h, x9_84l, x9_93b, x9_93d, x9_93h, x9_93l, x9_102b, x9_102d, x9_102h, x9_102l, x9_108b, x9_108d, x9_108h, x9_108l, evI_i, evJl_i, evJf_i, evJd_i, evA_r, evA_n, evA_q, evLk_c, evS1_d, evS2_d, evFl_n, evFl_c, evGl_n, evGl_c, evIn_n, evIn_c, evCat_i, evCat_l, evCat_f, evCat_d, evCat_r, evCat_z, evCat_q, evBd_some, evTl_s, evTl_n, va_rf_s, va_rf_n, and_true, true_and, and_false, false_and, if_true, if_false, not_true_eq_false, not_false_eq_true, reduceCtorEq, ↓reduceIte, Nat.reduceAdd, Nat.reduceEqDiff, Nat.reduceLT, Nat.reduceLeDiff, Nat.reduceSub, Nat.zero_ne_one, Nat.one_ne_zero, q0, q1, r1, q2, r2, q3, r3, q4, r4, q5, q6, r6, f0, f6, f7, f8, f9, f10, p0, p3, s3, g7, h8, hlt, h0, hc, hk, u1, u3, w1, w3, c_LotCopy hH hG hap hk, hs])
  have mid2 : ∀ z : evVt, evX 9 61 [(0, .ref b), (1, .ref c), (2, .int (nI 8))] [] h (putV (putV m c w) b z) = evX 9 120 [(0, .ref b), (1, .ref c), (2, .int (nI 0))] [] h (putV (putV m c w) b (bcV z w 6 6 0)) := by
    intro z
    have hge : nI 8 ≤ nI 8 := Int32.le_refl _
    rw [bcV_0]
    simp only [x9_61, x9_62, x9_63, x9_66s, x9_67, x9_70, x9_71, x9_72, x9_75s, x9_76, x9_79, x9_80, x9_83, x9_85n, x9_85, x9_85q, x9_88, x9_89, x9_92, x9_94n, x9_94, x9_94q, x9_97, x9_98, x9_101, x9_103, x9_104, x9_107, x9_109, x9_112, x9_115, x9_118, x9_119, x9_66i, x9_66b, x9_66d, x9_66h, x9_66l, x9_75i, x9_75b, x9_75d, x9_75h, x9_75l, x9_84b, x9_84d, x9_84h, x9_84l, x9_93b, x9_93d, x9_93h, x9_93l, x9_102b, x9_102d, x9_102h, x9_102l, x9_108b, x9_108d, x9_108h, x9_108l, evI_i, evJl_i, evJf_i, evJd_i, evA_r, evA_n, evA_q, evLk_c, evS1_d, evS2_d, evFl_n, evFl_c, evGl_n, evGl_c, evIn_n, evIn_c, evCat_i, evCat_l, evCat_f, evCat_d, evCat_r, evCat_z, evCat_q, evBd_some, evTl_s, evTl_n, va_rf_s, va_rf_n, and_true, true_and, and_false, false_and, if_true, if_false, not_true_eq_false, not_false_eq_true, reduceCtorEq, ↓reduceIte, Nat.reduceAdd, Nat.reduceEqDiff, Nat.reduceLT, Nat.reduceLeDiff, Nat.reduceSub, Nat.zero_ne_one, Nat.one_ne_zero, q0, q1, r1, q2, r2, q3, r3, q4, r4, q5, q6, r6, f0, f6, f7, f8, f9, f10, h8, hge]
    rfl
  have loop3 := loop_up (G := fun k => evX 9 120 [(0, .ref b), (1, .ref c), (2, .int (nI k))] [] h (putV (putV m c w) b (bcV (bcV (bcV v w 2 3 6) w 4 5 8) w 6 6 k))) (n := 6) (fun k hk => by
    obtain ⟨u1, u2⟩ := q9 k hk
    obtain ⟨w1, w2⟩ := p9 k hk
    have hlt : ¬ nI 6 ≤ nI k := nI_ge hk (by omega)
    have hs : nI k + 1 = nI (k + 1) := (nI_succ k).symm
    have h0 : ¬ nI k < 0 := nI_pos (by omega)
    have hc : (nI k).toNatClampNeg = k := nI_cl k (by omega)
    rw [← bcV_s _ _ _ _ k]
    conv => lhs; rw [x9_120]
    simp only [x9_121, x9_122, x9_125s, x9_126, x9_129, x9_130, x9_131, x9_134s, x9_135, x9_138, x9_139, x9_142, x9_144n, x9_144, x9_144q, x9_147, x9_148, x9_151, x9_153n, x9_153, x9_153q, x9_156, x9_157, x9_160, x9_162, x9_163, x9_166, x9_168, x9_171, x9_174, x9_125i, x9_125b, x9_125d, x9_125h, x9_125l, x9_134i, x9_134b, x9_134d, x9_134h, x9_134l, x9_143b, x9_143d, x9_143h, x9_143l, x9_152b, x9_152d, x9_152h, x9_152l, x9_161b, x9_161d, x9_161h, x9_161l, x9_167b, x9_167d, x9_167h, x9_167l, evI_i, evJl_i, evJf_i, evJd_i, evA_r, evA_n, evA_q, evLk_c, evS1_d, evS2_d, evFl_n, evFl_c, evGl_n, evGl_c, evIn_n, evIn_c, evCat_i, evCat_l, evCat_f, evCat_d, evCat_r, evCat_z, evCat_q, evBd_some, evTl_s, evTl_n, va_rf_s, va_rf_n, and_true, true_and, and_false, false_and, if_true, if_false, not_true_eq_false, not_false_eq_true, reduceCtorEq, ↓reduceIte, Nat.reduceAdd, Nat.reduceEqDiff, Nat.reduceLT, Nat.reduceLeDiff, Nat.reduceSub, Nat.zero_ne_one, Nat.one_ne_zero, q0, q1, r1, q2, r2, q3, r3, q4, r4, q5, q6, r6, f0, f6, f7, f8, f9, f10, p0, p4, s4, g8, h6, hlt, h0, hc, hk, u1, u2, w1, w2, c_EchoCopy hH hG hap hk, hs])
  refine (st v).trans (loop1.trans ((mid1 _).trans (loop2.trans ((mid2 _).trans (loop3.trans ?_)))))
  have hge : nI 6 ≤ nI 6 := Int32.le_refl _
  simp only [x9_120, x9_121, x9_122, x9_125s, x9_126, x9_129, x9_130, x9_131, x9_134s, x9_135, x9_138, x9_139, x9_142, x9_144n, x9_144, x9_144q, x9_147, x9_148, x9_151, x9_153n, x9_153, x9_153q, x9_156, x9_157, x9_160, x9_162, x9_163, x9_166, x9_168, x9_171, x9_174, x9_177, x9_125i, x9_125b, x9_125d, x9_125h, x9_125l, x9_134i, x9_134b, x9_134d, x9_134h, x9_134l, x9_143b, x9_143d, x9_143h, x9_143l, x9_152b, x9_152d, x9_152h, x9_152l, x9_161b, x9_161d, x9_161h, x9_161l, x9_167b, x9_167d, x9_167h, x9_167l, evI_i, evJl_i, evJf_i, evJd_i, evA_r, evA_n, evA_q, evLk_c, evS1_d, evS2_d, evFl_n, evFl_c, evGl_n, evGl_c, evIn_n, evIn_c, evCat_i, evCat_l, evCat_f, evCat_d, evCat_r, evCat_z, evCat_q, evBd_some, evTl_s, evTl_n, va_rf_s, va_rf_n, and_true, true_and, and_false, false_and, if_true, if_false, not_true_eq_false, not_false_eq_true, reduceCtorEq, ↓reduceIte, Nat.reduceAdd, Nat.reduceEqDiff, Nat.reduceLT, Nat.reduceLeDiff, Nat.reduceSub, Nat.zero_ne_one, Nat.one_ne_zero, q0, q1, r1, q2, r2, q3, r3, q4, r4, q5, q6, r6, f0, f6, f7, f8, f9, f10, h6, hge]
set_option maxHeartbeats 2000000 in
/-- a hall takes all of another -/
theorem c_HallCopy (hH : evHall h b) (hG : evHall h c) (hap : b + 41 ≤ c ∨ c + 41 ≤ b) : evX 8 0 [(0, .ref b), (1, .ref c)] [] h (putV (putV m c w) b v) = some (none, h, putV (putV m c w) b w) := by
  obtain ⟨q0, ⟨q1, r1⟩, ⟨q2, r2⟩, ⟨q3, r3⟩, ⟨q4, r4⟩, q5, ⟨q6, r6⟩, q7, q8, q9, f0, f6, f7, f8, f9, f10⟩ := id hH
  obtain ⟨p0, ⟨p1, s1⟩, -, -, -, p5, ⟨p6, s6⟩, -, -, -, g0, -, -, -, g9, -⟩ := id hG
  have z0 : ¬ (0 : Int32) < 0 := by decide
  have z1 : ¬ (4 : Int32) < 0 := by decide
  have z2 : (0 : Int32).toNatClampNeg = 0 := by decide
  have z3 : (4 : Int32).toNatClampNeg = 4 := by decide
  have z4 : 0 + 4 ≤ 4 := by decide
  have rw1 : evRowM (putV (putV m c w) b v) (hSt b) (va_cpy (putV (putV m c w) b v (hSt c)) (putV (putV m c w) b v (hSt b)) 0 0 4) = putV (putV m c w) b (vrow v 0 4 w) :=
    putV_rowc (o := 1) hap (by omega) (fun j hj => hloc_St hj) (fun j hj => by unfold hloc; simp [hj]) (fun o' j' q hq h8 => by
      have hi := hloc_inv hq
      unfold hinv at hi
      rw [if_pos h8] at hi
      exact (congrArg Prod.fst hi).symm) rfl rfl
  simp only [x8_0, x8_1, x8_4, x8_5, x8_6, x8_9, x8_10, x8_11, x8_14, x8_15, x8_16, x8_19, x8_22, x8_23, x8_24, x8_27, x8_30, x8_31, x8_32, x8_35, x8_38, x8_39, x8_40, x8_43, x8_46, x8_47, x8_48, x8_51, x8_54, x8_55, x8_56, x8_59, x8_60, x8_63, x8_64, x8_67, x8_70, evI_i, evJl_i, evJf_i, evJd_i, evA_r, evA_n, evA_q, evLk_c, evS1_d, evS2_d, evFl_n, evFl_c, evGl_n, evGl_c, evIn_n, evIn_c, evCat_i, evCat_l, evCat_f, evCat_d, evCat_r, evCat_z, evCat_q, evBd_some, evTl_s, evTl_n, va_rf_s, va_rf_n, and_true, true_and, and_false, false_and, if_true, if_false, not_true_eq_false, not_false_eq_true, reduceCtorEq, ↓reduceIte, Nat.reduceAdd, Nat.reduceEqDiff, Nat.reduceLT, Nat.reduceLeDiff, Nat.reduceSub, Nat.zero_ne_one, Nat.one_ne_zero, q0, q1, r1, q2, r2, q3, r3, q4, r4, q5, q6, r6, f0, f6, f7, f8, f9, f10, pv_H1, pv_H2, pv_H3, pv_H4, pv_H5, pv_St, pv_Rc, pv_Rr, ps_H1, ps_H2, ps_H3, ps_H4, ps_H5, ps_St, ps_Rc, ps_Rr, p0, p1, s1, p5, g0, g9, z0, z1, z2, z3, z4, Nat.le_refl, rw1, pp_H1 hap, pp_H2 hap, pp_H3 hap, pp_H4 hap, pp_H5 hap, c_copyRows hH hG hap, c_RecentCopy hH hG hap]
  refine congrArg (fun z => some (none, h, z)) (putV_ext (fun o j q ho hq => ?_))
  have hr := hloc_rng hq
  obtain ⟨t, i, jj⟩ := q
  dsimp only at hr ⊢
  rcases hr with ⟨rfl, hi, rfl⟩ | ⟨rfl, hi, rfl⟩ | ⟨rfl, hi, -⟩ | ⟨rfl, hi, -⟩ | ⟨rfl, hi, -⟩ | ⟨rfl, hi, -⟩ | ⟨rfl, hi, -⟩ | ⟨rfl, rfl, rfl⟩ | ⟨rfl, hi, rfl⟩
  · simp [vs_at, vrow_at, bcV, hi]
  · rcases (show i = 0 ∨ i = 1 ∨ i = 2 ∨ i = 3 ∨ i = 4 by omega) with rfl | rfl | rfl | rfl | rfl <;> simp [vs_at, vrow_at, bcV]
  · simp [vs_at, vrow_at, bcV, hi]
  · simp [vs_at, vrow_at, bcV, hi]
  · simp [vs_at, vrow_at, bcV, hi]
  · simp [vs_at, vrow_at, bcV, hi]
  · simp [vs_at, vrow_at, bcV, hi]
  · simp [vs_at, vrow_at, bcV]
  · simp [vs_at, vrow_at, bcV, hi]
end CP
