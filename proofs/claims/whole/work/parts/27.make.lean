/-! the history, the pad, the class's object and the model's are made -/
section MK
variable {h : evH} {m : evM} {b : Nat}
set_option maxHeartbeats 1000000 in
theorem c_Hist_step {k : Nat} (hk : k < 7) (hN : evN h = b + 2 + 41 * k) (hl : b + 289 ≤ evO9) (H : evHist h b k) : ∃ h', evX 35 15 [(0, .ref b), (1, .int (nI k))] [] h m = evX 35 15 [(0, .ref b), (1, .int (nI (k + 1)))] [] h' (putV m (b + 2 + 41 * k) hv0) ∧ evHist h' b (k + 1) ∧ evN h' = b + 2 + 41 * (k + 1) ∧ evSl h' = evSl h + 358 ∧ evLe b h h' ∧ evSp h' = evSp h := by
  obtain ⟨a0, a1, l1, r0, hh⟩ := H
  obtain ⟨K, R, e1, e2⟩ := c_Hall_init (h := h) (m := m) (b := b + 2 + 41 * k) hN (by omega)
  have hG : evLe (b + 2 + 41 * k) h (evG h (b + 2 + 41 * k) 41 358 K R) := evLe_G
  generalize hg : evG h (b + 2 + 41 * k) 41 358 K R = g at e1 e2 hG
  have gN : evN g = b + 2 + 41 * k + 41 := by rw [← hg]; exact evG_N
  have gS : evSl g = evSl h + 358 := by rw [← hg]; exact evG_Sl
  have gP : evSp g = evSp h := by rw [← hg]; exact evG_Sp
  have b0 : evAt g b 3 := evAt_same (hG b (by omega)).1 (by omega) a0
  have b1 : evAt g (b + 1) 12 := evAt_same (hG (b + 1) (by omega)).1 (by omega) a1
  have b2 : evLen g (b + 1) = 7 := (hG (b + 1) (by omega)).2.1.trans l1
  have b3 : evR g b 0 = some (b + 1) := ((hG b (by omega)).2.2 0).trans r0
  have b4 : evAt g (b + 2 + 41 * k) 2 := e2.1
  have hlt : ¬ nI 7 ≤ nI k := nI_ge hk (by omega)
  have hs : nI k + 1 = nI (k + 1) := (nI_succ k).symm
  have hp : ¬ nI k < 0 := nI_pos (by omega)
  have hc : (nI k).toNatClampNeg = k := nI_cl k (by omega)
  have h7 : Int32.ofNat 7 = nI 7 := rfl
  have hO : b + 2 + 41 * k < evO9 := by omega
  refine ⟨evSetR g (b + 1) k (some (b + 2 + 41 * k)), ?_, ⟨b0, b1, b2, ?_, ?_⟩, ?_, gS, evLe_trans (evLe_less hG (by omega)) (evLe_set (by omega)), gP⟩
  · conv => lhs; rw [x35_15]
    simp only [x35_16, x35_17, x35_21, x35_24, x35_25, x35_28, x35_29, x35_32, x35_33, x35_37, x35_40, x35_20i, x35_20b, x35_20d, x35_20h, x35_20l, x35_36b, x35_36d, x35_36h, x35_36l, evI_i, evJl_i, evJf_i, evJd_i, evA_r, evA_n, evA_q, evLk_c, evS1_d, evS2_d, evFl_n, evFl_c, evGl_n, evGl_c, evIn_n, evIn_c, evCat_i, evCat_l, evCat_f, evCat_d, evCat_r, evCat_z, evCat_q, evBd_some, evTl_s, evTl_n, va_rf_s, va_rf_n, and_true, true_and, and_false, false_and, if_true, if_false, not_true_eq_false, not_false_eq_true, reduceCtorEq, ↓reduceIte, Nat.reduceAdd, Nat.reduceEqDiff, Nat.reduceLT, Nat.reduceLeDiff, Nat.reduceSub, Nat.zero_ne_one, Nat.one_ne_zero, a0, a1, l1, r0, hN, hO, h7, hlt, hp, hc, hk, hs, e1, b0, b1, b2, b3, b4, Option.toList, List.nil_append]
  · show (if b = b + 1 ∧ (0 : Nat) = k then _ else evR g b 0) = _
    rw [if_neg (by omega), b3]
  · intro i hi
    by_cases hik : i = k
    · subst hik
      refine ⟨evHall_same (h := g) (evSetR_same (by omega)) (by rw [evSetR_N]; omega) e2, ?_⟩
      rw [evSetR_R, if_pos ⟨rfl, rfl⟩]
    · obtain ⟨w1, w2⟩ := hh i (by omega)
      refine ⟨evHall_same (h := g) (evSetR_same (by omega)) (by rw [evSetR_N]; omega) (evHall_same (h := h) (evSame_le (evLe_less hG (by omega))) (by omega) w1), ?_⟩
      rw [evSetR_R, if_neg (by omega), (hG (b + 1) (by omega)).2.2, w2]
  · rw [evSetR_N]; omega
set_option maxHeartbeats 1000000 in
theorem c_Hist_init (hb : evN h = b + 1) (h0 : evAt h b 3) (hl : b + 289 ≤ evO9) (hz : ∀ a j, b + 1 ≤ a → m a j = 0) : ∃ h', evX 35 0 [(0, .ref b)] [] h m = some (none, h', gHs m b 7) ∧ evHist h' b 7 ∧ evN h' = b + 289 ∧ evSl h' = evSl h + 2513 ∧ evLe b h h' ∧ evSp h' = evSp h := by
  have hO : b + 1 < evO9 := by omega
  have z1 : ¬ (7 : Int32) < 0 := by decide
  have z2 : (7 : Int32).toNatClampNeg = 7 := by decide
  have zm : evNewM h m = m := evNewM_zero (fun j => hz _ j (by omega))
  have n0 : evAt (evNew h 12 7) b 3 := evAt_same (by rw [evNew_K, if_neg (by omega)]) (by rw [evNew_N]; omega) h0
  have n1 : evAt (evNew h 12 7) (b + 1) 12 := evAt_of (by rw [evNew_N]; omega) hO (by rw [evNew_K, if_pos hb.symm])
  have st : evX 35 0 [(0, .ref b)] [] h m = evX 35 15 [(0, .ref b), (1, .int (nI 0))] [] (evSetR (evNew h 12 7) b 0 (some (b + 1))) m := by
    simp only [x35_0, x35_1, x35_4, x35_5, x35_7, x35_10q, x35_10, x35_13, x35_14, evI_i, evJl_i, evJf_i, evJd_i, evA_r, evA_n, evA_q, evLk_c, evS1_d, evS2_d, evFl_n, evFl_c, evGl_n, evGl_c, evIn_n, evIn_c, evCat_i, evCat_l, evCat_f, evCat_d, evCat_r, evCat_z, evCat_q, evBd_some, evTl_s, evTl_n, va_rf_s, va_rf_n, and_true, true_and, and_false, false_and, if_true, if_false, not_true_eq_false, not_false_eq_true, reduceCtorEq, ↓reduceIte, Nat.reduceAdd, Nat.reduceEqDiff, Nat.reduceLT, Nat.reduceLeDiff, Nat.reduceSub, Nat.zero_ne_one, Nat.one_ne_zero, hb, hO, z1, z2, zm, n0]
    rfl
  have H0 : evHist (evSetR (evNew h 12 7) b 0 (some (b + 1))) b 0 := by
    refine ⟨n0, n1, ?_, ?_, fun i hi => absurd hi (Nat.not_lt_zero i)⟩
    · rw [evSetR_len, evNew_len, if_pos hb.symm]
    · rw [evSetR_R, if_pos ⟨rfl, rfl⟩]
  have P : ∀ k, k ≤ 7 → ∃ h', evX 35 0 [(0, .ref b)] [] h m = evX 35 15 [(0, .ref b), (1, .int (nI k))] [] h' (gHs m b k) ∧ evHist h' b k ∧ evN h' = b + 2 + 41 * k ∧ evSl h' = evSl h + 7 + 358 * k ∧ evLe b h h' ∧ evSp h' = evSp h := by
    intro k
    induction k with
    | zero =>
      intro _
      refine ⟨_, st, H0, ?_, rfl, evLe_trans (evLe_less evLe_new (by omega)) (evLe_set (by omega)), rfl⟩
      rw [evSetR_N, evNew_N]; omega
    | succ k ih =>
      intro hk
      obtain ⟨h1, e1, H1, N1, S1, L1, P1⟩ := ih (by omega)
      obtain ⟨h2, e2, H2, N2, S2, L2, P2⟩ := c_Hist_step (m := gHs m b k) (by omega) N1 hl H1
      have S3 : evSl h2 = evSl h + 7 + 358 * (k + 1) := by rw [S2, S1, Nat.mul_succ, Nat.add_assoc]
      exact ⟨h2, e1.trans e2, H2, N2, S3, evLe_trans L1 L2, P2.trans P1⟩
  obtain ⟨h', e, H, N, S, L, Q⟩ := P 7 (Nat.le_refl 7)
  refine ⟨h', e.trans ?_, H, by omega, by omega, L, Q⟩
  obtain ⟨a0, a1, l1, r0, hh⟩ := H
  have hge : nI 7 ≤ nI 7 := Int32.le_refl _
  have h7 : Int32.ofNat 7 = nI 7 := rfl
  simp only [x35_15, x35_16, x35_17, x35_21, x35_24, x35_25, x35_28, x35_29, x35_32, x35_33, x35_37, x35_40, x35_43, x35_20i, x35_20b, x35_20d, x35_20h, x35_20l, x35_36b, x35_36d, x35_36h, x35_36l, evI_i, evJl_i, evJf_i, evJd_i, evA_r, evA_n, evA_q, evLk_c, evS1_d, evS2_d, evFl_n, evFl_c, evGl_n, evGl_c, evIn_n, evIn_c, evCat_i, evCat_l, evCat_f, evCat_d, evCat_r, evCat_z, evCat_q, evBd_some, evTl_s, evTl_n, va_rf_s, va_rf_n, and_true, true_and, and_false, false_and, if_true, if_false, not_true_eq_false, not_false_eq_true, reduceCtorEq, ↓reduceIte, Nat.reduceAdd, Nat.reduceEqDiff, Nat.reduceLT, Nat.reduceLeDiff, Nat.reduceSub, Nat.zero_ne_one, Nat.one_ne_zero, a0, a1, l1, r0, h7, hge]
theorem c_Pad_init (hb : evN h = b + 1) (h0 : evAt h b 5) (hO : b + 1 < evO9) (hz : ∀ j, m (b + 1) j = 0) : evX 41 0 [(0, .ref b)] [] h m = some (none, evSetR (evNew h 9 80) b 0 (some (b + 1)), m) := by
  have z1 : ¬ (80 : Int32) < 0 := by decide
  have z2 : (80 : Int32).toNatClampNeg = 80 := by decide
  have zm : evNewM h m = m := evNewM_zero (fun j => by rw [hb]; exact hz j)
  have n0 : evAt (evNew h 9 80) b 5 := evAt_same (by rw [evNew_K, if_neg (by omega)]) (by rw [evNew_N]; omega) h0
  simp only [x41_0, x41_1, x41_4, x41_5, x41_7, x41_9q, x41_9, x41_12, evI_i, evJl_i, evJf_i, evJd_i, evA_r, evA_n, evA_q, evLk_c, evS1_d, evS2_d, evFl_n, evFl_c, evGl_n, evGl_c, evIn_n, evIn_c, evCat_i, evCat_l, evCat_f, evCat_d, evCat_r, evCat_z, evCat_q, evBd_some, evTl_s, evTl_n, va_rf_s, va_rf_n, and_true, true_and, and_false, false_and, if_true, if_false, not_true_eq_false, not_false_eq_true, reduceCtorEq, ↓reduceIte, Nat.reduceAdd, Nat.reduceEqDiff, Nat.reduceLT, Nat.reduceLeDiff, Nat.reduceSub, Nat.zero_ne_one, Nat.one_ne_zero, hb, hO, z1, z2, zm, n0]
end MK
