/-! the history, the pad, the class's object and the model's are made -/
section MK
variable {h : evH} {m : evM} {b : Nat}
set_option maxHeartbeats 1000000 in
theorem c_Hist_step {k : Nat} (hk : k < 7) (hN : evN h = b + 2 + 41 * k) (hl : b + 289 ≤ evO9) (H : evHist h b k) : ∃ h', evX 34 15 [(0, .ref b), (1, .int (nI k))] [] h m = evX 34 15 [(0, .ref b), (1, .int (nI (k + 1)))] [] h' (putV m (b + 2 + 41 * k) hv0) ∧ evHist h' b (k + 1) ∧ evN h' = b + 2 + 41 * (k + 1) ∧ evSl h' = evSl h + 358 ∧ evLe b h h' ∧ evSp h' = evSp h := by
  obtain ⟨a0, a1, l1, r0, hh⟩ := H
  obtain ⟨K, R, e1, e2⟩ := c_Hall_init (h := h) (m := m) (b := b + 2 + 41 * k) hN (by omega)
  have hG : evLe (b + 2 + 41 * k) h (evG h (b + 2 + 41 * k) 41 358 K R) := evLe_G
  generalize hg : evG h (b + 2 + 41 * k) 41 358 K R = g at e1 e2 hG
  have gN : evN g = b + 2 + 41 * k + 41 := by rw [← hg]; exact evG_N
  have gS : evSl g = evSl h + 358 := by rw [← hg]; exact evG_Sl
  have gP : evSp g = evSp h := by rw [← hg]; exact evG_Sp
  have b0 : evAt g b 3 := evAt_same (hG b (by omega)).1 (by omega) a0
  have b1 : evAt g (b + 1) 12 := evAt_same (hG (b + 1) (by omega)).1 (by omega) a1
  have b2 : evLen g (b + 1) = 7 := (hG (b + 1) (by omega)).2.1.trans l1
  have b3 : evR g b 0 = some (b + 1) := ((hG b (by omega)).2.2 0).trans r0
  have b4 : evAt g (b + 2 + 41 * k) 2 := e2.1
  have hlt : ¬ nI 7 ≤ nI k := nI_ge hk (by omega)
  have hs : nI k + 1 = nI (k + 1) := (nI_succ k).symm
  have hp : ¬ nI k < 0 := nI_pos (by omega)
  have hc : (nI k).toNatClampNeg = k := nI_cl k (by omega)
  have h7 : Int32.ofNat 7 = nI 7 := rfl
  have hO : b + 2 + 41 * k < evO9 := by omega
  refine ⟨evSetR g (b + 1) k (some (b + 2 + 41 * k)), ?_, ⟨b0, b1, b2, ?_, ?_⟩, ?_, gS, evLe_trans (evLe_less hG (by omega)) (evLe_set (by omega)), gP⟩
  · conv => lhs; rw [x34_15]
    simp only [x34_16, x34_17, x34_21, x34_24, x34_25, x34_28, x34_29, x34_32, x34_33, x34_37, x34_40, x34_20i, x34_20b, x34_20d, x34_20h, x34_20l, x34_36b, x34_36d, x34_36h, x34_36l, evI_i, evJl_i, evJf_i, evJd_i, evA_r, evA_n, evA_q, evLk_c, evS1_d, evS2_d, evFl_n, evFl_c, evGl_n, evGl_c, evIn_n, evIn_c, evCat_i, evCat_l, evCat_f, evCat_d, evCat_r, evCat_z, evCat_q, evBd_some, evTl_s, evTl_n, va_rf_s, va_rf_n, and_true, true_and, and_false, false_and, if_true, if_false, not_true_eq_false, not_false_eq_true, reduceCtorEq, ↓reduceIte, Nat.reduceAdd, Nat.reduceEqDiff, Nat.reduceLT, Nat.reduceLeDiff, Nat.reduceSub, Nat.zero_ne_one, Nat.one_ne_zero, a0, a1, l1, r0, hN, hO, h7, hlt, hp, hc, hk, hs, e1, b0, b1, b2, b3, b4, Option.toList, List.nil_append]
  · show (if b = b + 1 ∧ (0 : Nat) = k then _ else evR g b 0) = _
    rw [if_neg (by omega), b3]
  · intro i hi
    by_cases hik : i = k
    · subst hik
      refine ⟨evHall_same (h := g) (evSetR_same (by omega)) (by rw [evSetR_N]; omega) e2, ?_⟩
      rw [evSetR_R, if_pos ⟨rfl, rfl⟩]
    · obtain ⟨w1, w2⟩ := hh i (by omega)
      refine ⟨evHall_same (h := g) (evSetR_same (by omega)) (by rw [evSetR_N]; omega) (evHall_same (h := h) (evSame_le (evLe_less hG (by omega))) (by omega) w1), ?_⟩
      rw [evSetR_R, if_neg (by omega), (hG (b + 1) (by omega)).2.2, w2]
  · rw [evSetR_N]; omega
set_option maxHeartbeats 1000000 in
theorem c_Hist_init (hb : evN h = b + 1) (h0 : evAt h b 3) (hl : b + 289 ≤ evO9) (hz : ∀ a j, b + 1 ≤ a → m a j = 0) : ∃ h', evX 34 0 [(0, .ref b)] [] h m = some (none, h', gHs m b 7) ∧ evHist h' b 7 ∧ evN h' = b + 289 ∧ evSl h' = evSl h + 2513 ∧ evLe b h h' ∧ evSp h' = evSp h := by
  have hO : b + 1 < evO9 := by omega
  have z1 : ¬ (7 : Int32) < 0 := by decide
  have z2 : (7 : Int32).toNatClampNeg = 7 := by decide
  have zm : evNewM h m = m := evNewM_zero (fun j => hz _ j (by omega))
  have n0 : evAt (evNew h 12 7) b 3 := evAt_same (by rw [evNew_K, if_neg (by omega)]) (by rw [evNew_N]; omega) h0
  have n1 : evAt (evNew h 12 7) (b + 1) 12 := evAt_of (by rw [evNew_N]; omega) hO (by rw [evNew_K, if_pos hb.symm])
  have st : evX 34 0 [(0, .ref b)] [] h m = evX 34 15 [(0, .ref b), (1, .int (nI 0))] [] (evSetR (evNew h 12 7) b 0 (some (b + 1))) m := by
    simp only [x34_0, x34_1, x34_4, x34_5, x34_7, x34_10q, x34_10, x34_13, x34_14, evI_i, evJl_i, evJf_i, evJd_i, evA_r, evA_n, evA_q, evLk_c, evS1_d, evS2_d, evFl_n, evFl_c, evGl_n, evGl_c, evIn_n, evIn_c, evCat_i, evCat_l, evCat_f, evCat_d, evCat_r, evCat_z, evCat_q, evBd_some, evTl_s, evTl_n, va_rf_s, va_rf_n, and_true, true_and, and_false, false_and, if_true, if_false, not_true_eq_false, not_false_eq_true, reduceCtorEq, ↓reduceIte, Nat.reduceAdd, Nat.reduceEqDiff, Nat.reduceLT, Nat.reduceLeDiff, Nat.reduceSub, Nat.zero_ne_one, Nat.one_ne_zero, hb, hO, z1, z2, zm, n0]
    rfl
  have H0 : evHist (evSetR (evNew h 12 7) b 0 (some (b + 1))) b 0 := by
    refine ⟨n0, n1, ?_, ?_, fun i hi => absurd hi (Nat.not_lt_zero i)⟩
    · rw [evSetR_len, evNew_len, if_pos hb.symm]
    · rw [evSetR_R, if_pos ⟨rfl, rfl⟩]
  have P : ∀ k, k ≤ 7 → ∃ h', evX 34 0 [(0, .ref b)] [] h m = evX 34 15 [(0, .ref b), (1, .int (nI k))] [] h' (gHs m b k) ∧ evHist h' b k ∧ evN h' = b + 2 + 41 * k ∧ evSl h' = evSl h + 7 + 358 * k ∧ evLe b h h' ∧ evSp h' = evSp h := by
    intro k
    induction k with
    | zero =>
      intro _
      refine ⟨_, st, H0, ?_, rfl, evLe_trans (evLe_less evLe_new (by omega)) (evLe_set (by omega)), rfl⟩
      rw [evSetR_N, evNew_N]; omega
    | succ k ih =>
      intro hk
      obtain ⟨h1, e1, H1, N1, S1, L1, P1⟩ := ih (by omega)
      obtain ⟨h2, e2, H2, N2, S2, L2, P2⟩ := c_Hist_step (m := gHs m b k) (by omega) N1 hl H1
      have S3 : evSl h2 = evSl h + 7 + 358 * (k + 1) := by rw [S2, S1, Nat.mul_succ, Nat.add_assoc]
      exact ⟨h2, e1.trans e2, H2, N2, S3, evLe_trans L1 L2, P2.trans P1⟩
  obtain ⟨h', e, H, N, S, L, Q⟩ := P 7 (Nat.le_refl 7)
  refine ⟨h', e.trans ?_, H, by omega, by omega, L, Q⟩
  obtain ⟨a0, a1, l1, r0, hh⟩ := H
  have hge : nI 7 ≤ nI 7 := Int32.le_refl _
  have h7 : Int32.ofNat 7 = nI 7 := rfl
  simp only [x34_15, x34_16, x34_17, x34_21, x34_24, x34_25, x34_28, x34_29, x34_32, x34_33, x34_37, x34_40, x34_43, x34_20i, x34_20b, x34_20d, x34_20h, x34_20l, x34_36b, x34_36d, x34_36h, x34_36l, evI_i, evJl_i, evJf_i, evJd_i, evA_r, evA_n, evA_q, evLk_c, evS1_d, evS2_d, evFl_n, evFl_c, evGl_n, evGl_c, evIn_n, evIn_c, evCat_i, evCat_l, evCat_f, evCat_d, evCat_r, evCat_z, evCat_q, evBd_some, evTl_s, evTl_n, va_rf_s, va_rf_n, and_true, true_and, and_false, false_and, if_true, if_false, not_true_eq_false, not_false_eq_true, reduceCtorEq, ↓reduceIte, Nat.reduceAdd, Nat.reduceEqDiff, Nat.reduceLT, Nat.reduceLeDiff, Nat.reduceSub, Nat.zero_ne_one, Nat.one_ne_zero, a0, a1, l1, r0, h7, hge]
theorem c_Pad_init (hb : evN h = b + 1) (h0 : evAt h b 5) (hO : b + 1 < evO9) (hz : ∀ j, m (b + 1) j = 0) : evX 39 0 [(0, .ref b)] [] h m = some (none, evSetR (evNew h 9 80) b 0 (some (b + 1)), m) := by
  have z1 : ¬ (80 : Int32) < 0 := by decide
  have z2 : (80 : Int32).toNatClampNeg = 80 := by decide
  have zm : evNewM h m = m := evNewM_zero (fun j => by rw [hb]; exact hz j)
  have n0 : evAt (evNew h 9 80) b 5 := evAt_same (by rw [evNew_K, if_neg (by omega)]) (by rw [evNew_N]; omega) h0
  simp only [x39_0, x39_1, x39_4, x39_5, x39_7, x39_9q, x39_9, x39_12, evI_i, evJl_i, evJf_i, evJd_i, evA_r, evA_n, evA_q, evLk_c, evS1_d, evS2_d, evFl_n, evFl_c, evGl_n, evGl_c, evIn_n, evIn_c, evCat_i, evCat_l, evCat_f, evCat_d, evCat_r, evCat_z, evCat_q, evBd_some, evTl_s, evTl_n, va_rf_s, va_rf_n, and_true, true_and, and_false, false_and, if_true, if_false, not_true_eq_false, not_false_eq_true, reduceCtorEq, ↓reduceIte, Nat.reduceAdd, Nat.reduceEqDiff, Nat.reduceLT, Nat.reduceLeDiff, Nat.reduceSub, Nat.zero_ne_one, Nat.one_ne_zero, hb, hO, z1, z2, zm, n0]
end MK
