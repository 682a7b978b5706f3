/-! both objects are made -/
theorem c_EB_init {h : evH} {m : evM} (hN : evN h = 1) (h0 : evAt h 0 7) (hz : ∀ a j, m a j = 0) : ∃ h', evX 46 0 [(0, .ref 0)] [] h m = some (none, h', gHs (putV (putV m 1 hv0) 42 hv0) 83 7) ∧ evN h' = 375 ∧ evSl h' = evSl h + 3322 ∧ evSp h' = evSp h ∧ (∀ h2, evLe 375 h' h2 → 385 ≤ evN h2 → xOK h2 0 (fun _ => none)) := by
  have hO : ∀ a, a < 1000 → a < evO9 := fun a ha => by unfold evO9; omega
  -- now
  obtain ⟨K1, R1, e1, H1⟩ := c_Hall_init (h := h) (m := m) (b := 1) hN (by decide)
  have L1 : evLe 1 h (evG h 1 41 358 K1 R1) := evLe_G
  generalize hg1 : evG h 1 41 358 K1 R1 = g1 at e1 H1 L1
  have N1 : evN g1 = 42 := by rw [← hg1]; exact evG_N
  have S1 : evSl g1 = evSl h + 358 := by rw [← hg1]; exact evG_Sl
  have P1 : evSp g1 = evSp h := by rw [← hg1]; exact evG_Sp
  have a1 : evAt g1 0 7 := evAt_same (L1 0 (by omega)).1 (by omega) h0
  -- trial
  obtain ⟨K2, R2, e2, H2⟩ := c_Hall_init (h := evSetR g1 0 0 (some 1)) (m := putV m 1 hv0) (b := 42) N1 (by decide)
  have L2 : evLe 42 (evSetR g1 0 0 (some 1)) (evG (evSetR g1 0 0 (some 1)) 42 41 358 K2 R2) := evLe_G
  generalize hg2 : evG (evSetR g1 0 0 (some 1)) 42 41 358 K2 R2 = g2 at e2 H2 L2
  have N2 : evN g2 = 83 := by rw [← hg2]; exact evG_N
  have S2 : evSl g2 = evSl g1 + 358 := by rw [← hg2]; exact evG_Sl
  have P2 : evSp g2 = evSp g1 := by rw [← hg2]; exact evG_Sp
  have a2 : evAt g2 0 7 := evAt_same (L2 0 (by omega)).1 (by omega) a1
  -- the history
  have n2 : evNewM (evSetR g2 0 1 (some 42)) (putV (putV m 1 hv0) 42 hv0) = putV (putV m 1 hv0) 42 hv0 := evNewM_zero (fun j => by rw [evSetR_N, N2, putV_out (by omega), putV_out (by omega), hz])
  have N3 : evN (evNew (evSetR g2 0 1 (some 42)) 3 3) = 84 := by rw [evNew_N, evSetR_N, N2]
  have a3 : evAt (evNew (evSetR g2 0 1 (some 42)) 3 3) 83 3 := evAt_of (by omega) (hO _ (by omega)) (by rw [evNew_K, evSetR_N, N2, if_pos rfl])
  obtain ⟨h3, e3, H3, M3, T3, L3, Q3⟩ := c_Hist_init (h := evNew (evSetR g2 0 1 (some 42)) 3 3) (m := putV (putV m 1 hv0) 42 hv0) (b := 83) N3 a3 (by decide) (fun a j ha => by rw [putV_out (by omega), putV_out (by omega), hz])
  have La : evLe 83 (evSetR g2 0 1 (some 42)) (evNew (evSetR g2 0 1 (some 42)) 3 3) := evLe_less evLe_new (by rw [evSetR_N, N2]; exact Nat.le_refl _)
  have a4 : evAt h3 0 7 := evAt_same ((evLe_trans La L3) 0 (by omega)).1 (by omega) a2
  have M3' : evN h3 = 372 := M3
  -- the pad
  have z4 : ∀ a j, 372 ≤ a → gHs (putV (putV m 1 hv0) 42 hv0) 83 7 a j = 0 := fun a j ha => by rw [gHs_out (by omega), putV_out (by omega), putV_out (by omega), hz]
  have n4 : evNewM (evSetR h3 0 2 (some 83)) (gHs (putV (putV m 1 hv0) 42 hv0) 83 7) = gHs (putV (putV m 1 hv0) 42 hv0) 83 7 := evNewM_zero (fun j => z4 _ _ (by rw [evSetR_N, M3']; exact Nat.le_refl _))
  have N5 : evN (evNew (evSetR h3 0 2 (some 83)) 5 8) = 373 := by rw [evNew_N, evSetR_N, M3']
  have a5 : evAt (evNew (evSetR h3 0 2 (some 83)) 5 8) 372 5 := evAt_of (by omega) (hO _ (by omega)) (by rw [evNew_K, evSetR_N, M3', if_pos rfl])
  have e5 := c_Pad_init (h := evNew (evSetR h3 0 2 (some 83)) 5 8) (m := gHs (putV (putV m 1 hv0) 42 hv0) 83 7) (b := 372) N5 a5 (by decide) (fun j => z4 _ _ (by decide))
  -- cells of later worlds
  have z1 : ¬ (2 : Int32) < 0 := by decide
  have z2 : (2 : Int32).toNatClampNeg = 2 := by decide
  generalize hh5 : evSetR (evNew (evNew (evSetR h3 0 2 (some 83)) 5 8) 9 80) 372 0 (some 373) = h5 at e5
  have N6 : evN h5 = 374 := by rw [← hh5, evSetR_N, evNew_N, N5]
  have K6 : ∀ a, evK h5 a = if a = 373 then 9 else if a = 372 then 5 else evK h3 a := fun a => by rw [← hh5, evSetR_K, evNew_K, evNew_K, N5, evSetR_N, evSetR_K, M3']
  have a6 : evAt h5 0 7 := evAt_same (K6 0) (by omega) a4
  have n6 : evNewM (evSetR h5 0 3 (some 372)) (gHs (putV (putV m 1 hv0) 42 hv0) 83 7) = gHs (putV (putV m 1 hv0) 42 hv0) 83 7 := evNewM_zero (fun j => z4 _ _ (by rw [evSetR_N, N6]; decide))
  have a7 : evAt (evNew (evSetR h5 0 3 (some 372)) 12 2) 0 7 := evAt_same (by rw [evNew_K, evSetR_N, N6, evSetR_K]; rfl) (by rw [evNew_N, evSetR_N]; omega) a6
  refine ⟨evSetR (evNew (evSetR h5 0 3 (some 372)) 12 2) 0 4 (some 374), ?_, ?_, ?_, ?_, ?_⟩
  · simp only [x46_0, x46_1, x46_4, x46_5, x46_8, x46_9, x46_12q, x46_12, x46_15, x46_16, x46_19, x46_20, x46_23q, x46_23, x46_26, x46_27, x46_30, x46_31, x46_34q, x46_34, x46_37, x46_38, x46_41, x46_42, x46_45q, x46_45, x46_48, x46_49, x46_50, x46_53q, x46_53, x46_56, evI_i, evJl_i, evJf_i, evJd_i, evA_r, evA_n, evA_q, evLk_c, evS1_d, evS2_d, evFl_n, evFl_c, evGl_n, evGl_c, evIn_n, evIn_c, evCat_i, evCat_l, evCat_f, evCat_d, evCat_r, evCat_z, evCat_q, evBd_some, evTl_s, evTl_n, va_rf_s, va_rf_n, and_true, true_and, and_false, false_and, if_true, if_false, not_true_eq_false, not_false_eq_true, reduceCtorEq, ↓reduceIte, Nat.reduceAdd, Nat.reduceEqDiff, Nat.reduceLT, Nat.reduceLeDiff, Nat.reduceSub, Nat.zero_ne_one, Nat.one_ne_zero, hN, N1, N2, M3', N6, evSetR_N, evSetR_at, hO, h0, a1, a2, a4, a6, a7, n2, n4, n6, e1, e2, e3, e5, z1, z2, Option.toList, List.nil_append]
  · rw [evSetR_N, evNew_N, evSetR_N, N6]
  · rw [evSetR_Sl, evNew_Sl, evSetR_Sl, ← hh5, evSetR_Sl, evNew_Sl, evNew_Sl, evSetR_Sl, T3, evNew_Sl, evSetR_Sl, S2, S1]
  · rw [evSetR_Sp, evNew_Sp, evSetR_Sp, ← hh5, evSetR_Sp, evNew_Sp, evNew_Sp, evSetR_Sp, Q3, evNew_Sp, evSetR_Sp, P2, P1]
  · intro h2 hle hn2
    obtain ⟨b0, b1, b2, b3, b4⟩ := H3
    have KK : ∀ a, a < 375 → evK h2 a = if a = 374 then 12 else if a = 373 then 9 else if a = 372 then 5 else evK h3 a := fun a ha => by
      rw [(hle a ha).1, evSetR_K, evNew_K, evSetR_N, N6, evSetR_K, K6]
    have LL : ∀ a, a < 375 → evLen h2 a = if a = 374 then 2 else if a = 373 then 80 else if a = 372 then 8 else evLen h3 a := fun a ha => by
      rw [(hle a ha).2.1, evSetR_len, evNew_len, evSetR_N, N6, evSetR_len, ← hh5, evSetR_len, evNew_len, evNew_len, N5, evSetR_N, M3', evSetR_len]
    have RR : ∀ a j, a < 375 → evR h2 a j = if a = 0 ∧ j = 4 then some 374 else if a = 374 then none else if a = 0 ∧ j = 3 then some 372 else if a = 372 ∧ j = 0 then some 373 else if a = 373 then none else if a = 372 then none else if a = 0 ∧ j = 2 then some 83 else evR h3 a j := fun a j ha => by
      rw [(hle a ha).2.2 j, evSetR_R, evNew_R, evSetR_N, N6, evSetR_R, ← hh5, evSetR_R, evNew_R, evNew_R, N5, evSetR_N, M3', evSetR_R]
    have R3 : ∀ a j, a < 83 → evR h3 a j = if a = 0 ∧ j = 1 then some 42 else evR g2 a j := fun a j ha => by
      rw [((evLe_trans La L3) a ha).2.2 j, evSetR_R]
    have R2' : ∀ a j, a < 42 → evR g2 a j = if a = 0 ∧ j = 0 then some 1 else evR g1 a j := fun a j ha => by
      rw [(L2 a ha).2.2 j, evSetR_R]
    have SM : ∀ b, 1 ≤ b → b + 41 ≤ 372 → evHall h3 b → evHall h2 b := fun b h1b h2b hh => evHall_same (h := h3) (fun a x1 x2 => ⟨by rw [KK a (by omega), if_neg (by omega), if_neg (by omega), if_neg (by omega)], by rw [LL a (by omega), if_neg (by omega), if_neg (by omega), if_neg (by omega)], fun j => by rw [RR a j (by omega), if_neg (by omega), if_neg (by omega), if_neg (by omega), if_neg (by omega), if_neg (by omega), if_neg (by omega), if_neg (by omega)]⟩) (by omega) hh
    have HN : evHall h3 1 := evHall_same (h := g2) (fun a x1 x2 => ⟨((evLe_trans La L3) a (by omega)).1, ((evLe_trans La L3) a (by omega)).2.1, fun j => by rw [R3 a j (by omega), if_neg (by omega)]⟩) (by omega) (evHall_same (h := g1) (fun a x1 x2 => ⟨(L2 a (by omega)).1, (L2 a (by omega)).2.1, fun j => by rw [R2' a j (by omega), if_neg (by omega)]⟩) (by omega) H1)
    have HT : evHall h3 42 := evHall_same (h := g2) (fun a x1 x2 => ⟨((evLe_trans La L3) a (by omega)).1, ((evLe_trans La L3) a (by omega)).2.1, fun j => by rw [R3 a j (by omega), if_neg (by omega)]⟩) (by omega) H2
    refine ⟨by omega, hn2, evAt_same (KK 0 (by omega)) (by omega) a4, ?_, ?_, ?_, ?_, ?_, evAt_same (KK 83 (by omega)) (by omega) b0, evAt_same (KK 84 (by omega)) (by omega) b1, ?_, ?_, ?_, ?_, ?_, ?_, ?_, ?_, ?_, ?_, ?_, ?_⟩
    · rw [RR 0 0 (by omega), R3 0 0 (by omega), R2' 0 0 (by omega)]; rfl
    · rw [RR 0 1 (by omega), R3 0 1 (by omega)]; rfl
    · rw [RR 0 2 (by omega)]; rfl
    · rw [RR 0 3 (by omega)]; rfl
    · rw [RR 0 4 (by omega)]; rfl
    · rw [LL 84 (by omega)]; exact b2
    · rw [RR 83 0 (by omega)]; exact b3
    · intro i hi
      rw [RR 84 i (by omega), if_neg (by omega), if_neg (by omega), if_neg (by omega), if_neg (by omega), if_neg (by omega), if_neg (by omega), if_neg (by omega)]
      rw [show hb (2 + i) = 83 + 2 + 41 * i by unfold hb; rw [if_neg (by omega), if_pos (by omega)]; omega]
      exact (b4 i hi).2
    · exact evAt_of (by omega) (hO _ (by omega)) (KK 372 (by omega))
    · rw [RR 372 0 (by omega)]; rfl
    · exact evAt_of (by omega) (hO _ (by omega)) (KK 373 (by omega))
    · exact LL 373 (by omega)
    · exact evAt_of (by omega) (hO _ (by omega)) (KK 374 (by omega))
    · exact LL 374 (by omega)
    · intro k hk
      rw [RR 374 k (by omega), if_neg (by omega), if_pos rfl]; rfl
    · intro k i hk hs; cases hs
    · intro i hi
      by_cases h1 : i < 2
      · rcases (show i = 0 ∨ i = 1 by omega) with rfl | rfl
        · exact SM 1 (by omega) (by omega) HN
        · exact SM 42 (by omega) (by omega) HT
      · have e : hb i = 83 + 2 + 41 * (i - 2) := by unfold hb; rw [if_neg h1, if_pos (by omega)]
        rw [e]
        exact SM _ (by omega) (by omega) (b4 (i - 2) (by omega)).1
theorem some3 {r : Option Value} {h1 h2 : evH} {m1 m2 : evM} (e1 : h1 = h2) (e2 : m1 = m2) : some (r, h1, m1) = some (r, h2, m2) := by rw [e1, e2]
def mu0 : Nat → Nat → Int32 := fun o j => if o = 1 ∧ j = 0 then 1 else if o = 1 ∧ j = 1 then 5 else if o = 1 ∧ j = 2 then 2 else if o = 1 ∧ j = 7 then -6 else 0