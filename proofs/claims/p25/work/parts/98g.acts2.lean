/-! the law's acts: lots, plans, bids that are told -/
section AD
variable {h h' : evH} {p p' a b u : Nat → Nat → Int32} {V : Nat → evVt} {v : evVt} {n q T lag g tot L kd bb : Nat} {xs : Nat → Int32} {tn x y : Int32}
set_option maxHeartbeats 1000000 in
theorem ac_lot (H : lHd h u p a V n q T lag g tot L xs) (hq : q < 8) (hkd : kd < 4) (E : evL) (hE : fE E) : ∃ (p' a' u' : Nat → Nat → Int32) (V' : Nat → evVt) (E' : evL), evX 76 266 ([(0, .ref (evO9 + 2)), (1, .ref 0), (2, .ref 375), (3, .ref 376), (4, .ref 377), (5, .ref 378), (6, .ref 379), (7, .ref 380), (8, .ref 381), (9, .ref 382), (10, .ref 383), (11, .ref 384), (12, .int tn), (13, .int x), (14, .int y), (15, .int (nI kd)), (16, .int (nI bb))] ++ E) [] h (memW (two a b) p V 0) = evX 76 722 ([(0, .ref (evO9 + 2)), (1, .ref 0), (2, .ref 375), (3, .ref 376), (4, .ref 377), (5, .ref 378), (6, .ref 379), (7, .ref 380), (8, .ref 381), (9, .ref 382), (10, .ref 383), (11, .ref 384), (12, .int tn), (13, .int x), (14, .int y), (15, .int (nI kd)), (16, .int (nI bb))] ++ E') [] h (memW (two a' b) p' V' 0) ∧ fE E' ∧ lHd h u' p' a' V' n (q + 1) T lag g tot L xs := by
  obtain ⟨hn6, hv, hq8, hv1, h5, h6, -⟩ := hd_v H
  obtain ⟨hx, hsp, hL, P, I, hi, hk, hi7, hk6, p1, p2⟩ := H
  obtain ⟨t, ht, Lw⟩ := lw_n y (N := 120) (n := 120) rfl (by omega) (by omega)
  have g4 : ¬ (4 : Int32) ≤ nI kd := nI_ge (b := 4) hkd (by omega)
  have g8 : ¬ (8 : Int32) ≤ nI q := nI_ge (b := 8) hq (by omega)
  obtain ⟨i0_p, i0_c, i0_l⟩ := rdx (k := 7 * q) (n := 56) (by omega) (by decide)
  obtain ⟨i2_p, i2_c, i2_l⟩ := rdx (k := 7 * q + 2) (n := 56) (by omega) (by decide)
  obtain ⟨i3_p, i3_c, i3_l⟩ := rdx (k := 7 * q + 3) (n := 56) (by omega) (by decide)
  obtain ⟨i6_p, i6_c, i6_l⟩ := rdx (k := 7 * q + 6) (n := 56) (by omega) (by decide)
  have W := W_lot (u := two (ms (ms (ms (ms a 2 (7 * q) (nI t)) 2 (7 * q + 2) (-6)) 2 (7 * q + 3) (-6)) 2 (7 * q + 6) (-6)) b) (p := p) (V := V) hx.1 hq8 hv1 hi7 hk6 p1 p2 (nI t)
  have hu6 := P.1.1.1.1.2.2.2.2.2.1.2
  rcases lot_fu P.1 (nI t) with ⟨-, r1, r2⟩ | ⟨r0, -⟩
  · rw [r1] at W
    have hP' := lot_p (w := a) (v' := (clLot q (V 0) (nI t)).2) P hq (fun a' i' j' h1 h2 => by
      unfold clLot
      split
      · rfl
      · split
        · rfl
        · show vs (vs (V 0) 1 1 0 _) 4 q 0 _ a' i' j' = _
          rw [vs_at, if_neg (fun z => h1 ⟨z.1, z.2.2⟩), vs_at, if_neg (fun z => h2 ⟨z.1, z.2.1⟩)]) r2
    refine ⟨stP p hi hk (nI q), nlW a q (nI t), ltU u q (nI t), chW V hi (clLot q (V 0) (nI t)).2, e78 E (nI t) (nI (7 * q)), ?_, fE_78 hE _ _, hx, hsp, hL, by rw [chW_0]; exact hP', lI0_nl I hq P.2.2.2.1, st_p hi7 hk6 p1 p2 _⟩
    have a0 := hx.1.2.2.1
    have n02 : ¬ (0 : Nat) = 2 := by omega
    have eW : ms (ms (ms (ms (ms a 2 (7 * q) (nI t)) 2 (7 * q + 2) (-6)) 2 (7 * q + 3) (-6)) 2 (7 * q + 6) (-6)) 0 6 (nI (q + 1)) = nlW a q (nI t) := rfl
    obtain ⟨sa0, sn0, sa1, sn1, sa2, sn2, sa3, sn3, sa4, sn4, sa5, sn5, sa6, sn6, sa7, sn7, sa8, sn8, sa9, sn9⟩ := xP_a hx
    rcases hE with rfl | ⟨c, rfl⟩ | ⟨c, d, rfl⟩ | ⟨c, d, e, rfl⟩ <;>
      simp only [x76_266, x76_268, x76_269, x76_272, x76_273, x76_275, x76_275s, x76_276, x76_278, x76_281, x76_283, x76_285, x76_288, x76_290, x76_292, x76_293, x76_295, x76_295s, x76_296, x76_297, x76_299, x76_301, x76_303, x76_305, x76_306, x76_308, x76_310, x76_311, x76_312, x76_314, x76_315, x76_317, x76_319, x76_320, x76_321, x76_323, x76_324, x76_326, x76_328, x76_330, x76_331, x76_333, x76_334, x76_335, x76_337, x76_340, x76_341, x76_343, x76_344, x76_344s, x76_345, x76_346, x76_347, x76_348, x76_349, x76_352, x76_353_0, x76_353_1, x76_353b, x76_354, evI_i, evJl_i, evJf_i, evJd_i, evA_r, evA_n, evA_q, evLk_c, evS1_d, evS2_d, evFl_n, evFl_c, evGl_n, evGl_c, evIn_n, evIn_c, evCat_i, evCat_l, evCat_f, evCat_d, evCat_r, evCat_z, evCat_q, evBd_some, evTl_s, evTl_n, va_rf_s, va_rf_n, and_true, true_and, and_false, false_and, if_true, if_false, not_true_eq_false, not_false_eq_true, reduceCtorEq, ↓reduceIte, Nat.reduceAdd, Nat.reduceEqDiff, Nat.reduceLT, Nat.reduceLeDiff, Nat.reduceSub, Nat.zero_ne_one, Nat.one_ne_zero, sa0, sn0, sa1, sn1, sa2, sn2, sa3, sn3, sa4, sn4, sa5, sn5, sa6, sn6, sa7, sn7, sa8, sn8, sa9, sn9, mG0, mS0, mG1, mS1, mG2, mS2, mG3, mS3, mG4, mS4, mG5, mS5, mG6, mS6, mG7, mS7, mG8, mS8, mG9, mS9, lt0, lt1, lt2, lt3, lt4, lt5, lt6, lt7, lt8, lt9, lt10, lc0, lc1, lc2, lc3, lc4, lc5, lc6, lc7, lc8, lc9, lc10, tw0, tw1, tw2, tw3, tw4, tw5, tw6, tw7, tw8, tw9, tm0, tm1, tm2, tm5, tm6, h6, g4, g8, Lw, ms_at, n02, mul7, nA1, nA2, nA3, nA6, W, a0, eW, e78_0, e78_1, e78_2, e78_3, i0_p, i0_c, i0_l, i2_p, i2_c, i2_l, i3_p, i3_c, i3_l, i6_p, i6_c, i6_l, Option.toList, List.append_nil, List.nil_append, List.cons_append]
  · exfalso
    apply r0
    have w1 : wiB (nI t) 0 999 = true := by
      rw [wiB_t]
      rintro (w | w)
      · exact nI_pos (by omega) w
      · exact nI_nlt (a := 999) (by omega) (by omega) w
    have n8 : ¬ nI q = 8 := fun z => by
      have := (nI_eq (b := 8) (by omega) (by omega)).mp z
      omega
    unfold whyL
    rw [if_pos w1, hu6, if_neg n8]
set_option maxHeartbeats 1000000 in
theorem ac_plan (H : lHd h u p a V n q T lag g tot L xs) (hn : 1 ≤ n) (hb : bb < n) (E : evL) (hE : fE E) : ∃ (p' a' u' : Nat → Nat → Int32) (V' : Nat → evVt) (E' : evL), evX 76 357 ([(0, .ref (evO9 + 2)), (1, .ref 0), (2, .ref 375), (3, .ref 376), (4, .ref 377), (5, .ref 378), (6, .ref 379), (7, .ref 380), (8, .ref 381), (9, .ref 382), (10, .ref 383), (11, .ref 384), (12, .int tn), (13, .int x), (14, .int y), (15, .int (nI 4)), (16, .int (nI bb))] ++ E) [] h (memW (two a b) p V 0) = evX 76 722 ([(0, .ref (evO9 + 2)), (1, .ref 0), (2, .ref 375), (3, .ref 376), (4, .ref 377), (5, .ref 378), (6, .ref 379), (7, .ref 380), (8, .ref 381), (9, .ref 382), (10, .ref 383), (11, .ref 384), (12, .int tn), (13, .int x), (14, .int y), (15, .int (nI 4)), (16, .int (nI bb))] ++ E') [] h (memW (two a' b) p' V' 0) ∧ fE E' ∧ lHd h u' p' a' V' n q T lag g tot L xs := by
  obtain ⟨hn6, hv, hq8, hv1, h5, h6, hn3⟩ := hd_v H
  obtain ⟨hx, hsp, hL, P, I, hi, hk, hi7, hk6, p1, p2⟩ := H
  obtain ⟨t, ht, Lw⟩ := lw_n y (N := 201) (n := 201) rfl (by omega) (by omega)
  have z4 : nI 4 = 4 := rfl
  have hn0 : ¬ nI n = 0 := nI_ne0 (by omega) (by omega)
  have hc : (nI bb).toNatClampNeg = bb := nI_cl _ (by omega)
  obtain ⟨i1_p, i1_c, i1_l⟩ := rdx (k := 8 * bb + 1) (n := 24) (by omega) (by decide)
  have W := W_plan (u := two a b) (p := p) (V := V) hx.1 hn6 hv hi7 hk6 p1 p2 (nI bb) (nI t)
  have hcl : (clPlan (V 0) (nI bb) (nI t)).2 = vs (V 0) 2 bb 1 (nI t) := by
    have w2 : ¬ (nI t < 0 ∨ 200 < nI t) := by
      rintro (w | w)
      · exact nI_pos (by omega) w
      · exact nI_nlt (a := 200) (by omega) (by omega) w
    unfold clPlan
    rw [if_neg (by rw [bAt_in (b := 0) hb hn6 hv]; exact fun z => by cases z), if_neg w2, hc]
  rcases plan_fu P.1 (nI bb) (nI t) with ⟨-, -, r1, -, r2⟩ | ⟨-, z, -⟩ | ⟨z, -⟩
  · rw [hc, ← P.2.2.1.2.1 bb 1 hb (by omega)] at r1
    rw [r1] at W
    rw [hc, hcl] at r2
    have hP' := bid_p P hb (Or.inl rfl) (fun a' i' j' hh => by rw [vs_at, if_neg (fun z => hh z.1)]) r2
    refine ⟨stP p hi hk (a 1 (8 * bb + 1)), ms a 1 (8 * bb + 1) (nI t), ms u 1 (10 + 8 * bb + 1) (nI t), chW V hi (clPlan (V 0) (nI bb) (nI t)).2, e7 E (nI t), ?_, fE_7 hE _, hx, hsp, hL, by rw [chW_0, hcl]; exact hP', lI0_1 I, st_p hi7 hk6 p1 p2 _⟩
    have a0 := hx.1.2.2.1
    obtain ⟨sa0, sn0, sa1, sn1, sa2, sn2, sa3, sn3, sa4, sn4, sa5, sn5, sa6, sn6, sa7, sn7, sa8, sn8, sa9, sn9⟩ := xP_a hx
    rcases hE with rfl | ⟨c, rfl⟩ | ⟨c, d, rfl⟩ | ⟨c, d, e, rfl⟩ <;>
      simp only [x76_357, x76_359, x76_360, x76_363, x76_365, x76_368, x76_371, x76_373, x76_374, x76_376, x76_378, x76_381, x76_382, x76_383, x76_383s, x76_384, x76_387, x76_388, x76_391, x76_392, x76_394, x76_396, x76_397, x76_398, x76_399, x76_399s, x76_400, x76_403, x76_404_0, x76_404_1, x76_404b, x76_405, x76_406, x76_408, x76_410, x76_411, x76_412, x76_413, x76_414, x76_415, x76_415s, x76_416, x76_419, x76_420, x76_423, x76_425, x76_426, evI_i, evJl_i, evJf_i, evJd_i, evA_r, evA_n, evA_q, evLk_c, evS1_d, evS2_d, evFl_n, evFl_c, evGl_n, evGl_c, evIn_n, evIn_c, evCat_i, evCat_l, evCat_f, evCat_d, evCat_r, evCat_z, evCat_q, evBd_some, evTl_s, evTl_n, va_rf_s, va_rf_n, and_true, true_and, and_false, false_and, if_true, if_false, not_true_eq_false, not_false_eq_true, reduceCtorEq, ↓reduceIte, Nat.reduceAdd, Nat.reduceEqDiff, Nat.reduceLT, Nat.reduceLeDiff, Nat.reduceSub, Nat.zero_ne_one, Nat.one_ne_zero, sa0, sn0, sa1, sn1, sa2, sn2, sa3, sn3, sa4, sn4, sa5, sn5, sa6, sn6, sa7, sn7, sa8, sn8, sa9, sn9, mG0, mS0, mG1, mS1, mG2, mS2, mG3, mS3, mG4, mS4, mG5, mS5, mG6, mS6, mG7, mS7, mG8, mS8, mG9, mS9, lt0, lt1, lt2, lt3, lt4, lt5, lt6, lt7, lt8, lt9, lt10, lc0, lc1, lc2, lc3, lc4, lc5, lc6, lc7, lc8, lc9, lc10, tw0, tw1, tw2, tw3, tw4, tw5, tw6, tw7, tw8, tw9, tm0, tm1, tm2, tm5, tm6, z4, h5, hn0, Lw, mul8, nA1, W, a0, e7_0, e7_1, e7_2, e7_3, i1_p, i1_c, i1_l, Option.toList, List.append_nil, List.nil_append, List.cons_append]
  · exfalso
    have w2 : wiB (nI t) 0 200 = true := by
      rw [wiB_t]
      rintro (w | w)
      · exact nI_pos (by omega) w
      · exact nI_nlt (a := 200) (by omega) (by omega) w
    rw [w2] at z; cases z
  · rw [wiB_in (by omega) hb] at z; cases z
set_option maxHeartbeats 1000000 in
theorem ac_bid (H : lHd h u p a V n q T lag g tot L xs) (hn : 1 ≤ n) (hb : bb < n) (hkd : kd < 7) (E : evL) (hE : fE E) : ∃ (p' a' u' : Nat → Nat → Int32) (V' : Nat → evVt) (E' : evL), evX 76 429 ([(0, .ref (evO9 + 2)), (1, .ref 0), (2, .ref 375), (3, .ref 376), (4, .ref 377), (5, .ref 378), (6, .ref 379), (7, .ref 380), (8, .ref 381), (9, .ref 382), (10, .ref 383), (11, .ref 384), (12, .int tn), (13, .int x), (14, .int y), (15, .int (nI kd)), (16, .int (nI bb))] ++ E) [] h (memW (two a b) p V 0) = evX 76 722 ([(0, .ref (evO9 + 2)), (1, .ref 0), (2, .ref 375), (3, .ref 376), (4, .ref 377), (5, .ref 378), (6, .ref 379), (7, .ref 380), (8, .ref 381), (9, .ref 382), (10, .ref 383), (11, .ref 384), (12, .int tn), (13, .int x), (14, .int y), (15, .int (nI kd)), (16, .int (nI bb))] ++ E') [] h (memW (two a' b) p' V' 0) ∧ fE E' ∧ lHd h u' p' a' V' n q T lag g tot L xs := by
  obtain ⟨hn6, hv, hq8, hv1, h5, h6, hn3⟩ := hd_v H
  obtain ⟨hx, hsp, hL, P, I, hi, hk, hi7, hk6, p1, p2⟩ := H
  obtain ⟨k0, hk0, Lw0⟩ := lw_n (x >>> (6 &&& 31)) (N := 5) (n := 5) rfl (by omega) (by omega)
  obtain ⟨t, ht, e1⟩ : ∃ pu, pu < 9999 ∧ ((k0 = 0 ∧ ∀ (h : evH) (m : evM), evX 65 0 [(0, .int y), (1, .int 9999)] [] h m = some (some (.int (nI pu)), h, m)) ∨ (¬ k0 = 0 ∧ ∀ (h : evH) (m : evM), evX 65 0 [(0, .int y), (1, .int 150)] [] h m = some (some (.int (nI pu)), h, m))) := by
    by_cases h0 : k0 = 0
    · obtain ⟨k, hk, e⟩ := lw_n y (N := 9999) (n := 9999) rfl (by omega) (by omega)
      exact ⟨k, by omega, Or.inl ⟨h0, e⟩⟩
    · obtain ⟨k, hk, e⟩ := lw_n y (N := 150) (n := 150) rfl (by omega) (by omega)
      exact ⟨k, by omega, Or.inr ⟨h0, e⟩⟩
  have g7 : ¬ (7 : Int32) ≤ nI kd := nI_ge (b := 7) hkd (by omega)
  have z00 : nI 0 = 0 := rfl
  have hn0 : ¬ nI n = 0 := nI_ne0 (by omega) (by omega)
  have hc : (nI bb).toNatClampNeg = bb := nI_cl _ (by omega)
  obtain ⟨i7_p, i7_c, i7_l⟩ := rdx (k := 8 * bb + 7) (n := 24) (by omega) (by decide)
  have W := W_bid (u := two a b) (p := p) (V := V) hx.1 hn6 hv hi7 hk6 p1 p2 (nI bb) (nI (t + 1))
  have hcl : (clTold (V 0) (nI bb) (nI (t + 1))).2 = vs (V 0) 2 bb 2 (nI (t + 1)) := by
    have w2 : ¬ (nI (t + 1) < 1 ∨ 9999 < nI (t + 1)) := by
      rintro (w | w)
      · exact nI_nlt (b := 1) (by omega) (by omega) w
      · exact nI_nlt (a := 9999) (by omega) (by omega) w
    unfold clTold
    rw [if_neg (by rw [bAt_in (b := 0) hb hn6 hv]; exact fun z => by cases z), if_neg w2, hc]
  have hu5 := P.1.1.1.1.2.2.2.2.1.2
  rcases told_fu P.1 (nI bb) (nI (t + 1)) with ⟨-, r1, -, -, r2⟩ | ⟨r0, -⟩
  · rw [hc, ← P.2.2.1.2.1 bb 7 hb (by omega)] at r1
    rw [r1] at W
    rw [hc, hcl] at r2
    have hP' := bid_p P hb (Or.inr rfl) (fun a' i' j' hh => by rw [vs_at, if_neg (fun z => hh z.1)]) r2
    refine ⟨stP p hi hk (a 1 (8 * bb + 7)), ms a 1 (8 * bb + 7) (nI (t + 1)), ms u 1 (10 + 8 * bb + 7) (nI (t + 1)), chW V hi (clTold (V 0) (nI bb) (nI (t + 1))).2, e7 E (nI (t + 1)), ?_, fE_7 hE _, hx, hsp, hL, by rw [chW_0, hcl]; exact hP', lI0_1 I, st_p hi7 hk6 p1 p2 _⟩
    have a0 := hx.1.2.2.1
    obtain ⟨sa0, sn0, sa1, sn1, sa2, sn2, sa3, sn3, sa4, sn4, sa5, sn5, sa6, sn6, sa7, sn7, sa8, sn8, sa9, sn9⟩ := xP_a hx
    rcases e1 with ⟨k00, e1⟩ | ⟨k00, e1⟩
    · subst k00
      rcases hE with rfl | ⟨c, rfl⟩ | ⟨c, d, rfl⟩ | ⟨c, d, e, rfl⟩ <;>
        simp only [x76_429, x76_431, x76_433, x76_436, x76_437, x76_439, x76_441, x76_443, x76_444, x76_445, x76_448, x76_451, x76_454, x76_457, x76_460, x76_463, x76_464, x76_466, x76_467, x76_469, x76_471, x76_474, x76_475, x76_476, x76_476s, x76_477, x76_480, x76_481, x76_484, x76_485, x76_487, x76_489, x76_490, x76_492, x76_493, x76_493s, x76_494, x76_497, x76_498_0, x76_498_1, x76_498b, x76_499, x76_500, x76_502, x76_504, x76_505, x76_507, x76_508, x76_509, x76_510, x76_510s, x76_511, x76_514, x76_515, x76_518, x76_520, x76_521, evI_i, evJl_i, evJf_i, evJd_i, evA_r, evA_n, evA_q, evLk_c, evS1_d, evS2_d, evFl_n, evFl_c, evGl_n, evGl_c, evIn_n, evIn_c, evCat_i, evCat_l, evCat_f, evCat_d, evCat_r, evCat_z, evCat_q, evBd_some, evTl_s, evTl_n, va_rf_s, va_rf_n, and_true, true_and, and_false, false_and, if_true, if_false, not_true_eq_false, not_false_eq_true, reduceCtorEq, ↓reduceIte, Nat.reduceAdd, Nat.reduceEqDiff, Nat.reduceLT, Nat.reduceLeDiff, Nat.reduceSub, Nat.zero_ne_one, Nat.one_ne_zero, sa0, sn0, sa1, sn1, sa2, sn2, sa3, sn3, sa4, sn4, sa5, sn5, sa6, sn6, sa7, sn7, sa8, sn8, sa9, sn9, mG0, mS0, mG1, mS1, mG2, mS2, mG3, mS3, mG4, mS4, mG5, mS5, mG6, mS6, mG7, mS7, mG8, mS8, mG9, mS9, lt0, lt1, lt2, lt3, lt4, lt5, lt6, lt7, lt8, lt9, lt10, lc0, lc1, lc2, lc3, lc4, lc5, lc6, lc7, lc8, lc9, lc10, tw0, tw1, tw2, tw3, tw4, tw5, tw6, tw7, tw8, tw9, tm0, tm1, tm2, tm5, tm6, z00, g7, h5, hn0, Lw0, e1, oneA, mul8, nA7, W, a0, e7_0, e7_1, e7_2, e7_3, i7_p, i7_c, i7_l, Option.toList, List.append_nil, List.nil_append, List.cons_append]
    · have kn0 : ¬ nI k0 = 0 := nI_ne0 (by omega) (by omega)
      rcases hE with rfl | ⟨c, rfl⟩ | ⟨c, d, rfl⟩ | ⟨c, d, e, rfl⟩ <;>
        simp only [x76_429, x76_431, x76_433, x76_436, x76_437, x76_439, x76_441, x76_443, x76_444, x76_445, x76_448, x76_451, x76_454, x76_457, x76_460, x76_463, x76_464, x76_466, x76_467, x76_469, x76_471, x76_474, x76_475, x76_476, x76_476s, x76_477, x76_480, x76_481, x76_484, x76_485, x76_487, x76_489, x76_490, x76_492, x76_493, x76_493s, x76_494, x76_497, x76_498_0, x76_498_1, x76_498b, x76_499, x76_500, x76_502, x76_504, x76_505, x76_507, x76_508, x76_509, x76_510, x76_510s, x76_511, x76_514, x76_515, x76_518, x76_520, x76_521, evI_i, evJl_i, evJf_i, evJd_i, evA_r, evA_n, evA_q, evLk_c, evS1_d, evS2_d, evFl_n, evFl_c, evGl_n, evGl_c, evIn_n, evIn_c, evCat_i, evCat_l, evCat_f, evCat_d, evCat_r, evCat_z, evCat_q, evBd_some, evTl_s, evTl_n, va_rf_s, va_rf_n, and_true, true_and, and_false, false_and, if_true, if_false, not_true_eq_false, not_false_eq_true, reduceCtorEq, ↓reduceIte, Nat.reduceAdd, Nat.reduceEqDiff, Nat.reduceLT, Nat.reduceLeDiff, Nat.reduceSub, Nat.zero_ne_one, Nat.one_ne_zero, sa0, sn0, sa1, sn1, sa2, sn2, sa3, sn3, sa4, sn4, sa5, sn5, sa6, sn6, sa7, sn7, sa8, sn8, sa9, sn9, mG0, mS0, mG1, mS1, mG2, mS2, mG3, mS3, mG4, mS4, mG5, mS5, mG6, mS6, mG7, mS7, mG8, mS8, mG9, mS9, lt0, lt1, lt2, lt3, lt4, lt5, lt6, lt7, lt8, lt9, lt10, lc0, lc1, lc2, lc3, lc4, lc5, lc6, lc7, lc8, lc9, lc10, tw0, tw1, tw2, tw3, tw4, tw5, tw6, tw7, tw8, tw9, tm0, tm1, tm2, tm5, tm6, kn0, g7, h5, hn0, Lw0, e1, oneA, mul8, nA7, W, a0, e7_0, e7_1, e7_2, e7_3, i7_p, i7_c, i7_l, Option.toList, List.append_nil, List.nil_append, List.cons_append]
  · exfalso
    apply r0
    have w2 : wiB (nI (t + 1)) 1 9999 = true := by
      rw [wiB_t]
      rintro (w | w)
      · exact nI_nlt (b := 1) (by omega) (by omega) w
      · exact nI_nlt (a := 9999) (by omega) (by omega) w
    unfold whyT
    rw [hu5, if_pos (wiB_in (by omega) hb), if_pos w2]
end AD
