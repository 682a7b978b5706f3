/-! what-ifs: the best plan -/
section WH2
variable {h h' : evH} {p p' a b u : Nat → Nat → Int32} {V : Nat → evVt} {v : evVt} {n q T lag g tot : Nat} {x : Int32}
def lD (gn : Nat → Int32) : Nat → Int32 × Int32
  | 0 => (0, -99999)
  | d + 1 => if gn (20 - d) < (lD gn d).2 then lD gn d else (nI (10 * (20 - d)), gn (20 - d))
theorem lD_s (gn : Nat → Int32) (d : Nat) : lD gn (d + 1) = if gn (20 - d) < (lD gn d).2 then lD gn d else (nI (10 * (20 - d)), gn (20 - d)) := rfl
theorem bs_ch (n : Nat) (v : evVt) (k j : Nat) : ∃ i, i ≤ j ∧ bsC n v k j = (nI (10 * i), gnC n v k (nI (10 * i))) ∧ (∀ m, m ≤ j → (gnC n v k (nI (10 * m))).toInt ≤ (gnC n v k (nI (10 * i))).toInt) ∧ ∀ m, m < i → (gnC n v k (nI (10 * m))).toInt < (gnC n v k (nI (10 * i))).toInt := by
  induction j with
  | zero =>
    refine ⟨0, Nat.le_refl 0, rfl, fun m hm => ?_, fun m hm => absurd hm (Nat.not_lt_zero m)⟩
    obtain rfl : m = 0 := by omega
    exact Int.le_refl _
  | succ j ih =>
    obtain ⟨i, h1, h2, h3, h4⟩ := ih
    have e : bsC n v k (j + 1) = if (bsC n v k j).2 < gnC n v k (nI (10 * (j + 1))) then (nI (10 * (j + 1)), gnC n v k (nI (10 * (j + 1)))) else bsC n v k j := rfl
    rw [e, h2]
    by_cases hc : gnC n v k (nI (10 * i)) < gnC n v k (nI (10 * (j + 1)))
    · rw [if_pos hc]
      rw [Int32.lt_iff_toInt_lt] at hc
      refine ⟨j + 1, Nat.le_refl _, rfl, fun m hm => ?_, fun m hm => ?_⟩
      · by_cases hmj : m = j + 1
        · rw [hmj]; exact Int.le_refl _
        · have := h3 m (by omega); omega
      · have := h3 m (by omega); omega
    · rw [if_neg hc]
      rw [Int32.lt_iff_toInt_lt] at hc
      refine ⟨i, by omega, rfl, fun m hm => ?_, h4⟩
      by_cases hmj : m = j + 1
      · rw [hmj]; omega
      · exact h3 m (by omega)
theorem ld_ch (gn : Nat → Int32) (h0 : ¬ gn 20 < -99999) (d : Nat) (hd : d ≤ 20) : ∃ i, 20 - d ≤ i ∧ i ≤ 20 ∧ lD gn (d + 1) = (nI (10 * i), gn i) ∧ (∀ m, 20 - d ≤ m → m ≤ 20 → (gn m).toInt ≤ (gn i).toInt) ∧ ∀ m, 20 - d ≤ m → m < i → (gn m).toInt < (gn i).toInt := by
  induction d with
  | zero =>
    refine ⟨20, by omega, by omega, ?_, fun m h1 h2 => ?_, fun m h1 h2 => by omega⟩
    · rw [lD_s]
      show (if gn 20 < -99999 then _ else _) = _
      rw [if_neg h0]
    · obtain rfl : m = 20 := by omega
      exact Int.le_refl _
  | succ d ih =>
    obtain ⟨i, h1, h2, h3, h4, h5⟩ := ih (by omega)
    rw [lD_s, h3]
    by_cases hc : gn (20 - (d + 1)) < gn i
    · rw [if_pos hc]
      rw [Int32.lt_iff_toInt_lt] at hc
      refine ⟨i, by omega, h2, rfl, fun m x1 x2 => ?_, fun m x1 x2 => ?_⟩
      · by_cases hm : m = 20 - (d + 1)
        · rw [hm]; omega
        · exact h4 m (by omega) x2
      · by_cases hm : m = 20 - (d + 1)
        · rw [hm]; exact hc
        · exact h5 m (by omega) x2
    · rw [if_neg hc]
      rw [Int32.lt_iff_toInt_lt] at hc
      refine ⟨20 - (d + 1), Nat.le_refl _, by omega, rfl, fun m x1 x2 => ?_, fun m x1 x2 => by omega⟩
      by_cases hm : m = 20 - (d + 1)
      · rw [hm]; exact Int.le_refl _
      · have := h4 m (by omega) x2; omega
theorem ld_bs (n : Nat) (v : evVt) (k : Nat) (h0 : ¬ gnC n v k (nI (10 * 20)) < -99999) : lD (fun i => gnC n v k (nI (10 * i))) 21 = bsC n v k 20 := by
  obtain ⟨i, h1, h2, h3, h4⟩ := bs_ch n v k 20
  obtain ⟨j, g0, g1, g2, g3, g4⟩ := ld_ch (fun i => gnC n v k (nI (10 * i))) h0 20 (Nat.le_refl 20)
  rw [h2, g2]
  have e : i = j := by
    rcases Nat.lt_or_ge i j with z | z
    · have z1 := g4 i (by omega) z
      have z2 := h3 j (by omega)
      have z1' : (gnC n v k (nI (10 * i))).toInt < (gnC n v k (nI (10 * j))).toInt := z1
      omega
    · rcases Nat.lt_or_ge j i with y | y
      · have z1 := h4 j y
        have z2 := g3 i (by omega) (by omega)
        have z2' : (gnC n v k (nI (10 * i))).toInt ≤ (gnC n v k (nI (10 * j))).toInt := z2
        omega
      · omega
  rw [e]
theorem out_fu {u : Nat → Nat → Int32} (H : rFu v (u 1) n q T lag g tot) (k : Nat) (hT : T + k < 2 ^ 20) : ∃ (u' : Nat → Nat → Int32) (T' g' t' : Nat), T' ≤ T + k ∧ rFu (outV n v k) (u' 1) n q T' lag g' t' := by
  induction k with
  | zero => exact ⟨u, T, g, tot, Nat.le_refl _, H⟩
  | succ k ih =>
    obtain ⟨u', T', g', t', h1, h2⟩ := ih (by omega)
    rw [outV_s]
    split
    · obtain ⟨-, g2, t2, h3⟩ := play_fu h2 (by omega)
      exact ⟨_, T' + 1, g2, t2, by omega, h3⟩
    · exact ⟨u', T', g', t', by omega, h2⟩
theorem gain_ge {r r' : Nat → Int32} {v' : evVt} {T' lag' g' tot' : Nat} (H : rFu v r n q T lag g tot) (H' : rFu v' r' n q T' lag' g' tot') {k : Nat} (hk : k < 6) : ¬ v' 2 k 5 - v' 2 k 4 - (v 2 k 5 - v 2 k 4) < -99999 := by
  have e : ∀ {v : evVt} {r : Nat → Int32} {T lag g tot : Nat}, rFu v r n q T lag g tot → 0 ≤ (v 2 k 4).toInt ∧ (v 2 k 4).toInt ≤ 79992 ∧ 0 ≤ (v 2 k 5).toInt ∧ (v 2 k 5).toInt ≤ 7992 := fun {v r T lag g tot} P => by
    have hg8 : g ≤ 8 := by have h1 := P.1.1.2.2.1.1; have h2 := P.1.1.1.2.1; omega
    have hbd := P.2
    unfold rBE at hbd
    obtain ⟨b1, b2, b3, b4, b5, b6, -⟩ := hbd.2.1 k hk
    have hG : (if v 1 3 0 = -6 then g else g - 1) ≤ 8 := by split <;> omega
    exact ⟨b3, by omega, b5, by omega⟩
  obtain ⟨a3, a4, a5, a6⟩ := e H
  obtain ⟨c3, c4, c5, c6⟩ := e H'
  have s1 : (v' 2 k 5 - v' 2 k 4).toInt = (v' 2 k 5).toInt - (v' 2 k 4).toInt := ti_sub (by omega) (by omega)
  have s2 : (v 2 k 5 - v 2 k 4).toInt = (v 2 k 5).toInt - (v 2 k 4).toInt := ti_sub (by omega) (by omega)
  have s3 : (v' 2 k 5 - v' 2 k 4 - (v 2 k 5 - v 2 k 4)).toInt = (v' 2 k 5 - v' 2 k 4).toInt - (v 2 k 5 - v 2 k 4).toInt := ti_sub (by omega) (by omega)
  have s4 : (-99999 : Int32).toInt = -99999 := rfl
  rw [Int32.lt_iff_toInt_lt]
  omega
/-- a gain, by the rows -/
theorem gain_p (P : pRel v u a n q T lag g tot) {v' : evVt} {u' b : Nat → Nat → Int32} {T' lag' g' tot' : Nat} (P' : pRel v' u' b n q T' lag' g' tot') {k : Nat} (hk : k < n) : ((b 1 (8 * k + 4) - a 1 (8 * k + 4)) - b 1 (8 * k + 3)) + a 1 (8 * k + 3) = v' 2 k 5 - v' 2 k 4 - (v 2 k 5 - v 2 k 4) ∧ ¬ v' 2 k 5 - v' 2 k 4 - (v 2 k 5 - v 2 k 4) < -99999 := by
  have e : ∀ {v : evVt} {u a : Nat → Nat → Int32} {T lag g tot : Nat}, pRel v u a n q T lag g tot → a 1 (8 * k + 4) = v 2 k 5 ∧ a 1 (8 * k + 3) = v 2 k 4 ∧ 0 ≤ (v 2 k 4).toInt ∧ (v 2 k 4).toInt ≤ 79992 ∧ 0 ≤ (v 2 k 5).toInt ∧ (v 2 k 5).toInt ≤ 7992 := fun {v u a T lag g tot} P => by
    have HE := P.2.2.1
    have HB := P.1.1.1.2.1
    have hg8 : g ≤ 8 := by have h1 := P.1.1.1.2.2.1.1; have h2 := P.1.1.1.1.2.1; omega
    have hbd := P.1.2
    unfold rBE at hbd
    have hn3 := P.2.1.1
    obtain ⟨b1, b2, b3, b4, b5, b6, -⟩ := hbd.2.1 k (by omega)
    have hG : (if v 1 3 0 = -6 then g else g - 1) ≤ 8 := by split <;> omega
    refine ⟨(HE.2.1 k 4 hk (by omega)).trans (HB.1 k 4 hk (by omega)), (HE.2.1 k 3 hk (by omega)).trans (HB.1 k 3 hk (by omega)), b3, by omega, b5, by omega⟩
  obtain ⟨a1, a2, a3, a4, a5, a6⟩ := e P
  obtain ⟨c1, c2, c3, c4, c5, c6⟩ := e P'
  refine ⟨?_, ?_⟩
  · rw [a1, a2, c1, c2]
    grind
  · have s1 : (v' 2 k 5 - v' 2 k 4).toInt = (v' 2 k 5).toInt - (v' 2 k 4).toInt := ti_sub (by omega) (by omega)
    have s2 : (v 2 k 5 - v 2 k 4).toInt = (v 2 k 5).toInt - (v 2 k 4).toInt := ti_sub (by omega) (by omega)
    have s3 : (v' 2 k 5 - v' 2 k 4 - (v 2 k 5 - v 2 k 4)).toInt = (v' 2 k 5 - v' 2 k 4).toInt - (v 2 k 5 - v 2 k 4).toInt := ti_sub (by omega) (by omega)
    have s4 : (-99999 : Int32).toInt = -99999 := rfl
    rw [Int32.lt_iff_toInt_lt]
    omega
def planI (d : Nat) : Int32 := if d ≤ 20 then nI (10 * (20 - d)) else -10
theorem planI_s {d : Nat} (hd : d ≤ 20) : planI d + (-10) = planI (d + 1) := by
  have key : ∀ d ≤ 20, planI d + (-10) = planI (d + 1) := by decide
  exact key d hd
theorem planI_at {d : Nat} (hd : d ≤ 20) : planI d = nI (10 * (20 - d)) := if_pos hd
theorem or_01 {m y : Int32} (hm : m = 0 ∨ m = 1) (hy : y = 0 ∨ y = 1) : (m ||| y = 0 ∨ m ||| y = 1) ∧ (m ||| y = 0 → m = 0 ∧ y = 0) := by
  rcases hm with rfl | rfl <;> rcases hy with rfl | rfl <;> decide
theorem plan_pp (P : pRel v u a n q T lag g tot) {k : Nat} (hk : k < n) {i : Nat} (hi : i ≤ 20) : pRel (vs v 2 k 1 (nI (10 * i))) (ms u 1 (10 + 8 * k + 1) (nI (10 * i))) (ms a 1 (8 * k + 1) (nI (10 * i))) n q T lag g tot := by
  have n1 := P.1.1.1.1.1
  have hv := P.1.1.1.1.2.2.2.2.1.1
  have hw1 : wiB (nI k) 0 (nI n - 1) = true := wiB_in (by omega) hk
  have hw2 : wiB (nI (10 * i)) 0 200 = true := by
    have key : ∀ i ≤ 20, wiB (nI (10 * i)) 0 200 = true := by decide
    exact key i hi
  have hc : (nI k).toNatClampNeg = k := nI_cl _ (by omega)
  have hcl : (clPlan v (nI k) (nI (10 * i))).2 = vs v 2 k 1 (nI (10 * i)) := by
    unfold clPlan
    rw [if_neg (by rw [bAt_in (b := 0) hk n1 hv]; exact fun z => by cases z), if_neg ((wiB_t _ _ _).mp hw2), hc]
  rcases plan_fu P.1 (nI k) (nI (10 * i)) with ⟨-, -, -, -, hF⟩ | ⟨-, z, -⟩ | ⟨z, -⟩
  · rw [hc, hcl] at hF
    exact bid_p P hk (Or.inl rfl) (fun a' i' j' hh => by rw [vs_at, if_neg (fun z => hh z.1)]) hF
  · rw [hw2] at z; cases z
  · rw [hw1] at z; cases z
set_option maxHeartbeats 1000000 in
theorem wo_step (hx : xP h) (hN2 : evN h + 1000 < 900000000) (P : pRel (V 0) u a n q T lag g tot) (I : lI a n q) (hT : T + 1001 < 16000) {k : Nat} (hk : k < n) {d : Nat} (hd : d ≤ 20) (c1 c2 c3 c4 bp mo more : Int32) (hm : more = 0 ∨ more = 1) (hl : more = 0 → (bp, mo) = lD (fun i => gnC n (V 0) k (nI (10 * i))) d) (E : evL) (hE : E = [] ∨ ∃ z, E = [(21, .int z)]) : ∃ (h' : evH) (p' b' : Nat → Nat → Int32) (bp' mo' more' : Int32) (E' : evL), (E' = [] ∨ ∃ z, E' = [(21, .int z)]) ∧ evX 75 284 ([(0, .ref 0), (1, .int x), (2, .ref 375), (3, .ref 376), (4, .ref 377), (5, .ref 378), (6, .ref 379), (7, .ref 380), (8, .ref 381), (9, .ref 382), (10, .ref 383), (11, .ref 384), (12, .int c1), (13, .int c2), (14, .int c3), (15, .int c4), (16, .int (nI k)), (17, .int bp), (18, .int mo), (19, .int more), (20, .int (planI d))] ++ E) [] h (memW (two a b) p V 0) = evX 75 284 ([(0, .ref 0), (1, .int x), (2, .ref 375), (3, .ref 376), (4, .ref 377), (5, .ref 378), (6, .ref 379), (7, .ref 380), (8, .ref 381), (9, .ref 382), (10, .ref 383), (11, .ref 384), (12, .int c1), (13, .int c2), (14, .int c3), (15, .int c4), (16, .int (nI k)), (17, .int bp'), (18, .int mo'), (19, .int more'), (20, .int (planI (d + 1)))] ++ E') [] h' (memW (two a b') p' V 0) ∧ wGr 1000 h h' ∧ pK p p' ∧ (more' = 0 ∨ more' = 1) ∧ (more' = 0 → (bp', mo') = lD (fun i => gnC n (V 0) k (nI (10 * i))) (d + 1)) := by
  have hn3 := P.2.1.1
  have ec := W_lcopy (p := p) (V := V) (a := a) (b := b) hx
  have hp0 : ¬ planI d < 0 := by rw [planI_at hd]; exact nI_pos (by omega)
  obtain ⟨i1_p, i1_c, i1_l⟩ := rdx (k := 8 * k + 1) (n := 24) (by omega) (by decide)
  obtain ⟨i3_p, i3_c, i3_l⟩ := rdx (k := 8 * k + 3) (n := 24) (by omega) (by decide)
  obtain ⟨i4_p, i4_c, i4_l⟩ := rdx (k := 8 * k + 4) (n := 24) (by omega) (by decide)
  have P2 := plan_pp P hk (i := 20 - d) (by omega)
  rw [← planI_at hd] at P2
  have lkm : lkW (ms a 1 (8 * k + 1) (planI d)) (ms (cpB a b) 1 (8 * k + 1) (planI d)) := fun o i ho hi => by
    rw [ms_at, ms_at, lk_cp a b o i ho hi]
  have I2 : lI (ms a 1 (8 * k + 1) (planI d)) n q := by
    obtain ⟨i1, i2, i3, i4, i5, i6, i7, i8⟩ := I
    refine ⟨i1, i2, i3, by rw [ms_at, if_neg (by omega)]; exact i4, by rw [ms_at, if_neg (by omega)]; exact i5, by rw [ms_at, if_neg (by omega)]; exact i6, by rw [ms_at, if_neg (by omega)]; exact i7, fun l hl => ?_⟩
    rw [ms_at, if_neg (by omega), ms_at, if_neg (by omega)]
    exact i8 l hl
  obtain ⟨h1, p1, b1, k1, e1, G1, K1, -, Q1⟩ := wo_plan (x := x) (V := V) (a := a) (T0 := T) (v := vs (V 0) 2 k 1 (planI d)) (c1 := c1) (c2 := c2) (c3 := c3) (c4 := c4) (c5 := nI k) (c6 := bp) (c7 := mo) (c8 := more) (c9 := planI d) (by omega) 1000 0 h p (ms (cpB a b) 1 (8 * k + 1) (planI d)) (by omega) hx hN2 (qR_of P2 I2 lkm)
  have st : evX 75 284 ([(0, .ref 0), (1, .int x), (2, .ref 375), (3, .ref 376), (4, .ref 377), (5, .ref 378), (6, .ref 379), (7, .ref 380), (8, .ref 381), (9, .ref 382), (10, .ref 383), (11, .ref 384), (12, .int c1), (13, .int c2), (14, .int c3), (15, .int c4), (16, .int (nI k)), (17, .int bp), (18, .int mo), (19, .int more), (20, .int (planI d))] ++ E) [] h (memW (two a b) p V 0) = evX 75 325 [(0, .ref 0), (1, .int x), (2, .ref 375), (3, .ref 376), (4, .ref 377), (5, .ref 378), (6, .ref 379), (7, .ref 380), (8, .ref 381), (9, .ref 382), (10, .ref 383), (11, .ref 384), (12, .int c1), (13, .int c2), (14, .int c3), (15, .int c4), (16, .int (nI k)), (17, .int bp), (18, .int mo), (19, .int more), (20, .int (planI d)), (21, .int (nI 0))] [] h (memW (two a (ms (cpB a b) 1 (8 * k + 1) (planI d))) p V 0) := by
    obtain ⟨sa0, sn0, sa1, sn1, sa2, sn2, sa3, sn3, sa4, sn4, sa5, sn5, sa6, sn6, sa7, sn7, sa8, sn8, sa9, sn9⟩ := xP_a hx
    rcases hE with rfl | ⟨z, rfl⟩
    · conv => lhs; rw [List.append_nil, x75_284]
      simp only [x75_286, x75_289, x75_290, x75_291, x75_293, x75_295, x75_297, x75_299, x75_301, x75_303, x75_305, x75_307, x75_310, x75_312, x75_314, x75_316, x75_317, x75_318, x75_319, x75_321, x75_322, x75_323, evI_i, evJl_i, evJf_i, evJd_i, evA_r, evA_n, evA_q, evLk_c, evS1_d, evS2_d, evFl_n, evFl_c, evGl_n, evGl_c, evIn_n, evIn_c, evCat_i, evCat_l, evCat_f, evCat_d, evCat_r, evCat_z, evCat_q, evBd_some, evTl_s, evTl_n, va_rf_s, va_rf_n, and_true, true_and, and_false, false_and, if_true, if_false, not_true_eq_false, not_false_eq_true, reduceCtorEq, ↓reduceIte, Nat.reduceAdd, Nat.reduceEqDiff, Nat.reduceLT, Nat.reduceLeDiff, Nat.reduceSub, Nat.zero_ne_one, Nat.one_ne_zero, sa0, sn0, sa1, sn1, sa2, sn2, sa3, sn3, sa4, sn4, sa5, sn5, sa6, sn6, sa7, sn7, sa8, sn8, sa9, sn9, mG0, mS0, mG1, mS1, mG2, mS2, mG3, mS3, mG4, mS4, mG5, mS5, mG6, mS6, mG7, mS7, mG8, mS8, mG9, mS9, lt0, lt1, lt2, lt3, lt4, lt5, lt6, lt7, lt8, lt9, lt10, lc0, lc1, lc2, lc3, lc4, lc5, lc6, lc7, lc8, lc9, lc10, tw0, tw1, tw2, tw3, tw4, tw5, tw6, tw7, tw8, tw9, tm0, tm1, tm2, tm5, tm6, hp0, ec, mul8, nA1, i1_p, i1_c, i1_l, Option.toList, List.nil_append, List.cons_append]
      rfl
    · conv => lhs; simp only [List.cons_append, List.nil_append]; rw [x75_284]
      simp only [x75_286, x75_289, x75_290, x75_291, x75_293, x75_295, x75_297, x75_299, x75_301, x75_303, x75_305, x75_307, x75_310, x75_312, x75_314, x75_316, x75_317, x75_318, x75_319, x75_321, x75_322, x75_323, evI_i, evJl_i, evJf_i, evJd_i, evA_r, evA_n, evA_q, evLk_c, evS1_d, evS2_d, evFl_n, evFl_c, evGl_n, evGl_c, evIn_n, evIn_c, evCat_i, evCat_l, evCat_f, evCat_d, evCat_r, evCat_z, evCat_q, evBd_some, evTl_s, evTl_n, va_rf_s, va_rf_n, and_true, true_and, and_false, false_and, if_true, if_false, not_true_eq_false, not_false_eq_true, reduceCtorEq, ↓reduceIte, Nat.reduceAdd, Nat.reduceEqDiff, Nat.reduceLT, Nat.reduceLeDiff, Nat.reduceSub, Nat.zero_ne_one, Nat.one_ne_zero, sa0, sn0, sa1, sn1, sa2, sn2, sa3, sn3, sa4, sn4, sa5, sn5, sa6, sn6, sa7, sn7, sa8, sn8, sa9, sn9, mG0, mS0, mG1, mS1, mG2, mS2, mG3, mS3, mG4, mS4, mG5, mS5, mG6, mS6, mG7, mS7, mG8, mS8, mG9, mS9, lt0, lt1, lt2, lt3, lt4, lt5, lt6, lt7, lt8, lt9, lt10, lc0, lc1, lc2, lc3, lc4, lc5, lc6, lc7, lc8, lc9, lc10, tw0, tw1, tw2, tw3, tw4, tw5, tw6, tw7, tw8, tw9, tm0, tm1, tm2, tm5, tm6, hp0, ec, mul8, nA1, i1_p, i1_c, i1_l, Option.toList, List.nil_append, List.cons_append]
      rfl
  rw [st, e1]
  have hx1 := xP_gr hx G1
  obtain ⟨o1, o2⟩ := or_01 hm Q1.2.1
  have gn : b1 0 10 = 0 → ((b1 1 (8 * k + 4) - a 1 (8 * k + 4)) - b1 1 (8 * k + 3)) + a 1 (8 * k + 3) = gnC n (V 0) k (nI (10 * (20 - d))) := fun z => by
    obtain ⟨u', T', lag2, g2, tot2, hT', P'⟩ := Q1.2.2 z
    rw [(gain_p P P' hk).1, planI_at hd]
    rfl
  obtain ⟨sa0, sn0, sa1, sn1, sa2, sn2, sa3, sn3, sa4, sn4, sa5, sn5, sa6, sn6, sa7, sn7, sa8, sn8, sa9, sn9⟩ := xP_a hx1
  have ps := planI_s hd
  generalize hgn : ((b1 1 (8 * k + 4) - a 1 (8 * k + 4)) - b1 1 (8 * k + 3)) + a 1 (8 * k + 3) = gain at gn
  by_cases hc : gain < mo
  · have hc' : ¬ mo ≤ gain := Int32.not_le.mpr hc
    refine ⟨h1, p1, b1, bp, mo, more ||| b1 0 10, [(21, .int gain)], Or.inr ⟨_, rfl⟩, ?_, G1, K1, o1, fun z => ?_⟩
    · simp only [x75_363, x75_365, x75_367, x75_369, x75_370, x75_371, x75_372, x75_372s, x75_373, x75_374, x75_376, x75_378, x75_379, x75_380, x75_381, x75_381s, x75_382, x75_383, x75_385, x75_387, x75_389, x75_390, x75_391, x75_392, x75_392s, x75_393, x75_394, x75_395, x75_397, x75_399, x75_400, x75_401, x75_402, x75_402s, x75_403, x75_404, x75_406, x75_408, x75_410, x75_412, x75_412s, x75_413, x75_414, x75_416, x75_418, x75_420, x75_423, x75_426, x75_428, x75_430, x75_432, x75_434, x75_437, evI_i, evJl_i, evJf_i, evJd_i, evA_r, evA_n, evA_q, evLk_c, evS1_d, evS2_d, evFl_n, evFl_c, evGl_n, evGl_c, evIn_n, evIn_c, evCat_i, evCat_l, evCat_f, evCat_d, evCat_r, evCat_z, evCat_q, evBd_some, evTl_s, evTl_n, va_rf_s, va_rf_n, and_true, true_and, and_false, false_and, if_true, if_false, not_true_eq_false, not_false_eq_true, reduceCtorEq, ↓reduceIte, Nat.reduceAdd, Nat.reduceEqDiff, Nat.reduceLT, Nat.reduceLeDiff, Nat.reduceSub, Nat.zero_ne_one, Nat.one_ne_zero, sa0, sn0, sa1, sn1, sa2, sn2, sa3, sn3, sa4, sn4, sa5, sn5, sa6, sn6, sa7, sn7, sa8, sn8, sa9, sn9, mG0, mS0, mG1, mS1, mG2, mS2, mG3, mS3, mG4, mS4, mG5, mS5, mG6, mS6, mG7, mS7, mG8, mS8, mG9, mS9, lt0, lt1, lt2, lt3, lt4, lt5, lt6, lt7, lt8, lt9, lt10, lc0, lc1, lc2, lc3, lc4, lc5, lc6, lc7, lc8, lc9, lc10, tw0, tw1, tw2, tw3, tw4, tw5, tw6, tw7, tw8, tw9, tm0, tm1, tm2, tm5, tm6, mul8, nA3, nA4, hgn, hc, hc', ps, i3_p, i3_c, i3_l, i4_p, i4_c, i4_l, List.nil_append, List.cons_append]
    · obtain ⟨z1, z2⟩ := o2 z
      have hl' := hl z1
      rw [lD_s, ← hl', if_pos (by rw [← gn z2]; exact hc)]
  · have hc' : mo ≤ gain := Int32.not_lt.mp hc
    refine ⟨h1, p1, b1, planI d, gain, more ||| b1 0 10, [(21, .int gain)], Or.inr ⟨_, rfl⟩, ?_, G1, K1, o1, fun z => ?_⟩
    · simp only [x75_363, x75_365, x75_367, x75_369, x75_370, x75_371, x75_372, x75_372s, x75_373, x75_374, x75_376, x75_378, x75_379, x75_380, x75_381, x75_381s, x75_382, x75_383, x75_385, x75_387, x75_389, x75_390, x75_391, x75_392, x75_392s, x75_393, x75_394, x75_395, x75_397, x75_399, x75_400, x75_401, x75_402, x75_402s, x75_403, x75_404, x75_406, x75_408, x75_410, x75_412, x75_412s, x75_413, x75_414, x75_416, x75_418, x75_420, x75_423, x75_426, x75_428, x75_430, x75_432, x75_434, x75_437, evI_i, evJl_i, evJf_i, evJd_i, evA_r, evA_n, evA_q, evLk_c, evS1_d, evS2_d, evFl_n, evFl_c, evGl_n, evGl_c, evIn_n, evIn_c, evCat_i, evCat_l, evCat_f, evCat_d, evCat_r, evCat_z, evCat_q, evBd_some, evTl_s, evTl_n, va_rf_s, va_rf_n, and_true, true_and, and_false, false_and, if_true, if_false, not_true_eq_false, not_false_eq_true, reduceCtorEq, ↓reduceIte, Nat.reduceAdd, Nat.reduceEqDiff, Nat.reduceLT, Nat.reduceLeDiff, Nat.reduceSub, Nat.zero_ne_one, Nat.one_ne_zero, sa0, sn0, sa1, sn1, sa2, sn2, sa3, sn3, sa4, sn4, sa5, sn5, sa6, sn6, sa7, sn7, sa8, sn8, sa9, sn9, mG0, mS0, mG1, mS1, mG2, mS2, mG3, mS3, mG4, mS4, mG5, mS5, mG6, mS6, mG7, mS7, mG8, mS8, mG9, mS9, lt0, lt1, lt2, lt3, lt4, lt5, lt6, lt7, lt8, lt9, lt10, lc0, lc1, lc2, lc3, lc4, lc5, lc6, lc7, lc8, lc9, lc10, tw0, tw1, tw2, tw3, tw4, tw5, tw6, tw7, tw8, tw9, tm0, tm1, tm2, tm5, tm6, mul8, nA3, nA4, hgn, hc, hc', ps, i3_p, i3_c, i3_l, i4_p, i4_c, i4_l, List.nil_append, List.cons_append]
    · obtain ⟨z1, z2⟩ := o2 z
      have hl' := hl z1
      rw [lD_s, ← hl', if_neg (by rw [← gn z2]; exact hc), planI_at hd, ← gn z2]
theorem wo_loop (hx : xP h) (hN2 : evN h + 21000 < 900000000) (P : pRel (V 0) u a n q T lag g tot) (I : lI a n q) (hT : T + 1001 < 16000) {k : Nat} (hk : k < n) (c1 c2 c3 c4 : Int32) (d : Nat) (hd : d ≤ 21) : ∃ (h' : evH) (p' b' : Nat → Nat → Int32) (bp' mo' more' : Int32) (E' : evL), (E' = [] ∨ ∃ z, E' = [(21, .int z)]) ∧ evX 75 284 ([(0, .ref 0), (1, .int x), (2, .ref 375), (3, .ref 376), (4, .ref 377), (5, .ref 378), (6, .ref 379), (7, .ref 380), (8, .ref 381), (9, .ref 382), (10, .ref 383), (11, .ref 384), (12, .int c1), (13, .int c2), (14, .int c3), (15, .int c4), (16, .int (nI k)), (17, .int 0), (18, .int (-99999)), (19, .int 0), (20, .int (planI 0))] ++ []) [] h (memW (two a b) p V 0) = evX 75 284 ([(0, .ref 0), (1, .int x), (2, .ref 375), (3, .ref 376), (4, .ref 377), (5, .ref 378), (6, .ref 379), (7, .ref 380), (8, .ref 381), (9, .ref 382), (10, .ref 383), (11, .ref 384), (12, .int c1), (13, .int c2), (14, .int c3), (15, .int c4), (16, .int (nI k)), (17, .int bp'), (18, .int mo'), (19, .int more'), (20, .int (planI d))] ++ E') [] h' (memW (two a b') p' V 0) ∧ wGr (1000 * d) h h' ∧ pK p p' ∧ (more' = 0 ∨ more' = 1) ∧ (more' = 0 → (bp', mo') = lD (fun i => gnC n (V 0) k (nI (10 * i))) d) := by
  induction d with
  | zero => exact ⟨h, p, b, 0, -99999, 0, [], Or.inl rfl, rfl, wGr_refl h, pK_refl p, Or.inl rfl, fun _ => rfl⟩
  | succ d ih =>
    obtain ⟨h1, p1, b1, bp1, mo1, more1, E1, f1, f2, f3, f4, f5, f6⟩ := ih (by omega)
    obtain ⟨h2, p2, b2, bp2, mo2, more2, E2, g1, g2, g3, g4, g5, g6⟩ := wo_step (x := x) (p := p1) (b := b1) (xP_gr hx f3) (by have := f3.2.2.1; omega) P I hT hk (show d ≤ 20 by omega) c1 c2 c3 c4 bp1 mo1 more1 f5 f6 E1 f1
    exact ⟨h2, p2, b2, bp2, mo2, more2, E2, g1, f2.trans g2, wGr_le (wGr_trans f3 g3) (by omega), pK_trans f4 g4, g5, g6⟩
theorem wo_3 (hx : xP h) (hN2 : evN h + 21000 < 900000000) (P : pRel (V 0) u a n q T lag g tot) (I : lI a n q) (hT : T + 1001 < 16000) (c1 c2 c3 c4 c5 : Int32) : ∃ (h' : evH) (p' b' : Nat → Nat → Int32) (V' : Nat → evVt), evX 75 258 [(0, .ref 0), (1, .int x), (2, .ref 375), (3, .ref 376), (4, .ref 377), (5, .ref 378), (6, .ref 379), (7, .ref 380), (8, .ref 381), (9, .ref 382), (10, .ref 383), (11, .ref 384), (12, .int c1), (13, .int c2), (14, .int c3), (15, .int c4), (16, .int c5)] [] h (memW (two a b) p V 0) = some (some (.int 1), h', memW (two a b') p' V' 0) ∧ wGr 21000 h h' ∧ pK p p' ∧ V' 0 = V 0 := by
  have hn3 := P.2.1.1
  have h5 : a 0 5 = nI n := I.2.2.2.1
  have hn1 := I.1
  obtain ⟨k, hk, el⟩ := low_nI (x >>> (4 &&& 31)) (n := n) (by omega) (by omega)
  have hn0 : ¬ nI n = 0 := nI_ne0 (by omega) (by omega)
  have Lw := fun m => c_low (h := h) (m := m) (x >>> (4 &&& 31)) (nI n) hn0
  rw [el] at Lw
  have st : evX 75 258 [(0, .ref 0), (1, .int x), (2, .ref 375), (3, .ref 376), (4, .ref 377), (5, .ref 378), (6, .ref 379), (7, .ref 380), (8, .ref 381), (9, .ref 382), (10, .ref 383), (11, .ref 384), (12, .int c1), (13, .int c2), (14, .int c3), (15, .int c4), (16, .int c5)] [] h (memW (two a b) p V 0) = evX 75 284 ([(0, .ref 0), (1, .int x), (2, .ref 375), (3, .ref 376), (4, .ref 377), (5, .ref 378), (6, .ref 379), (7, .ref 380), (8, .ref 381), (9, .ref 382), (10, .ref 383), (11, .ref 384), (12, .int c1), (13, .int c2), (14, .int c3), (15, .int c4), (16, .int (nI k)), (17, .int 0), (18, .int (-99999)), (19, .int 0), (20, .int (planI 0))] ++ []) [] h (memW (two a b) p V 0) := by
    obtain ⟨sa0, sn0, sa1, sn1, sa2, sn2, sa3, sn3, sa4, sn4, sa5, sn5, sa6, sn6, sa7, sn7, sa8, sn8, sa9, sn9⟩ := xP_a hx
    have e2 : planI 0 = 200 := rfl
    rw [List.append_nil, e2]
    simp only [x75_258, x75_259, x75_260, x75_261, x75_262, x75_263, x75_263s, x75_264, x75_267, x75_269, x75_270, x75_272, x75_274, x75_276, x75_277, x75_279, x75_282, evI_i, evJl_i, evJf_i, evJd_i, evA_r, evA_n, evA_q, evLk_c, evS1_d, evS2_d, evFl_n, evFl_c, evGl_n, evGl_c, evIn_n, evIn_c, evCat_i, evCat_l, evCat_f, evCat_d, evCat_r, evCat_z, evCat_q, evBd_some, evTl_s, evTl_n, va_rf_s, va_rf_n, and_true, true_and, and_false, false_and, if_true, if_false, not_true_eq_false, not_false_eq_true, reduceCtorEq, ↓reduceIte, Nat.reduceAdd, Nat.reduceEqDiff, Nat.reduceLT, Nat.reduceLeDiff, Nat.reduceSub, Nat.zero_ne_one, Nat.one_ne_zero, sa0, sn0, sa1, sn1, sa2, sn2, sa3, sn3, sa4, sn4, sa5, sn5, sa6, sn6, sa7, sn7, sa8, sn8, sa9, sn9, mG0, mS0, mG1, mS1, mG2, mS2, mG3, mS3, mG4, mS4, mG5, mS5, mG6, mS6, mG7, mS7, mG8, mS8, mG9, mS9, lt0, lt1, lt2, lt3, lt4, lt5, lt6, lt7, lt8, lt9, lt10, lc0, lc1, lc2, lc3, lc4, lc5, lc6, lc7, lc8, lc9, lc10, tw0, tw1, tw2, tw3, tw4, tw5, tw6, tw7, tw8, tw9, tm0, tm1, tm2, tm5, tm6, h5, Lw, Option.toList, List.nil_append, List.cons_append]
  obtain ⟨h1, p1, b1, bp, mo, more, E, hE, e1, G1, K1, hm, hl⟩ := wo_loop (x := x) (p := p) (b := b) hx hN2 P I hT hk c1 c2 c3 c4 21 (Nat.le_refl 21)
  rw [st, e1]
  have hx1 := xP_gr hx G1
  have a0 := hx1.1.2.2.1
  have hp : planI 21 < 0 := by decide
  have ex : evX 75 284 ([(0, .ref 0), (1, .int x), (2, .ref 375), (3, .ref 376), (4, .ref 377), (5, .ref 378), (6, .ref 379), (7, .ref 380), (8, .ref 381), (9, .ref 382), (10, .ref 383), (11, .ref 384), (12, .int c1), (13, .int c2), (14, .int c3), (15, .int c4), (16, .int (nI k)), (17, .int bp), (18, .int mo), (19, .int more), (20, .int (planI 21))] ++ E) [] h1 (memW (two a b1) p1 V 0) = evX 75 440 ([(0, .ref 0), (1, .int x), (2, .ref 375), (3, .ref 376), (4, .ref 377), (5, .ref 378), (6, .ref 379), (7, .ref 380), (8, .ref 381), (9, .ref 382), (10, .ref 383), (11, .ref 384), (12, .int c1), (13, .int c2), (14, .int c3), (15, .int c4), (16, .int (nI k)), (17, .int bp), (18, .int mo), (19, .int more), (20, .int (planI 21))] ++ E) [] h1 (memW (two a b1) p1 V 0) := by
    rcases hE with rfl | ⟨z, rfl⟩
    · rw [List.append_nil]
      conv => lhs; rw [x75_284]
      simp only [x75_286, evI_i, evJl_i, evJf_i, evJd_i, evA_r, evA_n, evA_q, evLk_c, evS1_d, evS2_d, evFl_n, evFl_c, evGl_n, evGl_c, evIn_n, evIn_c, evCat_i, evCat_l, evCat_f, evCat_d, evCat_r, evCat_z, evCat_q, evBd_some, evTl_s, evTl_n, va_rf_s, va_rf_n, and_true, true_and, and_false, false_and, if_true, if_false, not_true_eq_false, not_false_eq_true, reduceCtorEq, ↓reduceIte, Nat.reduceAdd, Nat.reduceEqDiff, Nat.reduceLT, Nat.reduceLeDiff, Nat.reduceSub, Nat.zero_ne_one, Nat.one_ne_zero, hp]
    · simp only [List.nil_append, List.cons_append]
      conv => lhs; rw [x75_284]
      simp only [x75_286, evI_i, evJl_i, evJf_i, evJd_i, evA_r, evA_n, evA_q, evLk_c, evS1_d, evS2_d, evFl_n, evFl_c, evGl_n, evGl_c, evIn_n, evIn_c, evCat_i, evCat_l, evCat_f, evCat_d, evCat_r, evCat_z, evCat_q, evBd_some, evTl_s, evTl_n, va_rf_s, va_rf_n, and_true, true_and, and_false, false_and, if_true, if_false, not_true_eq_false, not_false_eq_true, reduceCtorEq, ↓reduceIte, Nat.reduceAdd, Nat.reduceEqDiff, Nat.reduceLT, Nat.reduceLeDiff, Nat.reduceSub, Nat.zero_ne_one, Nat.one_ne_zero, hp]
  rw [ex]
  rcases hm with rfl | rfl
  · obtain ⟨ok1, ok2⟩ := ok_p P
    have hl' := hl rfl
    have nf : ¬ gnC n (V 0) k (nI (10 * 20)) < -99999 := by
      have P3 := plan_pp P hk (i := 20) (Nat.le_refl 20)
      obtain ⟨u', T', g', t', -, H'⟩ := out_fu P3.1 1000 (by omega)
      exact gain_ge P.1 H' (by omega)
    rw [ld_bs n (V 0) k nf] at hl'
    have eb : bAt (V 0) 0 (nI k) ≠ none := by rw [bAt_in (b := 0) hk ok1.2.1 ok1.1]; exact fun z => by cases z
    obtain ⟨z1, f1⟩ := W_bestPlan (u := two a b1) (p := p1) hx1.1 ok1 (by omega) (nI k) 0
    obtain ⟨z2, f2⟩ := W_bestPlan (u := two a b1) (p := p1) (V := Vs V 1 z1) hx1.1 (by rw [Vs_10]; exact ok1) (by omega) (nI k) 1
    rw [Vs_10, Vs_2] at f2
    have n10 : ¬ (1 : Int32) = 0 := by decide
    rw [if_neg eb, if_pos rfl, nI_cl k (by omega), ← hl'] at f1
    rw [if_neg eb, if_neg n10, if_pos rfl, nI_cl k (by omega), ← hl'] at f2
    simp only [] at f1 f2
    refine ⟨h1, p1, b1, Vs V 1 z2, ?_, wGr_le G1 (by omega), K1, Vs_10 V z2⟩
    have z0 : ¬ (0 : Int32) < 0 := by decide
    rcases hE with rfl | ⟨z, rfl⟩
    · rw [List.append_nil]
      simp only [x75_440, x75_442, x75_445, x75_446, x75_448, x75_449, x75_452, x75_454, x75_457, x75_458, x75_460, x75_461, x75_464, x75_466, x75_468, x75_469, x75_472, x75_473, x75_476, x75_477_0, x75_477_1, x75_477b, evI_i, evJl_i, evJf_i, evJd_i, evA_r, evA_n, evA_q, evLk_c, evS1_d, evS2_d, evFl_n, evFl_c, evGl_n, evGl_c, evIn_n, evIn_c, evCat_i, evCat_l, evCat_f, evCat_d, evCat_r, evCat_z, evCat_q, evBd_some, evTl_s, evTl_n, va_rf_s, va_rf_n, and_true, true_and, and_false, false_and, if_true, if_false, not_true_eq_false, not_false_eq_true, reduceCtorEq, ↓reduceIte, Nat.reduceAdd, Nat.reduceEqDiff, Nat.reduceLT, Nat.reduceLeDiff, Nat.reduceSub, Nat.zero_ne_one, Nat.one_ne_zero, a0, f1, f2, z0, Option.toList, List.nil_append, List.cons_append]
    · simp only [x75_440, x75_442, x75_445, x75_446, x75_448, x75_449, x75_452, x75_454, x75_457, x75_458, x75_460, x75_461, x75_464, x75_466, x75_468, x75_469, x75_472, x75_473, x75_476, x75_477_0, x75_477_1, x75_477b, evI_i, evJl_i, evJf_i, evJd_i, evA_r, evA_n, evA_q, evLk_c, evS1_d, evS2_d, evFl_n, evFl_c, evGl_n, evGl_c, evIn_n, evIn_c, evCat_i, evCat_l, evCat_f, evCat_d, evCat_r, evCat_z, evCat_q, evBd_some, evTl_s, evTl_n, va_rf_s, va_rf_n, and_true, true_and, and_false, false_and, if_true, if_false, not_true_eq_false, not_false_eq_true, reduceCtorEq, ↓reduceIte, Nat.reduceAdd, Nat.reduceEqDiff, Nat.reduceLT, Nat.reduceLeDiff, Nat.reduceSub, Nat.zero_ne_one, Nat.one_ne_zero, a0, f1, f2, z0, Option.toList, List.nil_append, List.cons_append]
  · refine ⟨h1, p1, b1, V, ?_, wGr_le G1 (by omega), K1, rfl⟩
    have z0 : (0 : Int32) < 1 := by decide
    rcases hE with rfl | ⟨z, rfl⟩
    · rw [List.append_nil]
      simp only [x75_440, x75_442, x75_445, x75_446, x75_448, x75_449, x75_452, x75_454, x75_457, x75_458, x75_460, x75_461, x75_464, x75_466, x75_468, x75_469, x75_472, x75_473, x75_476, x75_477_0, x75_477_1, x75_477b, evI_i, evJl_i, evJf_i, evJd_i, evA_r, evA_n, evA_q, evLk_c, evS1_d, evS2_d, evFl_n, evFl_c, evGl_n, evGl_c, evIn_n, evIn_c, evCat_i, evCat_l, evCat_f, evCat_d, evCat_r, evCat_z, evCat_q, evBd_some, evTl_s, evTl_n, va_rf_s, va_rf_n, and_true, true_and, and_false, false_and, if_true, if_false, not_true_eq_false, not_false_eq_true, reduceCtorEq, ↓reduceIte, Nat.reduceAdd, Nat.reduceEqDiff, Nat.reduceLT, Nat.reduceLeDiff, Nat.reduceSub, Nat.zero_ne_one, Nat.one_ne_zero, z0]
    · simp only [x75_440, x75_442, x75_445, x75_446, x75_448, x75_449, x75_452, x75_454, x75_457, x75_458, x75_460, x75_461, x75_464, x75_466, x75_468, x75_469, x75_472, x75_473, x75_476, x75_477_0, x75_477_1, x75_477b, evI_i, evJl_i, evJf_i, evJd_i, evA_r, evA_n, evA_q, evLk_c, evS1_d, evS2_d, evFl_n, evFl_c, evGl_n, evGl_c, evIn_n, evIn_c, evCat_i, evCat_l, evCat_f, evCat_d, evCat_r, evCat_z, evCat_q, evBd_some, evTl_s, evTl_n, va_rf_s, va_rf_n, and_true, true_and, and_false, false_and, if_true, if_false, not_true_eq_false, not_false_eq_true, reduceCtorEq, ↓reduceIte, Nat.reduceAdd, Nat.reduceEqDiff, Nat.reduceLT, Nat.reduceLeDiff, Nat.reduceSub, Nat.zero_ne_one, Nat.one_ne_zero, z0, List.nil_append, List.cons_append]
end WH2
