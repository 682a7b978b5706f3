/-! the law's start -/
theorem hv0_2 (i j : Nat) : hv0 2 i j = 0 := by simp [hv0]
theorem hv0_31 (k : Nat) : hv0 3 k 1 = 0 := by simp [hv0]
theorem hv0_4 (k j : Nat) : hv0 4 k j = 0 := by simp [hv0]
theorem hv0_5 (k j : Nat) : hv0 5 k j = if j = 0 then -6 else 0 := by simp [hv0]
theorem mu0_hi {j : Nat} (hj : 8 ≤ j) : mu0 1 j = 0 := by
  unfold mu0
  have h0 : ¬ j = 0 := by omega
  have h1 : ¬ j = 1 := by omega
  have h2 : ¬ j = 2 := by omega
  have h7 : ¬ j = 7 := by omega
  simp [h0, h1, h2, h7]
theorem rF_0 : rFu hv0 (mu0 1) 0 0 0 1 0 0 := by
  refine ⟨⟨⟨⟨by omega, by omega, by omega, by decide, ⟨by rfl, by rfl⟩, ⟨by rfl, by rfl⟩, ⟨by rfl, by rfl⟩, by rfl, fun j hj => ?_⟩, ⟨fun i j hi => by omega, fun i j _ _ _ => hv0_2 i j⟩, ⟨Nat.le_refl _, fun i hi => by omega, fun i hi => by omega, fun i _ _ => ⟨hv0_4 i 1, hv0_4 i 3, hv0_4 i 4, by rw [hv0_5, if_pos rfl], by rw [hv0_5, if_neg (by omega)], by rw [hv0_5, if_neg (by omega)]⟩⟩, by rfl, ⟨⟨by rfl, by rfl, fun a p h => by omega⟩, by omega⟩, Or.inl ⟨by rfl, by rfl⟩⟩, fun l hl => Or.inr ⟨0, by omega, by rw [mu0_hi (by omega)]; rfl⟩, fun j hj => ?_, fun i hi => ?_⟩, ?_⟩
  · rcases (show j = 0 ∨ j = 1 ∨ j = 2 ∨ j = 3 by omega) with rfl | rfl | rfl | rfl <;> rfl
  · rcases (show j = 0 ∨ j = 1 ∨ j = 2 ∨ j = 3 by omega) with rfl | rfl | rfl | rfl <;> decide
  · rw [hv0_2, hv0_2]
    decide
  · have e : hv0 1 3 0 = -6 := rfl
    unfold rBE
    rw [if_pos e]
    refine ⟨by decide, fun i hi => ?_, fun k hk => ?_, fun l hl => ?_⟩
    · unfold rBi
      rw [hv0_2, hv0_2, hv0_2, hv0_2, hv0_2]
      decide
    · rw [hv0_31]
      decide
    · rw [hv0_4, hv0_5, if_neg (by omega)]
      decide
theorem gHs_in {m : evM} {b k i o j : Nat} (hi : i < k) (ho : o < 41) : gHs m b k (b + 2 + 41 * i + o) j = hallF hv0 o j := by
  induction k with
  | zero => omega
  | succ k ih =>
    show putV (gHs m b k) (b + 2 + 41 * k) hv0 (b + 2 + 41 * i + o) j = _
    by_cases hik : i = k
    · subst hik
      unfold putV
      rw [if_pos (by omega), Nat.add_sub_cancel_left]
      rfl
    · rw [putV_out (by omega), ih (by omega)]
theorem putV_in {m : evM} {b o j : Nat} (v : evVt) (ho : o < 41) : putV m b v (b + o) j = hallF v o j := by
  unfold putV
  rw [if_pos (by omega), Nat.add_sub_cancel_left]
  rfl
theorem mem_0 {m : evM} (hz : ∀ a j, m a j = 0) : gHs (putV (putV m 1 hv0) 42 hv0) 83 7 = memW (fun _ _ => 0) (fun _ _ => 0) (fun _ => hv0) 0 := by
  funext a j
  unfold memW
  cases hq : hix a with
  | some q =>
    obtain ⟨i, o⟩ := q
    obtain ⟨h1, h2, h3⟩ := hix_some hq
    show _ = if i < 9 + 0 then hallF hv0 o j else 0
    by_cases hi : i < 9
    · rw [if_pos (by omega), h3]
      unfold hb
      by_cases hi2 : i < 2
      · rw [if_pos hi2]
        rcases (show i = 0 ∨ i = 1 by omega) with rfl | rfl
        · rw [gHs_out (by omega), putV_out (by omega)]
          exact putV_in hv0 h2
        · rw [gHs_out (by omega)]
          exact putV_in hv0 h2
      · rw [if_neg hi2, if_pos hi]
        exact gHs_in (b := 83) (by omega) h2
    · rw [if_neg (by omega), h3]
      unfold hb
      rw [if_neg (by omega), if_neg (by omega), gHs_out (by omega), putV_out (by omega), putV_out (by omega), hz]
  | none =>
    show _ = if 375 ≤ a ∧ a < 385 then (0 : Int32) else if a = 83 then 0 else if a = 372 then 0 else if a = 373 then 0 else if 385 ≤ a then 0 else 0
    have hr : a = 0 ∨ a = 83 ∨ a = 84 ∨ 372 ≤ a := by
      unfold hix at hq
      split at hq
      · cases hq
      · split at hq
        · cases hq
        · omega
    rw [gHs_out (by omega), putV_out (by omega), putV_out (by omega), hz]
    split
    · rfl
    · split
      · rfl
      · split
        · rfl
        · split
          · rfl
          · split <;> rfl
theorem two_self (u : Nat → Nat → Int32) : two u (fun o => u (5 + o)) = u := by
  funext o
  unfold two
  by_cases h : o < 5
  · rw [if_pos h]
  · rw [if_neg h]
    show u (5 + (o - 5)) = u o
    rw [show 5 + (o - 5) = o by omega]
def z2 : Nat → Nat → Int32 := fun _ _ => 0
/-- the law's rows at its start -/
def w0 : Nat → Nat → Int32 := ms (ms (ms (ms z2 0 0 1) 0 1 5) 0 2 2) 0 7 (-6)
theorem w0_0 (j : Nat) : w0 0 j = if j = 7 then -6 else if j = 2 then 2 else if j = 1 then 5 else if j = 0 then 1 else 0 := by
  unfold w0 z2
  rw [ms_at, ms_at, ms_at, ms_at]
  simp only [true_and]
theorem w0_o {o : Nat} (ho : o ≠ 0) (j : Nat) : w0 o j = 0 := by
  unfold w0 z2
  rw [ms_at, if_neg (fun z => ho z.1), ms_at, if_neg (fun z => ho z.1), ms_at, if_neg (fun z => ho z.1), ms_at, if_neg (fun z => ho z.1)]
theorem P_0 : pRel hv0 mu0 w0 0 0 0 1 0 0 := by
  refine ⟨rF_0, ⟨by omega, by omega⟩, ⟨fun j hj => ?_, fun i j hi => by omega, fun i j hi => by omega⟩, ⟨fun j _ _ => w0_o (by omega) j, fun j _ _ => w0_o (by omega) j⟩, fun _ => (0, 0, 0), 0, ⟨by rw [w0_0]; rfl, by omega, by rw [w0_0]; rfl⟩, fun i hi => absurd hi (Nat.not_lt_zero i), fun i j _ hj => absurd hj (Nat.not_lt_zero j), ⟨by rfl, fun a p ha => absurd ha (Nat.not_lt_zero a)⟩, Or.inl (by rfl)⟩
  rw [w0_0]
  rcases (show j = 0 ∨ j = 1 ∨ j = 2 ∨ j = 3 ∨ j = 4 ∨ j = 5 ∨ j = 6 ∨ j = 7 by omega) with rfl | rfl | rfl | rfl | rfl | rfl | rfl | rfl <;> rfl
theorem I_0 : lI0 w0 0 0 := ⟨by omega, by omega, by rw [w0_0]; rfl, by rw [w0_0]; rfl, Or.inl (by rw [w0_0]; rfl), ⟨0, by omega, by rw [w0_0]; rfl⟩, fun l _ => Or.inl (w0_o (by omega) _)⟩
/-- ten rows of ints -/
def nw10 (h : evH) : evH := evNew (evNew (evNew (evNew (evNew (evNew (evNew (evNew (evNew (evNew h 9 11) 9 24) 9 56) 9 64) 9 64) 9 11) 9 24) 9 56) 9 64) 9 64
theorem le_new {h0 h : evH} {k n : Nat} (H : evLe 375 h0 h) (hN : 375 ≤ evN h) : evLe 375 h0 (evNew h k n) := evLe_trans H (evLe_less evLe_new hN)
theorem nw10_p {h : evH} (hN : evN h = 375) : evN (nw10 h) = 385 ∧ evSl (nw10 h) = evSl h + 438 ∧ evSp (nw10 h) = evSp h ∧ evLe 375 h (nw10 h) ∧ lR (nw10 h) 375 ∧ lR (nw10 h) 380 := by
  have hO : ∀ a, a < 1000 → a < evO9 := fun a ha => by unfold evO9; omega
  have N : evN (nw10 h) = 385 := by
    unfold nw10
    simp only [evNew_N, hN]
  have Le : evLe 375 h (nw10 h) := by
    unfold nw10
    refine le_new ?_ (by simp [evNew_N, hN])
    refine le_new ?_ (by simp [evNew_N, hN])
    refine le_new ?_ (by simp [evNew_N, hN])
    refine le_new ?_ (by simp [evNew_N, hN])
    refine le_new ?_ (by simp [evNew_N, hN])
    refine le_new ?_ (by simp [evNew_N, hN])
    refine le_new ?_ (by simp [evNew_N, hN])
    refine le_new ?_ (by simp [evNew_N, hN])
    refine le_new ?_ (by simp [evNew_N, hN])
    exact le_new (evLe_refl _ _) (by omega)
  have K : ∀ o, o < 10 → evK (nw10 h) (375 + o) = 9 := by
    intro o ho
    unfold nw10
    simp only [evNew_K, evNew_N, hN]
    rcases (show o = 0 ∨ o = 1 ∨ o = 2 ∨ o = 3 ∨ o = 4 ∨ o = 5 ∨ o = 6 ∨ o = 7 ∨ o = 8 ∨ o = 9 by omega) with rfl | rfl | rfl | rfl | rfl | rfl | rfl | rfl | rfl | rfl <;> rfl
  have A : ∀ o, o < 10 → evAt (nw10 h) (375 + o) 9 := fun o ho => evAt_of (by omega) (hO _ (by omega)) (K o ho)
  have Ln : ∀ o, o < 10 → evLen (nw10 h) (375 + o) = if o = 0 ∨ o = 5 then 11 else if o = 1 ∨ o = 6 then 24 else if o = 2 ∨ o = 7 then 56 else 64 := by
    intro o ho
    unfold nw10
    simp only [evNew_len, evNew_N, hN]
    rcases (show o = 0 ∨ o = 1 ∨ o = 2 ∨ o = 3 ∨ o = 4 ∨ o = 5 ∨ o = 6 ∨ o = 7 ∨ o = 8 ∨ o = 9 by omega) with rfl | rfl | rfl | rfl | rfl | rfl | rfl | rfl | rfl | rfl <;> rfl
  refine ⟨N, ?_, ?_, Le, ⟨A 0 (by omega), A 1 (by omega), A 2 (by omega), A 3 (by omega), A 4 (by omega), Ln 0 (by omega), Ln 1 (by omega), Ln 2 (by omega), Ln 3 (by omega), Ln 4 (by omega)⟩, ⟨A 5 (by omega), A 6 (by omega), A 7 (by omega), A 8 (by omega), A 9 (by omega), Ln 5 (by omega), Ln 6 (by omega), Ln 7 (by omega), Ln 8 (by omega), Ln 9 (by omega)⟩⟩
  · unfold nw10
    simp only [evNew_Sl]
  · unfold nw10
    simp only [evNew_Sp]
theorem nt_fin {a b c : Nat} (h1 : a ≤ 385 + 22533 * 28) (h2 : b ≤ c + 6 * (22533 * 28)) (h3 : c = 3765) : a ≤ 632000 ∧ b ≤ 3800000 := by omega
set_option maxHeartbeats 1000000 in
theorem law_all (L : Nat) (xs : Nat → Int32) (hL : L ≤ 260) : evLaw L xs := by
  have hO : ∀ a, a < 1000 → a < evO9 := fun a ha => by unfold evO9; omega
  have N0 : evN (evH0 L xs) = 0 := rfl
  have n0 : evNewM (evH0 L xs) (fun _ _ => 0) = fun _ _ => 0 := evNewM_zero (fun _ => rfl)
  have N1 : evN (evNew (evH0 L xs) 7 5) = 1 := by rw [evNew_N, N0]
  have a1 : evAt (evNew (evH0 L xs) 7 5) 0 7 := evAt_of (by omega) (hO _ (by omega)) (by rw [evNew_K, N0, if_pos rfl])
  obtain ⟨h2, e2, N2, S2, P2, X2⟩ := c_EB_init (h := evNew (evH0 L xs) 7 5) (m := fun _ _ => 0) N1 a1 (fun _ _ => rfl)
  have mem := mem_0 (m := fun _ _ => 0) (fun _ _ => rfl)
  have hz : ∀ x j, 375 ≤ x → memW (fun _ _ => 0) (fun _ _ => 0) (fun _ => hv0) 0 x j = 0 := fun x j hx => by
    rw [← mem, gHs_out (by omega), putV_out (by omega), putV_out (by omega)]
  have nM : ∀ h, 375 ≤ evN h → evNewM h (memW (fun _ _ => 0) (fun _ _ => 0) (fun _ => hv0) 0) = memW (fun _ _ => 0) (fun _ _ => 0) (fun _ => hv0) 0 := fun h hh => evNewM_zero (fun j => hz _ j hh)
  rw [mem] at e2
  obtain ⟨N3, S3, P3, L3, R1, R2⟩ := nw10_p N2
  have hs0 : evSl (evH0 L xs) = 0 := rfl
  have hx3 : xP (nw10 h2) := ⟨X2 _ L3 (by omega), R1, R2⟩
  have hsp : evSp (nw10 h2) = evSp0 L xs := by rw [P3, P2, evNew_Sp]; rfl
  have hS : evSl (nw10 h2) = 3765 := by rw [S3, S2, evNew_Sl, hs0]
  have y11 : ¬ (11 : Int32) < 0 := by decide
  have y24 : ¬ (24 : Int32) < 0 := by decide
  have y56 : ¬ (56 : Int32) < 0 := by decide
  have y64 : ¬ (64 : Int32) < 0 := by decide
  have c11 : (11 : Int32).toNatClampNeg = 11 := by decide
  have c24 : (24 : Int32).toNatClampNeg = 24 := by decide
  have c56 : (56 : Int32).toNatClampNeg = 56 := by decide
  have c64 : (64 : Int32).toNatClampNeg = 64 := by decide
  have st : evX 76 0 [(0, .ref (evO9 + 2))] [] (evH0 L xs) (fun _ _ => 0) = evX 76 66 [(0, .ref (evO9 + 2)), (1, .ref 0), (2, .ref 375), (3, .ref 376), (4, .ref 377), (5, .ref 378), (6, .ref 379), (7, .ref 380), (8, .ref 381), (9, .ref 382), (10, .ref 383), (11, .ref 384)] [] (nw10 h2) (memW (fun _ _ => 0) (fun _ _ => 0) (fun _ => hv0) 0) := by
    unfold nw10
    simp only [x76_0, x76_3, x76_4, x76_7, x76_7n, x76_7q, x76_8, x76_10, x76_12, x76_12n, x76_12q, x76_13, x76_15, x76_17, x76_17n, x76_17q, x76_18, x76_20, x76_22, x76_22n, x76_22q, x76_24, x76_26, x76_28, x76_28n, x76_28q, x76_30, x76_32, x76_34, x76_34n, x76_34q, x76_36, x76_38, x76_40, x76_40n, x76_40q, x76_42, x76_44, x76_46, x76_46n, x76_46q, x76_48, x76_50, x76_52, x76_52n, x76_52q, x76_54, x76_56, x76_58, x76_58n, x76_58q, x76_60, x76_62, x76_64, x76_64n, x76_64q, evI_i, evJl_i, evJf_i, evJd_i, evA_r, evA_n, evA_q, evLk_c, evS1_d, evS2_d, evFl_n, evFl_c, evGl_n, evGl_c, evIn_n, evIn_c, evCat_i, evCat_l, evCat_f, evCat_d, evCat_r, evCat_z, evCat_q, evBd_some, evTl_s, evTl_n, va_rf_s, va_rf_n, and_true, true_and, and_false, false_and, if_true, if_false, not_true_eq_false, not_false_eq_true, reduceCtorEq, ↓reduceIte, Nat.reduceAdd, Nat.reduceEqDiff, Nat.reduceLT, Nat.reduceLeDiff, Nat.reduceSub, Nat.zero_ne_one, Nat.one_ne_zero, hO, N0, n0, e2, N2, evNew_N, nM, y11, y24, y56, y64, c11, c24, c56, c64, Nat.le_refl, Option.toList, List.nil_append, List.cons_append]
  have st2 : evX 76 66 [(0, .ref (evO9 + 2)), (1, .ref 0), (2, .ref 375), (3, .ref 376), (4, .ref 377), (5, .ref 378), (6, .ref 379), (7, .ref 380), (8, .ref 381), (9, .ref 382), (10, .ref 383), (11, .ref 384)] [] (nw10 h2) (memW (fun _ _ => 0) (fun _ _ => 0) (fun _ => hv0) 0) = evX 76 87 ([(0, .ref (evO9 + 2)), (1, .ref 0), (2, .ref 375), (3, .ref 376), (4, .ref 377), (5, .ref 378), (6, .ref 379), (7, .ref 380), (8, .ref 381), (9, .ref 382), (10, .ref 383), (11, .ref 384), (12, .int (nI 0))] ++ []) [] (nw10 h2) (memW (two w0 (fun o => w0 (5 + o))) (fun _ _ => 0) (fun _ => hv0) 0) := by
    rw [two_self]
    generalize nw10 h2 = h3 at hx3
    obtain ⟨sa0, sn0, sa1, sn1, sa2, sn2, sa3, sn3, sa4, sn4, sa5, sn5, sa6, sn6, sa7, sn7, sa8, sn8, sa9, sn9⟩ := xP_a hx3
    rw [List.append_nil]
    simp only [x76_66, x76_67, x76_68, x76_69, x76_70, x76_71, x76_72, x76_73, x76_74, x76_75, x76_76, x76_77, x76_78, x76_79, x76_81, x76_83, x76_84, x76_85, evI_i, evJl_i, evJf_i, evJd_i, evA_r, evA_n, evA_q, evLk_c, evS1_d, evS2_d, evFl_n, evFl_c, evGl_n, evGl_c, evIn_n, evIn_c, evCat_i, evCat_l, evCat_f, evCat_d, evCat_r, evCat_z, evCat_q, evBd_some, evTl_s, evTl_n, va_rf_s, va_rf_n, and_true, true_and, and_false, false_and, if_true, if_false, not_true_eq_false, not_false_eq_true, reduceCtorEq, ↓reduceIte, Nat.reduceAdd, Nat.reduceEqDiff, Nat.reduceLT, Nat.reduceLeDiff, Nat.reduceSub, Nat.zero_ne_one, Nat.one_ne_zero, sa0, sn0, sa1, sn1, sa2, sn2, sa3, sn3, sa4, sn4, sa5, sn5, sa6, sn6, sa7, sn7, sa8, sn8, sa9, sn9, mG0, mS0, mG1, mS1, mG2, mS2, mG3, mS3, mG4, mS4, mG5, mS5, mG6, mS6, mG7, mS7, mG8, mS8, mG9, mS9, lt0, lt1, lt2, lt3, lt4, lt5, lt6, lt7, lt8, lt9, lt10, lc0, lc1, lc2, lc3, lc4, lc5, lc6, lc7, lc8, lc9, lc10]
    rfl
  have H : lHd (nw10 h2) mu0 (fun _ _ => 0) w0 (fun _ => hv0) 0 0 0 1 0 0 L xs := ⟨hx3, hsp, hL, P_0, I_0, 0, 0, by omega, by omega, rfl, rfl⟩
  obtain ⟨h', m', R, B1, B2⟩ := law_loop 28 0 (nw10 h2) mu0 (fun _ _ => 0) w0 (fun o => w0 (5 + o)) (fun _ => hv0) 0 0 0 1 0 0 [] (by omega) H (Or.inr rfl) (by omega) (by rw [N3]; decide) (Or.inl rfl)
  obtain ⟨nn, hn⟩ := evX_iff.mp (st.trans (st2.trans R))
  rw [N3] at B1
  obtain ⟨f1, f2⟩ := nt_fin B1 B2 hS
  exact ⟨nn, _, hn, rfl, f1, f2⟩
