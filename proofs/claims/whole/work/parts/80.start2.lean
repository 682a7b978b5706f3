/-! the law's start -/
theorem hv0_2 (i j : Nat) : hv0 2 i j = 0 := by simp [hv0]
theorem hv0_31 (k : Nat) : hv0 3 k 1 = 0 := by simp [hv0]
theorem hv0_4 (k j : Nat) : hv0 4 k j = 0 := by simp [hv0]
theorem hv0_5 (k j : Nat) : hv0 5 k j = if j = 0 then -6 else 0 := by simp [hv0]
theorem mu0_hi {j : Nat} (hj : 8 ≤ j) : mu0 1 j = 0 := by
  unfold mu0
  have h0 : ¬ j = 0 := by omega
  have h1 : ¬ j = 1 := by omega
  have h2 : ¬ j = 2 := by omega
  have h7 : ¬ j = 7 := by omega
  simp [h0, h1, h2, h7]
theorem rS_0 : rS hv0 (mu0 1) := by
  have z6 : ¬ (0 : Nat) < 0 := Nat.lt_irrefl 0
  refine ⟨0, 0, 0, 1, 0, 0, by omega, ⟨⟨⟨by omega, by omega, by omega, by decide, ⟨by rfl, by rfl⟩, ⟨by rfl, by rfl⟩, ⟨by rfl, by rfl⟩, by rfl, fun j hj => ?_⟩, ⟨fun i j hi => by omega, fun i j _ _ _ => hv0_2 i j⟩, ⟨Nat.le_refl _, fun i hi => by omega, fun i hi => by omega, fun i _ _ => ⟨hv0_4 i 1, hv0_4 i 3, hv0_4 i 4, by rw [hv0_5, if_pos rfl], by rw [hv0_5, if_neg (by omega)], by rw [hv0_5, if_neg (by omega)]⟩⟩, by rfl, ⟨⟨by rfl, by rfl, fun a p h => by omega⟩, by omega⟩, Or.inl ⟨by rfl, by rfl⟩⟩, fun l hl => Or.inr ⟨0, by omega, by rw [mu0_hi (by omega)]; rfl⟩, fun j hj => ?_, fun i hi => ?_⟩, ?_⟩
  · rcases (show j = 0 ∨ j = 1 ∨ j = 2 ∨ j = 3 by omega) with rfl | rfl | rfl | rfl <;> rfl
  · rcases (show j = 0 ∨ j = 1 ∨ j = 2 ∨ j = 3 by omega) with rfl | rfl | rfl | rfl <;> decide
  · rw [hv0_2, hv0_2]
    decide
  · have e : hv0 1 3 0 = -6 := rfl
    unfold rBE
    rw [if_pos e]
    refine ⟨by decide, fun i hi => ?_, fun k hk => ?_, fun l hl => ?_⟩
    · unfold rBi
      rw [hv0_2, hv0_2, hv0_2, hv0_2, hv0_2]
      decide
    · rw [hv0_31]
      decide
    · rw [hv0_4, hv0_5, if_neg (by omega)]
      decide
theorem gHs_in {m : evM} {b k i o j : Nat} (hi : i < k) (ho : o < 41) : gHs m b k (b + 2 + 41 * i + o) j = hallF hv0 o j := by
  induction k with
  | zero => omega
  | succ k ih =>
    show putV (gHs m b k) (b + 2 + 41 * k) hv0 (b + 2 + 41 * i + o) j = _
    by_cases hik : i = k
    · subst hik
      unfold putV
      rw [if_pos (by omega), Nat.add_sub_cancel_left]
      rfl
    · rw [putV_out (by omega), ih (by omega)]
theorem putV_in {m : evM} {b o j : Nat} (v : evVt) (ho : o < 41) : putV m b v (b + o) j = hallF v o j := by
  unfold putV
  rw [if_pos (by omega), Nat.add_sub_cancel_left]
  rfl
theorem mem_0 {m : evM} (hz : ∀ a j, m a j = 0) : evGM (gHs (putV (putV m 1 hv0) 42 hv0) 83 7) 375 9 mu0 = memW mu0 (fun _ _ => 0) (fun _ => hv0) 0 := by
  funext a j
  unfold evGM
  by_cases ha : 375 ≤ a ∧ a < 375 + 9
  · have e : hix a = none := by
      have := hix_m (o := a - 375) (by omega)
      rwa [show 375 + (a - 375) = a by omega] at this
    unfold memW
    rw [if_pos ha, e]
    show _ = if 375 ≤ a ∧ a < 384 then _ else _
    rw [if_pos (by omega)]
  · rw [if_neg ha]
    unfold memW
    cases hq : hix a with
    | some q =>
      obtain ⟨i, o⟩ := q
      obtain ⟨h1, h2, h3⟩ := hix_some hq
      show _ = if i < 9 + 0 then hallF hv0 o j else 0
      by_cases hi : i < 9
      · rw [if_pos (by omega), h3]
        unfold hb
        by_cases hi2 : i < 2
        · rw [if_pos hi2]
          rcases (show i = 0 ∨ i = 1 by omega) with rfl | rfl
          · rw [gHs_out (by omega), putV_out (by omega)]
            exact putV_in hv0 h2
          · rw [gHs_out (by omega)]
            exact putV_in hv0 h2
        · rw [if_neg hi2, if_pos hi]
          exact gHs_in (b := 83) (by omega) h2
      · rw [if_neg (by omega), h3]
        unfold hb
        rw [if_neg (by omega), if_neg (by omega), gHs_out (by omega), putV_out (by omega), putV_out (by omega), hz]
    | none =>
      show _ = if 375 ≤ a ∧ a < 384 then _ else _
      have hr : a = 0 ∨ a = 83 ∨ a = 84 ∨ 372 ≤ a := by
        unfold hix at hq
        split at hq
        · cases hq
        · split at hq
          · cases hq
          · omega
      rw [if_neg (by omega), gHs_out (by omega), putV_out (by omega), putV_out (by omega), hz]
      split
      · rfl
      · split
        · rfl
        · split <;> rfl
theorem law_start (hsh : ∀ {h : evH} {s : Nat → Option Nat} {n : Nat} {u p : Nat → Nat → Int32} {V : Nat → evVt} {x k L : Nat}, LR h s n u p V x k L → stepI 70 132 [] h n u p V) (hde : ∀ {h : evH} {s : Nat → Option Nat} {n : Nat} {u p : Nat → Nat → Int32} {V : Nat → evVt} {x k L : Nat}, LR h s n u p V x k L → stepD h n u p V) (L : Nat) (xs : Nat → Int32) (hL : L ≤ 1536) : evLaw L xs := by
  have hO : ∀ a, a < 1000 → a < evO9 := fun a ha => by unfold evO9; omega
  have N0 : evN (evH0 L xs) = 0 := rfl
  have n0 : evNewM (evH0 L xs) (fun _ _ => 0) = fun _ _ => 0 := evNewM_zero (fun _ => rfl)
  have N1 : evN (evNew (evH0 L xs) 7 5) = 1 := by rw [evNew_N, N0]
  have a1 : evAt (evNew (evH0 L xs) 7 5) 0 7 := evAt_of (by omega) (hO _ (by omega)) (by rw [evNew_K, N0, if_pos rfl])
  obtain ⟨h2, e2, N2, S2, P2, X2⟩ := c_EB_init (h := evNew (evH0 L xs) 7 5) (m := fun _ _ => 0) N1 a1 (fun _ _ => rfl)
  obtain ⟨h3, e3, N3, S3, P3, L3, M3⟩ := c_Model_init (h := h2) (m := gHs (putV (putV (fun _ _ => 0) 1 hv0) 42 hv0) 83 7) (c := 375) N2 (by unfold evO9; omega)
  have mem := mem_0 (m := fun _ _ => 0) (fun _ _ => rfl)
  have hsp : evSp h3 = evSp0 L xs := by rw [P3, P2, evNew_Sp]; rfl
  have hs0 : evSl (evH0 L xs) = 0 := rfl
  have H : LR h3 (fun _ => none) 0 mu0 (fun _ _ => 0) (fun _ => hv0) 0 0 0 := by
    refine ⟨X2 h3 L3 (by rw [N3]), M3, ⟨by rw [hsp]; rfl, by rw [hsp]; rfl⟩, by rw [S3, S2, evNew_Sl, hs0]; omega, ⟨rfl, Or.inl rfl⟩, rS_0, ⟨by omega, by omega, by omega⟩, ⟨rfl, rfl, rfl⟩, fun i hi => by omega, ⟨rfl, rfl, fun j hj => by omega⟩, fun t _ => Or.inl ⟨rfl, rfl⟩⟩
  obtain ⟨h', m', R, B1, B2⟩ := law_lp hsh hde hL 512 0 (by omega) (by omega) H hsp
  have W : evX 164 0 [(0, .ref (evO9 + 2))] [] (evH0 L xs) (fun _ _ => 0) = some (some (.int 1), h', m') := by
    rw [← R]
    have hN0 : evN (evH0 L xs) < evO9 := hO _ (by rw [N0]; omega)
    have hN2 : evN h2 < evO9 := hO _ (by rw [N2]; omega)
    rw [mem] at e3
    simp only [x164_0, x164_3, x164_4, x164_7, x164_7n, x164_7q, x164_8, x164_11, x164_12, x164_15, x164_15n, x164_15q, x164_16, x164_17, evI_i, evJl_i, evJf_i, evJd_i, evA_r, evA_n, evA_q, evLk_c, evS1_d, evS2_d, evFl_n, evFl_c, evGl_n, evGl_c, evIn_n, evIn_c, evCat_i, evCat_l, evCat_f, evCat_d, evCat_r, evCat_z, evCat_q, evBd_some, evTl_s, evTl_n, va_rf_s, va_rf_n, and_true, true_and, and_false, false_and, if_true, if_false, not_true_eq_false, not_false_eq_true, reduceCtorEq, ↓reduceIte, Nat.reduceAdd, Nat.reduceEqDiff, Nat.reduceLT, Nat.reduceLeDiff, Nat.reduceSub, Nat.zero_ne_one, Nat.one_ne_zero, hO, N0, N2, n0, e2, e3, Option.toList, List.nil_append, List.cons_append]
    rfl
  obtain ⟨nn, hn⟩ := evX_iff.mp W
  exact ⟨nn, _, hn, rfl, B1, B2⟩
