/-! rounds keep the relation -/
section PR
variable {v : evVt} {u : Nat → Nat → Int32} {G : Nat → Nat → Int32} {n q T lag g tot l : Nat}
theorem tick_num {r : Nat → Int32} (HN : rNum v (u 1) n q T lag) (hT : T + 1 < 2 ^ 20) : rNum (vs v 1 4 0 (v 1 4 0 + 1)) (ms u 1 4 (u 1 4 + 1) 1) n q (T + 1) lag := by
  obtain ⟨n1, n2, n3, n4, n5, n6, n7, n8, n9⟩ := HN
  have e1 : ∀ i, i ≠ 4 → vs v 1 4 0 (v 1 4 0 + 1) 1 i 0 = v 1 i 0 := fun i hi => by rw [vs_at, if_neg (fun z => hi z.2.1)]
  have e2 : ∀ j, j ≠ 4 → ms u 1 4 (u 1 4 + 1) 1 j = u 1 j := fun j hj => by rw [ms_at, if_neg (fun z => hj z.2)]
  refine ⟨n1, n2, n3, hT, ⟨by rw [e1 _ (by omega)]; exact n5.1, by rw [e2 _ (by omega)]; exact n5.2⟩, ⟨by rw [e1 _ (by omega)]; exact n6.1, by rw [e2 _ (by omega)]; exact n6.2⟩, ⟨?_, ?_⟩, by rw [e2 _ (by omega)]; exact n8, fun j hj => by rw [vs_at, if_neg (by omega), e2 _ (by omega)]; exact n9 j hj⟩
  · rw [vs_at, if_pos ⟨rfl, rfl, rfl⟩, n7.1]; exact (nI_succ T).symm
  · rw [ms_at, if_pos ⟨rfl, rfl⟩, n7.2]; exact (nI_succ T).symm
theorem tick_rel (HN : rNum v (u 1) n q T lag) (HB : rBidA v (u 1) n) (HL : rLot v (u 1) q g) (hg : v 1 2 0 = nI g) (HM : rMade v (u 1) tot) (ht : tot ≤ 6 * (T + 1)) (HA : rAct v (u 1) g (T + 1) n) (hT : T + 1 < 2 ^ 20) : rHall (vs v 1 4 0 (v 1 4 0 + 1)) (ms u 1 4 (u 1 4 + 1) 1) n q (T + 1) lag g tot := by
  have e1 : ∀ i, i ≠ 4 → vs v 1 4 0 (v 1 4 0 + 1) 1 i 0 = v 1 i 0 := fun i hi => by rw [vs_at, if_neg (fun z => hi z.2.1)]
  have e2 : ∀ j, j ≠ 4 → ms u 1 4 (u 1 4 + 1) 1 j = u 1 j := fun j hj => by rw [ms_at, if_neg (fun z => hj z.2)]
  have eo : ∀ a i j, a ≠ 1 → vs v 1 4 0 (v 1 4 0 + 1) a i j = v a i j := fun a i j h => by rw [vs_at, if_neg (fun z => h z.1)]
  refine ⟨tick_num (r := u 1) HN hT, rBidA_congr HN.1 (fun i j => eo _ _ _ (by omega)) (fun j _ _ => e2 _ (by omega)) HB, rLot_congr HN.2.1 (fun i j => eo _ _ _ (by omega)) (fun i j => eo _ _ _ (by omega)) (fun j _ _ => e2 _ (by omega)) HL, by rw [e1 _ (by omega)]; exact hg, ⟨rMade_congr (eo _ _ _ (by omega)) (fun c => eo _ _ _ (by omega)) (fun j _ _ => e2 _ (by omega)) (e2 _ (by omega)) HM, ht⟩, ?_⟩
  rcases HA with ⟨a1, a2⟩ | ⟨l, G, a1, a2, a3, a4, a5⟩
  · exact Or.inl ⟨by rw [e1 _ (by omega)]; exact a1, by rw [e2 _ (by omega)]; exact a2⟩
  · exact Or.inr ⟨l, G, a1, by rw [e1 _ (by omega)]; exact a2, by rw [e2 _ (by omega)]; exact a3, by rw [eo _ _ _ (by omega)]; exact a4, rRun_congr (fun i j => eo _ _ _ (by omega)) (fun i j => eo _ _ _ (by omega)) (fun i j => eo _ _ _ (by omega)) (eo _ _ _ (by omega)) (fun j _ _ => e2 _ (by omega)) (e2 _ (by omega)) a5⟩
/-- a round of the lot l that runs -/
theorem run_rel (HN : rNum v (u 1) n q T lag) (HB : rBidA v (u 1) n) (HL : rLot v (u 1) q g) (hlg : l + 1 = g) (hg : v 1 2 0 = nI g) (HM : rMade v (u 1) tot) (ht : tot ≤ 6 * T) (h41 : v 4 l 1 = 1) (h13 : v 1 3 0 = nI l) (h7 : u 1 7 = nI l) (HR : rRun v (u 1) l T n G) (hT : T + 1 < 2 ^ 20) :
    decide (setAt (takeV l n v) 2 + setAt (takeV l n v) 0 ≤ takeV l n v 4 l 4) = roI (roE u lag n l) ∧ ∃ t', rHall (vs (if decide (setAt (takeV l n v) 2 + setAt (takeV l n v) 0 ≤ takeV l n v 4 l 4) = true then endV l n (takeV l n v) else takeV l n v) 1 4 0 ((if decide (setAt (takeV l n v) 2 + setAt (takeV l n v) 0 ≤ takeV l n v 4 l 4) = true then endV l n (takeV l n v) else takeV l n v) 1 4 0 + 1)) (ms (roU u lag n l) 1 4 (roU u lag n l 1 4 + 1) 1) n q (T + 1) lag g t' := by
  obtain ⟨K1, K2, K3, ⟨t', ht', K4⟩, K5, K6, K7⟩ := take_rel HN HB HL hlg HM ht h41 HR
  have n1 := HN.1
  have hk : roE u lag n l 1 8 = takeV l n v 4 l 4 := K6.2.2.2.2.2.2
  have hi : decide (setAt (takeV l n v) 2 + setAt (takeV l n v) 0 ≤ takeV l n v 4 l 4) = roI (roE u lag n l) := by
    have s2 : setAt (takeV l n v) 2 = roE u lag n l 1 2 := by
      rw [← K1.2.2.2.2.2.2.2.2 2 (by omega)]
      exact setAt_nI _ (j := 2) (by omega)
    have s0 : setAt (takeV l n v) 0 = roE u lag n l 1 0 := by
      rw [← K1.2.2.2.2.2.2.2.2 0 (by omega)]
      exact setAt_nI _ (j := 0) (by omega)
    unfold roI
    rw [s2, s0, hk]
  refine ⟨hi, t', ?_⟩
  rw [hi]
  unfold roU
  have hg' : takeV l n v 1 2 0 = nI g := by rw [K7]; exact hg
  by_cases hr : roI (roE u lag n l) = true
  · rw [if_pos hr, if_pos hr]
    obtain ⟨E1, E2, E3, E4, E5, E6, E7⟩ := end_rel K1 K2 K3 hlg hg' K4 K5 K6 (by omega)
    exact tick_rel E1 E2 E3 E7 E4 (by omega) (Or.inl ⟨E5, E6⟩) hT
  · rw [if_neg hr, if_neg hr]
    exact tick_rel K1 K2 K3 hg' K4 (by omega) (Or.inr ⟨l, _, hlg, by rw [K7]; exact h13, by rw [roE_lo _ _ _ _ (by omega)]; exact h7, K5, K6⟩) hT
theorem how_fw (HL : rLot v (u 1) q g) (hq : q ≤ 8) : fwF (u 1) q q = if g < q then nI g else -6 := by
  obtain ⟨l1, l2, l3, l4⟩ := HL
  refine fw_eq' l1 (fun i hi => ?_) (fun i h1 h2 => ?_)
  · rw [(l2 i (by omega)).2.1]; exact l3 i hi
  · rw [(l2 i h2).2.1]; exact (l4 i h1 (by omega)).1
/-- a round -/
theorem play_rel (H : rHall v (u 1) n q T lag g tot) (hT : T + 1 < 2 ^ 20) : (playV n v).2 = rdI (rdA u q) lag n ∧ ∃ g' t', rHall (playV n v).1 (rdU u lag n q 1) n q (T + 1) lag g' t' := by
  obtain ⟨HN, HB, HL, hg, ⟨HM, ht⟩, HA⟩ := H
  have n1 := HN.1
  have n2 := HN.2.1
  have hv1 := HN.2.2.2.2.2.1.1
  have FW := how_fw HL n2
  rcases HA with ⟨a1, a2⟩ | ⟨l, G, a1, a2, a3, a4, a5⟩
  · by_cases hgq : g < q
    · rw [if_pos hgq] at FW
      obtain ⟨B1, B2, B3, B4, B5, B6, B7, B8, B9⟩ := begin_rel HN HB HL hgq
      have n6 : ¬ nI g = -6 := nI_n6 (by omega)
      have eA : rdA u q = bgU u g := by
        unfold rdA
        rw [FW, if_pos ⟨a2, n6⟩, nI_cl _ (by omega)]
      have eV : beginV v = bgW v g := begin_eq n2 hv1 hg hgq
      have hv1' := B1.2.2.2.2.2.1.1
      have hl : lAt (bgW v g) 0 (bgW v g 1 3 0) ≠ none := by
        rw [B8, lAt_in (b := 0) hgq n2 hv1']
        exact fun z => by cases z
      obtain ⟨R1, t', R2⟩ := run_rel B1 B2 B3 rfl B7 B4 (by omega) B5 B8 B9 B6 hT
      unfold playV rdI rdU rdB
      rw [eA, if_pos a1, eV]
      rw [B8] at hl
      simp only [B8, B9, n6, if_false, nI_cl g (show g < 2 ^ 31 by omega)]
      simp only [hl, if_false]
      exact ⟨R1, _, t', R2⟩
    · rw [if_neg hgq] at FW
      have eA : rdA u q = u := by
        unfold rdA
        rw [FW, if_neg (fun z => z.2 rfl)]
      have hge : g = q := by have := HL.1; omega
      have eV : beginV v = v := by
        unfold beginV
        rw [if_pos]
        exact lAt_no n2 hv1 (fun k hk z => by
          rw [hg] at z
          have := (nI_eq (by omega) (by omega)).mp z
          omega)
      have hl : lAt v 0 (v 1 3 0) = none := lAt_no n2 hv1 (fun k hk z => nI_n6 (by omega) (z.symm.trans a1))
      unfold playV rdI rdU rdB
      rw [eA, if_pos a1, eV, if_pos hl, if_pos a2, if_pos a2]
      exact ⟨rfl, g, tot, tick_rel HN HB HL hg HM (by omega) (Or.inl ⟨a1, a2⟩) hT⟩
  · have n6 : ¬ nI l = -6 := nI_n6 (by have := HL.1; omega)
    have eA : rdA u q = u := by
      unfold rdA
      rw [if_neg (fun z => n6 (a3.symm.trans z.1))]
    have hl : lAt v 0 (v 1 3 0) ≠ none := by
      rw [a2, lAt_in (b := 0) (by have := HL.1; omega) n2 hv1]
      exact fun z => by cases z
    obtain ⟨R1, t', R2⟩ := run_rel HN HB HL a1 hg HM ht a4 a2 a3 a5 hT
    unfold playV rdI rdU rdB
    rw [eA]
    simp only [a2, a3, n6, if_false, nI_cl l (show l < 2 ^ 31 by have := HL.1; omega)]
    rw [a2] at hl
    simp only [hl, if_false]
    exact ⟨R1, _, t', R2⟩
theorem pass_rel (H : rHall v (u 1) n q T lag g tot) (k : Nat) (hT : T + k < 2 ^ 20) : (passV n v k).2 = psI u lag n q k ∧ ∃ g' t', rHall (passV n v k).1 (psU u lag n q k 1) n q (T + k) lag g' t' := by
  induction k with
  | zero => exact ⟨rfl, g, tot, H⟩
  | succ k ih =>
    obtain ⟨i1, g', t', i2⟩ := ih (by omega)
    obtain ⟨p1, p2⟩ := play_rel i2 (by omega)
    refine ⟨?_, p2⟩
    rw [passV_s]
    show (if (playV n (passV n v k).1).2 = true then (passV n v k).2 + 1 else (passV n v k).2) = psI u lag n q k + evBl (rdI (rdA (psU u lag n q k) q) lag n)
    rw [p1, i1]
    cases rdI (rdA (psU u lag n q k) q) lag n
    · exact (Int32.add_zero _).symm
    · rfl
theorem has_rel (H : rHall v (u 1) n q T lag g tot) : hasV v = hlB u q := by
  obtain ⟨HN, HB, HL, hg, ⟨HM, ht⟩, HA⟩ := H
  have n2 := HN.2.1
  have FW := how_fw HL n2
  have hv1 := HN.2.2.2.2.2.1.1
  unfold hasV hlB
  rw [FW, hg, hv1]
  rcases HA with ⟨a1, a2⟩ | ⟨l, G, a1, a2, a3, a4, a5⟩
  · rw [if_pos a2, a1]
    by_cases hgq : g < q
    · rw [if_pos hgq, if_neg (nI_n6 (by omega))]
      simp only [decide_true, Bool.not_true, Bool.false_or, decide_eq_true_eq]
      exact nI_lt hgq (by omega)
    · rw [if_neg hgq, if_pos rfl]
      simp only [decide_true, Bool.not_true, Bool.false_or, decide_eq_false_iff_not]
      exact nI_nlt (by omega) (by have := HL.1; omega)
  · have n6 : ¬ nI l = -6 := nI_n6 (by have := HL.1; omega)
    rw [a2, a3, if_neg n6]
    simp only [n6, decide_false, Bool.not_false, Bool.true_or]
theorem out_rel (H : rHall v (u 1) n q T lag g tot) (k : Nat) (hT : T + k < 2 ^ 20) : ∃ T' g' t', T' ≤ T + k ∧ rHall (outV n v k) (farU u lag n q k 1) n q T' lag g' t' := by
  induction k with
  | zero => exact ⟨T, g, tot, Nat.le_refl _, H⟩
  | succ k ih =>
    obtain ⟨T', g', t', h1, i2⟩ := ih (by omega)
    have hh := has_rel i2
    rw [outV_s]
    show ∃ T' g' t', T' ≤ T + (k + 1) ∧ rHall _ ((if hlB (farU u lag n q k) q = true then rdU (farU u lag n q k) lag n q else farU u lag n q k) 1) n q T' lag g' t'
    rw [hh]
    by_cases hc : hlB (farU u lag n q k) q = true
    · rw [if_pos hc, if_pos hc]
      obtain ⟨p1, g'', t'', p2⟩ := play_rel i2 (by omega)
      exact ⟨T' + 1, g'', t'', by omega, p2⟩
    · rw [if_neg hc, if_neg hc]
      exact ⟨T', g', t', by omega, i2⟩
end PR
