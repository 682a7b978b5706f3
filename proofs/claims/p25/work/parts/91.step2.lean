/-! a round, both: the step -/
section SP
variable {v : evVt} {w u : Nat → Nat → Int32} {G : Nat → Nat → Int32} {L : evLs} {n q T lag g tot l len : Nat}
theorem ntE_congr {r r' : Nat → Int32} (h : ∀ j, j = 9 ∨ 168 ≤ j → r' j = r j) (H : ntE r L len) : ntE r' L len := ⟨by rw [h 9 (Or.inl rfl)]; exact H.1, fun a p h1 h2 h3 => by rw [h _ (Or.inr (by omega))]; exact H.2 a p h1 h2 h3⟩
theorem run_p (HN : rNum v (u 1) n q T lag) (HB : rBidA v (u 1) n) (HL : rLot v (u 1) q g) (hlg : l + 1 = g) (HM : rMade v (u 1) tot) (ht : tot ≤ 6 * T) (h41 : v 4 l 1 = 1) (HR : rRun v (u 1) l T n G) (hn : n ≤ 3) (hT : T + 1 < 16000) (hbd : rBd v (g - 1) T) (HE : rowE w (u 1) n q) (h8 : w 0 8 = u 1 8) (h9 : w 0 9 = nI len) (hlen : len ≤ 128) (h10 : w 0 10 = 0) (hL : lsE (w 3) (w 4) L len) (hO : lsO L len) (hS : gLs G L (fun t _ => t < T) n len) (hN : ntE (u 1) L len) (hv : ronW w l n 0 10 = 0) :
    endsB (roW2 w l n) = roI (roE u lag n l) ∧ rowE (ronW w l n) (rwS (roU u lag n l 1) 4 (nI (T + 1))) n q ∧ ∃ L' len', (ronW w l n 0 9 = nI len' ∧ len' ≤ 128 ∧ ronW w l n 0 10 = 0) ∧ lsE (ronW w l n 3) (ronW w l n 4) L' len' ∧ lsO L' len' ∧ ntE (roU u lag n l 1) L' len' ∧ (roI (roE u lag n l) = false → ∃ G', rRun (takeV l n v) (roE u lag n l 1) l (T + 1) n G' ∧ gLs G' L' (fun t _ => t < T + 1) n len' ∧ ronW w l n 0 8 = roE u lag n l 1 8) := by
  have hv1 : roW1 w l n 0 10 = 0 := by
    have e : roW2 w l n 0 10 = roW1 w l n 0 10 := by
      unfold roW2
      rw [ms_at, if_neg (by omega), ms_at, if_neg (by omega)]
    rw [← e]
    unfold ronW at hv
    split at hv
    · rw [endW_0, if_neg (by omega)] at hv; exact hv
    · exact hv
  obtain ⟨L', len', R1, R2, ⟨R3, R4, R5⟩, R6, R7, R8, R9⟩ := ro_st HN HB HL hlg HR hn (by omega) hbd HE h8 h9 hlen h10 hL hO hS hN hv1
  obtain ⟨K1, K2, K3, ⟨t', ht', K4⟩, K5, K6, K7⟩ := take_rel HN HB HL hlg HM ht h41 HR
  have hE : endsB (roW2 w l n) = roI (roE u lag n l) := by
    unfold endsB roI
    rw [R1.1 2 (by omega), R1.1 0 (by omega), R2, rwS_at, rwS_at, if_neg (by omega), if_neg (by omega)]
  refine ⟨hE, ?_⟩
  unfold ronW roU
  rw [hE]
  cases hi : roI (roE u lag n l) with
  | true =>
    rw [if_pos rfl, if_pos rfl]
    obtain ⟨E1, E2⟩ := en_st K3 HN.2.1 hlg K6 hn R1 R3 R4 R6 R8 R9
    refine ⟨E1, L', len', ⟨by rw [endW_0, if_neg (by omega)]; exact R3, R4, by rw [endW_0, if_neg (by omega)]; exact R5⟩, by rw [endW_o (by omega) (by omega) (by omega), endW_o (by omega) (by omega) (by omega)]; exact R6, R7, E2, fun z => by cases z⟩
  | false =>
    rw [if_neg (by decide), if_neg (by decide)]
    exact ⟨R1, L', len', ⟨R3, R4, R5⟩, R6, R7, R9, fun _ => ⟨_, K6, R8, R2⟩⟩
/-- a round in which the lot l runs -/
theorem tick_p (HN : rNum v (u 1) n q T lag) (HB : rBidA v (u 1) n) (HL : rLot v (u 1) q g) (hlg : l + 1 = g) (hg : v 1 2 0 = nI g) (HM : rMade v (u 1) tot) (ht : tot ≤ 6 * T) (h41 : v 4 l 1 = 1) (h13 : v 1 3 0 = nI l) (h7 : u 1 7 = nI l) (HR : rRun v (u 1) l T n G) (hn : n ≤ 3) (hT : T + 1 < 16000) (hbd : rBd v (g - 1) T) (HE : rowE w (u 1) n q) (h8 : w 0 8 = u 1 8) (h9 : w 0 9 = nI len) (hlen : len ≤ 128) (h10 : w 0 10 = 0) (hL : lsE (w 3) (w 4) L len) (hO : lsO L len) (hS : gLs G L (fun t _ => t < T) n len) (hN : ntE (u 1) L len) (hv : ronW w l n 0 10 = 0) {g' t' : Nat} (hgt : g' ≤ 8) {e : Bool} (he : e = roI (roE u lag n l)) {v' : evVt} {u' : Nat → Nat → Int32}
    (ev : v' = vs (if e = true then endV l n (takeV l n v) else takeV l n v) 1 4 0 ((if e = true then endV l n (takeV l n v) else takeV l n v) 1 4 0 + 1)) (eu : u' 1 = rwS (roU u lag n l 1) 4 (nI (T + 1))) (hg' : v' 1 2 0 = nI g') :
    rowE (ronW w l n) (u' 1) n q ∧ e = endsB (roW2 w l n) ∧ ∃ L len, (ronW w l n 0 9 = nI len ∧ len ≤ 128 ∧ ronW w l n 0 10 = 0) ∧ lsE (ronW w l n 3) (ronW w l n 4) L len ∧ lsO L len ∧ ntE (u' 1) L len ∧ rnG v' u' (ronW w l n) n (T + 1) g' L len := by
  obtain ⟨hE, R1, L', len', R3, R6, R7, R9, RR⟩ := run_p HN HB HL hlg HM ht h41 HR hn hT hbd HE h8 h9 hlen h10 hL hO hS hN hv
  obtain ⟨K1, K2, K3, -, K5, K6, K7⟩ := take_rel HN HB HL hlg HM ht h41 HR
  have hl8 : l < 8 := by have := HL.1; have := HN.2.1; omega
  refine ⟨by rw [eu]; exact R1, he.trans hE.symm, L', len', R3, R6, R7, ntE_congr (fun j hj => by rw [eu, rwS_at, if_neg (by omega)]) R9, ?_⟩
  cases hi : roI (roE u lag n l) with
  | true =>
    left
    rw [eu, rwS_at, if_neg (by omega)]
    unfold roU
    rw [if_pos hi]
    exact enU_7 _
  | false =>
    right
    obtain ⟨G', g1, g2, g3⟩ := RR hi
    have e0 : e = false := he.trans hi
    have ev' : v' = vs (takeV l n v) 1 4 0 (takeV l n v 1 4 0 + 1) := by rw [ev, e0]; rfl
    have er : roU u lag n l = roE u lag n l := by unfold roU; rw [hi]; rfl
    have x12 : v' 1 2 0 = nI g := by rw [ev', vs_at, if_neg (by omega), K7]; exact hg
    have hgg : g' = g := (nI_eq (by omega) (by omega)).mp (hg'.symm.trans x12)
    have eo : ∀ a i j, ¬ (a = 1 ∧ i = 4 ∧ j = 0) → v' a i j = takeV l n v a i j := fun a i j h => by rw [ev', vs_at, if_neg h]
    have eur : ∀ j, j ≠ 4 → u' 1 j = roE u lag n l 1 j := fun j hj => by rw [eu, rwS_at, if_neg hj, er]
    refine ⟨l, G', by omega, ?_, ?_, ?_, ?_, g2, ?_⟩
    · rw [eo _ _ _ (by omega), K7]; exact h13
    · rw [eur _ (by omega), roE_lo _ _ _ _ (by omega)]; exact h7
    · rw [eo _ _ _ (by omega)]; exact K5
    · exact rRun_congr (fun i j => eo _ _ _ (by omega)) (fun i j => eo _ _ _ (by omega)) (fun i j => eo _ _ _ (by omega)) (eo _ _ _ (by omega)) (fun j h1 h2 => eur _ (by omega)) (eur _ (by omega)) g1
    · rw [g3, eur _ (by omega)]
theorem play_p (P : pRel v u w n q T lag g tot) (I : lI w n q) (hT : T + 1 < 16000) (h10 : rnW w n q 0 10 = 0) : (playV n v).2 = rnB w n q ∧ ∃ g' t', pRel (playV n v).1 (rdU u lag n q) (rnW w n q) n q (T + 1) lag g' t' := by
  obtain ⟨HF, ⟨hn3, hT0⟩, HE, HZ, L, len, ⟨h9, hlen, w10⟩, hL, hO, hN, HR⟩ := P
  obtain ⟨p1, g', t', HF'⟩ := play_fu HF (by omega)
  have hg8 : g' ≤ 8 := by
    have h1 := HF'.1.1.2.2.1.1
    have h2 := HF'.1.1.1.2.1
    omega
  have hg' := HF'.1.1.2.2.2.1
  have hu4 : rdU u lag n q 1 4 = nI (T + 1) := HF'.1.1.1.2.2.2.2.2.2.1.2
  have HFb := HF.2
  obtain ⟨⟨HN, HB, HL, hg, ⟨HM, ht⟩, HA⟩, hW, hNn⟩ := id HF.1
  have hq8 := HN.2.1
  have n1 := HN.1
  have hv1 := HN.2.2.2.2.2.1.1
  have FW := how_fw HL hq8
  have HZ' := zr_rn I HZ
  have hrow : rdU u lag n q 1 = rwS (rdB (rdA u q) lag n 1) 4 (nI (T + 1)) := by
    have e : rdU u lag n q 1 = rwS (rdB (rdA u q) lag n 1) 4 (rdB (rdA u q) lag n 1 4 + 1) := ms_row _ _ _
    have e4 : rdB (rdA u q) lag n 1 4 + 1 = nI (T + 1) := by
      rw [← hu4, e, rwS_at, if_pos rfl]
    rw [e, e4]
  have fin : ∀ {b : Bool}, (playV n v).2 = b → rnB w n q = b → rowE (rnW w n q) (rdU u lag n q 1) n q → (∃ L len, (rnW w n q 0 9 = nI len ∧ len ≤ 128 ∧ rnW w n q 0 10 = 0) ∧ lsE (rnW w n q 3) (rnW w n q 4) L len ∧ lsO L len ∧ ntE (rdU u lag n q 1) L len ∧ rnG (playV n v).1 (rdU u lag n q) (rnW w n q) n (T + 1) g' L len) → (playV n v).2 = rnB w n q ∧ ∃ g' t', pRel (playV n v).1 (rdU u lag n q) (rnW w n q) n q (T + 1) lag g' t' := fun b1 b2 b3 b4 => ⟨b1.trans b2.symm, g', t', HF', ⟨hn3, hT⟩, b3, HZ', b4⟩
  rcases HR with hr7 | ⟨l, G, hlg, h13, h7, h41, HRR, hS, h8⟩
  · have w7 : w 0 7 = -6 := (HE.1 7 (by omega)).trans hr7
    have a1 : v 1 3 0 = -6 := by
      rcases HA with ⟨z, -⟩ | ⟨l', G', e1, e2, e3, -⟩
      · exact z
      · exact absurd (e3.symm.trans hr7) (nI_n6 (by have := HL.1; omega))
    have eB : bgA w q = if g < q then bgL w g else w := by
      unfold bgA
      rw [if_pos (by rw [w7]; decide), bgF_rel HE hq8 q (Nat.le_refl q), FW]
      by_cases hgq : g < q
      · rw [if_pos hgq, if_neg (nI_n6 (by omega)), nI_cl _ (by omega), if_pos hgq]
      · rw [if_neg hgq, if_pos rfl, if_neg hgq]
    have hb0 : rBd v g T := by
      unfold rBE at HFb
      rw [if_pos a1] at HFb
      exact HFb
    by_cases hgq : g < q
    · rw [if_pos hgq] at FW eB
      obtain ⟨B1, B2, B3, B4, B5, B6, B7, B8, B9⟩ := begin_rel HN HB HL hgq
      have n6 : ¬ nI g = -6 := nI_n6 (by omega)
      have eA : rdA u q = bgU u g := by
        unfold rdA
        rw [FW, if_pos ⟨hr7, n6⟩, nI_cl _ (by omega)]
      have eV : beginV v = bgW v g := begin_eq hq8 hv1 hg hgq
      have hv1' := B1.2.2.2.2.2.1.1
      have hl : lAt (bgW v g) 0 (nI g) ≠ none := by
        rw [lAt_in (b := 0) hgq hq8 hv1']
        exact fun z => by cases z
      have x7 : bgL w g 0 7 = nI g := by rw [bgL_0, if_neg (by omega), if_neg (by omega), if_pos rfl]
      have nlt : ¬ nI g < 0 := nI_pos (by omega)
      have eW : rnW w n q = ronW (bgL w g) g n := by
        unfold rnW
        rw [eB, x7, if_neg nlt, nI_cl _ (by omega)]
      have eRB : rnB w n q = endsB (roW2 (bgL w g) g n) := by
        unfold rnB
        rw [eB, x7, if_neg nlt, nI_cl _ (by omega)]
      have eRd : rdB (rdA u q) lag n = roU (bgU u g) lag n g := by
        unfold rdB
        rw [eA, B9, if_neg n6, nI_cl _ (by omega)]
      rw [eRd] at hrow
      have ePl : playV n v = (vs (if decide (setAt (takeV g n (bgW v g)) 2 + setAt (takeV g n (bgW v g)) 0 ≤ takeV g n (bgW v g) 4 g 4) = true then endV g n (takeV g n (bgW v g)) else takeV g n (bgW v g)) 1 4 0 ((if decide (setAt (takeV g n (bgW v g)) 2 + setAt (takeV g n (bgW v g)) 0 ≤ takeV g n (bgW v g) 4 g 4) = true then endV g n (takeV g n (bgW v g)) else takeV g n (bgW v g)) 1 4 0 + 1), decide (setAt (takeV g n (bgW v g)) 2 + setAt (takeV g n (bgW v g)) 0 ≤ takeV g n (bgW v g) 4 g 4)) := by
        unfold playV
        rw [if_pos a1, eV]
        simp only [B8, nI_cl g (show g < 2 ^ 31 by omega)]
        simp only [hl, if_false]
      obtain ⟨D1, -⟩ := run_rel B1 B2 B3 rfl B7 B4 (by omega) B5 B8 B9 B6 (by omega)
      have x8 : bgL w g 0 8 = bgU u g 1 8 := by
        rw [bgL_0, if_neg (by omega), if_pos rfl, bg_at, if_neg (by omega), if_neg (by omega), if_neg (by omega), if_pos rfl]
      have x10 : bgL w g 0 10 = 0 := by rw [bgL_0, if_neg (by omega), if_neg (by omega), if_neg (by omega)]; exact w10
      have x9 : bgL w g 0 9 = nI 0 := by rw [bgL_0, if_pos rfl]; rfl
      have hS0 : gLs (fun _ _ => (0 : Int32)) L (fun t _ => t < T) n 0 := ⟨fun i hi => absurd hi (Nat.not_lt_zero i), fun t k _ _ hg => absurd hg (Int32.lt_irrefl)⟩
      have hN0 : ntE (bgU u g 1) L 0 := by
        refine ⟨?_, fun a p ha => absurd ha (Nat.not_lt_zero a)⟩
        rw [bg_at, if_neg (by omega), if_neg (by omega), if_pos rfl]; rfl
      rw [eW] at h10
      have K := tick_p (g' := g') (t' := t') B1 B2 B3 rfl B7 B4 (by omega) B5 B8 B9 B6 hn3 hT (by rw [Nat.add_sub_cancel]; exact bgW_bd hb0) (bgL_row HE hq8 n1 hgq) x8 x9 (by omega) x10 (fun i hi => absurd hi (Nat.not_lt_zero i)) (fun i j _ hj => absurd hj (Nat.not_lt_zero j)) hS0 hN0 h10 hg8 D1 (congrArg (fun z : evVt × Bool => z.1) ePl) hrow hg'
      obtain ⟨K1, K2, K3⟩ := K
      refine fin (congrArg (fun z : evVt × Bool => z.2) ePl) (eRB.trans K2.symm) ?_ ?_
      · rw [eW]; exact K1
      · rw [eW]; exact K3
    · rw [if_neg hgq] at FW eB
      have eA : rdA u q = u := by
        unfold rdA
        rw [FW, if_neg (fun z => z.2 rfl)]
      have hge : g = q := by have := HL.1; omega
      have eV : beginV v = v := by
        unfold beginV
        rw [if_pos]
        exact lAt_no hq8 hv1 (fun k hk z => by
          rw [hg] at z
          have := (nI_eq (by omega) (by omega)).mp z
          omega)
      have hl : lAt v 0 (v 1 3 0) = none := lAt_no hq8 hv1 (fun k hk z => nI_n6 (by omega) (z.symm.trans a1))
      have ePl : playV n v = (vs v 1 4 0 (v 1 4 0 + 1), false) := by
        unfold playV
        rw [if_pos a1, eV, if_pos hl]
      have lt7 : w 0 7 < 0 := by rw [w7]; decide
      have eW : rnW w n q = ms w 0 4 (w 0 4 + 1) := by
        unfold rnW
        rw [eB, if_pos lt7]
      have eRB : rnB w n q = false := by
        unfold rnB
        rw [eB, if_pos lt7]
      have eRd : rdB (rdA u q) lag n = u := by
        unfold rdB
        rw [eA, if_pos hr7]
      rw [eRd] at hrow
      have w4 : w 0 4 + 1 = nI (T + 1) := by
        rw [HE.1 4 (by omega), HN.2.2.2.2.2.2.1.2]
        exact (nI_succ T).symm
      refine fin (congrArg (fun z : evVt × Bool => z.2) ePl) eRB ?_ ?_
      · rw [eW, hrow, w4]
        refine ⟨fun j hj => ?_, fun i j hi hj => ?_, fun i j hi hj => ?_⟩
        · rw [ms_at, rwS_at]
          by_cases hj4 : j = 4
          · rw [if_pos ⟨rfl, hj4⟩, if_pos hj4]
          · rw [if_neg (fun z => hj4 z.2), if_neg hj4]; exact HE.1 j hj
        · rw [ms_at, if_neg (by omega), rwS_at, if_neg (by omega)]; exact HE.2.1 i j hi hj
        · rw [ms_at, if_neg (by omega), rwS_at, if_neg (by omega)]; exact HE.2.2 i j hi hj
      · rw [eW]
        refine ⟨L, len, ⟨by rw [ms_at, if_neg (by omega)]; exact h9, hlen, by rw [ms_at, if_neg (by omega)]; exact w10⟩, ?_, hO, ntE_congr (fun j hj => by rw [hrow, rwS_at, if_neg (by omega)]) hN, Or.inl (by rw [hrow, rwS_at, if_neg (by omega)]; exact hr7)⟩
        rw [ms_row0 _ _ _ _ (by omega), ms_row0 _ _ _ _ (by omega)]
        exact hL
  · have hl8 : l < 8 := by have := HL.1; omega
    have n6 : ¬ nI l = -6 := nI_n6 (by omega)
    have w7 : w 0 7 = nI l := (HE.1 7 (by omega)).trans h7
    have nlt : ¬ nI l < 0 := nI_pos (by omega)
    have eB : bgA w q = w := by
      unfold bgA
      rw [w7, if_neg nlt]
    have eA : rdA u q = u := by
      unfold rdA
      rw [if_neg (fun z => n6 (h7.symm.trans z.1))]
    have hl : lAt v 0 (nI l) ≠ none := by
      rw [lAt_in (b := 0) (by have := HL.1; omega) hq8 hv1]
      exact fun z => by cases z
    have eW : rnW w n q = ronW w l n := by
      unfold rnW
      rw [eB, w7, if_neg nlt, nI_cl _ (by omega)]
    have eRB : rnB w n q = endsB (roW2 w l n) := by
      unfold rnB
      rw [eB, w7, if_neg nlt, nI_cl _ (by omega)]
    have eRd : rdB (rdA u q) lag n = roU u lag n l := by
      unfold rdB
      rw [eA, h7, if_neg n6, nI_cl _ (by omega)]
    rw [eRd] at hrow
    have ePl : playV n v = (vs (if decide (setAt (takeV l n v) 2 + setAt (takeV l n v) 0 ≤ takeV l n v 4 l 4) = true then endV l n (takeV l n v) else takeV l n v) 1 4 0 ((if decide (setAt (takeV l n v) 2 + setAt (takeV l n v) 0 ≤ takeV l n v 4 l 4) = true then endV l n (takeV l n v) else takeV l n v) 1 4 0 + 1), decide (setAt (takeV l n v) 2 + setAt (takeV l n v) 0 ≤ takeV l n v 4 l 4)) := by
      unfold playV
      simp only [h13, n6, if_false, nI_cl l (show l < 2 ^ 31 by omega)]
      simp only [hl, if_false]
    obtain ⟨D1, -⟩ := run_rel HN HB HL hlg hg HM ht h41 h13 h7 HRR (by omega)
    have hb0 : rBd v (g - 1) T := by
      unfold rBE at HFb
      rw [if_neg (by rw [h13]; exact n6)] at HFb
      exact HFb
    rw [eW] at h10
    have K := tick_p (g' := g') (t' := t') HN HB HL hlg hg HM ht h41 h13 h7 HRR hn3 hT hb0 HE h8 h9 hlen w10 hL hO hS hN h10 hg8 D1 (congrArg (fun z : evVt × Bool => z.1) ePl) hrow hg'
    obtain ⟨K1, K2, K3⟩ := K
    refine fin (congrArg (fun z : evVt × Bool => z.2) ePl) (eRB.trans K2.symm) ?_ ?_
    · rw [eW]; exact K1
    · rw [eW]; exact K3
end SP
