/-! a round's bids keep the relation -/
theorem rG_N {G : Nat → Nat → Int32} {T n : Nat} {B : Nat → Int32} (h : rG G n) : rG (gN G T n B) n := by
  intro t k hk
  unfold gN
  split
  · rw [if_neg (by omega)]
  · exact h t k hk
section TR
variable {v : evVt} {u : Nat → Nat → Int32} {G : Nat → Nat → Int32} {n q T lag g tot l : Nat}
theorem bids_same (HN : rNum v (u 1) n q T lag) (HB : rBidA v (u 1) n) (HL : rLot v (u 1) q g) (hl : l < g) (HR : rRun v (u 1) l T n G) {k : Nat} (hk : k < n) : bidV (u 1) lag n l k = bidC l k v := by
  obtain ⟨n1, n2, n3, n4, n5, n6, ⟨n7, n7'⟩, n8, n9⟩ := HN
  obtain ⟨r1, r2, r3, r4, r5, r6, r7⟩ := HR
  have s0 : setAt v 0 = nI lag := by rw [← n8, ← n9 0 (by omega)]; exact setAt_nI v (j := 0) (by omega)
  have s1 : setAt v 1 = u 1 1 := by rw [← n9 1 (by omega)]; exact setAt_nI v (j := 1) (by omega)
  have A := bel_eq n1 hk n3 (by omega) n7 s0 n7' r1 r2 r3 r4 r5
  exact bid_eq A s1 (HB.1 k 7 hk (by omega)) (HB.1 k 0 hk (by omega)) (HB.1 k 1 hk (by omega)) (HL.2.1 l (by have := HL.1; omega)).1
theorem take_rel (HN : rNum v (u 1) n q T lag) (HB : rBidA v (u 1) n) (HL : rLot v (u 1) q g) (hlg : l + 1 = g) (HM : rMade v (u 1) tot) (ht : tot ≤ 6 * T) (h41 : v 4 l 1 = 1) (HR : rRun v (u 1) l T n G) :
    rNum (takeV l n v) (roE u lag n l 1) n q T lag ∧ rBidA (takeV l n v) (roE u lag n l 1) n ∧ rLot (takeV l n v) (roE u lag n l 1) q g ∧ (∃ t', t' ≤ tot + n ∧ rMade (takeV l n v) (roE u lag n l 1) t') ∧ takeV l n v 4 l 1 = 1 ∧ rRun (takeV l n v) (roE u lag n l 1) l (T + 1) n (gN G T n (roA u lag n l 7)) ∧ (∀ i, takeV l n v 1 i 0 = v 1 i 0) := by
  obtain ⟨n1, n2, n3, n4, n5, n6, ⟨n7, n7'⟩, n8, n9⟩ := id HN
  obtain ⟨r1, r2, r3, r4, r5, r6, r7⟩ := id HR
  obtain ⟨l1, l2, l3, l4⟩ := id HL
  have hl8 : l < 8 := by omega
  have hT30 : T < 2 ^ 30 := by omega
  obtain ⟨z0, z1, z2, z3, z4, z5, z6⟩ := l2 l (by omega)
  have A1 : ∀ j, ¬ (10 ≤ j ∧ j < 58 ∧ (j - 10) % 8 = 7) → roA u lag n l 1 j = u 1 j := fun j hj => roA_1n u hj n1
  have hbf : roA u lag n l 1 (58 + 7 * l + 5) = v 5 l 1 := by rw [A1 _ (by omega), z3]
  have TK := tk_all (u0 := roA u lag n l) (G := G) (tot := tot) n1 hl8 hT30 (by omega) n7 (by rw [A1 _ (by omega), n7']) hbf (fun k hk => by rw [roA_7 u hk, bids_same HN HB HL (by omega) HR hk])
    (fun i j hi hj => by rw [A1 _ (by omega), HB.1 i j hi (by omega)])
    (fun k hk => by rw [A1 _ (by omega), A1 _ (by omega)]; exact r2 k hk)
    ⟨v 5 l 2, by rw [hbf, A1 _ (by omega), z4]; exact r6⟩
    (by
      obtain ⟨m1, m2, m3⟩ := HM
      refine ⟨by rw [A1 _ (by omega), m1], m2, fun a p h1 h2 h3 => by rw [A1 _ (by omega), m3 a p h1 h2 h3]⟩) n (Nat.le_refl n)
  have hM : mbU (roA u lag n l 1 (58 + 7 * l + 5)) l (roA u lag n l) n = roM u lag n l := rfl
  rw [hM] at TK
  obtain ⟨i1, i2, i3, i4, i5, i6, i7⟩ := TK
  have M1 : ∀ j, unt l j → ¬ (10 ≤ j ∧ j < 58 ∧ (j - 10) % 8 = 7) → roM u lag n l 1 j = u 1 j := fun j h1 h2 => by rw [i5 j h1, A1 j h2]
  have eo : ∀ a i j, a ≠ 4 → a ≠ 5 → a ≠ 6 → takeV l n v a i j = (tkV l (v 5 l 1) v n).1 a i j := fun a i j h4 h5 h6 => take_o hT30 n7 h4 h5 h6
  have e01 : ∀ a i j, a < 2 → takeV l n v a i j = v a i j := fun a i j ha => by rw [eo _ _ _ (by omega) (by omega) (by omega), tkV_o (by omega) (by omega) (by omega) (by omega)]
  have e4 : ∀ i j, ¬ (i = l ∧ (j = 3 ∨ j = 4)) → takeV l n v 4 i j = v 4 i j := fun i j h => by
    have a1 : ¬ (i = l ∧ j = 4) := fun z => h ⟨z.1, Or.inr z.2⟩
    have a2 : ¬ (i = l ∧ j = 3) := fun z => h ⟨z.1, Or.inl z.2⟩
    rw [take_4 hT30 n7, if_neg a1, if_neg a2]
  have e5 : ∀ i j, i ≠ l → takeV l n v 5 i j = v 5 i j := fun i j h => by rw [take_5 hT30 n7, ecV_5 h, tmV_o (by omega), tkV_o (by omega) (by omega) (by omega) (by omega)]
  have hG' : rG (gN G T n (roA u lag n l 7)) n := rG_N r1
  have hBe : rBest (tmV l n v) (roM u lag n l 1) (gN G T n (roA u lag n l 7)) (fun t i => t < T ∨ t = T ∧ i < n) := fun k hk => by
    rw [tmV_o (by omega), tmV_o (by omega), tmV_o (by omega)]
    exact i2 k hk
  have HH := ecV_mx n1 hG' hBe (l := l) (by
    rw [tmV_o (by omega), tmV_o (by omega), tmV_o (by omega), tkV_o (by omega) (by omega) (by omega) (by omega), tkV_o (by omega) (by omega) (by omega) (by omega), tkV_o (by omega) (by omega) (by omega) (by omega)]
    exact mx_congr (fun s h0 => gB_gN (fun t k z => by omega) s) r6)
  have r' : ∀ j, j < 8 → roE u lag n l 1 j = u 1 j := fun j hj => roE_lo u lag n l hj
  refine ⟨?_, ?_, ?_, ?_, ?_, ?_, fun i => e01 1 i 0 (by omega)⟩
  · exact ⟨n1, n2, n3, n4, ⟨by rw [e01 _ _ _ (by omega)]; exact n5.1, by rw [r' _ (by omega)]; exact n5.2⟩, ⟨by rw [e01 _ _ _ (by omega)]; exact n6.1, by rw [r' _ (by omega)]; exact n6.2⟩, ⟨by rw [e01 _ _ _ (by omega)]; exact n7, by rw [r' _ (by omega)]; exact n7'⟩, by rw [r' _ (by omega)]; exact n8, fun j hj => by rw [e01 _ _ _ (by omega), r' _ (by omega)]; exact n9 j hj⟩
  · refine ⟨fun i j hi hj => ?_, fun i j hi hi6 hj => ?_⟩
    · rw [roE_a u lag n1 (by omega) (by omega) (by omega), eo _ _ _ (by omega) (by omega) (by omega)]
      by_cases h7 : j = 7
      · subst h7
        have e : 10 ≤ 10 + 8 * i + 7 ∧ 10 + 8 * i + 7 < 10 + 8 * n ∧ (10 + 8 * i + 7 - 10) % 8 = 7 := by omega
        rw [i5 _ (by unfold unt; omega), roA_1, if_pos e]
        exact (i7 i hi).symm
      · exact i1 i j hi (by omega)
    · rw [eo _ _ _ (by omega) (by omega) (by omega), tkV_k hi (Or.inl rfl)]
      exact HB.2 i j hi hi6 hj
  · refine ⟨l1, fun i hi => ?_, fun i hi => ?_, fun i hi hi8 => ?_⟩
    · by_cases hil : i = l
      · subst hil
        obtain ⟨R, i3⟩ := i3
        have U := mx_uniq (mx_congr (fun s h0 => gB_iff (S' := fun t _ => t < T + 1) (fun t k _ hp => by
          have hin : k < n := by
            rcases Nat.lt_or_ge k n with z | z
            · exact z
            · rw [hG' t k z] at hp
              exact absurd hp (by decide)
          constructor
          · intro a; omega
          · intro a; omega) h0) i3) HH
        have U1 := congrArg (fun z : evT => z.1) U
        have U3 := congrArg (fun z : evT => z.2.2) U
        simp only [] at U1 U3
        have e41 : takeV i n v 4 i 1 = 1 := by rw [e4 _ _ (by omega), h41]
        have n12 : ¬ (1 : Int32) = 2 := by decide
        refine ⟨?_, ?_, ?_, ?_, ?_, ?_, ?_⟩
        · rw [roE_a u lag n1 (by omega) (by omega) (by omega), M1 _ (by unfold unt; omega) (by omega), e4 _ _ (by omega), z0]
        · rw [roE_a u lag n1 (by omega) (by omega) (by omega), M1 _ (by unfold unt; omega) (by omega), e4 _ _ (by omega), z1]
        · have a1 : ¬ (i = i ∧ 3 = 4) := by omega
          rw [roE_ran u lag hl8, M1 _ (by unfold unt; omega) (by omega), take_4 hT30 n7, if_neg a1, if_pos ⟨rfl, rfl⟩, z2]
        · rw [roE_a u lag n1 (by omega) (by omega) (by omega), take_5 hT30 n7, U1]
        · rw [roE_a u lag n1 (by omega) (by omega) (by omega), take_5 hT30 n7, U3]
        · rw [roE_a u lag n1 (by omega) (by omega) (by omega), M1 _ (by unfold unt; omega) (by omega), e41, if_neg n12, z5, h41, if_neg n12]
        · rw [roE_a u lag n1 (by omega) (by omega) (by omega), M1 _ (by unfold unt; omega) (by omega), e41, if_neg n12, z6, h41, if_neg n12]
      · obtain ⟨y0, y1, y2, y3, y4, y5, y6⟩ := l2 i hi
        have E : ∀ p, p < 7 → roE u lag n l 1 (58 + 7 * i + p) = u 1 (58 + 7 * i + p) := fun p hp => by
          rw [roE_a u lag n1 (by omega) (by omega) (by omega), M1 _ (by unfold unt; omega) (by omega)]
        unfold rLot1
        rw [E 0 (by omega), E 1 (by omega), E 2 (by omega), E 3 (by omega), E 4 (by omega), E 5 (by omega), E 6 (by omega), e4 _ _ (by omega), e4 _ _ (by omega), e4 _ _ (by omega), e4 _ _ (by omega), e5 _ _ hil, e5 _ _ hil]
        exact ⟨y0, y1, y2, y3, y4, y5, y6⟩
    · rw [e4 _ _ (by omega)]
      exact l3 i hi
    · have hil : i ≠ l := by omega
      obtain ⟨y1, y2, y3, y4, y5, y6⟩ := l4 i hi hi8
      unfold rNew
      rw [e4 _ _ (by omega), e4 _ _ (by omega), e4 _ _ (by omega), e5 _ _ hil, e5 _ _ hil, e5 _ _ hil]
      exact ⟨y1, y2, y3, y4, y5, y6⟩
  · obtain ⟨t', ht', m1, m2, m3⟩ := i4
    refine ⟨t', ht', ?_, ?_, fun a p h1 h2 h3 => ?_⟩
    · rw [roE_a u lag n1 (by omega) (by omega) (by omega)]; exact m1
    · rw [eo _ _ _ (by omega) (by omega) (by omega)]; exact m2
    · rw [roE_a u lag n1 (by omega) (by omega) (by omega), eo _ _ _ (by omega) (by omega) (by omega)]; exact m3 a p h1 h2 h3
  · rw [e4 _ _ (by omega), h41]
  · refine ⟨hG', fun k hk => ?_, fun k hk => ?_, fun a k ha hk => ?_, fun j hj => ?_, ?_, ?_⟩
    · obtain ⟨b1, b2, b3⟩ := i2 k hk
      rw [roE_a u lag n1 (by omega) (by omega) (by omega), roE_a u lag n1 (by omega) (by omega) (by omega), eo _ _ _ (by omega) (by omega) (by omega), eo _ _ _ (by omega) (by omega) (by omega), eo _ _ _ (by omega) (by omega) (by omega)]
      refine ⟨mx_congr (fun s h0 => gB_iff (fun t k' _ hp => ?_) h0) b1, b2, b3⟩
      have hin : k' < n := by
        rcases Nat.lt_or_ge k' n with z | z
        · exact z
        · rw [hG' t k' z] at hp
          exact absurd hp (by decide)
      constructor
      · rintro ⟨a, b⟩; exact ⟨by omega, b⟩
      · rintro ⟨a, b⟩; exact ⟨by omega, b⟩
    · obtain ⟨o1, o2⟩ := r3 k hk
      obtain ⟨g1, g2⟩ := roE_old u lag (n := n) hl8 hk
      have x0 : roM u lag n l 1 (126 + 2 * k) = u 1 (126 + 2 * k) := M1 _ (by unfold unt; omega) (by omega)
      have x1 : roM u lag n l 1 (126 + 2 * k + 1) = u 1 (126 + 2 * k + 1) := M1 _ (by unfold unt; omega) (by omega)
      have x2 : roM u lag n l 1 (162 + k) = u 1 (138 + 6 * 4 + k) := by rw [M1 _ (by unfold unt; omega) (by omega)]
      have x4 : roM u lag n l 1 4 = nI T := by rw [M1 _ (by unfold unt; omega) (by omega), n7']
      rw [x0, x2, r4 4 k (by omega) hk] at g1
      rw [x0, x1, x2, x4, r4 4 k (by omega) hk] at g2
      rw [g1, g2]
      have old : mxQ (gB (gN G T n (roA u lag n l 7)) (fun t k' => t + 5 < T ∧ k' = k)) (u 1 (126 + 2 * k), u 1 (126 + 2 * k + 1), nI k) := mxQ_congr (fun s h0 => gB_gN (fun t k z => by omega) s) o1
      by_cases h5 : 5 ≤ T
      · have e5' : nI T - 5 = nI (T - 5) := pk_sub (a := T) (b := 5) h5
        rw [if_pos (show 4 + 1 ≤ T from h5), e5', show T - (4 + 1) = T - 5 from rfl]
        have gx : gN G T n (roA u lag n l 7) (T - 5) k = G (T - 5) k := gN_o (by omega)
        have N := mxQ_new (x := G (T - 5) k) (r := nI (T - 5)) (b := nI k) old o2 (by
          rintro s ⟨t, k', ⟨hs, rfl⟩, hk6, rfl⟩ -
          rintro (hc | ⟨hc, hd⟩)
          · exact absurd hc (nI_nlt (by omega) (by omega))
          · exact absurd hd (fun z => Int32.lt_irrefl z))
        have eP : mxQ (gB (gN G T n (roA u lag n l 7)) (fun t k' => t + 5 < T + 1 ∧ k' = k)) (if u 1 (126 + 2 * k) < G (T - 5) k then (G (T - 5) k, nI (T - 5), nI k) else (u 1 (126 + 2 * k), u 1 (126 + 2 * k + 1), nI k)) := by
          refine mxQ_congr (fun s h0 => ?_) N
          constructor
          · rintro (⟨t, k', ⟨hs, rfl⟩, hk6, rfl⟩ | rfl)
            · exact ⟨t, k', ⟨by omega, rfl⟩, hk6, rfl⟩
            · exact ⟨T - 5, k, ⟨by omega, rfl⟩, hk, by rw [gx]⟩
          · rintro ⟨t, k', ⟨hs, rfl⟩, hk6, rfl⟩
            by_cases htt : t = T - 5
            · right; rw [htt, gx]
            · left; exact ⟨t, k', ⟨by omega, rfl⟩, hk6, rfl⟩
        by_cases hc : u 1 (126 + 2 * k) < G (T - 5) k
        · rw [if_pos hc] at eP
          have hkn : k < n := by
            rcases Nat.lt_or_ge k n with z | z
            · exact z
            · rw [r1 _ _ z] at hc
              exact absurd hc o2
          rw [if_pos ⟨hkn, hc⟩, if_pos ⟨hkn, hc⟩]
          refine ⟨eP, fun z => ?_⟩
          have z0 : (0 : Int32).toInt = 0 := rfl
          rw [Int32.lt_iff_toInt_lt] at o2 hc z
          omega
        · rw [if_neg hc] at eP
          rw [if_neg (fun z => hc z.2), if_neg (fun z => hc z.2)]
          exact ⟨eP, o2⟩
      · rw [if_neg (show ¬ 4 + 1 ≤ T from h5), if_neg (fun z => o2 z.2), if_neg (fun z => o2 z.2)]
        refine ⟨mxQ_congr (fun s h0 => gB_iff (fun t k' _ hp => ?_) h0) old, o2⟩
        constructor
        · rintro ⟨a, b⟩; exact ⟨by omega, b⟩
        · rintro ⟨a, b⟩; exact ⟨by omega, b⟩
    · cases a with
      | zero =>
        rw [show 138 + 6 * 0 + k = 138 + k by omega, roE_rec0 u lag hl8 hk, if_pos (show 0 + 1 ≤ T + 1 by omega)]
        show _ = gN G T n (roA u lag n l 7) T k
        unfold gN
        rw [if_pos rfl]
        by_cases h : k < n
        · rw [if_pos h, if_pos h, roA_7 u h]
        · rw [if_neg h, if_neg h]
      | succ a =>
        rw [roE_rec u lag n1 hl8 (by omega) (by omega), show 138 + 6 * (a + 1) + k - 6 = 138 + 6 * a + k by omega, M1 _ (by unfold unt; omega) (by omega), r4 a k (by omega) hk]
        by_cases h : a + 1 ≤ T
        · rw [if_pos h, if_pos (show a + 1 + 1 ≤ T + 1 by omega), show T + 1 - (a + 1 + 1) = T - (a + 1) by omega, gN_o (by omega)]
        · rw [if_neg h, if_neg (show ¬ a + 1 + 1 ≤ T + 1 by omega)]
    · rw [take_6 hT30 n7 (by omega), take_6 hT30 n7 (by omega), take_6 hT30 n7 (by omega)]
      cases j with
      | zero =>
        have e : (T + 1 + 5 - 0) % 6 = T % 6 := by omega
        rw [if_pos e, if_pos e, if_pos e]
        refine mx_congr (fun s h0 => gB_iff (fun t k' _ hp => ?_) h0) HH
        constructor
        · intro a; omega
        · intro a; omega
      | succ j =>
        have e : ¬ (T + 1 + 5 - (j + 1)) % 6 = T % 6 := by omega
        rw [if_neg e, if_neg e, if_neg e, show T + 1 + 5 - (j + 1) = T + 5 - j by omega]
        refine mx_congr (fun s h0 => ?_) (r5 j (by omega))
        rw [gB_gN (n := n) (B := roA u lag n l 7) (T := T) (fun t k z => by omega)]
        refine gB_iff (fun t k' _ hp => ?_) h0
        constructor
        · intro a; omega
        · intro a; omega
    · show mxP _ _
      rw [take_5 hT30 n7, take_5 hT30 n7, take_5 hT30 n7]
      exact HH
    · have e44 : l = l ∧ 4 = 4 := ⟨rfl, rfl⟩
      rw [roE_8, take_4 hT30 n7, if_pos e44, M1 8 (by unfold unt; omega) (by omega), r7]
      unfold stV
      rw [i6]
      cases mbB (roA u lag n l) n <;> rfl
end TR
