/-! the whole relation of a hall and a row, bounds and all-/
def rFu (v : evVt) (r : Nat → Int32) (n q T lag g tot : Nat) : Prop := rOK v r n q T lag g tot ∧ rBE v g T
theorem rBE_congr {v v' : evVt} {g T : Nat} (h13 : v' 1 3 0 = v 1 3 0) (h0 : 0 ≤ (v' 0 1 0).toInt ∧ (v' 0 1 0).toInt ≤ 99) (h2 : ∀ i, i < 6 → ∀ e, rBi v i e T → rBi v' i e T) (h3 : ∀ k, k < 6 → v' 3 k 1 = v 3 k 1) (h4 : ∀ l, l < 8 → 0 ≤ (v' 4 l 0).toInt ∧ (v' 4 l 0).toInt ≤ 999) (h5 : ∀ l, l < 8 → v' 5 l 1 = v 5 l 1) (H : rBE v g T) : rBE v' g T := by
  unfold rBE at H ⊢
  rw [h13]
  obtain ⟨b0, b2, b3, b5⟩ := H
  exact ⟨h0, fun i hi => h2 i hi _ (b2 i hi), fun k hk => by rw [h3 k hk]; exact b3 k hk, fun l hl => ⟨h4 l hl, by rw [h5 l hl]; exact (b5 l hl).2⟩⟩
section FU
variable {v : evVt} {u : Nat → Nat → Int32} {r : Nat → Int32} {n q T lag g tot : Nat}
theorem play_fu (H : rFu v (u 1) n q T lag g tot) (hT : T + 1 < 2 ^ 20) : (playV n v).2 = rdI (rdA u q) lag n ∧ ∃ g' t', rFu (playV n v).1 (rdU u lag n q 1) n q (T + 1) lag g' t' := by
  obtain ⟨p1, g', t', p2⟩ := play_ok H.1 hT
  have hg8 : g' ≤ 8 := by
    have h1 := p2.1.2.2.1.1
    have h2 := p2.1.1.2.1
    omega
  exact ⟨p1, g', t', p2, play_bd H.1.1 hT H.2 g' hg8 p2.1.2.2.2.1⟩
theorem pass_fu (H : rFu v (u 1) n q T lag g tot) (k : Nat) (hT : T + k < 2 ^ 20) : (passV n v k).2 = psI u lag n q k ∧ ∃ g' t', rFu (passV n v k).1 (psU u lag n q k 1) n q (T + k) lag g' t' := by
  induction k with
  | zero => exact ⟨rfl, g, tot, H⟩
  | succ k ih =>
    obtain ⟨i1, g', t', i2⟩ := ih (by omega)
    obtain ⟨p1, p2⟩ := play_fu i2 (by omega)
    refine ⟨?_, p2⟩
    rw [passV_s]
    show (if (playV n (passV n v k).1).2 = true then (passV n v k).2 + 1 else (passV n v k).2) = psI u lag n q k + evBl (rdI (rdA (psU u lag n q k) q) lag n)
    rw [p1, i1]
    cases rdI (rdA (psU u lag n q k) q) lag n
    · exact (Int32.add_zero _).symm
    · rfl
theorem rFu_row {r' : Nat → Int32} (e : ∀ j, j < 328 → r' j = r j) (H : rFu v r n q T lag g tot) : rFu v r' n q T lag g tot := ⟨rOK_row e H.1, H.2⟩
theorem set_fu (H : rFu v (u 1) n q T lag g tot) (x y : Int32) : (isvB x y = true ∧ (clSet v x y).1 = u 1 x.toNatClampNeg ∧ ¬ (clSet v x y).1 < 0 ∧ ∃ lag', rFu (clSet v x y).2 (ms u 1 x.toNatClampNeg y 1) n q T lag' g tot) ∨ (isvB x y = false ∧ clSet v x y = (-2, v)) := by
  rcases set_ok H.1 x y with ⟨a1, a2, a3, lag', a4⟩ | h
  · refine Or.inl ⟨a1, a2, a3, lag', a4, ?_⟩
    have HB := H.2
    unfold clSet
    split
    · exact HB
    · split
      · exact HB
      · rename_i hx hy
        have hb0 := HB.1
        dsimp only
        refine rBE_congr ?_ ?_ ?_ ?_ ?_ ?_ HB
        · show vs v 0 _ 0 y 1 3 0 = _; rw [vs_at, if_neg (by omega)]
        · show 0 ≤ (vs v 0 x.toNatClampNeg 0 y 0 1 0).toInt ∧ (vs v 0 x.toNatClampNeg 0 y 0 1 0).toInt ≤ 99
          rw [vs_at]
          by_cases hk : 1 = x.toNatClampNeg
          · rw [if_pos ⟨rfl, hk, rfl⟩]
            rw [← hk] at hy
            have e0 : evGv 0 1 = 1 := rfl
            have e1 : evGv 1 1 = 99 := rfl
            rw [e0, e1, Int32.lt_iff_toInt_lt, Int32.lt_iff_toInt_lt] at hy
            have z1 : (1 : Int32).toInt = 1 := rfl
            have z99 : (99 : Int32).toInt = 99 := rfl
            omega
          · rw [if_neg (fun z => hk z.2.1)]; exact hb0
        · intro i hi e he
          exact rBi_congr (fun j _ _ => by show vs v 0 _ 0 y 2 i j = _; rw [vs_at, if_neg (by omega)]) he
        · intro k hk; show vs v 0 _ 0 y 3 k 1 = _; rw [vs_at, if_neg (by omega)]
        · intro l hl; show 0 ≤ (vs v 0 _ 0 y 4 l 0).toInt ∧ (vs v 0 _ 0 y 4 l 0).toInt ≤ 999; rw [vs_at, if_neg (by omega)]; exact (HB.2.2.2 l hl).1
        · intro l hl; show vs v 0 _ 0 y 5 l 1 = _; rw [vs_at, if_neg (by omega)]
  · exact Or.inr h
theorem bidder_fu (H : rFu v (u 1) n q T lag g tot) (x y : Int32) : (whyB u x y = 0 ∧ (clBidder n v x y).1 = nI n ∧ rFu (clBidder n v x y).2 (cmU u n x y 1) (n + 1) q T lag g tot) ∨ (¬ whyB u x y = 0 ∧ clBidder n v x y = (whyB u x y, v) ∧ whyB u x y < 0) := by
  rcases bidder_ok H.1 x y with ⟨a1, a2, a4⟩ | h
  · refine Or.inl ⟨a1, a2, a4, ?_⟩
    have HB := H.2
    unfold clBidder
    split
    · exact HB
    · split
      · exact HB
      · rename_i hx hy
        dsimp only
        refine rBE_congr ?_ ?_ ?_ ?_ ?_ ?_ HB
        · show vs _ 2 n 1 y 1 3 0 = _; rw [vs_at, if_neg (by omega), vs_at, if_neg (by omega), vs_at, if_neg (by omega)]
        · show 0 ≤ (vs _ 2 n 1 y 0 1 0).toInt ∧ (vs _ 2 n 1 y 0 1 0).toInt ≤ 99
          rw [vs_at, if_neg (by omega), vs_at, if_neg (by omega), vs_at, if_neg (by omega)]; exact HB.1
        · intro i hi e he
          obtain ⟨b1, b2, b3, b4, b5, b6, b7, b8, b9⟩ := he
          have E : ∀ j, j ≠ 1 → vs (vs (vs v 1 0 0 (nI (n + 1))) 2 n 0 x) 2 n 1 y 2 i j = if i = n ∧ j = 0 then x else v 2 i j := fun j hj => by
            rw [vs_at, if_neg (fun z => hj z.2.2), vs_at, vs_at, if_neg (show ¬ (2 = 1 ∧ i = 0 ∧ j = 0) by omega)]
            simp only [true_and]
          show rBi (vs (vs (vs v 1 0 0 (nI (n + 1))) 2 n 0 x) 2 n 1 y) i e T
          unfold rBi
          rw [E 0 (by omega), E 4 (by omega), E 5 (by omega), E 6 (by omega), E 7 (by omega), if_neg (show ¬ (i = n ∧ 4 = 0) by omega), if_neg (show ¬ (i = n ∧ 5 = 0) by omega), if_neg (show ¬ (i = n ∧ 6 = 0) by omega), if_neg (show ¬ (i = n ∧ 7 = 0) by omega)]
          refine ⟨?_, ?_, b3, b4, b5, b6, b7, b8, b9⟩
          · split
            · have : ¬ 9999 < x := fun z => hx (Or.inl (Or.inr z))
              rw [Int32.lt_iff_toInt_lt] at this
              have z : (9999 : Int32).toInt = 9999 := rfl
              omega
            · exact b1
          · split
            · have : ¬ x < 0 := fun z => hx (Or.inl (Or.inl z))
              rw [Int32.lt_iff_toInt_lt] at this
              have z := ti_0
              omega
            · exact b2
        · intro k hk; show vs _ 2 n 1 y 3 k 1 = _; rw [vs_at, if_neg (by omega), vs_at, if_neg (by omega), vs_at, if_neg (by omega)]
        · intro l hl; show 0 ≤ (vs _ 2 n 1 y 4 l 0).toInt ∧ (vs _ 2 n 1 y 4 l 0).toInt ≤ 999; rw [vs_at, if_neg (by omega), vs_at, if_neg (by omega), vs_at, if_neg (by omega)]; exact (HB.2.2.2 l hl).1
        · intro l hl; show vs _ 2 n 1 y 5 l 1 = _; rw [vs_at, if_neg (by omega), vs_at, if_neg (by omega), vs_at, if_neg (by omega)]
  · exact Or.inr h
theorem lot_fu (H : rFu v (u 1) n q T lag g tot) (x : Int32) : (whyL u x = 0 ∧ (clLot q v x).1 = nI q ∧ rFu (clLot q v x).2 (ltU u q x 1) n (q + 1) T lag g tot) ∨ (¬ whyL u x = 0 ∧ clLot q v x = (whyL u x, v) ∧ whyL u x < 0) := by
  rcases lot_ok H.1 x with ⟨a1, a2, a4⟩ | h
  · refine Or.inl ⟨a1, a2, a4, ?_⟩
    have HB := H.2
    unfold clLot
    split
    · exact HB
    · split
      · exact HB
      · rename_i hx hy
        dsimp only
        refine rBE_congr ?_ ?_ ?_ ?_ ?_ ?_ HB
        · show vs _ 4 q 0 x 1 3 0 = _; rw [vs_at, if_neg (by omega), vs_at, if_neg (by omega)]
        · show 0 ≤ (vs _ 4 q 0 x 0 1 0).toInt ∧ (vs _ 4 q 0 x 0 1 0).toInt ≤ 99
          rw [vs_at, if_neg (by omega), vs_at, if_neg (by omega)]; exact HB.1
        · intro i hi e he
          exact rBi_congr (fun j _ _ => by show vs _ 4 q 0 x 2 i j = _; rw [vs_at, if_neg (by omega), vs_at, if_neg (by omega)]) he
        · intro k hk; show vs _ 4 q 0 x 3 k 1 = _; rw [vs_at, if_neg (by omega), vs_at, if_neg (by omega)]
        · intro l hl
          show 0 ≤ (vs (vs v 1 1 0 (nI (q + 1))) 4 q 0 x 4 l 0).toInt ∧ (vs (vs v 1 1 0 (nI (q + 1))) 4 q 0 x 4 l 0).toInt ≤ 999
          rw [vs_at]
          split
          · rw [Int32.lt_iff_toInt_lt, Int32.lt_iff_toInt_lt] at hx
            have z := ti_0
            have z9 : (999 : Int32).toInt = 999 := rfl
            omega
          · rw [vs_at, if_neg (by omega)]; exact (HB.2.2.2 l hl).1
        · intro l hl; show vs _ 4 q 0 x 5 l 1 = _; rw [vs_at, if_neg (by omega), vs_at, if_neg (by omega)]
  · exact Or.inr h
theorem rBE_12 {k p : Nat} {y : Int32} (hp : p = 1 ∨ p = 2) (HB : rBE v g T) : rBE (vs v 2 k p y) g T := by
  refine rBE_congr ?_ ?_ ?_ ?_ ?_ ?_ HB
  · rw [vs_at, if_neg (by omega)]
  · rw [vs_at, if_neg (by omega)]; exact HB.1
  · intro i hi e he
    exact rBi_congr (fun j h1 h2 => by rw [vs_at, if_neg (by omega)]) he
  · intro k hk; rw [vs_at, if_neg (by omega)]
  · intro l hl; rw [vs_at, if_neg (by omega)]; exact (HB.2.2.2 l hl).1
  · intro l hl; rw [vs_at, if_neg (by omega)]
theorem told_fu (H : rFu v (u 1) n q T lag g tot) (b x : Int32) : (whyT u b x = 0 ∧ (clTold v b x).1 = u 1 (10 + 8 * b.toNatClampNeg + 7) ∧ ¬ (clTold v b x).1 < 0 ∧ (∃ k, k < n ∧ b = nI k) ∧ rFu (clTold v b x).2 (ms u 1 (10 + 8 * b.toNatClampNeg + 7) x 1) n q T lag g tot) ∨ (¬ whyT u b x = 0 ∧ clTold v b x = (whyT u b x, v) ∧ whyT u b x < 0) := by
  rcases told_ok H.1 b x with ⟨a1, a2, a3, a4, a5⟩ | h
  · refine Or.inl ⟨a1, a2, a3, a4, a5, ?_⟩
    unfold clTold
    split
    · exact H.2
    · split
      · exact H.2
      · exact rBE_12 (Or.inr rfl) H.2
  · exact Or.inr h
theorem plan_fu (H : rFu v (u 1) n q T lag g tot) (b x : Int32) : (wiB b 0 (nI n - 1) = true ∧ wiB x 0 200 = true ∧ (clPlan v b x).1 = u 1 (10 + 8 * b.toNatClampNeg + 1) ∧ ¬ (clPlan v b x).1 < 0 ∧ rFu (clPlan v b x).2 (ms u 1 (10 + 8 * b.toNatClampNeg + 1) x 1) n q T lag g tot) ∨ (wiB b 0 (nI n - 1) = true ∧ wiB x 0 200 = false ∧ clPlan v b x = (-2, v)) ∨ (wiB b 0 (nI n - 1) = false ∧ clPlan v b x = (-1, v)) := by
  rcases plan_ok H.1 b x with ⟨a1, a2, a3, a4, a5⟩ | h
  · refine Or.inl ⟨a1, a2, a3, a4, a5, ?_⟩
    unfold clPlan
    split
    · exact H.2
    · split
      · exact H.2
      · exact rBE_12 (Or.inl rfl) H.2
  · exact Or.inr h
theorem pass2_fu (H : rFu v (u 1) n q T lag g tot) (hT : T ≤ 9999) (x : Int32) : (whyP u x = 0 ∧ (∃ k, 1 ≤ k ∧ k ≤ 99 ∧ x = nI k) ∧ (clPass n v x).1 = psI u lag n q x.toNatClampNeg ∧ ¬ (clPass n v x).1 < 0 ∧ ∃ T' g' t', T' ≤ 9999 ∧ rFu (clPass n v x).2 (psU u lag n q x.toNatClampNeg 1) n q T' lag g' t') ∨ (¬ whyP u x = 0 ∧ clPass n v x = (whyP u x, v) ∧ whyP u x < 0) := by
  rcases pass2_ok H.1 hT x with ⟨a1, a2, a3, a4, -⟩ | h
  · refine Or.inl ⟨a1, a2, a3, a4, ?_⟩
    have n7 := H.1.1.1.2.2.2.2.2.2.1
    obtain ⟨k, hk1, hk99, rfl⟩ := a2
    have hc : (nI k).toNatClampNeg = k := nI_cl _ (by omega)
    have h9 : T + k ≤ 9999 := by
      rcases Nat.lt_or_ge 9999 (T + k) with z | z
      · exfalso
        unfold whyP at a1
        have hw : wiB (nI k) 1 99 = true := by
          rw [wiB_t]
          rintro (w | w)
          · exact nI_nlt (b := 1) hk1 (by omega) w
          · exact nI_nlt (a := 99) hk99 (by omega) w
        rw [if_pos hw, n7.2, nI_add, if_pos (show (9999 : Int32) < nI (T + k) from nI_lt (a := 9999) z (by omega))] at a1
        exact absurd a1 (by decide)
      · exact z
    obtain ⟨p1, g', t', p2⟩ := pass_fu H k (by omega)
    refine ⟨T + k, g', t', h9, ?_⟩
    unfold clPass
    rw [hc]
    split
    · rename_i hx
      exfalso
      rcases hx with w | w
      · exact nI_nlt (b := 1) hk1 (by omega) w
      · exact nI_nlt (a := 99) hk99 (by omega) w
    · rw [if_neg]
      · exact p2
      · rw [n7.1, nI_add]
        exact nI_nlt (b := T + k) (a := 9999) h9 (by omega)
  · exact Or.inr h
end FU
