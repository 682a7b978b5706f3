/-! changes, by both -/
def rwS (r : Nat → Int32) (j : Nat) (x : Int32) : Nat → Int32 := fun i => if i = j then x else r i
theorem rwS_at (r : Nat → Int32) (j : Nat) (x : Int32) (i : Nat) : rwS r j x i = if i = j then x else r i := id rfl
theorem ms_row (u : Nat → Nat → Int32) (j : Nat) (x : Int32) : ms u 1 j x 1 = rwS (u 1) j x := by
  funext i
  rw [ms_at, rwS_at]
  simp only [true_and]
theorem rcU_row (u : Nat → Nat → Int32) (r : Nat) : rcU u r 1 = u 1 := funext fun j => rcU_1 u r j
theorem wiB_t (v lo hi : Int32) : wiB v lo hi = true ↔ ¬ (v < lo ∨ hi < v) := by
  unfold wiB
  rw [Bool.and_eq_true, decide_eq_true_eq, decide_eq_true_eq]
  constructor
  · rintro ⟨a, b⟩ (c | c)
    · exact i32_ff a c
    · exact i32_ff b c
  · intro h
    exact ⟨Int32.not_lt.mp (fun z => h (Or.inl z)), Int32.not_lt.mp (fun z => h (Or.inr z))⟩
theorem wiB_f (v lo hi : Int32) : wiB v lo hi = false ↔ (v < lo ∨ hi < v) := by
  rw [← Bool.not_eq_true, wiB_t]
  exact Decidable.not_not
def clSet (v : evVt) (x y : Int32) : Int32 × evVt := if x < 0 ∨ 4 ≤ x then (-2, v) else if y < evGv 0 x.toNatClampNeg ∨ evGv 1 x.toNatClampNeg < y then (-2, v) else (v 0 x.toNatClampNeg 0, vs v 0 x.toNatClampNeg 0 y)
def clBidder (n : Nat) (v : evVt) (x y : Int32) : Int32 × evVt := if (x < 0 ∨ 9999 < x) ∨ (y < 0 ∨ 200 < y) then (-2, v) else if n = 6 then (-4, v) else (nI n, vs (vs (vs v 1 0 0 (nI (n + 1))) 2 n 0 x) 2 n 1 y)
def clPlan (v : evVt) (x y : Int32) : Int32 × evVt := if bAt v 0 x = none then (-1, v) else if y < 0 ∨ 200 < y then (-2, v) else (v 2 x.toNatClampNeg 1, vs v 2 x.toNatClampNeg 1 y)
def clTold (v : evVt) (x y : Int32) : Int32 × evVt := if bAt v 0 x = none then (-1, v) else if y < 1 ∨ 9999 < y then (-2, v) else (v 2 x.toNatClampNeg 2, vs v 2 x.toNatClampNeg 2 y)
def clLot (q : Nat) (v : evVt) (x : Int32) : Int32 × evVt := if x < 0 ∨ 999 < x then (-2, v) else if q = 8 then (-4, v) else (nI q, vs (vs v 1 1 0 (nI (q + 1))) 4 q 0 x)
def clPass (n : Nat) (v : evVt) (x : Int32) : Int32 × evVt := if x < 1 ∨ 99 < x then (-2, v) else if 9999 < v 1 4 0 + x then (-5, v) else ((passV n v x.toNatClampNeg).2, (passV n v x.toNatClampNeg).1)
section CH
variable {v : evVt} {u : Nat → Nat → Int32} {r : Nat → Int32} {n q T lag g tot : Nat}
theorem rOK_set (H : rOK v r n q T lag g tot) {j : Nat} (hj : j < 4) {y : Int32} (hy : ¬ y < 0) {lag' : Nat} (hl : lag' ≤ 5) (h0 : (rwS r j y) 0 = nI lag') : rOK (vs v 0 j 0 y) (rwS r j y) n q T lag' g tot := by
  obtain ⟨⟨HN, HB, HL, hg, ⟨HM, ht⟩, HA⟩, h2, h3⟩ := H
  obtain ⟨n1, n2, n3, n4, n5, n6, n7, n8, n9⟩ := HN
  have e : ∀ i, 4 ≤ i → rwS r j y i = r i := fun i hi => by rw [rwS_at, if_neg (by omega)]
  have eo : ∀ a i k, a ≠ 0 → vs v 0 j 0 y a i k = v a i k := fun a i k h => by rw [vs_at, if_neg (fun z => h z.1)]
  refine ⟨⟨⟨n1, n2, hl, n4, ⟨by rw [eo _ _ _ (by omega)]; exact n5.1, by rw [e _ (by omega)]; exact n5.2⟩, ⟨by rw [eo _ _ _ (by omega)]; exact n6.1, by rw [e _ (by omega)]; exact n6.2⟩, ⟨by rw [eo _ _ _ (by omega)]; exact n7.1, by rw [e _ (by omega)]; exact n7.2⟩, h0, fun i hi => ?_⟩, rBidA_congr n1 (fun _ _ => eo _ _ _ (by omega)) (fun j _ _ => e _ (by omega)) HB, rLot_congr n2 (fun _ _ => eo _ _ _ (by omega)) (fun _ _ => eo _ _ _ (by omega)) (fun j _ _ => e _ (by omega)) HL, by rw [eo _ _ _ (by omega)]; exact hg, ⟨rMade_congr (eo _ _ _ (by omega)) (fun _ => eo _ _ _ (by omega)) (fun j _ _ => e _ (by omega)) (e _ (by omega)) HM, ht⟩, ?_⟩, fun l hl => by rw [e _ (by omega)]; exact h2 l hl, fun i hi => ?_, fun i hi => by rw [eo _ _ _ (by omega), eo _ _ _ (by omega)]; exact h3.2 i hi⟩
  · rw [vs_at, rwS_at]
    by_cases hij : i = j
    · rw [if_pos ⟨rfl, hij, rfl⟩, if_pos hij]
    · rw [if_neg (fun z => hij z.2.1), if_neg hij]; exact n9 i hi
  · rcases HA with ⟨a1, a2⟩ | ⟨l, G, a1, a2, a3, a4, a5⟩
    · exact Or.inl ⟨by rw [eo _ _ _ (by omega)]; exact a1, by rw [e _ (by omega)]; exact a2⟩
    · exact Or.inr ⟨l, G, a1, by rw [eo _ _ _ (by omega)]; exact a2, by rw [e _ (by omega)]; exact a3, by rw [eo _ _ _ (by omega)]; exact a4, rRun_congr (fun _ _ => eo _ _ _ (by omega)) (fun _ _ => eo _ _ _ (by omega)) (fun _ _ => eo _ _ _ (by omega)) (eo _ _ _ (by omega)) (fun j _ _ => e _ (by omega)) (e _ (by omega)) a5⟩
  · rw [vs_at]
    by_cases hij : i = j
    · rw [if_pos ⟨rfl, hij, rfl⟩]; exact hy
    · rw [if_neg (fun z => hij z.2.1)]; exact h3.1 i hi
theorem bp_inj {i j : Nat} (hi : i < 8) (hj : j < 8) (h : bp i = bp j) : i = j := by
  have key : ∀ i < 8, ∀ j < 8, bp i = bp j → i = j := by decide
  exact key i hi j hj h
theorem rOK_bid (H : rOK v r n q T lag g tot) {k j : Nat} (hk : k < n) (hj : j < 8) {y : Int32} (hy : ¬ y < 0) : rOK (vs v 2 k (bp j) y) (rwS r (10 + 8 * k + j) y) n q T lag g tot := by
  obtain ⟨⟨HN, HB, HL, hg, ⟨HM, ht⟩, HA⟩, h2, h3⟩ := H
  obtain ⟨n1, n2, n3, n4, n5, n6, n7, n8, n9⟩ := HN
  have e : ∀ i, i < 10 ∨ 58 ≤ i → rwS r (10 + 8 * k + j) y i = r i := fun i hi => by rw [rwS_at, if_neg (by omega)]
  have eo : ∀ a i c, a ≠ 2 → vs v 2 k (bp j) y a i c = v a i c := fun a i c h => by rw [vs_at, if_neg (fun z => h z.1)]
  refine ⟨⟨⟨n1, n2, n3, n4, ⟨by rw [eo _ _ _ (by omega)]; exact n5.1, by rw [e _ (by omega)]; exact n5.2⟩, ⟨by rw [eo _ _ _ (by omega)]; exact n6.1, by rw [e _ (by omega)]; exact n6.2⟩, ⟨by rw [eo _ _ _ (by omega)]; exact n7.1, by rw [e _ (by omega)]; exact n7.2⟩, by rw [e _ (by omega)]; exact n8, fun i hi => by rw [eo _ _ _ (by omega), e _ (by omega)]; exact n9 i hi⟩, ⟨fun i c hi hc => ?_, fun i c hi h6 hc => ?_⟩, rLot_congr n2 (fun _ _ => eo _ _ _ (by omega)) (fun _ _ => eo _ _ _ (by omega)) (fun j _ _ => e _ (by omega)) HL, by rw [eo _ _ _ (by omega)]; exact hg, ⟨rMade_congr (eo _ _ _ (by omega)) (fun _ => eo _ _ _ (by omega)) (fun j _ _ => e _ (by omega)) (e _ (by omega)) HM, ht⟩, ?_⟩, fun l hl => by rw [e _ (by omega)]; exact h2 l hl, fun i hi => by rw [eo _ _ _ (by omega)]; exact h3.1 i hi, fun i hi => ⟨?_, ?_⟩⟩
  · rw [vs_at, rwS_at]
    by_cases h : i = k ∧ c = j
    · rw [if_pos (by omega), if_pos ⟨rfl, h.1, by rw [h.2]⟩]
    · rw [if_neg (by omega), if_neg (fun z => h ⟨z.2.1, bp_inj hc hj z.2.2⟩)]
      exact HB.1 i c hi hc
  · rw [vs_at, if_neg (by omega)]; exact HB.2 i c hi h6 hc
  · rcases HA with ⟨a1, a2⟩ | ⟨l, G, a1, a2, a3, a4, a5⟩
    · exact Or.inl ⟨by rw [eo _ _ _ (by omega)]; exact a1, by rw [e _ (by omega)]; exact a2⟩
    · exact Or.inr ⟨l, G, a1, by rw [eo _ _ _ (by omega)]; exact a2, by rw [e _ (by omega)]; exact a3, by rw [eo _ _ _ (by omega)]; exact a4, rRun_congr (fun _ _ => eo _ _ _ (by omega)) (fun _ _ => eo _ _ _ (by omega)) (fun _ _ => eo _ _ _ (by omega)) (eo _ _ _ (by omega)) (fun j _ _ => e _ (by omega)) (e _ (by omega)) a5⟩
  · rw [vs_at]
    split
    · exact hy
    · exact (h3.2 i hi).1
  · rw [vs_at]
    split
    · exact hy
    · exact (h3.2 i hi).2
theorem cz_at (u : Nat → Nat → Int32) (n k j : Nat) : czU u n k 1 j = if 10 + 8 * n ≤ j ∧ j < 10 + 8 * n + k then 0 else u 1 j := by
  induction k with
  | zero =>
    have e : ¬ (10 + 8 * n ≤ j ∧ j < 10 + 8 * n + 0) := by omega
    rw [if_neg e]; rfl
  | succ k ih =>
    show ms (czU u n k) 1 (10 + 8 * n + k) 0 1 j = _
    rw [ms_at]
    by_cases hj : j = 10 + 8 * n + k
    · have e : 10 + 8 * n ≤ j ∧ j < 10 + 8 * n + (k + 1) := by omega
      rw [if_pos ⟨rfl, hj⟩, if_pos e]
    · rw [if_neg (fun z => hj z.2), ih]
      by_cases hc : 10 + 8 * n ≤ j ∧ j < 10 + 8 * n + k
      · have e : 10 + 8 * n ≤ j ∧ j < 10 + 8 * n + (k + 1) := by omega
        rw [if_pos hc, if_pos e]
      · have e : ¬ (10 + 8 * n ≤ j ∧ j < 10 + 8 * n + (k + 1)) := by omega
        rw [if_neg hc, if_neg e]
theorem cm_at (u : Nat → Nat → Int32) (n : Nat) (x y : Int32) (j : Nat) : cmU u n x y 1 j = if j = 5 then nI (n + 1) else if j = 10 + 8 * n + 1 then y else if j = 10 + 8 * n + 0 then x else if 10 + 8 * n ≤ j ∧ j < 10 + 8 * n + 8 then 0 else u 1 j := by
  unfold cmU
  rw [ms_at, ms_at, ms_at, cz_at]
  simp only [true_and]
theorem lt_at (u : Nat → Nat → Int32) (q : Nat) (x : Int32) (j : Nat) : ltU u q x 1 j = if j = 6 then nI (q + 1) else if j = 58 + 7 * q + 6 then -6 else if j = 58 + 7 * q + 5 then 0 else if j = 58 + 7 * q + 4 then 0 else if j = 58 + 7 * q + 3 then -6 else if j = 58 + 7 * q + 2 then -6 else if j = 58 + 7 * q + 1 then 0 else if j = 58 + 7 * q + 0 then x else u 1 j := by
  unfold ltU
  rw [ms_at, ms_at, ms_at, ms_at, ms_at, ms_at, ms_at, ms_at]
  simp only [true_and]
theorem rOK_comes (H : rOK v (u 1) n q T lag g tot) (hn6 : n < 6) {x y : Int32} (hy : ¬ y < 0) : rOK (vs (vs (vs v 1 0 0 (nI (n + 1))) 2 n 0 x) 2 n 1 y) (cmU u n x y 1) (n + 1) q T lag g tot := by
  obtain ⟨⟨HN, HB, HL, hg, ⟨HM, ht⟩, HA⟩, h2, h3⟩ := H
  obtain ⟨n1, n2, n3, n4, n5, n6, n7, n8, n9⟩ := HN
  have e : ∀ i, (i < 10 ∨ 58 ≤ i) → i ≠ 5 → cmU u n x y 1 i = u 1 i := fun i hi h5 => by
    rw [cm_at, if_neg h5, if_neg (by omega), if_neg (by omega), if_neg (by omega)]
  have eo : ∀ a i c, a ≠ 1 → a ≠ 2 → vs (vs (vs v 1 0 0 (nI (n + 1))) 2 n 0 x) 2 n 1 y a i c = v a i c := fun a i c h1 h2 => by
    rw [vs_at, if_neg (fun z => h2 z.1), vs_at, if_neg (fun z => h2 z.1), vs_at, if_neg (fun z => h1 z.1)]
  have e1 : ∀ i, i ≠ 0 → vs (vs (vs v 1 0 0 (nI (n + 1))) 2 n 0 x) 2 n 1 y 1 i 0 = v 1 i 0 := fun i hi => by
    rw [vs_at, if_neg (by omega), vs_at, if_neg (by omega), vs_at, if_neg (fun z => hi z.2.1)]
  have e2 : ∀ i c, vs (vs (vs v 1 0 0 (nI (n + 1))) 2 n 0 x) 2 n 1 y 2 i c = if i = n ∧ c = 1 then y else if i = n ∧ c = 0 then x else v 2 i c := fun i c => by
    rw [vs_at, vs_at, vs_at, if_neg (show ¬ (2 = 1 ∧ i = 0 ∧ c = 0) by omega)]
    simp only [true_and]
  refine ⟨⟨⟨by omega, n2, n3, n4, ⟨?_, ?_⟩, ⟨by rw [e1 _ (by omega)]; exact n6.1, by rw [e _ (by omega) (by omega)]; exact n6.2⟩, ⟨by rw [e1 _ (by omega)]; exact n7.1, by rw [e _ (by omega) (by omega)]; exact n7.2⟩, by rw [e _ (by omega) (by omega)]; exact n8, fun i hi => by rw [eo _ _ _ (by omega) (by omega), e _ (by omega) (by omega)]; exact n9 i hi⟩, ⟨fun i c hi hc => ?_, fun i c hi h6 hc => ?_⟩, rLot_congr n2 (fun _ _ => eo _ _ _ (by omega) (by omega)) (fun _ _ => eo _ _ _ (by omega) (by omega)) (fun j _ _ => e _ (by omega) (by omega)) HL, by rw [e1 _ (by omega)]; exact hg, ⟨rMade_congr (eo _ _ _ (by omega) (by omega)) (fun _ => eo _ _ _ (by omega) (by omega)) (fun j _ _ => e _ (by omega) (by omega)) (e _ (by omega) (by omega)) HM, ht⟩, ?_⟩, fun l hl => by rw [e _ (by omega) (by omega)]; exact h2 l hl, fun i hi => by rw [eo _ _ _ (by omega) (by omega)]; exact h3.1 i hi, fun i hi => ⟨?_, ?_⟩⟩
  · rw [vs_at, if_neg (by omega), vs_at, if_neg (by omega), vs_at, if_pos ⟨rfl, rfl, rfl⟩]
  · rw [cm_at, if_pos rfl]
  · rw [e2]
    by_cases hin : i = n
    · subst hin
      have z := fun c h => HB.2 i c (Nat.le_refl i) (by omega) h
      rcases (show c = 0 ∨ c = 1 ∨ 2 ≤ c by omega) with rfl | rfl | hc2
      · rw [cm_at, if_neg (by omega), if_neg (by omega), if_pos rfl]
        simp [bp]
      · rw [cm_at, if_neg (by omega), if_pos rfl]
        simp [bp]
      · have hb2 : bp c ≠ 0 ∧ bp c ≠ 1 ∧ bp c < 8 := by
          have key : ∀ c < 8, 2 ≤ c → bp c ≠ 0 ∧ bp c ≠ 1 ∧ bp c < 8 := by decide
          exact key c hc hc2
        rw [cm_at, if_neg (by omega), if_neg (by omega), if_neg (by omega), if_pos (by omega), if_neg (fun z => hb2.2.1 z.2), if_neg (fun z => hb2.1 z.2)]
        exact (z _ hb2.2.2).symm
    · rw [cm_at, if_neg (by omega), if_neg (by omega), if_neg (by omega), if_neg (by omega), if_neg (fun z => hin z.1), if_neg (fun z => hin z.1)]
      exact HB.1 i c (by omega) hc
  · rw [e2, if_neg (by omega), if_neg (by omega)]; exact HB.2 i c (by omega) h6 hc
  · rcases HA with ⟨a1, a2⟩ | ⟨l, G, a1, a2, a3, a4, a5⟩
    · exact Or.inl ⟨by rw [e1 _ (by omega)]; exact a1, by rw [e _ (by omega) (by omega)]; exact a2⟩
    · have a5' : rRun v (u 1) l T (n + 1) G := ⟨fun t k hk => a5.1 t k (by omega), a5.2⟩
      exact Or.inr ⟨l, G, a1, by rw [e1 _ (by omega)]; exact a2, by rw [e _ (by omega) (by omega)]; exact a3, by rw [eo _ _ _ (by omega) (by omega)]; exact a4, rRun_congr (fun _ _ => eo _ _ _ (by omega) (by omega)) (fun _ _ => eo _ _ _ (by omega) (by omega)) (fun _ _ => eo _ _ _ (by omega) (by omega)) (eo _ _ _ (by omega) (by omega)) (fun j _ _ => e _ (by omega) (by omega)) (e _ (by omega) (by omega)) a5'⟩
  · rw [e2]
    split
    · exact hy
    · rw [if_neg (by omega)]; exact (h3.2 i hi).1
  · rw [e2, if_neg (by omega), if_neg (by omega)]; exact (h3.2 i hi).2
theorem rOK_lot (H : rOK v (u 1) n q T lag g tot) (hq8 : q < 8) {x : Int32} : rOK (vs (vs v 1 1 0 (nI (q + 1))) 4 q 0 x) (ltU u q x 1) n (q + 1) T lag g tot := by
  obtain ⟨⟨HN, HB, HL, hg, ⟨HM, ht⟩, HA⟩, h2, h3⟩ := H
  obtain ⟨n1, n2, n3, n4, n5, n6, n7, n8, n9⟩ := HN
  obtain ⟨l1, l2, l3, l4⟩ := HL
  have e : ∀ i, ¬ (58 + 7 * q ≤ i ∧ i < 58 + 7 * q + 7) → i ≠ 6 → ltU u q x 1 i = u 1 i := fun i hi h6 => by
    rw [lt_at, if_neg h6, if_neg (by omega), if_neg (by omega), if_neg (by omega), if_neg (by omega), if_neg (by omega), if_neg (by omega), if_neg (by omega)]
  have eo : ∀ a i c, a ≠ 1 → a ≠ 4 → vs (vs v 1 1 0 (nI (q + 1))) 4 q 0 x a i c = v a i c := fun a i c h1 h2 => by
    rw [vs_at, if_neg (fun z => h2 z.1), vs_at, if_neg (fun z => h1 z.1)]
  have e1 : ∀ i, i ≠ 1 → vs (vs v 1 1 0 (nI (q + 1))) 4 q 0 x 1 i 0 = v 1 i 0 := fun i hi => by
    rw [vs_at, if_neg (by omega), vs_at, if_neg (fun z => hi z.2.1)]
  have e4 : ∀ i c, ¬ (i = q ∧ c = 0) → vs (vs v 1 1 0 (nI (q + 1))) 4 q 0 x 4 i c = v 4 i c := fun i c h => by
    rw [vs_at, if_neg (fun z => h z.2), vs_at, if_neg (by omega)]
  refine ⟨⟨⟨n1, by omega, n3, n4, ⟨by rw [e1 _ (by omega)]; exact n5.1, by rw [e _ (by omega) (by omega)]; exact n5.2⟩, ⟨?_, ?_⟩, ⟨by rw [e1 _ (by omega)]; exact n7.1, by rw [e _ (by omega) (by omega)]; exact n7.2⟩, by rw [e _ (by omega) (by omega)]; exact n8, fun i hi => by rw [eo _ _ _ (by omega) (by omega), e _ (by omega) (by omega)]; exact n9 i hi⟩, rBidA_congr n1 (fun _ _ => eo _ _ _ (by omega) (by omega)) (fun j _ _ => e _ (by omega) (by omega)) HB, ⟨by omega, fun i hi => ?_, fun i hi => ?_, fun i hi h8 => ?_⟩, by rw [e1 _ (by omega)]; exact hg, ⟨rMade_congr (eo _ _ _ (by omega) (by omega)) (fun _ => eo _ _ _ (by omega) (by omega)) (fun j _ _ => e _ (by omega) (by omega)) (e _ (by omega) (by omega)) HM, ht⟩, ?_⟩, fun l hl => ?_, fun i hi => by rw [eo _ _ _ (by omega) (by omega)]; exact h3.1 i hi, fun i hi => by rw [eo _ _ _ (by omega) (by omega), eo _ _ _ (by omega) (by omega)]; exact h3.2 i hi⟩
  · rw [vs_at, if_neg (by omega), vs_at, if_pos ⟨rfl, rfl, rfl⟩]
  · rw [lt_at, if_pos rfl]
  · by_cases hiq : i = q
    · subst hiq
      obtain ⟨y1, y2, y3, y4, y5, y6⟩ := l4 i l1 hq8
      have n02 : ¬ (0 : Int32) = 2 := by decide
      unfold rLot1
      rw [e4 i 1 (by omega), e4 i 3 (by omega), eo 5 i 0 (by omega) (by omega), eo 5 i 1 (by omega) (by omega), y1, y2, y4, y5, if_neg n02, if_neg n02]
      refine ⟨?_, ?_, ?_, ?_, ?_, ?_, ?_⟩
      · rw [lt_at, if_neg (by omega), if_neg (by omega), if_neg (by omega), if_neg (by omega), if_neg (by omega), if_neg (by omega), if_neg (by omega), if_pos rfl, vs_at, if_pos ⟨rfl, rfl, rfl⟩]
      · rw [lt_at, if_neg (by omega), if_neg (by omega), if_neg (by omega), if_neg (by omega), if_neg (by omega), if_neg (by omega), if_pos rfl]
      · rw [lt_at, if_neg (by omega), if_neg (by omega), if_neg (by omega), if_pos rfl]
      · rw [lt_at, if_neg (by omega), if_neg (by omega), if_pos rfl]
      · rw [lt_at, if_neg (by omega), if_pos rfl]
      · rw [lt_at, if_neg (by omega), if_neg (by omega), if_neg (by omega), if_neg (by omega), if_neg (by omega), if_pos rfl]
      · rw [lt_at, if_neg (by omega), if_neg (by omega), if_neg (by omega), if_neg (by omega), if_pos rfl]
    · exact rLot1_congr (fun j => e4 _ _ (by omega)) (fun j => eo _ _ _ (by omega) (by omega)) (fun j hj => e _ (by omega) (by omega)) (l2 i (by omega))
  · rw [e4 _ _ (by omega)]; exact l3 i hi
  · by_cases hiq : i = q
    · subst hiq
      unfold rNew
      rw [e4 _ _ (by omega), e4 _ _ (by omega), e4 _ _ (by omega), eo _ _ _ (by omega) (by omega), eo _ _ _ (by omega) (by omega), eo _ _ _ (by omega) (by omega)]
      exact l4 i hi h8
    · exact rNew_congr (fun j => e4 _ _ (by omega)) (fun j => eo _ _ _ (by omega) (by omega)) (l4 i hi h8)
  · rcases HA with ⟨a1, a2⟩ | ⟨l, G, a1, a2, a3, a4, a5⟩
    · exact Or.inl ⟨by rw [e1 _ (by omega)]; exact a1, by rw [e _ (by omega) (by omega)]; exact a2⟩
    · exact Or.inr ⟨l, G, a1, by rw [e1 _ (by omega)]; exact a2, by rw [e _ (by omega) (by omega)]; exact a3, by rw [e4 _ _ (by omega)]; exact a4, rRun_congr (fun _ _ => eo _ _ _ (by omega) (by omega)) (fun _ _ => eo _ _ _ (by omega) (by omega)) (fun _ _ => eo _ _ _ (by omega) (by omega)) (e4 _ _ (by omega)) (fun j _ _ => e _ (by omega) (by omega)) (e _ (by omega) (by omega)) a5⟩
  · by_cases hlq : l = q
    · subst hlq
      left
      rw [lt_at, if_neg (by omega), if_pos rfl]
    · rw [e _ (by omega) (by omega)]; exact h2 l hl
end CH
section CO
variable {v : evVt} {u : Nat → Nat → Int32} {n q T lag g tot : Nat}
theorem set_ok (H : rOK v (u 1) n q T lag g tot) (x y : Int32) : (isvB x y = true ∧ (clSet v x y).1 = u 1 x.toNatClampNeg ∧ ¬ (clSet v x y).1 < 0 ∧ ∃ lag', rOK (clSet v x y).2 (ms u 1 x.toNatClampNeg y 1) n q T lag' g tot) ∨ (isvB x y = false ∧ clSet v x y = (-2, v)) := by
  have n9 := H.1.1.2.2.2.2.2.2.2.2
  have hl := H.1.1.2.2.1
  have n8 := H.1.1.2.2.2.2.2.2.2.1
  have hnn := H.2.2.1
  rw [ms_row]
  by_cases hx : x < 0 ∨ 4 ≤ x
  · right
    refine ⟨?_, by unfold clSet; rw [if_pos hx]⟩
    have h0 : ¬ x = 0 := fun z => by rw [z] at hx; revert hx; decide
    have h1 : ¬ x = 1 := fun z => by rw [z] at hx; revert hx; decide
    have h2 : ¬ x = 2 := fun z => by rw [z] at hx; revert hx; decide
    have h3 : ¬ x = 3 := fun z => by rw [z] at hx; revert hx; decide
    unfold isvB
    rw [if_neg h0, if_neg h1, if_neg h2, if_neg h3]
  · have hk : ∃ k, k < 4 ∧ x = nI k := by
      obtain ⟨k, hk, e⟩ := nI_of (x := x) (fun z => hx (Or.inl z))
      refine ⟨k, ?_, e⟩
      have : ¬ nI 4 ≤ nI k := by rw [← e]; exact fun z => hx (Or.inr z)
      rcases Nat.lt_or_ge k 4 with z | z
      · exact z
      · exact absurd (nI_le z hk) this
    obtain ⟨k, hk, rfl⟩ := hk
    have hc : (nI k).toNatClampNeg = k := nI_cl _ (by omega)
    have eI : isvB (nI k) y = wiB y (evGv 0 k) (evGv 1 k) := by
      rcases (show k = 0 ∨ k = 1 ∨ k = 2 ∨ k = 3 by omega) with rfl | rfl | rfl | rfl <;> rfl
    unfold clSet
    rw [if_neg hx, hc, eI]
    by_cases hy : y < evGv 0 k ∨ evGv 1 k < y
    · right
      exact ⟨(wiB_f _ _ _).mpr hy, by rw [if_pos hy]⟩
    · left
      rw [if_neg hy]
      have hy0 : ¬ y < 0 := by
        intro z
        apply hy
        left
        have key : ∀ k < 4, (0 : Int32) ≤ evGv 0 k := by decide
        exact Int32.lt_of_lt_of_le z (key k hk)
      refine ⟨(wiB_t _ _ _).mpr hy, n9 k hk, hnn k hk, ?_⟩
      by_cases hk0 : k = 0
      · subst hk0
        obtain ⟨j, hj, ej⟩ := nI_of hy0
        have h5 : ¬ (5 : Int32) < y := fun z => hy (Or.inr z)
        have hj5 : j ≤ 5 := by
          rcases Nat.lt_or_ge 5 j with z | z
          · exact absurd (nI_lt (a := 5) z hj) (by rw [← ej]; exact h5)
          · exact z
        exact ⟨j, rOK_set H hk hy0 hj5 (by rw [rwS_at, if_pos rfl, ej])⟩
      · exact ⟨lag, rOK_set H hk hy0 hl (by rw [rwS_at, if_neg (fun z => hk0 z.symm), n8])⟩
theorem whyB_rc (u : Nat → Nat → Int32) (r : Nat) (x y : Int32) : whyB (rcU u r) x y = whyB u x y := by
  unfold whyB
  rw [rcU_1]
theorem whyL_rc (u : Nat → Nat → Int32) (r : Nat) (x : Int32) : whyL (rcU u r) x = whyL u x := by
  unfold whyL
  rw [rcU_1]
theorem whyT_rc (u : Nat → Nat → Int32) (r : Nat) (x y : Int32) : whyT (rcU u r) x y = whyT u x y := by
  unfold whyT
  rw [rcU_1]
theorem whyP_rc (u : Nat → Nat → Int32) (r : Nat) (x : Int32) : whyP (rcU u r) x = whyP u x := by
  unfold whyP
  rw [rcU_1]
theorem bidder_ok (H : rOK v (u 1) n q T lag g tot) (x y : Int32) : (whyB u x y = 0 ∧ (clBidder n v x y).1 = nI n ∧ rOK (clBidder n v x y).2 (cmU u n x y 1) (n + 1) q T lag g tot) ∨ (¬ whyB u x y = 0 ∧ clBidder n v x y = (whyB u x y, v) ∧ whyB u x y < 0) := by
  have n1 := H.1.1.1
  have n5 := H.1.1.2.2.2.2.1.2
  unfold clBidder whyB
  by_cases hx : x < 0 ∨ 9999 < x
  · rw [if_pos (Or.inl hx), if_neg (fun z => absurd ((wiB_f _ _ _).mpr hx) (by rw [z.1]; decide))]
    exact Or.inr ⟨by decide, rfl, by decide⟩
  · by_cases hy : y < 0 ∨ 200 < y
    · rw [if_pos (Or.inr hy), if_neg (fun z => absurd ((wiB_f _ _ _).mpr hy) (by rw [z.2]; decide))]
      exact Or.inr ⟨by decide, rfl, by decide⟩
    · rw [if_neg (fun z : (x < 0 ∨ 9999 < x) ∨ (y < 0 ∨ 200 < y) => Or.elim z hx hy), if_pos ⟨(wiB_t _ _ _).mpr hx, (wiB_t _ _ _).mpr hy⟩, n5]
      by_cases h6 : n = 6
      · rw [if_pos h6, if_pos (by rw [h6]; rfl)]
        exact Or.inr ⟨by decide, rfl, by decide⟩
      · have h6' : ¬ nI n = 6 := fun z => h6 ((nI_eq (b := 6) (by omega) (by omega)).mp z)
        rw [if_neg h6, if_neg h6']
        exact Or.inl ⟨rfl, rfl, rOK_comes H (by omega) (fun z => hy (Or.inl z))⟩
theorem lot_ok (H : rOK v (u 1) n q T lag g tot) (x : Int32) : (whyL u x = 0 ∧ (clLot q v x).1 = nI q ∧ rOK (clLot q v x).2 (ltU u q x 1) n (q + 1) T lag g tot) ∨ (¬ whyL u x = 0 ∧ clLot q v x = (whyL u x, v) ∧ whyL u x < 0) := by
  have n2 := H.1.1.2.1
  have n6 := H.1.1.2.2.2.2.2.1.2
  unfold clLot whyL
  by_cases hx : x < 0 ∨ 999 < x
  · rw [if_pos hx, if_neg (fun z => absurd ((wiB_f _ _ _).mpr hx) (by rw [z]; decide))]
    exact Or.inr ⟨by decide, rfl, by decide⟩
  · rw [if_neg hx, if_pos ((wiB_t _ _ _).mpr hx), n6]
    by_cases h8 : q = 8
    · rw [if_pos h8, if_pos (by rw [h8]; rfl)]
      exact Or.inr ⟨by decide, rfl, by decide⟩
    · have h8' : ¬ nI q = 8 := fun z => h8 ((nI_eq (b := 8) (by omega) (by omega)).mp z)
      rw [if_neg h8, if_neg h8']
      exact Or.inl ⟨rfl, rfl, rOK_lot H (by omega)⟩
theorem wiB_in {n k : Nat} (hn : n ≤ 1000) (hk : k < n) : wiB (nI k) 0 (nI n - 1) = true := by
  rw [wiB_t]
  rintro (z | z)
  · exact nI_pos (by omega) z
  · have e : nI n - 1 = nI (n - 1) := pk_sub (b := 1) (by omega)
    rw [e] at z
    exact nI_nlt (by omega) (by omega) z
theorem bAt_wi (hn : n ≤ 6) (hv : v 1 0 0 = nI n) (b : Int32) : (∃ k, k < n ∧ b = nI k ∧ wiB b 0 (nI n - 1) = true ∧ bAt v 0 b ≠ none) ∨ (wiB b 0 (nI n - 1) = false ∧ bAt v 0 b = none) := by
  by_cases h : wiB b 0 (nI n - 1) = true
  · left
    obtain ⟨k, hk, rfl⟩ := wiB_nI (by omega) h
    exact ⟨k, hk, rfl, h, by rw [bAt_in (b := 0) hk hn hv]; exact fun z => by cases z⟩
  · right
    refine ⟨b_ne h, bAt_no hn hv (fun k hk z => h ?_)⟩
    rw [z]
    exact wiB_in (by omega) hk
theorem told_ok (H : rOK v (u 1) n q T lag g tot) (b x : Int32) : (whyT u b x = 0 ∧ (clTold v b x).1 = u 1 (10 + 8 * b.toNatClampNeg + 7) ∧ ¬ (clTold v b x).1 < 0 ∧ (∃ k, k < n ∧ b = nI k) ∧ rOK (clTold v b x).2 (ms u 1 (10 + 8 * b.toNatClampNeg + 7) x 1) n q T lag g tot) ∨ (¬ whyT u b x = 0 ∧ clTold v b x = (whyT u b x, v) ∧ whyT u b x < 0) := by
  have n1 := H.1.1.1
  have n5 := H.1.1.2.2.2.2.1
  unfold clTold whyT
  rw [n5.2]
  rcases bAt_wi n1 n5.1 b with ⟨k, hk, rfl, h1, h2⟩ | ⟨h1, h2⟩
  · have hc : (nI k).toNatClampNeg = k := nI_cl _ (by omega)
    rw [if_neg h2, if_pos h1, hc]
    by_cases hx : x < 1 ∨ 9999 < x
    · rw [if_pos hx, if_neg (fun z => absurd ((wiB_f _ _ _).mpr hx) (by rw [z]; decide))]
      exact Or.inr ⟨by decide, rfl, by decide⟩
    · rw [if_neg hx, if_pos ((wiB_t _ _ _).mpr hx), ms_row]
      have hx0 : ¬ x < 0 := fun z => hx (Or.inl (Int32.lt_trans z (by decide)))
      refine Or.inl ⟨rfl, (H.1.2.1.1 k 7 hk (by omega)).symm, (H.2.2.2 k (by omega)).2, ⟨k, hk, rfl⟩, rOK_bid H hk (by omega) hx0⟩
  · rw [if_pos h2, if_neg (by rw [h1]; decide)]
    exact Or.inr ⟨by decide, rfl, by decide⟩
theorem plan_ok (H : rOK v (u 1) n q T lag g tot) (b x : Int32) : (wiB b 0 (nI n - 1) = true ∧ wiB x 0 200 = true ∧ (clPlan v b x).1 = u 1 (10 + 8 * b.toNatClampNeg + 1) ∧ ¬ (clPlan v b x).1 < 0 ∧ rOK (clPlan v b x).2 (ms u 1 (10 + 8 * b.toNatClampNeg + 1) x 1) n q T lag g tot) ∨ (wiB b 0 (nI n - 1) = true ∧ wiB x 0 200 = false ∧ clPlan v b x = (-2, v)) ∨ (wiB b 0 (nI n - 1) = false ∧ clPlan v b x = (-1, v)) := by
  have n1 := H.1.1.1
  have n5 := H.1.1.2.2.2.2.1
  unfold clPlan
  rcases bAt_wi n1 n5.1 b with ⟨k, hk, rfl, h1, h2⟩ | ⟨h1, h2⟩
  · have hc : (nI k).toNatClampNeg = k := nI_cl _ (by omega)
    rw [if_neg h2, hc]
    by_cases hx : x < 0 ∨ 200 < x
    · rw [if_pos hx]
      exact Or.inr (Or.inl ⟨h1, (wiB_f _ _ _).mpr hx, rfl⟩)
    · rw [if_neg hx, ms_row]
      exact Or.inl ⟨h1, (wiB_t _ _ _).mpr hx, (H.1.2.1.1 k 1 hk (by omega)).symm, (H.2.2.2 k (by omega)).1, rOK_bid H hk (by omega) (fun z => hx (Or.inl z))⟩
  · rw [if_pos h2]
    exact Or.inr (Or.inr ⟨h1, rfl⟩)
theorem pass2_ok (H : rOK v (u 1) n q T lag g tot) (hT : T ≤ 9999) (x : Int32) : (whyP u x = 0 ∧ (∃ k, 1 ≤ k ∧ k ≤ 99 ∧ x = nI k) ∧ (clPass n v x).1 = psI u lag n q x.toNatClampNeg ∧ ¬ (clPass n v x).1 < 0 ∧ ∃ T' g' t', T' ≤ 9999 ∧ rOK (clPass n v x).2 (psU u lag n q x.toNatClampNeg 1) n q T' lag g' t') ∨ (¬ whyP u x = 0 ∧ clPass n v x = (whyP u x, v) ∧ whyP u x < 0) := by
  have n7 := H.1.1.2.2.2.2.2.2.1
  unfold clPass whyP
  rw [n7.1, n7.2]
  by_cases hx : x < 1 ∨ 99 < x
  · rw [if_pos hx, if_neg (fun z => absurd ((wiB_f _ _ _).mpr hx) (by rw [z]; decide))]
    exact Or.inr ⟨by decide, rfl, by decide⟩
  · rw [if_neg hx, if_pos ((wiB_t _ _ _).mpr hx)]
    have hx0 : ¬ x < 0 := fun z => hx (Or.inl (Int32.lt_trans z (by decide)))
    obtain ⟨k, hk, rfl⟩ := nI_of hx0
    have hk1 : 1 ≤ k := by
      rcases Nat.eq_zero_or_pos k with z | z
      · subst z
        exact absurd (Or.inl (by decide)) hx
      · exact z
    have hk99 : k ≤ 99 := by
      rcases Nat.lt_or_ge 99 k with z | z
      · exact absurd (Or.inr (nI_lt (a := 99) z hk)) hx
      · exact z
    have hc : (nI k).toNatClampNeg = k := nI_cl _ hk
    rw [nI_add, hc]
    by_cases h9 : 9999 < T + k
    · have h9' : (9999 : Int32) < nI (T + k) := nI_lt (a := 9999) h9 (by omega)
      rw [if_pos h9', if_pos h9']
      exact Or.inr ⟨by decide, rfl, by decide⟩
    · have h9' : ¬ (9999 : Int32) < nI (T + k) := nI_nlt (b := T + k) (a := 9999) (by omega) (by omega)
      rw [if_neg h9', if_neg h9']
      obtain ⟨p1, g', t', p2⟩ := pass_ok H k (by omega)
      refine Or.inl ⟨rfl, ⟨k, hk1, hk99, rfl⟩, p1, ?_, T + k, g', t', by omega, p2⟩
      dsimp only
      rw [p1]
      obtain ⟨j, hj, ej⟩ := passI_nI u lag n q k
      rw [ej]
      exact nI_pos (by omega)
end CO
