/-! a lot's end, and the whole round-/
theorem price_eq {v : evVt} {r : Nat → Int32} {l n : Nat} (hn : n ≤ 6) (hb : ∀ k, k < 6 → r (114 + 2 * k) = v 3 k 1) (h5 : r (58 + 7 * l + 5) = v 5 l 1) (h6 : r (58 + 7 * l + 6) = v 5 l 0) (s1 : setAt v 1 = r 1) (s3 : setAt v 3 = r 3) : prV l n v = mprV r l n := by
  have S : ∀ k, k ≤ n → scV l v k = mprS r (v 5 l 0) k := by
    intro k
    induction k with
    | zero => intro _; rfl
    | succ k ih =>
      intro hk
      rw [scV_s, ih (by omega)]
      show _ = if ¬ nI k = v 5 l 0 ∧ mprS r (v 5 l 0) k < r (114 + 2 * k) then r (114 + 2 * k) else mprS r (v 5 l 0) k
      rw [hb k (by omega)]
      unfold imax
      by_cases h1 : nI k = v 5 l 0
      · rw [if_pos h1, if_neg (fun z => z.1 h1)]
      · rw [if_neg h1]
        by_cases h2 : mprS r (v 5 l 0) k < v 3 k 1
        · rw [if_pos h2, if_pos ⟨h1, h2⟩]
        · rw [if_neg h2, if_neg (fun z => h2 z.2)]
  unfold prV mprV
  rw [s3, s1, S n (Nat.le_refl n), h6, h5, lim_eq]
theorem enS_at (u : Nat → Nat → Int32) (l b : Nat) (x : Int32) (j : Nat) : enS u l b x 1 j = if j = 58 + 7 * l + 3 then x else if j = 58 + 7 * l + 2 then nI b else if j = 58 + 7 * l + 1 then 2 else if j = 7 then -6 else u 1 j := by
  unfold enS
  rw [ms_at, ms_at, ms_at, ms_at]
  simp only [true_and]
theorem ad_at (u : Nat → Nat → Int32) (b p : Nat) (x : Int32) (j : Nat) : adU u b p x 1 j = if j = 10 + 8 * b + p then u 1 j + x else u 1 j := by
  unfold adU
  rw [ms_at]
  simp only [true_and]
  by_cases h : j = 10 + 8 * b + p
  · rw [if_pos h, if_pos h, h]
  · rw [if_neg h, if_neg h]
theorem en_at (u : Nat → Nat → Int32) {l b : Nat} (x : Int32) (hb : b < 6) (j : Nat) : enB (enA (enS u l b x) l b x) l b 1 j = if j = 10 + 8 * b + 2 then u 1 j ||| 1 <<< (nI l &&& 31) else if j = 10 + 8 * b + 4 then u 1 j + u 1 (58 + 7 * l + 0) else if j = 10 + 8 * b + 3 then u 1 j + x else if j = 10 + 8 * b + 0 then u 1 j + -x else if j = 58 + 7 * l + 3 then x else if j = 58 + 7 * l + 2 then nI b else if j = 58 + 7 * l + 1 then 2 else if j = 7 then -6 else u 1 j := by
  have s0 : ∀ i, 10 ≤ i → i < 58 → enS u l b x 1 i = u 1 i := fun i h1 h2 => by
    have a1 : ¬ i = 58 + 7 * l + 3 := by omega
    have a2 : ¬ i = 58 + 7 * l + 2 := by omega
    have a3 : ¬ i = 58 + 7 * l + 1 := by omega
    have a4 : ¬ i = 7 := by omega
    rw [enS_at, if_neg a1, if_neg a2, if_neg a3, if_neg a4]
  have sw : enS u l b x 1 (58 + 7 * l + 0) = u 1 (58 + 7 * l + 0) := by
    have a1 : ¬ 58 + 7 * l + 0 = 58 + 7 * l + 3 := by omega
    have a2 : ¬ 58 + 7 * l + 0 = 58 + 7 * l + 2 := by omega
    have a3 : ¬ 58 + 7 * l + 0 = 58 + 7 * l + 1 := by omega
    have a4 : ¬ 58 + 7 * l + 0 = 7 := by omega
    rw [enS_at, if_neg a1, if_neg a2, if_neg a3, if_neg a4]
  have A : ∀ i, enA (enS u l b x) l b x 1 i = if i = 10 + 8 * b + 4 then u 1 i + u 1 (58 + 7 * l + 0) else if i = 10 + 8 * b + 3 then u 1 i + x else if i = 10 + 8 * b + 0 then u 1 i + -x else enS u l b x 1 i := fun i => by
    have b1 : ¬ 58 + 7 * l + 0 = 10 + 8 * b + 3 := by omega
    have b2 : ¬ 58 + 7 * l + 0 = 10 + 8 * b + 0 := by omega
    unfold enA
    rw [ad_at, ad_at, ad_at, ad_at, ad_at, if_neg b1, if_neg b2, sw]
    by_cases h4 : i = 10 + 8 * b + 4
    · have b3 : ¬ i = 10 + 8 * b + 3 := by omega
      have b4 : ¬ i = 10 + 8 * b + 0 := by omega
      rw [if_pos h4, if_pos h4, if_neg b3, if_neg b4, s0 i (by omega) (by omega)]
    · rw [if_neg h4, if_neg h4]
      by_cases h3 : i = 10 + 8 * b + 3
      · have b4 : ¬ i = 10 + 8 * b + 0 := by omega
        rw [if_pos h3, if_pos h3, if_neg b4, s0 i (by omega) (by omega)]
      · rw [if_neg h3, if_neg h3]
        by_cases h0 : i = 10 + 8 * b + 0
        · rw [if_pos h0, if_pos h0, s0 i (by omega) (by omega)]
        · rw [if_neg h0, if_neg h0]
  unfold enB
  rw [ms_at, A, A]
  simp only [true_and]
  by_cases h2 : j = 10 + 8 * b + 2
  · have b4 : ¬ 10 + 8 * b + 2 = 10 + 8 * b + 4 := by omega
    have b3 : ¬ 10 + 8 * b + 2 = 10 + 8 * b + 3 := by omega
    have b0 : ¬ 10 + 8 * b + 2 = 10 + 8 * b + 0 := by omega
    rw [if_pos h2, if_pos h2, if_neg b4, if_neg b3, if_neg b0, s0 _ (by omega) (by omega), h2]
  · rw [if_neg h2, if_neg h2, enS_at]
def enP (v : evVt) (l n : Nat) : Int32 := prV l n (vs (vs v 1 3 0 (-6)) 4 l 1 2)
theorem end_2 {v : evVt} {l n b : Nat} (hb : bAt v 0 (v 5 l 0) ≠ none) (hw : v 5 l 0 = nI b) (hb6 : b < 6) (i j : Nat) : endV l n v 2 i j = if i = b ∧ j = 3 then v 2 b 3 ||| (1 <<< ((v 1 2 0 - 1) &&& 31)) else if i = b ∧ j = 5 then v 2 b 5 + v 4 l 0 else if i = b ∧ j = 4 then v 2 b 4 + enP v l n else if i = b ∧ j = 0 then v 2 b 0 - enP v l n else v 2 i j := by
  unfold endV enP
  rw [if_neg hb]
  have c : (v 5 l 0).toNatClampNeg = b := by rw [hw, nI_cl _ (by omega)]
  rw [c]
  simp [vs_at]
theorem end_4 {v : evVt} {l n b : Nat} (hb : bAt v 0 (v 5 l 0) ≠ none) (hw : v 5 l 0 = nI b) (i j : Nat) : endV l n v 4 i j = if i = l ∧ j = 2 then enP v l n else if i = l ∧ j = 1 then 2 else v 4 i j := by
  unfold endV enP
  rw [if_neg hb]
  simp [vs_at]
theorem end_o {v : evVt} {l n a i j : Nat} (h1 : a ≠ 1) (h2 : a ≠ 2) (h4 : a ≠ 4) : endV l n v a i j = v a i j := endV_o h1 h2 h4
theorem end_13 {v : evVt} {l n : Nat} : endV l n v 1 3 0 = -6 := by
  unfold endV
  split
  · simp [vs_at]
  · simp [vs_at]
section ER
variable {v : evVt} {u : Nat → Nat → Int32} {G : Nat → Nat → Int32} {n q T T' lag g tot l : Nat}
theorem end_rel (HN : rNum v (u 1) n q T lag) (HB : rBidA v (u 1) n) (HL : rLot v (u 1) q g) (hlg : l + 1 = g) (hg : v 1 2 0 = nI g) (HM : rMade v (u 1) tot) (h41 : v 4 l 1 = 1) (HR : rRun v (u 1) l T' n G) (hT' : T' < 2 ^ 30) :
    rNum (endV l n v) (enU u l n 1) n q T lag ∧ rBidA (endV l n v) (enU u l n 1) n ∧ rLot (endV l n v) (enU u l n 1) q g ∧ rMade (endV l n v) (enU u l n 1) tot ∧ endV l n v 1 3 0 = -6 ∧ enU u l n 1 7 = -6 ∧ endV l n v 1 2 0 = nI g := by
  obtain ⟨n1, n2, n3, n4, n5, n6, n7, n8, n9⟩ := id HN
  obtain ⟨l1, l2, l3, l4⟩ := id HL
  obtain ⟨r1, r2, r3, r4, r5, r6, r7⟩ := id HR
  obtain ⟨x0, x1, x2, x3, x4, x5, x6⟩ := l2 l (by omega)
  have e1 : ∀ i, i ≠ 3 → endV l n v 1 i 0 = v 1 i 0 := fun i hi => endV_1 hi
  have hw : v 5 l 0 = -6 ∨ ∃ b, b < n ∧ v 5 l 0 = nI b := by
    by_cases hp : 0 < v 5 l 1
    · right
      obtain ⟨⟨t, k, _, hk6, e⟩, -⟩ := r6.1.1 hp
      have e1 := congrArg (fun z : evT => z.1) e
      have e3 := congrArg (fun z : evT => z.2.2) e
      simp only [] at e1 e3
      refine ⟨k, ?_, e3⟩
      rcases Nat.lt_or_ge k n with z | z
      · exact z
      · rw [r1 t k z] at e1
        rw [e1] at hp
        exact absurd hp (by decide)
    · left
      have e := r6.2 hp
      exact congrArg (fun z : evT => z.2.2) e
  rcases hw with hw | ⟨b, hbn, hw⟩
  · have hno : bAt v 0 (v 5 l 0) = none := bAt_no n1 n5.1 (fun k hk z => nI_n6 (by omega) (z.symm.trans hw))
    have eV : endV l n v = vs (vs v 1 3 0 (-6)) 4 l 1 3 := by
      unfold endV
      rw [if_pos hno]
    have eU : ∀ j, enU u l n 1 j = if j = 58 + 7 * l + 1 then 3 else if j = 7 then -6 else u 1 j := fun j => by
      unfold enU
      rw [if_pos (x4.trans hw), ms_at, ms_at]
      simp only [true_and]
    have U0 : ∀ j, j ≠ 58 + 7 * l + 1 → j ≠ 7 → enU u l n 1 j = u 1 j := fun j h1 h2 => by rw [eU, if_neg h1, if_neg h2]
    have V4 : ∀ i j, ¬ (i = l ∧ j = 1) → endV l n v 4 i j = v 4 i j := fun i j h => by
      rw [eV, vs_at, if_neg (fun z => h z.2), vs_at, if_neg (by omega)]
    have V2 : ∀ a i j, a ≠ 1 → a ≠ 4 → endV l n v a i j = v a i j := fun a i j h1 h4 => by
      rw [eV, vs_at, if_neg (fun z => h4 z.1), vs_at, if_neg (fun z => h1 z.1)]
    refine ⟨⟨n1, n2, n3, n4, ⟨by rw [e1 _ (by omega)]; exact n5.1, by rw [U0 _ (by omega) (by omega)]; exact n5.2⟩, ⟨by rw [e1 _ (by omega)]; exact n6.1, by rw [U0 _ (by omega) (by omega)]; exact n6.2⟩, ⟨by rw [e1 _ (by omega)]; exact n7.1, by rw [U0 _ (by omega) (by omega)]; exact n7.2⟩, by rw [U0 _ (by omega) (by omega)]; exact n8, fun j hj => by rw [V2 _ _ _ (by omega) (by omega), U0 _ (by omega) (by omega)]; exact n9 j hj⟩, rBidA_congr n1 (fun i j => V2 _ _ _ (by omega) (by omega)) (fun j _ _ => U0 _ (by omega) (by omega)) HB, ⟨l1, fun i hi => ?_, fun i hi => ?_, fun i hi h8 => rNew_congr (fun j => V4 _ _ (by omega)) (fun j => V2 _ _ _ (by omega) (by omega)) (l4 i hi h8)⟩, rMade_congr (V2 _ _ _ (by omega) (by omega)) (fun c => V2 _ _ _ (by omega) (by omega)) (fun j _ _ => U0 _ (by omega) (by omega)) (U0 _ (by omega) (by omega)) HM, end_13, by rw [eU, if_neg (by omega), if_pos rfl], by rw [e1 _ (by omega)]; exact hg⟩
    · by_cases hil : i = l
      · subst hil
        have e41 : endV i n v 4 i 1 = 3 := by rw [eV, vs_at, if_pos ⟨rfl, rfl, rfl⟩]
        have n32 : ¬ (3 : Int32) = 2 := by decide
        have n12 : ¬ (1 : Int32) = 2 := by decide
        rw [h41, if_neg n12] at x5 x6
        unfold rLot1
        rw [e41, if_neg n32, if_neg n32, V4 _ _ (by omega), V4 _ _ (by omega), V2 _ _ _ (by omega) (by omega), V2 _ _ _ (by omega) (by omega), U0 (58 + 7 * i + 0) (by omega) (by omega), U0 (58 + 7 * i + 2) (by omega) (by omega), U0 (58 + 7 * i + 3) (by omega) (by omega), U0 (58 + 7 * i + 4) (by omega) (by omega), U0 (58 + 7 * i + 5) (by omega) (by omega), U0 (58 + 7 * i + 6) (by omega) (by omega), eU, if_pos rfl]
        exact ⟨x0, rfl, x2, x3, x4, x5, x6⟩
      · exact rLot1_congr (fun j => V4 _ _ (by omega)) (fun j => V2 _ _ _ (by omega) (by omega)) (fun j hj => U0 _ (by omega) (by omega)) (l2 i hi)
    · by_cases hil : i = l
      · rw [hil, eV, vs_at, if_pos ⟨rfl, rfl, rfl⟩]; decide
      · rw [V4 _ _ (by omega)]; exact l3 i hi
  · have hsome : bAt v 0 (v 5 l 0) ≠ none := by
      rw [hw, bAt_in (b := 0) hbn n1 n5.1]
      exact fun z => by cases z
    have hr6 : u 1 (58 + 7 * l + 6) = nI b := x4.trans hw
    have hb6 : b < 6 := by omega
    have hc : (u 1 (58 + 7 * l + 6)).toNatClampNeg = b := by rw [hr6, nI_cl _ (by omega)]
    have hp : enP v l n = mprV (ms u 1 7 (-6) 1) l n := by
      have o : ∀ j, j ≠ 7 → ms u 1 7 (-6) 1 j = u 1 j := fun j hj => by rw [ms_at, if_neg (fun z => hj z.2)]
      have o5 : ∀ a i j, a ≠ 1 → a ≠ 4 → vs (vs v 1 3 0 (-6)) 4 l 1 2 a i j = v a i j := fun a i j h1 h4 => by
        rw [vs_at, if_neg (fun z => h4 z.1), vs_at, if_neg (fun z => h1 z.1)]
      refine price_eq n1 (fun k hk => ?_) ?_ ?_ ?_ ?_
      · rw [o _ (by omega), o5 _ _ _ (by omega) (by omega)]; exact (r2 k hk).2.1
      · rw [o _ (by omega), o5 _ _ _ (by omega) (by omega)]; exact x3
      · rw [o _ (by omega), o5 _ _ _ (by omega) (by omega)]; exact x4
      · rw [o _ (by omega), ← n9 1 (by omega)]
        exact (setAt_nI _ (j := 1) (by omega)).trans (o5 _ _ _ (by omega) (by omega))
      · rw [o _ (by omega), ← n9 3 (by omega)]
        exact (setAt_nI _ (j := 3) (by omega)).trans (o5 _ _ _ (by omega) (by omega))
    have eU : ∀ j, enU u l n 1 j = if j = 10 + 8 * b + 2 then u 1 j ||| 1 <<< (nI l &&& 31) else if j = 10 + 8 * b + 4 then u 1 j + u 1 (58 + 7 * l + 0) else if j = 10 + 8 * b + 3 then u 1 j + enP v l n else if j = 10 + 8 * b + 0 then u 1 j + -(enP v l n) else if j = 58 + 7 * l + 3 then enP v l n else if j = 58 + 7 * l + 2 then nI b else if j = 58 + 7 * l + 1 then 2 else if j = 7 then -6 else u 1 j := fun j => by
      unfold enU
      rw [if_neg (fun z => nI_n6 (k := b) (by omega) (hr6.symm.trans z)), hc, ← hp, en_at u _ hb6]
    have U0 : ∀ j, ¬ (j = 10 + 8 * b + 2 ∨ j = 10 + 8 * b + 4 ∨ j = 10 + 8 * b + 3 ∨ j = 10 + 8 * b + 0 ∨ j = 58 + 7 * l + 3 ∨ j = 58 + 7 * l + 2 ∨ j = 58 + 7 * l + 1 ∨ j = 7) → enU u l n 1 j = u 1 j := fun j h => by
      rw [eU, if_neg (fun z => h (by omega)), if_neg (fun z => h (by omega)), if_neg (fun z => h (by omega)), if_neg (fun z => h (by omega)), if_neg (fun z => h (by omega)), if_neg (fun z => h (by omega)), if_neg (fun z => h (by omega)), if_neg (fun z => h (by omega))]
    have V4 : ∀ i j, ¬ (i = l ∧ (j = 1 ∨ j = 2)) → endV l n v 4 i j = v 4 i j := fun i j h => by
      have a1 : ¬ (i = l ∧ j = 2) := fun z => h ⟨z.1, Or.inr z.2⟩
      have a2 : ¬ (i = l ∧ j = 1) := fun z => h ⟨z.1, Or.inl z.2⟩
      rw [end_4 hsome hw, if_neg a1, if_neg a2]
    have V2 : ∀ a i j, a ≠ 1 → a ≠ 2 → a ≠ 4 → endV l n v a i j = v a i j := fun a i j h1 h2 h4 => end_o h1 h2 h4
    have eg : v 1 2 0 - 1 = nI l := by rw [hg, ← hlg]; exact nI_pred l
    refine ⟨⟨n1, n2, n3, n4, ⟨by rw [e1 _ (by omega)]; exact n5.1, by rw [U0 _ (by omega)]; exact n5.2⟩, ⟨by rw [e1 _ (by omega)]; exact n6.1, by rw [U0 _ (by omega)]; exact n6.2⟩, ⟨by rw [e1 _ (by omega)]; exact n7.1, by rw [U0 _ (by omega)]; exact n7.2⟩, by rw [U0 _ (by omega)]; exact n8, fun j hj => by rw [V2 _ _ _ (by omega) (by omega) (by omega), U0 _ (by omega)]; exact n9 j hj⟩, ⟨fun i j hi hj => ?_, fun i j hi h6 hj => ?_⟩, ⟨l1, fun i hi => ?_, fun i hi => ?_, fun i hi h8 => rNew_congr (fun j => V4 _ _ (by omega)) (fun j => V2 _ _ _ (by omega) (by omega) (by omega)) (l4 i hi h8)⟩, rMade_congr (V2 _ _ _ (by omega) (by omega) (by omega)) (fun c => V2 _ _ _ (by omega) (by omega) (by omega)) (fun j _ _ => U0 _ (by omega)) (U0 _ (by omega)) HM, end_13, by rw [eU, if_neg (by omega), if_neg (by omega), if_neg (by omega), if_neg (by omega), if_neg (by omega), if_neg (by omega), if_neg (by omega), if_pos rfl], by rw [e1 _ (by omega)]; exact hg⟩
    · by_cases hib : i = b
      · subst hib
        rw [end_2 hsome hw hb6, eg]
        have hh := HB.1 i j hi hj
        rcases (show j = 0 ∨ j = 1 ∨ j = 2 ∨ j = 3 ∨ j = 4 ∨ j = 5 ∨ j = 6 ∨ j = 7 by omega) with rfl | rfl | rfl | rfl | rfl | rfl | rfl | rfl
        · rw [eU, if_neg (by omega), if_neg (by omega), if_neg (by omega), if_pos rfl, hh, ← Int32.sub_eq_add_neg]
          simp [bp]
        · rw [U0 _ (by omega), hh]
          simp [bp]
        · rw [eU, if_pos rfl, hh]
          simp [bp]
        · rw [eU, if_neg (by omega), if_neg (by omega), if_pos rfl, hh]
          simp [bp]
        · rw [eU, if_neg (by omega), if_pos rfl, hh, x0]
          simp [bp]
        · rw [U0 _ (by omega), hh]
          simp [bp]
        · rw [U0 _ (by omega), hh]
          simp [bp]
        · rw [U0 _ (by omega), hh]
          simp [bp]
      · rw [U0 _ (by omega), end_2 hsome hw hb6, if_neg (fun z => hib z.1), if_neg (fun z => hib z.1), if_neg (fun z => hib z.1), if_neg (fun z => hib z.1)]
        exact HB.1 i j hi hj
    · rw [end_2 hsome hw hb6, if_neg (by omega), if_neg (by omega), if_neg (by omega), if_neg (by omega)]
      exact HB.2 i j hi h6 hj
    · by_cases hil : i = l
      · subst hil
        have e41 : endV i n v 4 i 1 = 2 := by rw [end_4 hsome hw, if_neg (by omega), if_pos ⟨rfl, rfl⟩]
        have e42 : endV i n v 4 i 2 = enP v i n := by rw [end_4 hsome hw, if_pos ⟨rfl, rfl⟩]
        unfold rLot1
        rw [e41, e42, if_pos rfl, if_pos rfl, V4 _ _ (by omega), V4 _ _ (by omega), V2 _ _ _ (by omega) (by omega) (by omega), V2 _ _ _ (by omega) (by omega) (by omega), U0 (58 + 7 * i + 0) (by omega), U0 (58 + 7 * i + 4) (by omega), U0 (58 + 7 * i + 5) (by omega), U0 (58 + 7 * i + 6) (by omega)]
        refine ⟨x0, ?_, x2, x3, x4, ?_, ?_⟩
        · rw [eU, if_neg (by omega), if_neg (by omega), if_neg (by omega), if_neg (by omega), if_neg (by omega), if_neg (by omega), if_pos rfl]
        · rw [eU, if_neg (by omega), if_neg (by omega), if_neg (by omega), if_neg (by omega), if_neg (by omega), if_pos rfl, hw]
        · rw [eU, if_neg (by omega), if_neg (by omega), if_neg (by omega), if_neg (by omega), if_pos rfl]
      · exact rLot1_congr (fun j => V4 _ _ (by omega)) (fun j => V2 _ _ _ (by omega) (by omega) (by omega)) (fun j hj => U0 _ (by omega)) (l2 i hi)
    · by_cases hil : i = l
      · rw [hil, end_4 hsome hw, if_neg (by omega), if_pos ⟨rfl, rfl⟩]; decide
      · rw [V4 _ _ (by omega)]; exact l3 i hi
end ER
