/-! a lot begins, a lot ends -/
theorem rRun_congr {v v' : evVt} {r r' : Nat → Int32} {l T n : Nat} {G : Nat → Nat → Int32} (h3 : ∀ i j, v' 3 i j = v 3 i j) (h5 : ∀ i j, v' 5 i j = v 5 i j) (h6 : ∀ i j, v' 6 i j = v 6 i j) (h4 : v' 4 l 4 = v 4 l 4) (hr : ∀ j, 114 ≤ j → j < 168 → r' j = r j) (h8 : r' 8 = r 8) (h : rRun v r l T n G) : rRun v' r' l T n G := by
  obtain ⟨r1, r2, r3, r4, r5, r6, r7⟩ := h
  refine ⟨r1, fun k hk => ?_, fun k hk => ?_, fun a k ha hk => ?_, fun j hj => ?_, ?_, ?_⟩
  · rw [h3, h3, h3, hr _ (by omega) (by omega), hr _ (by omega) (by omega)]; exact r2 k hk
  · rw [hr _ (by omega) (by omega), hr _ (by omega) (by omega)]; exact r3 k hk
  · rw [hr _ (by omega) (by omega)]; exact r4 a k ha hk
  · rw [h6, h6, h6]; exact r5 j hj
  · show mxP _ _
    rw [h5, h5, h5]; exact r6
  · rw [h8, h4]; exact r7
theorem rMade_congr {v v' : evVt} {r r' : Nat → Int32} {t : Nat} (h7 : v' 7 0 0 = v 7 0 0) (h8 : ∀ c, v' 8 c 0 = v 8 c 0) (hr : ∀ j, 168 ≤ j → j < 328 → r' j = r j) (h9 : r' 9 = r 9) (h : rMade v r t) : rMade v' r' t := by
  obtain ⟨m1, m2, m3⟩ := h
  refine ⟨by rw [h9]; exact m1, by rw [h7]; exact m2, fun a p x1 x2 x3 => ?_⟩
  rw [h8, hr _ (by omega) (by omega)]
  exact m3 a p x1 x2 x3
theorem rBidA_congr {v v' : evVt} {r r' : Nat → Int32} {n : Nat} (hn : n ≤ 6) (h2 : ∀ i j, v' 2 i j = v 2 i j) (hr : ∀ j, 10 ≤ j → j < 58 → r' j = r j) (h : rBidA v r n) : rBidA v' r' n := by
  refine ⟨fun i j hi hj => ?_, fun i j hi h6 hj => ?_⟩
  · rw [h2, hr _ (by omega) (by omega)]; exact h.1 i j hi hj
  · rw [h2]; exact h.2 i j hi h6 hj
theorem rLot1_congr {v v' : evVt} {r r' : Nat → Int32} {i : Nat} (h4 : ∀ j, v' 4 i j = v 4 i j) (h5 : ∀ j, v' 5 i j = v 5 i j) (hr : ∀ j, j < 7 → r' (58 + 7 * i + j) = r (58 + 7 * i + j)) (h : rLot1 v r i) : rLot1 v' r' i := by
  unfold rLot1
  rw [hr 0 (by omega), hr 1 (by omega), hr 2 (by omega), hr 3 (by omega), hr 4 (by omega), hr 5 (by omega), hr 6 (by omega), h4, h4, h4, h4, h5, h5]
  exact h
theorem rNew_congr {v v' : evVt} {i : Nat} (h4 : ∀ j, v' 4 i j = v 4 i j) (h5 : ∀ j, v' 5 i j = v 5 i j) (h : rNew v i) : rNew v' i := by
  unfold rNew
  rw [h4, h4, h4, h5, h5, h5]
  exact h
theorem rLot_congr {v v' : evVt} {r r' : Nat → Int32} {q g : Nat} (hq : q ≤ 8) (h4 : ∀ i j, v' 4 i j = v 4 i j) (h5 : ∀ i j, v' 5 i j = v 5 i j) (hr : ∀ j, 58 ≤ j → j < 114 → r' j = r j) (h : rLot v r q g) : rLot v' r' q g := by
  obtain ⟨l1, l2, l3, l4⟩ := h
  exact ⟨l1, fun i hi => rLot1_congr (h4 i) (h5 i) (fun j hj => hr _ (by omega) (by omega)) (l2 i hi), fun i hi => by rw [h4]; exact l3 i hi, fun i hi h8 => rNew_congr (h4 i) (h5 i) (l4 i hi h8)⟩
theorem fw_eq {r : Nat → Int32} {q g : Nat} (h1 : ∀ i, i < g → r (58 + 7 * i + 1) ≠ 0) (h2 : ∀ i, g ≤ i → i < q → r (58 + 7 * i + 1) = 0) (d : Nat) (hd : d ≤ q) : fwF r q d = if (if g < q - d then q - d else g) < q then nI (if g < q - d then q - d else g) else -6 := by
  induction d with
  | zero =>
    have e : ¬ (if g < q - 0 then q - 0 else g) < q := by split <;> omega
    rw [if_neg e]
    rfl
  | succ d ih =>
    show (if r (58 + 7 * (q - (d + 1)) + 1) = 0 then nI (q - (d + 1)) else fwF r q d) = _
    by_cases hg : q - (d + 1) < g
    · rw [if_neg (h1 _ hg), ih (by omega)]
      have a1 : ¬ g < q - d := by omega
      have a2 : ¬ g < q - (d + 1) := by omega
      rw [if_neg a1, if_neg a2]
    · rw [if_pos (h2 _ (by omega) (by omega))]
      have e : (if g < q - (d + 1) then q - (d + 1) else g) = q - (d + 1) := by split <;> omega
      have e2 : q - (d + 1) < q := by omega
      rw [e, if_pos e2]
theorem fw_eq' {r : Nat → Int32} {q g : Nat} (hg : g ≤ q) (h1 : ∀ i, i < g → r (58 + 7 * i + 1) ≠ 0) (h2 : ∀ i, g ≤ i → i < q → r (58 + 7 * i + 1) = 0) : fwF r q q = if g < q then nI g else -6 := by
  rw [fw_eq h1 h2 q (Nat.le_refl q)]
  have e : (if g < q - q then q - q else g) = g := by split <;> omega
  rw [e]
theorem bg_at (u : Nat → Nat → Int32) (l j : Nat) : bgU u l 1 j = if 114 ≤ j ∧ j < 328 then 0 else if j = 58 + 7 * l + 1 then 1 else if j = 9 then 0 else if j = 8 then 0 else if j = 7 then nI l else u 1 j := by
  unfold bgU bgV
  rw [ms_at, ms_at, ms_at, ms_at]
  simp only [true_and]
theorem clB_at (v : evVt) (k i j : Nat) (hj : j < 3) : clB k v 3 i j = if i < k then (if j = 0 then -6 else 0) else v 3 i j := by
  induction k with
  | zero =>
    have e : ¬ i < 0 := by omega
    rw [if_neg e]; rfl
  | succ k ih =>
    show set3 (clB k v) 3 k (-6) 0 0 3 i j = _
    rw [set3_at]
    simp only [true_and]
    by_cases hi : i = k
    · have e : i < k + 1 := by omega
      rw [if_pos e]
      rcases (show j = 0 ∨ j = 1 ∨ j = 2 by omega) with rfl | rfl | rfl
      · simp [hi]
      · simp [hi]
      · simp [hi]
    · simp only [hi, false_and, if_false]
      rw [ih]
      by_cases h : i < k
      · have e : i < k + 1 := by omega
        rw [if_pos h, if_pos e]
      · have e : ¬ i < k + 1 := by omega
        rw [if_neg h, if_neg e]
theorem clE_at (v : evVt) (k i j : Nat) (hj : j < 3) : clE k v 6 i j = if i < k then (if j = 0 then -6 else 0) else v 6 i j := by
  induction k with
  | zero =>
    have e : ¬ i < 0 := by omega
    rw [if_neg e]; rfl
  | succ k ih =>
    show set3 (clE k v) 6 k (-6) 0 0 6 i j = _
    rw [set3_at]
    simp only [true_and]
    by_cases hi : i = k
    · have e : i < k + 1 := by omega
      rw [if_pos e]
      rcases (show j = 0 ∨ j = 1 ∨ j = 2 by omega) with rfl | rfl | rfl
      · simp [hi]
      · simp [hi]
      · simp [hi]
    · simp only [hi, false_and, if_false]
      rw [ih]
      by_cases h : i < k
      · have e : i < k + 1 := by omega
        rw [if_pos h, if_pos e]
      · have e : ¬ i < k + 1 := by omega
        rw [if_neg h, if_neg e]
theorem lAt_no {v : evVt} {q : Nat} (hq : q ≤ 8) (hv : v 1 1 0 = nI q) {x : Int32} (h : ∀ k, k < q → x ≠ nI k) : lAt v 0 x = none := by
  rcases lAt_of (b := 0) (x := x) hq hv with ⟨k, hk, e, _⟩ | ⟨e, _⟩
  · exact absurd e (h k hk)
  · exact e
theorem bAt_no {v : evVt} {n : Nat} (hn : n ≤ 6) (hv : v 1 0 0 = nI n) {x : Int32} (h : ∀ k, k < n → x ≠ nI k) : bAt v 0 x = none := by
  rcases bAt_of (b := 0) (x := x) hn hv with ⟨k, hk, e, _⟩ | ⟨e, _⟩
  · exact absurd e (h k hk)
  · exact e
section EN
variable {v : evVt} {u : Nat → Nat → Int32} {G : Nat → Nat → Int32} {n q T lag g tot l : Nat}
def bgW (v : evVt) (g : Nat) : evVt := clE 6 (clB 6 (vs (vs (vs (vs v 4 g 1 1) 1 3 0 (nI g)) 1 2 0 (nI (g + 1))) 7 0 0 0))
theorem begin_eq (hq : q ≤ 8) (hv : v 1 1 0 = nI q) (hg : v 1 2 0 = nI g) (hgq : g < q) : beginV v = bgW v g := by
  unfold beginV bgW
  rw [hg, if_neg (by rw [lAt_in (b := 0) hgq hq hv]; exact fun z => by cases z), nI_cl _ (by omega)]
  rw [show nI g + 1 = nI (g + 1) from (nI_succ g).symm]
theorem bgW_o {a i j : Nat} (h1 : a ≠ 1) (h3 : a ≠ 3) (h4 : a ≠ 4) (h6 : a ≠ 6) (h7 : a ≠ 7) : bgW v g a i j = v a i j := by
  unfold bgW
  rw [clE_o h6, clB_o h3, vs_at, if_neg (fun z => h7 z.1), vs_at, if_neg (fun z => h1 z.1), vs_at, if_neg (fun z => h1 z.1), vs_at, if_neg (fun z => h4 z.1)]
theorem bgW_4 {i j : Nat} : bgW v g 4 i j = if i = g ∧ j = 1 then 1 else v 4 i j := by
  unfold bgW
  rw [clE_o (by omega), clB_o (by omega), vs_at, if_neg (by omega), vs_at, if_neg (by omega), vs_at, if_neg (by omega), vs_at]
  simp only [true_and]
theorem bgW_1 {i : Nat} : bgW v g 1 i 0 = if i = 2 then nI (g + 1) else if i = 3 then nI g else v 1 i 0 := by
  unfold bgW
  rw [clE_o (by omega), clB_o (by omega), vs_at, if_neg (by omega), vs_at, vs_at, vs_at, if_neg (show ¬ (1 = 4 ∧ i = g ∧ 0 = 1) by omega)]
  simp only [true_and, and_true]
theorem begin_rel (HN : rNum v (u 1) n q T lag) (HB : rBidA v (u 1) n) (HL : rLot v (u 1) q g) (hgq : g < q) :
    rNum (bgW v g) (bgU u g 1) n q T lag ∧ rBidA (bgW v g) (bgU u g 1) n ∧ rLot (bgW v g) (bgU u g 1) q (g + 1) ∧ rMade (bgW v g) (bgU u g 1) 0 ∧ bgW v g 4 g 1 = 1 ∧ rRun (bgW v g) (bgU u g 1) g T n (fun _ _ => 0) ∧ bgW v g 1 2 0 = nI (g + 1) ∧ bgW v g 1 3 0 = nI g ∧ bgU u g 1 7 = nI g := by
  obtain ⟨n1, n2, n3, n4, n5, n6, n7, n8, n9⟩ := HN
  obtain ⟨l1, l2, l3, l4⟩ := HL
  have B : ∀ j, j < 114 → j ≠ 58 + 7 * g + 1 → j ≠ 9 → j ≠ 8 → j ≠ 7 → bgU u g 1 j = u 1 j := fun j h1 h2 h3 h4 h5 => by
    have e : ¬ (114 ≤ j ∧ j < 328) := by omega
    rw [bg_at, if_neg e, if_neg h2, if_neg h3, if_neg h4, if_neg h5]
  have Z : ∀ j, 114 ≤ j → j < 328 → bgU u g 1 j = 0 := fun j h1 h2 => by rw [bg_at, if_pos ⟨h1, h2⟩]
  have V1 : ∀ i, i ≠ 2 → i ≠ 3 → bgW v g 1 i 0 = v 1 i 0 := fun i h2 h3 => by rw [bgW_1, if_neg h2, if_neg h3]
  have gz : ∀ (S : Nat → Nat → Prop) s, gB (fun _ _ => (0 : Int32)) S s → ¬ 0 < s.1 := by
    rintro S s ⟨t, k, _, _, rfl⟩
    exact Int32.lt_irrefl
  refine ⟨⟨n1, n2, n3, n4, ⟨by rw [V1 _ (by omega) (by omega)]; exact n5.1, by rw [B _ (by omega) (by omega) (by omega) (by omega) (by omega)]; exact n5.2⟩, ⟨by rw [V1 _ (by omega) (by omega)]; exact n6.1, by rw [B _ (by omega) (by omega) (by omega) (by omega) (by omega)]; exact n6.2⟩, ⟨by rw [V1 _ (by omega) (by omega)]; exact n7.1, by rw [B _ (by omega) (by omega) (by omega) (by omega) (by omega)]; exact n7.2⟩, by rw [B _ (by omega) (by omega) (by omega) (by omega) (by omega)]; exact n8, fun j hj => by rw [bgW_o (by omega) (by omega) (by omega) (by omega) (by omega), B _ (by omega) (by omega) (by omega) (by omega) (by omega)]; exact n9 j hj⟩, rBidA_congr n1 (fun i j => bgW_o (by omega) (by omega) (by omega) (by omega) (by omega)) (fun j h1 h2 => B _ (by omega) (by omega) (by omega) (by omega) (by omega)) HB, ⟨by omega, fun i hi => ?_, fun i hi => ?_, fun i hi h8 => ?_⟩, ⟨?_, ?_, fun a p h1 => by omega⟩, ?_, ⟨fun _ _ _ => rfl, fun k hk => ?_, fun k hk => ?_, fun a k ha hk => ?_, fun j hj => ?_, ?_, ?_⟩, ?_, ?_, ?_⟩
  · by_cases hig : i = g
    · subst hig
      obtain ⟨x0, x1, x2, x3, x4, x5, x6⟩ := l2 i hi
      obtain ⟨y1, y2, y3, y4, y5, y6⟩ := l4 i (Nat.le_refl i) (by omega)
      have n02 : ¬ (0 : Int32) = 2 := by decide
      have n12 : ¬ (1 : Int32) = 2 := by decide
      rw [y1, if_neg n02] at x5 x6
      have e1 : bgW v i 4 i 1 = 1 := by rw [bgW_4, if_pos ⟨rfl, rfl⟩]
      have f0 : ¬ (i = i ∧ 0 = 1) := by omega
      have f3 : ¬ (i = i ∧ 3 = 1) := by omega
      unfold rLot1
      rw [e1, if_neg n12, if_neg n12, bgW_4, if_neg f0, bgW_4, if_neg f3, bgW_o (by omega) (by omega) (by omega) (by omega) (by omega), bgW_o (by omega) (by omega) (by omega) (by omega) (by omega), B (58 + 7 * i + 0) (by omega) (by omega) (by omega) (by omega) (by omega), B (58 + 7 * i + 2) (by omega) (by omega) (by omega) (by omega) (by omega), B (58 + 7 * i + 3) (by omega) (by omega) (by omega) (by omega) (by omega), B (58 + 7 * i + 4) (by omega) (by omega) (by omega) (by omega) (by omega), B (58 + 7 * i + 5) (by omega) (by omega) (by omega) (by omega) (by omega), B (58 + 7 * i + 6) (by omega) (by omega) (by omega) (by omega) (by omega)]
      refine ⟨x0, ?_, x2, x3, x4, x5, x6⟩
      have e : ¬ (114 ≤ 58 + 7 * i + 1 ∧ 58 + 7 * i + 1 < 328) := by omega
      rw [bg_at, if_neg e, if_pos rfl]
    · exact rLot1_congr (fun j => by rw [bgW_4, if_neg (fun z => hig z.1)]) (fun j => bgW_o (by omega) (by omega) (by omega) (by omega) (by omega)) (fun j hj => B _ (by omega) (by omega) (by omega) (by omega) (by omega)) (l2 i hi)
  · rw [bgW_4]
    by_cases hig : i = g
    · rw [if_pos ⟨hig, rfl⟩]; decide
    · rw [if_neg (fun z => hig z.1)]; exact l3 i (by omega)
  · exact rNew_congr (fun j => by rw [bgW_4, if_neg (by omega)]) (fun j => bgW_o (by omega) (by omega) (by omega) (by omega) (by omega)) (l4 i (by omega) h8)
  · rw [bg_at, if_neg (by omega), if_neg (by omega), if_pos rfl]; rfl
  · unfold bgW
    rw [clE_o (by omega), clB_o (by omega), vs_at, if_pos ⟨rfl, rfl, rfl⟩]; rfl
  · rw [bgW_4, if_pos ⟨rfl, rfl⟩]
  · have e3 : ∀ j, j < 3 → bgW v g 3 k j = if j = 0 then -6 else 0 := fun j hj => by
      unfold bgW
      rw [clE_o (by omega), clB_at _ _ _ _ hj, if_pos hk]
    rw [e3 0 (by omega), e3 1 (by omega), e3 2 (by omega), Z _ (by omega) (by omega), Z _ (by omega) (by omega)]
    exact ⟨mx_zero (gz _), rfl, rfl⟩
  · rw [Z _ (by omega) (by omega), Z _ (by omega) (by omega)]
    exact ⟨mxQ_zero (by simp) (gz _), by decide⟩
  · rw [Z _ (by omega) (by omega)]
    split <;> rfl
  · have e6 : ∀ p, p < 3 → bgW v g 6 ((T + 5 - j) % 6) p = if p = 0 then -6 else 0 := fun p hp => by
      unfold bgW
      rw [clE_at _ _ _ _ hp, if_pos (Nat.mod_lt _ (by decide))]
    rw [e6 0 (by omega), e6 1 (by omega), e6 2 (by omega)]
    exact mx_zero (gz _)
  · obtain ⟨y1, y2, y3, y4, y5, y6⟩ := l4 g (Nat.le_refl g) (by omega)
    show mxP _ _
    rw [bgW_o (by omega) (by omega) (by omega) (by omega) (by omega), bgW_o (by omega) (by omega) (by omega) (by omega) (by omega), bgW_o (by omega) (by omega) (by omega) (by omega) (by omega), y4, y5, y6]
    exact mx_zero (gz _)
  · obtain ⟨y1, y2, y3, y4, y5, y6⟩ := l4 g (Nat.le_refl g) (by omega)
    rw [bg_at, if_neg (by omega), if_neg (by omega), if_neg (by omega), if_pos rfl, bgW_4, if_neg (by omega), y3]
  · rw [bgW_1, if_pos rfl]
  · rw [bgW_1, if_neg (by omega), if_pos rfl]
  · rw [bg_at, if_neg (by omega), if_neg (by omega), if_neg (by omega), if_neg (by omega), if_pos rfl]
end EN
