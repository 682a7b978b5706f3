/-! changes keep the relation -/
section C2
variable {v v' : evVt} {w w' u u' : Nat → Nat → Int32} {G : Nat → Nat → Int32} {L : evLs} {n q T lag g tot l len : Nat}
theorem rnG_congr (h3 : ∀ i j, v' 3 i j = v 3 i j) (h5 : ∀ i j, v' 5 i j = v 5 i j) (h6 : ∀ i j, v' 6 i j = v 6 i j) (h4 : ∀ l j, j = 1 ∨ j = 4 → v' 4 l j = v 4 l j) (h13 : v' 1 3 0 = v 1 3 0) (hr : ∀ j, j = 7 ∨ j = 8 ∨ 114 ≤ j ∧ j < 168 → u' 1 j = u 1 j) (hw : w' 0 8 = w 0 8) (H : rnG v u w n T g L len) : rnG v' u' w' n T g L len := by
  rcases H with h | ⟨l, G, a1, a2, a3, a4, a5, a6, a7⟩
  · exact Or.inl (by rw [hr _ (Or.inl rfl)]; exact h)
  · exact Or.inr ⟨l, G, a1, by rw [h13]; exact a2, by rw [hr _ (Or.inl rfl)]; exact a3, by rw [h4 _ _ (Or.inl rfl)]; exact a4, rRun_congr h3 h5 h6 (h4 _ _ (Or.inr rfl)) (fun j x y => hr _ (Or.inr (Or.inr ⟨x, y⟩))) (hr _ (Or.inr (Or.inl rfl))) a5, a6, by rw [hw, hr _ (Or.inr (Or.inl rfl))]; exact a7⟩
/-- one part of a bidder changes: its plan or what it is told -/
theorem bid_p (P : pRel v u w n q T lag g tot) {b p : Nat} {x : Int32} (hb : b < n) (hp : p = 1 ∨ p = 7) (hv : ∀ a i j, ¬ (a = 2) → v' a i j = v a i j) (hF : rFu v' (ms u 1 (10 + 8 * b + p) x 1) n q T lag g tot) : pRel v' (ms u 1 (10 + 8 * b + p) x) (ms w 1 (8 * b + p) x) n q T lag g tot := by
  obtain ⟨HF, ⟨hn3, hT⟩, HE, HZ, L, len, ⟨h9, hlen, w10⟩, hL, hO, hN, HR⟩ := P
  have eu : ∀ j, j ≠ 10 + 8 * b + p → ms u 1 (10 + 8 * b + p) x 1 j = u 1 j := fun j hj => by rw [ms_at, if_neg (fun z => hj z.2)]
  have ew : ∀ o j, o ≠ 1 → ms w 1 (8 * b + p) x o j = w o j := fun o j ho => by rw [ms_at, if_neg (fun z => ho z.1)]
  refine ⟨hF, ⟨hn3, hT⟩, ⟨fun j hj => ?_, fun i j hi hj => ?_, fun i j hi hj => ?_⟩, ⟨fun j h1 h2 => ?_, fun j h1 h2 => ?_⟩, L, len, ⟨by rw [ew _ _ (by omega)]; exact h9, hlen, by rw [ew _ _ (by omega)]; exact w10⟩, ?_, hO, ntE_congr (fun j hj => eu _ (by omega)) hN, ?_⟩
  · rw [ew _ _ (by omega), eu _ (by omega)]; exact HE.1 j hj
  · rw [ms_at, ms_at]
    by_cases h : 8 * i + j = 8 * b + p
    · rw [if_pos ⟨rfl, h⟩, if_pos ⟨rfl, by omega⟩]
    · rw [if_neg (fun z => h z.2), if_neg (by omega)]; exact HE.2.1 i j hi hj
  · rw [ew _ _ (by omega), eu _ (by omega)]; exact HE.2.2 i j hi hj
  · rw [ms_at, if_neg (by omega)]; exact HZ.1 j h1 h2
  · rw [ew _ _ (by omega)]; exact HZ.2 j h1 h2
  · rw [ms_row0 _ _ _ _ (by omega), ms_row0 _ _ _ _ (by omega)]; exact hL
  · exact rnG_congr (fun i j => hv _ _ _ (by omega)) (fun i j => hv _ _ _ (by omega)) (fun i j => hv _ _ _ (by omega)) (fun l j _ => hv _ _ _ (by omega)) (hv _ _ _ (by omega)) (fun j hj => eu _ (by omega)) (ew _ _ (by omega)) HR
theorem set_p (P : pRel v u w n q T lag g tot) {p : Nat} {x : Int32} (hp : p < 4) {lag' : Nat} (hv : ∀ a i j, ¬ (a = 0) → v' a i j = v a i j) (hF : rFu v' (ms u 1 p x 1) n q T lag' g tot) : pRel v' (ms u 1 p x) (ms w 0 p x) n q T lag' g tot := by
  obtain ⟨HF, ⟨hn3, hT⟩, HE, HZ, L, len, ⟨h9, hlen, w10⟩, hL, hO, hN, HR⟩ := P
  have eu : ∀ j, j ≠ p → ms u 1 p x 1 j = u 1 j := fun j hj => by rw [ms_at, if_neg (fun z => hj z.2)]
  have ew : ∀ o j, ¬ (o = 0 ∧ j = p) → ms w 0 p x o j = w o j := fun o j ho => by rw [ms_at, if_neg ho]
  refine ⟨hF, ⟨hn3, hT⟩, ⟨fun j hj => ?_, fun i j hi hj => ?_, fun i j hi hj => ?_⟩, ⟨fun j h1 h2 => ?_, fun j h1 h2 => ?_⟩, L, len, ⟨by rw [ew _ _ (by omega)]; exact h9, hlen, by rw [ew _ _ (by omega)]; exact w10⟩, ?_, hO, ntE_congr (fun j hj => eu _ (by omega)) hN, ?_⟩
  · rw [ms_at, ms_at]
    by_cases h : j = p
    · rw [if_pos ⟨rfl, h⟩, if_pos ⟨rfl, h⟩]
    · rw [if_neg (fun z => h z.2), if_neg (fun z => h z.2)]; exact HE.1 j hj
  · rw [ew _ _ (by omega), eu _ (by omega)]; exact HE.2.1 i j hi hj
  · rw [ew _ _ (by omega), eu _ (by omega)]; exact HE.2.2 i j hi hj
  · rw [ew _ _ (by omega)]; exact HZ.1 j h1 h2
  · rw [ew _ _ (by omega)]; exact HZ.2 j h1 h2
  · rw [ms_row0 _ _ _ _ (by omega), ms_row0 _ _ _ _ (by omega)]; exact hL
  · exact rnG_congr (fun i j => hv _ _ _ (by omega)) (fun i j => hv _ _ _ (by omega)) (fun i j => hv _ _ _ (by omega)) (fun l j _ => hv _ _ _ (by omega)) (hv _ _ _ (by omega)) (fun j hj => eu _ (by omega)) (ew _ _ (by omega)) HR
/-- a bidder comes -/
def nbW (w : Nat → Nat → Int32) (n : Nat) (x y : Int32) : Nat → Nat → Int32 := ms (ms (ms w 1 (8 * n) x) 1 (8 * n + 1) y) 0 5 (nI (n + 1))
theorem comes_p (P : pRel v u w n q T lag g tot) (hn : n < 3) {x y : Int32} (hv : ∀ a i j, ¬ (a = 2) → ¬ (a = 1 ∧ i = 0) → v' a i j = v a i j) (hF : rFu v' (cmU u n x y 1) (n + 1) q T lag g tot) : pRel v' (cmU u n x y) (nbW w n x y) (n + 1) q T lag g tot := by
  obtain ⟨HF, ⟨hn3, hT⟩, HE, HZ, L, len, ⟨h9, hlen, w10⟩, hL, hO, hN, HR⟩ := P
  have eu : ∀ j, (j < 10 ∨ 58 ≤ j) → j ≠ 5 → cmU u n x y 1 j = u 1 j := fun j hj h5 => by
    rw [cm_at, if_neg h5, if_neg (by omega), if_neg (by omega), if_neg (by omega)]
  have ew : ∀ o j, o ≠ 1 → ¬ (o = 0 ∧ j = 5) → nbW w n x y o j = w o j := fun o j h1 h2 => by
    unfold nbW
    rw [ms_at, if_neg h2, ms_at, if_neg (fun z => h1 z.1), ms_at, if_neg (fun z => h1 z.1)]
  have ew1 : ∀ j, nbW w n x y 1 j = if j = 8 * n + 1 then y else if j = 8 * n then x else w 1 j := fun j => by
    unfold nbW
    rw [ms_at, if_neg (by omega), ms_at, ms_at]
    simp only [true_and]
  have ewr : ∀ o, o ≠ 0 → o ≠ 1 → nbW w n x y o = w o := fun o h0 h1 => funext fun j => ew o j h1 (fun z => h0 z.1)
  refine ⟨hF, ⟨by omega, hT⟩, ⟨fun j hj => ?_, fun i j hi hj => ?_, fun i j hi hj => ?_⟩, ⟨fun j h1 h2 => ?_, fun j h1 h2 => ?_⟩, L, len, ⟨by rw [ew _ _ (by omega) (by omega)]; exact h9, hlen, by rw [ew _ _ (by omega) (by omega)]; exact w10⟩, ?_, hO, ntE_congr (fun j hj => eu _ (by omega) (by omega)) hN, ?_⟩
  · by_cases h5 : j = 5
    · subst h5
      rw [cm_at, if_pos rfl]
      unfold nbW
      rw [ms_at, if_pos ⟨rfl, rfl⟩]
    · rw [ew _ _ (by omega) (by omega), eu _ (by omega) h5]; exact HE.1 j hj
  · rw [ew1, cm_at, if_neg (show ¬ 10 + 8 * i + j = 5 by omega)]
    by_cases hin : i = n
    · subst hin
      by_cases hj1 : j = 1
      · subst hj1
        rw [if_pos rfl, if_pos rfl]
      · rw [if_neg (show ¬ 8 * i + j = 8 * i + 1 by omega), if_neg (show ¬ 10 + 8 * i + j = 10 + 8 * i + 1 by omega)]
        by_cases hj0 : j = 0
        · subst hj0
          rw [if_pos (show 8 * i + 0 = 8 * i by omega), if_pos rfl]
        · rw [if_neg (show ¬ 8 * i + j = 8 * i by omega), if_neg (show ¬ 10 + 8 * i + j = 10 + 8 * i + 0 by omega), if_pos (show 10 + 8 * i ≤ 10 + 8 * i + j ∧ 10 + 8 * i + j < 10 + 8 * i + 8 by omega)]
          exact HZ.1 _ (by omega) (by omega)
    · rw [if_neg (show ¬ 8 * i + j = 8 * n + 1 by omega), if_neg (show ¬ 8 * i + j = 8 * n by omega), if_neg (show ¬ 10 + 8 * i + j = 10 + 8 * n + 1 by omega), if_neg (show ¬ 10 + 8 * i + j = 10 + 8 * n + 0 by omega), if_neg (show ¬ (10 + 8 * n ≤ 10 + 8 * i + j ∧ 10 + 8 * i + j < 10 + 8 * n + 8) by omega)]
      exact HE.2.1 i j (by omega) hj
  · rw [ew _ _ (by omega) (by omega), eu _ (by omega) (by omega)]; exact HE.2.2 i j hi hj
  · rw [ew1, if_neg (by omega), if_neg (by omega)]; exact HZ.1 j (by omega) h2
  · rw [ew _ _ (by omega) (by omega)]; exact HZ.2 j h1 h2
  · rw [ewr _ (by omega) (by omega), ewr _ (by omega) (by omega)]; exact hL
  · have HR' : rnG v u w (n + 1) T g L len := by
      rcases HR with h | ⟨l, G, a1, a2, a3, a4, a5, a6, a7⟩
      · exact Or.inl h
      · refine Or.inr ⟨l, G, a1, a2, a3, a4, ⟨fun t k hk => a5.1 t k (by omega), a5.2⟩, ⟨fun i hi => ?_, fun t k ht hk hg => ?_⟩, a7⟩
        · obtain ⟨b1, b2, b3⟩ := a6.1 i hi
          exact ⟨b1, b2, by omega⟩
        · by_cases hkn : k = n
          · rw [a5.1 t k (by omega)] at hg
            exact absurd hg (Int32.lt_irrefl)
          · exact a6.2 t k ht (by omega) hg
    exact rnG_congr (fun i j => hv _ _ _ (by omega) (by omega)) (fun i j => hv _ _ _ (by omega) (by omega)) (fun i j => hv _ _ _ (by omega) (by omega)) (fun l j _ => hv _ _ _ (by omega) (by omega)) (hv _ _ _ (by omega) (by omega)) (fun j hj => eu _ (by omega) (by omega)) (ew _ _ (by omega) (by omega)) HR'
/-- a lot comes -/
def nlW (w : Nat → Nat → Int32) (q : Nat) (x : Int32) : Nat → Nat → Int32 := ms (ms (ms (ms (ms w 2 (7 * q) x) 2 (7 * q + 2) (-6)) 2 (7 * q + 3) (-6)) 2 (7 * q + 6) (-6)) 0 6 (nI (q + 1))
theorem lot_p (P : pRel v u w n q T lag g tot) (hq : q < 8) {x : Int32} (hv : ∀ a i j, ¬ (a = 4 ∧ j = 0) → ¬ (a = 1 ∧ i = 1) → v' a i j = v a i j) (hF : rFu v' (ltU u q x 1) n (q + 1) T lag g tot) : pRel v' (ltU u q x) (nlW w q x) n (q + 1) T lag g tot := by
  obtain ⟨HF, ⟨hn3, hT⟩, HE, HZ, L, len, ⟨h9, hlen, w10⟩, hL, hO, hN, HR⟩ := P
  have eu : ∀ j, ¬ (58 + 7 * q ≤ j ∧ j < 58 + 7 * q + 7) → j ≠ 6 → ltU u q x 1 j = u 1 j := fun j hj h6 => by
    rw [lt_at, if_neg h6, if_neg (by omega), if_neg (by omega), if_neg (by omega), if_neg (by omega), if_neg (by omega), if_neg (by omega), if_neg (by omega)]
  have ew : ∀ o j, o ≠ 2 → ¬ (o = 0 ∧ j = 6) → nlW w q x o j = w o j := fun o j h1 h2 => by
    unfold nlW
    rw [ms_at, if_neg h2, ms_at, if_neg (fun z => h1 z.1), ms_at, if_neg (fun z => h1 z.1), ms_at, if_neg (fun z => h1 z.1), ms_at, if_neg (fun z => h1 z.1)]
  have ew2 : ∀ j, nlW w q x 2 j = if j = 7 * q + 6 then -6 else if j = 7 * q + 3 then -6 else if j = 7 * q + 2 then -6 else if j = 7 * q then x else w 2 j := fun j => by
    unfold nlW
    rw [ms_at, if_neg (by omega), ms_at, ms_at, ms_at, ms_at]
    simp only [true_and]
  have ewr : ∀ o, o ≠ 0 → o ≠ 2 → nlW w q x o = w o := fun o h0 h1 => funext fun j => ew o j h1 (fun z => h0 z.1)
  have hl : ∀ l, u 1 7 = nI l → l + 1 = g → l < q := fun l _ h => by have := HF.1.1.2.2.1.1; omega
  refine ⟨hF, ⟨hn3, hT⟩, ⟨fun j hj => ?_, fun i j hi hj => ?_, fun i j hi hj => ?_⟩, ⟨fun j h1 h2 => ?_, fun j h1 h2 => ?_⟩, L, len, ⟨by rw [ew _ _ (by omega) (by omega)]; exact h9, hlen, by rw [ew _ _ (by omega) (by omega)]; exact w10⟩, ?_, hO, ntE_congr (fun j hj => eu _ (by omega) (by omega)) hN, ?_⟩
  · by_cases h6 : j = 6
    · subst h6
      rw [lt_at, if_pos rfl]
      unfold nlW
      rw [ms_at, if_pos ⟨rfl, rfl⟩]
    · rw [ew _ _ (by omega) (by omega), eu _ (by omega) h6]; exact HE.1 j hj
  · rw [ew _ _ (by omega) (by omega), eu _ (by omega) (by omega)]; exact HE.2.1 i j hi hj
  · rw [ew2]
    by_cases hiq : i = q
    · subst hiq
      rw [lt_at, if_neg (show ¬ 58 + 7 * i + j = 6 by omega)]
      have z := fun h => HZ.2 (7 * i + j) (by omega) h
      rcases (show j = 0 ∨ j = 1 ∨ j = 2 ∨ j = 3 ∨ j = 4 ∨ j = 5 ∨ j = 6 by omega) with rfl | rfl | rfl | rfl | rfl | rfl | rfl
      · rw [if_neg (show ¬ 7 * i + 0 = 7 * i + 6 by omega), if_neg (show ¬ 7 * i + 0 = 7 * i + 3 by omega), if_neg (show ¬ 7 * i + 0 = 7 * i + 2 by omega), if_pos (show 7 * i + 0 = 7 * i by omega), if_neg (by omega), if_neg (by omega), if_neg (by omega), if_neg (by omega), if_neg (by omega), if_neg (by omega), if_pos rfl]
      · rw [if_neg (show ¬ 7 * i + 1 = 7 * i + 6 by omega), if_neg (show ¬ 7 * i + 1 = 7 * i + 3 by omega), if_neg (show ¬ 7 * i + 1 = 7 * i + 2 by omega), if_neg (show ¬ 7 * i + 1 = 7 * i by omega), if_neg (by omega), if_neg (by omega), if_neg (by omega), if_neg (by omega), if_neg (by omega), if_pos rfl]
        exact z (by omega)
      · rw [if_neg (show ¬ 7 * i + 2 = 7 * i + 6 by omega), if_neg (show ¬ 7 * i + 2 = 7 * i + 3 by omega), if_pos rfl, if_neg (by omega), if_neg (by omega), if_neg (by omega), if_neg (by omega), if_pos rfl]
      · rw [if_neg (show ¬ 7 * i + 3 = 7 * i + 6 by omega), if_pos rfl, if_neg (by omega), if_neg (by omega), if_neg (by omega), if_pos rfl]
      · rw [if_neg (show ¬ 7 * i + 4 = 7 * i + 6 by omega), if_neg (show ¬ 7 * i + 4 = 7 * i + 3 by omega), if_neg (show ¬ 7 * i + 4 = 7 * i + 2 by omega), if_neg (show ¬ 7 * i + 4 = 7 * i by omega), if_neg (by omega), if_neg (by omega), if_pos rfl]
        exact z (by omega)
      · rw [if_neg (show ¬ 7 * i + 5 = 7 * i + 6 by omega), if_neg (show ¬ 7 * i + 5 = 7 * i + 3 by omega), if_neg (show ¬ 7 * i + 5 = 7 * i + 2 by omega), if_neg (show ¬ 7 * i + 5 = 7 * i by omega), if_neg (by omega), if_pos rfl]
        exact z (by omega)
      · rw [if_pos rfl, if_pos rfl]
    · rw [if_neg (show ¬ 7 * i + j = 7 * q + 6 by omega), if_neg (show ¬ 7 * i + j = 7 * q + 3 by omega), if_neg (show ¬ 7 * i + j = 7 * q + 2 by omega), if_neg (show ¬ 7 * i + j = 7 * q by omega), eu _ (by omega) (by omega)]
      exact HE.2.2 i j (by omega) hj
  · rw [ew _ _ (by omega) (by omega)]; exact HZ.1 j h1 h2
  · rw [ew2, if_neg (by omega), if_neg (by omega), if_neg (by omega), if_neg (by omega)]; exact HZ.2 j (by omega) h2
  · rw [ewr _ (by omega) (by omega), ewr _ (by omega) (by omega)]; exact hL
  · exact rnG_congr (fun i j => hv _ _ _ (by omega) (by omega)) (fun i j => hv _ _ _ (by omega) (by omega)) (fun i j => hv _ _ _ (by omega) (by omega)) (fun l j hj => hv _ _ _ (by omega) (by omega)) (hv _ _ _ (by omega) (by omega)) (fun j hj => eu _ (by omega) (by omega)) (ew _ _ (by omega) (by omega)) HR
end C2
