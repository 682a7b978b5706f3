/-! while a lot runs: what is kept, as the greatest of its bids -/
def rG (G : Nat → Nat → Int32) (n : Nat) : Prop := ∀ t k, n ≤ k → G t k = 0
def rBest (v : evVt) (r : Nat → Int32) (G : Nat → Nat → Int32) (S : Nat → Nat → Prop) : Prop := ∀ k, k < 6 → mxP (gB G (fun t k' => S t k' ∧ k' = k)) (v 3 k 1, v 3 k 2, v 3 k 0) ∧ r (114 + 2 * k) = v 3 k 1 ∧ r (114 + 2 * k + 1) = v 3 k 2
def rOld (r : Nat → Int32) (G : Nat → Nat → Int32) (T : Nat) : Prop := ∀ k, k < 6 → mxQ (gB G (fun t k' => t + 5 < T ∧ k' = k)) (r (126 + 2 * k), r (126 + 2 * k + 1), nI k) ∧ ¬ r (126 + 2 * k) < 0
def rRec (r : Nat → Int32) (G : Nat → Nat → Int32) (T : Nat) : Prop := ∀ a k, a < 5 → k < 6 → r (138 + 6 * a + k) = if a + 1 ≤ T then G (T - (a + 1)) k else 0
def rEcho (v : evVt) (G : Nat → Nat → Int32) (T : Nat) : Prop := ∀ j, j < 6 → mxP (gB G (fun t _ => t + j < T)) (v 6 ((T + 5 - j) % 6) 1, v 6 ((T + 5 - j) % 6) 2, v 6 ((T + 5 - j) % 6) 0)
def rHigh (v : evVt) (l : Nat) (G : Nat → Nat → Int32) (T : Nat) : Prop := mxP (gB G (fun t _ => t < T)) (v 5 l 1, v 5 l 2, v 5 l 0)
theorem fmod_back {T lag : Nat} (hl : lag ≤ 5) (hT : T < 2 ^ 30) : fmod (nI T - 1 - nI lag) 6 = nI ((T + 5 - lag) % 6) := by
  by_cases h : lag + 1 ≤ T
  · rw [show (1 : Int32) = nI 1 from rfl, pk_sub (by omega), pk_sub (by omega), show (6 : Int32) = nI 6 from rfl, fmod_nI (by omega) (by omega) (by omega)]
    congr 1
    omega
  · have key : ∀ T < 6, ∀ lag < 6, fmod (nI T - 1 - nI lag) 6 = nI ((T + 5 - lag) % 6) ∨ lag + 1 ≤ T := by decide
    rcases key T (by omega) lag (by omega) with e | e
    · exact e
    · exact absurd e h
theorem mxQ_one (G : Nat → Nat → Int32) (t k : Nat) (hk : k < 6) : mxQ (gB G (fun t' k' => t' = t ∧ k' = k)) (G t k, nI t, nI k) := by
  refine ⟨fun _ => ⟨⟨t, k, ⟨rfl, rfl⟩, hk, rfl⟩, ?_⟩, ?_⟩
  · rintro s ⟨t', k', ⟨rfl, rfl⟩, -, rfl⟩ h0 hc
    rw [ab_int] at hc
    simp only [] at hc
    omega
  · rintro h0 s ⟨t', k', ⟨rfl, rfl⟩, -, rfl⟩
    exact h0
theorem gB_or {G : Nat → Nat → Int32} {S S' : Nat → Nat → Prop} (s : evT) : (gB G S s ∨ gB G S' s) ↔ gB G (fun t k => S t k ∨ S' t k) s := by
  constructor
  · rintro (⟨t, k, h1, h2, h3⟩ | ⟨t, k, h1, h2, h3⟩)
    · exact ⟨t, k, Or.inl h1, h2, h3⟩
    · exact ⟨t, k, Or.inr h1, h2, h3⟩
  · rintro ⟨t, k, h1 | h1, h2, h3⟩
    · exact Or.inl ⟨t, k, h1, h2, h3⟩
    · exact Or.inr ⟨t, k, h1, h2, h3⟩
theorem gB_mono {G : Nat → Nat → Int32} {S S' : Nat → Nat → Prop} {s : evT} (h : ∀ t k, S t k → S' t k) (q : gB G S s) : gB G S' s := by
  obtain ⟨t, k, h1, h2, h3⟩ := q
  exact ⟨t, k, h t k h1, h2, h3⟩
theorem gB_iff {G : Nat → Nat → Int32} {S S' : Nat → Nat → Prop} {s : evT} (h : ∀ t k, k < 6 → 0 < G t k → (S t k ↔ S' t k)) (h0 : 0 < s.1) : gB G S s ↔ gB G S' s := by
  constructor
  · rintro ⟨t, k, h1, h2, rfl⟩
    exact ⟨t, k, (h t k h2 h0).mp h1, h2, rfl⟩
  · rintro ⟨t, k, h1, h2, rfl⟩
    exact ⟨t, k, (h t k h2 h0).mpr h1, h2, rfl⟩
theorem ages_mx {r : Nat → Int32} {G : Nat → Nat → Int32} {T lag k : Nat} {P : evT → Prop} {t : evT} (hl : lag ≤ 5) (hk : k < 6) (r4 : r 4 = nI T) (ho : rOld r G T) (hr : rRec r G T) (h : mxP P t) : mxP (fun s => P s ∨ gB G (fun t k' => t + lag < T ∧ k' = k) s) (agesT r k lag (hearT t (r (126 + 2 * k)) (r (126 + 2 * k + 1)) (nI k)) (5 - lag)) := by
  have step : ∀ i, i ≤ 5 - lag → mxP (fun s => P s ∨ gB G (fun t k' => (t + 5 < T ∨ t + lag < T ∧ T ≤ t + lag + i) ∧ k' = k) s) (agesT r k lag (hearT t (r (126 + 2 * k)) (r (126 + 2 * k + 1)) (nI k)) i) := by
    intro i
    induction i with
    | zero =>
      intro _
      refine mx_congr (fun s h0 => ?_) (mx_hear h (ho k hk).1)
      refine or_congr Iff.rfl (gB_iff (fun t' k' _ _ => ?_) h0)
      constructor
      · rintro ⟨a, b⟩; exact ⟨Or.inl a, b⟩
      · rintro ⟨a | a, b⟩
        · exact ⟨a, b⟩
        · omega
    | succ i ih =>
      intro hi
      have H := ih (by omega)
      show mxP _ (hearT (agesT r k lag _ i) (r (138 + 6 * (lag + i) + k)) (r 4 - nI (lag + 1 + i)) (nI k))
      have hx := hr (lag + i) k (by omega) hk
      by_cases hT : lag + i + 1 ≤ T
      · rw [if_pos hT] at hx
        have e : r 4 - nI (lag + 1 + i) = nI (T - (lag + i + 1)) := by
          rw [r4, pk_sub (by omega)]
          congr 1
          omega
        rw [hx, e]
        refine mx_congr (fun s h0 => ?_) (mx_hear H (mxQ_one G (T - (lag + i + 1)) k hk))
        rw [or_assoc, gB_or]
        refine or_congr Iff.rfl (gB_iff (fun t' k' _ _ => ?_) h0)
        constructor
        · rintro (⟨a, b⟩ | ⟨a, b⟩)
          · exact ⟨by omega, b⟩
          · exact ⟨by omega, b⟩
        · rintro ⟨a, b⟩
          by_cases hc : t' = T - (lag + i + 1)
          · exact Or.inr ⟨hc, b⟩
          · exact Or.inl ⟨by omega, b⟩
      · rw [if_neg hT] at hx
        rw [hx]
        have e : hearT (agesT r k lag (hearT t (r (126 + 2 * k)) (r (126 + 2 * k + 1)) (nI k)) i) 0 (r 4 - nI (lag + 1 + i)) (nI k) = agesT r k lag (hearT t (r (126 + 2 * k)) (r (126 + 2 * k + 1)) (nI k)) i := by
          unfold hearT
          rw [if_neg (fun z => absurd z.1 (by decide))]
        rw [e]
        refine mx_congr (fun s h0 => or_congr Iff.rfl (gB_iff (fun t' k' _ _ => ?_) h0)) H
        constructor
        · rintro ⟨a, b⟩; exact ⟨by omega, b⟩
        · rintro ⟨a, b⟩; exact ⟨by omega, b⟩
  refine mx_congr (fun s h0 => or_congr Iff.rfl (gB_iff (fun t' k' _ _ => ?_) h0)) (step (5 - lag) (Nat.le_refl _))
  constructor
  · rintro ⟨a, b⟩; exact ⟨by omega, b⟩
  · rintro ⟨a, b⟩; exact ⟨by omega, b⟩
theorem all_mx {v : evVt} {r : Nat → Int32} {G : Nat → Nat → Int32} {T lag n b : Nat} (hn : n ≤ 6) (hb : b < n) (hl : lag ≤ 5) (r4 : r 4 = nI T) (hB : rBest v r G (fun t _ => t < T)) (ho : rOld r G T) (hr : rRec r G T) (k : Nat) (hk : k ≤ n) : mxP (gB G (fun t k' => t < T ∧ k' = b ∨ t + lag < T ∧ k' < k ∧ k' ≠ b)) (allT r lag b k) := by
  induction k with
  | zero =>
    obtain ⟨h1, h2, h3⟩ := hB b (by omega)
    show mxP _ (hearT (0, 0, -6) (r (114 + 2 * b)) (r (114 + 2 * b + 1)) (nI b))
    rw [h2, h3]
    have hq : mxQ (gB G (fun t k' => t < T ∧ k' = b)) (v 3 b 1, v 3 b 2, nI b) := by
      refine mxQ_of h1.1 (fun h0 => ?_)
      obtain ⟨⟨t, k', ⟨_, rfl⟩, _, e⟩, -⟩ := h1.1.1 h0
      have := congrArg (fun z : evT => z.2.2) e
      exact this.symm
    refine mx_congr (fun s h0 => ?_) (mx_hear (mx_zero (P := fun _ => False) (fun _ z => z.elim)) hq)
    rw [false_or]
    refine gB_iff (fun t' k' _ _ => ?_) h0
    constructor
    · intro z; exact Or.inl z
    · rintro (z | z)
      · exact z
      · omega
  | succ k ih =>
    have H := ih (by omega)
    show mxP _ (oneT r k lag b (allT r lag b k))
    unfold oneT
    by_cases hkb : k = b
    · rw [if_pos hkb]
      refine mx_congr (fun s h0 => gB_iff (fun t' k' _ _ => ?_) h0) H
      constructor
      · rintro (z | z)
        · exact Or.inl z
        · exact Or.inr (by omega)
      · rintro (z | z)
        · exact Or.inl z
        · exact Or.inr (by omega)
    · rw [if_neg hkb]
      refine mx_congr (fun s h0 => ?_) (ages_mx hl (by omega) r4 ho hr H)
      rw [gB_or]
      refine gB_iff (fun t' k' _ _ => ?_) h0
      constructor
      · rintro ((z | z) | z)
        · exact Or.inl z
        · exact Or.inr (by omega)
        · exact Or.inr (by omega)
      · rintro (z | z)
        · exact Or.inl (Or.inl z)
        · by_cases hc : k' = k
          · exact Or.inr (by omega)
          · exact Or.inl (Or.inr (by omega))
theorem hrd_eq {v : evVt} {T lag : Nat} (hl : lag ≤ 5) (hT : T < 2 ^ 30) (v4 : v 1 4 0 = nI T) (s0 : setAt v 0 = nI lag) : hrd v = nI ((T + 5 - lag) % 6) := by
  unfold hrd
  rw [v4, s0]
  exact fmod_back hl hT
/-- both believe the same -/
theorem bel_eq {v : evVt} {r : Nat → Int32} {G : Nat → Nat → Int32} {T lag n b : Nat} (hn : n ≤ 6) (hb : b < n) (hl : lag ≤ 5) (hT : T < 2 ^ 30) (v4 : v 1 4 0 = nI T) (s0 : setAt v 0 = nI lag) (r4 : r 4 = nI T) (hG : rG G n) (hB : rBest v r G (fun t _ => t < T)) (ho : rOld r G T) (hr : rRec r G T) (he : rEcho v G T) : allT r lag b n = (blP v b 1, blP v b 2, blP v b 0) := by
  have A := all_mx hn hb hl r4 hB ho hr n (Nat.le_refl _)
  have C := mx_max (hB b (by omega)).1 (he lag (by omega))
  have e : (if abv (v 6 ((T + 5 - lag) % 6) 0) (v 6 ((T + 5 - lag) % 6) 1) (v 6 ((T + 5 - lag) % 6) 2) (v 3 b 0) (v 3 b 1) (v 3 b 2) = true then ((v 6 ((T + 5 - lag) % 6) 1, v 6 ((T + 5 - lag) % 6) 2, v 6 ((T + 5 - lag) % 6) 0) : evT) else (v 3 b 1, v 3 b 2, v 3 b 0)) = (blP v b 1, blP v b 2, blP v b 0) := by
    have hm : (T + 5 - lag) % 6 < 6 := Nat.mod_lt _ (by decide)
    have h0 : (0 : Int32) ≤ nI ((T + 5 - lag) % 6) := nI_pos' (by omega)
    have h6 : nI ((T + 5 - lag) % 6) < 6 := nI_lt (b := 6) hm (by decide)
    have hc : (nI ((T + 5 - lag) % 6)).toNatClampNeg = (T + 5 - lag) % 6 := nI_cl _ (by omega)
    unfold blP blC
    rw [hrd_eq hl hT v4 s0, hc]
    simp only [h0, h6, decide_true, Bool.true_and]
    split <;> rfl
  rw [e] at C
  refine mx_uniq A (mx_congr (fun s h0 => ?_) C)
  rw [gB_or]
  refine gB_iff (fun t' k' h6 hp => ?_) h0
  have hkn : k' < n := by
    rcases Nat.lt_or_ge k' n with z | z
    · exact z
    · rw [hG t' k' z] at hp
      exact absurd hp (by decide)
  constructor
  · rintro (⟨a, b'⟩ | a)
    · exact Or.inl ⟨a, b'⟩
    · by_cases hc : k' = b
      · exact Or.inl ⟨by omega, hc⟩
      · exact Or.inr ⟨a, hkn, hc⟩
  · rintro (⟨a, b'⟩ | ⟨a, _, _⟩)
    · exact Or.inl ⟨a, b'⟩
    · exact Or.inr a
