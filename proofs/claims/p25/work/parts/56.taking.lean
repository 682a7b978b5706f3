/-! a round's bids, taken by both -/
def bp (j : Nat) : Nat := if j < 2 then j else if j = 7 then 2 else j + 1
def rMade (w : evVt) (r : Nat → Int32) (t : Nat) : Prop := r 9 = nI (if t < 40 then t else 40) ∧ w 7 0 0 = nI t ∧ ∀ a p, a < t → a < 40 → p < 4 → r (168 + 4 * a + p) = w 8 (4 * ((t - 1 - a) % 40) + p) 0
def rBid (w : evVt) (r : Nat → Int32) (n : Nat) : Prop := ∀ i j, i < n → j < 7 → r (10 + 8 * i + j) = w 2 i (bp j)
def rHi (r : Nat → Int32) (l : Nat) (P : evT → Prop) : Prop := ∃ R, mxP P (r (58 + 7 * l + 5), R, r (58 + 7 * l + 6))
def gN (G : Nat → Nat → Int32) (T n : Nat) (B : Nat → Int32) : Nat → Nat → Int32 := fun t k => if t = T then (if k < n then B k else 0) else G t k
theorem gN_T {G : Nat → Nat → Int32} {T n k : Nat} {B : Nat → Int32} (hk : k < n) : gN G T n B T k = B k := by
  unfold gN
  rw [if_pos rfl, if_pos hk]
theorem gN_o {G : Nat → Nat → Int32} {T n t k : Nat} {B : Nat → Int32} (ht : t ≠ T) : gN G T n B t k = G t k := by
  unfold gN
  rw [if_neg ht]
theorem gB_gN {G : Nat → Nat → Int32} {T n : Nat} {B : Nat → Int32} {S : Nat → Nat → Prop} (h : ∀ t k, S t k → t ≠ T) (s : evT) : gB G S s ↔ gB (gN G T n B) S s := by
  constructor
  · rintro ⟨t, k, h1, h2, rfl⟩
    exact ⟨t, k, h1, h2, by rw [gN_o (h t k h1)]⟩
  · rintro ⟨t, k, h1, h2, rfl⟩
    exact ⟨t, k, h1, h2, by rw [gN_o (h t k h1)]⟩
section NT
variable (w : evVt) (k : Nat) (x z : Int32) (t : Nat)
theorem note_2 (num : Int32) (i p : Nat) : noteV w k num x z t 2 i p = if i = k ∧ p = 7 then w 2 k 7 + z else if i = k ∧ p = 6 then w 2 k 6 + 1 else w 2 i p := by
  unfold noteV
  by_cases h : w 3 k 1 < x
  · simp [vs_at, h]
  · simp [vs_at, h]
theorem note_3 (num : Int32) (i p : Nat) : noteV w k num x z t 3 i p = if i = k ∧ w 3 k 1 < x then (if p = 2 then w 1 4 0 else if p = 1 then x else if p = 0 then num else w 3 i p) else w 3 i p := by
  unfold noteV
  by_cases h : w 3 k 1 < x
  · by_cases hi : i = k
    · simp [vs_at, h, hi]
    · simp [vs_at, h, hi]
  · simp [vs_at, h]
theorem note_8 (num : Int32) (c : Nat) : noteV w k num x z t 8 c 0 = if c = 4 * (t % 40) + 3 then z else if c = 4 * (t % 40) + 2 then w 1 4 0 else if c = 4 * (t % 40) + 1 then x else if c = 4 * (t % 40) then num else w 8 c 0 := by
  unfold noteV
  by_cases h : w 3 k 1 < x
  · simp [vs_at, h]
  · simp [vs_at, h]
end NT
theorem tkV_k {v : evVt} {q k a i j : Nat} {bf : Int32} (hi : k ≤ i) (h : a = 2 ∨ a = 3) : (tkV q bf v k).1 a i j = v a i j := by
  induction k with
  | zero => rfl
  | succ k ih =>
    rw [tkV_s]
    split
    · rcases h with rfl | rfl
      · refine (note_2 (vs (tkV q bf v k).1 2 k 2 0) k (bidC q k (tkV q bf v k).1) (if bf < bidC q k (tkV q bf v k).1 then 0 else 1) ((tkV q bf v k).1 7 0 0).toNatClampNeg (nI k) i j).trans ?_
        rw [if_neg (by omega), if_neg (by omega), vs_at, if_neg (by omega), ih (by omega)]
      · refine (note_3 (vs (tkV q bf v k).1 2 k 2 0) k (bidC q k (tkV q bf v k).1) (if bf < bidC q k (tkV q bf v k).1 then 0 else 1) ((tkV q bf v k).1 7 0 0).toNatClampNeg (nI k) i j).trans ?_
        rw [if_neg (by omega), vs_at, if_neg (by omega), ih (by omega)]
    · show vs _ 2 k 2 0 a i j = _
      rw [vs_at, if_neg (by omega), ih (by omega)]
theorem bidC_k {v : evVt} {q k : Nat} {bf : Int32} : bidC q k (tkV q bf v k).1 = bidC q k v := by
  have o : ∀ a i j, a ≠ 2 → a ≠ 3 → a ≠ 7 → a ≠ 8 → (tkV q bf v k).1 a i j = v a i j := fun a i j h2 h3 h7 h8 => tkV_o h2 h3 h7 h8
  have c : ∀ a j, a = 2 ∨ a = 3 → (tkV q bf v k).1 a k j = v a k j := fun a j h => tkV_k (Nat.le_refl k) h
  have s : ∀ x, setAt (tkV q bf v k).1 x = setAt v x := fun x => by
    unfold setAt
    split
    · exact o _ _ _ (by omega) (by omega) (by omega) (by omega)
    · rfl
  have hd : hrd (tkV q bf v k).1 = hrd v := by
    unfold hrd
    rw [s, o 1 4 0 (by omega) (by omega) (by omega) (by omega)]
  have bc : blC (tkV q bf v k).1 k = blC v k := by
    unfold blC
    rw [hd, o 6 _ 0 (by omega) (by omega) (by omega) (by omega), o 6 _ 1 (by omega) (by omega) (by omega) (by omega), o 6 _ 2 (by omega) (by omega) (by omega) (by omega), c 3 0 (Or.inr rfl), c 3 1 (Or.inr rfl), c 3 2 (Or.inr rfl)]
  have bpq : ∀ p, blP (tkV q bf v k).1 k p = blP v k p := fun p => by
    unfold blP
    rw [bc, hd, o 6 _ p (by omega) (by omega) (by omega) (by omega), c 3 p (Or.inr rfl)]
  unfold bidC chB
  rw [bpq, bpq, s, c 2 2 (Or.inl rfl), c 2 0 (Or.inl rfl), c 2 1 (Or.inl rfl), o 4 q 0 (by omega) (by omega) (by omega) (by omega)]
theorem sh_eq (bf x : Int32) : (if bf < x then (0 : Int32) else 1) = shB x bf := by
  unfold shB
  by_cases h : bf < x
  · rw [if_pos h, if_neg (fun z => i32_ff z h)]
  · rw [if_neg h, if_pos (Int32.not_lt.mp h)]
theorem nI_min {t : Nat} (ht : t < 2 ^ 30) : nI (if t < 40 then t else 40) + (if nI (if t < 40 then t else 40) < 40 then 1 else 0) = nI (if t + 1 < 40 then t + 1 else 40) := by
  by_cases h : t < 40
  · rw [if_pos h, if_pos (show nI t < 40 from nI_lt (b := 40) h (by decide))]
    rw [show nI t + 1 = nI (t + 1) from (nI_succ t).symm]
    by_cases h2 : t + 1 < 40
    · rw [if_pos h2]
    · rw [if_neg h2, show t + 1 = 40 by omega]
  · rw [if_neg h, if_neg (show ¬ nI 40 < 40 by decide), if_neg (by omega)]
    rfl
section TK
variable {w : evVt} {u : Nat → Nat → Int32} {G : Nat → Nat → Int32} {T n l k tot : Nat} {x sh : Int32}
/-- a bid that is made: the bidders' parts -/
theorem tk_bid (hk : k < n) (hn : n ≤ 6) (hl : l < 8) (h : rBid w (u 1) n) : rBid (noteV (vs w 2 k 2 0) k (nI k) x sh tot) (nbU u l k x sh 1) n := by
  intro i j hi hj
  rw [note_2]
  by_cases h1 : i = k ∧ j = 6
  · obtain ⟨rfl, rfl⟩ := h1
    rw [if_pos ⟨rfl, rfl⟩, nb_6 _ _ _ (by omega) hl, h i 6 hi (by omega), vs_at, if_neg (by omega)]
    rfl
  · by_cases h2 : i = k ∧ j = 5
    · obtain ⟨rfl, rfl⟩ := h2
      rw [if_neg (fun z => absurd z.2 (show ¬ bp 5 = 7 by decide)), if_pos ⟨rfl, rfl⟩, nb_5 _ _ _ (by omega) hl, h i 5 hi (by omega), vs_at, if_neg (by omega)]
      rfl
    · have e : bp j ≠ 2 ∧ (bp j = 7 → j = 6) ∧ (bp j = 6 → j = 5) := by
        unfold bp
        split
        · omega
        · rw [if_neg (by omega)]
          omega
      rw [if_neg (fun z => h1 ⟨z.1, e.2.1 z.2⟩), if_neg (fun z => h2 ⟨z.1, e.2.2 z.2⟩), vs_at, if_neg (fun z => e.1 z.2.2), ← h i j hi hj]
      exact nb_o _ _ _ (by omega) hl (by omega) (by omega) (by omega) (by omega) (by omega) (by omega) (by omega) (by omega)
/-- the notes -/
theorem tk_made (hk : k < 6) (hl : l < 8) (ht : tot < 2 ^ 30) (h4 : u 1 4 = w 1 4 0) (hs : sh = 0 ∨ sh = 1) (h : rMade w (u 1) tot) : rMade (noteV (vs w 2 k 2 0) k (nI k) x sh tot) (nbU u l k x sh 1) (tot + 1) := by
  obtain ⟨h1, h2, h3⟩ := h
  obtain ⟨m9, m0, m1, m2, m3, mr⟩ := nb_m u (l := l) x sh hk hl
  refine ⟨?_, noteV_7, fun a p ha ha40 hp => ?_⟩
  · rw [m9, h1, nI_min ht]
  · have hss : (if sh = 0 then (0 : Int32) else 1) = sh := by rcases hs with rfl | rfl <;> rfl
    rw [note_8]
    cases a with
    | zero =>
      have e : 4 * ((tot + 1 - 1 - 0) % 40) + p = 4 * (tot % 40) + p := by rw [show tot + 1 - 1 - 0 = tot by omega]
      rw [e]
      rcases (show p = 0 ∨ p = 1 ∨ p = 2 ∨ p = 3 by omega) with rfl | rfl | rfl | rfl
      · rw [if_neg (by omega), if_neg (by omega), if_neg (by omega), if_pos (by omega)]; exact m0
      · rw [if_neg (by omega), if_neg (by omega), if_pos rfl]; exact m1
      · rw [if_neg (by omega), if_pos rfl, vs_at, if_neg (by omega), ← h4]; exact m2
      · rw [if_pos rfl]; exact m3.trans hss
    | succ a =>
      have e : tot + 1 - 1 - (a + 1) = tot - 1 - a := by omega
      rw [e, if_neg (by omega), if_neg (by omega), if_neg (by omega), if_neg (by omega), vs_at, if_neg (by omega), ← h3 a p (by omega) (by omega) hp, mr _ (by omega) (by omega)]
      congr 1
      omega
theorem tk_best (hk : k < n) (hn : n ≤ 6) (hl : l < 8) (hT : T < 2 ^ 30) (h4 : u 1 4 = nI T) (w4 : w 1 4 0 = nI T) (hx : G T k = x) (h : rBest w (u 1) G (fun t i => t < T ∨ t = T ∧ i < k)) : rBest (noteV (vs w 2 k 2 0) k (nI k) x sh tot) (nbU u l k x sh 1) G (fun t i => t < T ∨ t = T ∧ i < k + 1) := by
  intro i hi
  obtain ⟨a1, a2, a3⟩ := h i hi
  have e3 : ∀ p, vs w 2 k 2 0 3 i p = w 3 i p := fun p => by rw [vs_at, if_neg (by omega)]
  have e3k : ∀ p, vs w 2 k 2 0 3 k p = w 3 k p := fun p => by rw [vs_at, if_neg (by omega)]
  have e14 : vs w 2 k 2 0 1 4 0 = w 1 4 0 := by rw [vs_at, if_neg (by omega)]
  rw [note_3, note_3, note_3, e3, e3, e3, e3k, e14]
  by_cases hik : i = k
  · subst hik
    obtain ⟨b1, b2⟩ := nb_b u (l := l) x sh (k := i) hi hl
    rw [b1, b2, a2, a3, h4, w4]
    have M := mx_new (x := x) (r := nI T) (b := nI i) a1 (by
      rintro s ⟨t, k', ⟨hs, rfl⟩, hk6, rfl⟩ -
      rintro (hc | ⟨hc, hd⟩)
      · exact absurd hc (nI_nlt (by omega) (by omega))
      · exact absurd hd (nI_nlt (by omega) (by omega)))
    have eP : mxP (gB G (fun t k' => (t < T ∨ t = T ∧ k' < i + 1) ∧ k' = i)) (if w 3 i 1 < x then (x, nI T, nI i) else (w 3 i 1, w 3 i 2, w 3 i 0)) := by
      refine mx_congr (fun s h0 => ?_) M
      constructor
      · rintro (⟨t, k', ⟨hs, rfl⟩, hk6, rfl⟩ | rfl)
        · exact ⟨t, k', ⟨by omega, rfl⟩, hk6, rfl⟩
        · exact ⟨T, i, ⟨by omega, rfl⟩, hi, by rw [hx]⟩
      · rintro ⟨t, k', ⟨hs, rfl⟩, hk6, rfl⟩
        by_cases ht : t = T
        · right; rw [ht, hx]
        · left; exact ⟨t, k', ⟨by omega, rfl⟩, hk6, rfl⟩
    by_cases hc : w 3 i 1 < x
    · rw [if_pos hc] at eP
      simp only [hc, and_self, if_true, show ¬ (1 : Nat) = 2 by decide, show ¬ (0 : Nat) = 2 by decide, show ¬ (0 : Nat) = 1 by decide, if_false, and_true]
      exact eP
    · rw [if_neg hc] at eP
      simp only [hc, and_false, if_false, and_self, and_true]
      exact eP
  · simp only [hik, false_and, if_false]
    refine ⟨mx_congr (fun s h0 => gB_iff (fun t k' _ _ => ?_) h0) a1, ?_, ?_⟩
    · constructor
      · rintro ⟨a, b⟩; exact ⟨by omega, b⟩
      · rintro ⟨a, b⟩; exact ⟨by omega, b⟩
    · rw [nb_o _ _ _ (by omega) hl (by omega) (by omega) (by omega) (by omega) (by omega) (by omega) (by omega) (by omega), a2]
    · rw [nb_o _ _ _ (by omega) hl (by omega) (by omega) (by omega) (by omega) (by omega) (by omega) (by omega) (by omega), a3]
theorem tk_hi (hk : k < 6) (hl : l < 8) (hT : T < 2 ^ 30) (hx : G T k = x) (h : rHi (u 1) l (gB G (fun t i => t < T ∨ t = T ∧ i < k))) : rHi (nbU u l k x sh 1) l (gB G (fun t i => t < T ∨ t = T ∧ i < k + 1)) := by
  obtain ⟨R, h⟩ := h
  obtain ⟨b1, b2⟩ := nb_h u (k := k) x sh hk hl
  have M := mx_new (x := x) (r := nI T) (b := nI k) h (by
    rintro s ⟨t, k', hs, hk6, rfl⟩ -
    rintro (hc | ⟨hc, hd⟩)
    · exact absurd hc (nI_nlt (by omega) (by omega))
    · have := (nI_eq (by omega) (by omega)).mp hc
      exact absurd hd (nI_nlt (by omega) (by omega)))
  have eP : mxP (gB G (fun t k' => (t < T ∨ t = T ∧ k' < k + 1))) (if u 1 (58 + 7 * l + 5) < x then (x, nI T, nI k) else (u 1 (58 + 7 * l + 5), R, u 1 (58 + 7 * l + 6))) := by
    refine mx_congr (fun s h0 => ?_) M
    constructor
    · rintro (⟨t, k', hs, hk6, rfl⟩ | rfl)
      · exact ⟨t, k', by omega, hk6, rfl⟩
      · exact ⟨T, k, by omega, hk, by rw [hx]⟩
    · rintro ⟨t, k', hs, hk6, rfl⟩
      by_cases ht : t = T ∧ k' = k
      · right; rw [ht.1, ht.2, hx]
      · left; exact ⟨t, k', by omega, hk6, rfl⟩
  refine ⟨if u 1 (58 + 7 * l + 5) < x then nI T else R, ?_⟩
  rw [b1, b2]
  by_cases hc : u 1 (58 + 7 * l + 5) < x
  · rw [if_pos hc] at eP
    rw [if_pos hc, if_pos hc, if_pos hc]
    exact eP
  · rw [if_neg hc] at eP
    rw [if_neg hc, if_neg hc, if_neg hc]
    exact eP
end TK
/-- what no bid touches in the row -/
def unt (l j : Nat) : Prop := j ≠ 9 ∧ j < 168 ∧ ¬ (10 ≤ j ∧ j < 58 ∧ ((j - 10) % 8 = 5 ∨ (j - 10) % 8 = 6)) ∧ j ≠ 58 + 7 * l + 5 ∧ j ≠ 58 + 7 * l + 6 ∧ ¬ (114 ≤ j ∧ j < 126)
theorem tk_all {v : evVt} {u0 : Nat → Nat → Int32} {G : Nat → Nat → Int32} {T n l tot : Nat} (hn : n ≤ 6) (hl : l < 8) (hT : T < 2 ^ 30) (ht : tot + 6 < 2 ^ 30) (v4 : v 1 4 0 = nI T) (u4 : u0 1 4 = nI T) (hbf : u0 1 (58 + 7 * l + 5) = v 5 l 1) (hbid : ∀ k, k < n → u0 7 k = bidC l k v)
    (h1 : rBid v (u0 1) n) (h2 : rBest v (u0 1) G (fun t _ => t < T)) (h3 : rHi (u0 1) l (gB G (fun t _ => t < T))) (h4 : rMade v (u0 1) tot) (k : Nat) (hk : k ≤ n) :
    rBid (tkV l (v 5 l 1) v k).1 (mbU (u0 1 (58 + 7 * l + 5)) l u0 k 1) n ∧ rBest (tkV l (v 5 l 1) v k).1 (mbU (u0 1 (58 + 7 * l + 5)) l u0 k 1) (gN G T n (u0 7)) (fun t i => t < T ∨ t = T ∧ i < k) ∧ rHi (mbU (u0 1 (58 + 7 * l + 5)) l u0 k 1) l (gB (gN G T n (u0 7)) (fun t i => t < T ∨ t = T ∧ i < k)) ∧ (∃ t', t' ≤ tot + k ∧ rMade (tkV l (v 5 l 1) v k).1 (mbU (u0 1 (58 + 7 * l + 5)) l u0 k 1) t') ∧ (∀ j, unt l j → mbU (u0 1 (58 + 7 * l + 5)) l u0 k 1 j = u0 1 j) ∧ (tkV l (v 5 l 1) v k).2 = !(mbB u0 k) ∧ (∀ i, i < k → (tkV l (v 5 l 1) v k).1 2 i 2 = 0) := by
  induction k with
  | zero =>
    refine ⟨h1, ?_, ?_, ⟨tot, Nat.le_refl _, h4⟩, fun _ _ => rfl, rfl, fun i hi => absurd hi (by omega)⟩
    · intro i hi
      obtain ⟨a1, a2, a3⟩ := h2 i hi
      refine ⟨mx_congr (fun s h0 => ?_) a1, a2, a3⟩
      rw [gB_gN (n := n) (B := u0 7) (T := T) (fun t k z => by omega)]
      refine gB_iff (fun t k' _ _ => ?_) h0
      constructor
      · rintro ⟨a, b⟩; exact ⟨Or.inl a, b⟩
      · rintro ⟨a | a, b⟩
        · exact ⟨a, b⟩
        · omega
    · obtain ⟨R, h3⟩ := h3
      refine ⟨R, mx_congr (fun s h0 => ?_) h3⟩
      rw [gB_gN (n := n) (B := u0 7) (T := T) (fun t k z => by omega)]
      refine gB_iff (fun t k' _ _ => ?_) h0
      constructor
      · intro a; exact Or.inl a
      · rintro (a | a)
        · exact a
        · omega
  | succ k ih =>
    obtain ⟨i1, i2, i3, ⟨t', ht', i4⟩, i5, i6, i7⟩ := ih (by omega)
    have hkn : k < n := by omega
    have hB : bidC l k (tkV l (v 5 l 1) v k).1 = u0 7 k := by rw [bidC_k, hbid k hkn]
    have hm7 : mbU (u0 1 (58 + 7 * l + 5)) l u0 k 7 k = u0 7 k := mbU_o _ _ _ _ _ (by decide)
    have w4 : (tkV l (v 5 l 1) v k).1 1 4 0 = nI T := by rw [tkV_o (by omega) (by omega) (by omega) (by omega), v4]
    have x4 : mbU (u0 1 (58 + 7 * l + 5)) l u0 k 1 4 = nI T := by rw [i5 4 (by unfold unt; omega), u4]
    have w7 : ((tkV l (v 5 l 1) v k).1 7 0 0).toNatClampNeg = t' := by rw [i4.2.1, nI_cl _ (by omega)]
    have hx : gN G T n (u0 7) T k = u0 7 k := gN_T hkn
    rw [tkV_s, hB, w7, sh_eq]
    show rBid _ (mbS (u0 1 (58 + 7 * l + 5)) l k (mbU (u0 1 (58 + 7 * l + 5)) l u0 k) 1) n ∧ rBest _ (mbS (u0 1 (58 + 7 * l + 5)) l k (mbU (u0 1 (58 + 7 * l + 5)) l u0 k) 1) _ _ ∧ rHi (mbS (u0 1 (58 + 7 * l + 5)) l k (mbU (u0 1 (58 + 7 * l + 5)) l u0 k) 1) l _ ∧ (∃ t', t' ≤ tot + (k + 1) ∧ rMade _ (mbS (u0 1 (58 + 7 * l + 5)) l k (mbU (u0 1 (58 + 7 * l + 5)) l u0 k) 1) t') ∧ (∀ j, unt l j → mbS (u0 1 (58 + 7 * l + 5)) l k (mbU (u0 1 (58 + 7 * l + 5)) l u0 k) 1 j = u0 1 j) ∧ _ = !(decide (0 < u0 7 k) || mbB u0 k) ∧ _
    unfold mbS
    rw [hm7, hbf]
    rw [hbf] at i1 i2 i3 i4 i5 x4
    generalize (tkV l (v 5 l 1) v k).1 = w at *
    generalize mbU (v 5 l 1) l u0 k = u at *
    by_cases hp : 0 < u0 7 k
    · rw [if_pos hp, if_pos hp]
      refine ⟨tk_bid hkn hn hl i1, tk_best hkn hn hl hT x4 w4 hx i2, tk_hi (by omega) hl hT hx i3, ⟨t' + 1, by omega, tk_made (by omega) hl (by omega) (x4.trans w4.symm) (by unfold shB; split <;> simp) i4⟩, ?_, by simp [hp], ?_⟩
      · intro j hj
        rw [← i5 j hj]
        unfold unt at hj
        exact nb_o _ _ _ (by omega) hl (by omega) (by omega) (by omega) (by omega) (by omega) (by omega) (by omega) (by omega)
      · intro i hi
        refine (note_2 (vs w 2 k 2 0) k (u0 7 k) (shB (u0 7 k) (v 5 l 1)) t' (nI k) i 2).trans ?_
        rw [if_neg (by omega), if_neg (by omega), vs_at]
        by_cases hik : i = k
        · rw [if_pos ⟨rfl, hik, rfl⟩]
        · rw [if_neg (fun z => hik z.2.1)]
          exact i7 i (by omega)
    · rw [if_neg hp, if_neg hp]
      have z0 : ∀ i p, vs w 2 k 2 0 3 i p = w 3 i p := fun i p => by rw [vs_at, if_neg (by omega)]
      have ex : ∀ t' k', 0 < gN G T n (u0 7) t' k' → t' = T → k' ≠ k := fun t' k' h0 e e2 => by
        rw [e, e2, hx] at h0
        exact hp h0
      refine ⟨?_, ?_, ?_, ⟨t', by omega, i4.1, ?_, ?_⟩, i5, by simp [hp, i6], ?_⟩
      · intro i j hi hj
        rw [i1 i j hi hj]
        show _ = vs w 2 k 2 0 2 i (bp j)
        rw [vs_at, if_neg]
        rintro ⟨-, -, e⟩
        unfold bp at e
        split at e
        · omega
        · rw [if_neg (by omega)] at e; omega
      · intro i hi
        obtain ⟨a1, a2, a3⟩ := i2 i hi
        show mxP _ (vs w 2 k 2 0 3 i 1, vs w 2 k 2 0 3 i 2, vs w 2 k 2 0 3 i 0) ∧ u 1 (114 + 2 * i) = vs w 2 k 2 0 3 i 1 ∧ u 1 (114 + 2 * i + 1) = vs w 2 k 2 0 3 i 2
        rw [z0, z0, z0]
        refine ⟨mx_congr (fun s h0 => gB_iff (fun t k' _ hq => ?_) h0) a1, a2, a3⟩
        have := ex t k' hq
        constructor
        · rintro ⟨a, b⟩; exact ⟨by omega, b⟩
        · rintro ⟨a, b⟩; exact ⟨by omega, b⟩
      · obtain ⟨R, i3⟩ := i3
        refine ⟨R, mx_congr (fun s h0 => gB_iff (fun t k' _ hq => ?_) h0) i3⟩
        have := ex t k' hq
        constructor
        · intro a; omega
        · intro a; omega
      · show vs w 2 k 2 0 7 0 0 = nI t'
        rw [vs_at, if_neg (by omega)]
        exact i4.2.1
      · intro a p h1 h2 h3
        show u 1 (168 + 4 * a + p) = vs w 2 k 2 0 8 _ 0
        rw [vs_at, if_neg (by omega)]
        exact i4.2.2 a p h1 h2 h3
      · intro i hi
        show vs w 2 k 2 0 2 i 2 = 0
        rw [vs_at]
        by_cases hik : i = k
        · rw [if_pos ⟨rfl, hik, rfl⟩]
        · rw [if_neg (fun z => hik z.2.1)]
          exact i7 i (by omega)
