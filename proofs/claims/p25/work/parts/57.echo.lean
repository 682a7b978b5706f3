/-! behind a round: echoes, and the rounds that grow older -/
theorem mxQ_new {P : evT → Prop} {t : evT} {x r b : Int32} (h : mxQ P t) (hn : ¬ t.1 < 0) (hl : ∀ s, P s → s.1 = x → ¬ (r < s.2.1 ∨ r = s.2.1 ∧ b < s.2.2)) : mxQ (fun s => P s ∨ s = (x, r, b)) (if t.1 < x then (x, r, b) else t) := by
  have z0 : (0 : Int32).toInt = 0 := rfl
  by_cases hx : t.1 < x
  · rw [if_pos hx]
    have hx0 : 0 < x := by
      rw [pos_int]
      rw [Int32.lt_iff_toInt_lt] at hn hx
      omega
    refine ⟨fun _ => ⟨Or.inr rfl, fun s hs h0 hc => ?_⟩, fun z => absurd hx0 z⟩
    rcases hs with hs | hs
    · by_cases ht : 0 < t.1
      · have := (h.1 ht).2 s hs h0
        rw [ab_int] at this hc
        rw [Int32.lt_iff_toInt_lt] at hx
        simp only [] at this hc
        omega
      · exact h.2 ht s hs h0
    · rw [hs, ab_int] at hc
      simp only [] at hc
      omega
  · rw [if_neg hx]
    refine ⟨fun ht => ⟨Or.inl (h.1 ht).1, fun s hs h0 hc => ?_⟩, fun ht s hs h0 => ?_⟩
    · rcases hs with hs | hs
      · exact (h.1 ht).2 s hs h0 hc
      · rw [hs] at hc
        rcases hc with hc | ⟨hc, hd⟩
        · exact hx hc
        · exact hl t (h.1 ht).1 hc.symm hd
    · rcases hs with hs | hs
      · exact h.2 ht s hs h0
      · rw [hs] at h0
        rw [pos_int] at h0 ht
        rw [Int32.lt_iff_toInt_lt] at hx
        simp only [] at h0
        omega
/-- the class's highest bid behind the round -/
theorem ecV_mx {w : evVt} {r : Nat → Int32} {G : Nat → Nat → Int32} {T n l : Nat} (hn : n ≤ 6) (hG : rG G n) (hB : rBest w r G (fun t i => t < T ∨ t = T ∧ i < n)) (hH : mxP (gB G (fun t _ => t < T)) (w 5 l 1, w 5 l 2, w 5 l 0)) : mxP (gB G (fun t _ => t < T + 1)) (ecV l n w 5 l 1, ecV l n w 5 l 2, ecV l n w 5 l 0) := by
  have key : ∀ k, k ≤ n → mxP (gB G (fun t i => t < T ∨ t ≤ T ∧ i < k)) (ecV l k w 5 l 1, ecV l k w 5 l 2, ecV l k w 5 l 0) := by
    intro k
    induction k with
    | zero =>
      intro _
      refine mx_congr (fun s h0 => gB_iff (fun t i _ _ => ?_) h0) hH
      constructor
      · intro a; exact Or.inl a
      · intro a; omega
    | succ k ih =>
      intro hk
      have M := mx_max (ih (by omega)) (hB k (by omega)).1
      have e3 : ∀ p, ecV l k w 3 k p = w 3 k p := fun p => ecV_o (by omega)
      have eq : (ecV l (k + 1) w 5 l 1, ecV l (k + 1) w 5 l 2, ecV l (k + 1) w 5 l 0) = (if abv (w 3 k 0) (w 3 k 1) (w 3 k 2) (ecV l k w 5 l 0) (ecV l k w 5 l 1) (ecV l k w 5 l 2) = true then ((w 3 k 1, w 3 k 2, w 3 k 0) : evT) else (ecV l k w 5 l 1, ecV l k w 5 l 2, ecV l k w 5 l 0)) := by
        conv => lhs; unfold ecV
        rw [e3, e3, e3]
        split
        · rw [set3_at, set3_at, set3_at]
          simp
        · rfl
      rw [eq]
      refine mx_congr (fun s h0 => ?_) M
      rw [gB_or]
      refine gB_iff (fun t i _ hp => ?_) h0
      constructor
      · intro a; omega
      · rintro (a | a)
        · exact Or.inl (Or.inl a)
        · by_cases hi : i = k
          · exact Or.inr ⟨by omega, hi⟩
          · exact Or.inl (Or.inr (by omega))
  refine mx_congr (fun s h0 => gB_iff (fun t i _ hp => ?_) h0) (key n (Nat.le_refl _))
  have hin : i < n := by
    rcases Nat.lt_or_ge i n with z | z
    · exact z
    · rw [hG t i z] at hp
      exact absurd hp (by decide)
  constructor
  · intro a; omega
  · intro a; exact Or.inr ⟨by omega, hin⟩
theorem echoV_eq {w : evVt} {T l n : Nat} (hT : T < 2 ^ 30) (w4 : w 1 4 0 = nI T) : echoV l n w = set3 (ecV l n w) 6 (T % 6) (ecV l n w 5 l 0) (ecV l n w 5 l 1) (ecV l n w 5 l 2) := by
  unfold echoV
  have hm : T % 6 < 6 := Nat.mod_lt _ (by decide)
  rw [w4, show (6 : Int32) = nI 6 from rfl, fmod_nI (by omega) (by decide) (by decide), if_pos ⟨nI_pos' (by omega), nI_lt hm (by decide)⟩, nI_cl _ (by omega)]
theorem ecV_5 {w : evVt} {l n i j : Nat} (hi : i ≠ l) : ecV l n w 5 i j = w 5 i j := by
  induction n with
  | zero => rfl
  | succ n ih =>
    unfold ecV
    split
    · rw [set3_at, if_neg (by omega), if_neg (by omega), if_neg (by omega), ih]
    · exact ih
/-- takeV, place by place -/
def stV (l : Nat) (v : evVt) (n : Nat) : Int32 := if (tkV l (v 5 l 1) v n).2 = true then v 4 l 4 + 1 else 0
def tmV (l n : Nat) (v : evVt) : evVt := vs (vs (tkV l (v 5 l 1) v n).1 4 l 3 (v 4 l 3 + 1)) 4 l 4 (stV l v n)
theorem takeV_eq {v : evVt} {T l n : Nat} (hT : T < 2 ^ 30) (v4 : v 1 4 0 = nI T) : takeV l n v = set3 (ecV l n (tmV l n v)) 6 (T % 6) (ecV l n (tmV l n v) 5 l 0) (ecV l n (tmV l n v) 5 l 1) (ecV l n (tmV l n v) 5 l 2) := by
  have e4 : ∀ j, (tkV l (v 5 l 1) v n).1 4 l j = v 4 l j := fun j => tkV_o (by omega) (by omega) (by omega) (by omega)
  have e : takeV l n v = echoV l n (tmV l n v) := by
    unfold takeV tmV stV
    simp only [e4, vs_at, show ¬ (4 : Nat) = 3 by decide, and_false, if_false]
  rw [e]
  refine echoV_eq hT ?_
  unfold tmV
  rw [vs_at, if_neg (by omega), vs_at, if_neg (by omega), tkV_o (by omega) (by omega) (by omega) (by omega), v4]
theorem tmV_o {v : evVt} {l n a i j : Nat} (h4 : a ≠ 4) : tmV l n v a i j = (tkV l (v 5 l 1) v n).1 a i j := by
  unfold tmV
  rw [vs_at, if_neg (fun z => h4 z.1), vs_at, if_neg (fun z => h4 z.1)]
theorem take_o {v : evVt} {T l n a i j : Nat} (hT : T < 2 ^ 30) (v4 : v 1 4 0 = nI T) (h4 : a ≠ 4) (h5 : a ≠ 5) (h6 : a ≠ 6) : takeV l n v a i j = (tkV l (v 5 l 1) v n).1 a i j := by
  rw [takeV_eq hT v4, set3_at, if_neg (fun z => h6 z.1), if_neg (fun z => h6 z.1), if_neg (fun z => h6 z.1), ecV_o h5, tmV_o h4]
theorem take_4 {v : evVt} {T l n i j : Nat} (hT : T < 2 ^ 30) (v4 : v 1 4 0 = nI T) : takeV l n v 4 i j = if i = l ∧ j = 4 then stV l v n else if i = l ∧ j = 3 then v 4 l 3 + 1 else v 4 i j := by
  rw [takeV_eq hT v4, set3_at, if_neg (by omega), if_neg (by omega), if_neg (by omega), ecV_o (by omega)]
  unfold tmV
  rw [vs_at, vs_at, tkV_o (by omega) (by omega) (by omega) (by omega)]
  simp only [true_and]
theorem take_5 {v : evVt} {T l n j : Nat} (hT : T < 2 ^ 30) (v4 : v 1 4 0 = nI T) (i : Nat) : takeV l n v 5 i j = ecV l n (tmV l n v) 5 i j := by
  rw [takeV_eq hT v4, set3_at, if_neg (by omega), if_neg (by omega), if_neg (by omega)]
theorem take_6 {v : evVt} {T l n i j : Nat} (hT : T < 2 ^ 30) (v4 : v 1 4 0 = nI T) (hj : j < 3) : takeV l n v 6 i j = if i = T % 6 then ecV l n (tmV l n v) 5 l j else v 6 i j := by
  rw [takeV_eq hT v4, set3_at]
  simp only [true_and]
  by_cases hi : i = T % 6
  · rw [if_pos hi]
    rcases (show j = 0 ∨ j = 1 ∨ j = 2 by omega) with rfl | rfl | rfl
    · rw [if_neg (by omega), if_neg (by omega), if_pos ⟨hi, rfl⟩]
    · rw [if_neg (by omega), if_pos ⟨hi, rfl⟩]
    · rw [if_pos ⟨hi, rfl⟩]
  · rw [if_neg (fun z => hi z.1), if_neg (fun z => hi z.1), if_neg (fun z => hi z.1), if_neg hi, ecV_o (by omega), tmV_o (by omega), tkV_o (by omega) (by omega) (by omega) (by omega)]
/-- the model's rounds, place by place -/
theorem grB_s (u : Nat → Nat → Int32) (n j : Nat) : grB u (n + 1) 1 j = kbU (grB u n) 126 n (u 1 (162 + n)) (u 1 4 - 5) 1 j := rfl
theorem grB_at (u : Nat → Nat → Int32) {n i : Nat} (hi : i < 6) : grB u n 1 (126 + 2 * i) = (if i < n ∧ u 1 (126 + 2 * i) < u 1 (162 + i) then u 1 (162 + i) else u 1 (126 + 2 * i)) ∧ grB u n 1 (126 + 2 * i + 1) = (if i < n ∧ u 1 (126 + 2 * i) < u 1 (162 + i) then u 1 4 - 5 else u 1 (126 + 2 * i + 1)) := by
  induction n with
  | zero =>
    have e : ¬ (i < 0 ∧ u 1 (126 + 2 * i) < u 1 (162 + i)) := fun z => absurd z.1 (Nat.not_lt_zero _)
    exact ⟨by rw [if_neg e]; rfl, by rw [if_neg e]; rfl⟩
  | succ n ih =>
    obtain ⟨a1, a2⟩ := ih
    rw [grB_s, grB_s, kb_at, kb_at]
    by_cases hin : i = n
    · subst hin
      have e : ¬ (i < i ∧ u 1 (126 + 2 * i) < u 1 (162 + i)) := fun z => absurd z.1 (Nat.lt_irrefl _)
      rw [if_neg e] at a1 a2
      have e1 : ¬ (126 + 2 * i = 126 + 2 * i + 1) := by omega
      rw [if_neg e1, if_pos rfl, if_pos rfl, a1, a2]
      by_cases hc : u 1 (126 + 2 * i) < u 1 (162 + i)
      · have e2 : i < i + 1 ∧ u 1 (126 + 2 * i) < u 1 (162 + i) := ⟨Nat.lt_succ_self i, hc⟩
        rw [if_pos hc, if_pos hc, if_pos e2, if_pos e2]
        exact ⟨rfl, rfl⟩
      · have e2 : ¬ (i < i + 1 ∧ u 1 (126 + 2 * i) < u 1 (162 + i)) := fun z => hc z.2
        rw [if_neg hc, if_neg hc, if_neg e2, if_neg e2]
        exact ⟨rfl, rfl⟩
    · have e1 : ¬ (126 + 2 * i = 126 + 2 * n + 1) := by omega
      have e2 : ¬ (126 + 2 * i = 126 + 2 * n) := by omega
      have e3 : ¬ (126 + 2 * i + 1 = 126 + 2 * n + 1) := by omega
      have e4 : ¬ (126 + 2 * i + 1 = 126 + 2 * n) := by omega
      rw [if_neg e1, if_neg e2, if_neg e3, if_neg e4, a1, a2]
      have e5 : (i < n ∧ u 1 (126 + 2 * i) < u 1 (162 + i)) ↔ (i < n + 1 ∧ u 1 (126 + 2 * i) < u 1 (162 + i)) := ⟨fun z => ⟨by omega, z.2⟩, fun z => ⟨by omega, z.2⟩⟩
      by_cases hc : i < n ∧ u 1 (126 + 2 * i) < u 1 (162 + i)
      · have hc' := e5.mp hc
        rw [if_pos hc, if_pos hc, if_pos hc', if_pos hc']
        exact ⟨rfl, rfl⟩
      · have hc' : ¬ (i < n + 1 ∧ u 1 (126 + 2 * i) < u 1 (162 + i)) := fun z => hc (e5.mpr z)
        rw [if_neg hc, if_neg hc, if_neg hc', if_neg hc']
        exact ⟨rfl, rfl⟩
theorem grN_at (u : Nat → Nat → Int32) (n k : Nat) (j : Nat) : grN u n k 1 j = if 138 ≤ j ∧ j < 138 + k then (if j - 138 < n then u 7 (j - 138) else 0) else u 1 j := by
  induction k with
  | zero =>
    have e : ¬ (138 ≤ j ∧ j < 138 + 0) := by omega
    rw [if_neg e]; rfl
  | succ k ih =>
    show ms (grN u n k) 1 (138 + k) (if k < n then u 7 k else 0) 1 j = _
    rw [ms_at]
    by_cases hj : j = 138 + k
    · have e : 138 ≤ j ∧ j < 138 + (k + 1) := by omega
      rw [if_pos ⟨rfl, hj⟩, if_pos e, show j - 138 = k by omega]
    · rw [if_neg (fun z => hj z.2), ih]
      by_cases hc : 138 ≤ j ∧ j < 138 + k
      · have e : 138 ≤ j ∧ j < 138 + (k + 1) := by omega
        rw [if_pos hc, if_pos e]
      · have e : ¬ (138 ≤ j ∧ j < 138 + (k + 1)) := by omega
        rw [if_neg hc, if_neg e]
theorem gr_at (u : Nat → Nat → Int32) {n : Nat} (j : Nat) : grU u n 1 j = if 138 ≤ j ∧ j < 144 then (if j - 138 < n then u 7 (j - 138) else 0) else if 143 < j ∧ j ≤ 167 then grB u n 1 (j - 6) else grB u n 1 j := by
  unfold grU
  rw [grN_at]
  have e7 : ∀ i, grV (grB u n) 5 7 i = u 7 i := fun i => by rw [grV_o _ _ _ (by decide), grB_o _ _ _ (by decide)]
  rw [e7]
  unfold grV
  simp only [true_and]
