/-! a lot's end: the law's rows and the thought rows -/
def foL (p : Nat × Nat × Nat → Bool) (L : evLs) : Nat → Nat
  | 0 => 0
  | i + 1 => if (p (L i) && decide (foL p L i < (L i).1)) = true then (L i).1 else foL p L i
theorem foL_s (p : Nat × Nat × Nat → Bool) (L : evLs) (i : Nat) : foL p L (i + 1) = if (p (L i) && decide (foL p L i < (L i).1)) = true then (L i).1 else foL p L i := rfl
theorem foL_max (p : Nat × Nat × Nat → Bool) (L : evLs) (k : Nat) : (∀ i, i < k → p (L i) = true → (L i).1 ≤ foL p L k) ∧ (foL p L k = 0 ∨ ∃ i, i < k ∧ p (L i) = true ∧ (L i).1 = foL p L k) := by
  induction k with
  | zero => exact ⟨fun i hi => absurd hi (Nat.not_lt_zero i), Or.inl rfl⟩
  | succ k ih =>
    obtain ⟨i1, i2⟩ := ih
    rw [foL_s]
    split
    · rename_i h
      rw [Bool.and_eq_true, decide_eq_true_eq] at h
      refine ⟨fun i hi hR => ?_, Or.inr ⟨k, by omega, h.1, rfl⟩⟩
      by_cases hik : i = k
      · rw [hik]; exact Nat.le_refl _
      · have := i1 i (by omega) hR
        omega
    · rename_i h
      rw [Bool.and_eq_true, decide_eq_true_eq] at h
      refine ⟨fun i hi hR => ?_, ?_⟩
      · by_cases hik : i = k
        · subst hik
          rcases Nat.lt_or_ge (foL p L i) (L i).1 with z | z
          · exact absurd ⟨hR, z⟩ h
          · exact z
        · exact i1 i (by omega) hR
      · rcases i2 with z | ⟨i, hi, h1, h2⟩
        · exact Or.inl z
        · exact Or.inr ⟨i, by omega, h1, h2⟩
theorem mx_fo {x R W : Int32} {n len : Nat} {G : Nat → Nat → Int32} {L : evLs} {S S' : Nat → Nat → Prop} {r3 r4 : Nat → Int32} {p : Nat × Nat × Nat → Bool} (hn : n ≤ 6) (hG : rG G n) (hM : mxP (gB G S') (x, R, W)) (hL : lsE r3 r4 L len) (hS : gLs G L S n len) (hp : ∀ i, i < len → (S' (L i).2.1 (L i).2.2 ↔ p (L i) = true)) (hsub : ∀ t k, S' t k → S t k) : x = nI (foL p L len) ∧ foL p L len < 16384 := by
  obtain ⟨b1, b2⟩ := foL_max p L len
  have hb : foL p L len < 16384 := by
    rcases b2 with z | ⟨i, hi, -, e⟩
    · rw [z]; omega
    · rw [← e]; exact (hL i hi).1.2.1
  refine ⟨?_, hb⟩
  obtain ⟨⟨m1, m2⟩, m3⟩ := hM
  have mem : ∀ i, i < len → p (L i) = true → gB G S' (lsV L i) ∧ 0 < (lsV L i).1 := fun i hi hpi => by
    have h0 : 0 < (lsV L i).1 := nI_lt (a := 0) (hL i hi).1.1 (by have := (hL i hi).1.2.1; omega)
    exact ⟨(gLs_gB hn hG hS _ h0 hsub).mpr ⟨i, hi, (hp i hi).mpr hpi, rfl⟩, h0⟩
  by_cases hx : 0 < x
  · obtain ⟨x1, x2⟩ := m1 hx
    obtain ⟨i, hi, hSi, e⟩ := (gLs_gB hn hG hS _ hx hsub).mp x1
    have e1 : x = nI (L i).1 := congrArg (fun z : evT => z.1) e
    rw [e1]
    congr 1
    have le1 := b1 i hi ((hp i hi).mp hSi)
    rcases b2 with z | ⟨j, hj, hpj, ej⟩
    · have := (hL i hi).1.1; omega
    · have c := x2 _ (mem j hj hpj).1 (mem j hj hpj).2
      rw [e] at c
      have le2 : ¬ (L i).1 < (L j).1 := fun z => c (Or.inl (nI_lt z (by have := (hL j hj).1.2.1; omega)))
      omega
  · have z := m3 hx
    have e0 : x = 0 := congrArg (fun z : evT => z.1) z
    rw [e0]
    rcases b2 with h | ⟨i, hi, hpi, -⟩
    · rw [h]; rfl
    · exact absurd (mem i hi hpi).2 (m2 hx _ (mem i hi hpi).1)
def pNot (b : Nat) (e : Nat × Nat × Nat) : Bool := !(e.2.2 == b)
def pIs (b : Nat) (e : Nat × Nat × Nat) : Bool := e.2.2 == b
theorem foL_lt {r3 r4 : Nat → Int32} {L : evLs} {len : Nat} (p : Nat × Nat × Nat → Bool) (hL : lsE r3 r4 L len) (k : Nat) (hk : k ≤ len) : foL p L k < 16384 := by
  rcases (foL_max p L k).2 with z | ⟨i, hi, -, e⟩
  · rw [z]; omega
  · rw [← e]; exact (hL i (by omega)).1.2.1
theorem scF_fo {r3 r4 : Nat → Int32} {L : evLs} {len b : Nat} (hL : lsE r3 r4 L len) (hb : b < 8) (k : Nat) (hk : k ≤ len) : scF r3 r4 (nI b) k = nI (foL (pNot b) L k) := by
  induction k with
  | zero => rfl
  | succ k ih =>
    obtain ⟨ho, he⟩ := hL k (by omega)
    have hlt := foL_lt (pNot b) hL k (by omega)
    rw [scF_s, foL_s, ih (by omega), he, who_enc ho, coi_enc ho]
    have h4 := ho.2.2.2
    have hc := ho.2.1
    have ep : pNot b (L k) = true ↔ ¬ (L k).2.2 = b := by
      unfold pNot
      rw [Bool.not_eq_true', beq_eq_false_iff_ne]
    have e : (¬ nI (L k).2.2 = nI b ∧ nI (foL (pNot b) L k) < nI (L k).1) ↔ (pNot b (L k) && decide (foL (pNot b) L k < (L k).1)) = true := by
      rw [Bool.and_eq_true, decide_eq_true_eq, ep, nI_eq (by omega) (by omega), nI_ltI (by omega) (by omega)]
    by_cases h : (pNot b (L k) && decide (foL (pNot b) L k < (L k).1)) = true
    · rw [if_pos (e.mpr h), if_pos h]
    · rw [if_neg (fun z => h (e.mp z)), if_neg h]
def mpN (B : Nat → Nat) (b : Nat) : Nat → Nat
  | 0 => 0
  | k + 1 => if ¬ k = b ∧ mpN B b k < B k then B k else mpN B b k
theorem mpN_max (B : Nat → Nat) (b n : Nat) : (∀ k, k < n → ¬ k = b → B k ≤ mpN B b n) ∧ (mpN B b n = 0 ∨ ∃ k, k < n ∧ ¬ k = b ∧ B k = mpN B b n) := by
  induction n with
  | zero => exact ⟨fun i hi => absurd hi (Nat.not_lt_zero i), Or.inl rfl⟩
  | succ n ih =>
    obtain ⟨i1, i2⟩ := ih
    show (∀ k, k < n + 1 → ¬ k = b → B k ≤ if ¬ n = b ∧ mpN B b n < B n then B n else mpN B b n) ∧ ((if ¬ n = b ∧ mpN B b n < B n then B n else mpN B b n) = 0 ∨ ∃ k, k < n + 1 ∧ ¬ k = b ∧ B k = if ¬ n = b ∧ mpN B b n < B n then B n else mpN B b n)
    split
    · rename_i h
      refine ⟨fun k hk hkb => ?_, Or.inr ⟨n, by omega, h.1, rfl⟩⟩
      by_cases hkn : k = n
      · rw [hkn]; exact Nat.le_refl _
      · have := i1 k (by omega) hkb
        omega
    · rename_i h
      refine ⟨fun k hk hkb => ?_, ?_⟩
      · by_cases hkn : k = n
        · subst hkn
          rcases Nat.lt_or_ge (mpN B b k) (B k) with z | z
          · exact absurd ⟨hkb, z⟩ h
          · exact z
        · exact i1 k (by omega) hkb
      · rcases i2 with z | ⟨k, hk, h1, h2⟩
        · exact Or.inl z
        · exact Or.inr ⟨k, by omega, h1, h2⟩
theorem mprS_N {r : Nat → Int32} {B : Nat → Nat} {b n : Nat} (hb : b < 6) (hn : n ≤ 6) (hB : ∀ k, k < n → r (114 + 2 * k) = nI (B k) ∧ B k < 16384) (k : Nat) (hk : k ≤ n) : mprS r (nI b) k = nI (mpN B b k) ∧ mpN B b k < 16384 := by
  induction k with
  | zero => exact ⟨rfl, by show 0 < 16384; omega⟩
  | succ k ih =>
    obtain ⟨i1, i2⟩ := ih (by omega)
    obtain ⟨h1, h2⟩ := hB k (by omega)
    show (if ¬ nI k = nI b ∧ mprS r (nI b) k < r (114 + 2 * k) then r (114 + 2 * k) else mprS r (nI b) k) = nI (if ¬ k = b ∧ mpN B b k < B k then B k else mpN B b k) ∧ (if ¬ k = b ∧ mpN B b k < B k then B k else mpN B b k) < 16384
    have e : (¬ nI k = nI b ∧ nI (mpN B b k) < nI (B k)) ↔ (¬ k = b ∧ mpN B b k < B k) := by
      rw [nI_eq (by omega) (by omega), nI_ltI (by omega) (by omega)]
    rw [i1, h1]
    by_cases hc : ¬ k = b ∧ mpN B b k < B k
    · rw [if_pos (e.mpr hc), if_pos hc]; exact ⟨rfl, h2⟩
    · rw [if_neg (fun z => hc (e.mp z)), if_neg hc]; exact ⟨rfl, i2⟩
theorem mp_fo {L : evLs} {n len b : Nat} (hw : ∀ i, i < len → (L i).2.2 < n) : mpN (fun k => foL (pIs k) L len) b n = foL (pNot b) L len := by
  obtain ⟨a1, a2⟩ := mpN_max (fun k => foL (pIs k) L len) b n
  obtain ⟨b1, b2⟩ := foL_max (pNot b) L len
  refine Nat.le_antisymm ?_ ?_
  · rcases a2 with z | ⟨k, hk, hkb, e⟩
    · omega
    · rw [← e]
      show foL (pIs k) L len ≤ _
      rcases (foL_max (pIs k) L len).2 with z | ⟨i, hi, hp, e'⟩
      · omega
      · rw [← e']
        refine b1 i hi ?_
        unfold pIs at hp
        unfold pNot
        have : (L i).2.2 = k := by simpa using hp
        simp [this, hkb]
  · rcases b2 with z | ⟨i, hi, hp, e⟩
    · omega
    · rw [← e]
      have hne : ¬ (L i).2.2 = b := by
        unfold pNot at hp
        simpa using hp
      have h1 := (foL_max (pIs (L i).2.2) L len).1 i hi (by unfold pIs; simp)
      have h2 := a1 (L i).2.2 (hw i hi) hne
      exact Nat.le_trans h1 h2
section SO
variable {w : Nat → Nat → Int32} {l b : Nat} {x : Int32}
theorem sold_1 {j : Nat} : soldC (soldB (soldA w l b x) l b x) l b x 1 j = if j = 8 * b + 4 then w 1 (8 * b + 4) + w 2 (7 * l) else if j = 8 * b + 3 then w 1 (8 * b + 3) + x else if j = 8 * b + 2 then w 1 (8 * b + 2) ||| 1 <<< (nI l &&& 31) else if j = 8 * b then w 1 (8 * b) - x else w 1 j := by
  have a1 : ∀ j, soldA w l b x 1 j = w 1 j := fun j => by
    unfold soldA
    rw [ms_at, if_neg (by omega), ms_at, if_neg (by omega), ms_at, if_neg (by omega)]
  have a2 : soldA w l b x 2 (7 * l) = w 2 (7 * l) := by
    unfold soldA
    rw [ms_at, if_neg (by omega), ms_at, if_neg (by omega), ms_at, if_neg (by omega)]
  have b1 : ∀ j, soldB (soldA w l b x) l b x 1 j = if j = 8 * b + 2 then w 1 (8 * b + 2) ||| 1 <<< (nI l &&& 31) else if j = 8 * b then w 1 (8 * b) - x else w 1 j := fun j => by
    unfold soldB
    rw [ms_at, ms_at, a1, a1, a1]
    simp only [true_and]
  have b2 : soldB (soldA w l b x) l b x 2 (7 * l) = w 2 (7 * l) := by
    unfold soldB
    rw [ms_at, if_neg (by omega), ms_at, if_neg (by omega), a2]
  unfold soldC
  rw [ms_at, ms_at, b1, b1, b1, b2, if_neg (show ¬ 8 * b + 4 = 8 * b + 2 by omega), if_neg (show ¬ 8 * b + 4 = 8 * b by omega), if_neg (show ¬ 8 * b + 3 = 8 * b + 2 by omega), if_neg (show ¬ 8 * b + 3 = 8 * b by omega)]
  simp only [true_and]
theorem sold_2 {j : Nat} : soldC (soldB (soldA w l b x) l b x) l b x 2 j = if j = 7 * l + 3 then x else if j = 7 * l + 2 then nI b else if j = 7 * l + 1 then 2 else w 2 j := by
  unfold soldC soldB soldA
  rw [ms_at, if_neg (by omega), ms_at, if_neg (by omega), ms_at, if_neg (by omega), ms_at, if_neg (by omega), ms_at, ms_at, ms_at]
  simp only [true_and]
theorem sold_o {o j : Nat} (h1 : o ≠ 1) (h2 : o ≠ 2) : soldC (soldB (soldA w l b x) l b x) l b x o j = w o j := by
  unfold soldC soldB soldA
  rw [ms_at, if_neg (fun z => h1 z.1), ms_at, if_neg (fun z => h1 z.1), ms_at, if_neg (fun z => h1 z.1), ms_at, if_neg (fun z => h1 z.1), ms_at, if_neg (fun z => h2 z.1), ms_at, if_neg (fun z => h2 z.1), ms_at, if_neg (fun z => h2 z.1)]
theorem endW_o {o : Nat} (h0 : o ≠ 0) (h1 : o ≠ 1) (h2 : o ≠ 2) : endW w l o = w o := by
  funext j
  unfold endW
  split
  · rw [ms_at, if_neg (fun z => h2 z.1), ms_at, if_neg (fun z => h0 z.1)]
  · rw [sold_o h1 h2, ms_at, if_neg (fun z => h0 z.1)]
end SO
section EX
variable {v : evVt} {w u : Nat → Nat → Int32} {G : Nat → Nat → Int32} {L : evLs} {n q T lag g tot l len : Nat}
theorem en_st (HL : rLot v (u 1) q g) (hq : q ≤ 8) (hlg : l + 1 = g) (HR : rRun v (u 1) l T n G) (hn : n ≤ 3) {y : Int32} (HE : rowE w (rwS (u 1) 4 y) n q) (h9 : w 0 9 = nI len) (hlen : len ≤ 128) (hL : lsE (w 3) (w 4) L len) (hS : gLs G L (fun t _ => t < T) n len) (hN : ntE (u 1) L len) : rowE (endW w l) (rwS (enU u l n 1) 4 y) n q ∧ ntE (enU u l n 1) L len := by
  obtain ⟨r1, r2, r3, r4, r5, r6, r7⟩ := id HR
  have hlq : l < q := by have := HL.1; omega
  have hl8 : l < 8 := by omega
  obtain ⟨x0, x1, x2, x3, x4, x5, x6⟩ := HL.2.1 l hlq
  have W2 : ∀ i j, i < q → j < 7 → w 2 (7 * i + j) = u 1 (58 + 7 * i + j) := fun i j hi hj => by
    rw [HE.2.2 i j hi hj, rwS_at, if_neg (by omega)]
  have W1 : ∀ i j, i < n → j < 8 → w 1 (8 * i + j) = u 1 (10 + 8 * i + j) := fun i j hi hj => by
    rw [HE.2.1 i j hi hj, rwS_at, if_neg (by omega)]
  have W0 : ∀ j, j < 8 → j ≠ 4 → w 0 j = u 1 j := fun j hj h4 => by
    rw [HE.1 j hj, rwS_at, if_neg h4]
  have w4 : w 0 4 = y := by rw [HE.1 4 (by omega), rwS_at, if_pos rfl]
  have w5 : w 2 (7 * l + 5) = v 5 l 1 := (W2 l 5 hlq (by omega)).trans x3
  have w6 : w 2 (7 * l + 6) = v 5 l 0 := (W2 l 6 hlq (by omega)).trans x4
  have hw : (v 5 l 1 = 0 ∧ v 5 l 0 = -6) ∨ (¬ v 5 l 1 = 0 ∧ ∃ b, b < n ∧ v 5 l 0 = nI b) := by
    by_cases hp : 0 < v 5 l 1
    · right
      obtain ⟨⟨t, k, _, hk6, e⟩, -⟩ := r6.1.1 hp
      have e1 := congrArg (fun z : evT => z.1) e
      have e3 := congrArg (fun z : evT => z.2.2) e
      simp only [] at e1 e3
      refine ⟨fun z => by rw [z] at hp; exact absurd hp (by decide), k, ?_, e3⟩
      rcases Nat.lt_or_ge k n with z | z
      · exact z
      · rw [r1 t k z] at e1
        rw [e1] at hp
        exact absurd hp (by decide)
    · left
      have e := r6.2 hp
      exact ⟨congrArg (fun z : evT => z.1) e, congrArg (fun z : evT => z.2.2) e⟩
  rcases hw with ⟨h5, h6⟩ | ⟨h5, b, hb, h6⟩
  · have eE : endW w l = ms (ms w 0 7 (-6)) 2 (7 * l + 1) 3 := by
      unfold endW
      rw [if_pos (w5.trans h5)]
    have eU : ∀ j, enU u l n 1 j = if j = 58 + 7 * l + 1 then 3 else if j = 7 then -6 else u 1 j := fun j => by
      unfold enU
      rw [if_pos (x4.trans h6), ms_at, ms_at]
      simp only [true_and]
    rw [eE]
    refine ⟨⟨fun j hj => ?_, fun i j hi hj => ?_, fun i j hi hj => ?_⟩, ⟨?_, fun a p h1 h2 h3 => ?_⟩⟩
    · rw [ms_at, if_neg (by omega), ms_at, rwS_at]
      by_cases hj4 : j = 4
      · rw [if_neg (by omega), if_pos hj4, hj4, w4]
      · rw [if_neg hj4, eU, if_neg (show ¬ j = 58 + 7 * l + 1 by omega)]
        by_cases hj7 : j = 7
        · rw [if_pos ⟨rfl, hj7⟩, if_pos hj7]
        · rw [if_neg (fun z => hj7 z.2), if_neg hj7]; exact W0 j hj hj4
    · rw [ms_at, if_neg (by omega), ms_at, if_neg (by omega), rwS_at, if_neg (by omega), eU, if_neg (by omega), if_neg (by omega)]
      exact W1 i j hi hj
    · rw [ms_at, rwS_at, if_neg (show ¬ 58 + 7 * i + j = 4 by omega), eU]
      by_cases h : 7 * i + j = 7 * l + 1
      · rw [if_pos ⟨rfl, h⟩, if_pos (by omega)]
      · rw [if_neg (fun z => h z.2), if_neg (by omega), if_neg (by omega), ms_at, if_neg (by omega)]
        exact W2 i j hi hj
    · rw [eU, if_neg (by omega), if_neg (by omega)]; exact hN.1
    · rw [eU, if_neg (by omega), if_neg (by omega)]; exact hN.2 a p h1 h2 h3
  · have n6 : ¬ nI b = -6 := nI_n6 (by omega)
    have hu6 : u 1 (58 + 7 * l + 6) = nI b := x4.trans h6
    have hB : ∀ k, k < n → ms u 1 7 (-6) 1 (114 + 2 * k) = nI (foL (pIs k) L len) ∧ foL (pIs k) L len < 16384 := fun k hk => by
      obtain ⟨m1, m2, m3⟩ := r2 k (by omega)
      rw [ms_at, if_neg (by omega), m2]
      refine mx_fo (by omega) r1 m1 hL hS (fun i hi => ?_) (fun t k z => z.1)
      unfold pIs
      rw [beq_iff_eq]
      exact ⟨fun z => z.2, fun z => ⟨(hS.1 i hi).2.1, z⟩⟩
    obtain ⟨M1, M2⟩ := mprS_N (r := ms u 1 7 (-6) 1) (b := b) (n := n) (by omega) (by omega) hB n (Nat.le_refl n)
    rw [mp_fo (fun i hi => (hS.1 i hi).2.2)] at M1
    have hsc := scF_fo hL (show b < 8 by omega) len (Nat.le_refl len)
    have hp : prcW w l (scF (w 3) (w 4) (nI b) len) = mprV (ms u 1 7 (-6) 1) l n := by
      unfold prcW mprV
      rw [ms_at, ms_at, ms_at, ms_at, if_neg (show ¬ (1 = 1 ∧ 3 = 7) by omega), if_neg (show ¬ (1 = 1 ∧ 58 + 7 * l + 5 = 7) by omega), if_neg (show ¬ (1 = 1 ∧ 58 + 7 * l + 6 = 7) by omega), if_neg (show ¬ (1 = 1 ∧ 1 = 7) by omega), hu6, M1, hsc, W0 3 (by omega) (by omega), W0 1 (by omega) (by omega), W2 l 5 hlq (by omega)]
      generalize nI (foL (pNot b) L len) + u 1 1 = s
      generalize u 1 (58 + 7 * l + 5) = z
      by_cases h3 : u 1 3 = 0
      · rw [if_pos (Or.inl h3), if_pos h3]
      · rw [if_neg h3]
        by_cases h1 : s < z
        · have h2 : ¬ z < s := fun q => Int32.lt_irrefl (Int32.lt_trans h1 q)
          rw [if_pos h1, if_neg (fun q => Or.elim q h3 h2)]
        · rw [if_neg h1]
          by_cases h2 : z < s
          · rw [if_pos (Or.inr h2)]
          · rw [if_neg (fun q => Or.elim q h3 h2)]
            exact Int32.le_antisymm (Int32.not_lt.mp h2) (Int32.not_lt.mp h1)
    have eE : endW w l = soldC (soldB (soldA (ms w 0 7 (-6)) l b (mprV (ms u 1 7 (-6) 1) l n)) l b (mprV (ms u 1 7 (-6) 1) l n)) l b (mprV (ms u 1 7 (-6) 1) l n) := by
      unfold endW
      rw [if_neg (by rw [w5]; exact h5), w6, h6, nI_cl b (by omega), lenW_nI hlen h9, hp]
    have eU : enU u l n = enB (enA (enS u l b (mprV (ms u 1 7 (-6) 1) l n)) l b (mprV (ms u 1 7 (-6) 1) l n)) l b := by
      unfold enU
      rw [hu6, if_neg n6, nI_cl b (by omega)]
    rw [eE, eU]
    generalize mprV (ms u 1 7 (-6) 1) l n = x
    have m0 : ∀ o j, o ≠ 0 → ms w 0 7 (-6) o j = w o j := fun o j ho => by rw [ms_at, if_neg (fun z => ho z.1)]
    refine ⟨⟨fun j hj => ?_, fun i j hi hj => ?_, fun i j hi hj => ?_⟩, ⟨?_, fun a p h1 h2 h3 => ?_⟩⟩
    · rw [sold_o (by omega) (by omega), ms_at, rwS_at]
      by_cases hj4 : j = 4
      · rw [if_neg (by omega), if_pos hj4, hj4, w4]
      · rw [if_neg hj4, en_at u x (by omega), if_neg (show ¬ j = 10 + 8 * b + 2 by omega), if_neg (show ¬ j = 10 + 8 * b + 4 by omega), if_neg (show ¬ j = 10 + 8 * b + 3 by omega), if_neg (show ¬ j = 10 + 8 * b + 0 by omega), if_neg (show ¬ j = 58 + 7 * l + 3 by omega), if_neg (show ¬ j = 58 + 7 * l + 2 by omega), if_neg (show ¬ j = 58 + 7 * l + 1 by omega)]
        by_cases hj7 : j = 7
        · rw [if_pos ⟨rfl, hj7⟩, if_pos hj7]
        · rw [if_neg (fun z => hj7 z.2), if_neg hj7]; exact W0 j hj hj4
    · rw [sold_1, m0 _ _ (by omega), m0 _ _ (by omega), m0 _ _ (by omega), m0 _ _ (by omega), m0 _ _ (by omega), m0 _ _ (by omega), rwS_at, if_neg (show ¬ 10 + 8 * i + j = 4 by omega), en_at u x (by omega)]
      by_cases hib : i = b
      · subst hib
        by_cases c4 : j = 4
        · subst c4
          rw [if_pos rfl, if_neg (show ¬ 10 + 8 * i + 4 = 10 + 8 * i + 2 by omega), if_pos rfl, W1 i 4 hi (by omega)]
          congr 1
          have e := W2 l 0 hlq (by omega)
          rw [Nat.add_zero] at e
          exact e
        · rw [if_neg (show ¬ 8 * i + j = 8 * i + 4 by omega)]
          by_cases c3 : j = 3
          · subst c3
            rw [if_pos rfl, if_neg (show ¬ 10 + 8 * i + 3 = 10 + 8 * i + 2 by omega), if_neg (show ¬ 10 + 8 * i + 3 = 10 + 8 * i + 4 by omega), if_pos rfl, W1 i 3 hi (by omega)]
          · rw [if_neg (show ¬ 8 * i + j = 8 * i + 3 by omega)]
            by_cases c2 : j = 2
            · subst c2
              rw [if_pos rfl, if_pos rfl, W1 i 2 hi (by omega)]
            · rw [if_neg (show ¬ 8 * i + j = 8 * i + 2 by omega)]
              by_cases c0 : j = 0
              · subst c0
                have e := W1 i 0 hi (by omega)
                rw [Nat.add_zero] at e
                rw [if_pos (show 8 * i + 0 = 8 * i by omega), if_neg (show ¬ 10 + 8 * i + 0 = 10 + 8 * i + 2 by omega), if_neg (show ¬ 10 + 8 * i + 0 = 10 + 8 * i + 4 by omega), if_neg (show ¬ 10 + 8 * i + 0 = 10 + 8 * i + 3 by omega), if_pos rfl, e, Int32.sub_eq_add_neg]
              · rw [if_neg (show ¬ 8 * i + j = 8 * i by omega), if_neg (by omega), if_neg (by omega), if_neg (by omega), if_neg (by omega), if_neg (by omega), if_neg (by omega), if_neg (by omega), if_neg (by omega)]
                exact W1 i j hi hj
      · rw [if_neg (by omega), if_neg (by omega), if_neg (by omega), if_neg (by omega), if_neg (by omega), if_neg (by omega), if_neg (by omega), if_neg (by omega), if_neg (by omega), if_neg (by omega), if_neg (by omega), if_neg (by omega)]
        exact W1 i j hi hj
    · rw [sold_2, m0 _ _ (by omega), rwS_at, if_neg (show ¬ 58 + 7 * i + j = 4 by omega), en_at u x (by omega), if_neg (show ¬ 58 + 7 * i + j = 10 + 8 * b + 2 by omega), if_neg (show ¬ 58 + 7 * i + j = 10 + 8 * b + 4 by omega), if_neg (show ¬ 58 + 7 * i + j = 10 + 8 * b + 3 by omega), if_neg (show ¬ 58 + 7 * i + j = 10 + 8 * b + 0 by omega)]
      by_cases c3 : 7 * i + j = 7 * l + 3
      · rw [if_pos c3, if_pos (show 58 + 7 * i + j = 58 + 7 * l + 3 by omega)]
      · rw [if_neg c3, if_neg (show ¬ 58 + 7 * i + j = 58 + 7 * l + 3 by omega)]
        by_cases c2 : 7 * i + j = 7 * l + 2
        · rw [if_pos c2, if_pos (show 58 + 7 * i + j = 58 + 7 * l + 2 by omega)]
        · rw [if_neg c2, if_neg (show ¬ 58 + 7 * i + j = 58 + 7 * l + 2 by omega)]
          by_cases c1 : 7 * i + j = 7 * l + 1
          · rw [if_pos c1, if_pos (show 58 + 7 * i + j = 58 + 7 * l + 1 by omega)]
          · rw [if_neg c1, if_neg (show ¬ 58 + 7 * i + j = 58 + 7 * l + 1 by omega), if_neg (show ¬ 58 + 7 * i + j = 7 by omega)]
            exact W2 i j hi hj
    · rw [en_at u x (by omega), if_neg (by omega), if_neg (by omega), if_neg (by omega), if_neg (by omega), if_neg (by omega), if_neg (by omega), if_neg (by omega), if_neg (by omega)]
      exact hN.1
    · rw [en_at u x (by omega), if_neg (by omega), if_neg (by omega), if_neg (by omega), if_neg (by omega), if_neg (by omega), if_neg (by omega), if_neg (by omega), if_neg (by omega)]
      exact hN.2 a p h1 h2 h3
end EX
