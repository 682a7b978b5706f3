/-! what the class tells is what the law's rows hold -/
section FA
variable {v : evVt} {u a p : Nat → Nat → Int32} {n q T lag g tot : Nat}
theorem of_a (P : pRel v u a n q T lag g tot) {k j : Nat} (hk : k < n) (hj : j < 7) : ofS v k (nI j) = a 1 (8 * k + j) := by
  obtain ⟨HF, ⟨hn3, hT⟩, HE, -⟩ := P
  have hB := HF.1.1.2.1
  rw [HE.2.1 k j hk (by omega), hB.1 k j hk (by omega)]
  rcases (show j = 0 ∨ j = 1 ∨ j = 2 ∨ j = 3 ∨ j = 4 ∨ j = 5 ∨ j = 6 by omega) with rfl | rfl | rfl | rfl | rfl | rfl | rfl <;> rfl
theorem of_9 (P : pRel v u a n q T lag g tot) {k : Nat} (hk : k < n) : ofS v k 9 = a 1 (8 * k + 7) := by
  obtain ⟨HF, ⟨hn3, hT⟩, HE, -⟩ := P
  have hB := HF.1.1.2.1
  rw [HE.2.1 k 7 hk (by omega), hB.1 k 7 hk (by omega)]
  rfl
/-- what a bidder believes by the list; 0 where no lot runs -/
def blA0 (a : Nat → Nat → Int32) (k : Nat) : Int32 := if a 0 7 < 0 then 0 else blF (a 0) (a 3) (a 4) (nI k) (lenW a)
theorem of_78 (P : pRel v u a n q T lag g tot) {k : Nat} (hk : k < n) : ofS v k 7 = coi (blA0 a k) ∧ ofS v k 8 = if blA0 a k = 0 then -6 else blA0 a k &&& 7 := by
  obtain ⟨HF, ⟨hn3, hT⟩, HE, HZ, L, len, ⟨h9, hlen, w10⟩, hL, hO, hN, HR⟩ := P
  obtain ⟨⟨HN, HB, HL, hg, ⟨HM, ht⟩, HA⟩, -⟩ := HF.1
  have e7 : ofS v k 7 = if v 1 3 0 = -6 then 0 else blP v k 1 := rfl
  have e8 : ofS v k 8 = if v 1 3 0 = -6 then -6 else blP v k 0 := rfl
  have w7 := HE.1 7 (by omega)
  rw [e7, e8]
  unfold blA0
  rcases HR with hr7 | ⟨l, G, hlg, h13, h7, h41, HRR, hS, h8⟩
  · have a1 : v 1 3 0 = -6 := by
      rcases HA with ⟨z, -⟩ | ⟨l', G', e1, e2, e3, -⟩
      · exact z
      · exact absurd (e3.symm.trans hr7) (nI_n6 (by have := HL.1; have := HN.2.1; omega))
    rw [if_pos a1, if_pos a1, w7, hr7, if_pos (by decide)]
    exact ⟨rfl, rfl⟩
  · have hl8 : l < 8 := by have := HL.1; have := HN.2.1; omega
    have n6 : ¬ v 1 3 0 = -6 := by rw [h13]; exact nI_n6 (by omega)
    rw [if_neg n6, if_neg n6, w7, h7, if_neg (nI_pos (by omega)), lenW_nI hlen h9]
    obtain ⟨n1, n2, n3, n4, n5, n6', ⟨n7, n7'⟩, n8, n9⟩ := HN
    obtain ⟨r1, r2, r3, r4, r5, r6, r7⟩ := id HRR
    have q0 : a 0 0 = nI lag := (HE.1 0 (by omega)).trans n8
    have q4 : a 0 4 = nI T := (HE.1 4 (by omega)).trans n7'
    have s0 : setAt v 0 = nI lag := by rw [← n8, ← n9 0 (by omega)]; exact setAt_nI v (j := 0) (by omega)
    obtain ⟨A1, A2⟩ := bl_all (b := k) n1 hk n3 n7' r1 r2 r3 r4 hL hS q0 q4 (by omega)
    have A3 := bel_eq n1 hk n3 (by omega) n7 s0 n7' r1 r2 r3 r4 r5
    have A := A3.symm.trans A1
    generalize blF (a 0) (a 3) (a 4) (nI k) len = x at A A2
    have c1 : blP v k 1 = (decT x).1 := congrArg (fun z : evT => z.1) A
    have c0 : blP v k 0 = (decT x).2.2 := congrArg (fun z : evT => z.2.2) A
    rw [c1, c0]
    unfold decT
    by_cases hx : x = 0
    · rw [if_pos hx, if_pos hx, hx]
      exact ⟨coi_0.symm, rfl⟩
    · rw [if_neg hx, if_neg hx]
      exact ⟨rfl, rfl⟩
theorem ofL_a (P : pRel v u a n q T lag g tot) {l j : Nat} (hl : l < q) (hj : j < 7) : ofL v l (nI j) = a 2 (7 * l + j) := by
  obtain ⟨HF, ⟨hn3, hT⟩, HE, -⟩ := P
  obtain ⟨x0, x1, x2, x3, x4, x5, x6⟩ := HF.1.1.2.2.1.2.1 l hl
  rw [HE.2.2 l j hl hj]
  rcases (show j = 0 ∨ j = 1 ∨ j = 2 ∨ j = 3 ∨ j = 4 ∨ j = 5 ∨ j = 6 by omega) with rfl | rfl | rfl | rfl | rfl | rfl | rfl
  · exact x0.symm
  · exact x1.symm
  · exact x5.symm
  · exact x6.symm
  · exact x2.symm
  · exact x3.symm
  · exact x4.symm
/-- how many bids are known -/
def knN (len : Nat) : Nat := if len < 40 then len else 40
theorem knN_le (len : Nat) : knN len ≤ len ∧ knN len ≤ 40 := by
  unfold knN
  split <;> omega
theorem kn_tot (P : pRel v u a n q T lag g tot) {len : Nat} (h9 : a 0 9 = nI len) (hlen : len ≤ 128) : (if tot < 40 then tot else 40) = knN len ∧ v 7 0 0 = nI tot ∧ tot < 2 ^ 20 := by
  obtain ⟨HF, ⟨hn3, hT⟩, HE, HZ, L, len', ⟨h9', hlen', w10⟩, hL, hO, hN, HR⟩ := P
  obtain rfl : len = len' := (nI_eq (by omega) (by omega)).mp (h9.symm.trans h9')
  obtain ⟨⟨m1, m2, m3⟩, ht⟩ := HF.1.1.2.2.2.2.1
  refine ⟨?_, m2, by omega⟩
  have := m1.symm.trans hN.1
  unfold knN
  refine (nI_eq ?_ ?_).mp this
  · split <;> omega
  · split <;> omega
theorem made_a (P : pRel v u a n q T lag g tot) {len : Nat} (h9 : a 0 9 = nI len) (hlen : len ≤ 128) {ago : Nat} (ha : ago < knN len) : rcK (nI ago) (v 7 0 0) = true ∧ ∀ f j, j < 4 → (∀ i, i < 160 → f i = v 8 i 0) → rcAt f (v 7 0 0) (nI ago) (nI j) = u 1 (168 + 4 * ago + j) := by
  obtain ⟨k1, k2, k3⟩ := kn_tot P h9 hlen
  have hat : ago < tot ∧ ago < 40 := by
    have := knN_le len
    split at k1 <;> omega
  obtain ⟨⟨m1, m2, m3⟩, ht⟩ := P.1.1.1.2.2.2.2.1
  refine ⟨?_, fun f j hj hf => ?_⟩
  · unfold rcK
    rw [k2, Bool.and_eq_true, Bool.and_eq_true, decide_eq_true_eq, decide_eq_true_eq, decide_eq_true_eq]
    exact ⟨nI_pos' (by omega), nI_lt (b := 40) hat.2 (by omega), nI_lt hat.1 (by omega)⟩
  · have eP : rcP (v 7 0 0) (nI ago) (nI j) = nI (4 * ((tot - 1 - ago) % 40) + j) := by
      unfold rcP
      rw [k2, show nI tot - 1 = nI (tot - 1) from pk_sub (b := 1) (by omega), pk_sub (by omega), show (40 : Int32) = nI 40 from rfl, fmod_nI (by omega) (by omega) (by omega), show (4 : Int32) = nI 4 from rfl, pk_mul, nI_add]
      congr 1
      omega
    have h160 : 4 * ((tot - 1 - ago) % 40) + j < 160 := by omega
    unfold rcAt
    rw [eP, if_pos ⟨nI_pos' (by omega), nI_lt (b := 160) h160 (by omega)⟩, nI_cl _ (by omega), hf _ h160]
    exact (m3 ago j hat.1 hat.2 hj).symm
theorem made_no (P : pRel v u a n q T lag g tot) {len : Nat} (h9 : a 0 9 = nI len) (hlen : len ≤ 128) : rcK (nI (knN len)) (v 7 0 0) = false := by
  obtain ⟨k1, k2, k3⟩ := kn_tot P h9 hlen
  rw [k2, ← k1]
  unfold rcK
  by_cases h : tot < 40
  · rw [if_pos h, decide_eq_false (p := nI tot < nI tot) (Int32.lt_irrefl), Bool.and_false, Bool.and_false]
  · rw [if_neg h, decide_eq_false (p := nI 40 < 40) (by decide), Bool.false_and, Bool.and_false]
/-- sums over bidders, and how many lots are sold, by the rows -/
def alR (a : Nat → Nat → Int32) (j : Nat) : Nat → Int32
  | 0 => 0
  | b + 1 => alR a j b + a 1 (8 * b + j)
def sdR (a : Nat → Nat → Int32) : Nat → Int32
  | 0 => 0
  | l + 1 => sdR a l + (if a 2 (7 * l + 1) = 2 then 1 else 0)
theorem al_sum (P : pRel v u a n q T lag g tot) {j : Nat} (hj : j < 8) (k : Nat) (hk : k ≤ n) : sumV v (bp j) k = alR a j k := by
  obtain ⟨HF, ⟨hn3, hT⟩, HE, -⟩ := P
  induction k with
  | zero => rfl
  | succ k ih =>
    rw [sumV_s, ih (by omega)]
    show _ = alR a j k + a 1 (8 * k + j)
    rw [HE.2.1 k j (by omega) hj, HF.1.1.2.1.1 k j (by omega) hj]
theorem sd_sum (P : pRel v u a n q T lag g tot) (k : Nat) (hk : k ≤ q) : soldV v k = sdR a k := by
  obtain ⟨HF, ⟨hn3, hT⟩, HE, -⟩ := P
  induction k with
  | zero => rfl
  | succ k ih =>
    have e : a 2 (7 * k + 1) = v 4 k 1 := (HE.2.2 k 1 (by omega) (by omega)).trans (HF.1.1.2.2.1.2.1 k (by omega)).2.1
    rw [soldV_s, ih (by omega)]
    show _ = sdR a k + (if a 2 (7 * k + 1) = 2 then 1 else 0)
    rw [e]
    split
    · rfl
    · exact (Int32.add_zero _).symm
theorem cnt_a (P : pRel v u a n q T lag g tot) (p : Nat → Nat → Int32) : cntC v p n q 0 = a 0 4 ∧ cntC v p n q 1 = a 0 5 ∧ cntC v p n q 2 = a 0 6 ∧ cntC v p n q 3 = a 0 7 ∧ cntC v p n q 4 = sdR a q ∧ cntC v p n q 5 = alR a 3 n ∧ cntC v p n q 6 = alR a 5 n ∧ cntC v p n q 7 = alR a 6 n ∧ ∀ j, j < 4 → cntC v p n q (8 + nI j) = a 0 j := by
  have hs := sd_sum P q (Nat.le_refl q)
  have h3 := al_sum P (j := 3) (by omega) n (Nat.le_refl n)
  have h5 := al_sum P (j := 5) (by omega) n (Nat.le_refl n)
  have h6 := al_sum P (j := 6) (by omega) n (Nat.le_refl n)
  obtain ⟨HF, ⟨hn3, hT⟩, HE, HZ, L, len, hl, hL, hO, hN, HR⟩ := P
  obtain ⟨⟨HN, HB, HL, hg, ⟨HM, ht⟩, HA⟩, -⟩ := HF.1
  obtain ⟨n1, n2, n3, n4, n5, n6, n7, n8, n9⟩ := HN
  have h13 : v 1 3 0 = u 1 7 := by
    rcases HA with ⟨a1, a2⟩ | ⟨l, G, a1, a2, a3, -⟩
    · rw [a1, a2]
    · rw [a2, a3]
  refine ⟨?_, ?_, ?_, ?_, hs, h3, h5, h6, fun j hj => ?_⟩
  · show v 1 4 0 = _; rw [HE.1 4 (by omega), n7.1, n7.2]
  · show v 1 0 0 = _; rw [HE.1 5 (by omega), n5.1, n5.2]
  · show v 1 1 0 = _; rw [HE.1 6 (by omega), n6.1, n6.2]
  · show v 1 3 0 = _; rw [HE.1 7 (by omega), h13]
  · rw [HE.1 j (by omega), ← n9 j hj]
    rcases (show j = 0 ∨ j = 1 ∨ j = 2 ∨ j = 3 by omega) with rfl | rfl | rfl | rfl
    · exact setAt_nI v (j := 0) (by omega)
    · exact setAt_nI v (j := 1) (by omega)
    · exact setAt_nI v (j := 2) (by omega)
    · exact setAt_nI v (j := 3) (by omega)
end FA
