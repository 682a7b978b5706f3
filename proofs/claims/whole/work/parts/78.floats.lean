/-! floats and doubles, as they are made -/
def fOK (f : FP.Core.Fmt) : Prop := 2 ≤ f.p ∧ f.exps = 2 * (f.emax + 1) ∧ 2 * f.p + 4 ≤ f.emax
def nrm (f : FP.Core.Fmt) (E T : Nat) : Nat := E * f.tails + T
section FL
variable {f : FP.Core.Fmt}
theorem tails_pos (f : FP.Core.Fmt) : 0 < f.tails := Nat.two_pow_pos _
theorem two_p (h : fOK f) : 2 ^ f.p = 2 * f.tails := by
  have h1 := h.1
  show 2 ^ f.p = 2 * 2 ^ (f.p - 1)
  rw [Nat.mul_comm, ← Nat.pow_succ]
  congr 1
  omega
theorem nrm_dec (h : fOK f) {E T : Nat} (h1 : 1 ≤ E) (h2 : E ≤ 2 * f.emax) (hT : T < f.tails) : FP.Core.decode f (nrm f E T) = .fin false (f.tails + T) (f.qmin + ((E : Int) - 1)) := by
  have ht := tails_pos f
  have d : nrm f E T / f.tails = E := by
    unfold nrm
    rw [Nat.mul_comm, Nat.mul_add_div ht, Nat.div_eq_of_lt hT, Nat.add_zero]
  have m : nrm f E T % f.tails = T := by
    unfold nrm
    rw [Nat.mul_comm, Nat.mul_add_mod, Nat.mod_eq_of_lt hT]
  have he := h.2.1
  have lt : E < f.exps := by omega
  have fe : FP.Core.fieldE f (nrm f E T) = E := by unfold FP.Core.fieldE; rw [d, Nat.mod_eq_of_lt lt]
  have ft : FP.Core.fieldT f (nrm f E T) = T := m
  have fs : FP.Core.fieldS f (nrm f E T) = false := by unfold FP.Core.fieldS; rw [d, Nat.div_eq_of_lt lt]; rfl
  unfold FP.Core.decode
  rw [fe, ft, fs, if_neg (by omega), if_neg (by omega)]
theorem nrm_enc {c : Nat} {E : Nat} {q : Int} (h1 : 1 ≤ E) (hq : q = f.qmin + ((E : Int) - 1)) (hc : f.tails ≤ c) : FP.Core.encode f (.fin false c q) = nrm f E (c - f.tails) := by
  have e : (q - f.qmin).toNat + 1 = E := by omega
  unfold FP.Core.encode
  dsimp only
  rw [if_neg (by omega), e]
  unfold FP.Core.assemble nrm
  simp
theorem log_of {c k : Nat} (h1 : 2 ^ k ≤ c) (h2 : c < 2 ^ (k + 1)) : c.log2 = k := (Nat.log2_eq_iff (by have := Nat.two_pow_pos k; omega)).mpr ⟨h1, h2⟩
theorem near_ex {c d : Nat} (hd : 0 < d) : FP.Core.nearest (c * d) d = c := by
  unfold FP.Core.nearest
  rw [Nat.mul_mod_left, if_pos (by omega), Nat.mul_div_cancel _ hd]
theorem rr_ex (h : fOK f) {num den c E : Nat} {e l q : Int} (hn : num ≠ 0) (hl : FP.Core.leading num den = l) (hq : q = l + e - ((f.p : Int) - 1)) (h1 : 1 ≤ E) (h2 : E ≤ 2 * f.emax) (hE : q = f.qmin + ((E : Int) - 1)) (hu : FP.Core.nearest (FP.Core.unitsNum num e q) (FP.Core.unitsDen den e q) = c) (hc : c < 2 * f.tails) : FP.Core.roundRatio f false num den e = .fin false c q := by
  have qn : FP.Core.quantum f num den e = q := by
    unfold FP.Core.quantum
    rw [hl, ← hq]
    have : f.qmin ≤ q := by omega
    omega
  have e1 : f.qmin = 2 - (f.emax : Int) - (f.p : Int) := rfl
  have e2 : f.qmax = (f.emax : Int) - (f.p : Int) + 1 := rfl
  unfold FP.Core.roundRatio
  rw [if_neg hn, qn]
  unfold FP.Core.roundAt
  rw [hu]
  unfold FP.Core.settle
  rw [two_p h, if_pos hc]
  unfold FP.Core.bound
  rw [if_pos (by omega)]
theorem lead_1 {c k : Nat} (h1 : 2 ^ k ≤ c) (h2 : c < 2 ^ (k + 1)) : FP.Core.leading c 1 = (k : Int) := by
  unfold FP.Core.leading
  rw [log_of h1 h2, show Nat.log2 1 = 0 by decide]
  have e1 : ((k : Int) - ((0 : Nat) : Int)).toNat = k := by omega
  have e2 : (-((k : Int) - ((0 : Nat) : Int))).toNat = 0 := by omega
  dsimp only
  rw [e1, e2, if_pos (by omega)]
  omega
theorem lead_d {c d k : Nat} (h1 : 2 ^ k ≤ c) (h2 : c < 2 ^ (k + 1)) (h3 : 2 ^ k ≤ d) (h4 : d < 2 ^ (k + 1)) : FP.Core.leading c d = if d ≤ c then 0 else -1 := by
  unfold FP.Core.leading
  rw [log_of h1 h2, log_of h3 h4]
  have e0 : ((k : Int) - (k : Int)) = 0 := by omega
  dsimp only
  rw [e0]
  simp only [Int.toNat_zero, Int.neg_zero, Nat.pow_zero, Nat.mul_one]
  split
  · rfl
  · rfl
theorem t_pow (f : FP.Core.Fmt) : f.tails = 2 ^ (f.p - 1) := rfl
/-- times a power of two -/
theorem nrm_mul (h : fOK f) {E T E2 E3 : Nat} (h1 : 1 ≤ E) (h2 : E ≤ 2 * f.emax) (hT : T < f.tails) (g1 : 1 ≤ E2) (g2 : E2 ≤ 2 * f.emax) (h3 : E3 + f.emax = E + E2) (k1 : 1 ≤ E3) (k2 : E3 ≤ 2 * f.emax) : FP.Core.mul f (nrm f E T) (nrm f E2 0) = nrm f E3 T := by
  have ht := tails_pos f
  have hp := h.1
  unfold FP.Core.mul
  rw [nrm_dec h h1 h2 hT, nrm_dec h g1 g2 ht, Nat.add_zero]
  show FP.Core.encode f (FP.Core.roundRatio f (false != false) ((f.tails + T) * f.tails) 1 (f.qmin + ((E : Int) - 1) + (f.qmin + ((E2 : Int) - 1)))) = _
  have e1 : f.qmin = 2 - (f.emax : Int) - (f.p : Int) := rfl
  have tp := t_pow f
  have lo : 2 ^ (2 * f.p - 2) ≤ (f.tails + T) * f.tails := by
    rw [show 2 * f.p - 2 = (f.p - 1) + (f.p - 1) by omega, Nat.pow_add, ← tp]
    exact Nat.mul_le_mul_right _ (by omega)
  have hi : (f.tails + T) * f.tails < 2 ^ (2 * f.p - 2 + 1) := by
    rw [show 2 * f.p - 2 + 1 = (f.p - 1 + 1) + (f.p - 1) by omega, Nat.pow_add, Nat.pow_succ, ← tp]
    exact Nat.mul_lt_mul_of_pos_right (by omega) ht
  have L := lead_1 lo hi
  have q : ∃ q : Int, q = f.qmin + ((E3 : Int) - 1) := ⟨_, rfl⟩
  obtain ⟨q, hq⟩ := q
  have hq2 : q = ((2 * f.p - 2 : Nat) : Int) + (f.qmin + ((E : Int) - 1) + (f.qmin + ((E2 : Int) - 1))) - ((f.p : Int) - 1) := by omega
  have u1 : FP.Core.unitsNum ((f.tails + T) * f.tails) (f.qmin + ((E : Int) - 1) + (f.qmin + ((E2 : Int) - 1))) q = (f.tails + T) * f.tails := by
    unfold FP.Core.unitsNum
    rw [show (f.qmin + ((E : Int) - 1) + (f.qmin + ((E2 : Int) - 1)) - q).toNat = 0 by omega, Nat.pow_zero, Nat.mul_one]
  have u2 : FP.Core.unitsDen 1 (f.qmin + ((E : Int) - 1) + (f.qmin + ((E2 : Int) - 1))) q = f.tails := by
    unfold FP.Core.unitsDen
    rw [show (q - (f.qmin + ((E : Int) - 1) + (f.qmin + ((E2 : Int) - 1)))).toNat = f.p - 1 by omega, Nat.one_mul]
    rfl
  have hn : (f.tails + T) * f.tails ≠ 0 := Nat.mul_ne_zero (by omega) (by omega)
  rw [show (false != false) = false from rfl, rr_ex (c := f.tails + T) h hn L hq2 k1 k2 hq (by rw [u1, u2]; exact near_ex ht) (by omega), nrm_enc k1 hq (by omega), Nat.add_sub_cancel_left]
/-- divided by a power of two -/
theorem nrm_div2 (h : fOK f) {E T E2 E3 : Nat} (h1 : 1 ≤ E) (h2 : E ≤ 2 * f.emax) (hT : T < f.tails) (g1 : 1 ≤ E2) (g2 : E2 ≤ 2 * f.emax) (h3 : E3 + E2 = E + f.emax) (k1 : 1 ≤ E3) (k2 : E3 ≤ 2 * f.emax) : FP.Core.div f (nrm f E T) (nrm f E2 0) = nrm f E3 T := by
  have ht := tails_pos f
  have hp := h.1
  unfold FP.Core.div
  rw [nrm_dec h h1 h2 hT, nrm_dec h g1 g2 ht, Nat.add_zero]
  show FP.Core.encode f (if f.tails = 0 then _ else FP.Core.roundRatio f (false != false) (f.tails + T) f.tails (f.qmin + ((E : Int) - 1) - (f.qmin + ((E2 : Int) - 1)))) = _
  rw [if_neg (by omega)]
  have e1 : f.qmin = 2 - (f.emax : Int) - (f.p : Int) := rfl
  have tp := t_pow f
  have tp2 : 2 ^ (f.p - 1 + 1) = 2 * f.tails := by rw [Nat.pow_succ, ← tp, Nat.mul_comm]
  have L := lead_d (c := f.tails + T) (d := f.tails) (k := f.p - 1) (by omega) (by omega) (by omega) (by omega)
  rw [if_pos (by omega)] at L
  have q : ∃ q : Int, q = f.qmin + ((E3 : Int) - 1) := ⟨_, rfl⟩
  obtain ⟨q, hq⟩ := q
  have hq2 : q = 0 + (f.qmin + ((E : Int) - 1) - (f.qmin + ((E2 : Int) - 1))) - ((f.p : Int) - 1) := by omega
  have u1 : FP.Core.unitsNum (f.tails + T) (f.qmin + ((E : Int) - 1) - (f.qmin + ((E2 : Int) - 1))) q = (f.tails + T) * f.tails := by
    unfold FP.Core.unitsNum
    rw [show (f.qmin + ((E : Int) - 1) - (f.qmin + ((E2 : Int) - 1)) - q).toNat = f.p - 1 by omega]
    rfl
  have u2 : FP.Core.unitsDen f.tails (f.qmin + ((E : Int) - 1) - (f.qmin + ((E2 : Int) - 1))) q = f.tails := by
    unfold FP.Core.unitsDen
    rw [show (q - (f.qmin + ((E : Int) - 1) - (f.qmin + ((E2 : Int) - 1)))).toNat = 0 by omega, Nat.pow_zero, Nat.mul_one]
  rw [show (false != false) = false from rfl, rr_ex (c := f.tails + T) h (by omega) L hq2 k1 k2 hq (by rw [u1, u2]; exact near_ex ht) (by omega), nrm_enc k1 hq (by omega), Nat.add_sub_cancel_left]
/-- a whole number -/
theorem nrm_int (h : fOK f) {a : Nat} (h0 : 0 < a) (ha : a < 2 * f.tails) : ∃ k T, k < f.p ∧ T < f.tails ∧ FP.Core.fromInt f (a : Int) = nrm f (f.emax + k) T ∧ (f.tails + T) = a * 2 ^ (f.p - 1 - k) := by
  have ht := tails_pos f
  have hp := h.1
  have hm := h.2.2
  have tp := t_pow f
  obtain ⟨l1, l2⟩ := (Nat.log2_eq_iff (n := a) (k := a.log2) (by omega)).mp rfl
  generalize hk : a.log2 = k at *
  have hkp : k < f.p := by
    rcases Nat.lt_or_ge k f.p with z | z
    · exact z
    · have := Nat.pow_le_pow_right (n := 2) (by omega) z
      rw [two_p h] at this
      omega
  have e1 : f.qmin = 2 - (f.emax : Int) - (f.p : Int) := rfl
  have L := lead_1 l1 l2
  have mul1 : 2 ^ k * 2 ^ (f.p - 1 - k) = f.tails := by rw [← Nat.pow_add, tp]; congr 1; omega
  have mul2 : 2 ^ (k + 1) * 2 ^ (f.p - 1 - k) = 2 * f.tails := by rw [Nat.pow_succ, Nat.mul_right_comm, mul1, Nat.mul_comm]
  have c1 : f.tails ≤ a * 2 ^ (f.p - 1 - k) := by rw [← mul1]; exact Nat.mul_le_mul_right _ l1
  have c2 : a * 2 ^ (f.p - 1 - k) < 2 * f.tails := by rw [← mul2]; exact Nat.mul_lt_mul_of_pos_right l2 (Nat.two_pow_pos _)
  have q : ∃ q : Int, q = f.qmin + (((f.emax + k : Nat) : Int) - 1) := ⟨_, rfl⟩
  obtain ⟨q, hq⟩ := q
  have hq2 : q = (k : Int) + 0 - ((f.p : Int) - 1) := by omega
  have u1 : FP.Core.unitsNum a 0 q = a * 2 ^ (f.p - 1 - k) := by
    unfold FP.Core.unitsNum
    rw [show ((0 : Int) - q).toNat = f.p - 1 - k by omega]
  have u2 : FP.Core.unitsDen 1 0 q = 1 := by
    unfold FP.Core.unitsDen
    rw [show (q - 0).toNat = 0 by omega, Nat.pow_zero]
  refine ⟨k, a * 2 ^ (f.p - 1 - k) - f.tails, hkp, by omega, ?_, by omega⟩
  unfold FP.Core.fromInt FP.Core.ofInt
  rw [show decide ((a : Int) < 0) = false by simp, show ((a : Int)).natAbs = a by omega]
  show FP.Core.encode f (FP.Core.roundRatio f false a 1 0) = _
  rw [rr_ex h (by omega) L hq2 (by omega) (by omega) hq (by rw [u1, u2]; have := near_ex (c := a * 2 ^ (f.p - 1 - k)) (d := 1) (by omega); rwa [Nat.mul_one] at this) c2, nrm_enc (by omega) hq c1]
theorem near_bd (n d : Nat) : n / d ≤ FP.Core.nearest n d ∧ FP.Core.nearest n d ≤ n / d + 1 := by
  unfold FP.Core.nearest
  split
  · omega
  · split
    · omega
    · have := Nat.mod_lt (n / d) (show 0 < 2 by omega)
      omega
/-- the quotient of two whole numbers -/
theorem nrm_quo (h : fOK f) {k1 k2 T1 T2 : Nat} (a1 : k1 < f.p) (a2 : k2 < f.p) (b1 : T1 < f.tails) (b2 : T2 < f.tails) : ∃ E T, 1 ≤ E ∧ E ≤ 2 * f.emax ∧ T < f.tails ∧ FP.Core.div f (nrm f (f.emax + k1) T1) (nrm f (f.emax + k2) T2) = nrm f E T ∧ (k1 < k2 ∨ k1 = k2 ∧ T1 ≤ T2 → E ≤ f.emax) := by
  have ht := tails_pos f
  have hp := h.1
  have hm := h.2.2
  have tp := t_pow f
  have tp2 : 2 ^ (f.p - 1 + 1) = 2 * f.tails := by rw [Nat.pow_succ, ← tp, Nat.mul_comm]
  have e1 : f.qmin = 2 - (f.emax : Int) - (f.p : Int) := rfl
  have e2 : f.qmax = (f.emax : Int) - (f.p : Int) + 1 := rfl
  have L := lead_d (c := f.tails + T1) (d := f.tails + T2) (k := f.p - 1) (by omega) (by omega) (by omega) (by omega)
  have D : FP.Core.div f (nrm f (f.emax + k1) T1) (nrm f (f.emax + k2) T2) = FP.Core.encode f (FP.Core.roundRatio f false (f.tails + T1) (f.tails + T2) ((k1 : Int) - (k2 : Int))) := by
    unfold FP.Core.div
    rw [nrm_dec h (by omega) (by omega) b1, nrm_dec h (by omega) (by omega) b2]
    show FP.Core.encode f (if f.tails + T2 = 0 then _ else FP.Core.roundRatio f (false != false) (f.tails + T1) (f.tails + T2) _) = _
    rw [if_neg (by omega)]
    congr 2
    omega
  rw [D]
  unfold FP.Core.roundRatio
  rw [if_neg (by omega)]
  -- the two cases
  have main : ∀ (l : Nat), l ≤ 1 → FP.Core.leading (f.tails + T1) (f.tails + T2) = -(l : Int) → (f.tails + T2) * f.tails ≤ (f.tails + T1) * 2 ^ (f.p - 1 + l) → (f.tails + T1) * 2 ^ (f.p - 1 + l) < (f.tails + T2) * (2 * f.tails) → ∃ E T, 1 ≤ E ∧ E ≤ 2 * f.emax ∧ T < f.tails ∧ FP.Core.encode f (FP.Core.roundAt f false (f.tails + T1) (f.tails + T2) ((k1 : Int) - (k2 : Int)) (FP.Core.quantum f (f.tails + T1) (f.tails + T2) ((k1 : Int) - (k2 : Int)))) = nrm f E T ∧ (E + k2 + l = f.emax + k1 ∨ E + k2 + l = f.emax + k1 + 1 ∧ T = 0) := by
    intro l hl hL lo hi
    have q : ∃ q : Int, q = -(l : Int) + ((k1 : Int) - (k2 : Int)) - ((f.p : Int) - 1) := ⟨_, rfl⟩
    obtain ⟨q, hq⟩ := q
    have qn : FP.Core.quantum f (f.tails + T1) (f.tails + T2) ((k1 : Int) - (k2 : Int)) = q := by
      unfold FP.Core.quantum
      rw [hL, ← hq]
      omega
    have u1 : FP.Core.unitsNum (f.tails + T1) ((k1 : Int) - (k2 : Int)) q = (f.tails + T1) * 2 ^ (f.p - 1 + l) := by
      unfold FP.Core.unitsNum
      rw [show ((k1 : Int) - (k2 : Int) - q).toNat = f.p - 1 + l by omega]
    have u2 : FP.Core.unitsDen (f.tails + T2) ((k1 : Int) - (k2 : Int)) q = f.tails + T2 := by
      unfold FP.Core.unitsDen
      rw [show (q - ((k1 : Int) - (k2 : Int))).toNat = 0 by omega, Nat.pow_zero, Nat.mul_one]
    have nb := near_bd ((f.tails + T1) * 2 ^ (f.p - 1 + l)) (f.tails + T2)
    have g1 : f.tails ≤ (f.tails + T1) * 2 ^ (f.p - 1 + l) / (f.tails + T2) := (Nat.le_div_iff_mul_le (by omega)).mpr (by rw [Nat.mul_comm]; exact lo)
    have g2 : (f.tails + T1) * 2 ^ (f.p - 1 + l) / (f.tails + T2) < 2 * f.tails := (Nat.div_lt_iff_lt_mul (by omega)).mpr (by rw [Nat.mul_comm (2 * f.tails)]; exact hi)
    unfold FP.Core.roundAt
    rw [qn, u1, u2]
    generalize FP.Core.nearest ((f.tails + T1) * 2 ^ (f.p - 1 + l)) (f.tails + T2) = N at *
    unfold FP.Core.settle
    rw [two_p h]
    by_cases hN : N < 2 * f.tails
    · rw [if_pos hN]
      unfold FP.Core.bound
      rw [if_pos (by omega)]
      refine ⟨f.emax + k1 - k2 - l, N - f.tails, by omega, by omega, by omega, nrm_enc (by omega) (by omega) (by omega), Or.inl (by omega)⟩
    · rw [if_neg hN]
      unfold FP.Core.bound
      rw [if_pos (by omega)]
      refine ⟨f.emax + k1 - k2 - l + 1, f.tails - f.tails, by omega, by omega, by omega, nrm_enc (by omega) (by omega) (Nat.le_refl _), Or.inr ⟨by omega, by omega⟩⟩
  by_cases hc : f.tails + T2 ≤ f.tails + T1
  · rw [if_pos hc] at L
    have tt : 2 ^ (f.p - 1 + 0) = f.tails := by rw [Nat.add_zero, ← tp]
    obtain ⟨E, T, m1, m2, m3, m4, m5⟩ := main 0 (by omega) (by rw [L]; rfl) (by rw [tt]; exact Nat.mul_le_mul_right _ hc) (by
      rw [tt, ← Nat.mul_assoc]
      exact Nat.mul_lt_mul_of_pos_right (by omega) ht)
    refine ⟨E, T, m1, m2, m3, m4, fun hk => ?_⟩
    rcases hk with hk | ⟨hk, hT⟩
    · omega
    · have hTT : T1 = T2 := by omega
      subst hTT
      rcases m5 with m5 | ⟨m5, m6⟩
      · omega
      · -- the quotient of two that are the same is 1
        exfalso
        have qe : FP.Core.quantum f (f.tails + T1) (f.tails + T1) ((k1 : Int) - (k2 : Int)) = -((f.p : Int) - 1) := by
          unfold FP.Core.quantum
          rw [L]
          omega
        have u1 : FP.Core.unitsNum (f.tails + T1) ((k1 : Int) - (k2 : Int)) (-((f.p : Int) - 1)) = f.tails * (f.tails + T1) := by
          unfold FP.Core.unitsNum
          rw [show ((k1 : Int) - (k2 : Int) - -((f.p : Int) - 1)).toNat = f.p - 1 by omega, Nat.mul_comm]
          rfl
        have u2 : FP.Core.unitsDen (f.tails + T1) ((k1 : Int) - (k2 : Int)) (-((f.p : Int) - 1)) = f.tails + T1 := by
          unfold FP.Core.unitsDen
          rw [show (-((f.p : Int) - 1) - ((k1 : Int) - (k2 : Int))).toNat = 0 by omega, Nat.pow_zero, Nat.mul_one]
        unfold FP.Core.roundAt at m4
        rw [qe, u1, u2, near_ex (by omega)] at m4
        unfold FP.Core.settle at m4
        rw [two_p h, if_pos (by omega)] at m4
        unfold FP.Core.bound at m4
        rw [if_pos (by omega), nrm_enc (E := f.emax) (by omega) (by omega) (Nat.le_refl _), m6, Nat.sub_self] at m4
        unfold nrm at m4
        have : f.emax = E := Nat.eq_of_mul_eq_mul_right ht (by omega)
        omega
  · rw [if_neg hc] at L
    have tt : 2 ^ (f.p - 1 + 1) = 2 * f.tails := tp2
    obtain ⟨E, T, m1, m2, m3, m4, m5⟩ := main 1 (by omega) (by rw [L]; rfl) (by
      rw [tt, ← Nat.mul_assoc]
      exact Nat.mul_le_mul_right _ (by omega)) (by
      rw [tt]
      exact Nat.mul_lt_mul_of_pos_right (by omega) (by omega))
    exact ⟨E, T, m1, m2, m3, m4, fun hk => by omega⟩
end FL
