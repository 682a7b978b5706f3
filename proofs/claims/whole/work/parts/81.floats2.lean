/-! comparing floats; the bits of a float-/
section FC
variable {f : FP.Core.Fmt}
theorem cmpI_lt {a b : Int} (h : a < b) : compare a b = .lt := by
  show compareOfLessAndEq a b = .lt
  unfold compareOfLessAndEq
  rw [if_pos h]
theorem cmpI_gt {a b : Int} (h : b < a) : compare a b = .gt := by
  show compareOfLessAndEq a b = .gt
  unfold compareOfLessAndEq
  rw [if_neg (by omega), if_neg (by omega)]
theorem cmpI_eq (a : Int) : compare a a = .eq := by
  show compareOfLessAndEq a a = .eq
  unfold compareOfLessAndEq
  rw [if_neg (by omega), if_pos rfl]
theorem ord_n (c d : Nat) (q r : Int) : FP.Core.order (.fin false c q) (.fin false d r) = some (compare ((FP.Core.inUnits c q (min q r) : Nat) : Int) ((FP.Core.inUnits d r (min q r) : Nat) : Int)) := rfl
theorem inU_0 (c : Nat) (q : Int) : FP.Core.inUnits c q q = c := by
  unfold FP.Core.inUnits
  rw [show (q - q).toNat = 0 by omega, Nat.pow_zero, Nat.mul_one]
theorem nrm_lt (h : fOK f) {E T E2 : Nat} (h1 : 1 ≤ E) (h2 : E < E2) (hT : T < f.tails) (g2 : E2 ≤ 2 * f.emax) : FP.Core.cmp f (nrm f E T) (nrm f E2 0) = some .lt := by
  have ht := tails_pos f
  unfold FP.Core.cmp
  rw [nrm_dec h h1 (by omega) hT, nrm_dec h (by omega) g2 ht, ord_n, show min (f.qmin + ((E : Int) - 1)) (f.qmin + ((E2 : Int) - 1)) = f.qmin + ((E : Int) - 1) by omega, inU_0]
  congr 1
  apply cmpI_lt
  unfold FP.Core.inUnits
  have hp : 2 ≤ 2 ^ (f.qmin + ((E2 : Int) - 1) - (f.qmin + ((E : Int) - 1))).toNat := by
    have : 2 ^ 1 ≤ 2 ^ (f.qmin + ((E2 : Int) - 1) - (f.qmin + ((E : Int) - 1))).toNat := Nat.pow_le_pow_right (by omega) (by omega)
    omega
  have := Nat.mul_le_mul_left (f.tails + 0) hp
  omega
theorem nrm_ge (h : fOK f) {E T E2 : Nat} (h1 : 1 ≤ E2) (h2 : E2 ≤ E) (hT : T < f.tails) (g2 : E ≤ 2 * f.emax) : FP.Core.cmp f (nrm f E T) (nrm f E2 0) = some .gt ∨ FP.Core.cmp f (nrm f E T) (nrm f E2 0) = some .eq := by
  have ht := tails_pos f
  unfold FP.Core.cmp
  rw [nrm_dec h (by omega) g2 hT, nrm_dec h h1 (by omega) ht, ord_n, show min (f.qmin + ((E : Int) - 1)) (f.qmin + ((E2 : Int) - 1)) = f.qmin + ((E2 : Int) - 1) by omega, inU_0]
  unfold FP.Core.inUnits
  have hp : 1 ≤ 2 ^ (f.qmin + ((E : Int) - 1) - (f.qmin + ((E2 : Int) - 1))).toNat := Nat.two_pow_pos _
  have := Nat.mul_le_mul_left (f.tails + T) hp
  by_cases he : (f.tails + T) * 2 ^ (f.qmin + ((E : Int) - 1) - (f.qmin + ((E2 : Int) - 1))).toNat = f.tails + 0
  · right
    rw [he, cmpI_eq]
  · left
    rw [cmpI_gt (by omega)]
theorem nrm_g (h : fOK f) {E T E2 : Nat} (h1 : 1 ≤ E2) (h2 : E2 < E) (hT : T < f.tails) (g2 : E ≤ 2 * f.emax) : FP.Core.cmp f (nrm f E T) (nrm f E2 0) = some .gt := by
  have ht := tails_pos f
  unfold FP.Core.cmp
  rw [nrm_dec h (by omega) g2 hT, nrm_dec h h1 (by omega) ht, ord_n, show min (f.qmin + ((E : Int) - 1)) (f.qmin + ((E2 : Int) - 1)) = f.qmin + ((E2 : Int) - 1) by omega, inU_0]
  congr 1
  apply cmpI_gt
  unfold FP.Core.inUnits
  have hp : 2 ≤ 2 ^ (f.qmin + ((E : Int) - 1) - (f.qmin + ((E2 : Int) - 1))).toNat := by
    have : 2 ^ 1 ≤ 2 ^ (f.qmin + ((E : Int) - 1) - (f.qmin + ((E2 : Int) - 1))).toNat := Nat.pow_le_pow_right (by omega) (by omega)
    omega
  have := Nat.mul_le_mul_left (f.tails + T) hp
  omega
theorem dec_0 (h : fOK f) : FP.Core.decode f 0 = .fin false 0 f.qmin := by
  have he := h.2.1
  have fe : FP.Core.fieldE f 0 = 0 := by unfold FP.Core.fieldE; rw [Nat.zero_div, Nat.zero_mod]
  have ft : FP.Core.fieldT f 0 = 0 := by unfold FP.Core.fieldT; rw [Nat.zero_mod]
  have fs : FP.Core.fieldS f 0 = false := by unfold FP.Core.fieldS; rw [Nat.zero_div, Nat.zero_div]; rfl
  unfold FP.Core.decode
  rw [fe, ft, fs, if_neg (by omega), if_pos rfl]
theorem nrm_0 (h : fOK f) {E T : Nat} (h1 : 1 ≤ E) (h2 : E ≤ 2 * f.emax) (hT : T < f.tails) : FP.Core.cmp f (nrm f E T) 0 = some .gt := by
  have ht := tails_pos f
  unfold FP.Core.cmp
  rw [nrm_dec h h1 h2 hT, dec_0 h, ord_n]
  congr 1
  apply cmpI_gt
  unfold FP.Core.inUnits
  have := Nat.mul_pos (show 0 < f.tails + T by omega) (Nat.two_pow_pos (f.qmin + ((E : Int) - 1) - min (f.qmin + ((E : Int) - 1)) f.qmin).toNat)
  omega
theorem nrm_self (h : fOK f) {E T : Nat} (h1 : 1 ≤ E) (h2 : E ≤ 2 * f.emax) (hT : T < f.tails) : FP.Core.cmp f (nrm f E T) (nrm f E T) = some .eq := by
  unfold FP.Core.cmp
  rw [nrm_dec h h1 h2 hT, ord_n, cmpI_eq]
theorem z_self (h : fOK f) : FP.Core.cmp f 0 0 = some .eq := by
  unfold FP.Core.cmp
  rw [dec_0 h, ord_n, cmpI_eq]
theorem int_0 (h : fOK f) : FP.Core.fromInt f 0 = 0 := by
  have ht := tails_pos f
  show FP.Core.encode f (.fin false 0 f.qmin) = 0
  unfold FP.Core.encode
  dsimp only
  rw [if_pos ht]
  unfold FP.Core.assemble
  simp
theorem div_0 (h : fOK f) {E T : Nat} (h1 : 1 ≤ E) (h2 : E ≤ 2 * f.emax) (hT : T < f.tails) : FP.Core.div f 0 (nrm f E T) = 0 := by
  have ht := tails_pos f
  unfold FP.Core.div
  rw [nrm_dec h h1 h2 hT, dec_0 h]
  show FP.Core.encode f (if f.tails + T = 0 then _ else FP.Core.roundRatio f (false != false) 0 (f.tails + T) _) = 0
  rw [if_neg (by omega)]
  unfold FP.Core.roundRatio
  rw [if_pos rfl]
  show FP.Core.encode f (.fin false 0 f.qmin) = 0
  unfold FP.Core.encode
  dsimp only
  rw [if_pos ht]
  unfold FP.Core.assemble
  simp
end FC
theorem ok32 : fOK FP.Core.b32 := by unfold fOK; decide
theorem ok64 : fOK FP.Core.b64 := by unfold fOK; decide
def nf (E T : Nat) : UInt32 := UInt32.ofNat (nrm FP.Core.b32 E T)
def nd (E T : Nat) : UInt64 := UInt64.ofNat (nrm FP.Core.b64 E T)
theorem nrm32 (E T : Nat) : nrm FP.Core.b32 E T = E * 8388608 + T := rfl
theorem nrm64 (E T : Nat) : nrm FP.Core.b64 E T = E * 4503599627370496 + T := rfl
theorem nf_t {E T : Nat} (h2 : E ≤ 254) (hT : T < 8388608) : (nf E T).toNat = nrm FP.Core.b32 E T := by
  unfold nf
  rw [UInt32.toNat_ofNat', nrm32]
  exact Nat.mod_eq_of_lt (by omega)
theorem nd_t {E T : Nat} (h2 : E ≤ 2046) (hT : T < 4503599627370496) : (nd E T).toNat = nrm FP.Core.b64 E T := by
  unfold nd
  rw [UInt64.toNat_ofNat', nrm64]
  exact Nat.mod_eq_of_lt (by omega)
theorem nf_nn {E T : Nat} (h2 : E ≤ 254) (hT : T < 8388608) : nf E T &&& 0x7fffffff ≤ 0x7f800000 := by
  rw [UInt32.le_iff_toNat_le, UInt32.toNat_and, nf_t h2 hT, nrm32]
  refine Nat.le_trans Nat.and_le_left ?_
  show _ ≤ 2139095040
  omega
theorem nd_nn {E T : Nat} (h2 : E ≤ 2046) (hT : T < 4503599627370496) : nd E T &&& 0x7fffffffffffffff ≤ 0x7ff0000000000000 := by
  rw [UInt64.le_iff_toNat_le, UInt64.toNat_and, nd_t h2 hT, nrm64]
  refine Nat.le_trans Nat.and_le_left ?_
  show _ ≤ 9218868437227405312
  omega
theorem nf_mul {E T E2 E3 : Nat} (h1 : 1 ≤ E) (h2 : E ≤ 254) (hT : T < 8388608) (g1 : 1 ≤ E2) (g2 : E2 ≤ 254) (h3 : E3 + 127 = E + E2) (k1 : 1 ≤ E3) (k2 : E3 ≤ 254) : FP.fmul (nf E T) (nf E2 0) = nf E3 T := by
  show UInt32.ofNat (FP.Core.mul FP.Core.b32 (nf E T).toNat (nf E2 0).toNat) = _
  rw [nf_t h2 hT, nf_t g2 (by omega), nrm_mul ok32 h1 h2 hT g1 g2 h3 k1 k2]
  rfl
theorem nd_mul {E T E2 E3 : Nat} (h1 : 1 ≤ E) (h2 : E ≤ 2046) (hT : T < 4503599627370496) (g1 : 1 ≤ E2) (g2 : E2 ≤ 2046) (h3 : E3 + 1023 = E + E2) (k1 : 1 ≤ E3) (k2 : E3 ≤ 2046) : FP.dmul (nd E T) (nd E2 0) = nd E3 T := by
  show UInt64.ofNat (FP.Core.mul FP.Core.b64 (nd E T).toNat (nd E2 0).toNat) = _
  rw [nd_t h2 hT, nd_t g2 (by omega), nrm_mul ok64 h1 h2 hT g1 g2 h3 k1 k2]
  rfl
theorem nd_div {E T E2 E3 : Nat} (h1 : 1 ≤ E) (h2 : E ≤ 2046) (hT : T < 4503599627370496) (g1 : 1 ≤ E2) (g2 : E2 ≤ 2046) (h3 : E3 + E2 = E + 1023) (k1 : 1 ≤ E3) (k2 : E3 ≤ 2046) : FP.ddiv (nd E T) (nd E2 0) = nd E3 T := by
  show UInt64.ofNat (FP.Core.div FP.Core.b64 (nd E T).toNat (nd E2 0).toNat) = _
  rw [nd_t h2 hT, nd_t g2 (by omega), nrm_div2 ok64 h1 h2 hT g1 g2 h3 k1 k2]
  rfl
