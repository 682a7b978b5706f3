/-! bids as numbers: coins, round, bidder; what a bidder believes by the list is the greatest of what it hears -/
theorem nI_or (a b : Nat) : nI a ||| nI b = nI (a ||| b) := by
  refine Int32.toBitVec_inj.1 ?_
  show BitVec.ofNat 32 a ||| BitVec.ofNat 32 b = BitVec.ofNat 32 (a ||| b)
  refine BitVec.eq_of_getLsbD_eq fun i hi => ?_
  simp [hi]
theorem nI_ors {a k : Nat} (b : Nat) (h : a < 2 ^ k) : nI (2 ^ k * b) ||| nI a = nI (2 ^ k * b + a) := by
  rw [nI_or, Nat.two_pow_add_eq_or_of_lt h]
def encN (c t b : Nat) : Int32 := nI (131072 * c + (8 * t + b))
/-- what may be encoded -/
def eOK (c t b : Nat) : Prop := 0 < c ∧ c < 16384 ∧ t < 16384 ∧ b < 8
section EC
variable {c t b c' t' b' : Nat}
theorem encI_nI (h : eOK c t b) : encI (nI c) (nI t) (nI b) = encN c t b := by
  obtain ⟨h1, h2, h3, h4⟩ := h
  unfold encI encN
  rw [pk_shlN (n := c) (17 &&& 31) 17 (by decide) (by omega), pk_shlN (n := t) (3 &&& 31) 3 (by decide) (by omega)]
  rw [show c * 2 ^ 17 = 2 ^ 17 * c by omega, nI_ors c (show t * 2 ^ 3 < 2 ^ 17 by omega), show 2 ^ 17 * c + t * 2 ^ 3 = 2 ^ 3 * (2 ^ 14 * c + t) by omega, nI_ors _ (show b < 2 ^ 3 by omega)]
  congr 1
  omega
theorem coi_enc (h : eOK c t b) : coi (encN c t b) = nI c := by
  obtain ⟨h1, h2, h3, h4⟩ := h
  unfold coi encN
  rw [pk_ushrN (by omega) 17 17 (by decide)]
  congr 1
  omega
theorem rdo_enc (h : eOK c t b) : rdo (encN c t b) = nI t := by
  obtain ⟨h1, h2, h3, h4⟩ := h
  unfold rdo encN
  rw [pk_shrN (by omega) (3 &&& 31) 3 (by decide), pk_andN (by omega) 14 (by decide)]
  congr 1
  omega
theorem who_enc (h : eOK c t b) : encN c t b &&& 7 = nI b := by
  obtain ⟨h1, h2, h3, h4⟩ := h
  unfold encN
  rw [pk_andN (by omega) 3 (by decide)]
  congr 1
  omega
theorem low_enc (h : eOK c t b) : encN c t b &&& 131071 = nI (8 * t + b) := by
  obtain ⟨h1, h2, h3, h4⟩ := h
  unfold encN
  rw [pk_andN (by omega) 17 (by decide)]
  congr 1
  omega
theorem enc_ne0 (h : eOK c t b) : ¬ encN c t b = 0 := by
  obtain ⟨h1, h2, h3, h4⟩ := h
  unfold encN
  exact nI_ne0 (by omega) (by omega)
theorem coi_0 : coi 0 = 0 := by decide
theorem hiB_0 (h : eOK c t b) : hiB (encN c t b) 0 = true := by
  unfold hiB
  rw [if_pos rfl, coi_0, coi_enc h]
  exact decide_eq_true (nI_lt (a := 0) h.1 (by have := h.2.1; omega))
theorem hiB_enc (h : eOK c t b) (h' : eOK c' t' b') : hiB (encN c t b) (encN c' t' b') = true ↔ c' < c ∨ c = c' ∧ 8 * t + b < 8 * t' + b' := by
  obtain ⟨h1, h2, h3, h4⟩ := id h
  obtain ⟨g1, g2, g3, g4⟩ := id h'
  unfold hiB
  rw [if_neg (enc_ne0 h'), coi_enc h, coi_enc h', low_enc h, low_enc h']
  by_cases hc : c = c'
  · subst hc
    rw [if_pos rfl, decide_eq_true_eq, nI_ltI (by omega) (by omega)]
    omega
  · rw [if_neg (fun z => hc ((nI_eq (by omega) (by omega)).mp z)), decide_eq_true_eq, nI_ltI (by omega) (by omega)]
    omega
def decT (v : Int32) : evT := if v = 0 then (0, 0, -6) else (coi v, rdo v, v &&& 7)
theorem decT_0 : decT 0 = (0, 0, -6) := if_pos rfl
theorem decT_enc (h : eOK c t b) : decT (encN c t b) = (nI c, nI t, nI b) := by
  unfold decT
  rw [if_neg (enc_ne0 h), coi_enc h, rdo_enc h, who_enc h]
theorem ab_nI (h : eOK c t b) (h' : eOK c' t' b') : ab (nI c, nI t, nI b) (nI c', nI t', nI b') ↔ c' < c ∨ c = c' ∧ 8 * t + b < 8 * t' + b' := by
  obtain ⟨h1, h2, h3, h4⟩ := h
  obtain ⟨g1, g2, g3, g4⟩ := h'
  unfold ab
  simp only [nI_ltI (show c' < 2 ^ 31 by omega) (show c < 2 ^ 31 by omega), nI_ltI (show t < 2 ^ 31 by omega) (show t' < 2 ^ 31 by omega), nI_ltI (show b < 2 ^ 31 by omega) (show b' < 2 ^ 31 by omega), nI_eq (show c < 2 ^ 31 by omega) (show c' < 2 ^ 31 by omega), nI_eq (show t < 2 ^ 31 by omega) (show t' < 2 ^ 31 by omega)]
  omega
theorem hear_enc (h : eOK c t b) (h' : eOK c' t' b') : decT (if hiB (encN c t b) (encN c' t' b') = true then encN c t b else encN c' t' b') = hearT (decT (encN c' t' b')) (nI c) (nI t) (nI b) := by
  rw [decT_enc h']
  unfold hearT
  have hc : 0 < nI c := nI_lt (a := 0) h.1 (by have := h.2.1; omega)
  by_cases hh : hiB (encN c t b) (encN c' t' b') = true
  · rw [if_pos hh, if_pos, decT_enc h]
    exact ⟨hc, (ab_nI h h').mpr ((hiB_enc h h').mp hh)⟩
  · rw [if_neg hh, if_neg, decT_enc h']
    exact fun z => hh ((hiB_enc h h').mpr ((ab_nI h h').mp z.2))
theorem hear_0 (h : eOK c t b) : decT (if hiB (encN c t b) 0 = true then encN c t b else 0) = hearT (decT 0) (nI c) (nI t) (nI b) := by
  have hc : 0 < nI c := nI_lt (a := 0) h.1 (by have := h.2.1; omega)
  rw [if_pos (hiB_0 h), decT_enc h, decT_0]
  unfold hearT
  rw [if_pos ⟨hc, Or.inl hc⟩]
end EC
/-- a list of bids: coins, round, bidder -/
abbrev evLs : Type := Nat → Nat × Nat × Nat
def lsV (L : evLs) (i : Nat) : evT := (nI (L i).1, nI (L i).2.1, nI (L i).2.2)
/-- the rows hold the first len bids of L -/
def lsE (r3 r4 : Nat → Int32) (L : evLs) (len : Nat) : Prop := ∀ i, i < len → eOK (L i).1 (L i).2.1 (L i).2.2 ∧ bidE r3 r4 i = encN (L i).1 (L i).2.1 (L i).2.2
section BL
variable {r0 r3 r4 : Nat → Int32} {L : evLs} {len T lag bb : Nat}
theorem mxQ_single (s : evT) : mxQ (fun z => z = s) s := by
  refine ⟨fun _ => ⟨rfl, ?_⟩, ?_⟩
  · rintro z rfl h0 hc
    rw [ab_int] at hc
    omega
  · rintro h0 z rfl
    exact h0
theorem bl_mx (hL : lsE r3 r4 L len) (hlag : lag ≤ 5) (q0 : r0 0 = nI lag) (q4 : r0 4 = nI T) (hT : T < 16384) (ht : ∀ i, i < len → (L i).2.1 < T) (hb : bb < 8) (k : Nat) (hk : k ≤ len) : (blF r0 r3 r4 (nI bb) k = 0 ∨ ∃ c t b, eOK c t b ∧ blF r0 r3 r4 (nI bb) k = encN c t b) ∧ mxP (fun s => ∃ i, i < k ∧ ((L i).2.2 = bb ∨ (L i).2.1 + lag < T) ∧ s = lsV L i) (decT (blF r0 r3 r4 (nI bb) k)) := by
  induction k with
  | zero =>
    refine ⟨Or.inl rfl, ?_⟩
    show mxP _ (decT 0)
    rw [decT_0]
    exact mx_zero (fun s ⟨i, hi, _⟩ => absurd hi (Nat.not_lt_zero i))
  | succ k ih =>
    obtain ⟨i1, i2⟩ := ih (by omega)
    obtain ⟨ho, he⟩ := hL k (by omega)
    rw [blF_s, he]
    have hr : hrB r0 (nI bb) (encN (L k).1 (L k).2.1 (L k).2.2) = true ↔ (L k).2.2 = bb ∨ (L k).2.1 + lag < T := by
      have htk := ht k (by omega)
      unfold hrB
      rw [who_enc ho, rdo_enc ho, q0, q4, pk_sub (by omega), Bool.or_eq_true, decide_eq_true_eq, decide_eq_true_eq, nI_eq (by have := ho.2.2.2; omega) (by omega), nI_ltI (by omega) (by omega)]
      constructor
      · rintro (h | h)
        · exact Or.inl h
        · exact Or.inr (by omega)
      · rintro (h | h)
        · exact Or.inl h
        · exact Or.inr (by omega)
    by_cases hh : hrB r0 (nI bb) (encN (L k).1 (L k).2.1 (L k).2.2) = true
    · simp only [hh, Bool.true_and]
      have hd : decT (if hiB (encN (L k).1 (L k).2.1 (L k).2.2) (blF r0 r3 r4 (nI bb) k) = true then encN (L k).1 (L k).2.1 (L k).2.2 else blF r0 r3 r4 (nI bb) k) = hearT (decT (blF r0 r3 r4 (nI bb) k)) (nI (L k).1) (nI (L k).2.1) (nI (L k).2.2) := by
        rcases i1 with e | ⟨c, t, b, ho', e⟩
        · rw [e]; exact hear_0 ho
        · rw [e]; exact hear_enc ho ho'
      refine ⟨?_, ?_⟩
      · split
        · exact Or.inr ⟨_, _, _, ho, rfl⟩
        · exact i1
      · rw [hd]
        refine mx_congr (fun s h0 => ?_) (mx_hear i2 (mxQ_single (nI (L k).1, nI (L k).2.1, nI (L k).2.2)))
        constructor
        · rintro (⟨i, hi, h1, h2⟩ | h)
          · exact ⟨i, by omega, h1, h2⟩
          · exact ⟨k, by omega, hr.mp hh, h⟩
        · rintro ⟨i, hi, h1, h2⟩
          by_cases hik : i = k
          · subst hik; exact Or.inr h2
          · exact Or.inl ⟨i, by omega, h1, h2⟩
    · have hh' : hrB r0 (nI bb) (encN (L k).1 (L k).2.1 (L k).2.2) = false := by simpa using hh
      simp only [hh', Bool.false_and, Bool.false_eq_true, if_false]
      refine ⟨i1, mx_congr (fun s h0 => ?_) i2⟩
      constructor
      · rintro ⟨i, hi, h1, h2⟩
        exact ⟨i, by omega, h1, h2⟩
      · rintro ⟨i, hi, h1, h2⟩
        by_cases hik : i = k
        · subst hik; exact absurd (hr.mpr h1) hh
        · exact ⟨i, by omega, h1, h2⟩
end BL
/-- the list holds the bids of G in the rounds ahead of T -/
def gLs (G : Nat → Nat → Int32) (L : evLs) (S : Nat → Nat → Prop) (n len : Nat) : Prop := (∀ i, i < len → G (L i).2.1 (L i).2.2 = nI (L i).1 ∧ S (L i).2.1 (L i).2.2 ∧ (L i).2.2 < n) ∧ ∀ t k, S t k → k < n → 0 < G t k → ∃ i, i < len ∧ (L i).2.1 = t ∧ (L i).2.2 = k
theorem gLs_gB {G : Nat → Nat → Int32} {L : evLs} {S S' : Nat → Nat → Prop} {n len : Nat} (hn : n ≤ 6) (hG : rG G n) (h : gLs G L S n len) (s : evT) (h0 : 0 < s.1) (hS : ∀ t k, S' t k → S t k) : gB G S' s ↔ ∃ i, i < len ∧ S' (L i).2.1 (L i).2.2 ∧ s = lsV L i := by
  constructor
  · rintro ⟨t, k, h1, h2, rfl⟩
    have hkn : k < n := by
      rcases Nat.lt_or_ge k n with z | z
      · exact z
      · rw [hG t k z] at h0
        exact absurd h0 (show ¬ (0 : Int32) < 0 by decide)
    obtain ⟨i, hi, rfl, rfl⟩ := h.2 t k (hS t k h1) hkn h0
    exact ⟨i, hi, h1, by unfold lsV; rw [(h.1 i hi).1]⟩
  · rintro ⟨i, hi, h1, rfl⟩
    obtain ⟨g1, g2, g3⟩ := h.1 i hi
    exact ⟨_, _, h1, by omega, by unfold lsV; rw [g1]⟩
/-- what the law's list makes believe is what the thought rows make believe -/
theorem bl_all {v : evVt} {r r0 r3 r4 : Nat → Int32} {G : Nat → Nat → Int32} {L : evLs} {n T lag len b : Nat} (hn : n ≤ 6) (hb : b < n) (hl : lag ≤ 5) (r4' : r 4 = nI T) (hG : rG G n) (hB : rBest v r G (fun t _ => t < T)) (ho : rOld r G T) (hr : rRec r G T) (hL : lsE r3 r4 L len) (hS : gLs G L (fun t _ => t < T) n len) (q0 : r0 0 = nI lag) (q4 : r0 4 = nI T) (hT : T < 16384) : allT r lag b n = decT (blF r0 r3 r4 (nI b) len) ∧ (blF r0 r3 r4 (nI b) len = 0 ∨ ∃ c t b', eOK c t b' ∧ blF r0 r3 r4 (nI b) len = encN c t b') := by
  have A := all_mx hn hb hl r4' hB ho hr n (Nat.le_refl n)
  obtain ⟨h1, M⟩ := bl_mx hL hl q0 q4 hT (fun i hi => (hS.1 i hi).2.1) (show b < 8 by omega) len (Nat.le_refl len)
  refine ⟨mx_uniq A (mx_congr (fun s h0 => ?_) M), h1⟩
  rw [gLs_gB hn hG hS s h0 (fun t k z => by omega)]
  constructor
  · rintro ⟨i, hi, z, e⟩
    have g := hS.1 i hi
    refine ⟨i, hi, ?_, e⟩
    by_cases hc : (L i).2.2 = b
    · exact Or.inl ⟨g.2.1, hc⟩
    · exact Or.inr ⟨by omega, g.2.2, hc⟩
  · rintro ⟨i, hi, z, e⟩
    exact ⟨i, hi, by omega, e⟩
