/-! what the law's bidder bids is what the thought rows bid -/
def rowE (w : Nat → Nat → Int32) (r : Nat → Int32) (n q : Nat) : Prop := (∀ j, j < 8 → w 0 j = r j) ∧ (∀ i j, i < n → j < 8 → w 1 (8 * i + j) = r (10 + 8 * i + j)) ∧ ∀ i j, i < q → j < 7 → w 2 (7 * i + j) = r (58 + 7 * i + j)
theorem toN {x : Int32} {m : Nat} (hm : m < 2 ^ 31) (h0 : 0 ≤ x.toInt) (h1 : x.toInt ≤ m) : ∃ k, k ≤ m ∧ x = nI k := by
  obtain ⟨j, hj, rfl⟩ := nI_of (x := x) (fun z => by rw [Int32.lt_iff_toInt_lt] at z; have : (0 : Int32).toInt = 0 := rfl; omega)
  rw [nI_toInt hj] at h1
  exact ⟨j, by omega, rfl⟩
section CB
variable {w : Nat → Nat → Int32} {r : Nat → Int32} {n q l len b lag s : Nat}
theorem lim_rel (HE : rowE w r n q) (hb : b < n) (hl : l < q) : limW w l b = limT r l b := by
  have e0 := HE.2.1 b 0 hb (by omega)
  have e1 := HE.2.1 b 1 hb (by omega)
  have e2 := HE.2.2 l 0 hl (by omega)
  rw [Nat.add_zero] at e0 e2
  unfold limW limT
  rw [e0, e1, e2]
theorem lim_le (r : Nat → Int32) (l b : Nat) : (limT r l b).toInt ≤ (r (10 + 8 * b + 0)).toInt := by
  unfold limT
  split
  · rename_i h
    rw [Int32.lt_iff_toInt_lt] at h
    omega
  · exact Int.le_refl _
theorem ch_bid (HE : rowE w r n q) (hb : b < n) (hn : n ≤ 6) (hl : l < q) (hp : (r (10 + 8 * b + 0)).toInt ≤ 9999) (hs : r 1 = nI s) (hs9 : s ≤ 99) (hA : allT r lag b n = decT (blF (w 0) (w 3) (w 4) (nI b) len)) (hv : blF (w 0) (w 3) (w 4) (nI b) len = 0 ∨ ∃ c t b', eOK c t b' ∧ blF (w 0) (w 3) (w 4) (nI b) len = encN c t b') : chI w l len b = bidV r lag n l b ∧ ∃ x, x ≤ 9999 ∧ chI w l len b = nI x := by
  have e0 := HE.2.1 b 0 hb (by omega)
  have e7 := HE.2.1 b 7 hb (by omega)
  have hL := lim_rel HE hb hl
  have hle := lim_le r l b
  have w1 : w 0 1 = nI s := (HE.1 1 (by omega)).trans hs
  rw [Nat.add_zero] at e0
  unfold chI bidV
  rw [hL, hA]
  generalize blF (w 0) (w 3) (w 4) (nI b) len = v at hv
  have ht : (0 < w 1 (8 * b + 7) ∧ w 1 (8 * b + 7) ≤ w 1 (8 * b)) ↔ toldB r b = true := by
    unfold toldB
    rw [e7, e0, Bool.and_eq_true, decide_eq_true_eq, decide_eq_true_eq]
  by_cases htold : toldB r b = true
  · rw [if_pos (ht.mpr htold), if_pos htold]
    refine ⟨e7, ?_⟩
    obtain ⟨a1, a2⟩ := ht.mpr htold
    rw [pos_int] at a1
    rw [e0, Int32.le_iff_toInt_le] at a2
    exact toN (m := 9999) (by omega) (by omega) (by omega)
  · rw [if_neg (fun z => htold (ht.mp z)), if_neg htold]
    rcases hv with rfl | ⟨c, t, b', ho, rfl⟩
    · have ew : wantI (w 0) (nI b) 0 = nI s := by unfold wantI; rw [if_pos rfl, w1]
      have n6 : ¬ (-6 : Int32) = nI b := fun z => nI_n6 (by omega) z.symm
      rw [ew, decT_0]
      have e : (0 : Int32) + nI s = nI s := Int32.zero_add _
      simp only [n6, not_false_eq_true, true_and, hs, e]
      split
      · exact ⟨s, by omega, rfl⟩
      · exact ⟨0, by omega, rfl⟩
    · have n0 := enc_ne0 ho
      obtain ⟨h1, h2, h3, h4⟩ := id ho
      rw [decT_enc ho]
      by_cases hw : nI b' = nI b
      · have ew : wantI (w 0) (nI b) (encN c t b') = 99999 := by unfold wantI; rw [if_neg n0, if_pos (by rw [who_enc ho]; exact hw)]
        have hbig : ¬ (99999 : Int32) ≤ limT r l b := fun z => by
          rw [Int32.le_iff_toInt_le] at z
          have : (99999 : Int32).toInt = 99999 := rfl
          omega
        rw [ew, if_neg hbig, if_neg (fun z => z.1 hw)]
        exact ⟨rfl, 0, by omega, rfl⟩
      · have ew : wantI (w 0) (nI b) (encN c t b') = nI (c + s) := by unfold wantI; rw [if_neg n0, if_neg (by rw [who_enc ho]; exact hw), coi_enc ho, w1, nI_add]
        rw [ew]
        simp only [hw, not_false_eq_true, true_and, hs, nI_add]
        split
        · rename_i hc
          rw [Int32.le_iff_toInt_le, nI_toInt (by omega)] at hc
          exact ⟨c + s, by omega, rfl⟩
        · exact ⟨0, by omega, rfl⟩
end CB
/-! the list grows -/
def bfL (L : evLs) (R : Nat) : Nat → Nat
  | 0 => 0
  | i + 1 => if (L i).2.1 < R ∧ bfL L R i < (L i).1 then (L i).1 else bfL L R i
theorem bfL_s (L : evLs) (R i : Nat) : bfL L R (i + 1) = if (L i).2.1 < R ∧ bfL L R i < (L i).1 then (L i).1 else bfL L R i := rfl
theorem bfL_congr {L L' : evLs} (R : Nat) (i : Nat) (h : ∀ j, j < i → L' j = L j) : bfL L' R i = bfL L R i := by
  induction i with
  | zero => rfl
  | succ i ih =>
    rw [bfL_s, bfL_s, ih (fun j hj => h j (by omega)), h i (by omega)]
theorem bfL_max (L : evLs) (R k : Nat) : (∀ i, i < k → (L i).2.1 < R → (L i).1 ≤ bfL L R k) ∧ (bfL L R k = 0 ∨ ∃ i, i < k ∧ (L i).2.1 < R ∧ (L i).1 = bfL L R k) := by
  induction k with
  | zero => exact ⟨fun i hi => absurd hi (Nat.not_lt_zero i), Or.inl rfl⟩
  | succ k ih =>
    obtain ⟨i1, i2⟩ := ih
    rw [bfL_s]
    split
    · rename_i h
      refine ⟨fun i hi hR => ?_, Or.inr ⟨k, by omega, h.1, rfl⟩⟩
      by_cases hik : i = k
      · rw [hik]; exact Nat.le_refl _
      · have := i1 i (by omega) hR
        omega
    · rename_i h
      refine ⟨fun i hi hR => ?_, ?_⟩
      · by_cases hik : i = k
        · subst hik
          omega
        · exact i1 i (by omega) hR
      · rcases i2 with z | ⟨i, hi, h1, h2⟩
        · exact Or.inl z
        · exact Or.inr ⟨i, by omega, h1, h2⟩
def LsS (L : evLs) (k : Nat) (e : Nat × Nat × Nat) : evLs := fun i => if i = k then e else L i
theorem LsS_k (L : evLs) (k : Nat) (e : Nat × Nat × Nat) : LsS L k e k = e := if_pos rfl
theorem LsS_o (L : evLs) {k i : Nat} (e : Nat × Nat × Nat) (h : i ≠ k) : LsS L k e i = L i := if_neg h
/-- what of a bid is noted -/
def noteN (L : evLs) (i p : Nat) : Int32 := if p = 0 then nI (L i).2.2 else if p = 1 then nI (L i).1 else if p = 2 then nI (L i).2.1 else if (L i).1 ≤ bfL L (L i).2.1 i then 1 else 0
theorem noteN_congr {L L' : evLs} (i p : Nat) (h : ∀ j, j ≤ i → L' j = L j) : noteN L' i p = noteN L i p := by
  unfold noteN
  rw [h i (Nat.le_refl i), bfL_congr _ i (fun j hj => h j (by omega))]
def ntE (r : Nat → Int32) (L : evLs) (len : Nat) : Prop := r 9 = nI (if len < 40 then len else 40) ∧ ∀ a p, a < len → a < 40 → p < 4 → r (168 + 4 * a + p) = noteN L (len - 1 - a) p
/-- in the order of rounds and bidders -/
def lsO (L : evLs) (len : Nat) : Prop := ∀ i j, i < j → j < len → (L i).2.1 < (L j).2.1 ∨ (L i).2.1 = (L j).2.1 ∧ (L i).2.2 < (L j).2.2
theorem bidE_ntC {w : Nat → Nat → Int32} {len i : Nat} {v : Int32} (hl : len < 128) (hi : i ≤ len) : bidE (ntC w len v 3) (ntC w len v 4) i = if i = len then v else bidE (w 3) (w 4) i := by
  unfold bidE ntC
  by_cases h1 : len < 64
  · have i6 : i < 64 := by omega
    have n30 : ¬ (3 : Nat) = 0 := by omega
    simp only [h1, i6, if_true, ms_at, n30, false_and, if_false, true_and]
  · rw [if_neg h1, if_pos hl]
    by_cases h2 : i < 64
    · rw [if_pos h2, if_pos h2, ms_at, if_neg (by omega), ms_at, if_neg (by omega), if_neg (by omega)]
    · rw [if_neg h2, if_neg h2, ms_at, if_neg (by omega), ms_at]
      by_cases h3 : i = len
      · subst h3; rw [if_pos ⟨rfl, rfl⟩, if_pos rfl]
      · rw [if_neg (by omega), if_neg h3]
theorem bidE_nt {w : Nat → Nat → Int32} {l len k i : Nat} {x H now : Int32} (hl : len < 128) (hi : i ≤ len) : bidE (ntW w l len k x H now 3) (ntW w l len k x H now 4) i = if i = len then encI x now (nI k) else bidE (w 3) (w 4) i := by
  unfold ntW
  rw [bidE_ntC hl hi]
  have e3 : ntB (ntA w k (if x ≤ H then 1 else 0)) l k x 3 = w 3 := funext fun j => by rw [ntB_o (by omega), ntA_o (by omega) (by omega)]
  have e4 : ntB (ntA w k (if x ≤ H then 1 else 0)) l k x 4 = w 4 := funext fun j => by rw [ntB_o (by omega), ntA_o (by omega) (by omega)]
  rw [e3, e4]
section NR
variable {w u : Nat → Nat → Int32} {n q l len k : Nat} {x H now : Int32}
theorem nt_row (HE : rowE w (u 1) n q) (hk : k < n) (hn : n ≤ 6) (hl : l < q) (hq : q ≤ 8) : rowE (ntW w l len k x H now) (nbU u l k x (shB x H) 1) n q := by
  obtain ⟨E0, E1, E2⟩ := HE
  refine ⟨fun j hj => ?_, fun i j hi hj => ?_, fun i j hi hj => ?_⟩
  · rw [nbU_lo _ _ _ _ _ (by omega)]
    by_cases h8 : j = 8 ∨ j = 9 ∨ j = 10
    · omega
    · unfold ntW
      rw [ntC_o (by omega) (by omega) (by omega), ntB_o (by omega), ntA_o (by omega) (by omega)]
      exact E0 j hj
  · rw [ntW_1]
    by_cases h6 : 8 * i + j = 8 * k + 6
    · have e1 : i = k := by omega
      have e2 : j = 6 := by omega
      subst e1 e2
      rw [if_pos rfl, nb_6 (u := u) (l := l) (k := i) (x := x) (s := shB x H) (by omega) (by omega), E1 i 6 hi (by omega)]
      rfl
    · rw [if_neg h6]
      by_cases h5 : 8 * i + j = 8 * k + 5
      · have e1 : i = k := by omega
        have e2 : j = 5 := by omega
        subst e1 e2
        rw [if_pos rfl, nb_5 (u := u) (l := l) (k := i) (x := x) (s := shB x H) (by omega) (by omega), E1 i 5 hi (by omega)]
      · rw [if_neg h5, nb_o (u := u) (l := l) (k := k) (x := x) (s := shB x H) (by omega) (by omega) (by omega) (by omega) (by omega) (by omega) (by omega) (by omega) (by omega) (by omega)]
        exact E1 i j hi hj
  · rw [ntW_2, E2 l 5 hl (by omega)]
    obtain ⟨g5, g6⟩ := nb_h (u := u) (l := l) (k := k) (x := x) (s := shB x H) (by omega) (by omega)
    by_cases h6 : 7 * i + j = 7 * l + 6
    · have e1 : i = l := by omega
      have e2 : j = 6 := by omega
      subst e1 e2
      rw [if_pos rfl, g6, E2 i 6 hi (by omega)]
    · rw [if_neg h6]
      by_cases h5 : 7 * i + j = 7 * l + 5
      · have e1 : i = l := by omega
        have e2 : j = 5 := by omega
        subst e1 e2
        rw [if_pos rfl, g5, E2 i 5 hi (by omega)]
      · rw [if_neg h5, nb_o (u := u) (l := l) (k := k) (x := x) (s := shB x H) (by omega) (by omega) (by omega) (by omega) (by omega) (by omega) (by omega) (by omega) (by omega) (by omega)]
        exact E2 i j hi hj
/-- the state while bids are noted: rows alike, the list L of len bids, those of G -/
def nSt (w u : Nat → Nat → Int32) (G : Nat → Nat → Int32) (L : evLs) (S : Nat → Nat → Prop) (n q T len : Nat) (H : Int32) : Prop := rowE w (u 1) n q ∧ (w 0 9 = nI len ∧ len ≤ 128 ∧ w 0 10 = 0) ∧ lsE (w 3) (w 4) L len ∧ lsO L len ∧ gLs G L S n len ∧ ntE (u 1) L len ∧ H = nI (bfL L T len) ∧ bfL L T len ≤ 9999
theorem nt_st {G : Nat → Nat → Int32} {L : evLs} {T c : Nat} (hS : nSt w u G L (fun t i => t < T ∨ t = T ∧ i < k) n q T len H) (hk : k < n) (hn : n ≤ 3) (hl : l < q) (hq : q ≤ 8) (hT : T < 16384) (hc0 : 0 < c) (hc : c ≤ 9999) (hG : G T k = nI c) (h4 : u 1 4 = nI T) (h10 : ntW w l len k (nI c) H (nI T) 0 10 = 0) : nSt (ntW w l len k (nI c) H (nI T)) (nbU u l k (nI c) (shB (nI c) H)) G (LsS L len (c, T, k)) (fun t i => t < T ∨ t = T ∧ i < k + 1) n q T (len + 1) H := by
  obtain ⟨S1, ⟨S2, S3, S4⟩, S5, S6, S7, S8, S9, S10⟩ := hS
  have hlen : len < 128 := by
    rcases Nat.lt_or_ge len 128 with z | z
    · exact z
    · exfalso
      unfold ntW at h10
      rw [ntC_10, if_neg (by omega)] at h10
      exact absurd h10 (by decide)
  have ho : eOK c T k := ⟨hc0, by omega, hT, by omega⟩
  have hold : ∀ i, i < len → LsS L len (c, T, k) i = L i := fun i hi => LsS_o L _ (by omega)
  have hb : bfL (LsS L len (c, T, k)) T (len + 1) = bfL L T len := by
    rw [bfL_s, LsS_k, if_neg (fun z => absurd z.1 (Nat.lt_irrefl T)), bfL_congr _ _ hold]
  refine ⟨nt_row S1 hk (by omega) hl hq, ⟨?_, by omega, h10⟩, fun i hi => ?_, fun i j hij hj => ?_, ⟨fun i hi => ?_, fun t i hti hi hg => ?_⟩, ⟨?_, fun a p h1 h2 h3 => ?_⟩, by rw [hb]; exact S9, by rw [hb]; exact S10⟩
  · rw [ntW_9 S3 S2, if_pos hlen]
  · rw [bidE_nt hlen (by omega)]
    by_cases hil : i = len
    · subst hil
      rw [if_pos rfl, LsS_k]
      exact ⟨ho, encI_nI ho⟩
    · rw [if_neg hil, LsS_o L _ hil]
      exact S5 i (by omega)
  · by_cases hjl : j = len
    · subst hjl
      rw [LsS_k, LsS_o L _ (by omega)]
      have := (S7.1 i hij).2.1
      show (L i).2.1 < T ∨ (L i).2.1 = T ∧ (L i).2.2 < k
      exact this
    · rw [LsS_o L _ hjl, LsS_o L _ (by omega)]
      exact S6 i j hij (by omega)
  · by_cases hil : i = len
    · subst hil
      rw [LsS_k]
      exact ⟨hG, Or.inr ⟨rfl, Nat.lt_succ_self k⟩, hk⟩
    · rw [LsS_o L _ hil]
      obtain ⟨a1, a2, a3⟩ := S7.1 i (by omega)
      refine ⟨a1, ?_, a3⟩
      rcases a2 with z | z
      · exact Or.inl z
      · exact Or.inr ⟨z.1, by omega⟩
  · by_cases hn' : t = T ∧ i = k
    · obtain ⟨rfl, rfl⟩ := hn'
      exact ⟨len, by omega, by rw [LsS_k], by rw [LsS_k]⟩
    · obtain ⟨j, hj, e1, e2⟩ := S7.2 t i (by omega) hi hg
      exact ⟨j, by omega, by rw [hold j hj]; exact e1, by rw [hold j hj]; exact e2⟩
  · obtain ⟨m1, -⟩ := nb_m (u := u) (l := l) (k := k) (x := nI c) (s := shB (nI c) H) (by omega) (by omega)
    rw [m1, S8.1]
    exact nI_min (by omega)
  · obtain ⟨m1, m2, m3, m4, m5, m6⟩ := nb_m (u := u) (l := l) (k := k) (x := nI c) (s := shB (nI c) H) (by omega) (by omega)
    cases a with
    | zero =>
      rw [show len + 1 - 1 - 0 = len by omega]
      unfold noteN
      rw [LsS_k]
      rcases (show p = 0 ∨ p = 1 ∨ p = 2 ∨ p = 3 by omega) with rfl | rfl | rfl | rfl
      · exact m2
      · exact m3
      · rw [show 168 + 4 * 0 + 2 = 170 by omega, m4]; exact h4
      · rw [show 168 + 4 * 0 + 3 = 171 by omega, m5]
        have eb : bfL (LsS L len (c, T, k)) T len = bfL L T len := bfL_congr _ _ hold
        rw [if_neg (show ¬ (3 : Nat) = 0 by omega), if_neg (show ¬ (3 : Nat) = 1 by omega), if_neg (show ¬ (3 : Nat) = 2 by omega)]
        show _ = if c ≤ bfL (LsS L len (c, T, k)) T len then 1 else 0
        rw [eb]
        unfold shB
        rw [S9]
        by_cases hcb : c ≤ bfL L T len
        · rw [if_pos (nI_le hcb (by omega)), if_pos hcb]; rfl
        · rw [if_neg (nI_ge (by omega) (by omega)), if_neg hcb]; rfl
    | succ a =>
      rw [m6 _ (by omega) (by omega), show 168 + 4 * (a + 1) + p - 4 = 168 + 4 * a + p by omega, S8.2 a p (by omega) (by omega) h3, show len + 1 - 1 - (a + 1) = len - 1 - a by omega]
      exact (noteN_congr _ _ (fun j hj => hold j (by omega))).symm
end NR
