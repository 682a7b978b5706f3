/-! a round keeps the relation of the class's hall, the thought rows and the law's rows -/
/-- what has not come yet is 0 -/
def zrW (w : Nat → Nat → Int32) (n q : Nat) : Prop := (∀ j, 8 * n ≤ j → j < 24 → w 1 j = 0) ∧ ∀ j, 7 * q ≤ j → j < 56 → w 2 j = 0
def rnG (v : evVt) (u w : Nat → Nat → Int32) (n T g : Nat) (L : evLs) (len : Nat) : Prop := u 1 7 = -6 ∨ ∃ l G, l + 1 = g ∧ v 1 3 0 = nI l ∧ u 1 7 = nI l ∧ v 4 l 1 = 1 ∧ rRun v (u 1) l T n G ∧ gLs G L (fun t _ => t < T) n len ∧ w 0 8 = u 1 8
def pRel (v : evVt) (u w : Nat → Nat → Int32) (n q T lag g tot : Nat) : Prop := rFu v (u 1) n q T lag g tot ∧ (n ≤ 3 ∧ T < 16000) ∧ rowE w (u 1) n q ∧ zrW w n q ∧ ∃ L len, (w 0 9 = nI len ∧ len ≤ 128 ∧ w 0 10 = 0) ∧ lsE (w 3) (w 4) L len ∧ lsO L len ∧ ntE (u 1) L len ∧ rnG v u w n T g L len
section ZR
variable {w : Nat → Nat → Int32} {n q l : Nat} {H now : Int32}
theorem noW_1z (f : Nat → Int32) (k : Nat) (hk : k ≤ n) {j : Nat} (hj : 8 * n ≤ j) : noW w l H now f k 1 j = w 1 j := by
  induction k with
  | zero => rfl
  | succ k ih =>
    rw [noW_s]
    split
    · exact ih (by omega)
    · rw [ntW_1, if_neg (by omega), if_neg (by omega), ih (by omega)]
theorem zr_bg (I : lI w n q) (Z : zrW w n q) : zrW (bgA w q) n q := by
  unfold bgA
  split
  · rcases bgF_or w q q (Nat.le_refl q) with e | ⟨l, hl, -, e⟩
    · rw [e]; exact Z
    · rw [e]
      exact ⟨fun j h1 h2 => by rw [bgL_o (by omega) (by omega)]; exact Z.1 j h1 h2, fun j h1 h2 => by rw [bgL_2, if_neg (by omega)]; exact Z.2 j h1 h2⟩
  · exact Z
theorem zr_ron (I : lI w n q) (hl : l < q) (Z : zrW w n q) : zrW (ronW w l n) n q := by
  have hl8 : l < 8 := by have := I.2.2.1; omega
  obtain ⟨j1, j2⟩ := lI_ro I hl8
  have r1 : ∀ j, 8 * n ≤ j → roW1 w l n 1 j = w 1 j := fun j hj => by
    unfold roW1
    rw [noW_1z _ _ (Nat.le_refl n) hj, ms_at, if_neg (by omega), tzW_at w hj]
  have r2 : ∀ j, 7 * q ≤ j → roW1 w l n 2 j = w 2 j := fun j hj => by
    unfold roW1
    rw [noW_2o _ _ (by omega) (by omega), ms_at, if_neg (by omega), tzW_o w n (by omega)]
  have s1 : ∀ j, roW2 w l n 1 j = roW1 w l n 1 j := fun j => by
    unfold roW2
    rw [ms_at, if_neg (by omega), ms_at, if_neg (by omega)]
  have s2 : ∀ j, j ≠ 7 * l + 4 → roW2 w l n 2 j = roW1 w l n 2 j := fun j hj => by
    unfold roW2
    rw [ms_at, if_neg (by omega), ms_at, if_neg (by omega)]
  unfold ronW
  split
  · refine ⟨fun j h1 h2 => ?_, fun j h1 h2 => ?_⟩
    · unfold endW
      split
      · rw [ms_at, if_neg (by omega), ms_at, if_neg (by omega), s1, r1 _ h1]; exact Z.1 j h1 h2
      · rename_i h0
        rw [s2 _ (by omega)] at h0
        obtain ⟨b, hb, hwb⟩ := (j2 l hl8).resolve_left h0
        rw [s2 (7 * l + 6) (by omega), hwb, nI_cl b (by have := I.2.1; omega), sold_1, if_neg (by omega), if_neg (by omega), if_neg (by omega), if_neg (by omega), ms_at, if_neg (by omega), s1, r1 _ h1]
        exact Z.1 j h1 h2
    · rw [endW_2 (by omega) (by omega) (by omega), s2 _ (by omega), r2 _ h1]; exact Z.2 j h1 h2
  · exact ⟨fun j h1 h2 => by rw [s1, r1 _ h1]; exact Z.1 j h1 h2, fun j h1 h2 => by rw [s2 _ (by omega), r2 _ h1]; exact Z.2 j h1 h2⟩
theorem zr_rn (I : lI w n q) (Z : zrW w n q) : zrW (rnW w n q) n q := by
  have A := lI_bg I
  have B := zr_bg I Z
  unfold rnW
  generalize bgA w q = a at A B
  split
  · exact ⟨fun j h1 h2 => by rw [ms_at, if_neg (by omega)]; exact B.1 j h1 h2, fun j h1 h2 => by rw [ms_at, if_neg (by omega)]; exact B.2 j h1 h2⟩
  · rename_i h
    rcases A.2.2.2.2.2.1 with e | ⟨l, hl, e⟩
    · rw [e] at h
      exact absurd (by decide) h
    · rw [e, nI_cl _ (by have := A.2.2.1; omega)]
      exact zr_ron A hl B
/-- once the list has overflown, it stays so -/
theorem rn_10 (w : Nat → Nat → Int32) (n q : Nat) : rnW w n q 0 10 = w 0 10 ∨ rnW w n q 0 10 = 1 := by
  have hb : bgA w q 0 10 = w 0 10 := by
    unfold bgA
    split
    · rcases bgF_or w q q (Nat.le_refl q) with e | ⟨l, hl, -, e⟩
      · rw [e]
      · rw [e, bgL_0, if_neg (by omega), if_neg (by omega), if_neg (by omega)]
    · rfl
  have ho : ∀ a l, roW2 a l n 0 10 = a 0 10 ∨ roW2 a l n 0 10 = 1 := fun a l => by
    have e : roW2 a l n 0 10 = roW1 a l n 0 10 := by
      unfold roW2
      rw [ms_at, if_neg (by omega), ms_at, if_neg (by omega)]
    rw [e]
    have := noW_10 (ms (tzW a n) 0 8 (a 0 8 + 1)) l (a 2 (7 * l + 5)) (a 0 4) (bidsW a l n) n
    rw [ms_at, if_neg (by omega), tzW_o a n (by omega)] at this
    exact this
  unfold rnW
  split
  · rw [ms_at, if_neg (by omega), hb]; exact Or.inl rfl
  · unfold ronW
    split
    · rw [endW_0, if_neg (by omega), ← hb]; exact ho _ _
    · rw [← hb]; exact ho _ _
end ZR
section BA
variable {v : evVt} {u w : Nat → Nat → Int32} {n q g : Nat}
theorem bgF_rel (HE : rowE w (u 1) n q) (hq : q ≤ 8) (d : Nat) (hd : d ≤ q) : bgF w q d = if fwF (u 1) q d = -6 then w else bgL w (fwF (u 1) q d).toNatClampNeg := by
  induction d with
  | zero => rfl
  | succ d ih =>
    rw [bgF_s, ih (by omega)]
    show _ = if (if u 1 (58 + 7 * (q - (d + 1)) + 1) = 0 then nI (q - (d + 1)) else fwF (u 1) q d) = -6 then w else bgL w (if u 1 (58 + 7 * (q - (d + 1)) + 1) = 0 then nI (q - (d + 1)) else fwF (u 1) q d).toNatClampNeg
    rw [HE.2.2 (q - (d + 1)) 1 (by omega) (by omega)]
    by_cases h : u 1 (58 + 7 * (q - (d + 1)) + 1) = 0
    · rw [if_pos h, if_pos h, if_neg (nI_n6 (by omega)), nI_cl _ (by omega)]
    · rw [if_neg h, if_neg h]
theorem bgL_row (HE : rowE w (u 1) n q) (hq : q ≤ 8) (hn : n ≤ 6) (hg : g < q) : rowE (bgL w g) (bgU u g 1) n q := by
  refine ⟨fun j hj => ?_, fun i j hi hj => ?_, fun i j hi hj => ?_⟩
  · rw [bgL_0, if_neg (by omega), if_neg (by omega), bg_at, if_neg (show ¬ (114 ≤ j ∧ j < 328) by omega), if_neg (show ¬ j = 58 + 7 * g + 1 by omega), if_neg (show ¬ j = 9 by omega), if_neg (show ¬ j = 8 by omega)]
    by_cases h7 : j = 7
    · rw [if_pos h7, if_pos h7]
    · rw [if_neg h7, if_neg h7]; exact HE.1 j hj
  · rw [bgL_o (by omega) (by omega), bg_at, if_neg (show ¬ (114 ≤ 10 + 8 * i + j ∧ 10 + 8 * i + j < 328) by omega), if_neg (show ¬ 10 + 8 * i + j = 58 + 7 * g + 1 by omega), if_neg (show ¬ 10 + 8 * i + j = 9 by omega), if_neg (show ¬ 10 + 8 * i + j = 8 by omega), if_neg (show ¬ 10 + 8 * i + j = 7 by omega)]
    exact HE.2.1 i j hi hj
  · rw [bgL_2, bg_at, if_neg (show ¬ (114 ≤ 58 + 7 * i + j ∧ 58 + 7 * i + j < 328) by omega)]
    by_cases h1 : 7 * i + j = 7 * g + 1
    · rw [if_pos h1, if_pos (show 58 + 7 * i + j = 58 + 7 * g + 1 by omega)]
    · rw [if_neg h1, if_neg (show ¬ 58 + 7 * i + j = 58 + 7 * g + 1 by omega), if_neg (show ¬ 58 + 7 * i + j = 9 by omega), if_neg (show ¬ 58 + 7 * i + j = 8 by omega), if_neg (show ¬ 58 + 7 * i + j = 7 by omega)]
      exact HE.2.2 i j hi hj
end BA
