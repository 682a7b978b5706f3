/-! the model: rounds -/
theorem fwF_r (r : Nat → Int32) (n : Nat) (d : Nat) (hd : d ≤ n) : fwF r n d = -6 ∨ ∃ j, j < n ∧ fwF r n d = nI j := by
  induction d with
  | zero => exact Or.inl rfl
  | succ d ih =>
    show (if r (58 + 7 * (n - (d + 1)) + 1) = 0 then nI (n - (d + 1)) else fwF r n d) = -6 ∨ ∃ j, j < n ∧ (if r (58 + 7 * (n - (d + 1)) + 1) = 0 then nI (n - (d + 1)) else fwF r n d) = nI j
    split
    · exact Or.inr ⟨n - (d + 1), by omega, rfl⟩
    · exact ih (by omega)
theorem nI_n6 {k : Nat} (hk : k < 2 ^ 31) : ¬ nI k = -6 := by
  intro q
  have := nI_pos hk
  rw [q] at this
  exact absurd this (by decide)
def rdA (u : Nat → Nat → Int32) (q : Nat) : Nat → Nat → Int32 := if u 1 7 = -6 ∧ ¬ fwF (u 1) q q = -6 then bgU u (fwF (u 1) q q).toNatClampNeg else u
def rdB (v : Nat → Nat → Int32) (lag n : Nat) : Nat → Nat → Int32 := if v 1 7 = -6 then v else roU v lag n (v 1 7).toNatClampNeg
def rdI (v : Nat → Nat → Int32) (lag n : Nat) : Bool := if v 1 7 = -6 then false else roI (roE v lag n (v 1 7).toNatClampNeg)
def rdU (u : Nat → Nat → Int32) (lag n q : Nat) : Nat → Nat → Int32 := ms (rdB (rdA u q) lag n) 1 4 (rdB (rdA u q) lag n 1 4 + 1)
/-- what the model's row keeps to -/
def mInv (u : Nat → Nat → Int32) (lag n q : Nat) : Prop := n ≤ 6 ∧ lag ≤ 5 ∧ q ≤ 8 ∧ u 1 5 = nI n ∧ u 1 0 = nI lag ∧ u 1 6 = nI q ∧ (u 1 7 = -6 ∨ ∃ l, l < 8 ∧ u 1 7 = nI l) ∧ ∀ l, l < 8 → u 1 (58 + 7 * l + 6) = -6 ∨ ∃ b, b < 6 ∧ u 1 (58 + 7 * l + 6) = nI b
theorem bgU_lo (u : Nat → Nat → Int32) (l : Nat) {j : Nat} (hj : j < 7) : bgU u l 1 j = u 1 j := by
  unfold bgU bgV
  rw [if_neg (by omega), ms_at, if_neg (by omega), ms_at, if_neg (by omega), ms_at, if_neg (by omega), ms_at, if_neg (by omega)]
theorem bgU_7 (u : Nat → Nat → Int32) (l : Nat) : bgU u l 1 7 = nI l := by
  unfold bgU bgV
  rw [if_neg (by omega), ms_at, if_neg (by omega), ms_at, if_neg (by omega), ms_at, if_neg (by omega), ms_at, if_pos ⟨rfl, rfl⟩]
theorem bgU_w (u : Nat → Nat → Int32) (l : Nat) {k : Nat} (hk : k < 8) : bgU u l 1 (58 + 7 * k + 6) = u 1 (58 + 7 * k + 6) := by
  unfold bgU bgV
  rw [if_neg (by omega), ms_at, if_neg (by omega), ms_at, if_neg (by omega), ms_at, if_neg (by omega), ms_at, if_neg (by omega)]
theorem tzU_w (u : Nat → Nat → Int32) {n : Nat} (hn : n ≤ 6) {j : Nat} (hj : 58 ≤ j) : tzU u n 1 j = u 1 j := by
  induction n with
  | zero => rfl
  | succ n ih =>
    show ms (tzU u n) 1 (10 + 8 * n + 7) 0 1 j = _
    rw [ms_at, if_neg (by omega), ih (by omega)]
theorem nbU_w (u : Nat → Nat → Int32) {l k : Nat} (x s : Int32) (hk : k < 6) {i : Nat} (hi : i < 8) : nbU u l k x s 1 (58 + 7 * i + 6) = u 1 (58 + 7 * i + 6) ∨ nbU u l k x s 1 (58 + 7 * i + 6) = nI k := by
  have e : kmU (kbU (a2U (a1U u k) k s) 114 k x (a2U (a1U u k) k s 1 4)) (nI k) x s 1 (58 + 7 * i + 6) = u 1 (58 + 7 * i + 6) := by
    rw [kmU_lo _ _ _ _ (by omega) (by omega), kbU_lo _ _ _ _ (by omega)]
    unfold a2U a1U
    rw [ms_at, if_neg (by omega), ms_at, if_neg (by omega)]
  unfold nbU hiU
  split
  · rw [ms_at]
    split
    · exact Or.inr rfl
    · rw [ms_at, if_neg (by omega), e]
      exact Or.inl rfl
  · exact Or.inl e
theorem mbU_w (H : Int32) (l : Nat) (u : Nat → Nat → Int32) {n : Nat} (hn : n ≤ 6) {i : Nat} (hi : i < 8) : mbU H l u n 1 (58 + 7 * i + 6) = u 1 (58 + 7 * i + 6) ∨ ∃ b, b < 6 ∧ mbU H l u n 1 (58 + 7 * i + 6) = nI b := by
  induction n with
  | zero => exact Or.inl rfl
  | succ n ih =>
    show mbS H l n (mbU H l u n) 1 (58 + 7 * i + 6) = _ ∨ ∃ b, b < 6 ∧ mbS H l n (mbU H l u n) 1 (58 + 7 * i + 6) = nI b
    unfold mbS
    split
    · rcases nbU_w (mbU H l u n) (l := l) (mbU H l u n 7 n) (shB (mbU H l u n 7 n) H) (by omega : n < 6) hi with e | e
      · rw [e]; exact ih (by omega)
      · exact Or.inr ⟨n, by omega, e⟩
    · exact ih (by omega)
theorem roE_w (u : Nat → Nat → Int32) (lag : Nat) {n l : Nat} (hn : n ≤ 6) (hl : l < 8) {i : Nat} (hi : i < 8) : roE u lag n l 1 (58 + 7 * i + 6) = u 1 (58 + 7 * i + 6) ∨ ∃ b, b < 6 ∧ roE u lag n l 1 (58 + 7 * i + 6) = nI b := by
  have e : roE u lag n l 1 (58 + 7 * i + 6) = roB (roA u lag n l) n l 1 (58 + 7 * i + 6) := by
    unfold roE roD
    rw [ms_at, if_neg (by omega)]
    unfold roC
    rw [grU_lo _ _ (by omega), ms_at, if_neg (by omega)]
  have e2 : roA u lag n l 1 (58 + 7 * i + 6) = u 1 (58 + 7 * i + 6) := by
    unfold roA
    rw [tzU_w _ hn (by omega), setB_1, bsU_1]
  rw [e, ← e2]
  exact mbU_w _ _ _ hn hi
theorem enU_lo (u : Nat → Nat → Int32) {l n : Nat} (hw : u 1 (58 + 7 * l + 6) = -6 ∨ ∃ b, b < 6 ∧ u 1 (58 + 7 * l + 6) = nI b) {j : Nat} (hj : j < 7) : enU u l n 1 j = u 1 j := by
  unfold enU
  split
  · rw [ms_at, if_neg (by omega), ms_at, if_neg (by omega)]
  · unfold enB enA adU enS
    rw [ms_at, if_neg (by omega), ms_at, if_neg (by omega), ms_at, if_neg (by omega), ms_at, if_neg (by omega), ms_at, if_neg (by omega), ms_at, if_neg (by omega), ms_at, if_neg (by omega), ms_at, if_neg (by omega)]
theorem enU_7 (u : Nat → Nat → Int32) {l n : Nat} : enU u l n 1 7 = -6 := by
  unfold enU
  split
  · rw [ms_at, if_neg (by omega), ms_at, if_pos ⟨rfl, rfl⟩]
  · unfold enB enA adU enS
    rw [ms_at, if_neg (by omega), ms_at, if_neg (by omega), ms_at, if_neg (by omega), ms_at, if_neg (by omega), ms_at, if_neg (by omega), ms_at, if_neg (by omega), ms_at, if_neg (by omega), ms_at, if_pos ⟨rfl, rfl⟩]
theorem enU_w (u : Nat → Nat → Int32) {l n : Nat} (hw : u 1 (58 + 7 * l + 6) = -6 ∨ ∃ b, b < 6 ∧ u 1 (58 + 7 * l + 6) = nI b) {i : Nat} : enU u l n 1 (58 + 7 * i + 6) = u 1 (58 + 7 * i + 6) := by
  unfold enU
  rcases hw with hw | ⟨b, hb, hw⟩
  · rw [if_pos hw, ms_at, if_neg (by omega), ms_at, if_neg (by omega)]
  · rw [hw, if_neg (nI_n6 (by omega)), nI_cl b (by omega)]
    unfold enB enA adU enS
    rw [ms_at, if_neg (by omega), ms_at, if_neg (by omega), ms_at, if_neg (by omega), ms_at, if_neg (by omega), ms_at, if_neg (by omega), ms_at, if_neg (by omega), ms_at, if_neg (by omega), ms_at, if_neg (by omega)]
theorem rdA_inv {u : Nat → Nat → Int32} {lag n q : Nat} (hi : mInv u lag n q) : mInv (rdA u q) lag n q := by
  obtain ⟨h1, h2, h3, h4, h5, h6, h7, h8⟩ := id hi
  unfold rdA
  split
  · rename_i hc
    rcases fwF_r (u 1) q q (Nat.le_refl q) with e | ⟨j, hj, e⟩
    · exact absurd e hc.2
    · rw [e, nI_cl j (by omega)]
      refine ⟨h1, h2, h3, by rw [bgU_lo _ _ (by omega), h4], by rw [bgU_lo _ _ (by omega), h5], by rw [bgU_lo _ _ (by omega), h6], Or.inr ⟨j, by omega, bgU_7 _ _⟩, fun l hl => ?_⟩
      rw [bgU_w _ _ hl]
      exact h8 l hl
  · exact hi
theorem roU_inv {u : Nat → Nat → Int32} {lag n q l : Nat} (hi : mInv u lag n q) (hl : l < 8) (h7' : u 1 7 = nI l) : mInv (roU u lag n l) lag n q := by
  obtain ⟨h1, h2, h3, h4, h5, h6, h7, h8⟩ := id hi
  have W : ∀ i, i < 8 → roE u lag n l 1 (58 + 7 * i + 6) = -6 ∨ ∃ b, b < 6 ∧ roE u lag n l 1 (58 + 7 * i + 6) = nI b := fun i hi => by
    rcases roE_w u lag h1 hl hi with e | e
    · rw [e]; exact h8 i hi
    · exact Or.inr e
  have lo : ∀ j, j < 8 → roE u lag n l 1 j = u 1 j := fun j hj => roE_lo _ _ _ _ hj
  unfold roU
  split
  · refine ⟨h1, h2, h3, by rw [enU_lo _ (W l hl) (by omega), lo _ (by omega), h4], by rw [enU_lo _ (W l hl) (by omega), lo _ (by omega), h5], by rw [enU_lo _ (W l hl) (by omega), lo _ (by omega), h6], Or.inl (enU_7 _), fun i hi => ?_⟩
    rw [enU_w _ (W l hl)]
    exact W i hi
  · exact ⟨h1, h2, h3, by rw [lo _ (by omega), h4], by rw [lo _ (by omega), h5], by rw [lo _ (by omega), h6], Or.inr ⟨l, hl, by rw [lo _ (by omega), h7']⟩, W⟩
theorem rdU_inv {u : Nat → Nat → Int32} {lag n q : Nat} (hi : mInv u lag n q) : mInv (rdU u lag n q) lag n q := by
  have B : mInv (rdB (rdA u q) lag n) lag n q := by
    have hA := rdA_inv hi
    generalize rdA u q = v at hA
    unfold rdB
    split
    · exact hA
    · rename_i hc
      rcases hA.2.2.2.2.2.2.1 with e | ⟨l, hl, e⟩
      · exact absurd e hc
      · rw [e, nI_cl l (by omega)]
        exact roU_inv hA hl e
  unfold rdU
  generalize rdB (rdA u q) lag n = v at B
  obtain ⟨h1, h2, h3, h4, h5, h6, h7, h8⟩ := B
  refine ⟨h1, h2, h3, by rw [ms_at, if_neg (by omega), h4], by rw [ms_at, if_neg (by omega), h5], by rw [ms_at, if_neg (by omega), h6], by rw [ms_at, if_neg (by omega)]; exact h7, fun l hl => ?_⟩
  rw [ms_at, if_neg (by omega)]
  exact h8 l hl
section MO
variable {h : evH} {m : evM} {c : Nat} {u : Nat → Nat → Int32}
end MO
