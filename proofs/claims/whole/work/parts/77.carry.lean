/-! carrying out, by both-/
def clDo (b q : Nat) (v : evVt) (l f c : Int32) : Int32 × evVt := if l = 43 then clBidder b v f c else if l = 98 then clTold v f c else if l = 108 then clLot q v f else clPass b v f
theorem clDo_c {b q : Nat} {v : evVt} {l f c c' : Int32} (h : l = 43 ∨ l = 98 → c' = c) : clDo b q v l f c' = clDo b q v l f c := by
  unfold clDo
  by_cases h43 : l = 43
  · rw [h (Or.inl h43)]
  · by_cases h98 : l = 98
    · rw [h (Or.inr h98)]
    · rw [if_neg h43, if_neg h43, if_neg h98, if_neg h98]
section CD
variable {h : evH} {s : Nat → Option Nat} {n : Nat} {u p : Nat → Nat → Int32} {V : Nat → evVt} {v : evVt} {b q T lag g tot L cc : Nat}
theorem W_carry (hx : xOK h n s) (hF : rFu v (u 1) b q T lag g tot) (hT : T ≤ 9999) {u0 : Nat → Nat → Int32} (a : Nat) (st mo : Bool) (l f c : Int32) : evX 83 0 [(0, .ref 0)] [] h (memW u0 (pcU p a st mo l f c) (Vs V 0 v) n) = some (some (.int (clDo b q v l f c).1), h, memW u0 (pcU p a st mo l f c) (Vs V 0 (clDo b q v l f c).2) n) := by
  obtain ⟨hn2, hN, a0, b0, b1, b2, b3, b4, a83, a84, l84, r83, r84, a372, r372, a373, l373, a374, l374, r374, rss, hH⟩ := id hx
  have h01 : evAt h 1 2 := (hH 0 (by omega)).1
  have HN := hF.1.1.1
  have htot := hF.1.1.2.2.2.2.1.2
  have A := W_addBidder (u := u0) (p := pcU p a st mo l f c) (V := Vs V 0 v) hx HN.1 (by rw [Vs_i]; exact HN.2.2.2.2.1.1) f c
  have B := W_tellBid (u := u0) (p := pcU p a st mo l f c) (V := Vs V 0 v) hx HN.1 (by rw [Vs_i]; exact HN.2.2.2.2.1.1) f c
  have C := W_addLot (u := u0) (p := pcU p a st mo l f c) (V := Vs V 0 v) hx HN.2.1 (by rw [Vs_i]; exact HN.2.2.2.2.2.1.1) f
  have D := W_letPass (u := u0) (p := pcU p a st mo l f c) (V := Vs V 0 v) hx (by rw [Vs_i]; exact okV_of hF) (by omega) (by rw [Vs_i]; exact HN.2.2.2.2.2.2.1.1) hT f
  rw [Vs_i, Vs_2] at A B C D
  unfold clDo
  by_cases h43 : l = 43
  · rw [if_pos h43]
    simp only [x83_0, x83_1, x83_4, x83_7, x83_40, x83_41, x83_44, x83_45, x83_48, x83_51, x83_52, x83_55, x83_58, x83_61, x83_62, x83_63, x83_66, x83_67, x83_70, x83_73, x83_76, x83_77, x83_78, x83_81, x83_82, x83_85, x83_88, x83_89, x83_92, x83_95, x83_98, x83_99, x83_100, x83_103, x83_104, x83_107, x83_110, x83_113, evI_i, evJl_i, evJf_i, evJd_i, evA_r, evA_n, evA_q, evLk_c, evS1_d, evS2_d, evFl_n, evFl_c, evGl_n, evGl_c, evIn_n, evIn_c, evCat_i, evCat_l, evCat_f, evCat_d, evCat_r, evCat_z, evCat_q, evBd_some, evTl_s, evTl_n, va_rf_s, va_rf_n, and_true, true_and, and_false, false_and, if_true, if_false, not_true_eq_false, not_false_eq_true, reduceCtorEq, ↓reduceIte, Nat.reduceAdd, Nat.reduceEqDiff, Nat.reduceLT, Nat.reduceLeDiff, Nat.reduceSub, Nat.zero_ne_one, Nat.one_ne_zero, a0, b0, b1, b2, b3, b4, a83, a84, l84, r83, a372, r372, a373, l373, a374, l374, memW_83, memW_372, memW_373, memW_s83, memW_s372, memW_s373, h01, pc_g5, pc_g6, pc_g7, h43] at A ⊢
    simp only [A, Option.toList, List.nil_append, List.cons_append, x83_0, x83_1, x83_4, x83_7, x83_40, x83_41, x83_44, x83_45, x83_48, x83_51, x83_52, x83_55, x83_58, x83_61, x83_62, x83_63, x83_66, x83_67, x83_70, x83_73, x83_76, x83_77, x83_78, x83_81, x83_82, x83_85, x83_88, x83_89, x83_92, x83_95, x83_98, x83_99, x83_100, x83_103, x83_104, x83_107, x83_110, x83_113, evI_i, evJl_i, evJf_i, evJd_i, evA_r, evA_n, evA_q, evLk_c, evS1_d, evS2_d, evFl_n, evFl_c, evGl_n, evGl_c, evIn_n, evIn_c, evCat_i, evCat_l, evCat_f, evCat_d, evCat_r, evCat_z, evCat_q, evBd_some, evTl_s, evTl_n, va_rf_s, va_rf_n, and_true, true_and, and_false, false_and, if_true, if_false, not_true_eq_false, not_false_eq_true, reduceCtorEq, ↓reduceIte, Nat.reduceAdd, Nat.reduceEqDiff, Nat.reduceLT, Nat.reduceLeDiff, Nat.reduceSub, Nat.zero_ne_one, Nat.one_ne_zero]
  · rw [if_neg h43]
    by_cases h98 : l = 98
    · have n98 : ¬ (98 : Int32) = 43 := by decide
      rw [if_pos h98]
      simp only [x83_0, x83_1, x83_4, x83_7, x83_40, x83_41, x83_44, x83_45, x83_48, x83_51, x83_52, x83_55, x83_58, x83_61, x83_62, x83_63, x83_66, x83_67, x83_70, x83_73, x83_76, x83_77, x83_78, x83_81, x83_82, x83_85, x83_88, x83_89, x83_92, x83_95, x83_98, x83_99, x83_100, x83_103, x83_104, x83_107, x83_110, x83_113, evI_i, evJl_i, evJf_i, evJd_i, evA_r, evA_n, evA_q, evLk_c, evS1_d, evS2_d, evFl_n, evFl_c, evGl_n, evGl_c, evIn_n, evIn_c, evCat_i, evCat_l, evCat_f, evCat_d, evCat_r, evCat_z, evCat_q, evBd_some, evTl_s, evTl_n, va_rf_s, va_rf_n, and_true, true_and, and_false, false_and, if_true, if_false, not_true_eq_false, not_false_eq_true, reduceCtorEq, ↓reduceIte, Nat.reduceAdd, Nat.reduceEqDiff, Nat.reduceLT, Nat.reduceLeDiff, Nat.reduceSub, Nat.zero_ne_one, Nat.one_ne_zero, a0, b0, b1, b2, b3, b4, a83, a84, l84, r83, a372, r372, a373, l373, a374, l374, memW_83, memW_372, memW_373, memW_s83, memW_s372, memW_s373, h01, pc_g5, pc_g6, pc_g7, h98, n98] at B ⊢
      simp only [B, Option.toList, List.nil_append, List.cons_append, x83_0, x83_1, x83_4, x83_7, x83_40, x83_41, x83_44, x83_45, x83_48, x83_51, x83_52, x83_55, x83_58, x83_61, x83_62, x83_63, x83_66, x83_67, x83_70, x83_73, x83_76, x83_77, x83_78, x83_81, x83_82, x83_85, x83_88, x83_89, x83_92, x83_95, x83_98, x83_99, x83_100, x83_103, x83_104, x83_107, x83_110, x83_113, evI_i, evJl_i, evJf_i, evJd_i, evA_r, evA_n, evA_q, evLk_c, evS1_d, evS2_d, evFl_n, evFl_c, evGl_n, evGl_c, evIn_n, evIn_c, evCat_i, evCat_l, evCat_f, evCat_d, evCat_r, evCat_z, evCat_q, evBd_some, evTl_s, evTl_n, va_rf_s, va_rf_n, and_true, true_and, and_false, false_and, if_true, if_false, not_true_eq_false, not_false_eq_true, reduceCtorEq, ↓reduceIte, Nat.reduceAdd, Nat.reduceEqDiff, Nat.reduceLT, Nat.reduceLeDiff, Nat.reduceSub, Nat.zero_ne_one, Nat.one_ne_zero]
    · rw [if_neg h98]
      by_cases h108 : l = 108
      · have n108 : ¬ (108 : Int32) = 43 := by decide
        have n108' : ¬ (108 : Int32) = 98 := by decide
        rw [if_pos h108]
        simp only [x83_0, x83_1, x83_4, x83_7, x83_40, x83_41, x83_44, x83_45, x83_48, x83_51, x83_52, x83_55, x83_58, x83_61, x83_62, x83_63, x83_66, x83_67, x83_70, x83_73, x83_76, x83_77, x83_78, x83_81, x83_82, x83_85, x83_88, x83_89, x83_92, x83_95, x83_98, x83_99, x83_100, x83_103, x83_104, x83_107, x83_110, x83_113, evI_i, evJl_i, evJf_i, evJd_i, evA_r, evA_n, evA_q, evLk_c, evS1_d, evS2_d, evFl_n, evFl_c, evGl_n, evGl_c, evIn_n, evIn_c, evCat_i, evCat_l, evCat_f, evCat_d, evCat_r, evCat_z, evCat_q, evBd_some, evTl_s, evTl_n, va_rf_s, va_rf_n, and_true, true_and, and_false, false_and, if_true, if_false, not_true_eq_false, not_false_eq_true, reduceCtorEq, ↓reduceIte, Nat.reduceAdd, Nat.reduceEqDiff, Nat.reduceLT, Nat.reduceLeDiff, Nat.reduceSub, Nat.zero_ne_one, Nat.one_ne_zero, a0, b0, b1, b2, b3, b4, a83, a84, l84, r83, a372, r372, a373, l373, a374, l374, memW_83, memW_372, memW_373, memW_s83, memW_s372, memW_s373, h01, pc_g5, pc_g6, pc_g7, h108, n108, n108'] at C ⊢
        simp only [C, Option.toList, List.nil_append, List.cons_append, x83_0, x83_1, x83_4, x83_7, x83_40, x83_41, x83_44, x83_45, x83_48, x83_51, x83_52, x83_55, x83_58, x83_61, x83_62, x83_63, x83_66, x83_67, x83_70, x83_73, x83_76, x83_77, x83_78, x83_81, x83_82, x83_85, x83_88, x83_89, x83_92, x83_95, x83_98, x83_99, x83_100, x83_103, x83_104, x83_107, x83_110, x83_113, evI_i, evJl_i, evJf_i, evJd_i, evA_r, evA_n, evA_q, evLk_c, evS1_d, evS2_d, evFl_n, evFl_c, evGl_n, evGl_c, evIn_n, evIn_c, evCat_i, evCat_l, evCat_f, evCat_d, evCat_r, evCat_z, evCat_q, evBd_some, evTl_s, evTl_n, va_rf_s, va_rf_n, and_true, true_and, and_false, false_and, if_true, if_false, not_true_eq_false, not_false_eq_true, reduceCtorEq, ↓reduceIte, Nat.reduceAdd, Nat.reduceEqDiff, Nat.reduceLT, Nat.reduceLeDiff, Nat.reduceSub, Nat.zero_ne_one, Nat.one_ne_zero]
      · rw [if_neg h108]
        simp only [x83_0, x83_1, x83_4, x83_7, x83_40, x83_41, x83_44, x83_45, x83_48, x83_51, x83_52, x83_55, x83_58, x83_61, x83_62, x83_63, x83_66, x83_67, x83_70, x83_73, x83_76, x83_77, x83_78, x83_81, x83_82, x83_85, x83_88, x83_89, x83_92, x83_95, x83_98, x83_99, x83_100, x83_103, x83_104, x83_107, x83_110, x83_113, evI_i, evJl_i, evJf_i, evJd_i, evA_r, evA_n, evA_q, evLk_c, evS1_d, evS2_d, evFl_n, evFl_c, evGl_n, evGl_c, evIn_n, evIn_c, evCat_i, evCat_l, evCat_f, evCat_d, evCat_r, evCat_z, evCat_q, evBd_some, evTl_s, evTl_n, va_rf_s, va_rf_n, and_true, true_and, and_false, false_and, if_true, if_false, not_true_eq_false, not_false_eq_true, reduceCtorEq, ↓reduceIte, Nat.reduceAdd, Nat.reduceEqDiff, Nat.reduceLT, Nat.reduceLeDiff, Nat.reduceSub, Nat.zero_ne_one, Nat.one_ne_zero, a0, b0, b1, b2, b3, b4, a83, a84, l84, r83, a372, r372, a373, l373, a374, l374, memW_83, memW_372, memW_373, memW_s83, memW_s372, memW_s373, h01, pc_g5, pc_g6, pc_g7, h43, h98, h108, D, Option.toList, List.nil_append, List.cons_append]
/-- an order that is done, or refused, by both -/
theorem do_rel (hm : mOK h cc) (hF : rFu v (u 1) b q T lag g tot) (hT : T ≤ 9999) {l f c : Int32} (h13 : u 0 13 = l) (h80 : u 8 0 = f) (h81 : l = 43 ∨ l = 98 → u 8 1 = c) :
    (whyF u l f (u 8 1) = 0 ∧ ¬ (clDo b q v l f c).1 < 0 ∧ ∃ u2, (∀ m, evX 152 0 [(0, .ref cc)] [] h (evGM m cc 9 u) = some (none, h, evGM m cc 9 u2)) ∧ rS (clDo b q v l f c).2 (u2 1) ∧ (∀ o j, o ≠ 0 → o ≠ 1 → o ≠ 7 → u2 o j = u o j) ∧ u2 0 3 = u 0 3 ∧ u2 0 7 = u 0 7 ∧ u2 0 12 = u 0 12) ∨
    (¬ whyF u l f (u 8 1) = 0 ∧ (clDo b q v l f c).1 < 0 ∧ (clDo b q v l f c).2 = v) := by
  have HN := hF.1.1.1
  obtain ⟨w0, w1, w2, w3, w4, w5, w6, w7, w8, w9, w10, w11, w12, w13, w14, w15, w16, w17, w18, w19, w20, w21, w22, w23, w24⟩ := id hm
  unfold whyF clDo
  by_cases h43 : l = 43
  · rw [if_pos h43, if_pos h43, h81 (Or.inl h43)]
    rcases bidder_fu hF f c with ⟨a1, a2, a4⟩ | ⟨a1, a2, a3⟩
    · have hn6 : b < 6 := by
        have h1 := a4.1.1.1.1
        omega
      refine Or.inl ⟨a1, by rw [a2]; exact nI_pos (by omega), cmU u b f c, fun m => ?_, ⟨_, _, _, _, _, _, hT, a4⟩, fun o j h0 h1 h7 => ?_, ?_, ?_, ?_⟩
      · have C := c_comes (m := m) (u := u) hm hn6 HN.2.2.2.2.1.2 f c
        have h13' : u 0 13 = 43 := h13.trans h43
        have h81' := h81 (Or.inl h43)
        simp only [x152_0, x152_1, x152_4, x152_40, x152_41, x152_42, x152_45, x152_46, x152_47, x152_48, x152_51, x152_52, x152_53, x152_56, x152_57, x152_60, x152_61, x152_62, x152_65, x152_66, x152_67, x152_70, x152_71, x152_74, x152_75, x152_76, x152_79, x152_80, x152_81, x152_83, x152_84, x152_87, x152_88, x152_89, x152_92, x152_95, x152_96, x152_97, x152_100, x152_101, x152_102, x152_105, x152_106, evI_i, evJl_i, evJf_i, evJd_i, evA_r, evA_n, evA_q, evLk_c, evS1_d, evS2_d, evFl_n, evFl_c, evGl_n, evGl_c, evIn_n, evIn_c, evCat_i, evCat_l, evCat_f, evCat_d, evCat_r, evCat_z, evCat_q, evBd_some, evTl_s, evTl_n, va_rf_s, va_rf_n, and_true, true_and, and_false, false_and, if_true, if_false, not_true_eq_false, not_false_eq_true, reduceCtorEq, ↓reduceIte, Nat.reduceAdd, Nat.reduceEqDiff, Nat.reduceLT, Nat.reduceLeDiff, Nat.reduceSub, Nat.zero_ne_one, Nat.one_ne_zero, w0, w1, w2, w3, w4, w5, w6, w7, w8, w9, w10, w11, w12, w13, w14, w15, w16, w17, w18, w19, w20, w21, w22, w23, w24, evGM_get, evGM_set, evGM_get0, evGM_set0, h13', h80, h81', C, lt0, lc0, lt1, lc1, Option.toList, List.cons_append, List.nil_append]
      · unfold cmU
        rw [ms_at, if_neg (fun z => h1 z.1), ms_at, if_neg (fun z => h1 z.1), ms_at, if_neg (fun z => h1 z.1)]
        have : ∀ m, czU u b m o j = u o j := fun m => by
          induction m with
          | zero => rfl
          | succ m ih =>
            show ms (czU u b m) 1 (10 + 8 * b + m) 0 o j = _
            rw [ms_at, if_neg (fun z => h1 z.1), ih]
        exact this 8
      all_goals
        unfold cmU
        rw [ms_at, if_neg (by omega), ms_at, if_neg (by omega), ms_at, if_neg (by omega)]
        rfl
    · exact Or.inr ⟨a1, by rw [a2]; exact a3, by rw [a2]⟩
  · rw [if_neg h43, if_neg h43]
    by_cases h98 : l = 98
    · have n98 : ¬ (98 : Int32) = 43 := by decide
      rw [if_pos h98, if_pos h98, h81 (Or.inr h98)]
      rcases told_fu hF f c with ⟨a1, a2, a3, ⟨j, hj, rfl⟩, a4⟩ | ⟨a1, a2, a3⟩
      · have b0 : ¬ nI j < 0 := nI_pos (by have := HN.1; omega)
        have b1 : (nI j).toNatClampNeg = j := nI_cl j (by have := HN.1; omega)
        have j6 : j < 6 := by have := HN.1; omega
        rw [b1] at a4
        refine Or.inl ⟨a1, a3, _, fun m => ?_, ⟨_, _, _, _, _, _, hT, a4⟩, fun o i h0 h1 h7 => by rw [ms_at, if_neg (fun z => h1 z.1)], by rw [ms_at, if_neg (by omega)], by rw [ms_at, if_neg (by omega)], by rw [ms_at, if_neg (by omega)]⟩
        have S := c_setBidder (m := m) (u := u) hm (b := nI j) (x := 7) (y := c) b0 (by rw [b1]; exact j6) lt7 (by decide)
        rw [b1, lc7] at S
        have h13' : u 0 13 = 98 := h13.trans h98
        have h81' := h81 (Or.inr h98)
        simp only [x152_0, x152_1, x152_4, x152_40, x152_41, x152_42, x152_45, x152_46, x152_47, x152_48, x152_51, x152_52, x152_53, x152_56, x152_57, x152_60, x152_61, x152_62, x152_65, x152_66, x152_67, x152_70, x152_71, x152_74, x152_75, x152_76, x152_79, x152_80, x152_81, x152_83, x152_84, x152_87, x152_88, x152_89, x152_92, x152_95, x152_96, x152_97, x152_100, x152_101, x152_102, x152_105, x152_106, evI_i, evJl_i, evJf_i, evJd_i, evA_r, evA_n, evA_q, evLk_c, evS1_d, evS2_d, evFl_n, evFl_c, evGl_n, evGl_c, evIn_n, evIn_c, evCat_i, evCat_l, evCat_f, evCat_d, evCat_r, evCat_z, evCat_q, evBd_some, evTl_s, evTl_n, va_rf_s, va_rf_n, and_true, true_and, and_false, false_and, if_true, if_false, not_true_eq_false, not_false_eq_true, reduceCtorEq, ↓reduceIte, Nat.reduceAdd, Nat.reduceEqDiff, Nat.reduceLT, Nat.reduceLeDiff, Nat.reduceSub, Nat.zero_ne_one, Nat.one_ne_zero, w0, w1, w2, w3, w4, w5, w6, w7, w8, w9, w10, w11, w12, w13, w14, w15, w16, w17, w18, w19, w20, w21, w22, w23, w24, evGM_get, evGM_set, evGM_get0, evGM_set0, h13', n98, h80, h81', S, lt0, lc0, lt1, lc1, Option.toList, List.cons_append, List.nil_append]
      · exact Or.inr ⟨a1, by rw [a2]; exact a3, by rw [a2]⟩
    · rw [if_neg h98, if_neg h98]
      by_cases h108 : l = 108
      · have n108 : ¬ (108 : Int32) = 43 := by decide
        have n108' : ¬ (108 : Int32) = 98 := by decide
        rw [if_pos h108, if_pos h108]
        rcases lot_fu hF f with ⟨a1, a2, a4⟩ | ⟨a1, a2, a3⟩
        · have hq8 : q < 8 := by
            have h1 := a4.1.1.1.2.1
            omega
          refine Or.inl ⟨a1, by rw [a2]; exact nI_pos (by omega), ltU u q f, fun m => ?_, ⟨_, _, _, _, _, _, hT, a4⟩, fun o j h0 h1 h7 => ?_, ?_, ?_, ?_⟩
          · have C := c_lotComes (m := m) (u := u) hm hq8 HN.2.2.2.2.2.1.2 f
            have h13' : u 0 13 = 108 := h13.trans h108
            simp only [x152_0, x152_1, x152_4, x152_40, x152_41, x152_42, x152_45, x152_46, x152_47, x152_48, x152_51, x152_52, x152_53, x152_56, x152_57, x152_60, x152_61, x152_62, x152_65, x152_66, x152_67, x152_70, x152_71, x152_74, x152_75, x152_76, x152_79, x152_80, x152_81, x152_83, x152_84, x152_87, x152_88, x152_89, x152_92, x152_95, x152_96, x152_97, x152_100, x152_101, x152_102, x152_105, x152_106, evI_i, evJl_i, evJf_i, evJd_i, evA_r, evA_n, evA_q, evLk_c, evS1_d, evS2_d, evFl_n, evFl_c, evGl_n, evGl_c, evIn_n, evIn_c, evCat_i, evCat_l, evCat_f, evCat_d, evCat_r, evCat_z, evCat_q, evBd_some, evTl_s, evTl_n, va_rf_s, va_rf_n, and_true, true_and, and_false, false_and, if_true, if_false, not_true_eq_false, not_false_eq_true, reduceCtorEq, ↓reduceIte, Nat.reduceAdd, Nat.reduceEqDiff, Nat.reduceLT, Nat.reduceLeDiff, Nat.reduceSub, Nat.zero_ne_one, Nat.one_ne_zero, w0, w1, w2, w3, w4, w5, w6, w7, w8, w9, w10, w11, w12, w13, w14, w15, w16, w17, w18, w19, w20, w21, w22, w23, w24, evGM_get, evGM_set, evGM_get0, evGM_set0, h13', n108, n108', h80, C, lt0, lc0, Option.toList, List.cons_append, List.nil_append]
          · unfold ltU
            rw [ms_at, if_neg (fun z => h1 z.1), ms_at, if_neg (fun z => h1 z.1), ms_at, if_neg (fun z => h1 z.1), ms_at, if_neg (fun z => h1 z.1), ms_at, if_neg (fun z => h1 z.1), ms_at, if_neg (fun z => h1 z.1), ms_at, if_neg (fun z => h1 z.1), ms_at, if_neg (fun z => h1 z.1)]
          all_goals
            unfold ltU
            rw [ms_at, if_neg (by omega), ms_at, if_neg (by omega), ms_at, if_neg (by omega), ms_at, if_neg (by omega), ms_at, if_neg (by omega), ms_at, if_neg (by omega), ms_at, if_neg (by omega), ms_at, if_neg (by omega)]
        · exact Or.inr ⟨a1, by rw [a2]; exact a3, by rw [a2]⟩
      · rw [if_neg h108, if_neg h108]
        rcases pass2_fu hF hT f with ⟨a1, ⟨j, hj1, hj2, rfl⟩, a2, a3, T', g', t', hT', a4⟩ | ⟨a1, a2, a3⟩
        · have hi : mInv u lag b q := mInv_of hF.1.1 hF.1.2.1
          rw [nI_cl j (by omega)] at a4
          refine Or.inl ⟨a1, a3, _, fun m => ?_, ⟨_, _, _, _, _, _, hT', a4⟩, fun o i h0 h1 h7 => psU_o _ _ _ _ _ _ h0 h1 h7, (psU_3 _ _ _ _ _).1, (psU_3 _ _ _ _ _).2, psU_0 _ _ _ _ _ (by decide) (by decide) (by decide)⟩
          have P := c_passes (m := m) (u := u) hm hi (r := j) (by omega)
          have m43 : ¬ u 0 13 = 43 := by rw [h13]; exact h43
          have m98 : ¬ u 0 13 = 98 := by rw [h13]; exact h98
          have m108 : ¬ u 0 13 = 108 := by rw [h13]; exact h108
          simp only [x152_0, x152_1, x152_4, x152_40, x152_41, x152_42, x152_45, x152_46, x152_47, x152_48, x152_51, x152_52, x152_53, x152_56, x152_57, x152_60, x152_61, x152_62, x152_65, x152_66, x152_67, x152_70, x152_71, x152_74, x152_75, x152_76, x152_79, x152_80, x152_81, x152_83, x152_84, x152_87, x152_88, x152_89, x152_92, x152_95, x152_96, x152_97, x152_100, x152_101, x152_102, x152_105, x152_106, evI_i, evJl_i, evJf_i, evJd_i, evA_r, evA_n, evA_q, evLk_c, evS1_d, evS2_d, evFl_n, evFl_c, evGl_n, evGl_c, evIn_n, evIn_c, evCat_i, evCat_l, evCat_f, evCat_d, evCat_r, evCat_z, evCat_q, evBd_some, evTl_s, evTl_n, va_rf_s, va_rf_n, and_true, true_and, and_false, false_and, if_true, if_false, not_true_eq_false, not_false_eq_true, reduceCtorEq, ↓reduceIte, Nat.reduceAdd, Nat.reduceEqDiff, Nat.reduceLT, Nat.reduceLeDiff, Nat.reduceSub, Nat.zero_ne_one, Nat.one_ne_zero, w0, w1, w2, w3, w4, w5, w6, w7, w8, w9, w10, w11, w12, w13, w14, w15, w16, w17, w18, w19, w20, w21, w22, w23, w24, evGM_get, evGM_set, evGM_get0, evGM_set0, m43, m98, m108, h80, P, lt0, lc0, Option.toList, List.cons_append, List.nil_append]
        · exact Or.inr ⟨a1, by rw [a2]; exact a3, by rw [a2]⟩
theorem fauF_in {gg : Nat → Int32} {f a : Nat} (hle : (ordF gg a).2.1 < 2 ^ 31) (h6 : fauF gg L (f + 1) a = -6) : (ordF gg a).1 = true ∧ ((ordF gg a).2.1 = L ∨ ¬ (ordF gg a).2.1 = L ∧ gg (ordF gg a).2.1 = 59 ∧ fauF gg L f ((ordF gg a).2.1 + 1) = -6) := by
  unfold fauF at h6
  by_cases ho : (ordF gg a).1 = true
  · rw [if_pos ho] at h6
    refine ⟨ho, ?_⟩
    by_cases hq : (ordF gg a).2.1 = L
    · exact Or.inl hq
    · rw [if_neg hq] at h6
      by_cases h59 : gg (ordF gg a).2.1 = 59
      · rw [if_pos h59] at h6
        exact Or.inr ⟨hq, h59, h6⟩
      · rw [if_neg h59] at h6
        exact absurd h6 (nI_n6 hle)
  · rw [if_neg ho] at h6
    exact absurd h6 (nI_n6 hle)
/-- the loops of both -/
theorem carry_lp (hx : xOK h n s) (hm : mOK h cc) (hL : L ≤ 80) (hp1 : p 1 1 = nI L) (u0 : Nat → Nat → Int32) (f : Nat) : ∀ (a done : Nat) (v : evVt) (u : Nat → Nat → Int32), a ≤ L → L + 1 ≤ a + f → 3 * done ≤ a → rS v (u 1) → u 0 12 = nI a → u 0 7 = nI L → chV u L = gC p L → fauF (gC p L) L f a = -6 →
    ∃ (vf : evVt) (uf : Nat → Nat → Int32) (df : Nat), (∀ k f c, ∃ a' st mo k' f' c', evX 78 35 [(0, .ref 0), (1, .int (nI done))] [] h (memW u0 (pcU p a false true k f c) (Vs V 0 v) n) = evX 78 64 [(0, .ref 0), (1, .int (nI df))] [] h (memW u0 (pcU p a' st mo k' f' c') (Vs V 0 vf) n)) ∧ (∀ m, ∃ e, evX 153 25 [(0, .ref cc), (1, .int (nI done)), (2, .int 1)] [] h (evGM m cc 9 u) = evX 153 79 [(0, .ref cc), (1, .int (nI df)), (2, .int e)] [] h (evGM m cc 9 uf)) ∧ rS vf (uf 1) ∧ (∀ o j, o ≠ 0 → o ≠ 1 → o ≠ 7 → o ≠ 8 → uf o j = u o j) ∧ uf 0 3 = u 0 3 ∧ df < 100 := by
  induction f with
  | zero => intro a done v u h1 h2; omega
  | succ f ih =>
    intro a done v u ha hf hd hS h12 h7 hch h6
    obtain ⟨hn2, hN, a0, b0, b1, b2, b3, b4, a83, a84, l84, r83, r84, a372, r372, a373, l373, a374, l374, r374, rss, hH⟩ := id hx
    obtain ⟨w0, w1, w2, w3, w4, w5, w6, w7, w8, w9, w10, w11, w12, w13, w14, w15, w16, w17, w18, w19, w20, w21, w22, w23, w24⟩ := id hm
    have hg := fun i => @gC_D p L i
    have hc1 := fun i => @gC_n1 p L i
    have hle := ordF_le hg hc1 ha
    obtain ⟨ho, hcase⟩ := fauF_in (by omega) h6
    have hok := ordF_ok hg ho
    have t1 : ¬ evBl true = 0 := by decide
    have n10 : ¬ (1 : Int32) = 0 := by decide
    have e80 : ¬ (80 : Int32) ≤ nI done := nI_ge (b := 80) (by omega) (by omega)
    have e1 : nI done + 1 = nI (done + 1) := (nI_succ done).symm
    have eaL : ¬ nI L ≤ nI a := nlt (by omega) (by omega)
    -- the model reads
    have us := pdU_self h12
    obtain ⟨k', a', b', RO, RV⟩ := c_readsOrder (h := h) (u := u) hm hL ha h7 (u 0 13) (u 0 15) (u 8 0) (u 8 1)
    rw [← us, hch, ho] at RO
    rw [hch] at RV
    obtain ⟨v1, v2⟩ := RV ho
    rw [v1] at RO
    have RR := fun k f c => P_readOrder (u := u0) (V := Vs V 0 v) hx hL ha hp1 k f c
    have hnL : ¬ gC p L L = 59 := by
      unfold gC
      rw [if_neg (Nat.lt_irrefl L)]
      decide
    -- where the reading stands behind the sign
    have hpq : ∃ pq, pq = (if gC p L (ordF (gC p L) a).2.1 = 59 then (ordF (gC p L) a).2.1 + 1 else (ordF (gC p L) a).2.1) := ⟨_, rfl⟩
    obtain ⟨pq, hpq⟩ := hpq
    have IN : ∀ m : evM, evX 143 0 [(0, .ref cc), (1, .int 59)] [] h (evGM m cc 9 (pdU u (ordF (gC p L) a).2.1 (gC p L a) k' (ordF (gC p L) a).2.2.1 b')) = some (some (.int (evBl (decide (gC p L (ordF (gC p L) a).2.1 = 59)))), h, evGM m cc 9 (pdU u pq (gC p L a) k' (ordF (gC p L) a).2.2.1 b')) := fun m => by
      have I := c_isN (m := m) (u := u) hm hL (p := (ordF (gC p L) a).2.1) (by omega) h7 (gC p L a) k' (ordF (gC p L) a).2.2.1 b' 59
      rw [hch] at I
      rw [I, hpq]
      split <;> rfl
    obtain ⟨b, q, T, lag, g, tot, hT, hF⟩ := hS
    have hF1 : rFu v (pdU u pq (gC p L a) k' (ordF (gC p L) a).2.2.1 b' 1) b q T lag g tot := rFu_row (fun j _ => pdU_o _ _ _ _ _ _ _ (by decide) (by decide)) hF
    have D := do_rel (h := h) hm hF1 hT (l := gC p L a) (f := (ordF (gC p L) a).2.2.1) (c := (ordF (gC p L) a).2.2.2) (pdU_g13 _ _ _ _ _ _) (pdU_g80 _ _ _ _ _ _) (fun z => (pdU_g81 _ _ _ _ _ _).trans (v2 z))
    have WF := fun m : evM => c_whyF (h := h) (m := m) (u := pdU u pq (gC p L a) k' (ordF (gC p L) a).2.2.1 b') hm
    simp only [pdU_g13, pdU_g80] at WF
    have CW := fun (u0 : Nat → Nat → Int32) (aa : Nat) (st mo : Bool) (l f c : Int32) => W_carry (p := p) (V := V) hx hF hT (u0 := u0) aa st mo l f c
    have hu1 : ∀ o j, o ≠ 0 → o ≠ 8 → pdU u pq (gC p L a) k' (ordF (gC p L) a).2.2.1 b' o j = u o j := fun o j h0 h8 => pdU_o _ _ _ _ _ _ _ h0 h8
    generalize hU : pdU u pq (gC p L a) k' (ordF (gC p L) a).2.2.1 b' = U at *
    have hU12 : U 0 12 = nI pq := by rw [← hU]; rfl
    have hU7 : U 0 7 = nI L := by rw [← hU]; exact h7
    have hU3 : U 0 3 = u 0 3 := by rw [← hU]; rfl
    rcases D with ⟨d1, d2, u2, d3, d4, d5, d6, d7, d8⟩ | ⟨d1, d2, d3⟩
    · have MD : ∀ m : evM, evX 153 25 [(0, .ref cc), (1, .int (nI done)), (2, .int 1)] [] h (evGM m cc 9 u) = evX 153 25 [(0, .ref cc), (1, .int (nI (done + 1))), (2, .int 1)] [] h (evGM m cc 9 u2) := fun m => by
        conv => lhs; rw [x153_25]
        simp only [x153_26, x153_29, x153_30, x153_33, x153_34, x153_37, x153_40, x153_41, x153_44, x153_45, x153_46, x153_48, x153_51, x153_52, x153_53, x153_56, x153_59, x153_60, x153_63, x153_64, x153_65, x153_66, x153_69, x153_70, x153_73, x153_76, evI_i, evJl_i, evJf_i, evJd_i, evA_r, evA_n, evA_q, evLk_c, evS1_d, evS2_d, evFl_n, evFl_c, evGl_n, evGl_c, evIn_n, evIn_c, evCat_i, evCat_l, evCat_f, evCat_d, evCat_r, evCat_z, evCat_q, evBd_some, evTl_s, evTl_n, va_rf_s, va_rf_n, and_true, true_and, and_false, false_and, if_true, if_false, not_true_eq_false, not_false_eq_true, reduceCtorEq, ↓reduceIte, Nat.reduceAdd, Nat.reduceEqDiff, Nat.reduceLT, Nat.reduceLeDiff, Nat.reduceSub, Nat.zero_ne_one, Nat.one_ne_zero, w0, w1, w2, w3, w4, w5, w6, w7, w8, w9, w10, w11, w12, w13, w14, w15, w16, w17, w18, w19, w20, w21, w22, w23, w24, evGM_get, evGM_set, evGM_get0, evGM_set0, n10, h12, h7, eaL, RO, IN, WF, d1, d3, e1, Option.toList, List.cons_append, List.nil_append]
      rcases hcase with hq | ⟨hq, h59, h6'⟩
      · -- the last order
        rw [hq, if_neg hnL] at hpq
        rw [hpq] at hU12
        refine ⟨(clDo b q v (gC p L a) (ordF (gC p L) a).2.2.1 (ordF (gC p L) a).2.2.2).2, u2, done + 1, fun k f c => ?_, fun m => ⟨1, ?_⟩, d4, fun o j h0 h1 h7' h8 => (d5 o j h0 h1 h7').trans (hu1 o j h0 h8), d6.trans hU3, by omega⟩
        · obtain ⟨c1, hc1', R⟩ := (RR k f c).1 ho hq
          have C := CW u0 L false false (gC p L a) (ordF (gC p L) a).2.2.1 c1
          rw [clDo_c hc1'] at C
          have PS := fun k f c => P_stop (u := u0) (p := p) (V := Vs V 0 (clDo b q v (gC p L a) (ordF (gC p L) a).2.2.1 (ordF (gC p L) a).2.2.2).2) hx L false false (Or.inr rfl) k f c
          have e2 : ¬ (80 : Int32) ≤ nI (done + 1) := nI_ge (b := 80) (by omega) (by omega)
          refine ⟨L, false, false, gC p L a, (ordF (gC p L) a).2.2.1, c1, ?_⟩
          conv => lhs; rw [x78_35]
          simp only [x78_36, x78_38, x78_41, x78_42, x78_45, x78_48, x78_51, x78_52, x78_55, x78_58, x78_61, evI_i, evJl_i, evJf_i, evJd_i, evA_r, evA_n, evA_q, evLk_c, evS1_d, evS2_d, evFl_n, evFl_c, evGl_n, evGl_c, evIn_n, evIn_c, evCat_i, evCat_l, evCat_f, evCat_d, evCat_r, evCat_z, evCat_q, evBd_some, evTl_s, evTl_n, va_rf_s, va_rf_n, and_true, true_and, and_false, false_and, if_true, if_false, not_true_eq_false, not_false_eq_true, reduceCtorEq, ↓reduceIte, Nat.reduceAdd, Nat.reduceEqDiff, Nat.reduceLT, Nat.reduceLeDiff, Nat.reduceSub, Nat.zero_ne_one, Nat.one_ne_zero, a0, b0, b1, b2, b3, b4, a83, a84, l84, r83, a372, r372, a373, l373, a374, l374, memW_83, memW_372, memW_373, memW_s83, memW_s372, memW_s373, e80, e1, R, C, d2, t1, Option.toList, List.nil_append, List.cons_append]
          simp only [x78_35, x78_36, x78_38, x78_41, x78_42, x78_45, x78_48, evI_i, evJl_i, evJf_i, evJd_i, evA_r, evA_n, evA_q, evLk_c, evS1_d, evS2_d, evFl_n, evFl_c, evGl_n, evGl_c, evIn_n, evIn_c, evCat_i, evCat_l, evCat_f, evCat_d, evCat_r, evCat_z, evCat_q, evBd_some, evTl_s, evTl_n, va_rf_s, va_rf_n, and_true, true_and, and_false, false_and, if_true, if_false, not_true_eq_false, not_false_eq_true, reduceCtorEq, ↓reduceIte, Nat.reduceAdd, Nat.reduceEqDiff, Nat.reduceLT, Nat.reduceLeDiff, Nat.reduceSub, Nat.zero_ne_one, Nat.one_ne_zero, a0, b0, b1, b2, b3, b4, a83, a84, l84, r83, a372, r372, a373, l373, a374, l374, memW_83, memW_372, memW_373, memW_s83, memW_s372, memW_s373, e2, PS, evBl_f, Option.toList, List.nil_append, List.cons_append]
        · rw [MD m]
          have hq12 : u2 0 12 = nI L := d8.trans hU12
          have hq7 : u2 0 7 = nI L := d7.trans hU7
          have hLL : nI L ≤ nI L := Int32.le_refl _
          simp only [x153_25, x153_26, x153_29, x153_30, x153_33, x153_34, x153_37, evI_i, evJl_i, evJf_i, evJd_i, evA_r, evA_n, evA_q, evLk_c, evS1_d, evS2_d, evFl_n, evFl_c, evGl_n, evGl_c, evIn_n, evIn_c, evCat_i, evCat_l, evCat_f, evCat_d, evCat_r, evCat_z, evCat_q, evBd_some, evTl_s, evTl_n, va_rf_s, va_rf_n, and_true, true_and, and_false, false_and, if_true, if_false, not_true_eq_false, not_false_eq_true, reduceCtorEq, ↓reduceIte, Nat.reduceAdd, Nat.reduceEqDiff, Nat.reduceLT, Nat.reduceLeDiff, Nat.reduceSub, Nat.zero_ne_one, Nat.one_ne_zero, w0, w1, w2, w3, w4, w5, w6, w7, w8, w9, w10, w11, w12, w13, w14, w15, w16, w17, w18, w19, w20, w21, w22, w23, w24, evGM_get, evGM_set, evGM_get0, evGM_set0, n10, hq12, hq7, hLL]
      · rw [if_pos h59] at hpq
        subst hpq
        obtain ⟨vf, uf, df, I1, I2, I3, I4, I5, I6⟩ := ih ((ordF (gC p L) a).2.1 + 1) (done + 1) (clDo b q v (gC p L a) (ordF (gC p L) a).2.2.1 (ordF (gC p L) a).2.2.2).2 u2 (by omega) (by omega) (by omega) d4 (d8.trans hU12) (d7.trans hU7) (by
          rw [← hch]
          funext i
          unfold chV
          rw [d5 6 i (by decide) (by decide) (by decide), hu1 6 i (by decide) (by decide)]) h6'
        refine ⟨vf, uf, df, fun k f c => ?_, fun m => ?_, I3, fun o j h0 h1 h7' h8 => (I4 o j h0 h1 h7' h8).trans ((d5 o j h0 h1 h7').trans (hu1 o j h0 h8)), I5.trans (d6.trans hU3), I6⟩
        · obtain ⟨c1, hc1', R⟩ := (RR k f c).2.1 ho (by omega) h59
          have C := CW u0 ((ordF (gC p L) a).2.1 + 1) false true (gC p L a) (ordF (gC p L) a).2.2.1 c1
          rw [clDo_c hc1'] at C
          obtain ⟨a', st, mo, k'', f'', c'', I⟩ := I1 (gC p L a) (ordF (gC p L) a).2.2.1 c1
          refine ⟨a', st, mo, k'', f'', c'', ?_⟩
          rw [← I]
          conv => lhs; rw [x78_35]
          simp only [x78_36, x78_38, x78_41, x78_42, x78_45, x78_48, x78_51, x78_52, x78_55, x78_58, x78_61, evI_i, evJl_i, evJf_i, evJd_i, evA_r, evA_n, evA_q, evLk_c, evS1_d, evS2_d, evFl_n, evFl_c, evGl_n, evGl_c, evIn_n, evIn_c, evCat_i, evCat_l, evCat_f, evCat_d, evCat_r, evCat_z, evCat_q, evBd_some, evTl_s, evTl_n, va_rf_s, va_rf_n, and_true, true_and, and_false, false_and, if_true, if_false, not_true_eq_false, not_false_eq_true, reduceCtorEq, ↓reduceIte, Nat.reduceAdd, Nat.reduceEqDiff, Nat.reduceLT, Nat.reduceLeDiff, Nat.reduceSub, Nat.zero_ne_one, Nat.one_ne_zero, a0, b0, b1, b2, b3, b4, a83, a84, l84, r83, a372, r372, a373, l373, a374, l374, memW_83, memW_372, memW_373, memW_s83, memW_s372, memW_s373, e80, e1, R, C, d2, t1, Option.toList, List.nil_append, List.cons_append]
        · rw [MD m]
          exact I2 m
    · refine ⟨v, U, done, fun k f c => ?_, fun m => ⟨0, ?_⟩, ⟨b, q, T, lag, g, tot, hT, hF1⟩, fun o j h0 h1 h7' h8 => hu1 o j h0 h8, hU3, by omega⟩
      · rcases hcase with hq | ⟨hq, h59, -⟩
        · obtain ⟨c1, hc1', R⟩ := (RR k f c).1 ho hq
          have C := CW u0 L false false (gC p L a) (ordF (gC p L) a).2.2.1 c1
          rw [clDo_c hc1'] at C
          rw [d3] at C
          refine ⟨L, false, false, gC p L a, (ordF (gC p L) a).2.2.1, c1, ?_⟩
          simp only [x78_35, x78_36, x78_38, x78_41, x78_42, x78_45, x78_48, x78_51, x78_52, x78_55, evI_i, evJl_i, evJf_i, evJd_i, evA_r, evA_n, evA_q, evLk_c, evS1_d, evS2_d, evFl_n, evFl_c, evGl_n, evGl_c, evIn_n, evIn_c, evCat_i, evCat_l, evCat_f, evCat_d, evCat_r, evCat_z, evCat_q, evBd_some, evTl_s, evTl_n, va_rf_s, va_rf_n, and_true, true_and, and_false, false_and, if_true, if_false, not_true_eq_false, not_false_eq_true, reduceCtorEq, ↓reduceIte, Nat.reduceAdd, Nat.reduceEqDiff, Nat.reduceLT, Nat.reduceLeDiff, Nat.reduceSub, Nat.zero_ne_one, Nat.one_ne_zero, a0, b0, b1, b2, b3, b4, a83, a84, l84, r83, a372, r372, a373, l373, a374, l374, memW_83, memW_372, memW_373, memW_s83, memW_s372, memW_s373, e80, R, C, d2, t1, Option.toList, List.nil_append, List.cons_append]
        · obtain ⟨c1, hc1', R⟩ := (RR k f c).2.1 ho (by omega) h59
          have C := CW u0 ((ordF (gC p L) a).2.1 + 1) false true (gC p L a) (ordF (gC p L) a).2.2.1 c1
          rw [clDo_c hc1'] at C
          rw [d3] at C
          refine ⟨(ordF (gC p L) a).2.1 + 1, false, true, gC p L a, (ordF (gC p L) a).2.2.1, c1, ?_⟩
          simp only [x78_35, x78_36, x78_38, x78_41, x78_42, x78_45, x78_48, x78_51, x78_52, x78_55, evI_i, evJl_i, evJf_i, evJd_i, evA_r, evA_n, evA_q, evLk_c, evS1_d, evS2_d, evFl_n, evFl_c, evGl_n, evGl_c, evIn_n, evIn_c, evCat_i, evCat_l, evCat_f, evCat_d, evCat_r, evCat_z, evCat_q, evBd_some, evTl_s, evTl_n, va_rf_s, va_rf_n, and_true, true_and, and_false, false_and, if_true, if_false, not_true_eq_false, not_false_eq_true, reduceCtorEq, ↓reduceIte, Nat.reduceAdd, Nat.reduceEqDiff, Nat.reduceLT, Nat.reduceLeDiff, Nat.reduceSub, Nat.zero_ne_one, Nat.one_ne_zero, a0, b0, b1, b2, b3, b4, a83, a84, l84, r83, a372, r372, a373, l373, a374, l374, memW_83, memW_372, memW_373, memW_s83, memW_s372, memW_s373, e80, R, C, d2, t1, Option.toList, List.nil_append, List.cons_append]
      · conv => lhs; rw [x153_25]
        simp only [x153_26, x153_29, x153_30, x153_33, x153_34, x153_37, x153_40, x153_41, x153_44, x153_45, x153_46, x153_48, x153_51, x153_52, x153_53, x153_56, x153_59, x153_60, x153_63, x153_64, x153_65, x153_66, evI_i, evJl_i, evJf_i, evJd_i, evA_r, evA_n, evA_q, evLk_c, evS1_d, evS2_d, evFl_n, evFl_c, evGl_n, evGl_c, evIn_n, evIn_c, evCat_i, evCat_l, evCat_f, evCat_d, evCat_r, evCat_z, evCat_q, evBd_some, evTl_s, evTl_n, va_rf_s, va_rf_n, and_true, true_and, and_false, false_and, if_true, if_false, not_true_eq_false, not_false_eq_true, reduceCtorEq, ↓reduceIte, Nat.reduceAdd, Nat.reduceEqDiff, Nat.reduceLT, Nat.reduceLeDiff, Nat.reduceSub, Nat.zero_ne_one, Nat.one_ne_zero, w0, w1, w2, w3, w4, w5, w6, w7, w8, w9, w10, w11, w12, w13, w14, w15, w16, w17, w18, w19, w20, w21, w22, w23, w24, evGM_get, evGM_set, evGM_get0, evGM_set0, n10, h12, h7, eaL, RO, IN, WF, d1, Option.toList, List.cons_append, List.nil_append]
        simp only [x153_25, x153_26, evI_i, evJl_i, evJf_i, evJd_i, evA_r, evA_n, evA_q, evLk_c, evS1_d, evS2_d, evFl_n, evFl_c, evGl_n, evGl_c, evIn_n, evIn_c, evCat_i, evCat_l, evCat_f, evCat_d, evCat_r, evCat_z, evCat_q, evBd_some, evTl_s, evTl_n, va_rf_s, va_rf_n, and_true, true_and, and_false, false_and, if_true, if_false, not_true_eq_false, not_false_eq_true, reduceCtorEq, ↓reduceIte, Nat.reduceAdd, Nat.reduceEqDiff, Nat.reduceLT, Nat.reduceLeDiff, Nat.reduceSub, Nat.zero_ne_one, Nat.one_ne_zero]
theorem pcU_2 (p : Nat → Nat → Int32) (a a' : Nat) (st st' mo mo' : Bool) (k k' f f' c c' : Int32) : pcU (pcU p a st mo k f c) a' st' mo' k' f' c' = pcU p a' st' mo' k' f' c' := by
  funext o j
  unfold pcU
  grind
theorem S_carryOut {x k : Nat} {u : Nat → Nat → Int32} (H : LR h s n u p V x k L) : stepI 78 153 [] h n u p V := by
  obtain ⟨hx, hm, -, -, -, h6, ⟨h7, hk, hL⟩, ⟨p1, p2, u3⟩, -, hg, -⟩ := id H
  have hm' := hm
  generalize hcc : (375 : Nat) = cc at hm hm'
  obtain ⟨hn2, hN, a0, b0, b1, b2, b3, b4, a83, a84, l84, r83, r84, a372, r372, a373, l373, a374, l374, r374, rss, hH⟩ := id hx
  obtain ⟨w0, w1, w2, w3, w4, w5, w6, w7, w8, w9, w10, w11, w12, w13, w14, w15, w16, w17, w18, w19, w20, w21, w22, w23, w24⟩ := id hm
  have h01 : evAt h 1 2 := (hH 0 (by omega)).1
  obtain ⟨a, st, mo, kk, f, c, F⟩ := P_findFault (u := u) (V := V) hx hL hg.1
  obtain ⟨a', l', k', b', c', M⟩ := c_mfindFault (h := h) (u := u) hm' hL hg.2.1
  rw [g_same hg] at M
  by_cases hf : fauF (gC p L) L 81 0 = -6
  · rw [hf] at F M
    -- the model's start
    have R := fun m : evM => c_record (m := m) (u := pdU u a' l' k' b' c') hm' hk u3
    have hstart : ∃ us, us = ms (rcU (pdU u a' l' k' b' c') k) 0 12 0 := ⟨_, rfl⟩
    obtain ⟨us, hus⟩ := hstart
    have us1 : ∀ j, us 1 j = u 1 j := fun j => by rw [hus, ms_at, if_neg (by omega), rcU_1, pdU_o _ _ _ _ _ _ _ (by decide) (by decide)]
    have us12 : us 0 12 = nI 0 := by rw [hus, ms_at, if_pos ⟨rfl, rfl⟩]; rfl
    have us7 : us 0 7 = nI L := by rw [hus, ms_at, if_neg (by omega), rcU_07]; exact hg.2.1
    have us3 : us 0 3 = nI (if k + 1 < 6 then k + 1 else 6) := by rw [hus, ms_at, if_neg (by omega)]; exact rcU_03 _ k hk
    have us6 : ∀ j, us 6 j = u 6 j := fun j => by rw [hus, ms_at, if_neg (by omega), rcU_oo _ _ (by omega) (by omega), pdU_o _ _ _ _ _ _ _ (by decide) (by decide)]
    have usc : chV us L = gC p L := by
      rw [← g_same hg]
      funext i
      unfold chV
      rw [us6]
    have hV0 : Vs V (2 + x) (V 0) 0 = V 0 := Vs_0 x (V 0)
    obtain ⟨vf, uf, df, I1, I2, I3, I4, I5, I6⟩ := carry_lp (V := Vs V (2 + x) (V 0)) (cc := cc) hx hm' hL hg.1 u 81 0 0 (V 0) us (Nat.zero_le _) (by omega) (by omega) (rS_row (fun j _ => us1 j) h6) us12 us7 usc hf
    have hVs : Vs (Vs V (2 + x) (V 0)) 0 (V 0) = Vs V (2 + x) (V 0) := by
      have := Vs_id (Vs V (2 + x) (V 0)) 0
      rwa [hV0] at this
    rw [hVs] at I1
    obtain ⟨a2, st2, mo2, k2, f2, c2, I1⟩ := I1 kk f c
    have P := W_prepare (u := u) (p := pcU p a st mo kk f c) (V := V) hx h7 ((pc_o _ _ _ _ _ _ _ _ (by decide)).trans p1)
    have RW := P_rewind (u := u) (p := pcU p a st mo kk f c) (V := Vs V (2 + x) (V 0)) hx
    rw [pcU_2, pc_g5, pc_g6, pc_g7] at RW
    have E := P_empty (u := u) (p := pcU p a2 st2 mo2 k2 f2 c2) (V := Vs (Vs V (2 + x) (V 0)) 0 vf) hx
    have q1 : ms (pcU p a2 st2 mo2 k2 f2 c2) 1 1 0 0 1 = nI x := by rw [ms_at, if_neg (by omega)]; exact (pc_o _ _ _ _ _ _ _ _ (by decide)).trans p1
    have q2 : ms (pcU p a2 st2 mo2 k2 f2 c2) 1 1 0 0 2 = nI k := by rw [ms_at, if_neg (by omega)]; exact (pc_o _ _ _ _ _ _ _ _ (by decide)).trans p2
    have S := W_settle (u := u) (V := Vs (Vs V (2 + x) (V 0)) 0 vf) hx h7 hk q1 q2 (nI df)
    have z0 : (0 : Int32) = nI 0 := rfl
    have W : evX 78 0 [(0, .ref 0)] [] h (memW u p V n) = some (some (.int (nI df)), h, memW u (stP (ms (pcU p a2 st2 mo2 k2 f2 c2) 1 1 0) x k (nI df)) (chW V x vf) n) := by
      have W1 : evX 78 0 [(0, .ref 0)] [] h (memW u p V n) = evX 78 35 [(0, .ref 0), (1, .int (nI 0))] [] h (memW u (pcU p 0 false true kk f c) (Vs V (2 + x) (V 0)) n) := by
        simp only [x78_0, x78_1, x78_4, x78_7, x78_9, x78_12, x78_14, x78_15, x78_16, x78_19, x78_20, x78_23, x78_26, x78_27, x78_30, x78_33, x78_34, evI_i, evJl_i, evJf_i, evJd_i, evA_r, evA_n, evA_q, evLk_c, evS1_d, evS2_d, evFl_n, evFl_c, evGl_n, evGl_c, evIn_n, evIn_c, evCat_i, evCat_l, evCat_f, evCat_d, evCat_r, evCat_z, evCat_q, evBd_some, evTl_s, evTl_n, va_rf_s, va_rf_n, and_true, true_and, and_false, false_and, if_true, if_false, not_true_eq_false, not_false_eq_true, reduceCtorEq, ↓reduceIte, Nat.reduceAdd, Nat.reduceEqDiff, Nat.reduceLT, Nat.reduceLeDiff, Nat.reduceSub, Nat.zero_ne_one, Nat.one_ne_zero, a0, b0, b1, b2, b3, b4, a83, a84, l84, r83, a372, r372, a373, l373, a374, l374, memW_83, memW_372, memW_373, memW_s83, memW_s372, memW_s373, h01, F, P, RW, Option.toList, List.nil_append, List.cons_append]
        rfl
      rw [W1, I1]
      unfold chW
      simp only [x78_64, x78_65, x78_68, x78_71, x78_72, x78_73, x78_76, x78_77, x78_80, evI_i, evJl_i, evJf_i, evJd_i, evA_r, evA_n, evA_q, evLk_c, evS1_d, evS2_d, evFl_n, evFl_c, evGl_n, evGl_c, evIn_n, evIn_c, evCat_i, evCat_l, evCat_f, evCat_d, evCat_r, evCat_z, evCat_q, evBd_some, evTl_s, evTl_n, va_rf_s, va_rf_n, and_true, true_and, and_false, false_and, if_true, if_false, not_true_eq_false, not_false_eq_true, reduceCtorEq, ↓reduceIte, Nat.reduceAdd, Nat.reduceEqDiff, Nat.reduceLT, Nat.reduceLeDiff, Nat.reduceSub, Nat.zero_ne_one, Nat.one_ne_zero, a0, b0, b1, b2, b3, b4, a83, a84, l84, r83, a372, r372, a373, l373, a374, l374, memW_83, memW_372, memW_373, memW_s83, memW_s372, memW_s373, E, S, Option.toList, List.nil_append, List.cons_append]
    have MM := fun m : evM => I2 m
    have hdf : ¬ nI df < 0 := nI_pos (by omega)
    have MF : ∀ m : evM, evX 153 0 [(0, .ref cc)] [] h (evGM m cc 9 u) = some (some (.int (nI df)), h, evGM m cc 9 (ms uf 0 7 0)) := fun m => by
      obtain ⟨e, I2⟩ := I2 m
      have W1 : evX 153 0 [(0, .ref cc)] [] h (evGM m cc 9 u) = evX 153 25 [(0, .ref cc), (1, .int (nI 0)), (2, .int 1)] [] h (evGM m cc 9 us) := by
        rw [hus]
        simp only [x153_0, x153_1, x153_4, x153_6, x153_9, x153_11, x153_12, x153_13, x153_16, x153_17, x153_18, x153_19, x153_20, x153_23, x153_24, evI_i, evJl_i, evJf_i, evJd_i, evA_r, evA_n, evA_q, evLk_c, evS1_d, evS2_d, evFl_n, evFl_c, evGl_n, evGl_c, evIn_n, evIn_c, evCat_i, evCat_l, evCat_f, evCat_d, evCat_r, evCat_z, evCat_q, evBd_some, evTl_s, evTl_n, va_rf_s, va_rf_n, and_true, true_and, and_false, false_and, if_true, if_false, not_true_eq_false, not_false_eq_true, reduceCtorEq, ↓reduceIte, Nat.reduceAdd, Nat.reduceEqDiff, Nat.reduceLT, Nat.reduceLeDiff, Nat.reduceSub, Nat.zero_ne_one, Nat.one_ne_zero, w0, w1, w2, w3, w4, w5, w6, w7, w8, w9, w10, w11, w12, w13, w14, w15, w16, w17, w18, w19, w20, w21, w22, w23, w24, evGM_get, evGM_set, evGM_get0, evGM_set0, M, R, Option.toList, List.nil_append, List.cons_append]
        rfl
      rw [W1, I2]
      simp only [x153_79, x153_80, x153_81, x153_84, x153_85, evI_i, evJl_i, evJf_i, evJd_i, evA_r, evA_n, evA_q, evLk_c, evS1_d, evS2_d, evFl_n, evFl_c, evGl_n, evGl_c, evIn_n, evIn_c, evCat_i, evCat_l, evCat_f, evCat_d, evCat_r, evCat_z, evCat_q, evBd_some, evTl_s, evTl_n, va_rf_s, va_rf_n, and_true, true_and, and_false, false_and, if_true, if_false, not_true_eq_false, not_false_eq_true, reduceCtorEq, ↓reduceIte, Nat.reduceAdd, Nat.reduceEqDiff, Nat.reduceLT, Nat.reduceLeDiff, Nat.reduceSub, Nat.zero_ne_one, Nat.one_ne_zero, w0, w1, w2, w3, w4, w5, w6, w7, w8, w9, w10, w11, w12, w13, w14, w15, w16, w17, w18, w19, w20, w21, w22, w23, w24, evGM_get, evGM_set, evGM_get0, evGM_set0]
    have MFm := MF (memW u (stP (ms (pcU p a2 st2 mo2 k2 f2 c2) 1 1 0) x k (nI df)) (chW V x vf) n)
    subst hcc
    rw [memW_u, memW_u] at MFm
    -- the relation
    have H2 : LR h s n (ms uf 0 7 0) (stP (ms (pcU p a2 st2 mo2 k2 f2 c2) 1 1 0) x k (nI df)) (chW V x vf) (stN x) (if k + 1 < 6 then k + 1 else 6) 0 := by
      have Ha : LR h s n (ms (pdU u a' l' k' b' c') 0 7 0) (ms (pcU p a2 st2 mo2 k2 f2 c2) 1 1 0) V x k 0 := by
        refine LR_pad (Nat.zero_le _) (fun j => ?_) (fun j => ?_) (fun j => ?_) (fun j => ?_) (fun j => ?_) ?_ ⟨?_, ?_, fun j hj => by omega⟩ H
        · rw [ms_at, if_neg (by omega)]; exact pc_o _ _ _ _ _ _ _ _ (by decide)
        · rw [ms_at, if_neg (by omega)]; exact pdU_o _ _ _ _ _ _ _ (by decide) (by decide)
        · rw [ms_at, if_neg (by omega)]; exact pdU_o _ _ _ _ _ _ _ (by decide) (by decide)
        · rw [ms_at, if_neg (by omega)]; exact pdU_o _ _ _ _ _ _ _ (by decide) (by decide)
        · rw [ms_at, if_neg (by omega)]; exact pdU_o _ _ _ _ _ _ _ (by decide) (by decide)
        · rw [ms_at, if_neg (by omega)]; rfl
        · rw [ms_at, if_pos ⟨rfl, rfl⟩]; rfl
        · rw [ms_at, if_pos ⟨rfl, rfl⟩]; rfl
      have ro : ∀ o j, o ≠ 0 → rcU (ms (pdU u a' l' k' b' c') 0 7 0) k o j = rcU (pdU u a' l' k' b' c') k o j := fun o j ho => by
        have e : ∀ o j, o ≠ 0 → ms (pdU u a' l' k' b' c') 0 7 0 o j = pdU u a' l' k' b' c' o j := fun o j ho => by rw [ms_at, if_neg (fun z => ho z.1)]
        by_cases h3 : o = 3
        · subst h3
          unfold rcU
          split
          · rw [ms_at, if_neg (by omega), ms_at, if_neg (by omega)]
            unfold mvU
            split
            · rw [ms_at, if_neg (by omega), ms_at, if_neg (by omega), shU_o _ _ _ (by omega), shU_o _ _ _ (by omega), e _ _ (by omega)]
            · rw [ms_at, if_neg (by omega), ms_at, if_neg (by omega)]
              unfold shU
              split
              · rw [e _ _ (by omega)]
              · rw [e _ _ (by omega)]
          · rw [ms_at, if_neg (by omega), ms_at, if_neg (by omega)]
            unfold mvU
            split
            · rw [e _ _ (by omega)]
            · rw [e _ _ (by omega)]
        · rw [rcU_oo _ _ ho h3, rcU_oo _ _ ho h3, e _ _ ho]
      have ufo : ∀ o j, o ≠ 0 → o ≠ 1 → o ≠ 7 → o ≠ 8 → ms uf 0 7 0 o j = rcU (pdU u a' l' k' b' c') k o j := fun o j h0 h1 h7' h8 => by
        rw [ms_at, if_neg (fun z => h0 z.1), I4 o j h0 h1 h7' h8, hus, ms_at, if_neg (fun z => h0 z.1)]
      refine LR_ok hdf (fun j => ?_) ?_ (fun j => ?_) (fun j => ?_) (fun j => ?_) ?_ ?_ Ha
      · rw [ufo 3 j (by omega) (by omega) (by omega) (by omega), ro 3 j (by omega)]
      · rw [rcU_03 _ k hk, ms_at, if_neg (by omega), I5, us3]
      · rw [ufo 4 j (by omega) (by omega) (by omega) (by omega), rcU_oo _ _ (by omega) (by omega), ms_at, if_neg (by omega)]
      · rw [ufo 5 j (by omega) (by omega) (by omega) (by omega), rcU_oo _ _ (by omega) (by omega), ms_at, if_neg (by omega)]
      · rw [ufo 6 j (by omega) (by omega) (by omega) (by omega), rcU_oo _ _ (by omega) (by omega), ms_at, if_neg (by omega)]
      · rw [ms_at, if_pos ⟨rfl, rfl⟩, ms_at, if_pos ⟨rfl, rfl⟩]
      · exact rS_row (fun j _ => by rw [ms_at, if_neg (by omega)]) I3
    exact ⟨_, h, s, n, _, _, _, _, _, _, W, MFm, H2, rfl⟩
  · have W : evX 78 0 [(0, .ref 0)] [] h (memW u p V n) = some (some (.int (-3)), h, memW u (pcU p a st mo kk f c) V n) := by
      simp only [x78_0, x78_1, x78_4, x78_7, x78_9, x78_12, x78_14, evI_i, evJl_i, evJf_i, evJd_i, evA_r, evA_n, evA_q, evLk_c, evS1_d, evS2_d, evFl_n, evFl_c, evGl_n, evGl_c, evIn_n, evIn_c, evCat_i, evCat_l, evCat_f, evCat_d, evCat_r, evCat_z, evCat_q, evBd_some, evTl_s, evTl_n, va_rf_s, va_rf_n, and_true, true_and, and_false, false_and, if_true, if_false, not_true_eq_false, not_false_eq_true, reduceCtorEq, ↓reduceIte, Nat.reduceAdd, Nat.reduceEqDiff, Nat.reduceLT, Nat.reduceLeDiff, Nat.reduceSub, Nat.zero_ne_one, Nat.one_ne_zero, a0, b0, b1, b2, b3, b4, a83, a84, l84, r83, a372, r372, a373, l373, a374, l374, memW_83, memW_372, memW_373, memW_s83, memW_s372, memW_s373, F, hf, Option.toList, List.nil_append, List.cons_append]
    have MF : ∀ m : evM, evX 153 0 [(0, .ref cc)] [] h (evGM m cc 9 u) = some (some (.int (-3)), h, evGM m cc 9 (pdU u a' l' k' b' c')) := fun m => by
      simp only [x153_0, x153_1, x153_4, x153_6, x153_9, x153_11, evI_i, evJl_i, evJf_i, evJd_i, evA_r, evA_n, evA_q, evLk_c, evS1_d, evS2_d, evFl_n, evFl_c, evGl_n, evGl_c, evIn_n, evIn_c, evCat_i, evCat_l, evCat_f, evCat_d, evCat_r, evCat_z, evCat_q, evBd_some, evTl_s, evTl_n, va_rf_s, va_rf_n, and_true, true_and, and_false, false_and, if_true, if_false, not_true_eq_false, not_false_eq_true, reduceCtorEq, ↓reduceIte, Nat.reduceAdd, Nat.reduceEqDiff, Nat.reduceLT, Nat.reduceLeDiff, Nat.reduceSub, Nat.zero_ne_one, Nat.one_ne_zero, w0, w1, w2, w3, w4, w5, w6, w7, w8, w9, w10, w11, w12, w13, w14, w15, w16, w17, w18, w19, w20, w21, w22, w23, w24, evGM_get, evGM_set, evGM_get0, evGM_set0, M, hf, Option.toList, List.nil_append, List.cons_append]
    have MFm := MF (memW u (pcU p a st mo kk f c) V n)
    subst hcc
    rw [memW_u, memW_u] at MFm
    exact ⟨_, h, s, n, _, _, _, x, k, L, W, MFm, LR_hid (fun j => pc_o _ _ _ _ _ _ _ _ (by decide)) (fun j => pc_2x _ _ _ _ _ _ _ _) (pc_g1 _ _ _ _ _ _ _) (fun o j h0 h8 => pdU_o _ _ _ _ _ _ _ h0 h8) rfl rfl H, rfl⟩
end CD
