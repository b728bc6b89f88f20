/-! the check's text: wordAt -/
section TEXT2
variable {μ : gM} {Q : Int → gM → Prop}
theorem wd_at (hW : gIW μ) {i : Int} (h0 : 0 ≤ i) (h1 : i < 46) : μ 169 i = wdr.getD i.toNat 0 := by
  have := hW i.toNat (by omega)
  rw [← this]
  congr 1
  omega
theorem s_wordAt_n {a b k s n : Int} {l6 l7 : gv} (hW : gIW μ) (hs : 0 ≤ s ∧ 0 ≤ n ∧ s + n < 46) (h1 : ∀ i, 0 ≤ i → i < n → wdr.getD (s + i).toNat 0 ≠ 32) (h2 : wdr.getD (s + n).toNat 0 = 32) : ∀ (m : Nat) (i : Int), 0 ≤ i → i + m = n →
    gE 212 18 [gO 10 167, gI a, gI b, gI k, gI s, gI i, l6, l7] [] μ Q = gE 212 39 [gO 10 167, gI a, gI b, gI k, gI s, gI n, l6, l7] [] μ Q := by
  intro m
  induction m with
  | zero =>
    intro i h0 h3
    have h : i = n := by omega
    subst h
    have e : μ 169 (s + i) = 32 := by rw [wd_at hW (by omega) (by omega)]; exact h2
    rw [e212_18]
    simp (disch := first | assumption | omega) only [e212_0, e212_1, e212_2, e212_3, e212_5, e212_7, e212_8, e212_11, e212_12, e212_15, e212_16, e212_19, e212_22, e212_24, e212_26, e212_27, e212_28, e212_30, e212_33, e212_36, e212_41, e212_42, e212_43, e212_44, e212_47, e212_48, e212_51, e212_52, e212_54, e212_55, e212_57, e212_59, e212_61, e212_64, e212_66, e212_69, e212_70, e212_73, e212_75, e212_77, e212_78, e212_79, e212_80, e212_83, e212_84, e212_86, e212_87, e212_88, e212_91, e212_92, e212_95, e212_96, e212_98, e212_101, e212_104, e212_106, e212_109, e212_110, e212_111, e212_113, e212_115, e212_116, e212_117, e212_118, e212_120, e212_123, e212_126, e212_127, gK0_eq, gK1_eq, gK3_eq, w32_id, bI_eq0, bI_eq1, Bool.false_eq_true, not_true_eq_false, not_false_eq_true, ne_eq, ite_not, ↓reduceIte, if_true, if_false, Int.reduceToNat, Nat.reduceAdd, Int.reduceEq, Int.reduceLT, Int.reduceLE, Int.reduceNeg, bI_T, bI_F, ↓if_pos, ↓if_neg, e]
  | succ m ih =>
    intro i h0 h3
    have e : ¬ μ 169 (s + i) = 32 := by rw [wd_at hW (by omega) (by omega)]; exact h1 i h0 (by omega)
    rw [← ih (i + 1) (by omega) (by omega), e212_18]
    simp (disch := first | assumption | omega) only [e212_0, e212_1, e212_2, e212_3, e212_5, e212_7, e212_8, e212_11, e212_12, e212_15, e212_16, e212_19, e212_22, e212_24, e212_26, e212_27, e212_28, e212_30, e212_33, e212_36, e212_41, e212_42, e212_43, e212_44, e212_47, e212_48, e212_51, e212_52, e212_54, e212_55, e212_57, e212_59, e212_61, e212_64, e212_66, e212_69, e212_70, e212_73, e212_75, e212_77, e212_78, e212_79, e212_80, e212_83, e212_84, e212_86, e212_87, e212_88, e212_91, e212_92, e212_95, e212_96, e212_98, e212_101, e212_104, e212_106, e212_109, e212_110, e212_111, e212_113, e212_115, e212_116, e212_117, e212_118, e212_120, e212_123, e212_126, e212_127, gK0_eq, gK1_eq, gK3_eq, w32_id, bI_eq0, bI_eq1, Bool.false_eq_true, not_true_eq_false, not_false_eq_true, ne_eq, ite_not, ↓reduceIte, if_true, if_false, Int.reduceToNat, Nat.reduceAdd, Int.reduceEq, Int.reduceLT, Int.reduceLE, Int.reduceNeg, bI_T, bI_F, ↓if_pos, ↓if_neg, e]
theorem s_wordAt_c {a b k s n : Int} (hW : gIW μ) (hs : 0 ≤ s ∧ 0 ≤ n ∧ s + n < 46) (ha : 0 ≤ a ∧ a + n ≤ 700) : ∀ (m : Nat) (i : Int) (c : Bool), 0 ≤ i → i + m = n →
    ∃ l7 : gv, gE 212 57 [gO 10 167, gI a, gI b, gI k, gI s, gI n, gI (bI (c = true)), gI i] [] μ Q = gE 212 104 [gO 10 167, gI a, gI b, gI k, gI s, gI n, gI (bI ((c && !anyF (fun i => decide (wdr.getD (s + i).toNat 0 ≠ μ 168 (a + i))) i m) = true)), l7] [] μ Q := by
  intro m
  induction m with
  | zero =>
    intro i c h0 h1
    have h : n ≤ i := by omega
    refine ⟨gI i, ?_⟩
    rw [e212_57, anyF]
    simp (disch := first | assumption | omega) only [e212_0, e212_1, e212_2, e212_3, e212_5, e212_7, e212_8, e212_11, e212_12, e212_15, e212_16, e212_18, e212_19, e212_22, e212_24, e212_26, e212_27, e212_28, e212_30, e212_33, e212_36, e212_39, e212_41, e212_42, e212_43, e212_44, e212_47, e212_48, e212_51, e212_52, e212_54, e212_55, e212_59, e212_61, e212_64, e212_66, e212_69, e212_70, e212_73, e212_75, e212_77, e212_78, e212_79, e212_80, e212_83, e212_84, e212_86, e212_87, e212_88, e212_91, e212_92, e212_95, e212_96, e212_98, e212_101, e212_106, e212_109, e212_110, e212_111, e212_113, e212_115, e212_116, e212_117, e212_118, e212_120, e212_123, e212_126, e212_127, gK0_eq, gK1_eq, gK3_eq, w32_id, bI_eq0, bI_eq1, Bool.false_eq_true, not_true_eq_false, not_false_eq_true, ne_eq, ite_not, ↓reduceIte, if_true, if_false, Int.reduceToNat, Nat.reduceAdd, Int.reduceEq, Int.reduceLT, Int.reduceLE, Int.reduceNeg, bI_T, bI_F, ↓if_pos, ↓if_neg, h, Bool.not_false, Bool.and_true]
  | succ m ih =>
    intro i c h0 h1
    have h : ¬ n ≤ i := by omega
    cases c with
    | false =>
      refine ⟨gI i, ?_⟩
      rw [e212_57]
      simp (disch := first | assumption | omega) only [e212_0, e212_1, e212_2, e212_3, e212_5, e212_7, e212_8, e212_11, e212_12, e212_15, e212_16, e212_18, e212_19, e212_22, e212_24, e212_26, e212_27, e212_28, e212_30, e212_33, e212_36, e212_39, e212_41, e212_42, e212_43, e212_44, e212_47, e212_48, e212_51, e212_52, e212_54, e212_55, e212_59, e212_61, e212_64, e212_66, e212_69, e212_70, e212_73, e212_75, e212_77, e212_78, e212_79, e212_80, e212_83, e212_84, e212_86, e212_87, e212_88, e212_91, e212_92, e212_95, e212_96, e212_98, e212_101, e212_106, e212_109, e212_110, e212_111, e212_113, e212_115, e212_116, e212_117, e212_118, e212_120, e212_123, e212_126, e212_127, gK0_eq, gK1_eq, gK3_eq, w32_id, bI_eq0, bI_eq1, Bool.false_eq_true, not_true_eq_false, not_false_eq_true, ne_eq, ite_not, ↓reduceIte, if_true, if_false, Int.reduceToNat, Nat.reduceAdd, Int.reduceEq, Int.reduceLT, Int.reduceLE, Int.reduceNeg, bI_T, bI_F, ↓if_pos, ↓if_neg, h, Bool.false_and]
    | true =>
      by_cases c2 : wdr.getD (s + i).toNat 0 = μ 168 (a + i)
      · obtain ⟨l7, hl⟩ := ih (i + 1) true (by omega) (by omega)
        refine ⟨l7, ?_⟩
        have e : μ 169 (s + i) = μ 168 (a + i) := by rw [wd_at hW (by omega) (by omega)]; exact c2
        rw [anyF, decide_eq_false (fun q => q c2), Bool.false_or, ← hl, e212_57]
        simp (disch := first | assumption | omega) only [e212_0, e212_1, e212_2, e212_3, e212_5, e212_7, e212_8, e212_11, e212_12, e212_15, e212_16, e212_18, e212_19, e212_22, e212_24, e212_26, e212_27, e212_28, e212_30, e212_33, e212_36, e212_39, e212_41, e212_42, e212_43, e212_44, e212_47, e212_48, e212_51, e212_52, e212_54, e212_55, e212_59, e212_61, e212_64, e212_66, e212_69, e212_70, e212_73, e212_75, e212_77, e212_78, e212_79, e212_80, e212_83, e212_84, e212_86, e212_87, e212_88, e212_91, e212_92, e212_95, e212_96, e212_98, e212_101, e212_106, e212_109, e212_110, e212_111, e212_113, e212_115, e212_116, e212_117, e212_118, e212_120, e212_123, e212_126, e212_127, gK0_eq, gK1_eq, gK3_eq, w32_id, bI_eq0, bI_eq1, Bool.false_eq_true, not_true_eq_false, not_false_eq_true, ne_eq, ite_not, ↓reduceIte, if_true, if_false, Int.reduceToNat, Nat.reduceAdd, Int.reduceEq, Int.reduceLT, Int.reduceLE, Int.reduceNeg, bI_T, bI_F, ↓if_pos, ↓if_neg, h, e]
      · obtain ⟨l7, hl⟩ := ih (i + 1) false (by omega) (by omega)
        refine ⟨l7, ?_⟩
        have e : ¬ μ 169 (s + i) = μ 168 (a + i) := by rw [wd_at hW (by omega) (by omega)]; exact c2
        rw [anyF, decide_eq_true c2, Bool.true_or, Bool.not_true, Bool.and_false]
        rw [Bool.false_and] at hl
        rw [← hl, e212_57]
        simp (disch := first | assumption | omega) only [e212_0, e212_1, e212_2, e212_3, e212_5, e212_7, e212_8, e212_11, e212_12, e212_15, e212_16, e212_18, e212_19, e212_22, e212_24, e212_26, e212_27, e212_28, e212_30, e212_33, e212_36, e212_39, e212_41, e212_42, e212_43, e212_44, e212_47, e212_48, e212_51, e212_52, e212_54, e212_55, e212_59, e212_61, e212_64, e212_66, e212_69, e212_70, e212_73, e212_75, e212_77, e212_78, e212_79, e212_80, e212_83, e212_84, e212_86, e212_87, e212_88, e212_91, e212_92, e212_95, e212_96, e212_98, e212_101, e212_106, e212_109, e212_110, e212_111, e212_113, e212_115, e212_116, e212_117, e212_118, e212_120, e212_123, e212_126, e212_127, gK0_eq, gK1_eq, gK3_eq, w32_id, bI_eq0, bI_eq1, Bool.false_eq_true, not_true_eq_false, not_false_eq_true, ne_eq, ite_not, ↓reduceIte, if_true, if_false, Int.reduceToNat, Nat.reduceAdd, Int.reduceEq, Int.reduceLT, Int.reduceLE, Int.reduceNeg, bI_T, bI_F, ↓if_pos, ↓if_neg, h, e]
theorem s_wordAt_s {a b k s n : Int} {l5 l6 l7 : gv} (hW : gIW μ) (hs : 0 ≤ s ∧ 0 ≤ n ∧ s + n < 46) (h1 : ∀ i, 0 ≤ i → i < n → wdr.getD (s + i).toNat 0 ≠ 32) (h2 : wdr.getD (s + n).toNat 0 = 32) (ha : 0 ≤ a ∧ a ≤ b ∧ b ≤ 700) (hk : 0 ≤ k ∧ k < 8) :
    ∃ l5' l6' l7' : gv, gE 212 5 [gO 10 167, gI a, gI b, gI k, gI s, l5, l6, l7] [] μ Q = if wdM (μ 168) a b s n = true then Q k μ else gE 212 5 [gO 10 167, gI a, gI b, gI (k + 1), gI (s + (n + 1)), l5', l6', l7'] [] μ Q := by
  have hn := s_wordAt_n (Q := Q) (a := a) (b := b) (k := k) (l6 := l6) (l7 := l7) hW hs h1 h2 n.toNat 0 (by omega) (by omega)
  have hs46 : ¬ 46 ≤ s := by omega
  by_cases c : n = b - a
  · obtain ⟨l7', hc⟩ := s_wordAt_c (Q := Q) (a := a) (b := b) (k := k) hW hs (by omega) n.toNat 0 true (by omega) (by omega)
    rw [Bool.true_and] at hc
    have ew : wdM (μ 168) a b s n = !anyF (fun i => decide (wdr.getD (s + i).toNat 0 ≠ μ 168 (a + i))) 0 n.toNat := by unfold wdM; rw [decide_eq_true c, Bool.true_and]
    refine ⟨gI n, gI 0, l7', ?_⟩
    rw [e212_5]
    simp (disch := first | assumption | omega) only [e212_0, e212_1, e212_2, e212_3, e212_7, e212_8, e212_11, e212_12, e212_15, e212_16, e212_19, e212_22, e212_24, e212_26, e212_27, e212_28, e212_30, e212_33, e212_36, e212_39, e212_41, e212_42, e212_43, e212_44, e212_47, e212_48, e212_51, e212_52, e212_54, e212_55, e212_57, e212_59, e212_61, e212_64, e212_66, e212_69, e212_70, e212_73, e212_75, e212_77, e212_78, e212_79, e212_80, e212_83, e212_84, e212_86, e212_87, e212_88, e212_91, e212_92, e212_95, e212_96, e212_98, e212_101, e212_104, e212_106, e212_109, e212_110, e212_111, e212_113, e212_115, e212_116, e212_117, e212_118, e212_120, e212_123, e212_126, e212_127, gK0_eq, gK1_eq, gK3_eq, w32_id, bI_eq0, bI_eq1, Bool.false_eq_true, not_true_eq_false, not_false_eq_true, ne_eq, ite_not, ↓reduceIte, if_true, if_false, Int.reduceToNat, Nat.reduceAdd, Int.reduceEq, Int.reduceLT, Int.reduceLE, Int.reduceNeg, bI_T, bI_F, ↓if_pos, ↓if_neg, hs46]
    rw [hn, e212_39]
    simp (disch := first | assumption | omega) only [e212_0, e212_1, e212_2, e212_3, e212_7, e212_8, e212_11, e212_12, e212_15, e212_16, e212_18, e212_19, e212_22, e212_24, e212_26, e212_27, e212_28, e212_30, e212_33, e212_36, e212_41, e212_42, e212_43, e212_44, e212_47, e212_48, e212_51, e212_52, e212_54, e212_55, e212_59, e212_61, e212_64, e212_66, e212_69, e212_70, e212_73, e212_75, e212_77, e212_78, e212_79, e212_80, e212_83, e212_84, e212_86, e212_87, e212_88, e212_91, e212_92, e212_95, e212_96, e212_98, e212_101, e212_104, e212_106, e212_109, e212_110, e212_111, e212_113, e212_115, e212_116, e212_117, e212_118, e212_120, e212_123, e212_126, e212_127, gK0_eq, gK1_eq, gK3_eq, w32_id, bI_eq0, bI_eq1, Bool.false_eq_true, not_true_eq_false, not_false_eq_true, ne_eq, ite_not, ↓reduceIte, if_true, if_false, Int.reduceToNat, Nat.reduceAdd, Int.reduceEq, Int.reduceLT, Int.reduceLE, Int.reduceNeg, bI_T, bI_F, ↓if_pos, ↓if_neg]
    rw [show (1 : Int) = bI (true = true) from (bI_t rfl).symm, hc, e212_104, ew]
    cases hx : !anyF (fun i => decide (wdr.getD (s + i).toNat 0 ≠ μ 168 (a + i))) 0 n.toNat with
    | true => simp (disch := first | assumption | omega) only [e212_0, e212_1, e212_2, e212_3, e212_7, e212_8, e212_11, e212_12, e212_15, e212_16, e212_18, e212_19, e212_22, e212_24, e212_26, e212_27, e212_28, e212_30, e212_33, e212_36, e212_39, e212_41, e212_42, e212_43, e212_44, e212_47, e212_48, e212_51, e212_52, e212_54, e212_55, e212_57, e212_59, e212_61, e212_64, e212_66, e212_69, e212_70, e212_73, e212_75, e212_77, e212_78, e212_79, e212_80, e212_83, e212_84, e212_86, e212_87, e212_88, e212_91, e212_92, e212_95, e212_96, e212_98, e212_101, e212_106, e212_109, e212_110, e212_111, e212_113, e212_115, e212_116, e212_117, e212_118, e212_120, e212_123, e212_126, e212_127, gK0_eq, gK1_eq, gK3_eq, w32_id, bI_eq0, bI_eq1, Bool.false_eq_true, not_true_eq_false, not_false_eq_true, ne_eq, ite_not, ↓reduceIte, if_true, if_false, Int.reduceToNat, Nat.reduceAdd, Int.reduceEq, Int.reduceLT, Int.reduceLE, Int.reduceNeg, bI_T, bI_F, ↓if_pos, ↓if_neg]
    | false => simp (disch := first | assumption | omega) only [e212_0, e212_1, e212_2, e212_3, e212_7, e212_8, e212_11, e212_12, e212_15, e212_16, e212_18, e212_19, e212_22, e212_24, e212_26, e212_27, e212_28, e212_30, e212_33, e212_36, e212_39, e212_41, e212_42, e212_43, e212_44, e212_47, e212_48, e212_51, e212_52, e212_54, e212_55, e212_57, e212_59, e212_61, e212_64, e212_66, e212_69, e212_70, e212_73, e212_75, e212_77, e212_78, e212_79, e212_80, e212_83, e212_84, e212_86, e212_87, e212_88, e212_91, e212_92, e212_95, e212_96, e212_98, e212_101, e212_106, e212_109, e212_110, e212_111, e212_113, e212_115, e212_116, e212_117, e212_118, e212_120, e212_123, e212_126, e212_127, gK0_eq, gK1_eq, gK3_eq, w32_id, bI_eq0, bI_eq1, Bool.false_eq_true, not_true_eq_false, not_false_eq_true, ne_eq, ite_not, ↓reduceIte, if_true, if_false, Int.reduceToNat, Nat.reduceAdd, Int.reduceEq, Int.reduceLT, Int.reduceLE, Int.reduceNeg, bI_T, bI_F, ↓if_pos, ↓if_neg]
  · have ew : wdM (μ 168) a b s n = false := by unfold wdM; rw [decide_eq_false c, Bool.false_and]
    have hc : ∃ l7' : gv, gE 212 57 [gO 10 167, gI a, gI b, gI k, gI s, gI n, gI 0, gI 0] [] μ Q = gE 212 104 [gO 10 167, gI a, gI b, gI k, gI s, gI n, gI 0, l7'] [] μ Q := by
      refine ⟨gI 0, ?_⟩
      rw [e212_57]
      by_cases hz : n ≤ 0
      · simp (disch := first | assumption | omega) only [e212_0, e212_1, e212_2, e212_3, e212_5, e212_7, e212_8, e212_11, e212_12, e212_15, e212_16, e212_18, e212_19, e212_22, e212_24, e212_26, e212_27, e212_28, e212_30, e212_33, e212_36, e212_39, e212_41, e212_42, e212_43, e212_44, e212_47, e212_48, e212_51, e212_52, e212_54, e212_55, e212_59, e212_61, e212_64, e212_66, e212_69, e212_70, e212_73, e212_75, e212_77, e212_78, e212_79, e212_80, e212_83, e212_84, e212_86, e212_87, e212_88, e212_91, e212_92, e212_95, e212_96, e212_98, e212_101, e212_106, e212_109, e212_110, e212_111, e212_113, e212_115, e212_116, e212_117, e212_118, e212_120, e212_123, e212_126, e212_127, gK0_eq, gK1_eq, gK3_eq, w32_id, bI_eq0, bI_eq1, Bool.false_eq_true, not_true_eq_false, not_false_eq_true, ne_eq, ite_not, ↓reduceIte, if_true, if_false, Int.reduceToNat, Nat.reduceAdd, Int.reduceEq, Int.reduceLT, Int.reduceLE, Int.reduceNeg, bI_T, bI_F, ↓if_pos, ↓if_neg, hz]
      · simp (disch := first | assumption | omega) only [e212_0, e212_1, e212_2, e212_3, e212_5, e212_7, e212_8, e212_11, e212_12, e212_15, e212_16, e212_18, e212_19, e212_22, e212_24, e212_26, e212_27, e212_28, e212_30, e212_33, e212_36, e212_39, e212_41, e212_42, e212_43, e212_44, e212_47, e212_48, e212_51, e212_52, e212_54, e212_55, e212_59, e212_61, e212_64, e212_66, e212_69, e212_70, e212_73, e212_75, e212_77, e212_78, e212_79, e212_80, e212_83, e212_84, e212_86, e212_87, e212_88, e212_91, e212_92, e212_95, e212_96, e212_98, e212_101, e212_106, e212_109, e212_110, e212_111, e212_113, e212_115, e212_116, e212_117, e212_118, e212_120, e212_123, e212_126, e212_127, gK0_eq, gK1_eq, gK3_eq, w32_id, bI_eq0, bI_eq1, Bool.false_eq_true, not_true_eq_false, not_false_eq_true, ne_eq, ite_not, ↓reduceIte, if_true, if_false, Int.reduceToNat, Nat.reduceAdd, Int.reduceEq, Int.reduceLT, Int.reduceLE, Int.reduceNeg, bI_T, bI_F, ↓if_pos, ↓if_neg, hz]
    obtain ⟨l7', hc⟩ := hc
    refine ⟨gI n, gI 0, l7', ?_⟩
    rw [e212_5]
    simp (disch := first | assumption | omega) only [e212_0, e212_1, e212_2, e212_3, e212_7, e212_8, e212_11, e212_12, e212_15, e212_16, e212_19, e212_22, e212_24, e212_26, e212_27, e212_28, e212_30, e212_33, e212_36, e212_39, e212_41, e212_42, e212_43, e212_44, e212_47, e212_48, e212_51, e212_52, e212_54, e212_55, e212_57, e212_59, e212_61, e212_64, e212_66, e212_69, e212_70, e212_73, e212_75, e212_77, e212_78, e212_79, e212_80, e212_83, e212_84, e212_86, e212_87, e212_88, e212_91, e212_92, e212_95, e212_96, e212_98, e212_101, e212_104, e212_106, e212_109, e212_110, e212_111, e212_113, e212_115, e212_116, e212_117, e212_118, e212_120, e212_123, e212_126, e212_127, gK0_eq, gK1_eq, gK3_eq, w32_id, bI_eq0, bI_eq1, Bool.false_eq_true, not_true_eq_false, not_false_eq_true, ne_eq, ite_not, ↓reduceIte, if_true, if_false, Int.reduceToNat, Nat.reduceAdd, Int.reduceEq, Int.reduceLT, Int.reduceLE, Int.reduceNeg, bI_T, bI_F, ↓if_pos, ↓if_neg, hs46]
    rw [hn, e212_39]
    simp (disch := first | assumption | omega) only [e212_0, e212_1, e212_2, e212_3, e212_7, e212_8, e212_11, e212_12, e212_15, e212_16, e212_18, e212_19, e212_22, e212_24, e212_26, e212_27, e212_28, e212_30, e212_33, e212_36, e212_41, e212_42, e212_43, e212_44, e212_47, e212_48, e212_51, e212_52, e212_54, e212_55, e212_59, e212_61, e212_64, e212_66, e212_69, e212_70, e212_73, e212_75, e212_77, e212_78, e212_79, e212_80, e212_83, e212_84, e212_86, e212_87, e212_88, e212_91, e212_92, e212_95, e212_96, e212_98, e212_101, e212_104, e212_106, e212_109, e212_110, e212_111, e212_113, e212_115, e212_116, e212_117, e212_118, e212_120, e212_123, e212_126, e212_127, gK0_eq, gK1_eq, gK3_eq, w32_id, bI_eq0, bI_eq1, Bool.false_eq_true, not_true_eq_false, not_false_eq_true, ne_eq, ite_not, ↓reduceIte, if_true, if_false, Int.reduceToNat, Nat.reduceAdd, Int.reduceEq, Int.reduceLT, Int.reduceLE, Int.reduceNeg, bI_T, bI_F, ↓if_pos, ↓if_neg]
    rw [hc, e212_104, ew]
    simp (disch := first | assumption | omega) only [e212_0, e212_1, e212_2, e212_3, e212_7, e212_8, e212_11, e212_12, e212_15, e212_16, e212_18, e212_19, e212_22, e212_24, e212_26, e212_27, e212_28, e212_30, e212_33, e212_36, e212_39, e212_41, e212_42, e212_43, e212_44, e212_47, e212_48, e212_51, e212_52, e212_54, e212_55, e212_57, e212_59, e212_61, e212_64, e212_66, e212_69, e212_70, e212_73, e212_75, e212_77, e212_78, e212_79, e212_80, e212_83, e212_84, e212_86, e212_87, e212_88, e212_91, e212_92, e212_95, e212_96, e212_98, e212_101, e212_106, e212_109, e212_110, e212_111, e212_113, e212_115, e212_116, e212_117, e212_118, e212_120, e212_123, e212_126, e212_127, gK0_eq, gK1_eq, gK3_eq, w32_id, bI_eq0, bI_eq1, Bool.false_eq_true, not_true_eq_false, not_false_eq_true, ne_eq, ite_not, ↓reduceIte, if_true, if_false, Int.reduceToNat, Nat.reduceAdd, Int.reduceEq, Int.reduceLT, Int.reduceLE, Int.reduceNeg, bI_T, bI_F, ↓if_pos, ↓if_neg]
theorem s_wordAt {a b : Int} (hW : gIW μ) (ha : 0 ≤ a ∧ a ≤ b ∧ b ≤ 700) : gE 212 0 [gO 10 167, gI a, gI b, gX, gX, gX, gX, gX] [] μ Q = Q (xWd (μ 168) a b) μ := by
  have b3 : ∀ n : Int, 0 ≤ n → n ≤ 6 → ∀ P : Int → Prop, (n = 4 → P 0 ∧ P 1 ∧ P 2 ∧ P 3) → (n = 5 → P 0 ∧ P 1 ∧ P 2 ∧ P 3 ∧ P 4) → (n = 6 → P 0 ∧ P 1 ∧ P 2 ∧ P 3 ∧ P 4 ∧ P 5) → (4 ≤ n) → ∀ i, 0 ≤ i → i < n → P i := by
    intro n n0 n6 P h4 h5 h6 n4 i i0 i1
    have hn : n = 4 ∨ n = 5 ∨ n = 6 := by omega
    have hi : i = 0 ∨ i = 1 ∨ i = 2 ∨ i = 3 ∨ i = 4 ∨ i = 5 := by omega
    rcases hn with q | q | q
    · obtain ⟨p0, p1, p2, p3⟩ := h4 q
      rcases hi with rfl | rfl | rfl | rfl | rfl | rfl <;> first | assumption | omega
    · obtain ⟨p0, p1, p2, p3, p4⟩ := h5 q
      rcases hi with rfl | rfl | rfl | rfl | rfl | rfl <;> first | assumption | omega
    · obtain ⟨p0, p1, p2, p3, p4, p5⟩ := h6 q
      rcases hi with rfl | rfl | rfl | rfl | rfl | rfl <;> first | assumption | omega
  have stp := fun (k s n : Int) (l5 l6 l7 : gv) (hs : 0 ≤ s ∧ 0 ≤ n ∧ s + n < 46) (h1 : ∀ i, 0 ≤ i → i < n → wdr.getD (s + i).toNat 0 ≠ 32) (h2 : wdr.getD (s + n).toNat 0 = 32) (hk : 0 ≤ k ∧ k < 8) => s_wordAt_s (Q := Q) (a := a) (b := b) (k := k) (s := s) (n := n) (l5 := l5) (l6 := l6) (l7 := l7) hW hs h1 h2 ha hk
  have q6 : ∀ s : Int, (wdr.getD (s + 0).toNat 0 ≠ 32 ∧ wdr.getD (s + 1).toNat 0 ≠ 32 ∧ wdr.getD (s + 2).toNat 0 ≠ 32 ∧ wdr.getD (s + 3).toNat 0 ≠ 32 ∧ wdr.getD (s + 4).toNat 0 ≠ 32 ∧ wdr.getD (s + 5).toNat 0 ≠ 32) → ∀ i, 0 ≤ i → i < 6 → wdr.getD (s + i).toNat 0 ≠ 32 := fun s h => b3 6 (by omega) (by omega) (fun i => wdr.getD (s + i).toNat 0 ≠ 32) (fun q => absurd q (by decide)) (fun q => absurd q (by decide)) (fun _ => h) (by omega)
  have q5 : ∀ s : Int, (wdr.getD (s + 0).toNat 0 ≠ 32 ∧ wdr.getD (s + 1).toNat 0 ≠ 32 ∧ wdr.getD (s + 2).toNat 0 ≠ 32 ∧ wdr.getD (s + 3).toNat 0 ≠ 32 ∧ wdr.getD (s + 4).toNat 0 ≠ 32) → ∀ i, 0 ≤ i → i < 5 → wdr.getD (s + i).toNat 0 ≠ 32 := fun s h => b3 5 (by omega) (by omega) (fun i => wdr.getD (s + i).toNat 0 ≠ 32) (fun q => absurd q (by decide)) (fun _ => h) (fun q => absurd q (by decide)) (by omega)
  have q4 : ∀ s : Int, (wdr.getD (s + 0).toNat 0 ≠ 32 ∧ wdr.getD (s + 1).toNat 0 ≠ 32 ∧ wdr.getD (s + 2).toNat 0 ≠ 32 ∧ wdr.getD (s + 3).toNat 0 ≠ 32) → ∀ i, 0 ≤ i → i < 4 → wdr.getD (s + i).toNat 0 ≠ 32 := fun s h => b3 4 (by omega) (by omega) (fun i => wdr.getD (s + i).toNat 0 ≠ 32) (fun _ => h) (fun q => absurd q (by decide)) (fun q => absurd q (by decide)) (by omega)
  obtain ⟨x0, y0, z0, s0⟩ := stp 0 0 6 gX gX gX (by omega) (q6 0 (by decide)) (by decide) (by omega)
  obtain ⟨x1, y1, z1, s1⟩ := stp 1 7 6 x0 y0 z0 (by omega) (q6 7 (by decide)) (by decide) (by omega)
  obtain ⟨x2, y2, z2, s2⟩ := stp 2 14 5 x1 y1 z1 (by omega) (q5 14 (by decide)) (by decide) (by omega)
  obtain ⟨x3, y3, z3, s3⟩ := stp 3 20 4 x2 y2 z2 (by omega) (q4 20 (by decide)) (by decide) (by omega)
  obtain ⟨x4, y4, z4, s4⟩ := stp 4 25 5 x3 y3 z3 (by omega) (q5 25 (by decide)) (by decide) (by omega)
  obtain ⟨x5, y5, z5, s5⟩ := stp 5 31 4 x4 y4 z4 (by omega) (q4 31 (by decide)) (by decide) (by omega)
  obtain ⟨x6, y6, z6, s6⟩ := stp 6 36 4 x5 y5 z5 (by omega) (q4 36 (by decide)) (by decide) (by omega)
  obtain ⟨x7, y7, z7, s7⟩ := stp 7 41 4 x6 y6 z6 (by omega) (q4 41 (by decide)) (by decide) (by omega)
  simp only [Int.reduceAdd] at s0 s1 s2 s3 s4 s5 s6 s7
  simp (disch := first | assumption | omega) only [e212_0, e212_1, e212_2, e212_3, e212_7, e212_8, e212_11, e212_12, e212_15, e212_16, e212_18, e212_19, e212_22, e212_24, e212_26, e212_27, e212_28, e212_30, e212_33, e212_36, e212_39, e212_41, e212_42, e212_43, e212_44, e212_47, e212_48, e212_51, e212_52, e212_54, e212_55, e212_57, e212_59, e212_61, e212_64, e212_66, e212_69, e212_70, e212_73, e212_75, e212_77, e212_78, e212_79, e212_80, e212_83, e212_84, e212_86, e212_87, e212_88, e212_91, e212_92, e212_95, e212_96, e212_98, e212_101, e212_104, e212_106, e212_109, e212_110, e212_111, e212_113, e212_115, e212_116, e212_117, e212_118, e212_120, e212_123, e212_126, e212_127, gK0_eq, gK1_eq, gK3_eq, w32_id, bI_eq0, bI_eq1, Bool.false_eq_true, not_true_eq_false, not_false_eq_true, ne_eq, ite_not, ↓reduceIte, if_true, if_false, Int.reduceToNat, Nat.reduceAdd, Int.reduceEq, Int.reduceLT, Int.reduceLE, Int.reduceNeg, bI_T, bI_F]
  rw [s0, s1, s2, s3, s4, s5, s6, s7]
  have en : gE 212 5 [gO 10 167, gI a, gI b, gI 8, gI 46, x7, y7, z7] [] μ Q = Q (-1) μ := by
    rw [e212_5]
    simp (disch := first | assumption | omega) only [e212_0, e212_1, e212_2, e212_3, e212_7, e212_8, e212_11, e212_12, e212_15, e212_16, e212_18, e212_19, e212_22, e212_24, e212_26, e212_27, e212_28, e212_30, e212_33, e212_36, e212_39, e212_41, e212_42, e212_43, e212_44, e212_47, e212_48, e212_51, e212_52, e212_54, e212_55, e212_57, e212_59, e212_61, e212_64, e212_66, e212_69, e212_70, e212_73, e212_75, e212_77, e212_78, e212_79, e212_80, e212_83, e212_84, e212_86, e212_87, e212_88, e212_91, e212_92, e212_95, e212_96, e212_98, e212_101, e212_104, e212_106, e212_109, e212_110, e212_111, e212_113, e212_115, e212_116, e212_117, e212_118, e212_120, e212_123, e212_126, e212_127, gK0_eq, gK1_eq, gK3_eq, w32_id, bI_eq0, bI_eq1, Bool.false_eq_true, not_true_eq_false, not_false_eq_true, ne_eq, ite_not, ↓reduceIte, if_true, if_false, Int.reduceToNat, Nat.reduceAdd, Int.reduceEq, Int.reduceLT, Int.reduceLE, Int.reduceNeg, bI_T, bI_F, ↓if_pos, ↓if_neg]
  rw [en]
  unfold xWd
  split
  · rfl
  · split
    · rfl
    · split
      · rfl
      · split
        · rfl
        · split
          · rfl
          · split
            · rfl
            · split
              · rfl
              · split
                · rfl
                · rfl
end TEXT2
