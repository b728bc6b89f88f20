/-! calls, side by side, fifth part: feed -/
section FEED
variable {N : Int} {μ μ' μ1 ν : gM} {T : Int → Int} {Q : Int → gM → Prop}
theorem s_feed_loop {a b c d e t : Int} (ht : 0 ≤ t ∧ t + 20 ≤ 700) : ∀ (m : Nat) (i : Int) (l7 : gv) (μ' : gM), 0 ≤ i → i + m = 20 → μ' 167 1 = t →
    ∃ ν : gM, (∀ (k : Nat) (j : Int), k ≠ 168 → ν k j = μ' k j) ∧ (∀ j, j < t + i → ν 168 j = μ' 168 j) ∧ (∀ j, i ≤ j → j < 20 → ν 168 (t + j) = tyB (vSel a b c d e j) (j % 4)) ∧ ∀ Q : Int → gM → Prop, gE 209 23 [gO 10 167, gI a, gI b, gI c, gI d, gI e, gI i, l7] [] μ' Q = Q (t + 20) (gS ν 167 1 (t + 20)) := by
  intro m
  induction m with
  | zero =>
    intro i l7 μ' i0 i1 h1
    have h : 20 ≤ i := by omega
    refine ⟨μ', fun _ _ _ => rfl, fun _ _ => rfl, fun j j0 j1 => by omega, fun Q => ?_⟩
    rw [e209_23]
    simp (disch := first | assumption | omega) only [e209_0, e209_1, e209_2, e209_5, e209_6, e209_9, e209_11, e209_12, e209_15, e209_18, e209_19, e209_20, e209_21, e209_25, e209_27, e209_30, e209_32, e209_33, e209_36, e209_37, e209_40, e209_42, e209_44, e209_47, e209_48, e209_51, e209_53, e209_55, e209_58, e209_59, e209_62, e209_64, e209_66, e209_69, e209_71, e209_74, e209_76, e209_78, e209_79, e209_82, e209_83, e209_86, e209_88, e209_89, e209_91, e209_93, e209_95, e209_97, e209_98, e209_99, e209_100, e209_101, e209_102, e209_105, e209_106, e209_107, e209_110, e209_113, e209_114, e209_115, e209_118, e209_120, e209_121, e209_124, e209_125, e209_128, gK0_eq, gK1_eq, gK3_eq, w32_id, bI_eq0, bI_eq1, Bool.false_eq_true, not_true_eq_false, not_false_eq_true, ne_eq, ite_not, ↓reduceIte, if_true, if_false, Int.reduceToNat, Nat.reduceAdd, Int.reduceEq, Int.reduceLT, Int.reduceLE, Int.reduceNeg, bI_T, bI_F, ↓if_pos, ↓if_neg, h, h1, gS_same]
  | succ m ih =>
    intro i l7 μ' i0 i1 h1
    have h : ¬ 20 ≤ i := by omega
    have g0 : 0 ≤ t + i := by omega
    have g1 : t + i < ((700 : Nat) : Int) := by omega
    have g4 : 0 ≤ i % 4 ∧ i % 4 ≤ 3 := by omega
    obtain ⟨g5, g6⟩ := g4
    obtain ⟨ν, n1, n2, n3, run⟩ := ih (i + 1) (gI (vSel a b c d e i)) (gS μ' 168 (t + i) (tyB (vSel a b c d e i) (i % 4))) (by omega) (by omega) (by rw [gS_neK (by omega)]; exact h1)
    refine ⟨ν, fun k j hk => by rw [n1 k j hk, gS_neK hk], fun j hj => by rw [n2 j (by omega), gS_neI (by omega)], fun j j0 j1 => ?_, fun Q => ?_⟩
    · by_cases z : j = i
      · rw [z, n2 _ (by omega), gS_same]
      · exact n3 j (by omega) j1
    · rw [← run Q, e209_23]
      unfold vSel tyB
      by_cases c1 : i < 4
      · simp (disch := first | assumption | omega) only [e209_0, e209_1, e209_2, e209_5, e209_6, e209_9, e209_11, e209_12, e209_15, e209_18, e209_19, e209_20, e209_21, e209_25, e209_27, e209_30, e209_32, e209_33, e209_36, e209_37, e209_40, e209_42, e209_44, e209_47, e209_48, e209_51, e209_53, e209_55, e209_58, e209_59, e209_62, e209_64, e209_66, e209_69, e209_71, e209_74, e209_76, e209_78, e209_79, e209_82, e209_83, e209_86, e209_88, e209_89, e209_91, e209_93, e209_95, e209_97, e209_98, e209_99, e209_100, e209_101, e209_102, e209_105, e209_106, e209_107, e209_110, e209_113, e209_114, e209_115, e209_118, e209_120, e209_121, e209_124, e209_125, e209_128, gK0_eq, gK1_eq, gK3_eq, w32_id, bI_eq0, bI_eq1, Bool.false_eq_true, not_true_eq_false, not_false_eq_true, ne_eq, ite_not, ↓reduceIte, if_true, if_false, Int.reduceToNat, Nat.reduceAdd, Int.reduceEq, Int.reduceLT, Int.reduceLE, Int.reduceNeg, bI_T, bI_F, ↓if_pos, ↓if_neg, h, h1, c1, show ¬ 4 ≤ i by omega, irem32_id]
      · by_cases c2 : i < 8
        · simp (disch := first | assumption | omega) only [e209_0, e209_1, e209_2, e209_5, e209_6, e209_9, e209_11, e209_12, e209_15, e209_18, e209_19, e209_20, e209_21, e209_25, e209_27, e209_30, e209_32, e209_33, e209_36, e209_37, e209_40, e209_42, e209_44, e209_47, e209_48, e209_51, e209_53, e209_55, e209_58, e209_59, e209_62, e209_64, e209_66, e209_69, e209_71, e209_74, e209_76, e209_78, e209_79, e209_82, e209_83, e209_86, e209_88, e209_89, e209_91, e209_93, e209_95, e209_97, e209_98, e209_99, e209_100, e209_101, e209_102, e209_105, e209_106, e209_107, e209_110, e209_113, e209_114, e209_115, e209_118, e209_120, e209_121, e209_124, e209_125, e209_128, gK0_eq, gK1_eq, gK3_eq, w32_id, bI_eq0, bI_eq1, Bool.false_eq_true, not_true_eq_false, not_false_eq_true, ne_eq, ite_not, ↓reduceIte, if_true, if_false, Int.reduceToNat, Nat.reduceAdd, Int.reduceEq, Int.reduceLT, Int.reduceLE, Int.reduceNeg, bI_T, bI_F, ↓if_pos, ↓if_neg, h, h1, c1, c2, show 4 ≤ i by omega, show ¬ 8 ≤ i by omega, irem32_id]
        · by_cases c3 : i < 12
          · simp (disch := first | assumption | omega) only [e209_0, e209_1, e209_2, e209_5, e209_6, e209_9, e209_11, e209_12, e209_15, e209_18, e209_19, e209_20, e209_21, e209_25, e209_27, e209_30, e209_32, e209_33, e209_36, e209_37, e209_40, e209_42, e209_44, e209_47, e209_48, e209_51, e209_53, e209_55, e209_58, e209_59, e209_62, e209_64, e209_66, e209_69, e209_71, e209_74, e209_76, e209_78, e209_79, e209_82, e209_83, e209_86, e209_88, e209_89, e209_91, e209_93, e209_95, e209_97, e209_98, e209_99, e209_100, e209_101, e209_102, e209_105, e209_106, e209_107, e209_110, e209_113, e209_114, e209_115, e209_118, e209_120, e209_121, e209_124, e209_125, e209_128, gK0_eq, gK1_eq, gK3_eq, w32_id, bI_eq0, bI_eq1, Bool.false_eq_true, not_true_eq_false, not_false_eq_true, ne_eq, ite_not, ↓reduceIte, if_true, if_false, Int.reduceToNat, Nat.reduceAdd, Int.reduceEq, Int.reduceLT, Int.reduceLE, Int.reduceNeg, bI_T, bI_F, ↓if_pos, ↓if_neg, h, h1, c1, c2, c3, show 4 ≤ i by omega, show 8 ≤ i by omega, show ¬ 12 ≤ i by omega, irem32_id]
          · by_cases c4 : i < 16
            · simp (disch := first | assumption | omega) only [e209_0, e209_1, e209_2, e209_5, e209_6, e209_9, e209_11, e209_12, e209_15, e209_18, e209_19, e209_20, e209_21, e209_25, e209_27, e209_30, e209_32, e209_33, e209_36, e209_37, e209_40, e209_42, e209_44, e209_47, e209_48, e209_51, e209_53, e209_55, e209_58, e209_59, e209_62, e209_64, e209_66, e209_69, e209_71, e209_74, e209_76, e209_78, e209_79, e209_82, e209_83, e209_86, e209_88, e209_89, e209_91, e209_93, e209_95, e209_97, e209_98, e209_99, e209_100, e209_101, e209_102, e209_105, e209_106, e209_107, e209_110, e209_113, e209_114, e209_115, e209_118, e209_120, e209_121, e209_124, e209_125, e209_128, gK0_eq, gK1_eq, gK3_eq, w32_id, bI_eq0, bI_eq1, Bool.false_eq_true, not_true_eq_false, not_false_eq_true, ne_eq, ite_not, ↓reduceIte, if_true, if_false, Int.reduceToNat, Nat.reduceAdd, Int.reduceEq, Int.reduceLT, Int.reduceLE, Int.reduceNeg, bI_T, bI_F, ↓if_pos, ↓if_neg, h, h1, c1, c2, c3, c4, show 4 ≤ i by omega, show 8 ≤ i by omega, show 12 ≤ i by omega, show ¬ 16 ≤ i by omega, irem32_id]
            · simp (disch := first | assumption | omega) only [e209_0, e209_1, e209_2, e209_5, e209_6, e209_9, e209_11, e209_12, e209_15, e209_18, e209_19, e209_20, e209_21, e209_25, e209_27, e209_30, e209_32, e209_33, e209_36, e209_37, e209_40, e209_42, e209_44, e209_47, e209_48, e209_51, e209_53, e209_55, e209_58, e209_59, e209_62, e209_64, e209_66, e209_69, e209_71, e209_74, e209_76, e209_78, e209_79, e209_82, e209_83, e209_86, e209_88, e209_89, e209_91, e209_93, e209_95, e209_97, e209_98, e209_99, e209_100, e209_101, e209_102, e209_105, e209_106, e209_107, e209_110, e209_113, e209_114, e209_115, e209_118, e209_120, e209_121, e209_124, e209_125, e209_128, gK0_eq, gK1_eq, gK3_eq, w32_id, bI_eq0, bI_eq1, Bool.false_eq_true, not_true_eq_false, not_false_eq_true, ne_eq, ite_not, ↓reduceIte, if_true, if_false, Int.reduceToNat, Nat.reduceAdd, Int.reduceEq, Int.reduceLT, Int.reduceLE, Int.reduceNeg, bI_T, bI_F, ↓if_pos, ↓if_neg, h, h1, c1, c2, c3, c4, show 4 ≤ i by omega, show 8 ≤ i by omega, show 12 ≤ i by omega, show 16 ≤ i by omega, irem32_id]
theorem k_feed {a b c d e t : Int} (h1 : μ 1 1 = t) (ht : 0 ≤ t ∧ t + 20 ≤ 700) : ∃ μ', (∀ (k : Nat) (i : Int), k ≠ 2 → (k ≠ 1 ∨ i ≠ 1) → μ' k i = μ k i) ∧ μ' 1 1 = t + 20 ∧ (∀ j, j < t → μ' 2 j = μ 2 j) ∧ (∀ j, 0 ≤ j → j < 20 → μ' 2 (t + j) = tyB (vSel a b c d e j) (j % 4)) ∧ ∀ Q : Int → gM → Prop, gE 1 0 [gO 9 0, gI a, gI b, gI c, gI d, gI e] [] μ Q = Q (t + 20) μ' := by
  obtain ⟨m1, f1, p1, l1, v1, r1⟩ := k_addFour (v := a) h1 (by omega)
  obtain ⟨m2, f2, p2, l2, v2, r2⟩ := k_addFour (v := b) p1 (by omega)
  obtain ⟨m3, f3, p3, l3, v3, r3⟩ := k_addFour (v := c) p2 (by omega)
  obtain ⟨m4, f4, p4, l4, v4, r4⟩ := k_addFour (v := d) p3 (by omega)
  obtain ⟨m5, f5, p5, l5, v5, r5⟩ := k_addFour (v := e) p4 (by omega)
  refine ⟨m5, fun k i x y => by rw [f5 k i x y, f4 k i x y, f3 k i x y, f2 k i x y, f1 k i x y], by omega, fun j hj => by rw [l5 j (by omega), l4 j (by omega), l3 j (by omega), l2 j (by omega), l1 j hj], fun j j0 j1 => ?_, fun Q => ?_⟩
  · unfold vSel
    by_cases c1 : j < 4
    · rw [if_pos c1, l5 _ (by omega), l4 _ (by omega), l3 _ (by omega), l2 _ (by omega), v1 j j0 c1, show j % 4 = j by omega]
    · rw [if_neg c1]
      by_cases c2 : j < 8
      · have z := v2 (j - 4) (by omega) (by omega)
        rw [show t + 4 + (j - 4) = t + j by omega, show j - 4 = j % 4 by omega] at z
        rw [if_pos c2, l5 _ (by omega), l4 _ (by omega), l3 _ (by omega), z]
      · rw [if_neg c2]
        by_cases c3 : j < 12
        · have z := v3 (j - 8) (by omega) (by omega)
          rw [show t + 4 + 4 + (j - 8) = t + j by omega, show j - 8 = j % 4 by omega] at z
          rw [if_pos c3, l5 _ (by omega), l4 _ (by omega), z]
        · rw [if_neg c3]
          by_cases c4 : j < 16
          · have z := v4 (j - 12) (by omega) (by omega)
            rw [show t + 4 + 4 + 4 + (j - 12) = t + j by omega, show j - 12 = j % 4 by omega] at z
            rw [if_pos c4, l5 _ (by omega), z]
          · have z := v5 (j - 16) (by omega) (by omega)
            rw [show t + 4 + 4 + 4 + 4 + (j - 16) = t + j by omega, show j - 16 = j % 4 by omega] at z
            rw [if_neg c4, z]
  · have p6 : m5 1 1 = t + 20 := by omega
    simp (disch := first | assumption | omega) only [e1_0, e1_1, e1_4, e1_7, e1_10, e1_13, e1_14, e1_15, e1_16, e1_19, e1_20, e1_23, e1_24, e1_27, e1_28, e1_31, e1_32, e1_35, e1_36, e1_39, e1_40, e1_43, e1_45, e1_48, e1_49, e1_52, e1_54, e1_57, e1_58, e1_61, e1_64, gK0_eq, gK1_eq, gK3_eq, w32_id, bI_eq0, bI_eq1, Bool.false_eq_true, not_true_eq_false, not_false_eq_true, ne_eq, ite_not, ↓reduceIte, if_true, if_false, Int.reduceToNat, Nat.reduceAdd, Int.reduceEq, Int.reduceLT, Int.reduceLE, Int.reduceNeg, bI_T, bI_F, ↓if_pos, ↓if_neg, h1, show t ≤ 680 by omega, r1, r2, r3, r4, r5, p6]
theorem gInv_tape (h : gInv N μ) (e : ∀ (k : Nat) (i : Int), k ≠ 2 → k ≠ 168 → (k ≠ 1 ∨ i ≠ 1) → (k ≠ 167 ∨ (i ≠ 1 ∧ i ≠ 2)) → ν k i = μ k i) (hr : ν 1 1 = ν 167 1 ∧ (0 ≤ ν 167 1 ∧ ν 167 1 ≤ 700) ∧ ∀ i, 0 ≤ i → i < ν 167 1 → ν 2 i = ν 168 i ∧ 0 ≤ ν 168 i ∧ ν 168 i ≤ 255) : gInv (N + 1) ν := by
  obtain ⟨⟨hI, hW, hB⟩, ⟨q1, q2, q3, q4, q5⟩, ⟨m1, m2, m3⟩, T, hk, hrs, ht⟩ := h
  have eX : gXe μ ν := fun k i q => e k i (by omega) (by omega) (by omega) (by omega)
  have e35 : ν 167 35 = μ 167 35 := e _ _ (by omega) (by omega) (by omega) (by omega)
  have hI' := gIX_congr eX hI
  refine ⟨⟨hI', fun k hk => by rw [e 169 k (by omega) (by omega) (by omega) (by omega)]; exact hW k hk, by rw [e 167 34 (by omega) (by omega) (by omega) (by omega)]; exact hB⟩, ⟨hr.1, hr.2.1, hr.2.2, by rw [e 1 11 (by omega) (by omega) (by omega) (by omega), e 167 4 (by omega) (by omega) (by omega) (by omega)]; exact q4, by rw [e 1 12 (by omega) (by omega) (by omega) (by omega), e 167 5 (by omega) (by omega) (by omega) (by omega)]; exact q5⟩, ⟨by rw [e35]; exact m1, by rw [e 0 4 (by omega) (by omega) (by omega) (by omega), e35]; exact m2, fun z => ?_⟩, T, mK_self (fun k k0 k1 => by rw [e 181 k (by omega) (by omega) (by omega) (by omega)]; exact mK_val hk k0 k1), rSt_at hI' (rSt_X hrs eX) (fun k i q => e k i (by omega) (by omega) (by omega) (by omega)), tInv_X (tInv_mono ht) (fun d => eX _ _ (by omega)) (eX _ _ (by omega))⟩
  rw [e35] at z
  obtain ⟨I, i1, i2, i3⟩ := m3 z
  exact ⟨I, fun k k0 k1 => by rw [e 181 _ (by omega) (by omega) (by omega) (by omega)]; exact i1 k k0 k1, rSt_at hI' (rSt_X i2 eX) (fun k i q => e k i (by omega) (by omega) (by omega) (by omega)), tInv_X (tInv_mono i3) (fun d => eX _ _ (by omega)) (eX _ _ (by omega))⟩
theorem c_feed {a b c d e : Int} (h : gInv N μ) : cEq N μ (gE 1 0 [gO 9 0, gI a, gI b, gI c, gI d, gI e] []) (gE 209 0 [gO 10 167, gI a, gI b, gI c, gI d, gI e, gX, gX] []) := by
  obtain ⟨q1, q2, q3, q4, q5⟩ := h.2.1
  by_cases g : μ 167 1 + 20 ≤ 700
  · obtain ⟨μ1, f1, p1, l1, v1, run1⟩ := k_feed (a := a) (b := b) (c := c) (d := d) (e := e) q1 (by omega)
    have z1 : gS μ1 167 2 0 167 1 = μ 167 1 := by rw [gS_neI (by omega), f1 _ _ (by omega) (by omega)]
    obtain ⟨ν, n1, n2, n3, run2⟩ := s_feed_loop (a := a) (b := b) (c := c) (d := d) (e := e) (t := μ 167 1) (by omega) 20 0 gX (gS μ1 167 2 0) (by omega) (by omega) z1
    refine ⟨μ 167 1 + 20, μ1, gS ν 167 1 (μ 167 1 + 20), ?_, run1, fun Q => ?_⟩
    · have hv1 : ∀ i, i ≠ 2 → ν 167 i = μ 167 i := fun i hi => by rw [n1 _ _ (by omega), gS_neI hi, f1 _ _ (by omega) (by omega)]
      refine gInv_tape h (fun k i c1 c2 c3 c4 => ?_) ⟨?_, ?_, fun i i0 i1 => ?_⟩
      · have e1 : gS ν 167 1 (μ 167 1 + 20) k i = ν k i := if_neg (by omega)
        have e2 : gS μ1 167 2 0 k i = μ1 k i := if_neg (by omega)
        rw [e1, n1 k i c2, e2, f1 k i c1 c3]
      · rw [gS_same, gS_neK (by omega), n1 _ _ (by omega), gS_neK (by omega)]; exact p1
      · rw [gS_same]; omega
      · rw [gS_same] at i1
        have e2 : gS ν 167 1 (μ 167 1 + 20) 2 i = μ1 2 i := by rw [gS_neK (by omega), n1 _ _ (by omega), gS_neK (by omega)]
        have e3 : gS ν 167 1 (μ 167 1 + 20) 168 i = ν 168 i := gS_neK (by omega)
        rw [e2, e3]
        by_cases z : i < μ 167 1
        · have e4 : ν 168 i = μ 168 i := by rw [n2 i (by omega), gS_neK (by omega), f1 _ _ (by omega) (by omega)]
          rw [e4, l1 i z]
          exact q3 i i0 z
        · have y1 := v1 (i - μ 167 1) (by omega) (by omega)
          have y2 := n3 (i - μ 167 1) (by omega) (by omega)
          rw [show μ 167 1 + (i - μ 167 1) = i by omega] at y1 y2
          rw [y1, y2]
          have := tyB_in (v := vSel a b c d e (i - μ 167 1)) (i := (i - μ 167 1) % 4)
          exact ⟨rfl, by omega, by omega⟩
    · rw [← run2 Q]
      simp (disch := first | assumption | omega) only [e209_0, e209_1, e209_2, e209_5, e209_6, e209_9, e209_11, e209_12, e209_15, e209_18, e209_19, e209_20, e209_21, e209_25, e209_27, e209_30, e209_32, e209_33, e209_36, e209_37, e209_40, e209_42, e209_44, e209_47, e209_48, e209_51, e209_53, e209_55, e209_58, e209_59, e209_62, e209_64, e209_66, e209_69, e209_71, e209_74, e209_76, e209_78, e209_79, e209_82, e209_83, e209_86, e209_88, e209_89, e209_91, e209_93, e209_95, e209_97, e209_98, e209_99, e209_100, e209_101, e209_102, e209_105, e209_106, e209_107, e209_110, e209_113, e209_114, e209_115, e209_118, e209_120, e209_121, e209_124, e209_125, e209_128, gK0_eq, gK1_eq, gK3_eq, w32_id, bI_eq0, bI_eq1, Bool.false_eq_true, not_true_eq_false, not_false_eq_true, ne_eq, ite_not, ↓reduceIte, if_true, if_false, Int.reduceToNat, Nat.reduceAdd, Int.reduceEq, Int.reduceLT, Int.reduceLE, Int.reduceNeg, bI_T, bI_F, ↓if_pos, ↓if_neg, z1, g]
  · obtain ⟨T, hk, ⟨hI, hb, hr, ht⟩, ok⟩ := gInv_T h
    have z1 : gS μ 167 2 0 167 1 = μ 167 1 := gS_neI (by omega)
    refine cEq_q (T := T) (a := -1) h hk hr ht (ν := gS μ 167 2 0) cFm2 (fun Q => ?_) (fun Q => ?_)
    · simp (disch := first | assumption | omega) only [e1_0, e1_1, e1_4, e1_7, e1_10, e1_13, e1_14, e1_15, e1_16, e1_19, e1_20, e1_23, e1_24, e1_27, e1_28, e1_31, e1_32, e1_35, e1_36, e1_39, e1_40, e1_43, e1_45, e1_48, e1_49, e1_52, e1_54, e1_57, e1_58, e1_61, e1_64, gK0_eq, gK1_eq, gK3_eq, w32_id, bI_eq0, bI_eq1, Bool.false_eq_true, not_true_eq_false, not_false_eq_true, ne_eq, ite_not, ↓reduceIte, if_true, if_false, Int.reduceToNat, Nat.reduceAdd, Int.reduceEq, Int.reduceLT, Int.reduceLE, Int.reduceNeg, bI_T, bI_F, ↓if_pos, ↓if_neg, q1, show ¬ μ 167 1 ≤ 680 by omega]
    · simp (disch := first | assumption | omega) only [e209_0, e209_1, e209_2, e209_5, e209_6, e209_9, e209_11, e209_12, e209_15, e209_18, e209_19, e209_20, e209_21, e209_25, e209_27, e209_30, e209_32, e209_33, e209_36, e209_37, e209_40, e209_42, e209_44, e209_47, e209_48, e209_51, e209_53, e209_55, e209_58, e209_59, e209_62, e209_64, e209_66, e209_69, e209_71, e209_74, e209_76, e209_78, e209_79, e209_82, e209_83, e209_86, e209_88, e209_89, e209_91, e209_93, e209_95, e209_97, e209_98, e209_99, e209_100, e209_101, e209_102, e209_105, e209_106, e209_107, e209_110, e209_113, e209_114, e209_115, e209_118, e209_120, e209_121, e209_124, e209_125, e209_128, gK0_eq, gK1_eq, gK3_eq, w32_id, bI_eq0, bI_eq1, Bool.false_eq_true, not_true_eq_false, not_false_eq_true, ne_eq, ite_not, ↓reduceIte, if_true, if_false, Int.reduceToNat, Nat.reduceAdd, Int.reduceEq, Int.reduceLT, Int.reduceLE, Int.reduceNeg, bI_T, bI_F, ↓if_pos, ↓if_neg, gS_mK, mK_ne, z1, g]
end FEED
