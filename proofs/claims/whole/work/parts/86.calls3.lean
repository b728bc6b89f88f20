/-! calls, side by side, third part: questions, trials, image -/
section CALLS3
variable {B : Nat} {N : Int} {X X' μ μ' μ1 μ2 ν : gM} {T T' T2 : Int → Int} {Q : Int → gM → Prop} {a v : Int} {G M : gM → (Int → gM → Prop) → Prop}
theorem c_page {d p w : Int} (h : gInv N μ) : cEq N μ (gE 23 0 [gO 9 0, gI d, gI p, gI w] []) (gE 315 0 [gO 10 167, gI d, gI p, gI w, gX] []) := by
  obtain ⟨T, hk, ⟨hI, hb, hr, ht⟩, ok⟩ := gInv_T h
  have o1 := ok.1
  refine cEq_q (T := T) (a := tPgA T d p w) h hk hr ht cFm2 (fun Q => ?_) (fun Q => s_page hb o1)
  unfold tPgA
  by_cases g1 : 0 ≤ d ∧ d < T 1672
  · by_cases g2 : 0 ≤ p ∧ p < 64
    · by_cases g3 : 0 ≤ w ∧ w ≤ 4
      · have hd : 0 ≤ d ∧ d < 4 := by omega
        have w0 := g3.1
        have w1 := g3.2
        rw [if_pos ⟨g1.1, g1.2, g2.1, g2.2, g3.1, g3.2⟩]
        simp (disch := first | assumption | omega) only [e23_0, e23_1, e23_2, e23_5, e23_8, e23_9, e23_12, e23_15, e23_16, e23_19, e23_20, e23_21, e23_24, e23_25, e23_26, e23_27, e23_30, e23_33, e23_34, e23_35, e23_36, e23_39, gK0_eq, gK1_eq, gK3_eq, w32_id, bI_eq0, bI_eq1, Bool.false_eq_true, not_true_eq_false, not_false_eq_true, ne_eq, ite_not, ↓reduceIte, if_true, if_false, Int.reduceToNat, Nat.reduceAdd, Int.reduceEq, Int.reduceLT, Int.reduceLE, Int.reduceNeg, bI_T, bI_F, ↓if_pos, ↓if_neg, k_isDomain hr, k_isPage, g1, g2, and_self, show ¬ w < 0 by omega, w1, k_tellPage hr.2.1 hd g2 g3]
      · rw [if_neg (by omega)]
        by_cases g4 : w < 0
        · simp (disch := first | assumption | omega) only [e23_0, e23_1, e23_2, e23_5, e23_8, e23_9, e23_12, e23_15, e23_16, e23_19, e23_20, e23_21, e23_24, e23_25, e23_26, e23_27, e23_30, e23_33, e23_34, e23_35, e23_36, e23_39, gK0_eq, gK1_eq, gK3_eq, w32_id, bI_eq0, bI_eq1, Bool.false_eq_true, not_true_eq_false, not_false_eq_true, ne_eq, ite_not, ↓reduceIte, if_true, if_false, Int.reduceToNat, Nat.reduceAdd, Int.reduceEq, Int.reduceLT, Int.reduceLE, Int.reduceNeg, bI_T, bI_F, ↓if_pos, ↓if_neg, k_isDomain hr, k_isPage, g1, g2, and_self, g4]
        · simp (disch := first | assumption | omega) only [e23_0, e23_1, e23_2, e23_5, e23_8, e23_9, e23_12, e23_15, e23_16, e23_19, e23_20, e23_21, e23_24, e23_25, e23_26, e23_27, e23_30, e23_33, e23_34, e23_35, e23_36, e23_39, gK0_eq, gK1_eq, gK3_eq, w32_id, bI_eq0, bI_eq1, Bool.false_eq_true, not_true_eq_false, not_false_eq_true, ne_eq, ite_not, ↓reduceIte, if_true, if_false, Int.reduceToNat, Nat.reduceAdd, Int.reduceEq, Int.reduceLT, Int.reduceLE, Int.reduceNeg, bI_T, bI_F, ↓if_pos, ↓if_neg, k_isDomain hr, k_isPage, g1, g2, and_self, g4, show ¬ w ≤ 4 by omega]
    · rw [if_neg (by omega)]
      simp (disch := first | assumption | omega) only [e23_0, e23_1, e23_2, e23_5, e23_8, e23_9, e23_12, e23_15, e23_16, e23_19, e23_20, e23_21, e23_24, e23_25, e23_26, e23_27, e23_30, e23_33, e23_34, e23_35, e23_36, e23_39, gK0_eq, gK1_eq, gK3_eq, w32_id, bI_eq0, bI_eq1, Bool.false_eq_true, not_true_eq_false, not_false_eq_true, ne_eq, ite_not, ↓reduceIte, if_true, if_false, Int.reduceToNat, Nat.reduceAdd, Int.reduceEq, Int.reduceLT, Int.reduceLE, Int.reduceNeg, bI_T, bI_F, ↓if_pos, ↓if_neg, k_isDomain hr, k_isPage, g1, g2, and_self]
  · rw [if_neg (by omega)]
    simp (disch := first | assumption | omega) only [e23_0, e23_1, e23_2, e23_5, e23_8, e23_9, e23_12, e23_15, e23_16, e23_19, e23_20, e23_21, e23_24, e23_25, e23_26, e23_27, e23_30, e23_33, e23_34, e23_35, e23_36, e23_39, gK0_eq, gK1_eq, gK3_eq, w32_id, bI_eq0, bI_eq1, Bool.false_eq_true, not_true_eq_false, not_false_eq_true, ne_eq, ite_not, ↓reduceIte, if_true, if_false, Int.reduceToNat, Nat.reduceAdd, Int.reduceEq, Int.reduceLT, Int.reduceLE, Int.reduceNeg, bI_T, bI_F, ↓if_pos, ↓if_neg, k_isDomain hr, g1]
theorem c_domainOf {d w : Int} (h : gInv N μ) : cEq N μ (gE 24 0 [gO 9 0, gI d, gI w] []) (gE 317 0 [gO 10 167, gI d, gI w, gX, gX] []) := by
  obtain ⟨T, hk, ⟨hI, hb, hr, ht⟩, ok⟩ := gInv_T h
  have o1 := ok.1
  refine cEq_q (T := T) (a := tDoA μ T d w) h hk hr ht cFm2 (fun Q => ?_) (fun Q => s_domainOf hb hI o1)
  unfold tDoA
  by_cases g1 : 0 ≤ d ∧ d < T 1672
  · have hd : 0 ≤ d ∧ d < 4 := by omega
    obtain ⟨b1, b2, -⟩ := (hr.2.1.2.2.1 d hd.1 hd.2).2.1 g1.2
    have d0 := hd.1
    have d4 : d < ((4 : Nat) : Int) := by omega
    rw [if_pos g1]
    by_cases hw : 0 ≤ w ∧ w ≤ 6
    · have c : w = 0 ∨ w = 1 ∨ w = 2 ∨ w = 3 ∨ w = 4 ∨ w = 5 ∨ w = 6 := by omega
      rcases c with rfl | rfl | rfl | rfl | rfl | rfl | rfl
      all_goals simp (disch := first | assumption | omega) only [e24_0, e24_1, e24_2, e24_5, e24_8, e24_9, e24_10, e24_11_c0, e24_11_c1, e24_11_c2, e24_11_c3, e24_11_c4, e24_11_c5, e24_11_c6, e24_11_d, e24_52, e24_53, e24_56, e24_59, e24_60, e24_63, e24_64, e24_65, e24_68, e24_71, e24_72, e24_75, e24_76, e24_77, e24_80, e24_83, e24_84, e24_87, e24_88, e24_89, e24_92, e24_95, e24_98, e24_99, e24_102, e24_103, e24_104, e24_107, e24_110, e24_111, e24_114, e24_115, e24_116, e24_119, e24_122, e24_125, e24_126, e24_129, e24_130, e24_131, e24_134, e24_135, e24_138, e24_139, e24_140, gK0_eq, gK1_eq, gK3_eq, w32_id, bI_eq0, bI_eq1, Bool.false_eq_true, not_true_eq_false, not_false_eq_true, ne_eq, ite_not, ↓reduceIte, if_true, if_false, Int.reduceToNat, Nat.reduceAdd, Int.reduceEq, Int.reduceLT, Int.reduceLE, Int.reduceNeg, bI_T, bI_F, ↓if_pos, ↓if_neg, k_isDomain hr, g1, and_self, k_tablesOf hr.2.1 hd, k_mappedOf hr.2.1 hd, k_blocksOf hr.2.1 hd, k_reservedOf hr.2.1 hd, k_groupsOf hI hr, s_at, atv_in, b1, b2]
    · rw [if_neg (by omega), if_neg (by omega), if_neg (by omega), if_neg (by omega), if_neg (by omega), if_neg (by omega), if_neg (by omega)]
      have z : w < 0 ∨ 6 < w := by omega
      simp (disch := first | assumption | omega) only [e24_0, e24_1, e24_2, e24_5, e24_8, e24_9, e24_10, e24_11_c0, e24_11_c1, e24_11_c2, e24_11_c3, e24_11_c4, e24_11_c5, e24_11_c6, e24_11_d, e24_52, e24_53, e24_56, e24_59, e24_60, e24_63, e24_64, e24_65, e24_68, e24_71, e24_72, e24_75, e24_76, e24_77, e24_80, e24_83, e24_84, e24_87, e24_88, e24_89, e24_92, e24_95, e24_98, e24_99, e24_102, e24_103, e24_104, e24_107, e24_110, e24_111, e24_114, e24_115, e24_116, e24_119, e24_122, e24_125, e24_126, e24_129, e24_130, e24_131, e24_134, e24_135, e24_138, e24_139, e24_140, gK0_eq, gK1_eq, gK3_eq, w32_id, bI_eq0, bI_eq1, Bool.false_eq_true, not_true_eq_false, not_false_eq_true, ne_eq, ite_not, ↓reduceIte, if_true, if_false, Int.reduceToNat, Nat.reduceAdd, Int.reduceEq, Int.reduceLT, Int.reduceLE, Int.reduceNeg, bI_T, bI_F, ↓if_pos, ↓if_neg, k_isDomain hr, g1, and_self, z]
  · rw [if_neg g1]
    simp (disch := first | assumption | omega) only [e24_0, e24_1, e24_2, e24_5, e24_8, e24_9, e24_10, e24_11_c0, e24_11_c1, e24_11_c2, e24_11_c3, e24_11_c4, e24_11_c5, e24_11_c6, e24_11_d, e24_52, e24_53, e24_56, e24_59, e24_60, e24_63, e24_64, e24_65, e24_68, e24_71, e24_72, e24_75, e24_76, e24_77, e24_80, e24_83, e24_84, e24_87, e24_88, e24_89, e24_92, e24_95, e24_98, e24_99, e24_102, e24_103, e24_104, e24_107, e24_110, e24_111, e24_114, e24_115, e24_116, e24_119, e24_122, e24_125, e24_126, e24_129, e24_130, e24_131, e24_134, e24_135, e24_138, e24_139, e24_140, gK0_eq, gK1_eq, gK3_eq, w32_id, bI_eq0, bI_eq1, Bool.false_eq_true, not_true_eq_false, not_false_eq_true, ne_eq, ite_not, ↓reduceIte, if_true, if_false, Int.reduceToNat, Nat.reduceAdd, Int.reduceEq, Int.reduceLT, Int.reduceLE, Int.reduceNeg, bI_T, bI_F, ↓if_pos, ↓if_neg, k_isDomain hr, g1]
theorem c_frame {f w : Int} (h : gInv N μ) : cEq N μ (gE 25 0 [gO 9 0, gI f, gI w] []) (gE 319 0 [gO 10 167, gI f, gI w, gX, gX] []) := by
  obtain ⟨T, hk, ⟨hI, hb, hr, ht⟩, ok⟩ := gInv_T h
  obtain ⟨o1, o2, o3, o4, o5, o6, o7, o8, o9, o10, o11, o12, o13, o14⟩ := id ok
  refine cEq_q (T := T) (a := tFrA T f w) h hk hr ht cFm2 (fun Q => ?_) (fun Q => s_frame hb o1 o12)
  unfold tFrA
  by_cases g1 : 0 ≤ f ∧ f < 64
  · obtain ⟨b1, -⟩ := hr.2.2.1.2.1 f g1.1 g1.2
    have f0 := g1.1
    have f4 : f < ((64 : Nat) : Int) := by omega
    by_cases hw : 0 ≤ w ∧ w ≤ 3
    · rw [if_pos ⟨g1.1, g1.2, hw⟩]
      have c : w = 0 ∨ w = 1 ∨ w = 2 ∨ w = 3 := by omega
      rcases c with rfl | rfl | rfl | rfl
      all_goals simp (disch := first | assumption | omega) only [e25_0, e25_1, e25_4, e25_7, e25_8, e25_9, e25_10_c0, e25_10_c1, e25_10_c2, e25_10_c3, e25_10_d, e25_40, e25_41, e25_44, e25_47, e25_48, e25_51, e25_52, e25_53, e25_56, e25_59, e25_62, e25_63, e25_66, e25_67, e25_68, e25_71, e25_74, e25_75, e25_78, e25_79, e25_80, e25_83, e25_84, e25_87, e25_88, e25_89, gK0_eq, gK1_eq, gK3_eq, w32_id, bI_eq0, bI_eq1, Bool.false_eq_true, not_true_eq_false, not_false_eq_true, ne_eq, ite_not, ↓reduceIte, if_true, if_false, Int.reduceToNat, Nat.reduceAdd, Int.reduceEq, Int.reduceLT, Int.reduceLE, Int.reduceNeg, bI_T, bI_F, ↓if_pos, ↓if_neg, k_isFrame, g1, and_self, k_stateOf hr.2.2.1 g1, k_CentriesOf hr.2.2.2.2.1, k_staleEntries hr, s_at, atv_in, b1]
    · rw [if_neg (by omega)]
      have z : w < 0 ∨ 3 < w := by omega
      simp (disch := first | assumption | omega) only [e25_0, e25_1, e25_4, e25_7, e25_8, e25_9, e25_10_c0, e25_10_c1, e25_10_c2, e25_10_c3, e25_10_d, e25_40, e25_41, e25_44, e25_47, e25_48, e25_51, e25_52, e25_53, e25_56, e25_59, e25_62, e25_63, e25_66, e25_67, e25_68, e25_71, e25_74, e25_75, e25_78, e25_79, e25_80, e25_83, e25_84, e25_87, e25_88, e25_89, gK0_eq, gK1_eq, gK3_eq, w32_id, bI_eq0, bI_eq1, Bool.false_eq_true, not_true_eq_false, not_false_eq_true, ne_eq, ite_not, ↓reduceIte, if_true, if_false, Int.reduceToNat, Nat.reduceAdd, Int.reduceEq, Int.reduceLT, Int.reduceLE, Int.reduceNeg, bI_T, bI_F, ↓if_pos, ↓if_neg, k_isFrame, g1, and_self, z]
  · rw [if_neg (by omega)]
    simp (disch := first | assumption | omega) only [e25_0, e25_1, e25_4, e25_7, e25_8, e25_9, e25_10_c0, e25_10_c1, e25_10_c2, e25_10_c3, e25_10_d, e25_40, e25_41, e25_44, e25_47, e25_48, e25_51, e25_52, e25_53, e25_56, e25_59, e25_62, e25_63, e25_66, e25_67, e25_68, e25_71, e25_74, e25_75, e25_78, e25_79, e25_80, e25_83, e25_84, e25_87, e25_88, e25_89, gK0_eq, gK1_eq, gK3_eq, w32_id, bI_eq0, bI_eq1, Bool.false_eq_true, not_true_eq_false, not_false_eq_true, ne_eq, ite_not, ↓reduceIte, if_true, if_false, Int.reduceToNat, Nat.reduceAdd, Int.reduceEq, Int.reduceLT, Int.reduceLE, Int.reduceNeg, bI_T, bI_F, ↓if_pos, ↓if_neg, k_isFrame, g1]
theorem c_reach {e r w : Int} (h : gInv N μ) : cEq N μ (gE 26 0 [gO 9 0, gI e, gI r, gI w, gX] []) (gE 320 0 [gO 10 167, gI e, gI r, gI w, gX, gX, gX, gX, gX, gX] []) := by
  obtain ⟨T, hk, ⟨hI, hb, hr, ht⟩, ok⟩ := gInv_T h
  obtain ⟨o1, o2, o3, o4, o5, o6, o7, o8, o9, o10, o11, o12, o13, o14⟩ := id ok
  refine cEq_q (T := T) (a := tReA μ T e r w) h hk hr ht cFm2 (fun Q => ?_) (fun Q => s_reach hb hI (fun g g0 g1 => (o10 g g0 g1).2.1) o12)
  unfold tReA
  by_cases g1 : 0 ≤ e ∧ e < μ 167 12
  · by_cases g2 : 1 ≤ r ∧ r ≤ 2
    · by_cases g3 : 0 ≤ w ∧ w ≤ 2
      · rw [if_pos ⟨g1.1, g1.2, g2.1, g2.2, g3⟩]
        have n2 := hI.2.1
        have g := gX8 hI (d := e) (by omega)
        have og := o10 _ g.1 g.2.1
        by_cases c : T (1673 + μ 179 e) = -1
        · rw [if_pos (by omega)]
          simp (disch := first | assumption | omega) only [e26_0, e26_1, e26_2, e26_5, e26_8, e26_9, e26_12, e26_15, e26_16, e26_19, e26_20, e26_21, e26_24, e26_25, e26_26, e26_27, e26_30, e26_31, e26_32, e26_35, e26_37, e26_39, e26_40, e26_43, e26_44, e26_45, e26_46, e26_49, e26_50, e26_53, e26_56, e26_58, e26_59, e26_62, e26_65, e26_66, e26_69, e26_71, e26_72, e26_73, e26_74, e26_77, e26_78, e26_81, e26_82, e26_85, gK0_eq, gK1_eq, gK3_eq, w32_id, bI_eq0, bI_eq1, Bool.false_eq_true, not_true_eq_false, not_false_eq_true, ne_eq, ite_not, ↓reduceIte, if_true, if_false, Int.reduceToNat, Nat.reduceAdd, Int.reduceEq, Int.reduceLT, Int.reduceLE, Int.reduceNeg, bI_T, bI_F, ↓if_pos, ↓if_neg, k_isDevice hr, k_isRight, g1, g2, and_self, show ¬ w < 0 by omega, g3.2, k_domainOr hI hr g1, c]
        · rw [if_neg (by omega)]
          have hd : 0 ≤ T (1673 + μ 179 e) ∧ T (1673 + μ 179 e) < 4 := by omega
          have cw : w = 0 ∨ w = 1 ∨ w = 2 := by omega
          have H1 := fun Q => k_hitFrames (Q := Q) (d := T (1673 + μ 179 e)) (r := r) hr (w := 1) (Or.inl rfl)
          have H2 := fun Q => k_hitFrames (Q := Q) (d := T (1673 + μ 179 e)) (r := r) hr (w := 2) (Or.inr rfl)
          rw [show bI ((1 : Int) = 2) = 0 from by decide] at H1
          rw [show bI ((2 : Int) = 2) = 1 from by decide] at H2
          rcases cw with rfl | rfl | rfl
          all_goals simp (disch := first | assumption | omega) only [e26_0, e26_1, e26_2, e26_5, e26_8, e26_9, e26_12, e26_15, e26_16, e26_19, e26_20, e26_21, e26_24, e26_25, e26_26, e26_27, e26_30, e26_31, e26_32, e26_35, e26_37, e26_39, e26_40, e26_43, e26_44, e26_45, e26_46, e26_49, e26_50, e26_53, e26_56, e26_58, e26_59, e26_62, e26_65, e26_66, e26_69, e26_71, e26_72, e26_73, e26_74, e26_77, e26_78, e26_81, e26_82, e26_85, gK0_eq, gK1_eq, gK3_eq, w32_id, bI_eq0, bI_eq1, Bool.false_eq_true, not_true_eq_false, not_false_eq_true, ne_eq, ite_not, ↓reduceIte, if_true, if_false, Int.reduceToNat, Nat.reduceAdd, Int.reduceEq, Int.reduceLT, Int.reduceLE, Int.reduceNeg, bI_T, bI_F, ↓if_pos, ↓if_neg, k_isDevice hr, k_isRight, g1, g2, and_self, k_domainOr hI hr g1, c, k_framesOf hr.2.1 hd, H1, H2]
      · rw [if_neg (by omega)]
        by_cases g4 : w < 0
        · simp (disch := first | assumption | omega) only [e26_0, e26_1, e26_2, e26_5, e26_8, e26_9, e26_12, e26_15, e26_16, e26_19, e26_20, e26_21, e26_24, e26_25, e26_26, e26_27, e26_30, e26_31, e26_32, e26_35, e26_37, e26_39, e26_40, e26_43, e26_44, e26_45, e26_46, e26_49, e26_50, e26_53, e26_56, e26_58, e26_59, e26_62, e26_65, e26_66, e26_69, e26_71, e26_72, e26_73, e26_74, e26_77, e26_78, e26_81, e26_82, e26_85, gK0_eq, gK1_eq, gK3_eq, w32_id, bI_eq0, bI_eq1, Bool.false_eq_true, not_true_eq_false, not_false_eq_true, ne_eq, ite_not, ↓reduceIte, if_true, if_false, Int.reduceToNat, Nat.reduceAdd, Int.reduceEq, Int.reduceLT, Int.reduceLE, Int.reduceNeg, bI_T, bI_F, ↓if_pos, ↓if_neg, k_isDevice hr, k_isRight, g1, g2, and_self, g4]
        · simp (disch := first | assumption | omega) only [e26_0, e26_1, e26_2, e26_5, e26_8, e26_9, e26_12, e26_15, e26_16, e26_19, e26_20, e26_21, e26_24, e26_25, e26_26, e26_27, e26_30, e26_31, e26_32, e26_35, e26_37, e26_39, e26_40, e26_43, e26_44, e26_45, e26_46, e26_49, e26_50, e26_53, e26_56, e26_58, e26_59, e26_62, e26_65, e26_66, e26_69, e26_71, e26_72, e26_73, e26_74, e26_77, e26_78, e26_81, e26_82, e26_85, gK0_eq, gK1_eq, gK3_eq, w32_id, bI_eq0, bI_eq1, Bool.false_eq_true, not_true_eq_false, not_false_eq_true, ne_eq, ite_not, ↓reduceIte, if_true, if_false, Int.reduceToNat, Nat.reduceAdd, Int.reduceEq, Int.reduceLT, Int.reduceLE, Int.reduceNeg, bI_T, bI_F, ↓if_pos, ↓if_neg, k_isDevice hr, k_isRight, g1, g2, and_self, g4, show ¬ w ≤ 2 by omega]
    · rw [if_neg (by omega)]
      simp (disch := first | assumption | omega) only [e26_0, e26_1, e26_2, e26_5, e26_8, e26_9, e26_12, e26_15, e26_16, e26_19, e26_20, e26_21, e26_24, e26_25, e26_26, e26_27, e26_30, e26_31, e26_32, e26_35, e26_37, e26_39, e26_40, e26_43, e26_44, e26_45, e26_46, e26_49, e26_50, e26_53, e26_56, e26_58, e26_59, e26_62, e26_65, e26_66, e26_69, e26_71, e26_72, e26_73, e26_74, e26_77, e26_78, e26_81, e26_82, e26_85, gK0_eq, gK1_eq, gK3_eq, w32_id, bI_eq0, bI_eq1, Bool.false_eq_true, not_true_eq_false, not_false_eq_true, ne_eq, ite_not, ↓reduceIte, if_true, if_false, Int.reduceToNat, Nat.reduceAdd, Int.reduceEq, Int.reduceLT, Int.reduceLE, Int.reduceNeg, bI_T, bI_F, ↓if_pos, ↓if_neg, k_isDevice hr, k_isRight, g1, g2, and_self]
  · rw [if_neg (by omega)]
    simp (disch := first | assumption | omega) only [e26_0, e26_1, e26_2, e26_5, e26_8, e26_9, e26_12, e26_15, e26_16, e26_19, e26_20, e26_21, e26_24, e26_25, e26_26, e26_27, e26_30, e26_31, e26_32, e26_35, e26_37, e26_39, e26_40, e26_43, e26_44, e26_45, e26_46, e26_49, e26_50, e26_53, e26_56, e26_58, e26_59, e26_62, e26_65, e26_66, e26_69, e26_71, e26_72, e26_73, e26_74, e26_77, e26_78, e26_81, e26_82, e26_85, gK0_eq, gK1_eq, gK3_eq, w32_id, bI_eq0, bI_eq1, Bool.false_eq_true, not_true_eq_false, not_false_eq_true, ne_eq, ite_not, ↓reduceIte, if_true, if_false, Int.reduceToNat, Nat.reduceAdd, Int.reduceEq, Int.reduceLT, Int.reduceLE, Int.reduceNeg, bI_T, bI_F, ↓if_pos, ↓if_neg, k_isDevice hr, g1]
theorem c_shared {d e : Int} (h : gInv N μ) : cEq N μ (gE 27 0 [gO 9 0, gI d, gI e] []) (gE 322 0 [gO 10 167, gI d, gI e] []) := by
  obtain ⟨T, hk, ⟨hI, hb, hr, ht⟩, ok⟩ := gInv_T h
  have o1 := ok.1
  refine cEq_q (T := T) (a := tShA T d e) h hk hr ht cFm2 (fun Q => ?_) (fun Q => s_shared hb o1)
  unfold tShA
  by_cases g1 : 0 ≤ d ∧ d < T 1672
  · by_cases g2 : 0 ≤ e ∧ e < T 1672
    · have hd : 0 ≤ d ∧ d < 4 := by omega
      have he : 0 ≤ e ∧ e < 4 := by omega
      rw [if_pos ⟨g1.1, g1.2, g2⟩]
      simp (disch := first | assumption | omega) only [e27_0, e27_1, e27_2, e27_5, e27_8, e27_9, e27_10, e27_13, e27_16, e27_17, e27_18, e27_19, e27_22, e27_25, e27_26, e27_27, e27_30, e27_31, e27_34, e27_37, e27_38, e27_39, e27_42, e27_43, gK0_eq, gK1_eq, gK3_eq, w32_id, bI_eq0, bI_eq1, Bool.false_eq_true, not_true_eq_false, not_false_eq_true, ne_eq, ite_not, ↓reduceIte, if_true, if_false, Int.reduceToNat, Nat.reduceAdd, Int.reduceEq, Int.reduceLT, Int.reduceLE, Int.reduceNeg, bI_T, bI_F, ↓if_pos, ↓if_neg, k_isDomain hr, g1, g2, and_self, k_framesOf hr.2.1 hd, k_framesOf hr.2.1 he, tRe0_3 hr.2.1 hd, tRe0_3 hr.2.1 he]
    · rw [if_neg (by omega)]
      simp (disch := first | assumption | omega) only [e27_0, e27_1, e27_2, e27_5, e27_8, e27_9, e27_10, e27_13, e27_16, e27_17, e27_18, e27_19, e27_22, e27_25, e27_26, e27_27, e27_30, e27_31, e27_34, e27_37, e27_38, e27_39, e27_42, e27_43, gK0_eq, gK1_eq, gK3_eq, w32_id, bI_eq0, bI_eq1, Bool.false_eq_true, not_true_eq_false, not_false_eq_true, ne_eq, ite_not, ↓reduceIte, if_true, if_false, Int.reduceToNat, Nat.reduceAdd, Int.reduceEq, Int.reduceLT, Int.reduceLE, Int.reduceNeg, bI_T, bI_F, ↓if_pos, ↓if_neg, k_isDomain hr, g1, g2, and_self]
  · rw [if_neg (by omega)]
    simp (disch := first | assumption | omega) only [e27_0, e27_1, e27_2, e27_5, e27_8, e27_9, e27_10, e27_13, e27_16, e27_17, e27_18, e27_19, e27_22, e27_25, e27_26, e27_27, e27_30, e27_31, e27_34, e27_37, e27_38, e27_39, e27_42, e27_43, gK0_eq, gK1_eq, gK3_eq, w32_id, bI_eq0, bI_eq1, Bool.false_eq_true, not_true_eq_false, not_false_eq_true, ne_eq, ite_not, ↓reduceIte, if_true, if_false, Int.reduceToNat, Nat.reduceAdd, Int.reduceEq, Int.reduceLT, Int.reduceLE, Int.reduceNeg, bI_T, bI_F, ↓if_pos, ↓if_neg, k_isDomain hr, g1]
theorem c_gap {d n : Int} (h : gInv N μ) : cEq N μ (gE 28 0 [gO 9 0, gI d, gI n] []) (gE 323 0 [gO 10 167, gI d, gI n, gX] []) := by
  obtain ⟨T, hk, ⟨hI, hb, hr, ht⟩, ok⟩ := gInv_T h
  have o1 := ok.1
  refine cEq_q (T := T) (a := tGpA T d n) h hk hr ht cFm2 (fun Q => ?_) (fun Q => s_gap hb o1)
  unfold tGpA
  by_cases g1 : 0 ≤ d ∧ d < T 1672
  · by_cases g2 : 1 ≤ n ∧ n ≤ 64
    · have hd : 0 ≤ d ∧ d < 4 := by omega
      rw [if_pos ⟨g1.1, g1.2, g2⟩]
      simp (disch := first | assumption | omega) only [e28_0, e28_1, e28_2, e28_5, e28_8, e28_9, e28_10, e28_13, e28_14, e28_16, e28_19, e28_20, e28_23, e28_26, e28_27, e28_28, e28_31, e28_34, e28_35, gK0_eq, gK1_eq, gK3_eq, w32_id, bI_eq0, bI_eq1, Bool.false_eq_true, not_true_eq_false, not_false_eq_true, ne_eq, ite_not, ↓reduceIte, if_true, if_false, Int.reduceToNat, Nat.reduceAdd, Int.reduceEq, Int.reduceLT, Int.reduceLE, Int.reduceNeg, bI_T, bI_F, ↓if_pos, ↓if_neg, k_isDomain hr, g1, and_self, show ¬ n < 1 by omega, g2.2, k_firstGap hr.2.1 hd g2]
    · rw [if_neg (by omega)]
      by_cases g3 : n < 1
      · simp (disch := first | assumption | omega) only [e28_0, e28_1, e28_2, e28_5, e28_8, e28_9, e28_10, e28_13, e28_14, e28_16, e28_19, e28_20, e28_23, e28_26, e28_27, e28_28, e28_31, e28_34, e28_35, gK0_eq, gK1_eq, gK3_eq, w32_id, bI_eq0, bI_eq1, Bool.false_eq_true, not_true_eq_false, not_false_eq_true, ne_eq, ite_not, ↓reduceIte, if_true, if_false, Int.reduceToNat, Nat.reduceAdd, Int.reduceEq, Int.reduceLT, Int.reduceLE, Int.reduceNeg, bI_T, bI_F, ↓if_pos, ↓if_neg, k_isDomain hr, g1, and_self, g3]
      · simp (disch := first | assumption | omega) only [e28_0, e28_1, e28_2, e28_5, e28_8, e28_9, e28_10, e28_13, e28_14, e28_16, e28_19, e28_20, e28_23, e28_26, e28_27, e28_28, e28_31, e28_34, e28_35, gK0_eq, gK1_eq, gK3_eq, w32_id, bI_eq0, bI_eq1, Bool.false_eq_true, not_true_eq_false, not_false_eq_true, ne_eq, ite_not, ↓reduceIte, if_true, if_false, Int.reduceToNat, Nat.reduceAdd, Int.reduceEq, Int.reduceLT, Int.reduceLE, Int.reduceNeg, bI_T, bI_F, ↓if_pos, ↓if_neg, k_isDomain hr, g1, and_self, g3, show ¬ n ≤ 64 by omega]
  · rw [if_neg (by omega)]
    simp (disch := first | assumption | omega) only [e28_0, e28_1, e28_2, e28_5, e28_8, e28_9, e28_10, e28_13, e28_14, e28_16, e28_19, e28_20, e28_23, e28_26, e28_27, e28_28, e28_31, e28_34, e28_35, gK0_eq, gK1_eq, gK3_eq, w32_id, bI_eq0, bI_eq1, Bool.false_eq_true, not_true_eq_false, not_false_eq_true, ne_eq, ite_not, ↓reduceIte, if_true, if_false, Int.reduceToNat, Nat.reduceAdd, Int.reduceEq, Int.reduceLT, Int.reduceLE, Int.reduceNeg, bI_T, bI_F, ↓if_pos, ↓if_neg, k_isDomain hr, g1]
theorem c_queued {k w : Int} (h : gInv N μ) : cEq N μ (gE 29 0 [gO 9 0, gI k, gI w] []) (gE 324 0 [gO 10 167, gI k, gI w] []) := by
  obtain ⟨T, hk, ⟨hI, hb, hr, ht⟩, ok⟩ := gInv_T h
  have o2 := ok.2.1
  exact cEq_q (T := T) (a := tTel T 1681 1682 2 k w) h hk hr ht cFm2 (fun Q => by simp (disch := first | assumption | omega) only [e29_0, e29_1, e29_4, e29_7, e29_8, e29_9, e29_12, gK0_eq, gK1_eq, gK3_eq, w32_id, bI_eq0, bI_eq1, Bool.false_eq_true, not_true_eq_false, not_false_eq_true, ne_eq, ite_not, ↓reduceIte, if_true, if_false, Int.reduceToNat, Nat.reduceAdd, Int.reduceEq, Int.reduceLT, Int.reduceLE, Int.reduceNeg, bI_T, bI_F, ↓if_pos, ↓if_neg, k_Qtell hr.2.2.2.1]) (fun Q => s_queued hb (by omega))
theorem c_record {k w : Int} (h : gInv N μ) : cEq N μ (gE 31 0 [gO 9 0, gI k, gI w] []) (gE 326 0 [gO 10 167, gI k, gI w] []) := by
  obtain ⟨T, hk, ⟨hI, hb, hr, ht⟩, ok⟩ := gInv_T h
  exact cEq_q (T := T) (a := tTel T 1927 1928 3 k w) h hk hr ht cFm2 (fun Q => by simp (disch := first | assumption | omega) only [e31_0, e31_1, e31_4, e31_7, e31_8, e31_9, e31_12, gK0_eq, gK1_eq, gK3_eq, w32_id, bI_eq0, bI_eq1, Bool.false_eq_true, not_true_eq_false, not_false_eq_true, ne_eq, ite_not, ↓reduceIte, if_true, if_false, Int.reduceToNat, Nat.reduceAdd, Int.reduceEq, Int.reduceLT, Int.reduceLE, Int.reduceNeg, bI_T, bI_F, ↓if_pos, ↓if_neg, k_tellRecord hr.2.2.2.2.2.2.1]) (fun Q => s_record hb hr.2.2.2.2.2.2.1.2.1)
theorem c_cached {k w : Int} (h : gInv N μ) : cEq N μ (gE 30 0 [gO 9 0, gI k, gI w] []) (gE 325 0 [gO 10 167, gI k, gI w] []) := by
  obtain ⟨T, hk, ⟨hI, hb, hr, ht⟩, ok⟩ := gInv_T h
  obtain ⟨o1, o2, o3, o4, o5, o6, o7, o8, o9, o10, o11, o12, o13, o14⟩ := id ok
  refine cEq_q (T := T) (a := tCaA T k w) h hk hr ht cFm2 (fun Q => ?_) (fun Q => s_cached hb o12)
  by_cases c : w = 4
  · subst c
    simp (disch := first | assumption | omega) only [e30_0, e30_1, e30_2, e30_5, e30_6, e30_9, e30_10, e30_13, e30_16, e30_17, e30_20, e30_23, e30_24, e30_25, e30_28, gK0_eq, gK1_eq, gK3_eq, w32_id, bI_eq0, bI_eq1, Bool.false_eq_true, not_true_eq_false, not_false_eq_true, ne_eq, ite_not, ↓reduceIte, if_true, if_false, Int.reduceToNat, Nat.reduceAdd, Int.reduceEq, Int.reduceLT, Int.reduceLE, Int.reduceNeg, bI_T, bI_F, ↓if_pos, ↓if_neg, k_entryStale hr]
  · have e : tCaA T k w = tTel T 1813 1814 3 k w := by
      unfold tCaA tTel
      by_cases q : 0 ≤ k ∧ k < T 1813 ∧ 0 ≤ w ∧ w ≤ 3
      · rw [if_pos (by omega), if_pos (by omega), if_pos q]
      · rw [if_neg (by omega), if_neg q]
    rw [e]
    simp (disch := first | assumption | omega) only [e30_0, e30_1, e30_2, e30_5, e30_6, e30_9, e30_10, e30_13, e30_16, e30_17, e30_20, e30_23, e30_24, e30_25, e30_28, gK0_eq, gK1_eq, gK3_eq, w32_id, bI_eq0, bI_eq1, Bool.false_eq_true, not_true_eq_false, not_false_eq_true, ne_eq, ite_not, ↓reduceIte, if_true, if_false, Int.reduceToNat, Nat.reduceAdd, Int.reduceEq, Int.reduceLT, Int.reduceLE, Int.reduceNeg, bI_T, bI_F, ↓if_pos, ↓if_neg, c, k_Ctell hr.2.2.2.2.1]
theorem c_count {w : Int} (h : gInv N μ) : cEq N μ (gE 37 0 [gO 9 0, gI w] []) (gE 336 0 [gO 10 167, gI w] []) := by
  obtain ⟨T, hk, ⟨hI, hb, hr, ht⟩, ok⟩ := gInv_T h
  obtain ⟨o1, o2, o3, o4, o5, o6, o7, o8, o9, o10, o11, o12, o13, o14⟩ := id ok
  refine cEq_q (T := T) (a := tCoA μ T w) h hk hr ht cFm2 (fun Q => ?_) (fun Q => s_count hb hI o14 o1)
  have n2 := hI.2.1
  obtain ⟨⟨⟨a1, a2, a3, a4, a5, a6⟩, -⟩, -⟩ := hr.1
  have t0 := hr.2.1.2.1
  obtain ⟨q0, q1, q2, q3⟩ : μ 44 0 = T 1681 ∧ μ 44 5 = T 1810 ∧ μ 44 6 = T 1811 ∧ μ 44 7 = T 1812 := ⟨hr.2.2.2.1.2.1, hr.2.2.2.1.2.2.1, hr.2.2.2.1.2.2.2.1, hr.2.2.2.1.2.2.2.2.1⟩
  have c0 := hr.2.2.2.2.1.2.1
  obtain ⟨r0, r5, r6, r7, r8, -⟩ := hr.2.2.2.2.2.1.2.2
  obtain ⟨l0, l3, l8, l9, l10⟩ := hr.2.2.2.2.2.2.1.2.2.1
  have hn : tBnn T := fun k k0 k1 => (o7.2.2 k k0 k1).2.2.2.1
  have hdv : ∀ k, 0 ≤ k → k < T 1881 → 0 ≤ T (1882 + 4 * k) ∧ T (1882 + 4 * k) < 8 := fun k k0 k1 => by
    have := (o7.2.2 k k0 k1).1
    omega
  unfold tCoA
  by_cases hw : 0 ≤ w ∧ w ≤ 20
  · have c : w = 0 ∨ w = 1 ∨ w = 2 ∨ w = 3 ∨ w = 4 ∨ w = 5 ∨ w = 6 ∨ w = 7 ∨ w = 8 ∨ w = 9 ∨ w = 10 ∨ w = 11 ∨ w = 12 ∨ w = 13 ∨ w = 14 ∨ w = 15 ∨ w = 16 ∨ w = 17 ∨ w = 18 ∨ w = 19 ∨ w = 20 := by omega
    rcases c with rfl | rfl | rfl | rfl | rfl | rfl | rfl | rfl | rfl | rfl | rfl | rfl | rfl | rfl | rfl | rfl | rfl | rfl | rfl | rfl | rfl
    all_goals simp (disch := first | assumption | omega) only [e37_0, e37_1_c0, e37_1_c1, e37_1_c2, e37_1_c3, e37_1_c4, e37_1_c5, e37_1_c6, e37_1_c7, e37_1_c8, e37_1_c9, e37_1_c10, e37_1_c11, e37_1_c12, e37_1_c13, e37_1_c14, e37_1_c15, e37_1_c16, e37_1_c17, e37_1_c18, e37_1_c19, e37_1_c20, e37_1_d, e37_100, e37_101, e37_104, e37_107, e37_110, e37_111, e37_112, e37_115, e37_118, e37_121, e37_122, e37_123, e37_126, e37_129, e37_132, e37_133, e37_134, e37_137, e37_140, e37_143, e37_144, e37_145, e37_148, e37_151, e37_154, e37_155, e37_156, e37_159, e37_162, e37_165, e37_166, e37_167, e37_170, e37_173, e37_176, e37_177, e37_178, e37_181, e37_184, e37_187, e37_188, e37_189, e37_192, e37_195, e37_198, e37_199, e37_200, e37_203, e37_206, e37_209, e37_210, e37_211, e37_214, e37_217, e37_220, e37_221, e37_222, e37_225, e37_228, e37_231, e37_232, e37_233, e37_236, e37_239, e37_242, e37_243, e37_244, e37_247, e37_250, e37_253, e37_254, e37_255, e37_258, e37_261, e37_264, e37_265, e37_266, e37_269, e37_272, e37_275, e37_276, e37_277, e37_280, e37_283, e37_284, e37_287, e37_288, e37_289, e37_292, e37_295, e37_296, e37_299, e37_300, e37_301, e37_304, e37_307, e37_308, e37_311, e37_312, e37_313, e37_316, e37_319, e37_322, e37_323, e37_324, e37_327, e37_330, e37_333, e37_334, e37_335, gK0_eq, gK1_eq, gK3_eq, w32_id, bI_eq0, bI_eq1, Bool.false_eq_true, not_true_eq_false, not_false_eq_true, ne_eq, ite_not, ↓reduceIte, if_true, if_false, Int.reduceToNat, Nat.reduceAdd, Int.reduceEq, Int.reduceLT, Int.reduceLE, Int.reduceNeg, bI_T, bI_F, ↓if_pos, ↓if_neg, a1, a2, k_groups hI hr.1, t0, q0, q2, q3, c0, l8, l9, l10, r0, r6, r7, r8, k_Rbatches hr.2.2.2.2.2.1 hn hdv, k_howMany hr.2.2.1, k_tablesOfAll hr.2.1, l3]
  · rw [if_neg (by omega), if_neg (by omega), if_neg (by omega), if_neg (by omega), if_neg (by omega), if_neg (by omega), if_neg (by omega), if_neg (by omega), if_neg (by omega), if_neg (by omega), if_neg (by omega), if_neg (by omega), if_neg (by omega), if_neg (by omega), if_neg (by omega), if_neg (by omega), if_neg (by omega), if_neg (by omega), if_neg (by omega), if_neg (by omega), if_neg (by omega)]
    have z : w < 0 ∨ 20 < w := by omega
    simp (disch := first | assumption | omega) only [e37_0, e37_1_c0, e37_1_c1, e37_1_c2, e37_1_c3, e37_1_c4, e37_1_c5, e37_1_c6, e37_1_c7, e37_1_c8, e37_1_c9, e37_1_c10, e37_1_c11, e37_1_c12, e37_1_c13, e37_1_c14, e37_1_c15, e37_1_c16, e37_1_c17, e37_1_c18, e37_1_c19, e37_1_c20, e37_1_d, e37_100, e37_101, e37_104, e37_107, e37_110, e37_111, e37_112, e37_115, e37_118, e37_121, e37_122, e37_123, e37_126, e37_129, e37_132, e37_133, e37_134, e37_137, e37_140, e37_143, e37_144, e37_145, e37_148, e37_151, e37_154, e37_155, e37_156, e37_159, e37_162, e37_165, e37_166, e37_167, e37_170, e37_173, e37_176, e37_177, e37_178, e37_181, e37_184, e37_187, e37_188, e37_189, e37_192, e37_195, e37_198, e37_199, e37_200, e37_203, e37_206, e37_209, e37_210, e37_211, e37_214, e37_217, e37_220, e37_221, e37_222, e37_225, e37_228, e37_231, e37_232, e37_233, e37_236, e37_239, e37_242, e37_243, e37_244, e37_247, e37_250, e37_253, e37_254, e37_255, e37_258, e37_261, e37_264, e37_265, e37_266, e37_269, e37_272, e37_275, e37_276, e37_277, e37_280, e37_283, e37_284, e37_287, e37_288, e37_289, e37_292, e37_295, e37_296, e37_299, e37_300, e37_301, e37_304, e37_307, e37_308, e37_311, e37_312, e37_313, e37_316, e37_319, e37_322, e37_323, e37_324, e37_327, e37_330, e37_333, e37_334, e37_335, gK0_eq, gK1_eq, gK3_eq, w32_id, bI_eq0, bI_eq1, Bool.false_eq_true, not_true_eq_false, not_false_eq_true, ne_eq, ite_not, ↓reduceIte, if_true, if_false, Int.reduceToNat, Nat.reduceAdd, Int.reduceEq, Int.reduceLT, Int.reduceLE, Int.reduceNeg, bI_T, bI_F, ↓if_pos, ↓if_neg, z]
theorem tr_fr (hb : gBk μ1 0) (h : gAl (gS (mTr μ1 T) 167 34 0) μ2) : cFm μ1 (mK μ2 1 T2) ∧ mK (mK μ2 1 T2) 0 T = mK μ2 1 T2 := by
  have e : ∀ (k : Nat) (i : Int), ¬ (k = 181 ∧ 1960 * 1 ≤ i ∧ i < 1960 * 1 + 1960) → (k ≠ 167 ∨ (i ≠ 36 ∧ i ≠ 37 ∧ i ≠ 38)) → mK μ2 1 T2 k i = gS (mTr μ1 T) 167 34 0 k i := fun k i c d => by
    rw [← h k i d]
    exact if_neg c
  constructor
  · intro k i c1 c2 c3
    rw [e k i (by omega) (by omega)]
    by_cases z : k = 167 ∧ i = 34
    · rw [z.1, z.2, gS_same]; exact hb.1.symm
    · have e1 : gS (mTr μ1 T) 167 34 0 k i = mTr μ1 T k i := if_neg z
      have e2 : mTr μ1 T k i = mK (gS μ1 167 2 0) 0 T k i := if_neg z
      have e3 : mK (gS μ1 167 2 0) 0 T k i = gS μ1 167 2 0 k i := if_neg (by omega)
      rw [e1, e2, e3]
      exact if_neg (by omega)
  · refine mK_self (fun k k0 k1 => ?_)
    rw [e 181 k (by omega) (by omega)]
    have e1 : gS (mTr μ1 T) 167 34 0 181 k = mTr μ1 T 181 k := if_neg (by omega)
    have e2 : mTr μ1 T 181 k = mK (gS μ1 167 2 0) 0 T 181 k := by
      unfold mTr
      rw [gS_neK (by omega)]
    have e3 := mK_at (μ := gS μ1 167 2 0) (b := 0) (T := T) k0 k1
    rw [show 1960 * 0 + k = k by omega] at e3
    rw [e1, e2, e3]
theorem cEq_t (h : gInv N μ) (hk : mK μ 0 T = μ) (hI : gIX μ) (hr : rSt 17 μ T μ) (ht : tInv μ N T) (f : gFr 117 167 μ μ1) (hν : cFm μ1 ν ∧ mK ν 0 T = ν) (run1 : ∀ Q : Int → gM → Prop, G μ Q = Q a μ1) (run2 : ∀ Q : Int → gM → Prop, M (mK μ1 0 T) Q = Q a ν) : cEq N μ G M :=
  ⟨a, μ1, ν, gInv_step h (Or.inr f) hν.1 hν.2 (⟨rTr_fr hI hr.1 f (by omega), rTb_fr hr.2.1 f (by omega) (fun j hj => by exact rfl), rFr_fr hr.2.2.1 f (by omega) (fun j hj => by exact rfl), rQu_fr hr.2.2.2.1 f (by omega) (fun j j1 j2 => by exact rfl), rCa_fr hr.2.2.2.2.1 f (by omega) (fun j j1 j2 => by exact rfl), rRq_fr hr.2.2.2.2.2.1 f (by omega) (fun j j1 j2 => by exact rfl), rLg_fr hr.2.2.2.2.2.2.1 f (by omega) (fun j hj => by exact rfl), rDm_fr hI hr.2.2.2.2.2.2.2 f (by omega) (fun j j1 j2 => by exact rfl)⟩) (tInv_mono ht), run1, fun Q => by rw [← run2 Q, mK_fr hk (gFr_mono f (by omega) (by omega))]⟩
theorem c_freeing {f : Int} (h : gInv N μ) : cEq N μ (gE 32 0 [gO 9 0, gI f] []) (gE 327 0 [gO 10 167, gI f, gX, gX] []) := by
  obtain ⟨T, hk, ⟨hI, hb, hr, ht⟩, ok⟩ := gInv_T h
  obtain ⟨o1, o2, o3, o4, o5, o6, o7, o8, o9, o10, o11, o12, o13, o14⟩ := id ok
  by_cases g1 : 0 ≤ f ∧ f < 64
  · exact cEq_t (T := T) (a := tFreA T f) h hk hI hr ht gFr_refl (tr_fr hb gAl_refl) (fun Q => by simp (disch := first | assumption | omega) only [e32_0, e32_1, e32_4, e32_7, e32_8, e32_11, e32_12, e32_15, e32_18, e32_19, gK0_eq, gK1_eq, gK3_eq, w32_id, bI_eq0, bI_eq1, Bool.false_eq_true, not_true_eq_false, not_false_eq_true, ne_eq, ite_not, ↓reduceIte, if_true, if_false, Int.reduceToNat, Nat.reduceAdd, Int.reduceEq, Int.reduceLT, Int.reduceLE, Int.reduceNeg, bI_T, bI_F, ↓if_pos, ↓if_neg, k_isFrame, g1, and_self, k_stepsTillFree hr g1]) (fun Q => s_freeing g1 o1 o2 (by omega))
  · exact cEq_q (T := T) (a := -1) h hk hr ht cFm2 (fun Q => by simp (disch := first | assumption | omega) only [e32_0, e32_1, e32_4, e32_7, e32_8, e32_11, e32_12, e32_15, e32_18, e32_19, gK0_eq, gK1_eq, gK3_eq, w32_id, bI_eq0, bI_eq1, Bool.false_eq_true, not_true_eq_false, not_false_eq_true, ne_eq, ite_not, ↓reduceIte, if_true, if_false, Int.reduceToNat, Nat.reduceAdd, Int.reduceEq, Int.reduceLT, Int.reduceLE, Int.reduceNeg, bI_T, bI_F, ↓if_pos, ↓if_neg, k_isFrame, g1]) (fun Q => s_freeing_bad g1)
theorem c_tried {w : Int} (h : gInv N μ) : cEq N μ (gE 33 0 [gO 9 0, gI w] []) (gE 332 0 [gO 10 167, gI w, gX, gX] []) := by
  obtain ⟨T, hk, ⟨hI, hb, hr, ht⟩, ok⟩ := gInv_T h
  obtain ⟨o1, o2, o3, o4, o5, o6, o7, o8, o9, o10, o11, o12, o13, o14⟩ := id ok
  by_cases g1 : 0 ≤ w ∧ w ≤ 3
  · obtain ⟨μ1, f1, r1, run1⟩ := k_Scopy (B := 117) (C := 17) hI hr (by omega)
    have key : ∃ μ2, gFr 117 167 μ1 μ2 ∧ ∀ Q : Int → gM → Prop, gE 33 0 [gO 9 0, gI w] [] μ Q = Q (tTrA (μ 178 0) (fun e => μ 179 e) T w) μ2 := by
      have c : w = 0 ∨ w = 1 ∨ w = 2 ∨ w = 3 := by omega
      rcases c with rfl | rfl | rfl | rfl
      · obtain ⟨μ2, f2, run2⟩ := k_freeIf hI r1 o13 (by omega)
        exact ⟨μ2, f2, fun Q => by simp (disch := first | assumption | omega) only [e33_0, e33_1, e33_4, e33_5, e33_6, e33_9, e33_10, e33_11, e33_12, e33_15, e33_16, e33_19, e33_22, e33_23_c0, e33_23_c1, e33_23_c2, e33_23_d, e33_48, e33_49, e33_52, e33_55, e33_56, e33_57, e33_60, e33_63, e33_64, e33_65, e33_68, e33_71, e33_72, e33_73, e33_76, e33_79, gK0_eq, gK1_eq, gK3_eq, w32_id, bI_eq0, bI_eq1, Bool.false_eq_true, not_true_eq_false, not_false_eq_true, ne_eq, ite_not, ↓reduceIte, if_true, if_false, Int.reduceToNat, Nat.reduceAdd, Int.reduceEq, Int.reduceLT, Int.reduceLE, Int.reduceNeg, bI_T, bI_F, ↓if_pos, ↓if_neg, run1, run2]; rfl⟩
      · obtain ⟨μ2, f2, run2⟩ := k_entriesIf hI r1 o13
        exact ⟨μ2, f2, fun Q => by simp (disch := first | assumption | omega) only [e33_0, e33_1, e33_4, e33_5, e33_6, e33_9, e33_10, e33_11, e33_12, e33_15, e33_16, e33_19, e33_22, e33_23_c0, e33_23_c1, e33_23_c2, e33_23_d, e33_48, e33_49, e33_52, e33_55, e33_56, e33_57, e33_60, e33_63, e33_64, e33_65, e33_68, e33_71, e33_72, e33_73, e33_76, e33_79, gK0_eq, gK1_eq, gK3_eq, w32_id, bI_eq0, bI_eq1, Bool.false_eq_true, not_true_eq_false, not_false_eq_true, ne_eq, ite_not, ↓reduceIte, if_true, if_false, Int.reduceToNat, Nat.reduceAdd, Int.reduceEq, Int.reduceLT, Int.reduceLE, Int.reduceNeg, bI_T, bI_F, ↓if_pos, ↓if_neg, run1, run2]; rfl⟩
      · obtain ⟨μ2, f2, run2⟩ := k_taken hI r1 o7
        exact ⟨μ2, f2, fun Q => by simp (disch := first | assumption | omega) only [e33_0, e33_1, e33_4, e33_5, e33_6, e33_9, e33_10, e33_11, e33_12, e33_15, e33_16, e33_19, e33_22, e33_23_c0, e33_23_c1, e33_23_c2, e33_23_d, e33_48, e33_49, e33_52, e33_55, e33_56, e33_57, e33_60, e33_63, e33_64, e33_65, e33_68, e33_71, e33_72, e33_73, e33_76, e33_79, gK0_eq, gK1_eq, gK3_eq, w32_id, bI_eq0, bI_eq1, Bool.false_eq_true, not_true_eq_false, not_false_eq_true, ne_eq, ite_not, ↓reduceIte, if_true, if_false, Int.reduceToNat, Nat.reduceAdd, Int.reduceEq, Int.reduceLT, Int.reduceLE, Int.reduceNeg, bI_T, bI_F, ↓if_pos, ↓if_neg, run1, run2]; rfl⟩
      · obtain ⟨μ2, f2, run2⟩ := k_tidied hI r1
        exact ⟨μ2, f2, fun Q => by simp (disch := first | assumption | omega) only [e33_0, e33_1, e33_4, e33_5, e33_6, e33_9, e33_10, e33_11, e33_12, e33_15, e33_16, e33_19, e33_22, e33_23_c0, e33_23_c1, e33_23_c2, e33_23_d, e33_48, e33_49, e33_52, e33_55, e33_56, e33_57, e33_60, e33_63, e33_64, e33_65, e33_68, e33_71, e33_72, e33_73, e33_76, e33_79, gK0_eq, gK1_eq, gK3_eq, w32_id, bI_eq0, bI_eq1, Bool.false_eq_true, not_true_eq_false, not_false_eq_true, ne_eq, ite_not, ↓reduceIte, if_true, if_false, Int.reduceToNat, Nat.reduceAdd, Int.reduceEq, Int.reduceLT, Int.reduceLE, Int.reduceNeg, bI_T, bI_F, ↓if_pos, ↓if_neg, run1, run2]; rfl⟩
    obtain ⟨μ2, f2, run2⟩ := key
    have ff : gFr 117 167 μ μ2 := gFr_trans f1 f2
    have fw : gFr 17 167 μ μ2 := gFr_mono ff (by omega) (by omega)
    have x9 : μ2 179 = μ 179 := funext fun i => fw _ _ (by omega)
    have x8 : μ2 178 0 = μ 178 0 := fw _ _ (by omega)
    have x2 : μ2 167 12 = μ 167 12 := fw _ _ (by omega)
    obtain ⟨μ3, T3, al, run3⟩ := s_tried (T := T) (w := w) (gIX_fr hI fw) g1 o1 o2 (by rw [x8]; exact o3) o5 (by rw [x9, x2]; exact o7)
    rw [x8, x9] at run3
    exact cEq_t (T := T) h hk hI hr ht ff (tr_fr (gBk_fr hb fw) al) run2 run3
  · refine cEq_q (T := T) (a := -1) h hk hr ht cFm2 (fun Q => ?_) (fun Q => s_tried_bad g1)
    by_cases c : w < 0
    · simp (disch := first | assumption | omega) only [e33_0, e33_1, e33_4, e33_5, e33_6, e33_9, e33_10, e33_11, e33_12, e33_15, e33_16, e33_19, e33_22, e33_23_c0, e33_23_c1, e33_23_c2, e33_23_d, e33_48, e33_49, e33_52, e33_55, e33_56, e33_57, e33_60, e33_63, e33_64, e33_65, e33_68, e33_71, e33_72, e33_73, e33_76, e33_79, gK0_eq, gK1_eq, gK3_eq, w32_id, bI_eq0, bI_eq1, Bool.false_eq_true, not_true_eq_false, not_false_eq_true, ne_eq, ite_not, ↓reduceIte, if_true, if_false, Int.reduceToNat, Nat.reduceAdd, Int.reduceEq, Int.reduceLT, Int.reduceLE, Int.reduceNeg, bI_T, bI_F, ↓if_pos, ↓if_neg, c]
    · simp (disch := first | assumption | omega) only [e33_0, e33_1, e33_4, e33_5, e33_6, e33_9, e33_10, e33_11, e33_12, e33_15, e33_16, e33_19, e33_22, e33_23_c0, e33_23_c1, e33_23_c2, e33_23_d, e33_48, e33_49, e33_52, e33_55, e33_56, e33_57, e33_60, e33_63, e33_64, e33_65, e33_68, e33_71, e33_72, e33_73, e33_76, e33_79, gK0_eq, gK1_eq, gK3_eq, w32_id, bI_eq0, bI_eq1, Bool.false_eq_true, not_true_eq_false, not_false_eq_true, ne_eq, ite_not, ↓reduceIte, if_true, if_false, Int.reduceToNat, Nat.reduceAdd, Int.reduceEq, Int.reduceLT, Int.reduceLE, Int.reduceNeg, bI_T, bI_F, ↓if_pos, ↓if_neg, c, show ¬ w ≤ 3 by omega]
theorem c_churn {z n : Int} (h : gInv N μ) (hz : z < 2147483648) : cEq N μ (gE 34 0 [gO 9 0, gI z, gI n] []) (gE 334 0 [gO 10 167, gI z, gI n, gX, gX, gX, gX, gX] []) := by
  obtain ⟨T, hk, ⟨hI, hb, hr, ht⟩, ok⟩ := gInv_T h
  obtain ⟨o1, o2, o3, o4, o5, o6, o7, o8, o9, o10, o11, o12, o13, o14⟩ := id ok
  obtain ⟨⟨⟨a1, a2, a3, a4, a5, a6⟩, -⟩, -⟩ := hr.1
  have n2 := hI.2.1
  by_cases g1 : -1 ≤ z ∧ 1 ≤ n ∧ n ≤ 40
  · obtain ⟨z1, n1, n40⟩ := id g1
    by_cases g2 : μ 167 12 = 0
    · refine cEq_q (T := T) (a := -2) h hk hr ht (ν := gS μ 167 2 0) cFm2 (fun Q => by simp (disch := first | assumption | omega) only [e34_0, e34_1, e34_2, e34_5, e34_6, e34_7, e34_10, e34_11, e34_13, e34_16, e34_17, e34_18, e34_19, e34_22, e34_25, e34_28, e34_31, e34_33, e34_34, e34_35, e34_38, e34_39, e34_42, e34_45, e34_46, e34_49, e34_50, e34_51, e34_54, e34_55, e34_58, e34_61, e34_64, e34_67, e34_68, e34_69, e34_72, gK0_eq, gK1_eq, gK3_eq, w32_id, bI_eq0, bI_eq1, Bool.false_eq_true, not_true_eq_false, not_false_eq_true, ne_eq, ite_not, ↓reduceIte, if_true, if_false, Int.reduceToNat, Nat.reduceAdd, Int.reduceEq, Int.reduceLT, Int.reduceLE, Int.reduceNeg, bI_T, bI_F, ↓if_pos, ↓if_neg, show ¬ z < -1 by omega, show ¬ n < 1 by omega, n40, a2, g2]) (fun Q => ?_)
      rw [s_churn_no hI (Or.inr g2)]
      unfold tChA
      rw [if_pos g1, if_pos g2]
    · obtain ⟨μ1, f1, r1, run1⟩ := k_Scopy (B := 117) (C := 17) hI hr (by omega)
      obtain ⟨μ2, f2, run2⟩ := k_churn (z := if z < 0 then μ 178 1 else z) (n := n) hI r1 (by omega) ⟨n1, n40⟩ (fun g g0 g1 => ⟨(o10 g g0 g1).1, (o10 g g0 g1).2.1⟩)
      have ff : gFr 117 167 μ μ2 := gFr_trans f1 f2
      have fw : gFr 17 167 μ μ2 := gFr_mono ff (by omega) (by omega)
      have x9 : μ2 179 = μ 179 := funext fun i => fw _ _ (by omega)
      have x8 : μ2 178 = μ 178 := funext fun i => fw _ _ (by omega)
      have x2 : μ2 167 12 = μ 167 12 := fw _ _ (by omega)
      have b6 : μ1 18 16 = μ 178 1 := by rw [f1 _ _ (by omega)]; exact a6
      obtain ⟨μ3, T3, al, run3⟩ := s_churn (T := T) (z := z) (n := n) (gIX_fr hI fw) ⟨z1, hz⟩ ⟨n1, n40⟩ (by rw [x2]; exact g2) (by rw [x8]; exact o3) (fun g g0 g1 => (o10 g g0 g1).2.1)
      rw [x8, x9, x2] at run3
      refine cEq_t (T := T) h hk hI hr ht ff (tr_fr (gBk_fr hb fw) al) (fun Q => ?_) run3
      have eA : tChA (μ 178 0) (fun e => μ 179 e) (μ 167 12) (μ 178 1) T z n = w32 (tChu (μ 178 0) (fun e => μ 179 e) (μ 167 12) n.toNat (if z < 0 then μ 178 1 else z) T 1878 - T 1878) := by
        unfold tChA
        rw [if_pos g1, if_neg g2]
      rw [eA]
      by_cases c : z = -1
      · rw [if_pos (by omega)]
        simp only [if_pos (show z < 0 by omega)] at run2
        simp (disch := first | assumption | omega) only [e34_0, e34_1, e34_2, e34_5, e34_6, e34_7, e34_10, e34_11, e34_13, e34_16, e34_17, e34_18, e34_19, e34_22, e34_25, e34_28, e34_31, e34_33, e34_34, e34_35, e34_38, e34_39, e34_42, e34_45, e34_46, e34_49, e34_50, e34_51, e34_54, e34_55, e34_58, e34_61, e34_64, e34_67, e34_68, e34_69, e34_72, gK0_eq, gK1_eq, gK3_eq, w32_id, bI_eq0, bI_eq1, Bool.false_eq_true, not_true_eq_false, not_false_eq_true, ne_eq, ite_not, ↓reduceIte, if_true, if_false, Int.reduceToNat, Nat.reduceAdd, Int.reduceEq, Int.reduceLT, Int.reduceLE, Int.reduceNeg, bI_T, bI_F, ↓if_pos, ↓if_neg, c, show ¬ n < 1 by omega, n40, a2, g2, run1, b6, run2]
      · rw [if_neg (by omega)]
        simp only [if_neg (show ¬ z < 0 by omega)] at run2
        simp (disch := first | assumption | omega) only [e34_0, e34_1, e34_2, e34_5, e34_6, e34_7, e34_10, e34_11, e34_13, e34_16, e34_17, e34_18, e34_19, e34_22, e34_25, e34_28, e34_31, e34_33, e34_34, e34_35, e34_38, e34_39, e34_42, e34_45, e34_46, e34_49, e34_50, e34_51, e34_54, e34_55, e34_58, e34_61, e34_64, e34_67, e34_68, e34_69, e34_72, gK0_eq, gK1_eq, gK3_eq, w32_id, bI_eq0, bI_eq1, Bool.false_eq_true, not_true_eq_false, not_false_eq_true, ne_eq, ite_not, ↓reduceIte, if_true, if_false, Int.reduceToNat, Nat.reduceAdd, Int.reduceEq, Int.reduceLT, Int.reduceLE, Int.reduceNeg, bI_T, bI_F, ↓if_pos, ↓if_neg, show ¬ z < -1 by omega, c, show ¬ n < 1 by omega, n40, a2, g2, run1, run2]
  · refine cEq_q (T := T) (a := -1) h hk hr ht (ν := gS μ 167 2 0) cFm2 (fun Q => ?_) (fun Q => ?_)
    · by_cases c : z < -1
      · simp (disch := first | assumption | omega) only [e34_0, e34_1, e34_2, e34_5, e34_6, e34_7, e34_10, e34_11, e34_13, e34_16, e34_17, e34_18, e34_19, e34_22, e34_25, e34_28, e34_31, e34_33, e34_34, e34_35, e34_38, e34_39, e34_42, e34_45, e34_46, e34_49, e34_50, e34_51, e34_54, e34_55, e34_58, e34_61, e34_64, e34_67, e34_68, e34_69, e34_72, gK0_eq, gK1_eq, gK3_eq, w32_id, bI_eq0, bI_eq1, Bool.false_eq_true, not_true_eq_false, not_false_eq_true, ne_eq, ite_not, ↓reduceIte, if_true, if_false, Int.reduceToNat, Nat.reduceAdd, Int.reduceEq, Int.reduceLT, Int.reduceLE, Int.reduceNeg, bI_T, bI_F, ↓if_pos, ↓if_neg, c]
      · by_cases c2 : n < 1
        · simp (disch := first | assumption | omega) only [e34_0, e34_1, e34_2, e34_5, e34_6, e34_7, e34_10, e34_11, e34_13, e34_16, e34_17, e34_18, e34_19, e34_22, e34_25, e34_28, e34_31, e34_33, e34_34, e34_35, e34_38, e34_39, e34_42, e34_45, e34_46, e34_49, e34_50, e34_51, e34_54, e34_55, e34_58, e34_61, e34_64, e34_67, e34_68, e34_69, e34_72, gK0_eq, gK1_eq, gK3_eq, w32_id, bI_eq0, bI_eq1, Bool.false_eq_true, not_true_eq_false, not_false_eq_true, ne_eq, ite_not, ↓reduceIte, if_true, if_false, Int.reduceToNat, Nat.reduceAdd, Int.reduceEq, Int.reduceLT, Int.reduceLE, Int.reduceNeg, bI_T, bI_F, ↓if_pos, ↓if_neg, c, c2]
        · simp (disch := first | assumption | omega) only [e34_0, e34_1, e34_2, e34_5, e34_6, e34_7, e34_10, e34_11, e34_13, e34_16, e34_17, e34_18, e34_19, e34_22, e34_25, e34_28, e34_31, e34_33, e34_34, e34_35, e34_38, e34_39, e34_42, e34_45, e34_46, e34_49, e34_50, e34_51, e34_54, e34_55, e34_58, e34_61, e34_64, e34_67, e34_68, e34_69, e34_72, gK0_eq, gK1_eq, gK3_eq, w32_id, bI_eq0, bI_eq1, Bool.false_eq_true, not_true_eq_false, not_false_eq_true, ne_eq, ite_not, ↓reduceIte, if_true, if_false, Int.reduceToNat, Nat.reduceAdd, Int.reduceEq, Int.reduceLT, Int.reduceLE, Int.reduceNeg, bI_T, bI_F, ↓if_pos, ↓if_neg, c, c2, show ¬ n ≤ 40 by omega]
    · rw [s_churn_no hI (Or.inl g1)]
      unfold tChA
      rw [if_neg g1]
end CALLS3
