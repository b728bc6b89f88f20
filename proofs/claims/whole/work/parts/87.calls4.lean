/-! calls, side by side, fourth part: device, names, image, tape -/
def tyB (v i : Int) : Int := iand32 (ishr32 v (24 - 8 * i)) 255
def vSel (a b c d e i : Int) : Int := if i < 4 then a else if i < 8 then b else if i < 12 then c else if i < 16 then d else e
section CALLS4
variable {B : Nat} {N : Int} {X X' μ μ' μ1 μ2 ν : gM} {T T' T2 : Int → Int} {Q : Int → gM → Prop} {a v : Int} {G M : gM → (Int → gM → Prop) → Prop}
theorem c_device {e w : Int} (h : gInv N μ) : ∃ (b : Int) (ν : gM), gInv (N + 1) ν ∧ ν 167 2 = tDvK μ e w ∧ μ 18 4 = μ 167 12 ∧ (∀ Q : Int → gM → Prop, gE 314 0 [gO 10 167, gI e, gI w] [] μ Q = Q b ν) ∧ ((0 ≤ e ∧ e < μ 167 12) → (0 ≤ w ∧ w ≤ 7) → ∀ Q : Int → gM → Prop, gE 19 0 [gO 9 0, gI e, gI w] [] μ Q = Q b μ) := by
  obtain ⟨T, hk, ⟨hI, hb, hr, ht⟩, ok⟩ := gInv_T h
  obtain ⟨o1, o2, o3, o4, o5, o6, o7, o8, o9, o10, o11, o12, o13, o14⟩ := id ok
  refine ⟨tDvA μ T e w, mK (gS μ 167 2 (tDvK μ e w)) 0 T, gInv_step h (Or.inl gFr_refl) (cFm_mK cFm2) mK_keep hr (tInv_mono ht), by rw [mK_ne (by omega), gS_same], hr.1.1.1.2.1, fun Q => by
    have z := s_device (Q := Q) (e := e) (w := w) hb hI o14
    rw [hk] at z
    exact z, fun g1 g2 Q => ?_⟩
  have n2 := hI.2.1
  have he : 0 ≤ e ∧ e < 8 := by omega
  have e0 := he.1
  have e8 : e < ((8 : Nat) : Int) := he.2
  obtain ⟨d1, d2, d3⟩ := hr.1.1.2.2.1 e g1.1 g1.2
  have lw := hr.1.2 e e0 g1.2
  have g := gX8 hI (d := e) he
  have og := o10 _ g.1 g.2.1
  have hn : tBnn T := fun k k0 k1 => (o7.2.2 k k0 k1).2.2.2.1
  unfold tDvA
  rw [if_pos g1]
  have c : w = 0 ∨ w = 1 ∨ w = 2 ∨ w = 3 ∨ w = 4 ∨ w = 5 ∨ w = 6 ∨ w = 7 := by omega
  rcases c with rfl | rfl | rfl | rfl | rfl | rfl | rfl | rfl
  · simp (disch := first | assumption | omega) only [e19_0, e19_1, e19_2, e19_5, e19_18, e19_19_c0, e19_19_c1, e19_19_c2, e19_19_c3, e19_19_c4, e19_19_c5, e19_19_c6, e19_19_c7, e19_19_d, e19_64, e19_65, e19_68, e19_71, e19_74, e19_75, e19_78, e19_79, e19_80, e19_83, e19_86, e19_87, e19_90, e19_93, e19_94, e19_95, e19_98, e19_99, e19_101, e19_104, e19_105, e19_106, e19_109, e19_112, e19_113, e19_116, e19_117, e19_118, e19_121, e19_124, e19_127, e19_128, e19_131, e19_132, e19_133, e19_136, e19_139, e19_140, e19_143, e19_144, e19_145, e19_148, e19_151, e19_152, e19_155, e19_156, e19_157, e19_160, e19_163, e19_166, e19_167, e19_170, e19_173, gK0_eq, gK1_eq, gK3_eq, w32_id, bI_eq0, bI_eq1, Bool.false_eq_true, not_true_eq_false, not_false_eq_true, ne_eq, ite_not, ↓reduceIte, if_true, if_false, Int.reduceToNat, Nat.reduceAdd, Int.reduceEq, Int.reduceLT, Int.reduceLE, Int.reduceNeg, bI_T, bI_F, ↓if_pos, ↓if_neg, k_isDevice hr, g1, and_self, s_at, atv_in, lw]
  · simp (disch := first | assumption | omega) only [e19_0, e19_1, e19_2, e19_5, e19_18, e19_19_c0, e19_19_c1, e19_19_c2, e19_19_c3, e19_19_c4, e19_19_c5, e19_19_c6, e19_19_c7, e19_19_d, e19_64, e19_65, e19_68, e19_71, e19_74, e19_75, e19_78, e19_79, e19_80, e19_83, e19_86, e19_87, e19_90, e19_93, e19_94, e19_95, e19_98, e19_99, e19_101, e19_104, e19_105, e19_106, e19_109, e19_112, e19_113, e19_116, e19_117, e19_118, e19_121, e19_124, e19_127, e19_128, e19_131, e19_132, e19_133, e19_136, e19_139, e19_140, e19_143, e19_144, e19_145, e19_148, e19_151, e19_152, e19_155, e19_156, e19_157, e19_160, e19_163, e19_166, e19_167, e19_170, e19_173, gK0_eq, gK1_eq, gK3_eq, w32_id, bI_eq0, bI_eq1, Bool.false_eq_true, not_true_eq_false, not_false_eq_true, ne_eq, ite_not, ↓reduceIte, if_true, if_false, Int.reduceToNat, Nat.reduceAdd, Int.reduceEq, Int.reduceLT, Int.reduceLE, Int.reduceNeg, bI_T, bI_F, ↓if_pos, ↓if_neg, k_isDevice hr, g1, and_self, k_groupBits hI hr.1 g1, k_bitCount (xGb_in hI), xGb_cnt hI]
  · by_cases q : T (1673 + μ 179 e) = -1
    · simp (disch := first | assumption | omega) only [e19_0, e19_1, e19_2, e19_5, e19_18, e19_19_c0, e19_19_c1, e19_19_c2, e19_19_c3, e19_19_c4, e19_19_c5, e19_19_c6, e19_19_c7, e19_19_d, e19_64, e19_65, e19_68, e19_71, e19_74, e19_75, e19_78, e19_79, e19_80, e19_83, e19_86, e19_87, e19_90, e19_93, e19_94, e19_95, e19_98, e19_99, e19_101, e19_104, e19_105, e19_106, e19_109, e19_112, e19_113, e19_116, e19_117, e19_118, e19_121, e19_124, e19_127, e19_128, e19_131, e19_132, e19_133, e19_136, e19_139, e19_140, e19_143, e19_144, e19_145, e19_148, e19_151, e19_152, e19_155, e19_156, e19_157, e19_160, e19_163, e19_166, e19_167, e19_170, e19_173, gK0_eq, gK1_eq, gK3_eq, w32_id, bI_eq0, bI_eq1, Bool.false_eq_true, not_true_eq_false, not_false_eq_true, ne_eq, ite_not, ↓reduceIte, if_true, if_false, Int.reduceToNat, Nat.reduceAdd, Int.reduceEq, Int.reduceLT, Int.reduceLE, Int.reduceNeg, bI_T, bI_F, ↓if_pos, ↓if_neg, k_isDevice hr, g1, and_self, k_domainOr hI hr g1, q]
    · simp (disch := first | assumption | omega) only [e19_0, e19_1, e19_2, e19_5, e19_18, e19_19_c0, e19_19_c1, e19_19_c2, e19_19_c3, e19_19_c4, e19_19_c5, e19_19_c6, e19_19_c7, e19_19_d, e19_64, e19_65, e19_68, e19_71, e19_74, e19_75, e19_78, e19_79, e19_80, e19_83, e19_86, e19_87, e19_90, e19_93, e19_94, e19_95, e19_98, e19_99, e19_101, e19_104, e19_105, e19_106, e19_109, e19_112, e19_113, e19_116, e19_117, e19_118, e19_121, e19_124, e19_127, e19_128, e19_131, e19_132, e19_133, e19_136, e19_139, e19_140, e19_143, e19_144, e19_145, e19_148, e19_151, e19_152, e19_155, e19_156, e19_157, e19_160, e19_163, e19_166, e19_167, e19_170, e19_173, gK0_eq, gK1_eq, gK3_eq, w32_id, bI_eq0, bI_eq1, Bool.false_eq_true, not_true_eq_false, not_false_eq_true, ne_eq, ite_not, ↓reduceIte, if_true, if_false, Int.reduceToNat, Nat.reduceAdd, Int.reduceEq, Int.reduceLT, Int.reduceLE, Int.reduceNeg, bI_T, bI_F, ↓if_pos, ↓if_neg, k_isDevice hr, g1, and_self, k_domainOr hI hr g1, q, show ¬ T (1673 + μ 179 e) < 0 by omega]
  · simp (disch := first | assumption | omega) only [e19_0, e19_1, e19_2, e19_5, e19_18, e19_19_c0, e19_19_c1, e19_19_c2, e19_19_c3, e19_19_c4, e19_19_c5, e19_19_c6, e19_19_c7, e19_19_d, e19_64, e19_65, e19_68, e19_71, e19_74, e19_75, e19_78, e19_79, e19_80, e19_83, e19_86, e19_87, e19_90, e19_93, e19_94, e19_95, e19_98, e19_99, e19_101, e19_104, e19_105, e19_106, e19_109, e19_112, e19_113, e19_116, e19_117, e19_118, e19_121, e19_124, e19_127, e19_128, e19_131, e19_132, e19_133, e19_136, e19_139, e19_140, e19_143, e19_144, e19_145, e19_148, e19_151, e19_152, e19_155, e19_156, e19_157, e19_160, e19_163, e19_166, e19_167, e19_170, e19_173, gK0_eq, gK1_eq, gK3_eq, w32_id, bI_eq0, bI_eq1, Bool.false_eq_true, not_true_eq_false, not_false_eq_true, ne_eq, ite_not, ↓reduceIte, if_true, if_false, Int.reduceToNat, Nat.reduceAdd, Int.reduceEq, Int.reduceLT, Int.reduceLE, Int.reduceNeg, bI_T, bI_F, ↓if_pos, ↓if_neg, k_isDevice hr, g1, and_self, k_signOf hI hr.1.1 g1]
  · simp (disch := first | assumption | omega) only [e19_0, e19_1, e19_2, e19_5, e19_18, e19_19_c0, e19_19_c1, e19_19_c2, e19_19_c3, e19_19_c4, e19_19_c5, e19_19_c6, e19_19_c7, e19_19_d, e19_64, e19_65, e19_68, e19_71, e19_74, e19_75, e19_78, e19_79, e19_80, e19_83, e19_86, e19_87, e19_90, e19_93, e19_94, e19_95, e19_98, e19_99, e19_101, e19_104, e19_105, e19_106, e19_109, e19_112, e19_113, e19_116, e19_117, e19_118, e19_121, e19_124, e19_127, e19_128, e19_131, e19_132, e19_133, e19_136, e19_139, e19_140, e19_143, e19_144, e19_145, e19_148, e19_151, e19_152, e19_155, e19_156, e19_157, e19_160, e19_163, e19_166, e19_167, e19_170, e19_173, gK0_eq, gK1_eq, gK3_eq, w32_id, bI_eq0, bI_eq1, Bool.false_eq_true, not_true_eq_false, not_false_eq_true, ne_eq, ite_not, ↓reduceIte, if_true, if_false, Int.reduceToNat, Nat.reduceAdd, Int.reduceEq, Int.reduceLT, Int.reduceLE, Int.reduceNeg, bI_T, bI_F, ↓if_pos, ↓if_neg, k_isDevice hr, g1, and_self, s_at, atv_in, d3]
  · simp (disch := first | assumption | omega) only [e19_0, e19_1, e19_2, e19_5, e19_18, e19_19_c0, e19_19_c1, e19_19_c2, e19_19_c3, e19_19_c4, e19_19_c5, e19_19_c6, e19_19_c7, e19_19_d, e19_64, e19_65, e19_68, e19_71, e19_74, e19_75, e19_78, e19_79, e19_80, e19_83, e19_86, e19_87, e19_90, e19_93, e19_94, e19_95, e19_98, e19_99, e19_101, e19_104, e19_105, e19_106, e19_109, e19_112, e19_113, e19_116, e19_117, e19_118, e19_121, e19_124, e19_127, e19_128, e19_131, e19_132, e19_133, e19_136, e19_139, e19_140, e19_143, e19_144, e19_145, e19_148, e19_151, e19_152, e19_155, e19_156, e19_157, e19_160, e19_163, e19_166, e19_167, e19_170, e19_173, gK0_eq, gK1_eq, gK3_eq, w32_id, bI_eq0, bI_eq1, Bool.false_eq_true, not_true_eq_false, not_false_eq_true, ne_eq, ite_not, ↓reduceIte, if_true, if_false, Int.reduceToNat, Nat.reduceAdd, Int.reduceEq, Int.reduceLT, Int.reduceLE, Int.reduceNeg, bI_T, bI_F, ↓if_pos, ↓if_neg, k_isDevice hr, g1, and_self, k_RopenOf hr.2.2.2.2.2.1]
  · simp (disch := first | assumption | omega) only [e19_0, e19_1, e19_2, e19_5, e19_18, e19_19_c0, e19_19_c1, e19_19_c2, e19_19_c3, e19_19_c4, e19_19_c5, e19_19_c6, e19_19_c7, e19_19_d, e19_64, e19_65, e19_68, e19_71, e19_74, e19_75, e19_78, e19_79, e19_80, e19_83, e19_86, e19_87, e19_90, e19_93, e19_94, e19_95, e19_98, e19_99, e19_101, e19_104, e19_105, e19_106, e19_109, e19_112, e19_113, e19_116, e19_117, e19_118, e19_121, e19_124, e19_127, e19_128, e19_131, e19_132, e19_133, e19_136, e19_139, e19_140, e19_143, e19_144, e19_145, e19_148, e19_151, e19_152, e19_155, e19_156, e19_157, e19_160, e19_163, e19_166, e19_167, e19_170, e19_173, gK0_eq, gK1_eq, gK3_eq, w32_id, bI_eq0, bI_eq1, Bool.false_eq_true, not_true_eq_false, not_false_eq_true, ne_eq, ite_not, ↓reduceIte, if_true, if_false, Int.reduceToNat, Nat.reduceAdd, Int.reduceEq, Int.reduceLT, Int.reduceLE, Int.reduceNeg, bI_T, bI_F, ↓if_pos, ↓if_neg, k_isDevice hr, g1, and_self, k_RbatchesOf hr.2.2.2.2.2.1 hn e0]
  · simp (disch := first | assumption | omega) only [e19_0, e19_1, e19_2, e19_5, e19_18, e19_19_c0, e19_19_c1, e19_19_c2, e19_19_c3, e19_19_c4, e19_19_c5, e19_19_c6, e19_19_c7, e19_19_d, e19_64, e19_65, e19_68, e19_71, e19_74, e19_75, e19_78, e19_79, e19_80, e19_83, e19_86, e19_87, e19_90, e19_93, e19_94, e19_95, e19_98, e19_99, e19_101, e19_104, e19_105, e19_106, e19_109, e19_112, e19_113, e19_116, e19_117, e19_118, e19_121, e19_124, e19_127, e19_128, e19_131, e19_132, e19_133, e19_136, e19_139, e19_140, e19_143, e19_144, e19_145, e19_148, e19_151, e19_152, e19_155, e19_156, e19_157, e19_160, e19_163, e19_166, e19_167, e19_170, e19_173, gK0_eq, gK1_eq, gK3_eq, w32_id, bI_eq0, bI_eq1, Bool.false_eq_true, not_true_eq_false, not_false_eq_true, ne_eq, ite_not, ↓reduceIte, if_true, if_false, Int.reduceToNat, Nat.reduceAdd, Int.reduceEq, Int.reduceLT, Int.reduceLE, Int.reduceNeg, bI_T, bI_F, ↓if_pos, ↓if_neg, k_isDevice hr, g1, and_self, s_at, atv_in, d2, k_bitCount (xAbo_in hI g1)]
theorem c_thrown (h : gInv N μ) : gE 208 0 [gO 10 167] [] μ Q = Q (μ 167 2) μ := by
  simp (disch := first | assumption | omega) only [e208_0, e208_1, e208_4, gK0_eq, gK1_eq, gK3_eq, w32_id, bI_eq0, bI_eq1, Bool.false_eq_true, not_true_eq_false, not_false_eq_true, ne_eq, ite_not, ↓reduceIte, if_true, if_false, Int.reduceToNat, Nat.reduceAdd, Int.reduceEq, Int.reduceLT, Int.reduceLE, Int.reduceNeg, bI_T, bI_F, ↓if_pos, ↓if_neg]
theorem c_fault {w : Int} (h : gInv N μ) : cEq N μ (gE 3 0 [gO 9 0, gI w] []) (gE 236 0 [gO 10 167, gI w] []) := by
  obtain ⟨T, hk, ⟨hI, hb, hr, ht⟩, ok⟩ := gInv_T h
  obtain ⟨q1, q2, q3, q4, q5⟩ := h.2.1
  have e4 : gS μ 167 2 0 167 4 = μ 167 4 := gS_neI (by omega)
  have e5 : gS μ 167 2 0 167 5 = μ 167 5 := gS_neI (by omega)
  refine cEq_q (T := T) (a := if w = 0 then μ 167 4 else if w = 1 then μ 167 5 else -1) h hk hr ht (ν := gS μ 167 2 0) cFm2 (fun Q => ?_) (fun Q => ?_)
  · by_cases c : w = 0
    · simp (disch := first | assumption | omega) only [e3_0, e3_1, e3_4, e3_5, e3_8, e3_11, e3_12, e3_13, e3_14, e3_17, e3_18, e3_21, e3_24, e3_27, e3_28, gK0_eq, gK1_eq, gK3_eq, w32_id, bI_eq0, bI_eq1, Bool.false_eq_true, not_true_eq_false, not_false_eq_true, ne_eq, ite_not, ↓reduceIte, if_true, if_false, Int.reduceToNat, Nat.reduceAdd, Int.reduceEq, Int.reduceLT, Int.reduceLE, Int.reduceNeg, bI_T, bI_F, ↓if_pos, ↓if_neg, c, q4]
    · by_cases c2 : w = 1
      · simp (disch := first | assumption | omega) only [e3_0, e3_1, e3_4, e3_5, e3_8, e3_11, e3_12, e3_13, e3_14, e3_17, e3_18, e3_21, e3_24, e3_27, e3_28, gK0_eq, gK1_eq, gK3_eq, w32_id, bI_eq0, bI_eq1, Bool.false_eq_true, not_true_eq_false, not_false_eq_true, ne_eq, ite_not, ↓reduceIte, if_true, if_false, Int.reduceToNat, Nat.reduceAdd, Int.reduceEq, Int.reduceLT, Int.reduceLE, Int.reduceNeg, bI_T, bI_F, ↓if_pos, ↓if_neg, c2, q5]
      · simp (disch := first | assumption | omega) only [e3_0, e3_1, e3_4, e3_5, e3_8, e3_11, e3_12, e3_13, e3_14, e3_17, e3_18, e3_21, e3_24, e3_27, e3_28, gK0_eq, gK1_eq, gK3_eq, w32_id, bI_eq0, bI_eq1, Bool.false_eq_true, not_true_eq_false, not_false_eq_true, ne_eq, ite_not, ↓reduceIte, if_true, if_false, Int.reduceToNat, Nat.reduceAdd, Int.reduceEq, Int.reduceLT, Int.reduceLE, Int.reduceNeg, bI_T, bI_F, ↓if_pos, ↓if_neg, c, c2]
  · by_cases c : w = 0
    · simp (disch := first | assumption | omega) only [e236_0, e236_1, e236_2, e236_5, e236_6, e236_9, e236_10, e236_13, e236_16, e236_17, e236_18, e236_21, e236_22, e236_25, e236_28, e236_29, gK0_eq, gK1_eq, gK3_eq, w32_id, bI_eq0, bI_eq1, Bool.false_eq_true, not_true_eq_false, not_false_eq_true, ne_eq, ite_not, ↓reduceIte, if_true, if_false, Int.reduceToNat, Nat.reduceAdd, Int.reduceEq, Int.reduceLT, Int.reduceLE, Int.reduceNeg, bI_T, bI_F, ↓if_pos, ↓if_neg, c, gS_mK, mK_ne, e4]
    · by_cases c2 : w = 1
      · simp (disch := first | assumption | omega) only [e236_0, e236_1, e236_2, e236_5, e236_6, e236_9, e236_10, e236_13, e236_16, e236_17, e236_18, e236_21, e236_22, e236_25, e236_28, e236_29, gK0_eq, gK1_eq, gK3_eq, w32_id, bI_eq0, bI_eq1, Bool.false_eq_true, not_true_eq_false, not_false_eq_true, ne_eq, ite_not, ↓reduceIte, if_true, if_false, Int.reduceToNat, Nat.reduceAdd, Int.reduceEq, Int.reduceLT, Int.reduceLE, Int.reduceNeg, bI_T, bI_F, ↓if_pos, ↓if_neg, c2, gS_mK, mK_ne, e5]
      · simp (disch := first | assumption | omega) only [e236_0, e236_1, e236_2, e236_5, e236_6, e236_9, e236_10, e236_13, e236_16, e236_17, e236_18, e236_21, e236_22, e236_25, e236_28, e236_29, gK0_eq, gK1_eq, gK3_eq, w32_id, bI_eq0, bI_eq1, Bool.false_eq_true, not_true_eq_false, not_false_eq_true, ne_eq, ite_not, ↓reduceIte, if_true, if_false, Int.reduceToNat, Nat.reduceAdd, Int.reduceEq, Int.reduceLT, Int.reduceLE, Int.reduceNeg, bI_T, bI_F, ↓if_pos, ↓if_neg, c, c2, gS_mK]
theorem s_findIn_loop {n k : Nat} {f c l : Int} (hf : 0 ≤ f) (hn : f + c ≤ n) (hnn : n < 100) : ∀ (m : Nat) (i : Int), 0 ≤ i → i + m = c →
    gE 220 3 [gA n k, gI f, gI c, gI l, gI i] [] μ Q = Q (findF (fun i => decide (μ k (f + i) = l)) i m) μ := by
  intro m
  induction m with
  | zero =>
    intro i i0 i1
    have h : c ≤ i := by omega
    rw [e220_3]
    simp (disch := first | assumption | omega) only [e220_0, e220_1, e220_5, e220_6, e220_9, e220_10, e220_11, e220_13, e220_14, e220_15, e220_16, e220_19, e220_21, e220_22, e220_25, e220_28, e220_29, gK0_eq, gK1_eq, gK3_eq, w32_id, bI_eq0, bI_eq1, Bool.false_eq_true, not_true_eq_false, not_false_eq_true, ne_eq, ite_not, ↓reduceIte, if_true, if_false, Int.reduceToNat, Nat.reduceAdd, Int.reduceEq, Int.reduceLT, Int.reduceLE, Int.reduceNeg, bI_T, bI_F, ↓if_pos, ↓if_neg, h, findF]
  | succ m ih =>
    intro i i0 i1
    have h : ¬ c ≤ i := by omega
    have g0 : 0 ≤ f + i := by omega
    have g1 : f + i < n := by omega
    rw [e220_3]
    by_cases q : μ k (f + i) = l
    · rw [findF_nn (by simp [q])]
      simp (disch := first | assumption | omega) only [e220_0, e220_1, e220_5, e220_6, e220_9, e220_10, e220_11, e220_13, e220_14, e220_15, e220_16, e220_19, e220_21, e220_22, e220_25, e220_28, e220_29, gK0_eq, gK1_eq, gK3_eq, w32_id, bI_eq0, bI_eq1, Bool.false_eq_true, not_true_eq_false, not_false_eq_true, ne_eq, ite_not, ↓reduceIte, if_true, if_false, Int.reduceToNat, Nat.reduceAdd, Int.reduceEq, Int.reduceLT, Int.reduceLE, Int.reduceNeg, bI_T, bI_F, ↓if_pos, ↓if_neg, h, q]
    · rw [findF_ff (by simp [q])]
      simp (disch := first | assumption | omega) only [e220_0, e220_1, e220_5, e220_6, e220_9, e220_10, e220_11, e220_13, e220_14, e220_15, e220_16, e220_19, e220_21, e220_22, e220_25, e220_28, e220_29, gK0_eq, gK1_eq, gK3_eq, w32_id, bI_eq0, bI_eq1, Bool.false_eq_true, not_true_eq_false, not_false_eq_true, ne_eq, ite_not, ↓reduceIte, if_true, if_false, Int.reduceToNat, Nat.reduceAdd, Int.reduceEq, Int.reduceLT, Int.reduceLE, Int.reduceNeg, bI_T, bI_F, ↓if_pos, ↓if_neg, h, q]
      exact ih (i + 1) (by omega) (by omega)
theorem s_findIn {n k : Nat} {f c l : Int} (hf : 0 ≤ f) (hc : 0 ≤ c) (hn : f + c ≤ n) (hnn : n < 100) : gE 220 0 [gA n k, gI f, gI c, gI l, gX] [] μ Q = Q (findF (fun i => decide (μ k (f + i) = l)) 0 c.toNat) μ := by
  simp (disch := first | assumption | omega) only [e220_0, e220_1, e220_5, e220_6, e220_9, e220_10, e220_11, e220_13, e220_14, e220_15, e220_16, e220_19, e220_21, e220_22, e220_25, e220_28, e220_29, gK0_eq, gK1_eq, gK3_eq, w32_id, bI_eq0, bI_eq1, Bool.false_eq_true, not_true_eq_false, not_false_eq_true, ne_eq, ite_not, ↓reduceIte, if_true, if_false, Int.reduceToNat, Nat.reduceAdd, Int.reduceEq, Int.reduceLT, Int.reduceLE, Int.reduceNeg, bI_T, bI_F]
  exact s_findIn_loop hf hn hnn c.toNat 0 (by omega) (by omega)
theorem c_named {w l : Int} (h : gInv N μ) : cEq N μ (gE 4 0 [gO 9 0, gI w, gI l] []) (gE 237 0 [gO 10 167, gI w, gI l] []) := by
  obtain ⟨T, hk, ⟨hI, hb, hr, ht⟩, ok⟩ := gInv_T h
  obtain ⟨n1, n2, -⟩ := id hI
  have e1 : gS μ 167 2 0 167 11 = μ 167 11 := gS_neI (by omega)
  have e2 : gS μ 167 2 0 167 12 = μ 167 12 := gS_neI (by omega)
  have e3 : ∀ i, gS μ 167 2 0 170 i = μ 170 i := fun i => gS_neK (by omega)
  have e4 : ∀ i, gS μ 167 2 0 173 i = μ 173 i := fun i => gS_neK (by omega)
  refine cEq_q (T := T) (a := if w = 0 then findF (fun i => decide (μ 173 i = l)) 0 (μ 167 12).toNat else if w = 1 then findF (fun i => decide (μ 170 i = l)) 0 (μ 167 11).toNat else -1) h hk hr ht (ν := gS μ 167 2 0) cFm2 (fun Q => ?_) (fun Q => ?_)
  · by_cases c : w = 0
    · simp (disch := first | assumption | omega) only [e4_0, e4_1, e4_4, e4_5, e4_8, e4_11, e4_12, e4_15, e4_16, e4_17, e4_18, e4_21, e4_22, e4_25, e4_28, e4_29, e4_32, e4_35, e4_36, gK0_eq, gK1_eq, gK3_eq, w32_id, bI_eq0, bI_eq1, Bool.false_eq_true, not_true_eq_false, not_false_eq_true, ne_eq, ite_not, ↓reduceIte, if_true, if_false, Int.reduceToNat, Nat.reduceAdd, Int.reduceEq, Int.reduceLT, Int.reduceLE, Int.reduceNeg, bI_T, bI_F, ↓if_pos, ↓if_neg, c, k_deviceNamed hI hr.1.1]
    · by_cases c2 : w = 1
      · simp (disch := first | assumption | omega) only [e4_0, e4_1, e4_4, e4_5, e4_8, e4_11, e4_12, e4_15, e4_16, e4_17, e4_18, e4_21, e4_22, e4_25, e4_28, e4_29, e4_32, e4_35, e4_36, gK0_eq, gK1_eq, gK3_eq, w32_id, bI_eq0, bI_eq1, Bool.false_eq_true, not_true_eq_false, not_false_eq_true, ne_eq, ite_not, ↓reduceIte, if_true, if_false, Int.reduceToNat, Nat.reduceAdd, Int.reduceEq, Int.reduceLT, Int.reduceLE, Int.reduceNeg, bI_T, bI_F, ↓if_pos, ↓if_neg, c2, k_bridgeNamed hI hr.1.1]
      · simp (disch := first | assumption | omega) only [e4_0, e4_1, e4_4, e4_5, e4_8, e4_11, e4_12, e4_15, e4_16, e4_17, e4_18, e4_21, e4_22, e4_25, e4_28, e4_29, e4_32, e4_35, e4_36, gK0_eq, gK1_eq, gK3_eq, w32_id, bI_eq0, bI_eq1, Bool.false_eq_true, not_true_eq_false, not_false_eq_true, ne_eq, ite_not, ↓reduceIte, if_true, if_false, Int.reduceToNat, Nat.reduceAdd, Int.reduceEq, Int.reduceLT, Int.reduceLE, Int.reduceNeg, bI_T, bI_F, ↓if_pos, ↓if_neg, c, c2]
  · by_cases c : w = 0
    · have z := fun (Q : Int → gM → Prop) => s_findIn (μ := mK (gS μ 167 2 0) 0 T) (Q := Q) (n := 16) (k := 173) (f := 0) (c := μ 167 12) (l := l) (by omega) (by omega) (by omega) (by omega)
      simp (disch := first | assumption | omega) only [e237_0, e237_1, e237_2, e237_5, e237_6, e237_9, e237_10, e237_13, e237_14, e237_15, e237_18, e237_19, e237_22, e237_25, e237_26, e237_27, e237_30, e237_31, e237_34, e237_35, e237_36, e237_39, e237_40, e237_43, e237_46, e237_47, gK0_eq, gK1_eq, gK3_eq, w32_id, bI_eq0, bI_eq1, Bool.false_eq_true, not_true_eq_false, not_false_eq_true, ne_eq, ite_not, ↓reduceIte, if_true, if_false, Int.reduceToNat, Nat.reduceAdd, Int.reduceEq, Int.reduceLT, Int.reduceLE, Int.reduceNeg, bI_T, bI_F, ↓if_pos, ↓if_neg, c, gS_mK, mK_ne, e2, z, Int.zero_add, e4]
    · by_cases c2 : w = 1
      · have z := fun (Q : Int → gM → Prop) => s_findIn (μ := mK (gS μ 167 2 0) 0 T) (Q := Q) (n := 12) (k := 170) (f := 0) (c := μ 167 11) (l := l) (by omega) (by omega) (by omega) (by omega)
        simp (disch := first | assumption | omega) only [e237_0, e237_1, e237_2, e237_5, e237_6, e237_9, e237_10, e237_13, e237_14, e237_15, e237_18, e237_19, e237_22, e237_25, e237_26, e237_27, e237_30, e237_31, e237_34, e237_35, e237_36, e237_39, e237_40, e237_43, e237_46, e237_47, gK0_eq, gK1_eq, gK3_eq, w32_id, bI_eq0, bI_eq1, Bool.false_eq_true, not_true_eq_false, not_false_eq_true, ne_eq, ite_not, ↓reduceIte, if_true, if_false, Int.reduceToNat, Nat.reduceAdd, Int.reduceEq, Int.reduceLT, Int.reduceLE, Int.reduceNeg, bI_T, bI_F, ↓if_pos, ↓if_neg, c2, gS_mK, mK_ne, e1, z, Int.zero_add, e3]
      · simp (disch := first | assumption | omega) only [e237_0, e237_1, e237_2, e237_5, e237_6, e237_9, e237_10, e237_13, e237_14, e237_15, e237_18, e237_19, e237_22, e237_25, e237_26, e237_27, e237_30, e237_31, e237_34, e237_35, e237_36, e237_39, e237_40, e237_43, e237_46, e237_47, gK0_eq, gK1_eq, gK3_eq, w32_id, bI_eq0, bI_eq1, Bool.false_eq_true, not_true_eq_false, not_false_eq_true, ne_eq, ite_not, ↓reduceIte, if_true, if_false, Int.reduceToNat, Nat.reduceAdd, Int.reduceEq, Int.reduceLT, Int.reduceLE, Int.reduceNeg, bI_T, bI_F, ↓if_pos, ↓if_neg, c, c2, gS_mK]
theorem c_keep (h : gInv N μ) : cEq N μ (gE 35 0 [gO 9 0] []) (gE 253 0 [gO 10 167] []) := by
  obtain ⟨T, hk, ⟨hI, hb, hr, ht⟩, ok⟩ := gInv_T h
  obtain ⟨⟨-, hW, hB⟩, ⟨q1, q2, q3, q4, q5⟩, -, -⟩ := h
  obtain ⟨μ1, f1, r1, run1⟩ := k_Scopy (B := 67) (C := 17) hI hr (by omega)
  have t0 : μ1 32 0 = T 1672 := by rw [f1 _ _ (by omega)]; exact hr.2.1.2.1
  have t0' : gS μ1 0 4 1 32 0 = T 1672 := by rw [gS_neK (by omega)]; exact t0
  have g : ∀ (k : Nat) (i : Int), k < 67 ∨ 117 ≤ k → (k ≠ 0 ∨ i ≠ 4) → gS μ1 0 4 1 k i = μ k i := fun k i c d => by
    rw [← f1 k i (by omega)]
    exact if_neg (by omega)
  have hb1 : gBk (gS μ1 0 4 1) 0 := ⟨by rw [g _ _ (by omega) (by omega)]; exact hb.1, by omega, by omega⟩
  have hk1 : mK (gS μ1 0 4 1) 0 T = gS μ1 0 4 1 := mK_self (fun k k0 k1 => by rw [g _ _ (by omega) (by omega)]; exact mK_val hk k0 k1)
  refine ⟨T 1672, gS μ1 0 4 1, gS (mK (mK (gS (gS μ1 0 4 1) 167 2 0) 0 T) 2 T) 167 35 1, ?_, fun Q => by simp (disch := first | assumption | omega) only [e35_0, e35_1, e35_4, e35_5, e35_8, e35_11, e35_12, e35_13, e35_16, e35_17, e35_20, e35_23, e35_26, gK0_eq, gK1_eq, gK3_eq, w32_id, bI_eq0, bI_eq1, Bool.false_eq_true, not_true_eq_false, not_false_eq_true, ne_eq, ite_not, ↓reduceIte, if_true, if_false, Int.reduceToNat, Nat.reduceAdd, Int.reduceEq, Int.reduceLT, Int.reduceLE, Int.reduceNeg, bI_T, bI_F, ↓if_pos, ↓if_neg, run1, t0'], fun Q => ?_⟩
  · have e : ∀ (k : Nat) (i : Int), (k ≠ 167 ∨ (i ≠ 2 ∧ i ≠ 35)) → (k ≠ 181 ∨ ¬ (0 ≤ i ∧ i < 1960 ∨ 3920 ≤ i ∧ i < 5880)) → gS (mK (mK (gS (gS μ1 0 4 1) 167 2 0) 0 T) 2 T) 167 35 1 k i = gS μ1 0 4 1 k i := fun k i c d => by
      have e1 : gS (mK (mK (gS (gS μ1 0 4 1) 167 2 0) 0 T) 2 T) 167 35 1 k i = mK (mK (gS (gS μ1 0 4 1) 167 2 0) 0 T) 2 T k i := if_neg (by omega)
      have e2 : mK (mK (gS (gS μ1 0 4 1) 167 2 0) 0 T) 2 T k i = mK (gS (gS μ1 0 4 1) 167 2 0) 0 T k i := if_neg (by omega)
      have e3 : mK (gS (gS μ1 0 4 1) 167 2 0) 0 T k i = gS (gS μ1 0 4 1) 167 2 0 k i := if_neg (by omega)
      rw [e1, e2, e3]
      exact if_neg (by omega)
    have g' : ∀ (k : Nat) (i : Int), k < 67 ∨ 117 ≤ k → (k ≠ 0 ∨ i ≠ 4) → (k ≠ 167 ∨ (i ≠ 2 ∧ i ≠ 35)) → (k ≠ 181 ∨ ¬ (0 ≤ i ∧ i < 1960 ∨ 3920 ≤ i ∧ i < 5880)) → gS (mK (mK (gS (gS μ1 0 4 1) 167 2 0) 0 T) 2 T) 167 35 1 k i = μ k i := fun k i c d c2 d2 => by rw [e k i c2 d2, g k i c d]
    have b0 : ∀ k, 0 ≤ k → k < 1960 → gS (mK (mK (gS (gS μ1 0 4 1) 167 2 0) 0 T) 2 T) 167 35 1 181 k = T k := fun k k0 k1 => by
      rw [gS_neK (by omega)]
      have e2 : mK (mK (gS (gS μ1 0 4 1) 167 2 0) 0 T) 2 T 181 k = mK (gS (gS μ1 0 4 1) 167 2 0) 0 T 181 k := if_neg (by omega)
      have e3 := mK_at (μ := gS (gS μ1 0 4 1) 167 2 0) (b := 0) (T := T) k0 k1
      rw [show 1960 * 0 + k = k by omega] at e3
      rw [e2, e3]
    have b2 : ∀ k, 0 ≤ k → k < 1960 → gS (mK (mK (gS (gS μ1 0 4 1) 167 2 0) 0 T) 2 T) 167 35 1 181 (3920 + k) = T k := fun k k0 k1 => by
      rw [gS_neK (by omega)]
      exact mK_at (μ := mK (gS (gS μ1 0 4 1) 167 2 0) 0 T) (b := 2) (T := T) k0 k1
    have b35 : gS (mK (mK (gS (gS μ1 0 4 1) 167 2 0) 0 T) 2 T) 167 35 1 167 35 = 1 := gS_same
    generalize gS (mK (mK (gS (gS μ1 0 4 1) 167 2 0) 0 T) 2 T) 167 35 1 = ν at *
    have eX : gXe μ ν := fun k i q => g' k i (by omega) (by omega) (by omega) (by omega)
    have tX : tInv ν (N + 1) T := tInv_X (tInv_mono ht) (fun d => eX _ _ (by omega)) (eX _ _ (by omega))
    have e1 : ν 167 1 = μ 167 1 := g' _ _ (by omega) (by omega) (by omega) (by omega)
    refine ⟨⟨gIX_congr eX hI, fun k hk => by rw [g' 169 k (by omega) (by omega) (by omega) (by omega)]; exact hW k hk, by rw [g' 167 34 (by omega) (by omega) (by omega) (by omega)]; exact hB⟩, ⟨by rw [g' 1 1 (by omega) (by omega) (by omega) (by omega), e1]; exact q1, by rw [e1]; exact q2, fun i i0 i1 => ?_, by rw [g' 1 11 (by omega) (by omega) (by omega) (by omega), g' 167 4 (by omega) (by omega) (by omega) (by omega)]; exact q4, by rw [g' 1 12 (by omega) (by omega) (by omega) (by omega), g' 167 5 (by omega) (by omega) (by omega) (by omega)]; exact q5⟩, ⟨Or.inr b35, by rw [b35, e 0 4 (by omega) (by omega), gS_same], fun _ => ⟨T, b2, ?_, tX⟩⟩, T, mK_self b0, ?_, tX⟩
    · rw [e1] at i1
      rw [g' 2 i (by omega) (by omega) (by omega) (by omega), g' 168 i (by omega) (by omega) (by omega) (by omega)]
      exact q3 i i0 i1
    · refine rSt_at (gIX_congr eX hI) (rSt_X r1 eX) (fun k i q => ?_)
      rw [e k i (by omega) (by omega)]
      exact if_neg (by omega)
    · exact rSt_at (gIX_congr eX hI) (rSt_X hr eX) (fun k i q => g' k i (by omega) (by omega) (by omega) (by omega))
  · have z := s_keep (Q := Q) (T := T) hb1
    rw [hk1] at z
    exact z
theorem c_back (h : gInv N μ) : cEq N μ (gE 36 0 [gO 9 0] []) (gE 254 0 [gO 10 167] []) := by
  obtain ⟨T, hk, ⟨hI, hb, hr, ht⟩, ok⟩ := gInv_T h
  obtain ⟨m1, m2, m3⟩ := h.2.2.1
  rcases m1 with m1 | m1
  · exact cEq_q (T := T) (a := -1) h hk hr ht cFm2 (fun Q => by simp (disch := first | assumption | omega) only [e36_0, e36_1, e36_4, e36_7, e36_8, e36_9, e36_10, e36_13, e36_14, e36_17, e36_20, e36_21, e36_24, e36_27, e36_30, gK0_eq, gK1_eq, gK3_eq, w32_id, bI_eq0, bI_eq1, Bool.false_eq_true, not_true_eq_false, not_false_eq_true, ne_eq, ite_not, ↓reduceIte, if_true, if_false, Int.reduceToNat, Nat.reduceAdd, Int.reduceEq, Int.reduceLT, Int.reduceLE, Int.reduceNeg, bI_T, bI_F, ↓if_pos, ↓if_neg, m2, m1]) (fun Q => s_back_no m1)
  · obtain ⟨I, i1, i2, i3⟩ := m3 m1
    obtain ⟨μ1, ff, rr, run⟩ := k_Scopy (B := 17) (C := 67) hI i2 (by omega)
    have fw : gFr 17 167 μ μ1 := gFr_mono ff (by omega) (by omega)
    have t0 : μ1 32 0 = I 1672 := rr.2.1.2.1
    refine cEq_s (T := T) (T' := I) (a := I 1672) (ν := gS μ1 167 2 0) h hk ff rr (tInv_mono i3) cFm2 (fun Q => by simp (disch := first | assumption | omega) only [e36_0, e36_1, e36_4, e36_7, e36_8, e36_9, e36_10, e36_13, e36_14, e36_17, e36_20, e36_21, e36_24, e36_27, e36_30, gK0_eq, gK1_eq, gK3_eq, w32_id, bI_eq0, bI_eq1, Bool.false_eq_true, not_true_eq_false, not_false_eq_true, ne_eq, ite_not, ↓reduceIte, if_true, if_false, Int.reduceToNat, Nat.reduceAdd, Int.reduceEq, Int.reduceLT, Int.reduceLE, Int.reduceNeg, bI_T, bI_F, ↓if_pos, ↓if_neg, m2, m1, run, t0]) (fun Q => ?_)
    have e1 : μ1 181 5592 = I 1672 := by
      rw [fw _ _ (by omega)]
      exact i1 1672 (by omega) (by omega)
    rw [mK_fr hk fw, s_back (gBk_fr hb fw) (by rw [fw _ _ (by omega)]; exact m1), e1]
    congr 1
    exact mK_congr (fun k k0 k1 => by rw [fw _ _ (by omega)]; exact i1 k k0 k1)
theorem bt255_hi : ∀ k : Fin 32, 8 ≤ k.val → bt 255 k.val = false := by decide
theorem ush24 {x : Int} : iushr32 x 24 = ((BitVec.ofInt 32 x) >>> 24).toInt := rfl
theorem ush16 {x : Int} : iushr32 x 16 = ((BitVec.ofInt 32 x) >>> 16).toInt := rfl
theorem ush8 {x : Int} : iushr32 x 8 = ((BitVec.ofInt 32 x) >>> 8).toInt := rfl
theorem ush0 {x : Int} : iushr32 x 0 = ((BitVec.ofInt 32 x) >>> 0).toInt := rfl
theorem byte_u {x s : Int} {n : Nat} (hn : s = n) (hs : n ≤ 24) (e : iushr32 x s = ((BitVec.ofInt 32 x) >>> n).toInt) : iand32 (iushr32 x s) 255 = iand32 (ishr32 x s) 255 := by
  refine bt_ext in32_and in32_and (fun k hk => ?_)
  rw [bt_and, bt_and]
  by_cases c : k < 8
  · rw [bt_shr (by omega) (by omega), e]
    unfold bt
    rw [bv32_toInt, BitVec.getLsbD_ushiftRight, show s.toNat = n by omega, Nat.add_comm]
  · have z : bt 255 k = false := bt255_hi ⟨k, hk⟩ (by show 8 ≤ k; omega)
    rw [z, Bool.and_false, Bool.and_false]
theorem tyB_in {v i : Int} : 0 ≤ tyB v i ∧ tyB v i < 256 := by
  unfold tyB
  exact bt_small in32_and (fun k k0 k1 => by rw [bt_and, bt255_hi ⟨k, k1⟩ k0, Bool.and_false])
theorem k_addFour {t v : Int} (h1 : μ 1 1 = t) (ht : 0 ≤ t ∧ t + 4 ≤ 700) : ∃ μ', (∀ (k : Nat) (i : Int), k ≠ 2 → (k ≠ 1 ∨ i ≠ 1) → μ' k i = μ k i) ∧ μ' 1 1 = t + 4 ∧ (∀ j, j < t → μ' 2 j = μ 2 j) ∧ (∀ j, 0 ≤ j → j < 4 → μ' 2 (t + j) = tyB v j) ∧ ∀ Q : Int → gM → Prop, gE 68 0 [gO 4 1, gI v, gX] [] μ Q = Q 0 μ' := by
  have t0 := ht.1
  refine ⟨gS (gS (gS (gS (gS (gS (gS (gS μ 2 t (tyB v 0)) 1 1 (t + 1)) 2 (t + 1) (tyB v 1)) 1 1 (t + 2)) 2 (t + 2) (tyB v 2)) 1 1 (t + 3)) 2 (t + 3) (tyB v 3)) 1 1 (t + 4), ?_, gS_same, ?_, ?_, fun Q => ?_⟩
  · intro k i c d
    simp only [gS]
    rw [if_neg (by omega), if_neg (by omega), if_neg (by omega), if_neg (by omega), if_neg (by omega), if_neg (by omega), if_neg (by omega), if_neg (by omega)]
  · intro j hj
    simp only [gS]
    rw [if_neg (by omega), if_neg (by omega), if_neg (by omega), if_neg (by omega), if_neg (by omega), if_neg (by omega), if_neg (by omega), if_neg (by omega)]
  · intro j j0 j1
    have c : j = 0 ∨ j = 1 ∨ j = 2 ∨ j = 3 := by omega
    rcases c with rfl | rfl | rfl | rfl
    · rw [Int.add_zero]
      simp (disch := first | assumption | omega) only [gS_neK, gS_neI, gS_same]
    · simp (disch := first | assumption | omega) only [gS_neK, gS_neI, gS_same]
    · simp (disch := first | assumption | omega) only [gS_neK, gS_neI, gS_same]
    · simp (disch := first | assumption | omega) only [gS_neK, gS_neI, gS_same]
  · have b3 : iand32 (iushr32 v 24) 255 = tyB v 0 := byte_u (n := 24) rfl (by omega) ush24
    have b2 : iand32 (iushr32 v 16) 255 = tyB v 1 := byte_u (n := 16) rfl (by omega) ush16
    have b1 : iand32 (iushr32 v 8) 255 = tyB v 2 := byte_u (n := 8) rfl (by omega) ush8
    have b0 : iand32 (iushr32 v 0) 255 = tyB v 3 := byte_u (n := 0) rfl (by omega) ush0
    have l0 : t < ((700 : Nat) : Int) := by omega
    have l1 : t + 1 < ((700 : Nat) : Int) := by omega
    have l2 : t + 2 < ((700 : Nat) : Int) := by omega
    have l3 : t + 3 < ((700 : Nat) : Int) := by omega
    have t1 : 0 ≤ t + 1 := by omega
    have t2 : 0 ≤ t + 2 := by omega
    have t3 : 0 ≤ t + 3 := by omega
    simp (disch := first | assumption | omega) only [e68_0, e68_2, e68_3, e68_4, e68_7, e68_8, e68_11, e68_12, e68_15, e68_16, e68_17, e68_18, e68_21, e68_22, e68_25, e68_26, e68_27, e68_30, e68_31, e68_32, e68_35, e68_38, e68_41, gK0_eq, gK1_eq, gK3_eq, w32_id, bI_eq0, bI_eq1, Bool.false_eq_true, not_true_eq_false, not_false_eq_true, ne_eq, ite_not, ↓reduceIte, if_true, if_false, Int.reduceToNat, Nat.reduceAdd, Int.reduceEq, Int.reduceLT, Int.reduceLE, Int.reduceNeg, bI_T, bI_F, ↓if_pos, ↓if_neg, h1, s_put', putv_in, gS_neK, gS_same, b3, b2, b1, b0, Int.reduceAdd, Int.add_assoc]
end CALLS4
