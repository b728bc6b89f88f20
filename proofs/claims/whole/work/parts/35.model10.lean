/-! the check: flush, unmap, work, map -/
def tMpF (T : Int → Int) (d p n : Int) : Int := findF (fun k => tMp T d (p + k)) 0 n.toNat
def tHeF (T : Int → Int) (f n : Int) : Int := findF (fun k => decide (tState T (f + k) = 2)) 0 n.toNat
def tMapN (T : Int → Int) (d p f r g n : Int) : Int → Int := itF (fun k T => tMaps T d (p + k) (f + k) r g) 0 n.toNat T
def tMapG (T : Int → Int) (d p f r n : Int) : Prop := 0 ≤ d ∧ d < T 1672 ∧ 0 ≤ p ∧ p < 64 ∧ 0 ≤ f ∧ f < 64 ∧ 1 ≤ r ∧ r ≤ 3 ∧ p % n = 0 ∧ f % n = 0
section MODEL10
variable {μ : gM} {b : Int} {T : Int → Int} {Q : Int → gM → Prop}
theorem itF_lo {f : Int → (Int → Int) → Int → Int} {P : Int → Prop} {lo hi : Int} (h : ∀ k T j, lo ≤ k → k < hi → P j → f k T j = T j) : ∀ (n : Nat) (k : Int) (T : Int → Int) (j : Int), lo ≤ k → k + n ≤ hi → P j → itF f k n T j = T j := by
  intro n
  induction n with
  | zero => intro k T j _ _ _; rfl
  | succ n ih =>
    intro k T j h0 h1 hj
    rw [itF, ih (k + 1) _ j (by omega) (by omega) hj]
    exact h k T j h0 (by omega) hj
theorem tAns_lo {d p j : Int} {n : Nat} (hn : n ≤ 64) (hd : 0 ≤ d ∧ d < 4) (hp : 0 ≤ p ∧ p < 64) (hj : 1664 ≤ j ∨ j < 1088) : itF (fun f T => tAn1 d p f T) 0 n T j = T j :=
  itF_lo (P := fun j => 1664 ≤ j ∨ j < 1088) (lo := 0) (hi := 64) (fun k T j h0 h1 h2 => tAn1_1810 ⟨h0, h1⟩ hd hp h2) n 0 T j (by omega) (by omega) hj
theorem tAnsA_lo {d j : Int} {n : Nat} (hn : n ≤ 64) (hd : 0 ≤ d ∧ d < 4) (hj : 1664 ≤ j ∨ j < 1088) : itF (fun p T => tAns d p T) 0 n T j = T j :=
  itF_lo (P := fun j => 1664 ≤ j ∨ j < 1088) (lo := 0) (hi := 64) (fun k T j h0 h1 h2 => tAns_lo (by omega) hd ⟨h0, h1⟩ h2) n 0 T j (by omega) (by omega) hj
theorem tCom_lo {s d a j : Int} (h : j < 1681 ∨ 1811 ≤ j) (hq : 0 ≤ T 1681 ∧ T 1681 < 32) : tCom T s d a j = T j := by
  unfold tCom
  rw [tS_ne (by omega), tS_ne (by omega), tS_ne (by omega), tS_ne (by omega), tS_ne (by omega), tS_ne (by omega)]
theorem tCom_1681 {s d a : Int} : tCom T s d a 1681 = T 1681 + 1 := tS_same
theorem tFlu_loop {d j : Int} {n : Nat} (hn : n ≤ 64) (hd : 0 ≤ d ∧ d < 4) (hj : 1664 ≤ j ∨ j < 1088) : itF (fun p T => tAns d p T) 0 n (tCom T 1 d (-2)) j = tCom T 1 d (-2) j := tAnsA_lo hn hd hj
theorem s_flushes' {d : Int} (hb : gBk μ b) (hd : 0 ≤ d ∧ d < 4) (hq : 0 ≤ T 1681 ∧ T 1681 < 31) : gE 277 0 [gO 10 167, gI d, gX] [] (mK μ b T) Q = Q (w32 (T 1811 + 1)) (mK μ b (tFlu T d)) := by
  have key : ∀ (m : Nat) (p : Int) (T' : Int → Int), 0 ≤ p → p + m ≤ 64 → itF (fun p T => tAns d p T) p m T' 1681 = T' 1681 ∧ itF (fun p T => tAns d p T) p m T' 1811 = T' 1811 := fun m p T' h0 h1 =>
    ⟨itF_lo (P := fun j => 1664 ≤ j ∨ j < 1088) (lo := 0) (hi := 64) (fun k T j h0 h1 h2 => tAns_lo (by omega) hd ⟨h0, h1⟩ h2) m p T' 1681 h0 h1 (by omega),
     itF_lo (P := fun j => 1664 ≤ j ∨ j < 1088) (lo := 0) (hi := 64) (fun k T j h0 h1 h2 => tAns_lo (by omega) hd ⟨h0, h1⟩ h2) m p T' 1811 h0 h1 (by omega)⟩
  have q1 : 0 ≤ T 1681 ∧ T 1681 < 32 := by omega
  have c1 : tCom T 1 d (-2) 1811 = T 1811 := tCom_lo (by omega) q1
  have d1 : ¬ (1668 + d) = 1681 := by omega
  have d2 : ¬ (1668 + d) = 1811 := by omega
  have l1 : tS (itF (fun p T => tAns d p T) 0 64 (tCom T 1 d (-2))) (1668 + d) 0 1681 = T 1681 + 1 := by rw [tS_ne (by omega), (key 64 0 _ (by omega) (by omega)).1, tCom_1681]
  have l2 : tS (itF (fun p T => tAns d p T) 0 64 (tCom T 1 d (-2))) (1668 + d) 0 1811 = T 1811 := by rw [tS_ne (by omega), (key 64 0 _ (by omega) (by omega)).2, c1]
  simp (disch := first | assumption | omega) only [e277_0, e277_1, e277_2, e277_3, e277_5, e277_8, e277_9, e277_11, e277_13, e277_16, e277_17, e277_18, e277_19, e277_22, e277_25, e277_28, e277_29, e277_32, e277_33, e277_34, e277_35, e277_38, e277_39, e277_42, gK0_eq, gK1_eq, gK3_eq, w32_id, bI_eq0, bI_eq1, Bool.false_eq_true, not_true_eq_false, not_false_eq_true, ne_eq, ite_not, ↓reduceIte, if_true, if_false, Int.reduceToNat, Nat.reduceAdd, Int.reduceEq, Int.reduceLT, Int.reduceLE, Int.reduceNeg, bI_T, bI_F, s_comes, q1]
  rw [s_flushes_loop hb hd 64 0 _ (by omega) (by omega)]
  simp (disch := first | assumption | omega) only [e277_0, e277_1, e277_2, e277_3, e277_5, e277_8, e277_9, e277_11, e277_13, e277_16, e277_17, e277_18, e277_19, e277_22, e277_25, e277_28, e277_29, e277_32, e277_33, e277_34, e277_35, e277_38, e277_39, e277_42, gK0_eq, gK1_eq, gK3_eq, w32_id, bI_eq0, bI_eq1, Bool.false_eq_true, not_true_eq_false, not_false_eq_true, ne_eq, ite_not, ↓reduceIte, if_true, if_false, Int.reduceToNat, Nat.reduceAdd, Int.reduceEq, Int.reduceLT, Int.reduceLE, Int.reduceNeg, bI_T, bI_F, s_lay, s_fences, l1, l2]
  rfl
theorem s_flush {d : Int} (hb : gBk μ b) (hD : 0 ≤ T 1672 ∧ T 1672 ≤ 4) (hq : 0 ≤ T 1681 ∧ T 1681 ≤ 24) : gE 280 0 [gO 10 167, gI d] [] (mK μ b T) Q = Q (tFluA T d) (mK (gS μ 167 2 0) b (tFluT T d)) := by
  have hb' : gBk (gS μ 167 2 0) b := gBk_gS hb (by decide)
  unfold tFluA tFluT
  by_cases h : 0 ≤ d ∧ d < T 1672
  · have hd : 0 ≤ d ∧ d < 4 := by omega
    by_cases h2 : 22 < T 1681
    · simp (disch := first | assumption | omega) only [e280_0, e280_1, e280_2, e280_5, e280_6, e280_7, e280_10, e280_13, e280_14, e280_15, e280_16, e280_19, e280_22, e280_23, e280_25, e280_26, e280_29, e280_32, e280_35, e280_38, e280_39, e280_40, e280_43, gK0_eq, gK1_eq, gK3_eq, w32_id, bI_eq0, bI_eq1, Bool.false_eq_true, not_true_eq_false, not_false_eq_true, ne_eq, ite_not, ↓reduceIte, if_true, if_false, Int.reduceToNat, Nat.reduceAdd, Int.reduceEq, Int.reduceLT, Int.reduceLE, Int.reduceNeg, bI_T, bI_F, gS_mK, s_isDomain, h, and_self, s_isTight, h2, s_of, s_refused]
    · have hq' : 0 ≤ T 1681 ∧ T 1681 < 31 := by omega
      simp (disch := first | assumption | omega) only [e280_0, e280_1, e280_2, e280_5, e280_6, e280_7, e280_10, e280_13, e280_14, e280_15, e280_16, e280_19, e280_22, e280_23, e280_25, e280_26, e280_29, e280_32, e280_35, e280_38, e280_39, e280_40, e280_43, gK0_eq, gK1_eq, gK3_eq, w32_id, bI_eq0, bI_eq1, Bool.false_eq_true, not_true_eq_false, not_false_eq_true, ne_eq, ite_not, ↓reduceIte, if_true, if_false, Int.reduceToNat, Nat.reduceAdd, Int.reduceEq, Int.reduceLT, Int.reduceLE, Int.reduceNeg, bI_T, bI_F, gS_mK, s_isDomain, h, and_self, s_isTight, h2, s_flushes', hd, hq']
  · simp (disch := first | assumption | omega) only [e280_0, e280_1, e280_2, e280_5, e280_6, e280_7, e280_10, e280_13, e280_14, e280_15, e280_16, e280_19, e280_22, e280_23, e280_25, e280_26, e280_29, e280_32, e280_35, e280_38, e280_39, e280_40, e280_43, gK0_eq, gK1_eq, gK3_eq, w32_id, bI_eq0, bI_eq1, Bool.false_eq_true, not_true_eq_false, not_false_eq_true, ne_eq, ite_not, ↓reduceIte, if_true, if_false, Int.reduceToNat, Nat.reduceAdd, Int.reduceEq, Int.reduceLT, Int.reduceLE, Int.reduceNeg, bI_T, bI_F, gS_mK, s_isDomain, h]
theorem tBl0_lo {k j : Int} (h : j < 768 + k ∨ 768 + k + 4 ≤ j) : tBl0 T k j = T j := if_neg (by omega)
theorem tUn_lo {d p j : Int} (hd : 0 ≤ d ∧ d < 4) (hp : 0 ≤ p ∧ p < 64) (hf : 0 ≤ T (64 * d + p) ∧ T (64 * d + p) < 64) (hj : 1664 ≤ j) : tUn T d p j = T j := by
  unfold tUn
  rw [tS_ne (by omega), tS_ne (by omega), tS_ne (by omega), tS_ne (by omega), tBl0_lo (by omega)]
theorem s_unmap {d p : Int} (hb : gBk μ b) (hD : 0 ≤ T 1672 ∧ T 1672 ≤ 4) (hq : 0 ≤ T 1681 ∧ T 1681 ≤ 24) (hF : ∀ j, 0 ≤ j → j < 256 → -1 ≤ T j ∧ T j < 64) (hO : ∀ d, 0 ≤ d → d < 4 → 0 ≤ T (1668 + d) ∧ T (1668 + d) ≤ 3) :
    gE 279 0 [gO 10 167, gI d, gI p] [] (mK μ b T) Q = Q (tUnmA T (tUnmT T d p) d p) (mK (gS μ 167 2 0) b (tUnmT T d p)) := by
  have hb' : gBk (gS μ 167 2 0) b := gBk_gS hb (by decide)
  by_cases h : 0 ≤ d ∧ d < T 1672
  · by_cases hp : 0 ≤ p ∧ p < 64
    · have hd : 0 ≤ d ∧ d < 4 := by omega
      have g : 0 ≤ d ∧ d < T 1672 ∧ 0 ≤ p ∧ p < 64 := ⟨h.1, h.2, hp⟩
      unfold tUnmA tUnmT
      rw [if_pos g, if_pos g]
      cases hm : tMp T d p with
      | false => simp (disch := first | assumption | omega) only [e279_0, e279_1, e279_2, e279_5, e279_6, e279_7, e279_10, e279_13, e279_14, e279_17, e279_20, e279_21, e279_22, e279_23, e279_24, e279_25, e279_28, e279_31, e279_32, e279_34, e279_35, e279_36, e279_37, e279_40, e279_43, e279_44, e279_45, e279_48, e279_50, e279_51, e279_52, e279_53, e279_54, e279_55, e279_58, e279_59, e279_62, e279_63, e279_64, e279_65, e279_68, e279_69, e279_70, e279_73, e279_76, e279_77, e279_79, e279_80, e279_83, e279_86, e279_89, e279_90, e279_91, e279_92, e279_93, e279_96, e279_97, e279_100, e279_101, e279_102, e279_105, e279_108, e279_109, e279_110, e279_111, e279_112, e279_115, e279_116, e279_117, e279_118, e279_121, e279_124, e279_125, e279_128, e279_129, e279_130, e279_133, e279_134, e279_137, e279_138, e279_139, e279_142, e279_143, e279_146, e279_147, e279_148, e279_151, e279_152, e279_153, e279_154, e279_157, gK0_eq, gK1_eq, gK3_eq, w32_id, bI_eq0, bI_eq1, Bool.false_eq_true, not_true_eq_false, not_false_eq_true, ne_eq, ite_not, ↓reduceIte, if_true, if_false, Int.reduceToNat, Nat.reduceAdd, Int.reduceEq, Int.reduceLT, Int.reduceLE, Int.reduceNeg, bI_T, bI_F, gS_mK, s_isDomain, h, and_self, s_isPage, hp, s_isMapped, hd, hm, s_levelOf, s_refused, false_and]
      | true =>
        have hf := hF (64 * d + p) (by omega) (by omega)
        have hf0 : 0 ≤ T (64 * d + p) := by simpa [tMp] using hm
        by_cases hr : T (512 + 64 * d + p) = 1
        · simp (disch := first | assumption | omega) only [e279_0, e279_1, e279_2, e279_5, e279_6, e279_7, e279_10, e279_13, e279_14, e279_17, e279_20, e279_21, e279_22, e279_23, e279_24, e279_25, e279_28, e279_31, e279_32, e279_34, e279_35, e279_36, e279_37, e279_40, e279_43, e279_44, e279_45, e279_48, e279_50, e279_51, e279_52, e279_53, e279_54, e279_55, e279_58, e279_59, e279_62, e279_63, e279_64, e279_65, e279_68, e279_69, e279_70, e279_73, e279_76, e279_77, e279_79, e279_80, e279_83, e279_86, e279_89, e279_90, e279_91, e279_92, e279_93, e279_96, e279_97, e279_100, e279_101, e279_102, e279_105, e279_108, e279_109, e279_110, e279_111, e279_112, e279_115, e279_116, e279_117, e279_118, e279_121, e279_124, e279_125, e279_128, e279_129, e279_130, e279_133, e279_134, e279_137, e279_138, e279_139, e279_142, e279_143, e279_146, e279_147, e279_148, e279_151, e279_152, e279_153, e279_154, e279_157, gK0_eq, gK1_eq, gK3_eq, w32_id, bI_eq0, bI_eq1, Bool.false_eq_true, not_true_eq_false, not_false_eq_true, ne_eq, ite_not, ↓reduceIte, if_true, if_false, Int.reduceToNat, Nat.reduceAdd, Int.reduceEq, Int.reduceLT, Int.reduceLE, Int.reduceNeg, bI_T, bI_F, gS_mK, s_isDomain, h, and_self, s_isPage, hp, s_isMapped, hd, hm, s_of, hr, s_refused, false_and, and_false]
        · by_cases ht : 22 < T 1681
          · simp (disch := first | assumption | omega) only [e279_0, e279_1, e279_2, e279_5, e279_6, e279_7, e279_10, e279_13, e279_14, e279_17, e279_20, e279_21, e279_22, e279_23, e279_24, e279_25, e279_28, e279_31, e279_32, e279_34, e279_35, e279_36, e279_37, e279_40, e279_43, e279_44, e279_45, e279_48, e279_50, e279_51, e279_52, e279_53, e279_54, e279_55, e279_58, e279_59, e279_62, e279_63, e279_64, e279_65, e279_68, e279_69, e279_70, e279_73, e279_76, e279_77, e279_79, e279_80, e279_83, e279_86, e279_89, e279_90, e279_91, e279_92, e279_93, e279_96, e279_97, e279_100, e279_101, e279_102, e279_105, e279_108, e279_109, e279_110, e279_111, e279_112, e279_115, e279_116, e279_117, e279_118, e279_121, e279_124, e279_125, e279_128, e279_129, e279_130, e279_133, e279_134, e279_137, e279_138, e279_139, e279_142, e279_143, e279_146, e279_147, e279_148, e279_151, e279_152, e279_153, e279_154, e279_157, gK0_eq, gK1_eq, gK3_eq, w32_id, bI_eq0, bI_eq1, Bool.false_eq_true, not_true_eq_false, not_false_eq_true, ne_eq, ite_not, ↓reduceIte, if_true, if_false, Int.reduceToNat, Nat.reduceAdd, Int.reduceEq, Int.reduceLT, Int.reduceLE, Int.reduceNeg, bI_T, bI_F, ↓if_pos, ↓if_neg, gS_mK, s_isDomain, h, and_self, s_isPage, hp, s_isMapped, hd, hm, s_of, hr, s_refused, false_and, and_false, s_isTight, ht]
          · have ht' : T 1681 ≤ 22 := by omega
            have u1 : tUn T d p (1664 + d) = T (1664 + d) := tUn_lo hd hp ⟨hf0, hf.2⟩ (by omega)
            have u2 : tUn T d p 1681 = T 1681 := tUn_lo hd hp ⟨hf0, hf.2⟩ (by omega)
            have u3 : tUn T d p (1668 + d) = T (1668 + d) := tUn_lo hd hp ⟨hf0, hf.2⟩ (by omega)
            have hq3 : 0 ≤ tUn T d p 1681 ∧ tUn T d p 1681 < 32 := by omega
            have hff : 0 ≤ T (64 * d + p) ∧ T (64 * d + p) < 64 := ⟨hf0, hf.2⟩
            have hd3 : 0 ≤ d := hd.1
            have hd4 : d < 4 := hd.2
            have ho := hO d hd.1 hd.2
            unfold tUnm2
            by_cases hl : T (1664 + d) = 0
            · simp (disch := first | assumption | omega) only [e279_0, e279_1, e279_2, e279_5, e279_6, e279_7, e279_10, e279_13, e279_14, e279_17, e279_20, e279_21, e279_22, e279_23, e279_24, e279_25, e279_28, e279_31, e279_32, e279_34, e279_35, e279_36, e279_37, e279_40, e279_43, e279_44, e279_45, e279_48, e279_50, e279_51, e279_52, e279_53, e279_54, e279_55, e279_58, e279_59, e279_62, e279_63, e279_64, e279_65, e279_68, e279_69, e279_70, e279_73, e279_76, e279_77, e279_79, e279_80, e279_83, e279_86, e279_89, e279_90, e279_91, e279_92, e279_93, e279_96, e279_97, e279_100, e279_101, e279_102, e279_105, e279_108, e279_109, e279_110, e279_111, e279_112, e279_115, e279_116, e279_117, e279_118, e279_121, e279_124, e279_125, e279_128, e279_129, e279_130, e279_133, e279_134, e279_137, e279_138, e279_139, e279_142, e279_143, e279_146, e279_147, e279_148, e279_151, e279_152, e279_153, e279_154, e279_157, gK0_eq, gK1_eq, gK3_eq, w32_id, bI_eq0, bI_eq1, Bool.false_eq_true, not_true_eq_false, not_false_eq_true, ne_eq, ite_not, ↓reduceIte, if_true, if_false, Int.reduceToNat, Nat.reduceAdd, Int.reduceEq, Int.reduceLT, Int.reduceLE, Int.reduceNeg, bI_T, bI_F, gS_mK, s_isDomain, h, and_self, s_isPage, hp, s_isMapped, hd, hm, s_of, hr, s_isTight, ht, ht', s_unmaps, u1, hl, s_comes, s_answers, s_tablesOf, hff, hq3]
            · have m1 : tMor (tUn T d p) (1668 + d) (1668 + d) = T (1668 + d) + 1 := by unfold tMor; rw [tS_same, u3, w32_id (by omega) (by omega)]
              have m2 : tMor (tUn T d p) (1668 + d) 1681 = T 1681 := by rw [tMor_ne (by omega), u2]
              have hq4 : 0 ≤ tMor (tUn T d p) (1668 + d) 1681 ∧ tMor (tUn T d p) (1668 + d) 1681 < 31 := by omega
              by_cases h4 : T (1668 + d) = 3
              · have h4' : T (1668 + d) + 1 = 4 := by omega
                simp (disch := first | assumption | omega) only [e279_0, e279_1, e279_2, e279_5, e279_6, e279_7, e279_10, e279_13, e279_14, e279_17, e279_20, e279_21, e279_22, e279_23, e279_24, e279_25, e279_28, e279_31, e279_32, e279_34, e279_35, e279_36, e279_37, e279_40, e279_43, e279_44, e279_45, e279_48, e279_50, e279_51, e279_52, e279_53, e279_54, e279_55, e279_58, e279_59, e279_62, e279_63, e279_64, e279_65, e279_68, e279_69, e279_70, e279_73, e279_76, e279_77, e279_79, e279_80, e279_83, e279_86, e279_89, e279_90, e279_91, e279_92, e279_93, e279_96, e279_97, e279_100, e279_101, e279_102, e279_105, e279_108, e279_109, e279_110, e279_111, e279_112, e279_115, e279_116, e279_117, e279_118, e279_121, e279_124, e279_125, e279_128, e279_129, e279_130, e279_133, e279_134, e279_137, e279_138, e279_139, e279_142, e279_143, e279_146, e279_147, e279_148, e279_151, e279_152, e279_153, e279_154, e279_157, gK0_eq, gK1_eq, gK3_eq, w32_id, bI_eq0, bI_eq1, Bool.false_eq_true, not_true_eq_false, not_false_eq_true, ne_eq, ite_not, ↓reduceIte, if_true, if_false, Int.reduceToNat, Nat.reduceAdd, Int.reduceEq, Int.reduceLT, Int.reduceLE, Int.reduceNeg, bI_T, bI_F, gS_mK, s_isDomain, h, and_self, s_isPage, hp, s_isMapped, hd, hm, s_of, hr, s_isTight, ht, ht', s_unmaps, u1, hl, s_moreM, m1, h4, s_flushes', s_tablesOf, hff, hq4, Int.reduceAdd]
              · have h4' : ¬ T (1668 + d) + 1 = 4 := by omega
                simp (disch := first | assumption | omega) only [e279_0, e279_1, e279_2, e279_5, e279_6, e279_7, e279_10, e279_13, e279_14, e279_17, e279_20, e279_21, e279_22, e279_23, e279_24, e279_25, e279_28, e279_31, e279_32, e279_34, e279_35, e279_36, e279_37, e279_40, e279_43, e279_44, e279_45, e279_48, e279_50, e279_51, e279_52, e279_53, e279_54, e279_55, e279_58, e279_59, e279_62, e279_63, e279_64, e279_65, e279_68, e279_69, e279_70, e279_73, e279_76, e279_77, e279_79, e279_80, e279_83, e279_86, e279_89, e279_90, e279_91, e279_92, e279_93, e279_96, e279_97, e279_100, e279_101, e279_102, e279_105, e279_108, e279_109, e279_110, e279_111, e279_112, e279_115, e279_116, e279_117, e279_118, e279_121, e279_124, e279_125, e279_128, e279_129, e279_130, e279_133, e279_134, e279_137, e279_138, e279_139, e279_142, e279_143, e279_146, e279_147, e279_148, e279_151, e279_152, e279_153, e279_154, e279_157, gK0_eq, gK1_eq, gK3_eq, w32_id, bI_eq0, bI_eq1, Bool.false_eq_true, not_true_eq_false, not_false_eq_true, ne_eq, ite_not, ↓reduceIte, if_true, if_false, Int.reduceToNat, Nat.reduceAdd, Int.reduceEq, Int.reduceLT, Int.reduceLE, Int.reduceNeg, bI_T, bI_F, gS_mK, s_isDomain, h, and_self, s_isPage, hp, s_isMapped, hd, hm, s_of, hr, s_isTight, ht, ht', s_unmaps, u1, hl, s_moreM, m1, h4, h4', s_tablesOf, hff]
    · have g : ¬ (0 ≤ d ∧ d < T 1672 ∧ 0 ≤ p ∧ p < 64) := by omega
      unfold tUnmA tUnmT
      rw [if_neg g, if_neg g]
      simp (disch := first | assumption | omega) only [e279_0, e279_1, e279_2, e279_5, e279_6, e279_7, e279_10, e279_13, e279_14, e279_17, e279_20, e279_21, e279_22, e279_23, e279_24, e279_25, e279_28, e279_31, e279_32, e279_34, e279_35, e279_36, e279_37, e279_40, e279_43, e279_44, e279_45, e279_48, e279_50, e279_51, e279_52, e279_53, e279_54, e279_55, e279_58, e279_59, e279_62, e279_63, e279_64, e279_65, e279_68, e279_69, e279_70, e279_73, e279_76, e279_77, e279_79, e279_80, e279_83, e279_86, e279_89, e279_90, e279_91, e279_92, e279_93, e279_96, e279_97, e279_100, e279_101, e279_102, e279_105, e279_108, e279_109, e279_110, e279_111, e279_112, e279_115, e279_116, e279_117, e279_118, e279_121, e279_124, e279_125, e279_128, e279_129, e279_130, e279_133, e279_134, e279_137, e279_138, e279_139, e279_142, e279_143, e279_146, e279_147, e279_148, e279_151, e279_152, e279_153, e279_154, e279_157, gK0_eq, gK1_eq, gK3_eq, w32_id, bI_eq0, bI_eq1, Bool.false_eq_true, not_true_eq_false, not_false_eq_true, ne_eq, ite_not, ↓reduceIte, if_true, if_false, Int.reduceToNat, Nat.reduceAdd, Int.reduceEq, Int.reduceLT, Int.reduceLE, Int.reduceNeg, bI_T, bI_F, gS_mK, s_isDomain, h, and_self, s_isPage, hp]
  · have g : ¬ (0 ≤ d ∧ d < T 1672 ∧ 0 ≤ p ∧ p < 64) := by omega
    unfold tUnmA tUnmT
    rw [if_neg g, if_neg g]
    simp (disch := first | assumption | omega) only [e279_0, e279_1, e279_2, e279_5, e279_6, e279_7, e279_10, e279_13, e279_14, e279_17, e279_20, e279_21, e279_22, e279_23, e279_24, e279_25, e279_28, e279_31, e279_32, e279_34, e279_35, e279_36, e279_37, e279_40, e279_43, e279_44, e279_45, e279_48, e279_50, e279_51, e279_52, e279_53, e279_54, e279_55, e279_58, e279_59, e279_62, e279_63, e279_64, e279_65, e279_68, e279_69, e279_70, e279_73, e279_76, e279_77, e279_79, e279_80, e279_83, e279_86, e279_89, e279_90, e279_91, e279_92, e279_93, e279_96, e279_97, e279_100, e279_101, e279_102, e279_105, e279_108, e279_109, e279_110, e279_111, e279_112, e279_115, e279_116, e279_117, e279_118, e279_121, e279_124, e279_125, e279_128, e279_129, e279_130, e279_133, e279_134, e279_137, e279_138, e279_139, e279_142, e279_143, e279_146, e279_147, e279_148, e279_151, e279_152, e279_153, e279_154, e279_157, gK0_eq, gK1_eq, gK3_eq, w32_id, bI_eq0, bI_eq1, Bool.false_eq_true, not_true_eq_false, not_false_eq_true, ne_eq, ite_not, ↓reduceIte, if_true, if_false, Int.reduceToNat, Nat.reduceAdd, Int.reduceEq, Int.reduceLT, Int.reduceLE, Int.reduceNeg, bI_T, bI_F, gS_mK, s_isDomain, h]
theorem tQGo_lo {j : Int} (h : j < 1681 ∨ 1810 ≤ j) (hq : 0 ≤ T 1681 ∧ T 1681 ≤ 32) : tQGo T j = T j := by
  unfold tQGo
  rw [tS_ne (by omega), tShL_lo (by omega)]
theorem tQGo_1681 : tQGo T 1681 = T 1681 - 1 := tS_same
theorem tPas_lo {st j : Int} (h : (j < 1024 ∨ 1088 ≤ j) ∧ j ≠ 1812) : tPas T st j = T j := by
  unfold tPas
  rw [itF_lo (P := fun j => j < 1024 ∨ 1088 ≤ j) (lo := 0) (hi := 64) (fun k T j h0 h1 h2 => by
    unfold tPa1
    split
    · exact tS_ne (by omega)
    · rfl) 64 0 _ j (by omega) (by omega) h.1, tS_ne h.2]
theorem tFor_lo {d p : Int} : ∀ (n : Nat) (T : Int → Int), (n : Int) ≤ T 1813 → T 1813 ≤ 16 → (∀ j, j < 1813 ∨ 1878 ≤ j → tFor d p n T j = T j) ∧ 0 ≤ tFor d p n T 1813 ∧ tFor d p n T 1813 ≤ T 1813 := by
  intro n
  induction n with
  | zero => intro T h0 h1; exact ⟨fun _ _ => rfl, h0, Int.le_refl _⟩
  | succ n ih =>
    intro T h0 h1
    rw [tFor]
    split
    · obtain ⟨a1, a2, a3⟩ := ih (tDrop T n) (by rw [tDrop_1813]; omega) (by rw [tDrop_1813]; omega)
      rw [tDrop_1813] at a3
      exact ⟨fun j hj => by rw [a1 j hj, tDrop_lo hj (by omega) h1], a2, by omega⟩
    · obtain ⟨a1, a2, a3⟩ := ih T (by omega) h1
      exact ⟨a1, a2, a3⟩
theorem tWrk_facts (hD : 0 ≤ T 1672 ∧ T 1672 ≤ 4) (hq : 0 < T 1681 ∧ T 1681 ≤ 32) (hC : 0 ≤ T 1813 ∧ T 1813 ≤ 16) : tWrk T 1672 = T 1672 ∧ tWrk T 1681 = T 1681 - 1 ∧ 0 ≤ tWrk T 1813 ∧ tWrk T 1813 ≤ T 1813 := by
  have c1 : tQGo T 1813 = T 1813 := tQGo_lo (by omega) (by omega)
  have c2 : tQGo T 1672 = T 1672 := tQGo_lo (by omega) (by omega)
  unfold tWrk
  split
  · rw [tPas_lo (by omega), tPas_lo (by omega), tPas_lo (by omega), tQGo_1681, c1, c2]
    exact ⟨rfl, rfl, hC.1, Int.le_refl _⟩
  · obtain ⟨a1, a2, a3⟩ := tFor_lo (d := T 1683) (p := if T 1682 = 0 then T 1684 else -1) (T 1813).toNat (tQGo T) (by omega) (by omega)
    rw [a1 _ (by omega), a1 _ (by omega), c2, tQGo_1681]
    exact ⟨rfl, rfl, a2, by omega⟩
theorem s_work_loop {n : Int} (hb : gBk μ b) (hn : 0 ≤ n ∧ n ≤ 24) : ∀ (m : Nat) (k : Int) (T : Int → Int), (0 ≤ T 1672 ∧ T 1672 ≤ 4) → (0 ≤ T 1681 ∧ T 1681 ≤ 32) → (0 ≤ T 1813 ∧ T 1813 ≤ 16) → 0 ≤ k → k + m = n →
    gE 287 19 [gO 10 167, gI n, gI k] [] (mK μ b T) Q = Q (if n ≤ k + T 1681 then n else k + T 1681) (mK μ b (tWks m T)) := by
  intro m
  induction m with
  | zero =>
    intro k T hD hq hC h0 h1
    have h : n ≤ k := by omega
    have h2 : k = n := by omega
    rw [e287_19, if_pos (by omega)]
    simp (disch := first | assumption | omega) only [e287_0, e287_1, e287_2, e287_5, e287_6, e287_7, e287_9, e287_12, e287_15, e287_16, e287_17, e287_18, e287_20, e287_21, e287_24, e287_25, e287_28, e287_31, e287_34, e287_37, e287_38, gK0_eq, gK1_eq, gK3_eq, w32_id, bI_eq0, bI_eq1, Bool.false_eq_true, not_true_eq_false, not_false_eq_true, ne_eq, ite_not, ↓reduceIte, if_true, if_false, Int.reduceToNat, Nat.reduceAdd, Int.reduceEq, Int.reduceLT, Int.reduceLE, Int.reduceNeg, bI_T, bI_F, ↓if_pos, ↓if_neg, tWks, h2]
  | succ m ih =>
    intro k T hD hq hC h0 h1
    rw [e287_19]
    by_cases hz : T 1681 = 0
    · rw [if_neg (by omega), tWks, if_pos hz]
      simp (disch := first | assumption | omega) only [e287_0, e287_1, e287_2, e287_5, e287_6, e287_7, e287_9, e287_12, e287_15, e287_16, e287_17, e287_18, e287_20, e287_21, e287_24, e287_25, e287_28, e287_31, e287_34, e287_37, e287_38, gK0_eq, gK1_eq, gK3_eq, w32_id, bI_eq0, bI_eq1, Bool.false_eq_true, not_true_eq_false, not_false_eq_true, ne_eq, ite_not, ↓reduceIte, if_true, if_false, Int.reduceToNat, Nat.reduceAdd, Int.reduceEq, Int.reduceLT, Int.reduceLE, Int.reduceNeg, bI_T, bI_F, ↓if_pos, ↓if_neg, s_isWorked0, hz, Int.add_zero]
    · have hq' : 0 < T 1681 ∧ T 1681 ≤ 32 := by omega
      obtain ⟨f1, f2, f3, f4⟩ := tWrk_facts hD hq' hC
      have := ih (k + 1) (tWrk T) (by rw [f1]; exact hD) (by rw [f2]; omega) (by omega) (by omega) (by omega)
      rw [f2] at this
      have e1 : k + 1 + (T 1681 - 1) = k + T 1681 := by omega
      rw [e1] at this
      rw [tWks, if_neg hz, ← this]
      simp (disch := first | assumption | omega) only [e287_0, e287_1, e287_2, e287_5, e287_6, e287_7, e287_9, e287_12, e287_15, e287_16, e287_17, e287_18, e287_20, e287_21, e287_24, e287_25, e287_28, e287_31, e287_34, e287_37, e287_38, gK0_eq, gK1_eq, gK3_eq, w32_id, bI_eq0, bI_eq1, Bool.false_eq_true, not_true_eq_false, not_false_eq_true, ne_eq, ite_not, ↓reduceIte, if_true, if_false, Int.reduceToNat, Nat.reduceAdd, Int.reduceEq, Int.reduceLT, Int.reduceLE, Int.reduceNeg, bI_T, bI_F, ↓if_pos, ↓if_neg, s_isWorked, hq', hD, hC]
theorem s_work {n : Int} (hb : gBk μ b) (hD : 0 ≤ T 1672 ∧ T 1672 ≤ 4) (hq : 0 ≤ T 1681 ∧ T 1681 ≤ 32) (hC : 0 ≤ T 1813 ∧ T 1813 ≤ 16) : gE 287 0 [gO 10 167, gI n, gX] [] (mK μ b T) Q = Q (tWkA T n) (mK (gS μ 167 2 0) b (tWkT T n)) := by
  have hb' : gBk (gS μ 167 2 0) b := gBk_gS hb (by decide)
  unfold tWkA tWkT
  by_cases h : 0 ≤ n ∧ n ≤ 24
  · simp (disch := first | assumption | omega) only [e287_0, e287_1, e287_2, e287_5, e287_6, e287_7, e287_9, e287_12, e287_15, e287_16, e287_17, e287_18, e287_20, e287_21, e287_24, e287_25, e287_28, e287_31, e287_34, e287_37, e287_38, gK0_eq, gK1_eq, gK3_eq, w32_id, bI_eq0, bI_eq1, Bool.false_eq_true, not_true_eq_false, not_false_eq_true, ne_eq, ite_not, ↓reduceIte, if_true, if_false, Int.reduceToNat, Nat.reduceAdd, Int.reduceEq, Int.reduceLT, Int.reduceLE, Int.reduceNeg, bI_T, bI_F, gS_mK, s_isIn, h, and_self]
    rw [s_work_loop hb' h n.toNat 0 T hD hq hC (by omega) (by omega), Int.zero_add]
  · simp (disch := first | assumption | omega) only [e287_0, e287_1, e287_2, e287_5, e287_6, e287_7, e287_9, e287_12, e287_15, e287_16, e287_17, e287_18, e287_20, e287_21, e287_24, e287_25, e287_28, e287_31, e287_34, e287_37, e287_38, gK0_eq, gK1_eq, gK3_eq, w32_id, bI_eq0, bI_eq1, Bool.false_eq_true, not_true_eq_false, not_false_eq_true, ne_eq, ite_not, ↓reduceIte, if_true, if_false, Int.reduceToNat, Nat.reduceAdd, Int.reduceEq, Int.reduceLT, Int.reduceLE, Int.reduceNeg, bI_T, bI_F, gS_mK, s_isIn, h]
end MODEL10
