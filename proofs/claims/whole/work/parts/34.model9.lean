/-! the check: tidy, domain, map, unmap, flush, fence, work, cause, about -/
def tDomA (T : Int → Int) : Int := if T 1672 = 4 then -1 else T 1672
def tDomT (T : Int → Int) (v : Int) : Int → Int := if T 1672 = 4 then T else tS (tS T (1664 + T 1672) (if v = 0 then 0 else 1)) 1672 (T 1672 + 1)
def tFluA (T : Int → Int) (d : Int) : Int := if 0 ≤ d ∧ d < T 1672 then (if 22 < T 1681 then -2 else w32 (T 1811 + 1)) else -1
def tFluT (T : Int → Int) (d : Int) : Int → Int := if 0 ≤ d ∧ d < T 1672 then (if 22 < T 1681 then tRef T 6 (T 1681) else tFlu T d) else T
def tFncA (T : Int → Int) : Int := if T 1681 = 24 then -1 else w32 (T 1811 + 1)
def tFncT (T : Int → Int) : Int → Int := if T 1681 = 24 then T else tFen T
def tWks : Nat → (Int → Int) → Int → Int
  | 0, T => T
  | n + 1, T => if T 1681 = 0 then T else tWks n (tWrk T)
def tWkA (T : Int → Int) (n : Int) : Int := if 0 ≤ n ∧ n ≤ 24 then (if n ≤ T 1681 then n else T 1681) else -1
def tWkT (T : Int → Int) (n : Int) : Int → Int := if 0 ≤ n ∧ n ≤ 24 then tWks n.toNat T else T
def tCau (T : Int → Int) (o k : Int) : Int := if k < 0 then -1 else if k < T 1918 then T (o + k) else -2
def tUnmA (T : Int → Int) (T' : Int → Int) (d p : Int) : Int := if 0 ≤ d ∧ d < T 1672 ∧ 0 ≤ p ∧ p < 64 then (if tMp T d p = true ∧ T (512 + 64 * d + p) ≠ 1 ∧ T 1681 ≤ 22 then tTab T' d else -2) else -1
def tUnm2 (T : Int → Int) (d p : Int) : Int → Int :=
  if T (1664 + d) = 0 then tAns d p (tCom (tUn T d p) 0 d p)
  else if T (1668 + d) = 3 then tFlu (tMor (tUn T d p) (1668 + d)) d else tMor (tUn T d p) (1668 + d)
def tUnmT (T : Int → Int) (d p : Int) : Int → Int :=
  if 0 ≤ d ∧ d < T 1672 ∧ 0 ≤ p ∧ p < 64 then
    (if tMp T d p = true then (if T (512 + 64 * d + p) = 1 then tRef T 3 p else if 22 < T 1681 then tRef T 6 (T 1681) else tUnm2 T d p) else tRef T 7 (tLvl T d p)) else T
theorem bI_T [Decidable True] : bI True = 1 := if_pos trivial
theorem bI_F [Decidable False] : bI False = 0 := if_neg (fun q => q)
section MODEL9
variable {μ : gM} {b : Int} {T : Int → Int} {Q : Int → gM → Prop}
theorem s_isRow_loop {d p f : Int} (hb : gBk μ b) (hd : 0 ≤ d ∧ d < 4) (hp : 0 ≤ p ∧ p ≤ 60) (hf : f = T (64 * d + p)) (hf0 : 0 ≤ f ∧ f < 64) : ∀ (m : Nat) (k : Int) (l5 : gv), 0 ≤ k → k + m = 4 →
    gE 309 40 [gO 10 167, gI d, gI p, gI f, gI k, l5] [] (mK μ b T) Q = Q (bI ((!anyF (tRwB T d p) k m) = true)) (mK μ b T) := by
  intro m
  induction m with
  | zero =>
    intro k l5 h0 h1
    have h : 4 ≤ k := by omega
    rw [e309_40]
    simp (disch := first | assumption | omega) only [e309_0, e309_1, e309_2, e309_3, e309_6, e309_7, e309_8, e309_11, e309_12, e309_13, e309_14, e309_17, e309_18, e309_21, e309_23, e309_24, e309_25, e309_26, e309_27, e309_28, e309_31, e309_32, e309_35, e309_36, e309_37, e309_38, e309_42, e309_43, e309_46, e309_48, e309_49, e309_50, e309_51, e309_52, e309_54, e309_55, e309_57, e309_58, e309_59, e309_61, e309_62, e309_65, e309_66, e309_68, e309_69, e309_72, e309_73, e309_76, e309_78, e309_79, e309_82, e309_83, e309_86, e309_87, e309_90, e309_92, e309_93, e309_96, e309_97, e309_100, e309_102, e309_103, e309_104, e309_105, e309_106, e309_107, e309_110, e309_113, e309_114, e309_115, e309_118, e309_121, e309_122, gK0_eq, gK1_eq, gK3_eq, w32_id, bI_eq0, bI_eq1, Bool.false_eq_true, not_true_eq_false, not_false_eq_true, ne_eq, ite_not, ↓reduceIte, if_true, if_false, Int.reduceToNat, Nat.reduceAdd, Int.reduceEq, Int.reduceLT, Int.reduceLE, Int.reduceNeg, bI_T, bI_F, h, anyF, Bool.not_false]
  | succ m ih =>
    intro k l5 h0 h1
    have h : ¬ 4 ≤ k := by omega
    have a1 : 0 + (64 * d + p + k) = 64 * d + p + k := by omega
    have a2 : 256 + 64 * d + p = 256 + (64 * d + p) := by omega
    rw [e309_40, anyF]
    have b1 : 0 ≤ 64 * d + p + k := by omega
    have b2 : 64 * d + p + k < 1960 := by omega
    have b3 : 0 ≤ 256 + 64 * d + p := by omega
    have b4 : 256 + 64 * d + p < 1960 := by omega
    by_cases c1 : T (64 * d + p + k) = f + k
    · by_cases c2 : T (512 + (64 * d + p + k)) = 1
      · have e1 : tRwB T d p k = true := by simp [tRwB, c2]
        simp (disch := first | assumption | omega) only [e309_0, e309_1, e309_2, e309_3, e309_6, e309_7, e309_8, e309_11, e309_12, e309_13, e309_14, e309_17, e309_18, e309_21, e309_23, e309_24, e309_25, e309_26, e309_27, e309_28, e309_31, e309_32, e309_35, e309_36, e309_37, e309_38, e309_42, e309_43, e309_46, e309_48, e309_49, e309_50, e309_51, e309_52, e309_54, e309_55, e309_57, e309_58, e309_59, e309_61, e309_62, e309_65, e309_66, e309_68, e309_69, e309_72, e309_73, e309_76, e309_78, e309_79, e309_82, e309_83, e309_86, e309_87, e309_90, e309_92, e309_93, e309_96, e309_97, e309_100, e309_102, e309_103, e309_104, e309_105, e309_106, e309_107, e309_110, e309_113, e309_114, e309_115, e309_118, e309_121, e309_122, gK0_eq, gK1_eq, gK3_eq, w32_id, bI_eq0, bI_eq1, Bool.false_eq_true, not_true_eq_false, not_false_eq_true, ne_eq, ite_not, ↓reduceIte, if_true, if_false, Int.reduceToNat, Nat.reduceAdd, Int.reduceEq, Int.reduceLT, Int.reduceLE, Int.reduceNeg, bI_T, bI_F, h, s_of, a1, c1, c2, e1, Bool.true_or, Bool.not_true]
      · by_cases c3 : T (256 + (64 * d + p + k)) = T (256 + 64 * d + p)
        · have e1 : tRwB T d p k = false := by simp [tRwB, c2, c3, c1, hf]
          simp (disch := first | assumption | omega) only [e309_0, e309_1, e309_2, e309_3, e309_6, e309_7, e309_8, e309_11, e309_12, e309_13, e309_14, e309_17, e309_18, e309_21, e309_23, e309_24, e309_25, e309_26, e309_27, e309_28, e309_31, e309_32, e309_35, e309_36, e309_37, e309_38, e309_42, e309_43, e309_46, e309_48, e309_49, e309_50, e309_51, e309_52, e309_54, e309_55, e309_57, e309_58, e309_59, e309_61, e309_62, e309_65, e309_66, e309_68, e309_69, e309_72, e309_73, e309_76, e309_78, e309_79, e309_82, e309_83, e309_86, e309_87, e309_90, e309_92, e309_93, e309_96, e309_97, e309_100, e309_102, e309_103, e309_104, e309_105, e309_106, e309_107, e309_110, e309_113, e309_114, e309_115, e309_118, e309_121, e309_122, gK0_eq, gK1_eq, gK3_eq, w32_id, bI_eq0, bI_eq1, Bool.false_eq_true, not_true_eq_false, not_false_eq_true, ne_eq, ite_not, ↓reduceIte, if_true, if_false, Int.reduceToNat, Nat.reduceAdd, Int.reduceEq, Int.reduceLT, Int.reduceLE, Int.reduceNeg, bI_T, bI_F, h, s_of, a1, c1, c2, c3, e1, Bool.false_or]
          rw [ih _ _ (by omega) (by omega)]
        · have e1 : tRwB T d p k = true := by simp [tRwB, c3]
          simp (disch := first | assumption | omega) only [e309_0, e309_1, e309_2, e309_3, e309_6, e309_7, e309_8, e309_11, e309_12, e309_13, e309_14, e309_17, e309_18, e309_21, e309_23, e309_24, e309_25, e309_26, e309_27, e309_28, e309_31, e309_32, e309_35, e309_36, e309_37, e309_38, e309_42, e309_43, e309_46, e309_48, e309_49, e309_50, e309_51, e309_52, e309_54, e309_55, e309_57, e309_58, e309_59, e309_61, e309_62, e309_65, e309_66, e309_68, e309_69, e309_72, e309_73, e309_76, e309_78, e309_79, e309_82, e309_83, e309_86, e309_87, e309_90, e309_92, e309_93, e309_96, e309_97, e309_100, e309_102, e309_103, e309_104, e309_105, e309_106, e309_107, e309_110, e309_113, e309_114, e309_115, e309_118, e309_121, e309_122, gK0_eq, gK1_eq, gK3_eq, w32_id, bI_eq0, bI_eq1, Bool.false_eq_true, not_true_eq_false, not_false_eq_true, ne_eq, ite_not, ↓reduceIte, if_true, if_false, Int.reduceToNat, Nat.reduceAdd, Int.reduceEq, Int.reduceLT, Int.reduceLE, Int.reduceNeg, bI_T, bI_F, h, s_of, a1, c1, c2, c3, e1, Bool.true_or, Bool.not_true]
    · have e1 : tRwB T d p k = true := by simp [tRwB, ← hf, c1]
      simp (disch := first | assumption | omega) only [e309_0, e309_1, e309_2, e309_3, e309_6, e309_7, e309_8, e309_11, e309_12, e309_13, e309_14, e309_17, e309_18, e309_21, e309_23, e309_24, e309_25, e309_26, e309_27, e309_28, e309_31, e309_32, e309_35, e309_36, e309_37, e309_38, e309_42, e309_43, e309_46, e309_48, e309_49, e309_50, e309_51, e309_52, e309_54, e309_55, e309_57, e309_58, e309_59, e309_61, e309_62, e309_65, e309_66, e309_68, e309_69, e309_72, e309_73, e309_76, e309_78, e309_79, e309_82, e309_83, e309_86, e309_87, e309_90, e309_92, e309_93, e309_96, e309_97, e309_100, e309_102, e309_103, e309_104, e309_105, e309_106, e309_107, e309_110, e309_113, e309_114, e309_115, e309_118, e309_121, e309_122, gK0_eq, gK1_eq, gK3_eq, w32_id, bI_eq0, bI_eq1, Bool.false_eq_true, not_true_eq_false, not_false_eq_true, ne_eq, ite_not, ↓reduceIte, if_true, if_false, Int.reduceToNat, Nat.reduceAdd, Int.reduceEq, Int.reduceLT, Int.reduceLE, Int.reduceNeg, bI_T, bI_F, h, s_of, a1, c1, e1, Bool.true_or, Bool.not_true]
theorem s_isRow {d p : Int} (hb : gBk μ b) (hd : 0 ≤ d ∧ d < 4) (hp : 0 ≤ p ∧ p ≤ 60) (hf : -1 ≤ T (64 * d + p) ∧ T (64 * d + p) < 64) :
    gE 309 0 [gO 10 167, gI d, gI p, gX, gX, gX] [] (mK μ b T) Q = Q (bI (tRow T d p = true)) (mK μ b T) := by
  have hp' : 0 ≤ p ∧ p < 64 := by omega
  by_cases c1 : T (64 * d + p) < 0
  · have e1 : tRow T d p = false := by simp [tRow]; omega
    simp (disch := first | assumption | omega) only [e309_0, e309_1, e309_2, e309_3, e309_6, e309_7, e309_8, e309_11, e309_12, e309_13, e309_14, e309_17, e309_18, e309_21, e309_23, e309_24, e309_25, e309_26, e309_27, e309_28, e309_31, e309_32, e309_35, e309_36, e309_37, e309_38, e309_42, e309_43, e309_46, e309_48, e309_49, e309_50, e309_51, e309_52, e309_54, e309_55, e309_57, e309_58, e309_59, e309_61, e309_62, e309_65, e309_66, e309_68, e309_69, e309_72, e309_73, e309_76, e309_78, e309_79, e309_82, e309_83, e309_86, e309_87, e309_90, e309_92, e309_93, e309_96, e309_97, e309_100, e309_102, e309_103, e309_104, e309_105, e309_106, e309_107, e309_110, e309_113, e309_114, e309_115, e309_118, e309_121, e309_122, gK0_eq, gK1_eq, gK3_eq, w32_id, bI_eq0, bI_eq1, Bool.false_eq_true, not_true_eq_false, not_false_eq_true, ne_eq, ite_not, ↓reduceIte, if_true, if_false, Int.reduceToNat, Nat.reduceAdd, Int.reduceEq, Int.reduceLT, Int.reduceLE, Int.reduceNeg, bI_T, bI_F, s_frameAt, hd, hp', and_self, c1, e1]
  · have i1 : irem32 (T (64 * d + p)) 4 = T (64 * d + p) % 4 := irem32_id (by omega) (by omega) (by omega) (by omega)
    by_cases c2 : T (64 * d + p) % 4 = 0
    · have b3 : 0 ≤ 768 + 64 * d + p := by omega
      have b4 : 768 + 64 * d + p < 1960 := by omega
      by_cases c3 : T (768 + 64 * d + p) = 1
      · have e1 : tRow T d p = false := by simp [tRow, c3]
        simp (disch := first | assumption | omega) only [e309_0, e309_1, e309_2, e309_3, e309_6, e309_7, e309_8, e309_11, e309_12, e309_13, e309_14, e309_17, e309_18, e309_21, e309_23, e309_24, e309_25, e309_26, e309_27, e309_28, e309_31, e309_32, e309_35, e309_36, e309_37, e309_38, e309_42, e309_43, e309_46, e309_48, e309_49, e309_50, e309_51, e309_52, e309_54, e309_55, e309_57, e309_58, e309_59, e309_61, e309_62, e309_65, e309_66, e309_68, e309_69, e309_72, e309_73, e309_76, e309_78, e309_79, e309_82, e309_83, e309_86, e309_87, e309_90, e309_92, e309_93, e309_96, e309_97, e309_100, e309_102, e309_103, e309_104, e309_105, e309_106, e309_107, e309_110, e309_113, e309_114, e309_115, e309_118, e309_121, e309_122, gK0_eq, gK1_eq, gK3_eq, w32_id, bI_eq0, bI_eq1, Bool.false_eq_true, not_true_eq_false, not_false_eq_true, ne_eq, ite_not, ↓reduceIte, if_true, if_false, Int.reduceToNat, Nat.reduceAdd, Int.reduceEq, Int.reduceLT, Int.reduceLE, Int.reduceNeg, bI_T, bI_F, s_frameAt, s_of, hd, hp', and_self, c1, i1, c2, c3, e1]
      · simp (disch := first | assumption | omega) only [e309_0, e309_1, e309_2, e309_3, e309_6, e309_7, e309_8, e309_11, e309_12, e309_13, e309_14, e309_17, e309_18, e309_21, e309_23, e309_24, e309_25, e309_26, e309_27, e309_28, e309_31, e309_32, e309_35, e309_36, e309_37, e309_38, e309_42, e309_43, e309_46, e309_48, e309_49, e309_50, e309_51, e309_52, e309_54, e309_55, e309_57, e309_58, e309_59, e309_61, e309_62, e309_65, e309_66, e309_68, e309_69, e309_72, e309_73, e309_76, e309_78, e309_79, e309_82, e309_83, e309_86, e309_87, e309_90, e309_92, e309_93, e309_96, e309_97, e309_100, e309_102, e309_103, e309_104, e309_105, e309_106, e309_107, e309_110, e309_113, e309_114, e309_115, e309_118, e309_121, e309_122, gK0_eq, gK1_eq, gK3_eq, w32_id, bI_eq0, bI_eq1, Bool.false_eq_true, not_true_eq_false, not_false_eq_true, ne_eq, ite_not, ↓reduceIte, if_true, if_false, Int.reduceToNat, Nat.reduceAdd, Int.reduceEq, Int.reduceLT, Int.reduceLE, Int.reduceNeg, bI_T, bI_F, s_frameAt, s_of, hd, hp', and_self, c1, i1, c2, c3]
        rw [s_isRow_loop hb hd hp rfl ⟨by omega, hf.2⟩ 4 0 gX (by omega) (by omega)]
        have e1 : tRow T d p = !anyF (tRwB T d p) 0 4 := by
          simp only [tRow, c2, c3, ne_eq, not_false_eq_true, decide_true, Bool.and_true, Bool.true_and, decide_eq_true (show 0 ≤ T (64 * d + p) by omega)]
        rw [e1]
    · have e1 : tRow T d p = false := by simp [tRow, c2]
      simp (disch := first | assumption | omega) only [e309_0, e309_1, e309_2, e309_3, e309_6, e309_7, e309_8, e309_11, e309_12, e309_13, e309_14, e309_17, e309_18, e309_21, e309_23, e309_24, e309_25, e309_26, e309_27, e309_28, e309_31, e309_32, e309_35, e309_36, e309_37, e309_38, e309_42, e309_43, e309_46, e309_48, e309_49, e309_50, e309_51, e309_52, e309_54, e309_55, e309_57, e309_58, e309_59, e309_61, e309_62, e309_65, e309_66, e309_68, e309_69, e309_72, e309_73, e309_76, e309_78, e309_79, e309_82, e309_83, e309_86, e309_87, e309_90, e309_92, e309_93, e309_96, e309_97, e309_100, e309_102, e309_103, e309_104, e309_105, e309_106, e309_107, e309_110, e309_113, e309_114, e309_115, e309_118, e309_121, e309_122, gK0_eq, gK1_eq, gK3_eq, w32_id, bI_eq0, bI_eq1, Bool.false_eq_true, not_true_eq_false, not_false_eq_true, ne_eq, ite_not, ↓reduceIte, if_true, if_false, Int.reduceToNat, Nat.reduceAdd, Int.reduceEq, Int.reduceLT, Int.reduceLE, Int.reduceNeg, bI_T, bI_F, s_frameAt, s_of, hd, hp', and_self, c1, i1, c2, e1]
theorem tBl1_eq {a : Int} : tS (tS (tS (tS T (768 + a) 1) (768 + a + 1) 1) (768 + a + 2) 1) (768 + a + 3) 1 = tBl1 T a := by
  funext j
  unfold tBl1 tS
  by_cases h : 768 + a ≤ j ∧ j < 768 + a + 4
  · rw [if_pos h]
    split
    · rfl
    · split
      · rfl
      · split
        · rfl
        · rw [if_pos (by omega)]
  · rw [if_neg h, if_neg (by omega), if_neg (by omega), if_neg (by omega), if_neg (by omega)]
theorem s_tidies_loop {d : Int} (hb : gBk μ b) (hd : 0 ≤ d ∧ d < 4) : ∀ (m : Nat) (i n : Int) (l4 : gv) (T : Int → Int), (∀ j, 0 ≤ j → j < 256 → -1 ≤ T j ∧ T j < 64) → 0 ≤ i → i + m = 16 → 0 ≤ n → n ≤ i →
    gE 310 4 [gO 10 167, gI d, gI n, gI (4 * i), l4] [] (mK μ b T) Q = Q (tTid d m i n T).1 (mK μ b (tTid d m i n T).2) := by
  intro m
  induction m with
  | zero =>
    intro i n l4 T hF h0 h1 h2 h3
    have h : 64 ≤ 4 * i := by omega
    rw [e310_4]
    simp (disch := first | assumption | omega) only [e310_0, e310_1, e310_2, e310_3, e310_5, e310_7, e310_10, e310_11, e310_12, e310_13, e310_16, e310_19, e310_22, e310_23, e310_25, e310_27, e310_28, e310_31, e310_32, e310_35, e310_37, e310_38, e310_39, e310_40, e310_41, e310_42, e310_44, e310_45, e310_46, e310_49, e310_52, e310_55, e310_58, e310_61, e310_64, e310_65, gK0_eq, gK1_eq, gK3_eq, w32_id, bI_eq0, bI_eq1, Bool.false_eq_true, not_true_eq_false, not_false_eq_true, ne_eq, ite_not, ↓reduceIte, if_true, if_false, Int.reduceToNat, Nat.reduceAdd, Int.reduceEq, Int.reduceLT, Int.reduceLE, Int.reduceNeg, bI_T, bI_F, h, tTid]
  | succ m ih =>
    intro i n l4 T hF h0 h1 h2 h3
    have h : ¬ 64 ≤ 4 * i := by omega
    have hf := hF (64 * d + 4 * i) (by omega) (by omega)
    have hp : 0 ≤ 4 * i ∧ 4 * i ≤ 60 := by omega
    have i4 : 4 * i + 4 = 4 * (i + 1) := by omega
    rw [e310_4, tTid]
    cases hr : tRow T d (4 * i) with
    | true =>
      have a0 : 768 + 64 * d + 4 * i + 0 = 768 + (64 * d + 4 * i) := by omega
      have a1 : 768 + 64 * d + 4 * i + 1 = 768 + (64 * d + 4 * i) + 1 := by omega
      have a2 : 768 + 64 * d + 4 * i + 2 = 768 + (64 * d + 4 * i) + 2 := by omega
      have a3 : 768 + 64 * d + 4 * i + 3 = 768 + (64 * d + 4 * i) + 3 := by omega
      simp (disch := first | assumption | omega) only [e310_0, e310_1, e310_2, e310_3, e310_5, e310_7, e310_10, e310_11, e310_12, e310_13, e310_16, e310_19, e310_22, e310_23, e310_25, e310_27, e310_28, e310_31, e310_32, e310_35, e310_37, e310_38, e310_39, e310_40, e310_41, e310_42, e310_44, e310_45, e310_46, e310_49, e310_52, e310_55, e310_58, e310_61, e310_64, e310_65, gK0_eq, gK1_eq, gK3_eq, w32_id, bI_eq0, bI_eq1, Bool.false_eq_true, not_true_eq_false, not_false_eq_true, ne_eq, ite_not, ↓reduceIte, if_true, if_false, Int.reduceToNat, Nat.reduceAdd, Int.reduceEq, Int.reduceLT, Int.reduceLE, Int.reduceNeg, bI_T, bI_F, h, s_isRow, hd, hp, hf, hr, and_self, s_lay, Int.reduceAdd, a0, a1, a2, a3, tBl1_eq, i4]
      rw [ih _ _ _ _ (fun j j0 j1 => by unfold tBl1; rw [if_neg (by omega)]; exact hF j j0 j1) (by omega) (by omega) (by omega) (by omega)]
    | false =>
      simp (disch := first | assumption | omega) only [e310_0, e310_1, e310_2, e310_3, e310_5, e310_7, e310_10, e310_11, e310_12, e310_13, e310_16, e310_19, e310_22, e310_23, e310_25, e310_27, e310_28, e310_31, e310_32, e310_35, e310_37, e310_38, e310_39, e310_40, e310_41, e310_42, e310_44, e310_45, e310_46, e310_49, e310_52, e310_55, e310_58, e310_61, e310_64, e310_65, gK0_eq, gK1_eq, gK3_eq, w32_id, bI_eq0, bI_eq1, Bool.false_eq_true, not_true_eq_false, not_false_eq_true, ne_eq, ite_not, ↓reduceIte, if_true, if_false, Int.reduceToNat, Nat.reduceAdd, Int.reduceEq, Int.reduceLT, Int.reduceLE, Int.reduceNeg, bI_T, bI_F, h, s_isRow, hd, hp, hf, hr, and_self, i4]
      rw [ih _ _ _ _ hF (by omega) (by omega) (by omega) (by omega)]
theorem s_tidies {d : Int} (hb : gBk μ b) (hd : 0 ≤ d ∧ d < 4) (hF : ∀ j, 0 ≤ j → j < 256 → -1 ≤ T j ∧ T j < 64) :
    gE 310 0 [gO 10 167, gI d, gX, gX, gX] [] (mK μ b T) Q = Q (tTid d 16 0 0 T).1 (mK μ b (tTid d 16 0 0 T).2) := by
  have := s_tidies_loop (Q := Q) hb hd 16 0 0 gX T hF (by omega) (by omega) (by omega) (by omega)
  rw [Int.mul_zero] at this
  rw [← this]
  simp (disch := first | assumption | omega) only [e310_0, e310_1, e310_2, e310_3, e310_5, e310_7, e310_10, e310_11, e310_12, e310_13, e310_16, e310_19, e310_22, e310_23, e310_25, e310_27, e310_28, e310_31, e310_32, e310_35, e310_37, e310_38, e310_39, e310_40, e310_41, e310_42, e310_44, e310_45, e310_46, e310_49, e310_52, e310_55, e310_58, e310_61, e310_64, e310_65, gK0_eq, gK1_eq, gK3_eq, w32_id, bI_eq0, bI_eq1, Bool.false_eq_true, not_true_eq_false, not_false_eq_true, ne_eq, ite_not, ↓reduceIte, if_true, if_false, Int.reduceToNat, Nat.reduceAdd, Int.reduceEq, Int.reduceLT, Int.reduceLE, Int.reduceNeg, bI_T, bI_F]
theorem s_tidy {d : Int} (hb : gBk μ b) (hD : 0 ≤ T 1672 ∧ T 1672 ≤ 4) (hF : ∀ j, 0 ≤ j → j < 256 → -1 ≤ T j ∧ T j < 64) :
    gE 311 0 [gO 10 167, gI d] [] (mK μ b T) Q = if 0 ≤ d ∧ d < T 1672 then Q (tTid d 16 0 0 T).1 (mK (gS μ 167 2 0) b (tTid d 16 0 0 T).2) else Q (-1) (mK (gS μ 167 2 0) b T) := by
  have hb' : gBk (gS μ 167 2 0) b := gBk_gS hb (by decide)
  by_cases h : 0 ≤ d ∧ d < T 1672
  · have hd : 0 ≤ d ∧ d < 4 := by omega
    rw [if_pos h]
    simp (disch := first | assumption | omega) only [e311_0, e311_1, e311_2, e311_5, e311_6, e311_7, e311_10, e311_13, e311_14, e311_15, e311_18, e311_21, e311_22, gK0_eq, gK1_eq, gK3_eq, w32_id, bI_eq0, bI_eq1, Bool.false_eq_true, not_true_eq_false, not_false_eq_true, ne_eq, ite_not, ↓reduceIte, if_true, if_false, Int.reduceToNat, Nat.reduceAdd, Int.reduceEq, Int.reduceLT, Int.reduceLE, Int.reduceNeg, bI_T, bI_F, gS_mK, s_isDomain, h, and_self, s_tidies, hd, hF]
  · rw [if_neg h]
    simp (disch := first | assumption | omega) only [e311_0, e311_1, e311_2, e311_5, e311_6, e311_7, e311_10, e311_13, e311_14, e311_15, e311_18, e311_21, e311_22, gK0_eq, gK1_eq, gK3_eq, w32_id, bI_eq0, bI_eq1, Bool.false_eq_true, not_true_eq_false, not_false_eq_true, ne_eq, ite_not, ↓reduceIte, if_true, if_false, Int.reduceToNat, Nat.reduceAdd, Int.reduceEq, Int.reduceLT, Int.reduceLE, Int.reduceNeg, bI_T, bI_F, gS_mK, s_isDomain, h]
theorem s_domain {v : Int} (hb : gBk μ b) (hD : 0 ≤ T 1672 ∧ T 1672 ≤ 4) : gE 257 0 [gO 10 167, gI v] [] (mK μ b T) Q = Q (tDomA T) (mK (gS μ 167 2 0) b (tDomT T v)) := by
  have hb' : gBk (gS μ 167 2 0) b := gBk_gS hb (by decide)
  unfold tDomA tDomT
  by_cases h : T 1672 = 4
  · simp (disch := first | assumption | omega) only [e257_0, e257_1, e257_2, e257_5, e257_6, e257_9, e257_12, e257_13, e257_16, e257_17, e257_18, e257_19, e257_22, e257_23, e257_26, e257_29, e257_30, e257_31, e257_34, e257_35, e257_38, e257_39, e257_42, e257_43, e257_46, e257_49, e257_50, e257_53, e257_56, e257_57, e257_58, gK0_eq, gK1_eq, gK3_eq, w32_id, bI_eq0, bI_eq1, Bool.false_eq_true, not_true_eq_false, not_false_eq_true, ne_eq, ite_not, ↓reduceIte, if_true, if_false, Int.reduceToNat, Nat.reduceAdd, Int.reduceEq, Int.reduceLT, Int.reduceLE, Int.reduceNeg, bI_T, bI_F, gS_mK, s_of, h]
  · by_cases hv : v = 0
    · simp (disch := first | assumption | omega) only [e257_0, e257_1, e257_2, e257_5, e257_6, e257_9, e257_12, e257_13, e257_16, e257_17, e257_18, e257_19, e257_22, e257_23, e257_26, e257_29, e257_30, e257_31, e257_34, e257_35, e257_38, e257_39, e257_42, e257_43, e257_46, e257_49, e257_50, e257_53, e257_56, e257_57, e257_58, gK0_eq, gK1_eq, gK3_eq, w32_id, bI_eq0, bI_eq1, Bool.false_eq_true, not_true_eq_false, not_false_eq_true, ne_eq, ite_not, ↓reduceIte, if_true, if_false, Int.reduceToNat, Nat.reduceAdd, Int.reduceEq, Int.reduceLT, Int.reduceLE, Int.reduceNeg, bI_T, bI_F, gS_mK, s_of, s_lay, s_moreM, h, hv]
      have e1 : tS T (1664 + T 1672) 0 1672 = T 1672 := tS_ne (by omega)
      have e2 : tMor (tS T (1664 + T 1672) 0) 1672 = tS (tS T (1664 + T 1672) 0) 1672 (T 1672 + 1) := by unfold tMor; rw [e1, w32_id (by omega) (by omega)]
      rw [e2, tS_same, Int.add_sub_cancel, w32_id (by omega) (by omega)]
    · simp (disch := first | assumption | omega) only [e257_0, e257_1, e257_2, e257_5, e257_6, e257_9, e257_12, e257_13, e257_16, e257_17, e257_18, e257_19, e257_22, e257_23, e257_26, e257_29, e257_30, e257_31, e257_34, e257_35, e257_38, e257_39, e257_42, e257_43, e257_46, e257_49, e257_50, e257_53, e257_56, e257_57, e257_58, gK0_eq, gK1_eq, gK3_eq, w32_id, bI_eq0, bI_eq1, Bool.false_eq_true, not_true_eq_false, not_false_eq_true, ne_eq, ite_not, ↓reduceIte, if_true, if_false, Int.reduceToNat, Nat.reduceAdd, Int.reduceEq, Int.reduceLT, Int.reduceLE, Int.reduceNeg, bI_T, bI_F, gS_mK, s_of, s_lay, s_moreM, h, hv]
      have e1 : tS T (1664 + T 1672) 1 1672 = T 1672 := tS_ne (by omega)
      have e2 : tMor (tS T (1664 + T 1672) 1) 1672 = tS (tS T (1664 + T 1672) 1) 1672 (T 1672 + 1) := by unfold tMor; rw [e1, w32_id (by omega) (by omega)]
      rw [e2, tS_same, Int.add_sub_cancel, w32_id (by omega) (by omega)]
theorem s_fence (hb : gBk μ b) (hq : 0 ≤ T 1681 ∧ T 1681 ≤ 24) : gE 281 0 [gO 10 167] [] (mK μ b T) Q = Q (tFncA T) (mK (gS μ 167 2 0) b (tFncT T)) := by
  have hb' : gBk (gS μ 167 2 0) b := gBk_gS hb (by decide)
  have hq' : 0 ≤ T 1681 ∧ T 1681 < 32 := by omega
  unfold tFncA tFncT
  by_cases h : T 1681 = 24
  · simp (disch := first | assumption | omega) only [e281_0, e281_1, e281_2, e281_5, e281_6, e281_9, e281_12, e281_14, e281_17, e281_18, e281_21, e281_22, e281_25, gK0_eq, gK1_eq, gK3_eq, w32_id, bI_eq0, bI_eq1, Bool.false_eq_true, not_true_eq_false, not_false_eq_true, ne_eq, ite_not, ↓reduceIte, if_true, if_false, Int.reduceToNat, Nat.reduceAdd, Int.reduceEq, Int.reduceLT, Int.reduceLE, Int.reduceNeg, bI_T, bI_F, gS_mK, s_of, h]
  · simp (disch := first | assumption | omega) only [e281_0, e281_1, e281_2, e281_5, e281_6, e281_9, e281_12, e281_14, e281_17, e281_18, e281_21, e281_22, e281_25, gK0_eq, gK1_eq, gK3_eq, w32_id, bI_eq0, bI_eq1, Bool.false_eq_true, not_true_eq_false, not_false_eq_true, ne_eq, ite_not, ↓reduceIte, if_true, if_false, Int.reduceToNat, Nat.reduceAdd, Int.reduceEq, Int.reduceLT, Int.reduceLE, Int.reduceNeg, bI_T, bI_F, gS_mK, s_of, h, s_fences, hq']
theorem s_cause {k : Int} (hb : gBk μ b) (hC : 0 ≤ T 1918 ∧ T 1918 ≤ 3) : gE 269 0 [gO 10 167, gI k] [] (mK μ b T) Q = Q (tCau T 1919 k) (mK (gS μ 167 2 0) b T) := by
  have hb' : gBk (gS μ 167 2 0) b := gBk_gS hb (by decide)
  unfold tCau
  by_cases h : k < 0
  · simp (disch := first | assumption | omega) only [e269_0, e269_1, e269_2, e269_5, e269_6, e269_9, e269_10, e269_13, e269_14, e269_15, e269_18, e269_21, e269_24, e269_25, e269_28, e269_29, e269_30, e269_33, e269_36, e269_38, gK0_eq, gK1_eq, gK3_eq, w32_id, bI_eq0, bI_eq1, Bool.false_eq_true, not_true_eq_false, not_false_eq_true, ne_eq, ite_not, ↓reduceIte, if_true, if_false, Int.reduceToNat, Nat.reduceAdd, Int.reduceEq, Int.reduceLT, Int.reduceLE, Int.reduceNeg, bI_T, bI_F, ↓if_pos, ↓if_neg, gS_mK, h]
  · by_cases h2 : k < T 1918
    · simp (disch := first | assumption | omega) only [e269_0, e269_1, e269_2, e269_5, e269_6, e269_9, e269_10, e269_13, e269_14, e269_15, e269_18, e269_21, e269_24, e269_25, e269_28, e269_29, e269_30, e269_33, e269_36, e269_38, gK0_eq, gK1_eq, gK3_eq, w32_id, bI_eq0, bI_eq1, Bool.false_eq_true, not_true_eq_false, not_false_eq_true, ne_eq, ite_not, ↓reduceIte, if_true, if_false, Int.reduceToNat, Nat.reduceAdd, Int.reduceEq, Int.reduceLT, Int.reduceLE, Int.reduceNeg, bI_T, bI_F, ↓if_pos, ↓if_neg, gS_mK, h, s_of, h2]
    · simp (disch := first | assumption | omega) only [e269_0, e269_1, e269_2, e269_5, e269_6, e269_9, e269_10, e269_13, e269_14, e269_15, e269_18, e269_21, e269_24, e269_25, e269_28, e269_29, e269_30, e269_33, e269_36, e269_38, gK0_eq, gK1_eq, gK3_eq, w32_id, bI_eq0, bI_eq1, Bool.false_eq_true, not_true_eq_false, not_false_eq_true, ne_eq, ite_not, ↓reduceIte, if_true, if_false, Int.reduceToNat, Nat.reduceAdd, Int.reduceEq, Int.reduceLT, Int.reduceLE, Int.reduceNeg, bI_T, bI_F, ↓if_pos, ↓if_neg, gS_mK, h, s_of, h2]
theorem s_about {k : Int} (hb : gBk μ b) (hC : 0 ≤ T 1918 ∧ T 1918 ≤ 3) : gE 270 0 [gO 10 167, gI k] [] (mK μ b T) Q = Q (tCau T 1923 k) (mK (gS μ 167 2 0) b T) := by
  have hb' : gBk (gS μ 167 2 0) b := gBk_gS hb (by decide)
  unfold tCau
  by_cases h : k < 0
  · simp (disch := first | assumption | omega) only [e270_0, e270_1, e270_2, e270_5, e270_6, e270_9, e270_10, e270_13, e270_14, e270_15, e270_18, e270_21, e270_24, e270_25, e270_28, e270_29, e270_30, e270_33, e270_36, e270_38, gK0_eq, gK1_eq, gK3_eq, w32_id, bI_eq0, bI_eq1, Bool.false_eq_true, not_true_eq_false, not_false_eq_true, ne_eq, ite_not, ↓reduceIte, if_true, if_false, Int.reduceToNat, Nat.reduceAdd, Int.reduceEq, Int.reduceLT, Int.reduceLE, Int.reduceNeg, bI_T, bI_F, ↓if_pos, ↓if_neg, gS_mK, h]
  · by_cases h2 : k < T 1918
    · simp (disch := first | assumption | omega) only [e270_0, e270_1, e270_2, e270_5, e270_6, e270_9, e270_10, e270_13, e270_14, e270_15, e270_18, e270_21, e270_24, e270_25, e270_28, e270_29, e270_30, e270_33, e270_36, e270_38, gK0_eq, gK1_eq, gK3_eq, w32_id, bI_eq0, bI_eq1, Bool.false_eq_true, not_true_eq_false, not_false_eq_true, ne_eq, ite_not, ↓reduceIte, if_true, if_false, Int.reduceToNat, Nat.reduceAdd, Int.reduceEq, Int.reduceLT, Int.reduceLE, Int.reduceNeg, bI_T, bI_F, ↓if_pos, ↓if_neg, gS_mK, h, s_of, h2]
    · simp (disch := first | assumption | omega) only [e270_0, e270_1, e270_2, e270_5, e270_6, e270_9, e270_10, e270_13, e270_14, e270_15, e270_18, e270_21, e270_24, e270_25, e270_28, e270_29, e270_30, e270_33, e270_36, e270_38, gK0_eq, gK1_eq, gK3_eq, w32_id, bI_eq0, bI_eq1, Bool.false_eq_true, not_true_eq_false, not_false_eq_true, ne_eq, ite_not, ↓reduceIte, if_true, if_false, Int.reduceToNat, Nat.reduceAdd, Int.reduceEq, Int.reduceLT, Int.reduceLE, Int.reduceNeg, bI_T, bI_F, ↓if_pos, ↓if_neg, gS_mK, h, s_of, h2]
end MODEL9
