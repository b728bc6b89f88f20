/-! the reader of the text: tokens -/
def cWd (f : Int → Int) : Nat → Int → Int → Int → Int
  | 0, _, _, v => v
  | m + 1, k, sh, v => cWd f m (k + 1) (sh - 5) (if 0 ≤ sh then ior32 v (ishl32 (f k - 97 + 1) sh) else v)
def cNum (f : Int → Int) : Nat → Int → Int → Int
  | 0, _, v => v
  | m + 1, k, v => cNum f m (k + 1) (imin (v * 10 + f k - 48) 1000000)
def cS (f : Int → Int) (stop a : Int) : Int := if a = stop then 0 else if isS f stop a = true then (if 6 < kE f stop a - a then 4 else 1) else if isN f stop a = true then 2 else if f a = 59 then 3 else 4
def cV (f : Int → Int) (stop a old : Int) : Int := if a = stop then old else if isS f stop a = true then cWd f (kE f stop a - a).toNat a 25 0 else if isN f stop a = true then cNum f (kD f stop a - a).toNat a 0 else old
def mAd (μ : gM) (s v a n : Int) : gM := fun p i => if p = 1 ∧ i = 6 then s else if p = 1 ∧ i = 7 then v else if p = 1 ∧ i = 5 then a else if p = 1 ∧ i = 4 then n else μ p i
section TEXT4
variable {μ : gM} {Q : Int → gM → Prop}
theorem mAd_id : mAd μ (μ 1 6) (μ 1 7) (μ 1 5) (μ 1 4) = μ := by
  funext p i
  unfold mAd
  split
  · rename_i h; rw [h.1, h.2]
  · split
    · rename_i h; rw [h.1, h.2]
    · split
      · rename_i h; rw [h.1, h.2]
      · split
        · rename_i h; rw [h.1, h.2]
        · rfl
theorem mAd_6 {s v a n : Int} : mAd μ s v a n 1 6 = s := if_pos ⟨rfl, rfl⟩
theorem mAd_7 {s v a n : Int} : mAd μ s v a n 1 7 = v := by unfold mAd; rw [if_neg (by omega), if_pos ⟨rfl, rfl⟩]
theorem mAd_5 {s v a n : Int} : mAd μ s v a n 1 5 = a := by unfold mAd; rw [if_neg (by omega), if_neg (by omega), if_pos ⟨rfl, rfl⟩]
theorem mAd_4 {s v a n : Int} : mAd μ s v a n 1 4 = n := by unfold mAd; rw [if_neg (by omega), if_neg (by omega), if_neg (by omega), if_pos ⟨rfl, rfl⟩]
theorem mAd_ne {s v a n : Int} {p : Nat} {i : Int} (h : p ≠ 1 ∨ (i ≠ 4 ∧ i ≠ 5 ∧ i ≠ 6 ∧ i ≠ 7)) : mAd μ s v a n p i = μ p i := by
  unfold mAd; rw [if_neg (by omega), if_neg (by omega), if_neg (by omega), if_neg (by omega)]
theorem gS_mAd6 {s v a n x : Int} : gS (mAd μ s v a n) 1 6 x = mAd μ x v a n := by
  funext p i; unfold gS mAd
  by_cases h : p = 1 ∧ i = 6
  · rw [if_pos h, if_pos h]
  · rw [if_neg h, if_neg h, if_neg h]
theorem gS_mAd7 {s v a n x : Int} : gS (mAd μ s v a n) 1 7 x = mAd μ s x a n := by
  funext p i; unfold gS mAd
  by_cases h : p = 1 ∧ i = 7
  · rw [if_pos h, if_neg (by omega), if_pos h]
  · rw [if_neg h, if_neg h, if_neg h]
theorem gS_mAd5 {s v a n x : Int} : gS (mAd μ s v a n) 1 5 x = mAd μ s v x n := by
  funext p i; unfold gS mAd
  by_cases h : p = 1 ∧ i = 5
  · rw [if_pos h, if_neg (by omega), if_neg (by omega), if_pos h]
  · rw [if_neg h, if_neg h, if_neg h]
theorem gS_mAd4 {s v a n x : Int} : gS (mAd μ s v a n) 1 4 x = mAd μ s v a x := by
  funext p i; unfold gS mAd
  by_cases h : p = 1 ∧ i = 4
  · rw [if_pos h, if_neg (by omega), if_neg (by omega), if_neg (by omega), if_pos h]
  · rw [if_neg h, if_neg h, if_neg h]
theorem s_isLetter {x : Int} {μ : gM} : gE 90 0 [gI x] [] μ Q = Q (bI (97 ≤ x ∧ x ≤ 122)) μ := by
  by_cases c : 97 ≤ x
  · by_cases c2 : x ≤ 122
    · simp (disch := first | assumption | omega) only [e90_0, e90_1, e90_3, e90_6, e90_7, e90_9, e90_12, e90_13, e90_16, e90_17, gK0_eq, gK1_eq, gK3_eq, w32_id, bI_eq0, bI_eq1, Bool.false_eq_true, not_true_eq_false, not_false_eq_true, ne_eq, ite_not, ↓reduceIte, if_true, if_false, Int.reduceToNat, Nat.reduceAdd, Int.reduceEq, Int.reduceLT, Int.reduceLE, Int.reduceNeg, bI_T, bI_F, ↓if_pos, ↓if_neg, c, c2, and_self]
    · simp (disch := first | assumption | omega) only [e90_0, e90_1, e90_3, e90_6, e90_7, e90_9, e90_12, e90_13, e90_16, e90_17, gK0_eq, gK1_eq, gK3_eq, w32_id, bI_eq0, bI_eq1, Bool.false_eq_true, not_true_eq_false, not_false_eq_true, ne_eq, ite_not, ↓reduceIte, if_true, if_false, Int.reduceToNat, Nat.reduceAdd, Int.reduceEq, Int.reduceLT, Int.reduceLE, Int.reduceNeg, bI_T, bI_F, ↓if_pos, ↓if_neg, c, c2, and_false]
  · simp (disch := first | assumption | omega) only [e90_0, e90_1, e90_3, e90_6, e90_7, e90_9, e90_12, e90_13, e90_16, e90_17, gK0_eq, gK1_eq, gK3_eq, w32_id, bI_eq0, bI_eq1, Bool.false_eq_true, not_true_eq_false, not_false_eq_true, ne_eq, ite_not, ↓reduceIte, if_true, if_false, Int.reduceToNat, Nat.reduceAdd, Int.reduceEq, Int.reduceLT, Int.reduceLE, Int.reduceNeg, bI_T, bI_F, ↓if_pos, ↓if_neg, c, false_and]
theorem s_isDigitC {x : Int} {μ : gM} : gE 91 0 [gI x] [] μ Q = Q (bI (48 ≤ x ∧ x ≤ 57)) μ := by
  by_cases c : 48 ≤ x
  · by_cases c2 : x ≤ 57
    · simp (disch := first | assumption | omega) only [e91_0, e91_1, e91_3, e91_6, e91_7, e91_9, e91_12, e91_13, e91_16, e91_17, gK0_eq, gK1_eq, gK3_eq, w32_id, bI_eq0, bI_eq1, Bool.false_eq_true, not_true_eq_false, not_false_eq_true, ne_eq, ite_not, ↓reduceIte, if_true, if_false, Int.reduceToNat, Nat.reduceAdd, Int.reduceEq, Int.reduceLT, Int.reduceLE, Int.reduceNeg, bI_T, bI_F, ↓if_pos, ↓if_neg, c, c2, and_self]
    · simp (disch := first | assumption | omega) only [e91_0, e91_1, e91_3, e91_6, e91_7, e91_9, e91_12, e91_13, e91_16, e91_17, gK0_eq, gK1_eq, gK3_eq, w32_id, bI_eq0, bI_eq1, Bool.false_eq_true, not_true_eq_false, not_false_eq_true, ne_eq, ite_not, ↓reduceIte, if_true, if_false, Int.reduceToNat, Nat.reduceAdd, Int.reduceEq, Int.reduceLT, Int.reduceLE, Int.reduceNeg, bI_T, bI_F, ↓if_pos, ↓if_neg, c, c2, and_false]
  · simp (disch := first | assumption | omega) only [e91_0, e91_1, e91_3, e91_6, e91_7, e91_9, e91_12, e91_13, e91_16, e91_17, gK0_eq, gK1_eq, gK3_eq, w32_id, bI_eq0, bI_eq1, Bool.false_eq_true, not_true_eq_false, not_false_eq_true, ne_eq, ite_not, ↓reduceIte, if_true, if_false, Int.reduceToNat, Nat.reduceAdd, Int.reduceEq, Int.reduceLT, Int.reduceLE, Int.reduceNeg, bI_T, bI_F, ↓if_pos, ↓if_neg, c, false_and]
theorem s_adv_l1 {s v a : Int} (hs : μ 1 3 ≤ 700) : ∀ (m : Nat) (n : Int), 0 ≤ n → n + m = μ 1 3 →
    gE 86 0 [gO 4 1] [] (mAd μ s v a n) Q = gE 86 56 [gO 4 1] [] (mAd μ s v a (nRun (isB (μ 2) (μ 1 3)) m n)) Q := by
  intro m
  induction m with
  | zero =>
    intro n h0 h1
    have h : μ 1 3 ≤ n := by omega
    rw [nRun, e86_0]
    simp (disch := first | assumption | omega) only [e86_1, e86_4, e86_5, e86_8, e86_11, e86_12, e86_15, e86_16, e86_19, e86_22, e86_24, e86_27, e86_28, e86_31, e86_32, e86_35, e86_38, e86_40, e86_43, e86_44, e86_45, e86_48, e86_49, e86_50, e86_53, e86_57, e86_58, e86_61, e86_64, e86_65, e86_68, e86_69, e86_72, e86_75, e86_76, e86_77, e86_80, e86_83, e86_84, e86_87, e86_88, e86_91, e86_94, e86_97, e86_100, e86_101, e86_104, e86_107, e86_108, e86_111, e86_112, e86_115, e86_118, e86_121, e86_124, e86_125, e86_128, e86_131, e86_132, e86_133, e86_136, e86_137, e86_140, e86_143, e86_145, e86_148, e86_149, e86_152, e86_153, e86_156, e86_157, e86_158, e86_161, e86_162, e86_163, e86_166, gK0_eq, gK1_eq, gK3_eq, w32_id, bI_eq0, bI_eq1, Bool.false_eq_true, not_true_eq_false, not_false_eq_true, ne_eq, ite_not, ↓reduceIte, if_true, if_false, Int.reduceToNat, Nat.reduceAdd, Int.reduceEq, Int.reduceLT, Int.reduceLE, Int.reduceNeg, bI_T, bI_F, ↓if_pos, ↓if_neg, mAd_4, mAd_ne, h]
  | succ m ih =>
    intro n h0 h1
    have h : ¬ μ 1 3 ≤ n := by omega
    have h' : n < μ 1 3 := by omega
    have h7 : n < ((700 : Nat) : Int) := by omega
    rw [nRun]
    by_cases c1 : μ 2 n = 10
    · have e : isB (μ 2) (μ 1 3) n = true := by unfold isB; rw [decide_eq_true h', decide_eq_true c1]; rfl
      rw [if_pos e, ← ih (n + 1) (by omega) (by omega), e86_0]
      simp (disch := first | assumption | omega) only [e86_1, e86_4, e86_5, e86_8, e86_11, e86_12, e86_15, e86_16, e86_19, e86_22, e86_24, e86_27, e86_28, e86_31, e86_32, e86_35, e86_38, e86_40, e86_43, e86_44, e86_45, e86_48, e86_49, e86_50, e86_53, e86_57, e86_58, e86_61, e86_64, e86_65, e86_68, e86_69, e86_72, e86_75, e86_76, e86_77, e86_80, e86_83, e86_84, e86_87, e86_88, e86_91, e86_94, e86_97, e86_100, e86_101, e86_104, e86_107, e86_108, e86_111, e86_112, e86_115, e86_118, e86_121, e86_124, e86_125, e86_128, e86_131, e86_132, e86_133, e86_136, e86_137, e86_140, e86_143, e86_145, e86_148, e86_149, e86_152, e86_153, e86_156, e86_157, e86_158, e86_161, e86_162, e86_163, e86_166, gK0_eq, gK1_eq, gK3_eq, w32_id, bI_eq0, bI_eq1, Bool.false_eq_true, not_true_eq_false, not_false_eq_true, ne_eq, ite_not, ↓reduceIte, if_true, if_false, Int.reduceToNat, Nat.reduceAdd, Int.reduceEq, Int.reduceLT, Int.reduceLE, Int.reduceNeg, bI_T, bI_F, ↓if_pos, ↓if_neg, mAd_4, mAd_ne, h, s_at, atv_in, c1, gS_mAd4]
    · by_cases c2 : μ 2 n = 32
      · have e : isB (μ 2) (μ 1 3) n = true := by unfold isB; rw [decide_eq_true h', decide_eq_true c2]; simp
        rw [if_pos e, ← ih (n + 1) (by omega) (by omega), e86_0]
        simp (disch := first | assumption | omega) only [e86_1, e86_4, e86_5, e86_8, e86_11, e86_12, e86_15, e86_16, e86_19, e86_22, e86_24, e86_27, e86_28, e86_31, e86_32, e86_35, e86_38, e86_40, e86_43, e86_44, e86_45, e86_48, e86_49, e86_50, e86_53, e86_57, e86_58, e86_61, e86_64, e86_65, e86_68, e86_69, e86_72, e86_75, e86_76, e86_77, e86_80, e86_83, e86_84, e86_87, e86_88, e86_91, e86_94, e86_97, e86_100, e86_101, e86_104, e86_107, e86_108, e86_111, e86_112, e86_115, e86_118, e86_121, e86_124, e86_125, e86_128, e86_131, e86_132, e86_133, e86_136, e86_137, e86_140, e86_143, e86_145, e86_148, e86_149, e86_152, e86_153, e86_156, e86_157, e86_158, e86_161, e86_162, e86_163, e86_166, gK0_eq, gK1_eq, gK3_eq, w32_id, bI_eq0, bI_eq1, Bool.false_eq_true, not_true_eq_false, not_false_eq_true, ne_eq, ite_not, ↓reduceIte, if_true, if_false, Int.reduceToNat, Nat.reduceAdd, Int.reduceEq, Int.reduceLT, Int.reduceLE, Int.reduceNeg, bI_T, bI_F, ↓if_pos, ↓if_neg, mAd_4, mAd_ne, h, s_at, atv_in, c2, gS_mAd4]
      · have e : ¬ isB (μ 2) (μ 1 3) n = true := by unfold isB; rw [decide_eq_false c1, decide_eq_false c2]; simp
        rw [if_neg e, e86_0]
        simp (disch := first | assumption | omega) only [e86_1, e86_4, e86_5, e86_8, e86_11, e86_12, e86_15, e86_16, e86_19, e86_22, e86_24, e86_27, e86_28, e86_31, e86_32, e86_35, e86_38, e86_40, e86_43, e86_44, e86_45, e86_48, e86_49, e86_50, e86_53, e86_57, e86_58, e86_61, e86_64, e86_65, e86_68, e86_69, e86_72, e86_75, e86_76, e86_77, e86_80, e86_83, e86_84, e86_87, e86_88, e86_91, e86_94, e86_97, e86_100, e86_101, e86_104, e86_107, e86_108, e86_111, e86_112, e86_115, e86_118, e86_121, e86_124, e86_125, e86_128, e86_131, e86_132, e86_133, e86_136, e86_137, e86_140, e86_143, e86_145, e86_148, e86_149, e86_152, e86_153, e86_156, e86_157, e86_158, e86_161, e86_162, e86_163, e86_166, gK0_eq, gK1_eq, gK3_eq, w32_id, bI_eq0, bI_eq1, Bool.false_eq_true, not_true_eq_false, not_false_eq_true, ne_eq, ite_not, ↓reduceIte, if_true, if_false, Int.reduceToNat, Nat.reduceAdd, Int.reduceEq, Int.reduceLT, Int.reduceLE, Int.reduceNeg, bI_T, bI_F, ↓if_pos, ↓if_neg, mAd_4, mAd_ne, h, s_at, atv_in, c1, c2]
theorem isS_iff {f : Int → Int} {stop k : Int} (h : k < stop) : (97 ≤ f k ∧ f k ≤ 122) = (isS f stop k = true) := by
  unfold isS; simp [h]
theorem isN_iff {f : Int → Int} {stop k : Int} (h : k < stop) : (48 ≤ f k ∧ f k ≤ 57) = (isN f stop k = true) := by
  unfold isN; simp [h]
theorem s_word_loop {s a : Int} (hs : μ 1 3 ≤ 700) : ∀ (m : Nat) (n v sh : Int), 0 ≤ n → n + m = μ 1 3 → (-10000 + 5 * m ≤ sh ∧ sh ≤ 25) →
    ∃ l : gv, gE 87 8 [gO 4 1, gI sh] [] (mAd μ s v a n) Q = gE 87 83 [gO 4 1, l] [] (mAd μ s (cWd (μ 2) (nRun (isS (μ 2) (μ 1 3)) m n - n).toNat n sh v) a (nRun (isS (μ 2) (μ 1 3)) m n)) Q := by
  intro m
  induction m with
  | zero =>
    intro n v sh h0 h1 h2
    have h : μ 1 3 ≤ n := by omega
    have e2 : (n - n).toNat = 0 := by omega
    refine ⟨gI sh, ?_⟩
    rw [nRun, e2, cWd, e87_8]
    simp (disch := first | assumption | omega) only [e87_0, e87_1, e87_2, e87_5, e87_7, e87_9, e87_12, e87_13, e87_16, e87_19, e87_20, e87_23, e87_24, e87_27, e87_30, e87_33, e87_36, e87_37, e87_40, e87_41, e87_42, e87_45, e87_46, e87_49, e87_50, e87_53, e87_56, e87_58, e87_59, e87_60, e87_61, e87_62, e87_63, e87_64, e87_67, e87_70, e87_71, e87_72, e87_75, e87_76, e87_77, e87_80, e87_84, e87_85, e87_88, e87_89, e87_92, e87_93, e87_95, e87_98, e87_99, e87_102, e87_103, e87_106, gK0_eq, gK1_eq, gK3_eq, w32_id, bI_eq0, bI_eq1, Bool.false_eq_true, not_true_eq_false, not_false_eq_true, ne_eq, ite_not, ↓reduceIte, if_true, if_false, Int.reduceToNat, Nat.reduceAdd, Int.reduceEq, Int.reduceLT, Int.reduceLE, Int.reduceNeg, bI_T, bI_F, ↓if_pos, ↓if_neg, mAd_4, mAd_ne, h]
  | succ m ih =>
    intro n v sh h0 h1 h2
    have h : ¬ μ 1 3 ≤ n := by omega
    have h7 : n < ((700 : Nat) : Int) := by omega
    rw [nRun]
    cases e : isS (μ 2) (μ 1 3) n with
    | true =>
      have hc : 97 ≤ μ 2 n ∧ μ 2 n ≤ 122 := by rw [isS_iff (stop := μ 1 3) (by omega)]; exact e
      have hr := nRun_in (P := isS (μ 2) (μ 1 3)) m (n + 1)
      have e2 : (nRun (isS (μ 2) (μ 1 3)) m (n + 1) - n).toNat = (nRun (isS (μ 2) (μ 1 3)) m (n + 1) - (n + 1)).toNat + 1 := by omega
      have e3 : sh + -5 = sh - 5 := by omega
      rw [if_pos rfl, e2, cWd]
      by_cases c : 0 ≤ sh
      · obtain ⟨l, hl⟩ := ih (n + 1) (ior32 v (ishl32 (μ 2 n - 97 + 1) sh)) (sh - 5) (by omega) (by omega) (by omega)
        refine ⟨l, ?_⟩
        rw [if_pos c, ← hl, e87_8]
        have c' : ¬ sh < 0 := by omega
        simp (disch := first | assumption | omega) only [e87_0, e87_1, e87_2, e87_5, e87_7, e87_9, e87_12, e87_13, e87_16, e87_19, e87_20, e87_23, e87_24, e87_27, e87_30, e87_33, e87_36, e87_37, e87_40, e87_41, e87_42, e87_45, e87_46, e87_49, e87_50, e87_53, e87_56, e87_58, e87_59, e87_60, e87_61, e87_62, e87_63, e87_64, e87_67, e87_70, e87_71, e87_72, e87_75, e87_76, e87_77, e87_80, e87_84, e87_85, e87_88, e87_89, e87_92, e87_93, e87_95, e87_98, e87_99, e87_102, e87_103, e87_106, gK0_eq, gK1_eq, gK3_eq, w32_id, bI_eq0, bI_eq1, Bool.false_eq_true, not_true_eq_false, not_false_eq_true, ne_eq, ite_not, ↓reduceIte, if_true, if_false, Int.reduceToNat, Nat.reduceAdd, Int.reduceEq, Int.reduceLT, Int.reduceLE, Int.reduceNeg, bI_T, bI_F, ↓if_pos, ↓if_neg, mAd_4, mAd_7, mAd_ne, h, s_at, atv_in, s_isLetter, hc, and_self, c', gS_mAd4, gS_mAd7, e3]
      · obtain ⟨l, hl⟩ := ih (n + 1) v (sh - 5) (by omega) (by omega) (by omega)
        refine ⟨l, ?_⟩
        rw [if_neg c, ← hl, e87_8]
        have c' : sh < 0 := by omega
        simp (disch := first | assumption | omega) only [e87_0, e87_1, e87_2, e87_5, e87_7, e87_9, e87_12, e87_13, e87_16, e87_19, e87_20, e87_23, e87_24, e87_27, e87_30, e87_33, e87_36, e87_37, e87_40, e87_41, e87_42, e87_45, e87_46, e87_49, e87_50, e87_53, e87_56, e87_58, e87_59, e87_60, e87_61, e87_62, e87_63, e87_64, e87_67, e87_70, e87_71, e87_72, e87_75, e87_76, e87_77, e87_80, e87_84, e87_85, e87_88, e87_89, e87_92, e87_93, e87_95, e87_98, e87_99, e87_102, e87_103, e87_106, gK0_eq, gK1_eq, gK3_eq, w32_id, bI_eq0, bI_eq1, Bool.false_eq_true, not_true_eq_false, not_false_eq_true, ne_eq, ite_not, ↓reduceIte, if_true, if_false, Int.reduceToNat, Nat.reduceAdd, Int.reduceEq, Int.reduceLT, Int.reduceLE, Int.reduceNeg, bI_T, bI_F, ↓if_pos, ↓if_neg, mAd_4, mAd_7, mAd_ne, h, s_at, atv_in, s_isLetter, hc, and_self, c', gS_mAd4, gS_mAd7, e3]
    | false =>
      have hc : ¬ (97 ≤ μ 2 n ∧ μ 2 n ≤ 122) := by rw [isS_iff (stop := μ 1 3) (by omega), e]; exact Bool.noConfusion
      have e2 : (n - n).toNat = 0 := by omega
      refine ⟨gI sh, ?_⟩
      rw [if_neg Bool.noConfusion, e2, cWd, e87_8]
      simp (disch := first | assumption | omega) only [e87_0, e87_1, e87_2, e87_5, e87_7, e87_9, e87_12, e87_13, e87_16, e87_19, e87_20, e87_23, e87_24, e87_27, e87_30, e87_33, e87_36, e87_37, e87_40, e87_41, e87_42, e87_45, e87_46, e87_49, e87_50, e87_53, e87_56, e87_58, e87_59, e87_60, e87_61, e87_62, e87_63, e87_64, e87_67, e87_70, e87_71, e87_72, e87_75, e87_76, e87_77, e87_80, e87_84, e87_85, e87_88, e87_89, e87_92, e87_93, e87_95, e87_98, e87_99, e87_102, e87_103, e87_106, gK0_eq, gK1_eq, gK3_eq, w32_id, bI_eq0, bI_eq1, Bool.false_eq_true, not_true_eq_false, not_false_eq_true, ne_eq, ite_not, ↓reduceIte, if_true, if_false, Int.reduceToNat, Nat.reduceAdd, Int.reduceEq, Int.reduceLT, Int.reduceLE, Int.reduceNeg, bI_T, bI_F, ↓if_pos, ↓if_neg, mAd_4, mAd_7, mAd_ne, h, s_at, atv_in, s_isLetter, hc]
theorem s_num_loop {s a : Int} (hs : μ 1 3 ≤ 700) : ∀ (m : Nat) (n v : Int), 0 ≤ n → n + m = μ 1 3 → (0 ≤ v ∧ v ≤ 1000000) →
    gE 88 5 [gO 4 1] [] (mAd μ s v a n) Q = Q 0 (mAd μ 2 (cNum (μ 2) (nRun (isN (μ 2) (μ 1 3)) m n - n).toNat n v) a (nRun (isN (μ 2) (μ 1 3)) m n)) := by
  intro m
  induction m with
  | zero =>
    intro n v h0 h1 h2
    have h : μ 1 3 ≤ n := by omega
    have e2 : (n - n).toNat = 0 := by omega
    rw [nRun, e2, cNum, e88_5]
    simp (disch := first | assumption | omega) only [e88_0, e88_1, e88_2, e88_6, e88_9, e88_10, e88_13, e88_16, e88_17, e88_20, e88_21, e88_24, e88_27, e88_30, e88_33, e88_34, e88_35, e88_38, e88_40, e88_41, e88_42, e88_45, e88_46, e88_49, e88_52, e88_53, e88_55, e88_56, e88_58, e88_61, e88_64, e88_65, e88_66, e88_69, e88_70, e88_71, e88_74, e88_77, e88_78, e88_79, e88_82, gK0_eq, gK1_eq, gK3_eq, w32_id, bI_eq0, bI_eq1, Bool.false_eq_true, not_true_eq_false, not_false_eq_true, ne_eq, ite_not, ↓reduceIte, if_true, if_false, Int.reduceToNat, Nat.reduceAdd, Int.reduceEq, Int.reduceLT, Int.reduceLE, Int.reduceNeg, bI_T, bI_F, ↓if_pos, ↓if_neg, mAd_4, mAd_ne, h, gS_mAd6]
  | succ m ih =>
    intro n v h0 h1 h2
    have h : ¬ μ 1 3 ≤ n := by omega
    have h7 : n < ((700 : Nat) : Int) := by omega
    rw [nRun]
    cases e : isN (μ 2) (μ 1 3) n with
    | true =>
      have hc : 48 ≤ μ 2 n ∧ μ 2 n ≤ 57 := by rw [isN_iff (stop := μ 1 3) (by omega)]; exact e
      have hr := nRun_in (P := isN (μ 2) (μ 1 3)) m (n + 1)
      have e2 : (nRun (isN (μ 2) (μ 1 3)) m (n + 1) - n).toNat = (nRun (isN (μ 2) (μ 1 3)) m (n + 1) - (n + 1)).toNat + 1 := by omega
      have e3 : imin (v * 10 + μ 2 n - 48) 1000000 = if v * 10 + μ 2 n - 48 ≤ 1000000 then v * 10 + μ 2 n - 48 else 1000000 := by
        unfold imin; split <;> split <;> omega
      rw [if_pos rfl, e2, cNum, ← ih (n + 1) (imin (v * 10 + μ 2 n - 48) 1000000) (by omega) (by omega) (by rw [e3]; split <;> omega), e88_5]
      simp (disch := first | assumption | omega) only [e88_0, e88_1, e88_2, e88_6, e88_9, e88_10, e88_13, e88_16, e88_17, e88_20, e88_21, e88_24, e88_27, e88_30, e88_33, e88_34, e88_35, e88_38, e88_40, e88_41, e88_42, e88_45, e88_46, e88_49, e88_52, e88_53, e88_55, e88_56, e88_58, e88_61, e88_64, e88_65, e88_66, e88_69, e88_70, e88_71, e88_74, e88_77, e88_78, e88_79, e88_82, gK0_eq, gK1_eq, gK3_eq, w32_id, bI_eq0, bI_eq1, Bool.false_eq_true, not_true_eq_false, not_false_eq_true, ne_eq, ite_not, ↓reduceIte, if_true, if_false, Int.reduceToNat, Nat.reduceAdd, Int.reduceEq, Int.reduceLT, Int.reduceLE, Int.reduceNeg, bI_T, bI_F, ↓if_pos, ↓if_neg, mAd_4, mAd_7, mAd_ne, h, s_at, atv_in, s_isDigitC, hc, and_self, gS_mAd4, gS_mAd7]
    | false =>
      have hc : ¬ (48 ≤ μ 2 n ∧ μ 2 n ≤ 57) := by rw [isN_iff (stop := μ 1 3) (by omega), e]; exact Bool.noConfusion
      have e2 : (n - n).toNat = 0 := by omega
      rw [if_neg Bool.noConfusion, e2, cNum, e88_5]
      simp (disch := first | assumption | omega) only [e88_0, e88_1, e88_2, e88_6, e88_9, e88_10, e88_13, e88_16, e88_17, e88_20, e88_21, e88_24, e88_27, e88_30, e88_33, e88_34, e88_35, e88_38, e88_40, e88_41, e88_42, e88_45, e88_46, e88_49, e88_52, e88_53, e88_55, e88_56, e88_58, e88_61, e88_64, e88_65, e88_66, e88_69, e88_70, e88_71, e88_74, e88_77, e88_78, e88_79, e88_82, gK0_eq, gK1_eq, gK3_eq, w32_id, bI_eq0, bI_eq1, Bool.false_eq_true, not_true_eq_false, not_false_eq_true, ne_eq, ite_not, ↓reduceIte, if_true, if_false, Int.reduceToNat, Nat.reduceAdd, Int.reduceEq, Int.reduceLT, Int.reduceLE, Int.reduceNeg, bI_T, bI_F, ↓if_pos, ↓if_neg, mAd_4, mAd_7, mAd_ne, h, s_at, atv_in, s_isDigitC, hc, gS_mAd6]
theorem s_advance {s v a n : Int} (hn : 0 ≤ n ∧ n ≤ μ 1 3) (hs : μ 1 3 ≤ 700) :
    gE 86 0 [gO 4 1] [] (mAd μ s v a n) Q = Q 0 (mAd μ (cS (μ 2) (μ 1 3) (kA (μ 2) (μ 1 3) n)) (cV (μ 2) (μ 1 3) (kA (μ 2) (μ 1 3) n) v) (kA (μ 2) (μ 1 3) n) (kN (μ 2) (μ 1 3) (kA (μ 2) (μ 1 3) n))) := by
  rw [s_adv_l1 hs (μ 1 3 - n).toNat n hn.1 (by omega)]
  have hA := nRun_in (P := isB (μ 2) (μ 1 3)) (μ 1 3 - n).toNat n
  have eA : nRun (isB (μ 2) (μ 1 3)) (μ 1 3 - n).toNat n = kA (μ 2) (μ 1 3) n := rfl
  rw [eA] at hA ⊢
  generalize kA (μ 2) (μ 1 3) n = a' at hA ⊢
  rw [e86_56]
  unfold cS cV kN
  by_cases c0 : a' = μ 1 3
  · rw [if_pos c0, if_pos c0, if_pos c0]
    have c1 : μ 1 3 ≤ a' := by omega
    simp (disch := first | assumption | omega) only [e86_0, e86_1, e86_4, e86_5, e86_8, e86_11, e86_12, e86_15, e86_16, e86_19, e86_22, e86_24, e86_27, e86_28, e86_31, e86_32, e86_35, e86_38, e86_40, e86_43, e86_44, e86_45, e86_48, e86_49, e86_50, e86_53, e86_57, e86_58, e86_61, e86_64, e86_65, e86_68, e86_69, e86_72, e86_75, e86_76, e86_77, e86_80, e86_83, e86_84, e86_87, e86_88, e86_91, e86_94, e86_97, e86_100, e86_101, e86_104, e86_107, e86_108, e86_111, e86_112, e86_115, e86_118, e86_121, e86_124, e86_125, e86_128, e86_131, e86_132, e86_133, e86_136, e86_137, e86_140, e86_143, e86_145, e86_148, e86_149, e86_152, e86_153, e86_156, e86_157, e86_158, e86_161, e86_162, e86_163, e86_166, gK0_eq, gK1_eq, gK3_eq, w32_id, bI_eq0, bI_eq1, Bool.false_eq_true, not_true_eq_false, not_false_eq_true, ne_eq, ite_not, ↓reduceIte, if_true, if_false, Int.reduceToNat, Nat.reduceAdd, Int.reduceEq, Int.reduceLT, Int.reduceLE, Int.reduceNeg, bI_T, bI_F, ↓if_pos, ↓if_neg, mAd_4, mAd_ne, gS_mAd5, gS_mAd6, c1]
  · rw [if_neg c0, if_neg c0, if_neg c0]
    have c1 : ¬ μ 1 3 ≤ a' := by omega
    have a0 : 0 ≤ a' := by omega
    have h7 : a' < ((700 : Nat) : Int) := by omega
    cases cS' : isS (μ 2) (μ 1 3) a' with
    | true =>
      have hc : 97 ≤ μ 2 a' ∧ μ 2 a' ≤ 122 := by rw [isS_iff (stop := μ 1 3) (by omega)]; exact cS'
      have eE : nRun (isS (μ 2) (μ 1 3)) (μ 1 3 - a').toNat a' = kE (μ 2) (μ 1 3) a' := rfl
      have hE := nRun_in (P := isS (μ 2) (μ 1 3)) (μ 1 3 - a').toNat a'
      rw [eE] at hE
      have tw : ∀ s v, ∀ Q' : Int → gM → Prop, gE 87 0 [gO 4 1, gX] [] (mAd μ s v a' a') Q' = Q' 0 (mAd μ (if 6 < kE (μ 2) (μ 1 3) a' - a' then 4 else 1) (cWd (μ 2) (kE (μ 2) (μ 1 3) a' - a').toNat a' 25 0) a' (kE (μ 2) (μ 1 3) a')) := fun s v Q' => by
        obtain ⟨l, hl⟩ := s_word_loop (Q := Q') (s := s) (a := a') hs (μ 1 3 - a').toNat a' 0 25 (by omega) (by omega) (by omega)
        rw [eE] at hl
        simp (disch := first | assumption | omega) only [e87_0, e87_1, e87_2, e87_5, e87_7, e87_9, e87_12, e87_13, e87_16, e87_19, e87_20, e87_23, e87_24, e87_27, e87_30, e87_33, e87_36, e87_37, e87_40, e87_41, e87_42, e87_45, e87_46, e87_49, e87_50, e87_53, e87_56, e87_58, e87_59, e87_60, e87_61, e87_62, e87_63, e87_64, e87_67, e87_70, e87_71, e87_72, e87_75, e87_76, e87_77, e87_80, e87_83, e87_84, e87_85, e87_88, e87_89, e87_92, e87_93, e87_95, e87_98, e87_99, e87_102, e87_103, e87_106, gK0_eq, gK1_eq, gK3_eq, w32_id, bI_eq0, bI_eq1, Bool.false_eq_true, not_true_eq_false, not_false_eq_true, ne_eq, ite_not, ↓reduceIte, if_true, if_false, Int.reduceToNat, Nat.reduceAdd, Int.reduceEq, Int.reduceLT, Int.reduceLE, Int.reduceNeg, bI_T, bI_F, ↓if_pos, ↓if_neg, gS_mAd7]
        rw [hl, e87_83]
        by_cases c6 : 6 < kE (μ 2) (μ 1 3) a' - a'
        · simp (disch := first | assumption | omega) only [e87_0, e87_1, e87_2, e87_5, e87_7, e87_9, e87_12, e87_13, e87_16, e87_19, e87_20, e87_23, e87_24, e87_27, e87_30, e87_33, e87_36, e87_37, e87_40, e87_41, e87_42, e87_45, e87_46, e87_49, e87_50, e87_53, e87_56, e87_58, e87_59, e87_60, e87_61, e87_62, e87_63, e87_64, e87_67, e87_70, e87_71, e87_72, e87_75, e87_76, e87_77, e87_80, e87_84, e87_85, e87_88, e87_89, e87_92, e87_93, e87_95, e87_98, e87_99, e87_102, e87_103, e87_106, gK0_eq, gK1_eq, gK3_eq, w32_id, bI_eq0, bI_eq1, Bool.false_eq_true, not_true_eq_false, not_false_eq_true, ne_eq, ite_not, ↓reduceIte, if_true, if_false, Int.reduceToNat, Nat.reduceAdd, Int.reduceEq, Int.reduceLT, Int.reduceLE, Int.reduceNeg, bI_T, bI_F, ↓if_pos, ↓if_neg, mAd_4, mAd_5, gS_mAd6, c6]
        · simp (disch := first | assumption | omega) only [e87_0, e87_1, e87_2, e87_5, e87_7, e87_9, e87_12, e87_13, e87_16, e87_19, e87_20, e87_23, e87_24, e87_27, e87_30, e87_33, e87_36, e87_37, e87_40, e87_41, e87_42, e87_45, e87_46, e87_49, e87_50, e87_53, e87_56, e87_58, e87_59, e87_60, e87_61, e87_62, e87_63, e87_64, e87_67, e87_70, e87_71, e87_72, e87_75, e87_76, e87_77, e87_80, e87_84, e87_85, e87_88, e87_89, e87_92, e87_93, e87_95, e87_98, e87_99, e87_102, e87_103, e87_106, gK0_eq, gK1_eq, gK3_eq, w32_id, bI_eq0, bI_eq1, Bool.false_eq_true, not_true_eq_false, not_false_eq_true, ne_eq, ite_not, ↓reduceIte, if_true, if_false, Int.reduceToNat, Nat.reduceAdd, Int.reduceEq, Int.reduceLT, Int.reduceLE, Int.reduceNeg, bI_T, bI_F, ↓if_pos, ↓if_neg, mAd_4, mAd_5, gS_mAd6, c6]
      simp (disch := first | assumption | omega) only [e86_0, e86_1, e86_4, e86_5, e86_8, e86_11, e86_12, e86_15, e86_16, e86_19, e86_22, e86_24, e86_27, e86_28, e86_31, e86_32, e86_35, e86_38, e86_40, e86_43, e86_44, e86_45, e86_48, e86_49, e86_50, e86_53, e86_57, e86_58, e86_61, e86_64, e86_65, e86_68, e86_69, e86_72, e86_75, e86_76, e86_77, e86_80, e86_83, e86_84, e86_87, e86_88, e86_91, e86_94, e86_97, e86_100, e86_101, e86_104, e86_107, e86_108, e86_111, e86_112, e86_115, e86_118, e86_121, e86_124, e86_125, e86_128, e86_131, e86_132, e86_133, e86_136, e86_137, e86_140, e86_143, e86_145, e86_148, e86_149, e86_152, e86_153, e86_156, e86_157, e86_158, e86_161, e86_162, e86_163, e86_166, gK0_eq, gK1_eq, gK3_eq, w32_id, bI_eq0, bI_eq1, Bool.false_eq_true, not_true_eq_false, not_false_eq_true, ne_eq, ite_not, ↓reduceIte, if_true, if_false, Int.reduceToNat, Nat.reduceAdd, Int.reduceEq, Int.reduceLT, Int.reduceLE, Int.reduceNeg, bI_T, bI_F, ↓if_pos, ↓if_neg, mAd_4, mAd_ne, gS_mAd5, c1, s_at, atv_in, s_isLetter, hc, and_self, tw]
    | false =>
      have hc : ¬ (97 ≤ μ 2 a' ∧ μ 2 a' ≤ 122) := by rw [isS_iff (stop := μ 1 3) (by omega), cS']; exact Bool.noConfusion
      cases cN' : isN (μ 2) (μ 1 3) a' with
      | true =>
        have hc2 : 48 ≤ μ 2 a' ∧ μ 2 a' ≤ 57 := by rw [isN_iff (stop := μ 1 3) (by omega)]; exact cN'
        have eD : nRun (isN (μ 2) (μ 1 3)) (μ 1 3 - a').toNat a' = kD (μ 2) (μ 1 3) a' := rfl
        have tn : ∀ s v, ∀ Q' : Int → gM → Prop, gE 88 0 [gO 4 1] [] (mAd μ s v a' a') Q' = Q' 0 (mAd μ 2 (cNum (μ 2) (kD (μ 2) (μ 1 3) a' - a').toNat a' 0) a' (kD (μ 2) (μ 1 3) a')) := fun s v Q' => by
          simp (disch := first | assumption | omega) only [e88_0, e88_1, e88_2, e88_6, e88_9, e88_10, e88_13, e88_16, e88_17, e88_20, e88_21, e88_24, e88_27, e88_30, e88_33, e88_34, e88_35, e88_38, e88_40, e88_41, e88_42, e88_45, e88_46, e88_49, e88_52, e88_53, e88_55, e88_56, e88_58, e88_61, e88_64, e88_65, e88_66, e88_69, e88_70, e88_71, e88_74, e88_77, e88_78, e88_79, e88_82, gK0_eq, gK1_eq, gK3_eq, w32_id, bI_eq0, bI_eq1, Bool.false_eq_true, not_true_eq_false, not_false_eq_true, ne_eq, ite_not, ↓reduceIte, if_true, if_false, Int.reduceToNat, Nat.reduceAdd, Int.reduceEq, Int.reduceLT, Int.reduceLE, Int.reduceNeg, bI_T, bI_F, ↓if_pos, ↓if_neg, gS_mAd7]
          rw [s_num_loop hs (μ 1 3 - a').toNat a' 0 (by omega) (by omega) (by omega), eD]
        simp (disch := first | assumption | omega) only [e86_0, e86_1, e86_4, e86_5, e86_8, e86_11, e86_12, e86_15, e86_16, e86_19, e86_22, e86_24, e86_27, e86_28, e86_31, e86_32, e86_35, e86_38, e86_40, e86_43, e86_44, e86_45, e86_48, e86_49, e86_50, e86_53, e86_57, e86_58, e86_61, e86_64, e86_65, e86_68, e86_69, e86_72, e86_75, e86_76, e86_77, e86_80, e86_83, e86_84, e86_87, e86_88, e86_91, e86_94, e86_97, e86_100, e86_101, e86_104, e86_107, e86_108, e86_111, e86_112, e86_115, e86_118, e86_121, e86_124, e86_125, e86_128, e86_131, e86_132, e86_133, e86_136, e86_137, e86_140, e86_143, e86_145, e86_148, e86_149, e86_152, e86_153, e86_156, e86_157, e86_158, e86_161, e86_162, e86_163, e86_166, gK0_eq, gK1_eq, gK3_eq, w32_id, bI_eq0, bI_eq1, Bool.false_eq_true, not_true_eq_false, not_false_eq_true, ne_eq, ite_not, ↓reduceIte, if_true, if_false, Int.reduceToNat, Nat.reduceAdd, Int.reduceEq, Int.reduceLT, Int.reduceLE, Int.reduceNeg, bI_T, bI_F, ↓if_pos, ↓if_neg, mAd_4, mAd_ne, gS_mAd5, c1, s_at, atv_in, s_isLetter, hc, s_isDigitC, hc2, and_self, tn]
      | false =>
        have hc2 : ¬ (48 ≤ μ 2 a' ∧ μ 2 a' ≤ 57) := by rw [isN_iff (stop := μ 1 3) (by omega), cN']; exact Bool.noConfusion
        by_cases c : μ 2 a' = 59
        · simp (disch := first | assumption | omega) only [e86_0, e86_1, e86_4, e86_5, e86_8, e86_11, e86_12, e86_15, e86_16, e86_19, e86_22, e86_24, e86_27, e86_28, e86_31, e86_32, e86_35, e86_38, e86_40, e86_43, e86_44, e86_45, e86_48, e86_49, e86_50, e86_53, e86_57, e86_58, e86_61, e86_64, e86_65, e86_68, e86_69, e86_72, e86_75, e86_76, e86_77, e86_80, e86_83, e86_84, e86_87, e86_88, e86_91, e86_94, e86_97, e86_100, e86_101, e86_104, e86_107, e86_108, e86_111, e86_112, e86_115, e86_118, e86_121, e86_124, e86_125, e86_128, e86_131, e86_132, e86_133, e86_136, e86_137, e86_140, e86_143, e86_145, e86_148, e86_149, e86_152, e86_153, e86_156, e86_157, e86_158, e86_161, e86_162, e86_163, e86_166, gK0_eq, gK1_eq, gK3_eq, w32_id, bI_eq0, bI_eq1, Bool.false_eq_true, not_true_eq_false, not_false_eq_true, ne_eq, ite_not, ↓reduceIte, if_true, if_false, Int.reduceToNat, Nat.reduceAdd, Int.reduceEq, Int.reduceLT, Int.reduceLE, Int.reduceNeg, bI_T, bI_F, ↓if_pos, ↓if_neg, mAd_4, mAd_ne, gS_mAd5, gS_mAd6, gS_mAd4, c1, s_at, atv_in, s_isLetter, hc, s_isDigitC, hc2, c, false_and, true_and, and_false, and_true]
        · simp (disch := first | assumption | omega) only [e86_0, e86_1, e86_4, e86_5, e86_8, e86_11, e86_12, e86_15, e86_16, e86_19, e86_22, e86_24, e86_27, e86_28, e86_31, e86_32, e86_35, e86_38, e86_40, e86_43, e86_44, e86_45, e86_48, e86_49, e86_50, e86_53, e86_57, e86_58, e86_61, e86_64, e86_65, e86_68, e86_69, e86_72, e86_75, e86_76, e86_77, e86_80, e86_83, e86_84, e86_87, e86_88, e86_91, e86_94, e86_97, e86_100, e86_101, e86_104, e86_107, e86_108, e86_111, e86_112, e86_115, e86_118, e86_121, e86_124, e86_125, e86_128, e86_131, e86_132, e86_133, e86_136, e86_137, e86_140, e86_143, e86_145, e86_148, e86_149, e86_152, e86_153, e86_156, e86_157, e86_158, e86_161, e86_162, e86_163, e86_166, gK0_eq, gK1_eq, gK3_eq, w32_id, bI_eq0, bI_eq1, Bool.false_eq_true, not_true_eq_false, not_false_eq_true, ne_eq, ite_not, ↓reduceIte, if_true, if_false, Int.reduceToNat, Nat.reduceAdd, Int.reduceEq, Int.reduceLT, Int.reduceLE, Int.reduceNeg, bI_T, bI_F, ↓if_pos, ↓if_neg, mAd_4, mAd_ne, gS_mAd5, gS_mAd6, gS_mAd4, c1, s_at, atv_in, s_isLetter, hc, s_isDigitC, hc2, c, false_and, true_and, and_false, and_true]
end TEXT4
