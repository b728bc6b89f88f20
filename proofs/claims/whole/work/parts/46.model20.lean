/-! the check: parting, group, device, count -/
def tDvA (X : gM) (T : Int → Int) (e w : Int) : Int :=
  if 0 ≤ e ∧ e < X 167 12 then (if w = 0 then X 179 e else if w = 1 then cntF (fun m => decide (X 179 m = X 179 e)) 0 (X 167 12).toNat else if w = 2 then (if T (1673 + X 179 e) < 0 then -2 else T (1673 + X 179 e)) else if w = 3 then xSign X e else if w = 4 then X 175 e else if w = 5 then tWai T e 0 else if w = 6 then tBts T e else if w = 7 then xBin (xAbo X e) else 0) else 0
def tDvK (X : gM) (e w : Int) : Int := if 0 ≤ e ∧ e < X 167 12 then (if 0 ≤ w ∧ w ≤ 7 then 0 else 2) else 1
def tCoA (X : gM) (T : Int → Int) (w : Int) : Int :=
  if w = 0 then X 167 12 else if w = 1 then X 167 11 else if w = 2 then xGrN X else if w = 3 then T 1672 else if w = 4 then T 1681 else if w = 5 then T 1811 else if w = 6 then T 1812 else if w = 7 then T 1813 else if w = 8 then T 1878 else if w = 9 then T 1879 else if w = 10 then T 1880 else if w = 11 then T 1881 else if w = 12 then T 1915 else if w = 13 then T 1916 else if w = 14 then T 1917 else if w = 15 then tBts T (-1) else if w = 16 then tFrB T 0 else if w = 17 then tFrB T 1 else if w = 18 then tFrB T 2 else if w = 19 then tTbA T else if w = 20 then T 1927 else -1
def xPtA (X : gM) (one other : Int) : Int := if 0 ≤ one ∧ one < X 167 12 ∧ 0 ≤ other ∧ other < X 167 12 ∧ one ≠ other then (if xPas X one other < 0 then -2 else xBin (xPas X one other)) else -1
def xPsA (X : gM) (one other : Int) : Int := if 0 ≤ one ∧ one < X 167 12 ∧ 0 ≤ other ∧ other < X 167 12 ∧ one ≠ other then xPas X one other else -1
section MODEL20
variable {μ : gM} {b : Int} {T : Int → Int} {Q : Int → gM → Prop}
theorem mH_id : mH μ (fun d => μ 180 d) = μ := by
  unfold mH
  exact mrow_id (fun d => by split <;> rfl)
theorem xLay_congr {X X' : gM} (h : ∀ (k : Nat) (i : Int), (170 ≤ k ∧ k < 180) ∨ (k = 167 ∧ 11 ≤ i ∧ i ≤ 14) → X' k i = X k i) : xLay X' = xLay X := by
  have r1 : X' 172 = X 172 := funext (fun i => h _ _ (by omega))
  have r2 : X' 176 = X 176 := funext (fun i => h _ _ (by omega))
  have r3 : X' 174 = X 174 := funext (fun i => h _ _ (by omega))
  have r4 : xAb X' = xAb X := funext (fun n => funext (fun b => funext (fun s => xAb_congr (fun i => h _ _ (by omega)) n b s)))
  have r5 : xAbo X' = xAbo X := by funext d; unfold xAbo; rw [r3, r4]
  have r6 : X' 167 11 = X 167 11 := h _ _ (by omega)
  have r7 : X' 167 12 = X 167 12 := h _ _ (by omega)
  have r8 : X' 167 13 = X 167 13 := h _ _ (by omega)
  funext ps
  unfold xLay xLy3 xLy2 xLy1 xLt
  rw [r1, r2, r5, r6, r7, r8]
theorem xPas_congr {X X' : gM} (h : ∀ (k : Nat) (i : Int), (170 ≤ k ∧ k < 180) ∨ (k = 167 ∧ 11 ≤ i ∧ i ≤ 14) → X' k i = X k i) : xPas X' = xPas X := by
  have r1 := xLay_congr h
  have r6 : X' 167 11 = X 167 11 := h _ _ (by omega)
  funext one other
  unfold xPas xPb
  rw [r1, r6]
theorem xLay_mH {f : Int → Int} {ps : Int} : xLay (mH μ f) ps = xLay μ ps := by
  rw [xLay_congr (X := μ) (fun k i hk => mH_ne (by omega))]
theorem shl_pow : ∀ n : Fin 7, ishl32 1 (n.val : Int) = ((2 ^ n.val : Nat) : Int) := by decide
theorem s_partsOf_loop {one other : Int} (hI : gIX μ) (h1 : 0 ≤ one ∧ one < 8) (h2 : 0 ≤ other ∧ other < 8) : ∀ (m : Nat) (k best : Int) (f : Int → Int), 0 ≤ k → k + m = ishl32 1 (μ 167 11) → k + m ≤ 64 → best < k →
    ∃ g : Int → Int, gE 245 6 [gO 10 167, gI one, gI other, gI best, gI k] [] (mH μ f) Q = Q (xPb μ one other k m best) (mH μ g) := by
  have hb6 := hI.1
  intro m
  induction m with
  | zero =>
    intro k best f h0 hk hk2 hbk
    have h : ishl32 1 (μ 167 11) ≤ k := by omega
    refine ⟨f, ?_⟩
    rw [e245_6]
    unfold xPb
    rw [itF]
    simp (disch := first | assumption | omega) only [e245_0, e245_2, e245_3, e245_4, e245_8, e245_9, e245_10, e245_13, e245_14, e245_17, e245_18, e245_20, e245_23, e245_24, e245_27, e245_28, e245_29, e245_30, e245_33, e245_34, e245_35, e245_38, e245_41, e245_42, e245_45, e245_47, e245_50, e245_51, e245_54, e245_57, e245_59, e245_60, e245_63, e245_66, e245_67, gK0_eq, gK1_eq, gK3_eq, w32_id, bI_eq0, bI_eq1, Bool.false_eq_true, not_true_eq_false, not_false_eq_true, ne_eq, ite_not, ↓reduceIte, if_true, if_false, Int.reduceToNat, Nat.reduceAdd, Int.reduceEq, Int.reduceLT, Int.reduceLE, Int.reduceNeg, bI_T, bI_F, ↓if_pos, ↓if_neg, mH_ne, h]
  | succ m ih =>
    intro k best f h0 hk hk2 hbk
    have h : ¬ ishl32 1 (μ 167 11) ≤ k := by omega
    have hI' := gIX_mH (f := f) hI
    have a0 := h1.1
    have a1 := h1.2
    have b0 := h2.1
    have b1 := h2.2
    have un : xPb μ one other k (m + 1) best = xPb μ one other (k + 1) m (if xLay μ k one = xLay μ k other then best else if best < 0 ∨ xBin k < xBin best then k else best) := rfl
    rw [un, e245_6]
    by_cases c : xLay μ k one = xLay μ k other
    · rw [if_pos c]
      obtain ⟨g, hg⟩ := ih (k + 1) best (xLay μ k) (by omega) (by omega) (by omega) (by omega)
      refine ⟨g, ?_⟩
      rw [← hg]
      simp (disch := first | assumption | omega) only [e245_0, e245_2, e245_3, e245_4, e245_8, e245_9, e245_10, e245_13, e245_14, e245_17, e245_18, e245_20, e245_23, e245_24, e245_27, e245_28, e245_29, e245_30, e245_33, e245_34, e245_35, e245_38, e245_41, e245_42, e245_45, e245_47, e245_50, e245_51, e245_54, e245_57, e245_59, e245_60, e245_63, e245_66, e245_67, gK0_eq, gK1_eq, gK3_eq, w32_id, bI_eq0, bI_eq1, Bool.false_eq_true, not_true_eq_false, not_false_eq_true, ne_eq, ite_not, ↓reduceIte, if_true, if_false, Int.reduceToNat, Nat.reduceAdd, Int.reduceEq, Int.reduceLT, Int.reduceLE, Int.reduceNeg, bI_T, bI_F, ↓if_pos, ↓if_neg, mH_ne, h, s_layGroups, hI', mH_mH, xLay_mH, mH_at, c]
    · rw [if_neg c]
      by_cases c2 : best < 0
      · rw [if_pos (Or.inl c2)]
        obtain ⟨g, hg⟩ := ih (k + 1) k (xLay μ k) (by omega) (by omega) (by omega) (by omega)
        refine ⟨g, ?_⟩
        rw [← hg]
        simp (disch := first | assumption | omega) only [e245_0, e245_2, e245_3, e245_4, e245_8, e245_9, e245_10, e245_13, e245_14, e245_17, e245_18, e245_20, e245_23, e245_24, e245_27, e245_28, e245_29, e245_30, e245_33, e245_34, e245_35, e245_38, e245_41, e245_42, e245_45, e245_47, e245_50, e245_51, e245_54, e245_57, e245_59, e245_60, e245_63, e245_66, e245_67, gK0_eq, gK1_eq, gK3_eq, w32_id, bI_eq0, bI_eq1, Bool.false_eq_true, not_true_eq_false, not_false_eq_true, ne_eq, ite_not, ↓reduceIte, if_true, if_false, Int.reduceToNat, Nat.reduceAdd, Int.reduceEq, Int.reduceLT, Int.reduceLE, Int.reduceNeg, bI_T, bI_F, ↓if_pos, ↓if_neg, mH_ne, h, s_layGroups, hI', mH_mH, xLay_mH, mH_at, c]
      · by_cases c3 : xBin k < xBin best
        · rw [if_pos (Or.inr c3)]
          obtain ⟨g, hg⟩ := ih (k + 1) k (xLay μ k) (by omega) (by omega) (by omega) (by omega)
          refine ⟨g, ?_⟩
          rw [← hg]
          simp (disch := first | assumption | omega) only [e245_0, e245_2, e245_3, e245_4, e245_8, e245_9, e245_10, e245_13, e245_14, e245_17, e245_18, e245_20, e245_23, e245_24, e245_27, e245_28, e245_29, e245_30, e245_33, e245_34, e245_35, e245_38, e245_41, e245_42, e245_45, e245_47, e245_50, e245_51, e245_54, e245_57, e245_59, e245_60, e245_63, e245_66, e245_67, gK0_eq, gK1_eq, gK3_eq, w32_id, bI_eq0, bI_eq1, Bool.false_eq_true, not_true_eq_false, not_false_eq_true, ne_eq, ite_not, ↓reduceIte, if_true, if_false, Int.reduceToNat, Nat.reduceAdd, Int.reduceEq, Int.reduceLT, Int.reduceLE, Int.reduceNeg, bI_T, bI_F, ↓if_pos, ↓if_neg, mH_ne, h, s_layGroups, hI', mH_mH, xLay_mH, mH_at, c, c2, s_bitsIn, c3]
        · rw [if_neg (by rintro (q | q); exact c2 q; exact c3 q)]
          obtain ⟨g, hg⟩ := ih (k + 1) best (xLay μ k) (by omega) (by omega) (by omega) (by omega)
          refine ⟨g, ?_⟩
          rw [← hg]
          simp (disch := first | assumption | omega) only [e245_0, e245_2, e245_3, e245_4, e245_8, e245_9, e245_10, e245_13, e245_14, e245_17, e245_18, e245_20, e245_23, e245_24, e245_27, e245_28, e245_29, e245_30, e245_33, e245_34, e245_35, e245_38, e245_41, e245_42, e245_45, e245_47, e245_50, e245_51, e245_54, e245_57, e245_59, e245_60, e245_63, e245_66, e245_67, gK0_eq, gK1_eq, gK3_eq, w32_id, bI_eq0, bI_eq1, Bool.false_eq_true, not_true_eq_false, not_false_eq_true, ne_eq, ite_not, ↓reduceIte, if_true, if_false, Int.reduceToNat, Nat.reduceAdd, Int.reduceEq, Int.reduceLT, Int.reduceLE, Int.reduceNeg, bI_T, bI_F, ↓if_pos, ↓if_neg, mH_ne, h, s_layGroups, hI', mH_mH, xLay_mH, mH_at, c, c2, s_bitsIn, c3]
theorem s_partsOf {one other : Int} (hI : gIX μ) (h1 : 0 ≤ one ∧ one < 8) (h2 : 0 ≤ other ∧ other < 8) :
    ∃ g : Int → Int, gE 245 0 [gO 10 167, gI one, gI other, gX, gX] [] μ Q = Q (xPas μ one other) (mH μ g) := by
  have hb6 := hI.1
  have hs := shl_pow ⟨(μ 167 11).toNat, by omega⟩
  dsimp only at hs
  have e : (((μ 167 11).toNat : Nat) : Int) = μ 167 11 := by omega
  rw [e] at hs
  have hp : 2 ^ (μ 167 11).toNat ≤ 2 ^ 6 := Nat.pow_le_pow_right (by omega) (by omega)
  obtain ⟨g, hg⟩ := s_partsOf_loop (Q := Q) hI h1 h2 (2 ^ (μ 167 11).toNat) 0 (-2) (fun d => μ 180 d) (by omega) (by omega) (by omega) (by omega)
  rw [mH_id] at hg
  refine ⟨g, ?_⟩
  simp (disch := first | assumption | omega) only [e245_0, e245_2, e245_3, e245_4, e245_8, e245_9, e245_10, e245_13, e245_14, e245_17, e245_18, e245_20, e245_23, e245_24, e245_27, e245_28, e245_29, e245_30, e245_33, e245_34, e245_35, e245_38, e245_41, e245_42, e245_45, e245_47, e245_50, e245_51, e245_54, e245_57, e245_59, e245_60, e245_63, e245_66, e245_67, gK0_eq, gK1_eq, gK3_eq, w32_id, bI_eq0, bI_eq1, Bool.false_eq_true, not_true_eq_false, not_false_eq_true, ne_eq, ite_not, ↓reduceIte, if_true, if_false, Int.reduceToNat, Nat.reduceAdd, Int.reduceEq, Int.reduceLT, Int.reduceLE, Int.reduceNeg, bI_T, bI_F]
  rw [hg]
  rfl
theorem s_parting {one other : Int} (hI : gIX μ) : ∃ g : Int → Int, gE 246 0 [gO 10 167, gI one, gI other, gX] [] (mK μ b T) Q = Q (xPtA μ one other) (mH (mK (gS μ 167 2 0) b T) g) := by
  have hd8 := hI.2.1
  have hI' : gIX (mK (gS μ 167 2 0) b T) := gIX_congr (fun k i hk => mK_ne (by omega)) (gIX_thr (v := 0) hI)
  have e1 : gS μ 167 2 0 167 12 = μ 167 12 := gS_neI (by omega)
  have e2 : ∀ x y, xPas (mK (gS μ 167 2 0) b T) x y = xPas μ x y := fun x y => by
    rw [xPas_congr (X := μ) (fun k i hk => by rw [mK_ne (by omega)]; exact if_neg (by omega))]
  have fb : Q (-1) (mK (gS μ 167 2 0) b T) = Q (-1) (mH (mK (gS μ 167 2 0) b T) (fun d => mK (gS μ 167 2 0) b T 180 d)) := by rw [mH_id]
  unfold xPtA
  by_cases h1 : 0 ≤ one ∧ one < μ 167 12
  · by_cases h2 : 0 ≤ other ∧ other < μ 167 12
    · by_cases h3 : one = other
      · rw [if_neg (fun q => q.2.2.2.2 h3)]
        refine ⟨_, Eq.trans ?_ fb⟩
        simp (disch := first | assumption | omega) only [e246_0, e246_1, e246_2, e246_5, e246_6, e246_7, e246_10, e246_13, e246_14, e246_15, e246_18, e246_21, e246_22, e246_23, e246_26, e246_27, e246_28, e246_29, e246_30, e246_31, e246_34, e246_35, e246_36, e246_39, e246_41, e246_44, e246_45, e246_48, gK0_eq, gK1_eq, gK3_eq, w32_id, bI_eq0, bI_eq1, Bool.false_eq_true, not_true_eq_false, not_false_eq_true, ne_eq, ite_not, ↓reduceIte, if_true, if_false, Int.reduceToNat, Nat.reduceAdd, Int.reduceEq, Int.reduceLT, Int.reduceLE, Int.reduceNeg, bI_T, bI_F, ↓if_pos, ↓if_neg, gS_mK, s_isDevice, e1, h1, h2, and_self, h3]
      · obtain ⟨g, hg⟩ := s_partsOf (Q := gK1 246 34 [gO 10 167, gI one, gI other, gX] [] Q) (one := one) (other := other) hI' (by omega) (by omega)
        rw [e2] at hg
        rw [if_pos ⟨h1.1, h1.2, h2.1, h2.2, h3⟩]
        refine ⟨g, ?_⟩
        by_cases c : xPas μ one other < 0
        · simp (disch := first | assumption | omega) only [e246_0, e246_1, e246_2, e246_5, e246_6, e246_7, e246_10, e246_13, e246_14, e246_15, e246_18, e246_21, e246_22, e246_23, e246_26, e246_27, e246_28, e246_29, e246_30, e246_31, e246_34, e246_35, e246_36, e246_39, e246_41, e246_44, e246_45, e246_48, gK0_eq, gK1_eq, gK3_eq, w32_id, bI_eq0, bI_eq1, Bool.false_eq_true, not_true_eq_false, not_false_eq_true, ne_eq, ite_not, ↓reduceIte, if_true, if_false, Int.reduceToNat, Nat.reduceAdd, Int.reduceEq, Int.reduceLT, Int.reduceLE, Int.reduceNeg, bI_T, bI_F, ↓if_pos, ↓if_neg, gS_mK, s_isDevice, e1, h1, h2, and_self, h3, hg, c]
        · simp (disch := first | assumption | omega) only [e246_0, e246_1, e246_2, e246_5, e246_6, e246_7, e246_10, e246_13, e246_14, e246_15, e246_18, e246_21, e246_22, e246_23, e246_26, e246_27, e246_28, e246_29, e246_30, e246_31, e246_34, e246_35, e246_36, e246_39, e246_41, e246_44, e246_45, e246_48, gK0_eq, gK1_eq, gK3_eq, w32_id, bI_eq0, bI_eq1, Bool.false_eq_true, not_true_eq_false, not_false_eq_true, ne_eq, ite_not, ↓reduceIte, if_true, if_false, Int.reduceToNat, Nat.reduceAdd, Int.reduceEq, Int.reduceLT, Int.reduceLE, Int.reduceNeg, bI_T, bI_F, ↓if_pos, ↓if_neg, gS_mK, s_isDevice, e1, h1, h2, and_self, h3, hg, c, s_bitsIn]
    · rw [if_neg (fun q => h2 ⟨q.2.2.1, q.2.2.2.1⟩)]
      refine ⟨_, Eq.trans ?_ fb⟩
      simp (disch := first | assumption | omega) only [e246_0, e246_1, e246_2, e246_5, e246_6, e246_7, e246_10, e246_13, e246_14, e246_15, e246_18, e246_21, e246_22, e246_23, e246_26, e246_27, e246_28, e246_29, e246_30, e246_31, e246_34, e246_35, e246_36, e246_39, e246_41, e246_44, e246_45, e246_48, gK0_eq, gK1_eq, gK3_eq, w32_id, bI_eq0, bI_eq1, Bool.false_eq_true, not_true_eq_false, not_false_eq_true, ne_eq, ite_not, ↓reduceIte, if_true, if_false, Int.reduceToNat, Nat.reduceAdd, Int.reduceEq, Int.reduceLT, Int.reduceLE, Int.reduceNeg, bI_T, bI_F, ↓if_pos, ↓if_neg, gS_mK, s_isDevice, e1, h1, h2, and_self]
  · rw [if_neg (fun q => h1 ⟨q.1, q.2.1⟩)]
    refine ⟨_, Eq.trans ?_ fb⟩
    simp (disch := first | assumption | omega) only [e246_0, e246_1, e246_2, e246_5, e246_6, e246_7, e246_10, e246_13, e246_14, e246_15, e246_18, e246_21, e246_22, e246_23, e246_26, e246_27, e246_28, e246_29, e246_30, e246_31, e246_34, e246_35, e246_36, e246_39, e246_41, e246_44, e246_45, e246_48, gK0_eq, gK1_eq, gK3_eq, w32_id, bI_eq0, bI_eq1, Bool.false_eq_true, not_true_eq_false, not_false_eq_true, ne_eq, ite_not, ↓reduceIte, if_true, if_false, Int.reduceToNat, Nat.reduceAdd, Int.reduceEq, Int.reduceLT, Int.reduceLE, Int.reduceNeg, bI_T, bI_F, ↓if_pos, ↓if_neg, gS_mK, s_isDevice, e1, h1]
theorem s_partingSet {one other : Int} (hI : gIX μ) : ∃ g : Int → Int, gE 247 0 [gO 10 167, gI one, gI other] [] (mK μ b T) Q = Q (xPsA μ one other) (mH (mK (gS μ 167 2 0) b T) g) := by
  have hd8 := hI.2.1
  have hI' : gIX (mK (gS μ 167 2 0) b T) := gIX_congr (fun k i hk => mK_ne (by omega)) (gIX_thr (v := 0) hI)
  have e1 : gS μ 167 2 0 167 12 = μ 167 12 := gS_neI (by omega)
  have e2 : ∀ x y, xPas (mK (gS μ 167 2 0) b T) x y = xPas μ x y := fun x y => by
    rw [xPas_congr (X := μ) (fun k i hk => by rw [mK_ne (by omega)]; exact if_neg (by omega))]
  have fb : Q (-1) (mK (gS μ 167 2 0) b T) = Q (-1) (mH (mK (gS μ 167 2 0) b T) (fun d => mK (gS μ 167 2 0) b T 180 d)) := by rw [mH_id]
  unfold xPsA
  by_cases h1 : 0 ≤ one ∧ one < μ 167 12
  · by_cases h2 : 0 ≤ other ∧ other < μ 167 12
    · by_cases h3 : one = other
      · rw [if_neg (fun q => q.2.2.2.2 h3)]
        refine ⟨_, Eq.trans ?_ fb⟩
        simp (disch := first | assumption | omega) only [e247_0, e247_1, e247_2, e247_5, e247_6, e247_7, e247_10, e247_13, e247_14, e247_15, e247_18, e247_21, e247_22, e247_23, e247_26, e247_27, e247_28, e247_29, e247_32, e247_35, e247_36, gK0_eq, gK1_eq, gK3_eq, w32_id, bI_eq0, bI_eq1, Bool.false_eq_true, not_true_eq_false, not_false_eq_true, ne_eq, ite_not, ↓reduceIte, if_true, if_false, Int.reduceToNat, Nat.reduceAdd, Int.reduceEq, Int.reduceLT, Int.reduceLE, Int.reduceNeg, bI_T, bI_F, ↓if_pos, ↓if_neg, gS_mK, s_isDevice, e1, h1, h2, and_self, h3]
      · obtain ⟨g, hg⟩ := s_partsOf (Q := gK1 247 32 [gO 10 167, gI one, gI other] [] Q) (one := one) (other := other) hI' (by omega) (by omega)
        rw [e2] at hg
        rw [if_pos ⟨h1.1, h1.2, h2.1, h2.2, h3⟩]
        refine ⟨g, ?_⟩
        simp (disch := first | assumption | omega) only [e247_0, e247_1, e247_2, e247_5, e247_6, e247_7, e247_10, e247_13, e247_14, e247_15, e247_18, e247_21, e247_22, e247_23, e247_26, e247_27, e247_28, e247_29, e247_32, e247_35, e247_36, gK0_eq, gK1_eq, gK3_eq, w32_id, bI_eq0, bI_eq1, Bool.false_eq_true, not_true_eq_false, not_false_eq_true, ne_eq, ite_not, ↓reduceIte, if_true, if_false, Int.reduceToNat, Nat.reduceAdd, Int.reduceEq, Int.reduceLT, Int.reduceLE, Int.reduceNeg, bI_T, bI_F, ↓if_pos, ↓if_neg, gS_mK, s_isDevice, e1, h1, h2, and_self, h3, hg]
    · rw [if_neg (fun q => h2 ⟨q.2.2.1, q.2.2.2.1⟩)]
      refine ⟨_, Eq.trans ?_ fb⟩
      simp (disch := first | assumption | omega) only [e247_0, e247_1, e247_2, e247_5, e247_6, e247_7, e247_10, e247_13, e247_14, e247_15, e247_18, e247_21, e247_22, e247_23, e247_26, e247_27, e247_28, e247_29, e247_32, e247_35, e247_36, gK0_eq, gK1_eq, gK3_eq, w32_id, bI_eq0, bI_eq1, Bool.false_eq_true, not_true_eq_false, not_false_eq_true, ne_eq, ite_not, ↓reduceIte, if_true, if_false, Int.reduceToNat, Nat.reduceAdd, Int.reduceEq, Int.reduceLT, Int.reduceLE, Int.reduceNeg, bI_T, bI_F, ↓if_pos, ↓if_neg, gS_mK, s_isDevice, e1, h1, h2, and_self]
  · rw [if_neg (fun q => h1 ⟨q.1, q.2.1⟩)]
    refine ⟨_, Eq.trans ?_ fb⟩
    simp (disch := first | assumption | omega) only [e247_0, e247_1, e247_2, e247_5, e247_6, e247_7, e247_10, e247_13, e247_14, e247_15, e247_18, e247_21, e247_22, e247_23, e247_26, e247_27, e247_28, e247_29, e247_32, e247_35, e247_36, gK0_eq, gK1_eq, gK3_eq, w32_id, bI_eq0, bI_eq1, Bool.false_eq_true, not_true_eq_false, not_false_eq_true, ne_eq, ite_not, ↓reduceIte, if_true, if_false, Int.reduceToNat, Nat.reduceAdd, Int.reduceEq, Int.reduceLT, Int.reduceLE, Int.reduceNeg, bI_T, bI_F, ↓if_pos, ↓if_neg, gS_mK, s_isDevice, e1, h1]
end MODEL20
