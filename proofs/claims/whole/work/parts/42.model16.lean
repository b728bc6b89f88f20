/-! the check: banks, keep, back, freeing, tried -/
/-- like in all but what a trial leaves behind -/
def gAl (μ μ' : gM) : Prop := ∀ (k : Nat) (i : Int), (k ≠ 167 ∨ (i ≠ 36 ∧ i ≠ 37 ∧ i ≠ 38)) → μ' k i = μ k i
def tFre (f : Int) : Nat → Int → (Int → Int) → Int × (Int → Int)
  | 0, n, T => (n, T)
  | m + 1, n, T => if tState T f = 2 ∧ T 1681 ≠ 0 then tFre f m (n + 1) (tWrk T) else (n, T)
def tFreA (T : Int → Int) (f : Int) : Int := if 0 ≤ f ∧ f < 64 then (if tState (tFre f (T 1681).toNat 0 T).2 f = 0 then (tFre f (T 1681).toNat 0 T).1 else -2) else -1
def tTqF (T : Int → Int) : Int → Int := itF (fun d T => if 0 < T (1668 + d) then tFlu T d else T) 0 (T 1672).toNat T
def tSvL (room : Int) (gr : Int → Int) : Nat → Int → (Int → Int) → Int × (Int → Int)
  | 0, n, T => (n, T)
  | m + 1, n, T => if tFirB T = 0 then (n, T) else tSvL room gr m (n + tSvA room gr true T) (tSvT room gr true T)
def tTiA (T : Int → Int) : Int → Int := itF (fun d T => (tTid d 16 0 0 T).2) 0 (T 1672).toNat T
def tTrA (room : Int) (gr : Int → Int) (T : Int → Int) (w : Int) : Int :=
  if w = 0 then tFrB (tWks (tTqF T 1681).toNat (tTqF T)) 0 else if w = 1 then tWks (T 1681).toNat T 1813 else if w = 2 then (tSvL room gr (T 1881).toNat 0 T).1 else if w = 3 then tTbA (tTiA T) else -1
section MODEL16
variable {μ : gM} {b : Int} {T : Int → Int} {Q : Int → gM → Prop}
theorem gAl_refl : gAl μ μ := fun _ _ _ => rfl
theorem gAl_mW {w a : Int} : gAl μ (mW μ w a) := fun k i h => mW_ne (by omega)
theorem gAl_trans {μ' μ'' : gM} (h : gAl μ μ') (h' : gAl μ' μ'') : gAl μ μ'' := fun k i q => by rw [h' k i q, h k i q]
theorem gBk_al {μ' : gM} (h : gAl μ μ') (hb : gBk μ b) : gBk μ' b := ⟨by rw [h _ _ (by omega)]; exact hb.1, hb.2⟩
theorem gIX_al {μ' : gM} (h : gAl μ μ') (hI : gIX μ) : gIX μ' := gIX_congr (fun k i hk => h k i (by omega)) hI
theorem s_copyBank_loop {f t : Int} (hf : 0 ≤ f ∧ f ≤ 2) (ht : 0 ≤ t ∧ t ≤ 2) (hft : f ≠ t) : ∀ (m : Nat) (k : Int) (μ : gM), 0 ≤ k → k + m = 1960 →
    gE 251 2 [gO 10 167, gI f, gI t, gI k] [] μ Q = Q 0 (mrow μ 181 (fun j => if 1960 * t + k ≤ j ∧ j < 1960 * t + 1960 then μ 181 (j - 1960 * t + 1960 * f) else μ 181 j)) := by
  intro m
  induction m with
  | zero =>
    intro k μ h0 h1
    have h : 1960 ≤ k := by omega
    rw [mrow_id (fun j => if_neg (by omega)), e251_2]
    simp (disch := first | assumption | omega) only [e251_0, e251_1, e251_3, e251_6, e251_9, e251_10, e251_13, e251_16, e251_17, e251_18, e251_19, e251_20, e251_21, e251_24, e251_27, e251_28, e251_29, e251_30, e251_31, e251_32, e251_33, e251_36, e251_39, gK0_eq, gK1_eq, gK3_eq, w32_id, bI_eq0, bI_eq1, Bool.false_eq_true, not_true_eq_false, not_false_eq_true, ne_eq, ite_not, ↓reduceIte, if_true, if_false, Int.reduceToNat, Nat.reduceAdd, Int.reduceEq, Int.reduceLT, Int.reduceLE, Int.reduceNeg, bI_T, bI_F, ↓if_pos, ↓if_neg, h]
  | succ m ih =>
    intro k μ h0 h1
    have h : ¬ 1960 ≤ k := by omega
    rw [e251_2]
    simp (disch := first | assumption | omega) only [e251_0, e251_1, e251_3, e251_6, e251_9, e251_10, e251_13, e251_16, e251_17, e251_18, e251_19, e251_20, e251_21, e251_24, e251_27, e251_28, e251_29, e251_30, e251_31, e251_32, e251_33, e251_36, e251_39, gK0_eq, gK1_eq, gK3_eq, w32_id, bI_eq0, bI_eq1, Bool.false_eq_true, not_true_eq_false, not_false_eq_true, ne_eq, ite_not, ↓reduceIte, if_true, if_false, Int.reduceToNat, Nat.reduceAdd, Int.reduceEq, Int.reduceLT, Int.reduceLE, Int.reduceNeg, bI_T, bI_F, ↓if_pos, ↓if_neg, h]
    rw [ih (k + 1) _ (by omega) (by omega), gS_mrow, mrow_mrow]
    congr 2
    funext j
    simp only [mrow_same]
    by_cases hj : j = 1960 * t + k
    · subst hj
      rw [if_neg (by omega), if_pos rfl, if_pos (by omega)]
      congr 1
      omega
    · rw [if_neg hj]
      by_cases hq : 1960 * t + k ≤ j ∧ j < 1960 * t + 1960
      · rw [if_pos hq, if_pos (by omega)]
        rw [if_neg (by omega)]
      · rw [if_neg hq, if_neg (by omega)]
theorem s_copyBank {f t : Int} (hf : 0 ≤ f ∧ f ≤ 2) (ht : 0 ≤ t ∧ t ≤ 2) (hft : f ≠ t) : gE 251 0 [gO 10 167, gI f, gI t, gX] [] μ Q = Q 0 (mK μ t (fun k => μ 181 (1960 * f + k))) := by
  simp (disch := first | assumption | omega) only [e251_0, e251_1, e251_3, e251_6, e251_9, e251_10, e251_13, e251_16, e251_17, e251_18, e251_19, e251_20, e251_21, e251_24, e251_27, e251_28, e251_29, e251_30, e251_31, e251_32, e251_33, e251_36, e251_39, gK0_eq, gK1_eq, gK3_eq, w32_id, bI_eq0, bI_eq1, Bool.false_eq_true, not_true_eq_false, not_false_eq_true, ne_eq, ite_not, ↓reduceIte, if_true, if_false, Int.reduceToNat, Nat.reduceAdd, Int.reduceEq, Int.reduceLT, Int.reduceLE, Int.reduceNeg, bI_T, bI_F]
  rw [s_copyBank_loop hf ht hft 1960 0 μ (by omega) (by omega)]
  congr 1
  funext k i
  unfold mrow mK
  by_cases hk : k = 181
  · subst hk
    rw [if_pos rfl]
    by_cases hq : 1960 * t + 0 ≤ i ∧ i < 1960 * t + 1960
    · dsimp only
      rw [if_pos hq, if_pos (by omega)]
      congr 1
      omega
    · dsimp only
      rw [if_neg hq, if_neg (by omega)]
  · rw [if_neg hk, if_neg (fun q => hk q.1)]
theorem mK_bank {f : Int} : (fun k => if 0 ≤ k ∧ k < 1960 then T k else μ 181 (1960 * f + k)) = (fun k => mK μ f T 181 (1960 * f + k)) := by
  funext k
  unfold mK
  by_cases h : 0 ≤ k ∧ k < 1960
  · rw [if_pos h, if_pos ⟨rfl, by omega⟩]; congr 1; omega
  · rw [if_neg h, if_neg (fun q => h (by omega))]
theorem mK_congr {T' : Int → Int} (h : ∀ k, 0 ≤ k → k < 1960 → T k = T' k) : mK μ b T = mK μ b T' := by
  funext k i
  unfold mK
  by_cases hk : k = 181 ∧ 1960 * b ≤ i ∧ i < 1960 * b + 1960
  · rw [if_pos hk, if_pos hk]; exact h _ (by omega) (by omega)
  · rw [if_neg hk, if_neg hk]
theorem mK_from {f t : Int} : mK (mK μ f T) t (fun k => mK μ f T 181 (1960 * f + k)) = mK (mK μ f T) t T := by
  refine mK_congr (fun k k0 k1 => ?_)
  exact mK_at k0 k1
/-- the memory in which a trial works -/
def mTr (μ : gM) (T : Int → Int) : gM := gS (mK (gS μ 167 2 0) 0 T) 167 34 1
theorem s_asNow : gE 252 0 [gO 10 167] [] (mK (gS μ 167 2 0) 0 T) Q = Q 0 (mK (mTr μ T) 1 T) := by
  simp (disch := first | assumption | omega) only [e252_0, e252_1, e252_2, e252_3, e252_6, e252_7, e252_8, e252_11, gK0_eq, gK1_eq, gK3_eq, w32_id, bI_eq0, bI_eq1, Bool.false_eq_true, not_true_eq_false, not_false_eq_true, ne_eq, ite_not, ↓reduceIte, if_true, if_false, Int.reduceToNat, Nat.reduceAdd, Int.reduceEq, Int.reduceLT, Int.reduceLE, Int.reduceNeg, bI_T, bI_F, s_copyBank, mK_from, gS_mK]
  unfold mTr
  rw [gS_mK (by omega)]
theorem gBk_tr : gBk (mTr μ T) 1 := ⟨gS_same, by omega⟩
theorem gIX_tr (hI : gIX μ) : gIX (mTr μ T) := gIX_congr (fun k i hk => by unfold mTr; rw [show gS (mK (gS μ 167 2 0) 0 T) 167 34 1 k i = mK (gS μ 167 2 0) 0 T k i from if_neg (by omega), mK_ne (by omega)]; exact if_neg (by omega)) hI
theorem mTr_at {k : Nat} {i : Int} (h : k < 181) (h2 : k ≠ 167 ∨ (i ≠ 2 ∧ i ≠ 34)) : mTr μ T k i = μ k i := by
  unfold mTr
  rw [show gS (mK (gS μ 167 2 0) 0 T) 167 34 1 k i = mK (gS μ 167 2 0) 0 T k i from if_neg (by omega), mK_ne (by omega)]
  exact if_neg (by omega)
theorem s_fre_loop {f : Int} (hb : gBk μ b) (hf : 0 ≤ f ∧ f < 64) : ∀ (m : Nat) (n : Int) (T : Int → Int), (0 ≤ T 1672 ∧ T 1672 ≤ 4) → (T 1681 = m ∧ m ≤ 32) → (0 ≤ T 1813 ∧ T 1813 ≤ 16) → 0 ≤ n → n + m ≤ 100 →
    gE 327 20 [gO 10 167, gI f, gI n, gX] [] (mK μ b T) Q = gE 327 42 [gO 10 167, gI f, gI (tFre f m n T).1, gX] [] (mK μ b (tFre f m n T).2) Q ∧ (0 ≤ (tFre f m n T).2 1672 ∧ (tFre f m n T).2 1672 ≤ 4) := by
  intro m
  induction m with
  | zero =>
    intro n T hD hq hC h0 h1
    refine ⟨?_, hD⟩
    rw [e327_20, tFre]
    by_cases c : tState T f = 2
    · simp (disch := first | assumption | omega) only [e327_0, e327_1, e327_2, e327_5, e327_6, e327_9, e327_12, e327_13, e327_14, e327_15, e327_18, e327_19, e327_21, e327_22, e327_25, e327_26, e327_29, e327_30, e327_33, e327_36, e327_39, e327_43, e327_44, e327_47, e327_48, e327_49, e327_50, e327_53, e327_54, e327_57, e327_58, e327_61, e327_63, gK0_eq, gK1_eq, gK3_eq, w32_id, bI_eq0, bI_eq1, Bool.false_eq_true, not_true_eq_false, not_false_eq_true, ne_eq, ite_not, ↓reduceIte, if_true, if_false, Int.reduceToNat, Nat.reduceAdd, Int.reduceEq, Int.reduceLT, Int.reduceLE, Int.reduceNeg, bI_T, bI_F, ↓if_pos, ↓if_neg, s_stateOf, hf, hD, c, s_isWorked0]
    · simp (disch := first | assumption | omega) only [e327_0, e327_1, e327_2, e327_5, e327_6, e327_9, e327_12, e327_13, e327_14, e327_15, e327_18, e327_19, e327_21, e327_22, e327_25, e327_26, e327_29, e327_30, e327_33, e327_36, e327_39, e327_43, e327_44, e327_47, e327_48, e327_49, e327_50, e327_53, e327_54, e327_57, e327_58, e327_61, e327_63, gK0_eq, gK1_eq, gK3_eq, w32_id, bI_eq0, bI_eq1, Bool.false_eq_true, not_true_eq_false, not_false_eq_true, ne_eq, ite_not, ↓reduceIte, if_true, if_false, Int.reduceToNat, Nat.reduceAdd, Int.reduceEq, Int.reduceLT, Int.reduceLE, Int.reduceNeg, bI_T, bI_F, ↓if_pos, ↓if_neg, s_stateOf, hf, hD, c]
  | succ m ih =>
    intro n T hD hq hC h0 h1
    have hq' : 0 < T 1681 ∧ T 1681 ≤ 32 := by omega
    rw [tFre]
    by_cases c : tState T f = 2
    · rw [if_pos ⟨c, by omega⟩]
      obtain ⟨f1, f2, f3, f4⟩ := tWrk_facts hD hq' hC
      obtain ⟨i1, i2⟩ := ih (n + 1) (tWrk T) (by rw [f1]; exact hD) (by rw [f2]; omega) (by omega) (by omega) (by omega)
      refine ⟨?_, i2⟩
      rw [← i1, e327_20]
      simp (disch := first | assumption | omega) only [e327_0, e327_1, e327_2, e327_5, e327_6, e327_9, e327_12, e327_13, e327_14, e327_15, e327_18, e327_19, e327_21, e327_22, e327_25, e327_26, e327_29, e327_30, e327_33, e327_36, e327_39, e327_43, e327_44, e327_47, e327_48, e327_49, e327_50, e327_53, e327_54, e327_57, e327_58, e327_61, e327_63, gK0_eq, gK1_eq, gK3_eq, w32_id, bI_eq0, bI_eq1, Bool.false_eq_true, not_true_eq_false, not_false_eq_true, ne_eq, ite_not, ↓reduceIte, if_true, if_false, Int.reduceToNat, Nat.reduceAdd, Int.reduceEq, Int.reduceLT, Int.reduceLE, Int.reduceNeg, bI_T, bI_F, ↓if_pos, ↓if_neg, s_stateOf, hf, hD, c, s_isWorked, hq', hC]
    · rw [if_neg (fun q => c q.1)]
      refine ⟨?_, hD⟩
      rw [e327_20]
      simp (disch := first | assumption | omega) only [e327_0, e327_1, e327_2, e327_5, e327_6, e327_9, e327_12, e327_13, e327_14, e327_15, e327_18, e327_19, e327_21, e327_22, e327_25, e327_26, e327_29, e327_30, e327_33, e327_36, e327_39, e327_43, e327_44, e327_47, e327_48, e327_49, e327_50, e327_53, e327_54, e327_57, e327_58, e327_61, e327_63, gK0_eq, gK1_eq, gK3_eq, w32_id, bI_eq0, bI_eq1, Bool.false_eq_true, not_true_eq_false, not_false_eq_true, ne_eq, ite_not, ↓reduceIte, if_true, if_false, Int.reduceToNat, Nat.reduceAdd, Int.reduceEq, Int.reduceLT, Int.reduceLE, Int.reduceNeg, bI_T, bI_F, ↓if_pos, ↓if_neg, s_stateOf, hf, hD, c]
theorem s_freeing_bad {f : Int} (hp : ¬ (0 ≤ f ∧ f < 64)) : gE 327 0 [gO 10 167, gI f, gX, gX] [] (mK μ b T) Q = Q (-1) (mK (gS μ 167 2 0) b T) := by
  simp (disch := first | assumption | omega) only [e327_0, e327_1, e327_2, e327_5, e327_6, e327_9, e327_12, e327_13, e327_14, e327_15, e327_18, e327_19, e327_21, e327_22, e327_25, e327_26, e327_29, e327_30, e327_33, e327_36, e327_39, e327_42, e327_43, e327_44, e327_47, e327_48, e327_49, e327_50, e327_53, e327_54, e327_57, e327_58, e327_61, e327_63, gK0_eq, gK1_eq, gK3_eq, w32_id, bI_eq0, bI_eq1, Bool.false_eq_true, not_true_eq_false, not_false_eq_true, ne_eq, ite_not, ↓reduceIte, if_true, if_false, Int.reduceToNat, Nat.reduceAdd, Int.reduceEq, Int.reduceLT, Int.reduceLE, Int.reduceNeg, bI_T, bI_F, gS_mK, s_isPage, hp]
theorem s_freeing {f : Int} (hp : 0 ≤ f ∧ f < 64) (hD : 0 ≤ T 1672 ∧ T 1672 ≤ 4) (hq : 0 ≤ T 1681 ∧ T 1681 ≤ 24) (hC : 0 ≤ T 1813 ∧ T 1813 ≤ 16) : gE 327 0 [gO 10 167, gI f, gX, gX] [] (mK μ 0 T) Q = Q (tFreA T f) (mK (gS (mTr μ T) 167 34 0) 1 (tFre f (T 1681).toNat 0 T).2) := by
  unfold tFreA
  obtain ⟨i1, i2⟩ := s_fre_loop (Q := Q) (μ := mTr μ T) gBk_tr hp (T 1681).toNat 0 T hD (by omega) hC (by omega) (by omega)
  have hb : gBk (mTr μ T) 1 := gBk_tr
  rw [if_pos hp]
  simp (disch := first | assumption | omega) only [e327_0, e327_1, e327_2, e327_5, e327_6, e327_9, e327_12, e327_13, e327_14, e327_15, e327_18, e327_19, e327_21, e327_22, e327_25, e327_26, e327_29, e327_30, e327_33, e327_36, e327_39, e327_42, e327_43, e327_44, e327_47, e327_48, e327_49, e327_50, e327_53, e327_54, e327_57, e327_58, e327_61, e327_63, gK0_eq, gK1_eq, gK3_eq, w32_id, bI_eq0, bI_eq1, Bool.false_eq_true, not_true_eq_false, not_false_eq_true, ne_eq, ite_not, ↓reduceIte, if_true, if_false, Int.reduceToNat, Nat.reduceAdd, Int.reduceEq, Int.reduceLT, Int.reduceLE, Int.reduceNeg, bI_T, bI_F, gS_mK, s_isPage, hp, and_self, s_asNow]
  rw [i1, e327_42]
  by_cases c : tState (tFre f (T 1681).toNat 0 T).2 f = 0
  · simp (disch := first | assumption | omega) only [e327_0, e327_1, e327_2, e327_5, e327_6, e327_9, e327_12, e327_13, e327_14, e327_15, e327_18, e327_19, e327_21, e327_22, e327_25, e327_26, e327_29, e327_30, e327_33, e327_36, e327_39, e327_43, e327_44, e327_47, e327_48, e327_49, e327_50, e327_53, e327_54, e327_57, e327_58, e327_61, e327_63, gK0_eq, gK1_eq, gK3_eq, w32_id, bI_eq0, bI_eq1, Bool.false_eq_true, not_true_eq_false, not_false_eq_true, ne_eq, ite_not, ↓reduceIte, if_true, if_false, Int.reduceToNat, Nat.reduceAdd, Int.reduceEq, Int.reduceLT, Int.reduceLE, Int.reduceNeg, bI_T, bI_F, gS_mK, s_stateOf, hp, i2, c]
  · simp (disch := first | assumption | omega) only [e327_0, e327_1, e327_2, e327_5, e327_6, e327_9, e327_12, e327_13, e327_14, e327_15, e327_18, e327_19, e327_21, e327_22, e327_25, e327_26, e327_29, e327_30, e327_33, e327_36, e327_39, e327_43, e327_44, e327_47, e327_48, e327_49, e327_50, e327_53, e327_54, e327_57, e327_58, e327_61, e327_63, gK0_eq, gK1_eq, gK3_eq, w32_id, bI_eq0, bI_eq1, Bool.false_eq_true, not_true_eq_false, not_false_eq_true, ne_eq, ite_not, ↓reduceIte, if_true, if_false, Int.reduceToNat, Nat.reduceAdd, Int.reduceEq, Int.reduceLT, Int.reduceLE, Int.reduceNeg, bI_T, bI_F, gS_mK, s_stateOf, hp, i2, c]
theorem s_worksAll_loop (hb : gBk μ b) : ∀ (m : Nat) (T : Int → Int), (0 ≤ T 1672 ∧ T 1672 ≤ 4) → (T 1681 = m ∧ m ≤ 32) → (0 ≤ T 1813 ∧ T 1813 ≤ 16) →
    gE 329 2 [gO 10 167, gI 1] [] (mK μ b T) Q = Q 0 (mK μ b (tWks m T)) := by
  intro m
  induction m with
  | zero =>
    intro T hD hq hC
    rw [e329_2, tWks]
    simp (disch := first | assumption | omega) only [e329_0, e329_1, e329_3, e329_6, e329_7, e329_10, e329_11, e329_14, gK0_eq, gK1_eq, gK3_eq, w32_id, bI_eq0, bI_eq1, Bool.false_eq_true, not_true_eq_false, not_false_eq_true, ne_eq, ite_not, ↓reduceIte, if_true, if_false, Int.reduceToNat, Nat.reduceAdd, Int.reduceEq, Int.reduceLT, Int.reduceLE, Int.reduceNeg, bI_T, bI_F, ↓if_pos, ↓if_neg, s_isWorked0]
    rw [e329_2]
    simp (disch := first | assumption | omega) only [e329_0, e329_1, e329_3, e329_6, e329_7, e329_10, e329_11, e329_14, gK0_eq, gK1_eq, gK3_eq, w32_id, bI_eq0, bI_eq1, Bool.false_eq_true, not_true_eq_false, not_false_eq_true, ne_eq, ite_not, ↓reduceIte, if_true, if_false, Int.reduceToNat, Nat.reduceAdd, Int.reduceEq, Int.reduceLT, Int.reduceLE, Int.reduceNeg, bI_T, bI_F, ↓if_pos, ↓if_neg]
  | succ m ih =>
    intro T hD hq hC
    have hq' : 0 < T 1681 ∧ T 1681 ≤ 32 := by omega
    obtain ⟨f1, f2, f3, f4⟩ := tWrk_facts hD hq' hC
    rw [e329_2, tWks, if_neg (by omega), ← ih (tWrk T) (by rw [f1]; exact hD) (by rw [f2]; omega) (by omega)]
    simp (disch := first | assumption | omega) only [e329_0, e329_1, e329_3, e329_6, e329_7, e329_10, e329_11, e329_14, gK0_eq, gK1_eq, gK3_eq, w32_id, bI_eq0, bI_eq1, Bool.false_eq_true, not_true_eq_false, not_false_eq_true, ne_eq, ite_not, ↓reduceIte, if_true, if_false, Int.reduceToNat, Nat.reduceAdd, Int.reduceEq, Int.reduceLT, Int.reduceLE, Int.reduceNeg, bI_T, bI_F, ↓if_pos, ↓if_neg, s_isWorked, hD, hq', hC]
theorem s_worksAll (hb : gBk μ b) (hD : 0 ≤ T 1672 ∧ T 1672 ≤ 4) (hq : 0 ≤ T 1681 ∧ T 1681 ≤ 32) (hC : 0 ≤ T 1813 ∧ T 1813 ≤ 16) : gE 329 0 [gO 10 167, gX] [] (mK μ b T) Q = Q 0 (mK μ b (tWks (T 1681).toNat T)) := by
  simp (disch := first | assumption | omega) only [e329_0, e329_1, e329_3, e329_6, e329_7, e329_10, e329_11, e329_14, gK0_eq, gK1_eq, gK3_eq, w32_id, bI_eq0, bI_eq1, Bool.false_eq_true, not_true_eq_false, not_false_eq_true, ne_eq, ite_not, ↓reduceIte, if_true, if_false, Int.reduceToNat, Nat.reduceAdd, Int.reduceEq, Int.reduceLT, Int.reduceLE, Int.reduceNeg, bI_T, bI_F]
  exact s_worksAll_loop hb _ T hD (by omega) hC
theorem tFlu_1681 {d : Int} (hd : 0 ≤ d ∧ d < 4) (hq : 0 ≤ T 1681 ∧ T 1681 < 31) : tFlu T d 1681 = T 1681 + 2 := by
  unfold tFlu tFen
  rw [tCom_1681, tS_ne (by omega), tS_ne (by omega), tFlu_loop (by omega) hd (by omega), tCom_1681]
  omega
theorem tFlu_lo {d j : Int} (hd : 0 ≤ d ∧ d < 4) (hq : 0 ≤ T 1681 ∧ T 1681 < 31) (hj : j < 1088 ∨ (1664 ≤ j ∧ j < 1668) ∨ (1672 ≤ j ∧ j < 1681) ∨ 1812 ≤ j) : tFlu T d j = T j := by
  unfold tFlu tFen
  have q1 : tS (tS (itF (fun p T => tAns d p T) 0 64 (tCom T 1 d (-2))) (1668 + d) 0) 1811 (w32 (tS (itF (fun p T => tAns d p T) 0 64 (tCom T 1 d (-2))) (1668 + d) 0 1811 + 1)) 1681 = T 1681 + 1 := by
    rw [tS_ne (by omega), tS_ne (by omega), tFlu_loop (by omega) hd (by omega), tCom_1681]
  rw [tCom_lo (by omega) (by rw [q1]; omega), tS_ne (by omega), tS_ne (by omega), tFlu_loop (by omega) hd (by omega), tCom_lo (by omega) (by omega)]
theorem s_triesQueue_loop (hb : gBk μ b) {D : Int} (hD : 0 ≤ D ∧ D ≤ 4) : ∀ (m : Nat) (k : Int) (T : Int → Int), T 1672 = D → 0 ≤ k → k + m = D → (0 ≤ T 1681 ∧ T 1681 ≤ 24 + 2 * k) →
    gE 330 2 [gO 10 167, gI k] [] (mK μ b T) Q = gE 330 37 [gO 10 167, gI D] [] (mK μ b (itF (fun d T => if 0 < T (1668 + d) then tFlu T d else T) k m T)) Q ∧
    itF (fun d T => if 0 < T (1668 + d) then tFlu T d else T) k m T 1672 = D ∧ 0 ≤ itF (fun d T => if 0 < T (1668 + d) then tFlu T d else T) k m T 1681 ∧ itF (fun d T => if 0 < T (1668 + d) then tFlu T d else T) k m T 1681 ≤ 32 ∧ itF (fun d T => if 0 < T (1668 + d) then tFlu T d else T) k m T 1813 = T 1813 := by
  intro m
  induction m with
  | zero =>
    intro k T hT h0 h1 hq
    have h : k = D := by omega
    refine ⟨?_, hT, hq.1, by simp only [itF]; omega, rfl⟩
    rw [e330_2, itF]
    simp (disch := first | assumption | omega) only [e330_0, e330_1, e330_3, e330_4, e330_7, e330_10, e330_13, e330_14, e330_17, e330_18, e330_19, e330_22, e330_25, e330_26, e330_27, e330_30, e330_31, e330_34, e330_38, e330_41, gK0_eq, gK1_eq, gK3_eq, w32_id, bI_eq0, bI_eq1, Bool.false_eq_true, not_true_eq_false, not_false_eq_true, ne_eq, ite_not, ↓reduceIte, if_true, if_false, Int.reduceToNat, Nat.reduceAdd, Int.reduceEq, Int.reduceLT, Int.reduceLE, Int.reduceNeg, bI_T, bI_F, ↓if_pos, ↓if_neg, s_of, h]
  | succ m ih =>
    intro k T hT h0 h1 hq
    have h : ¬ T 1672 ≤ k := by omega
    have hd : 0 ≤ k ∧ k < 4 := by omega
    have hq' : 0 ≤ T 1681 ∧ T 1681 < 31 := by omega
    have f1 : tFlu T k 1681 = T 1681 + 2 := tFlu_1681 hd hq'
    have f2 : tFlu T k 1672 = T 1672 := tFlu_lo hd hq' (by omega)
    have f3 : tFlu T k 1813 = T 1813 := tFlu_lo hd hq' (by omega)
    rw [itF]
    by_cases c : 0 < T (1668 + k)
    · rw [if_pos c]
      obtain ⟨i1, i2, i3, i4, i5⟩ := ih (k + 1) (tFlu T k) (by rw [f2]; exact hT) (by omega) (by omega) (by rw [f1]; omega)
      refine ⟨?_, i2, i3, i4, by rw [i5, f3]⟩
      rw [← i1, e330_2]
      simp (disch := first | assumption | omega) only [e330_0, e330_1, e330_3, e330_4, e330_7, e330_10, e330_13, e330_14, e330_17, e330_18, e330_19, e330_22, e330_25, e330_26, e330_27, e330_30, e330_31, e330_34, e330_38, e330_41, gK0_eq, gK1_eq, gK3_eq, w32_id, bI_eq0, bI_eq1, Bool.false_eq_true, not_true_eq_false, not_false_eq_true, ne_eq, ite_not, ↓reduceIte, if_true, if_false, Int.reduceToNat, Nat.reduceAdd, Int.reduceEq, Int.reduceLT, Int.reduceLE, Int.reduceNeg, bI_T, bI_F, ↓if_pos, ↓if_neg, s_of, h, c, s_flushes', hd, hq']
    · rw [if_neg c]
      obtain ⟨i1, i2, i3, i4, i5⟩ := ih (k + 1) T hT (by omega) (by omega) (by omega)
      refine ⟨?_, i2, i3, i4, i5⟩
      rw [← i1, e330_2]
      simp (disch := first | assumption | omega) only [e330_0, e330_1, e330_3, e330_4, e330_7, e330_10, e330_13, e330_14, e330_17, e330_18, e330_19, e330_22, e330_25, e330_26, e330_27, e330_30, e330_31, e330_34, e330_38, e330_41, gK0_eq, gK1_eq, gK3_eq, w32_id, bI_eq0, bI_eq1, Bool.false_eq_true, not_true_eq_false, not_false_eq_true, ne_eq, ite_not, ↓reduceIte, if_true, if_false, Int.reduceToNat, Nat.reduceAdd, Int.reduceEq, Int.reduceLT, Int.reduceLE, Int.reduceNeg, bI_T, bI_F, ↓if_pos, ↓if_neg, s_of, h, c]
theorem tTqF_facts (hD : 0 ≤ T 1672 ∧ T 1672 ≤ 4) (hq : 0 ≤ T 1681 ∧ T 1681 ≤ 24) : tTqF T 1672 = T 1672 ∧ 0 ≤ tTqF T 1681 ∧ tTqF T 1681 ≤ 32 ∧ tTqF T 1813 = T 1813 := by
  have := s_triesQueue_loop (Q := fun _ _ => True) (μ := fun _ _ => 0) (b := 0) ⟨rfl, by omega⟩ hD (T 1672).toNat 0 T rfl (by omega) (by omega) (by omega)
  exact this.2
theorem s_triesQueue (hb : gBk μ b) (hD : 0 ≤ T 1672 ∧ T 1672 ≤ 4) (hq : 0 ≤ T 1681 ∧ T 1681 ≤ 24) (hC : 0 ≤ T 1813 ∧ T 1813 ≤ 16) : gE 330 0 [gO 10 167, gX] [] (mK μ b T) Q = Q 0 (mK μ b (tWks (tTqF T 1681).toNat (tTqF T))) := by
  obtain ⟨i1, i2, i3, i4, i5⟩ := s_triesQueue_loop (Q := Q) hb hD (T 1672).toNat 0 T rfl (by omega) (by omega) (by omega)
  simp (disch := first | assumption | omega) only [e330_0, e330_1, e330_3, e330_4, e330_7, e330_10, e330_13, e330_14, e330_17, e330_18, e330_19, e330_22, e330_25, e330_26, e330_27, e330_30, e330_31, e330_34, e330_37, e330_38, e330_41, gK0_eq, gK1_eq, gK3_eq, w32_id, bI_eq0, bI_eq1, Bool.false_eq_true, not_true_eq_false, not_false_eq_true, ne_eq, ite_not, ↓reduceIte, if_true, if_false, Int.reduceToNat, Nat.reduceAdd, Int.reduceEq, Int.reduceLT, Int.reduceLE, Int.reduceNeg, bI_T, bI_F]
  rw [i1, e330_37]
  have q1 : 0 ≤ tTqF T 1672 ∧ tTqF T 1672 ≤ 4 := by unfold tTqF; rw [i2]; exact hD
  have q2 : 0 ≤ tTqF T 1681 ∧ tTqF T 1681 ≤ 32 := ⟨i3, i4⟩
  have q3 : 0 ≤ tTqF T 1813 ∧ tTqF T 1813 ≤ 16 := by unfold tTqF; rw [i5]; exact hC
  have := s_worksAll (Q := gK0 330 41 [gO 10 167, gI (T 1672)] [] Q) hb q1 q2 q3
  unfold tTqF at this ⊢
  simp (disch := first | assumption | omega) only [e330_0, e330_1, e330_3, e330_4, e330_7, e330_10, e330_13, e330_14, e330_17, e330_18, e330_19, e330_22, e330_25, e330_26, e330_27, e330_30, e330_31, e330_34, e330_38, e330_41, gK0_eq, gK1_eq, gK3_eq, w32_id, bI_eq0, bI_eq1, Bool.false_eq_true, not_true_eq_false, not_false_eq_true, ne_eq, ite_not, ↓reduceIte, if_true, if_false, Int.reduceToNat, Nat.reduceAdd, Int.reduceEq, Int.reduceLT, Int.reduceLE, Int.reduceNeg, bI_T, bI_F, this]
end MODEL16
