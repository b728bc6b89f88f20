/-! the check: groups -/
def tMee (dv : Int) (f : Int → Int) (a b : Int) : Int → Int := fun d => if (0 ≤ d ∧ d < dv) ∧ f d = (if f a < f b then f b else f a) then (if f a < f b then f a else f b) else f d
def xAb (X : gM) : Nat → Int → Int → Int
  | 0, _, s => s
  | n + 1, b, s => if b < 0 then s else xAb X n (X 171 b) (ior32 s (ishl32 1 b))
def xAbo (X : gM) (d : Int) : Int := xAb X 7 (X 174 d) 0
def xLt (X : gM) (ps : Int) : Int := itF (fun b s => ior32 s (if X 172 b ≠ 0 ∧ iand32 (ishr32 ps b) 1 = 0 then ishl32 1 b else 0)) 0 (X 167 11).toNat 0
def xLy1 (X : gM) (lt a : Int) : Int → Nat → (Int → Int) → Int → Int := fun k n f => itF (fun b f => if iand32 (iand32 (xAbo X a) (xAbo X b)) lt ≠ 0 then tMee (X 167 12) f a b else f) k n f
def xLy2 (X : gM) (lt : Int) : Int → Nat → (Int → Int) → Int → Int := fun k n f => itF (fun a f => xLy1 X lt a (a + 1) (X 167 12 - (a + 1)).toNat f) k n f
def xLy3 (X : gM) : Int → Nat → (Int → Int) → Int → Int := fun k n f => itF (fun k f => tMee (X 167 12) f (X 176 (2 * k)) (X 176 (2 * k + 1))) k n f
def xLay (X : gM) (ps : Int) : Int → Int := xLy3 X 0 (X 167 13).toNat (xLy2 X (xLt X ps) 0 (X 167 12).toNat (fun d => d))
def mH (μ : gM) (f : Int → Int) : gM := mrow μ 180 (fun d => if 0 ≤ d ∧ d < 8 then f d else μ 180 d)
def xBin (w : Int) : Int := cntF (fun k => bt w k.toNat) 0 31
def xPb (X : gM) (one other : Int) : Int → Nat → Int → Int := fun k n best => itF (fun set best => if xLay X set one = xLay X set other then best else if best < 0 ∨ xBin set < xBin best then set else best) k n best
def xPas (X : gM) (one other : Int) : Int := xPb X one other 0 (2 ^ (X 167 11).toNat) (-2)
def xGb (X : gM) (e : Int) : Int := itF (fun m s => ior32 s (if X 179 m = X 179 e then ishl32 1 m else 0)) 0 (X 167 12).toNat 0
section MODEL19
variable {μ : gM} {b : Int} {T : Int → Int} {Q : Int → gM → Prop}
theorem mH_ne {f : Int → Int} {k : Nat} {i : Int} (h : k ≠ 180) : mH μ f k i = μ k i := mrow_ne h
theorem mH_at {f : Int → Int} {i : Int} (h0 : 0 ≤ i) (h1 : i < 8) : mH μ f 180 i = f i := by
  unfold mH; rw [mrow_same, if_pos ⟨h0, h1⟩]
theorem mH_mH {f g : Int → Int} : mH (mH μ f) g = mH μ g := by
  unfold mH
  rw [mrow_mrow]
  congr 1
  funext d
  by_cases h : 0 ≤ d ∧ d < 8
  · rw [if_pos h, if_pos h]
  · rw [if_neg h, if_neg h, mrow_same, if_neg h]
theorem s_meets_loop {a c lo hi dv : Int} (hdv : 0 ≤ dv ∧ dv ≤ 8) : ∀ (m : Nat) (k : Int) (f : Int → Int), μ 167 12 = dv → 0 ≤ k → k + m = dv →
    gE 240 66 [gO 10 167, gI a, gI c, gI lo, gI hi, gI k] [] (mH μ f) Q = Q 0 (mH μ (fun d => if (k ≤ d ∧ d < dv) ∧ f d = hi then lo else f d)) := by
  intro m
  induction m with
  | zero =>
    intro k f hv h0 h1
    have h : μ 167 12 ≤ k := by omega
    have e : (fun d => if (k ≤ d ∧ d < dv) ∧ f d = hi then lo else f d) = f := by
      funext d; rw [if_neg (by omega)]
    rw [e, e240_66]
    simp (disch := first | assumption | omega) only [e240_0, e240_1, e240_4, e240_5, e240_6, e240_7, e240_10, e240_11, e240_12, e240_15, e240_16, e240_19, e240_20, e240_21, e240_24, e240_25, e240_28, e240_29, e240_30, e240_31, e240_32, e240_35, e240_36, e240_37, e240_38, e240_41, e240_42, e240_43, e240_46, e240_47, e240_50, e240_51, e240_52, e240_55, e240_56, e240_59, e240_60, e240_61, e240_63, e240_64, e240_68, e240_69, e240_72, e240_75, e240_76, e240_79, e240_81, e240_82, e240_85, e240_87, e240_88, e240_90, e240_93, e240_94, e240_97, e240_98, e240_101, e240_103, e240_104, e240_105, e240_108, e240_111, gK0_eq, gK1_eq, gK3_eq, w32_id, bI_eq0, bI_eq1, Bool.false_eq_true, not_true_eq_false, not_false_eq_true, ne_eq, ite_not, ↓reduceIte, if_true, if_false, Int.reduceToNat, Nat.reduceAdd, Int.reduceEq, Int.reduceLT, Int.reduceLE, Int.reduceNeg, bI_T, bI_F, ↓if_pos, ↓if_neg, mH_ne, h]
  | succ m ih =>
    intro k f hv h0 h1
    have h : ¬ μ 167 12 ≤ k := by omega
    have h8 : k < 8 := by omega
    have st : ∀ v, gS (mH μ f) 180 k v = mH μ (fun d => if d = k then v else f d) := by
      intro v
      unfold mH
      rw [gS_mrow, mrow_mrow]
      congr 1
      funext d
      rw [mrow_same]
      by_cases hd : d = k
      · rw [if_pos hd, if_pos (by omega)]; dsimp only; rw [if_pos hd]
      · rw [if_neg hd]
        by_cases h9 : 0 ≤ d ∧ d < 8
        · rw [if_pos h9, if_pos h9]; dsimp only; rw [if_neg hd]
        · rw [if_neg h9, if_neg h9]
    have fin : ∀ v, (v = if f k = hi then lo else f k) → (fun d => if (k + 1 ≤ d ∧ d < dv) ∧ (if d = k then v else f d) = hi then lo else (if d = k then v else f d)) = (fun d => if (k ≤ d ∧ d < dv) ∧ f d = hi then lo else f d) := by
      intro v hv2
      funext d
      by_cases hd : d = k
      · subst hd
        rw [if_neg (by omega), if_pos rfl, hv2]
        by_cases c2 : f d = hi
        · rw [if_pos c2, if_pos ⟨by omega, c2⟩]
        · rw [if_neg c2, if_neg (fun q => c2 q.2)]
      · rw [if_neg hd]
        by_cases c2 : (k ≤ d ∧ d < dv) ∧ f d = hi
        · rw [if_pos c2, if_pos ⟨by omega, c2.2⟩]
        · rw [if_neg c2, if_neg (fun q => c2 ⟨by omega, q.2⟩)]
    rw [e240_66]
    by_cases c2 : f k = hi
    · rw [← fin lo (by rw [if_pos c2]), ← ih (k + 1) _ hv (by omega) (by omega)]
      simp (disch := first | assumption | omega) only [e240_0, e240_1, e240_4, e240_5, e240_6, e240_7, e240_10, e240_11, e240_12, e240_15, e240_16, e240_19, e240_20, e240_21, e240_24, e240_25, e240_28, e240_29, e240_30, e240_31, e240_32, e240_35, e240_36, e240_37, e240_38, e240_41, e240_42, e240_43, e240_46, e240_47, e240_50, e240_51, e240_52, e240_55, e240_56, e240_59, e240_60, e240_61, e240_63, e240_64, e240_68, e240_69, e240_72, e240_75, e240_76, e240_79, e240_81, e240_82, e240_85, e240_87, e240_88, e240_90, e240_93, e240_94, e240_97, e240_98, e240_101, e240_103, e240_104, e240_105, e240_108, e240_111, gK0_eq, gK1_eq, gK3_eq, w32_id, bI_eq0, bI_eq1, Bool.false_eq_true, not_true_eq_false, not_false_eq_true, ne_eq, ite_not, ↓reduceIte, if_true, if_false, Int.reduceToNat, Nat.reduceAdd, Int.reduceEq, Int.reduceLT, Int.reduceLE, Int.reduceNeg, bI_T, bI_F, ↓if_pos, ↓if_neg, mH_ne, mH_at, h, c2, st]
    · rw [← fin (f k) (by rw [if_neg c2]), ← ih (k + 1) _ hv (by omega) (by omega)]
      simp (disch := first | assumption | omega) only [e240_0, e240_1, e240_4, e240_5, e240_6, e240_7, e240_10, e240_11, e240_12, e240_15, e240_16, e240_19, e240_20, e240_21, e240_24, e240_25, e240_28, e240_29, e240_30, e240_31, e240_32, e240_35, e240_36, e240_37, e240_38, e240_41, e240_42, e240_43, e240_46, e240_47, e240_50, e240_51, e240_52, e240_55, e240_56, e240_59, e240_60, e240_61, e240_63, e240_64, e240_68, e240_69, e240_72, e240_75, e240_76, e240_79, e240_81, e240_82, e240_85, e240_87, e240_88, e240_90, e240_93, e240_94, e240_97, e240_98, e240_101, e240_103, e240_104, e240_105, e240_108, e240_111, gK0_eq, gK1_eq, gK3_eq, w32_id, bI_eq0, bI_eq1, Bool.false_eq_true, not_true_eq_false, not_false_eq_true, ne_eq, ite_not, ↓reduceIte, if_true, if_false, Int.reduceToNat, Nat.reduceAdd, Int.reduceEq, Int.reduceLT, Int.reduceLE, Int.reduceNeg, bI_T, bI_F, ↓if_pos, ↓if_neg, mH_ne, mH_at, h, c2, st]
theorem s_meets {a c : Int} {f : Int → Int} (hv : 0 ≤ μ 167 12 ∧ μ 167 12 ≤ 8) (ha : 0 ≤ a ∧ a < 8) (hc : 0 ≤ c ∧ c < 8) : gE 240 0 [gO 10 167, gI a, gI c, gX, gX, gX] [] (mH μ f) Q = Q 0 (mH μ (tMee (μ 167 12) f a c)) := by
  have a0 := ha.1
  have a1 := ha.2
  have c0 := hc.1
  have c1 := hc.2
  unfold tMee
  by_cases h : f a < f c
  · rw [if_pos h, if_pos h]
    simp (disch := first | assumption | omega) only [e240_0, e240_1, e240_4, e240_5, e240_6, e240_7, e240_10, e240_11, e240_12, e240_15, e240_16, e240_19, e240_20, e240_21, e240_24, e240_25, e240_28, e240_29, e240_30, e240_31, e240_32, e240_35, e240_36, e240_37, e240_38, e240_41, e240_42, e240_43, e240_46, e240_47, e240_50, e240_51, e240_52, e240_55, e240_56, e240_59, e240_60, e240_61, e240_63, e240_64, e240_68, e240_69, e240_72, e240_75, e240_76, e240_79, e240_81, e240_82, e240_85, e240_87, e240_88, e240_90, e240_93, e240_94, e240_97, e240_98, e240_101, e240_103, e240_104, e240_105, e240_108, e240_111, gK0_eq, gK1_eq, gK3_eq, w32_id, bI_eq0, bI_eq1, Bool.false_eq_true, not_true_eq_false, not_false_eq_true, ne_eq, ite_not, ↓reduceIte, if_true, if_false, Int.reduceToNat, Nat.reduceAdd, Int.reduceEq, Int.reduceLT, Int.reduceLE, Int.reduceNeg, bI_T, bI_F, ↓if_pos, ↓if_neg, mH_at, h]
    rw [s_meets_loop hv (μ 167 12).toNat 0 f rfl (by omega) (by omega)]
  · rw [if_neg h, if_neg h]
    simp (disch := first | assumption | omega) only [e240_0, e240_1, e240_4, e240_5, e240_6, e240_7, e240_10, e240_11, e240_12, e240_15, e240_16, e240_19, e240_20, e240_21, e240_24, e240_25, e240_28, e240_29, e240_30, e240_31, e240_32, e240_35, e240_36, e240_37, e240_38, e240_41, e240_42, e240_43, e240_46, e240_47, e240_50, e240_51, e240_52, e240_55, e240_56, e240_59, e240_60, e240_61, e240_63, e240_64, e240_68, e240_69, e240_72, e240_75, e240_76, e240_79, e240_81, e240_82, e240_85, e240_87, e240_88, e240_90, e240_93, e240_94, e240_97, e240_98, e240_101, e240_103, e240_104, e240_105, e240_108, e240_111, gK0_eq, gK1_eq, gK3_eq, w32_id, bI_eq0, bI_eq1, Bool.false_eq_true, not_true_eq_false, not_false_eq_true, ne_eq, ite_not, ↓reduceIte, if_true, if_false, Int.reduceToNat, Nat.reduceAdd, Int.reduceEq, Int.reduceLT, Int.reduceLE, Int.reduceNeg, bI_T, bI_F, ↓if_pos, ↓if_neg, mH_at, h]
    rw [s_meets_loop hv (μ 167 12).toNat 0 f rfl (by omega) (by omega)]
theorem s_aboveOf_loop {d : Int} (hI : gIX μ) : ∀ (n : Nat) (k s : Int), -1 ≤ k → k < μ 167 11 → k < n →
    gE 239 9 [gO 10 167, gI d, gI s, gI k] [] μ Q = Q (xAb μ (n + 1) k s) μ := by
  have hb6 := hI.1
  intro n
  induction n with
  | zero =>
    intro k s h0 h1 h2
    have h : k < 0 := by omega
    rw [e239_9, xAb]
    simp (disch := first | assumption | omega) only [e239_0, e239_1, e239_2, e239_3, e239_6, e239_7, e239_8, e239_10, e239_13, e239_14, e239_15, e239_16, e239_17, e239_18, e239_19, e239_20, e239_23, e239_24, e239_25, e239_26, e239_29, e239_30, gK0_eq, gK1_eq, gK3_eq, w32_id, bI_eq0, bI_eq1, Bool.false_eq_true, not_true_eq_false, not_false_eq_true, ne_eq, ite_not, ↓reduceIte, if_true, if_false, Int.reduceToNat, Nat.reduceAdd, Int.reduceEq, Int.reduceLT, Int.reduceLE, Int.reduceNeg, bI_T, bI_F, ↓if_pos, ↓if_neg, h]
  | succ n ih =>
    intro k s h0 h1 h2
    rw [e239_9, xAb]
    by_cases h : k < 0
    · simp (disch := first | assumption | omega) only [e239_0, e239_1, e239_2, e239_3, e239_6, e239_7, e239_8, e239_10, e239_13, e239_14, e239_15, e239_16, e239_17, e239_18, e239_19, e239_20, e239_23, e239_24, e239_25, e239_26, e239_29, e239_30, gK0_eq, gK1_eq, gK3_eq, w32_id, bI_eq0, bI_eq1, Bool.false_eq_true, not_true_eq_false, not_false_eq_true, ne_eq, ite_not, ↓reduceIte, if_true, if_false, Int.reduceToNat, Nat.reduceAdd, Int.reduceEq, Int.reduceLT, Int.reduceLE, Int.reduceNeg, bI_T, bI_F, ↓if_pos, ↓if_neg, h]
    · have hk := hI.2.2.2.2.1 k (by omega) h1
      rw [if_neg h, ← ih (μ 171 k) _ hk.1 (by omega) (by omega)]
      simp (disch := first | assumption | omega) only [e239_0, e239_1, e239_2, e239_3, e239_6, e239_7, e239_8, e239_10, e239_13, e239_14, e239_15, e239_16, e239_17, e239_18, e239_19, e239_20, e239_23, e239_24, e239_25, e239_26, e239_29, e239_30, gK0_eq, gK1_eq, gK3_eq, w32_id, bI_eq0, bI_eq1, Bool.false_eq_true, not_true_eq_false, not_false_eq_true, ne_eq, ite_not, ↓reduceIte, if_true, if_false, Int.reduceToNat, Nat.reduceAdd, Int.reduceEq, Int.reduceLT, Int.reduceLE, Int.reduceNeg, bI_T, bI_F, ↓if_pos, ↓if_neg, h]
theorem s_aboveOf {d : Int} (hI : gIX μ) (hd : 0 ≤ d ∧ d < μ 167 12) : gE 239 0 [gO 10 167, gI d, gX, gX] [] μ Q = Q (xAbo μ d) μ := by
  have hb6 := hI.1
  have hd8 := hI.2.1
  have hd2 := hI.2.2.2.2.2.1 d hd.1 hd.2
  simp (disch := first | assumption | omega) only [e239_0, e239_1, e239_2, e239_3, e239_6, e239_7, e239_8, e239_10, e239_13, e239_14, e239_15, e239_16, e239_17, e239_18, e239_19, e239_20, e239_23, e239_24, e239_25, e239_26, e239_29, e239_30, gK0_eq, gK1_eq, gK3_eq, w32_id, bI_eq0, bI_eq1, Bool.false_eq_true, not_true_eq_false, not_false_eq_true, ne_eq, ite_not, ↓reduceIte, if_true, if_false, Int.reduceToNat, Nat.reduceAdd, Int.reduceEq, Int.reduceLT, Int.reduceLE, Int.reduceNeg, bI_T, bI_F]
  rw [s_aboveOf_loop hI 6 _ _ hd2.1 hd2.2.1 (by omega)]
  rfl
theorem s_bitsIn_loop {w : Int} {μ : gM} : ∀ (m : Nat) (k n : Int), 0 ≤ k → k + m = 31 → 0 ≤ n → n ≤ k →
    gE 243 4 [gI w, gI n, gI k] [] μ Q = Q (n + cntF (fun k => bt w k.toNat) k m) μ := by
  intro m
  induction m with
  | zero =>
    intro k n h0 h1 h2 h3
    have h : 31 ≤ k := by omega
    rw [e243_4, cntF]
    simp (disch := first | assumption | omega) only [e243_0, e243_1, e243_2, e243_3, e243_5, e243_7, e243_10, e243_11, e243_12, e243_13, e243_14, e243_15, e243_16, e243_17, e243_18, e243_21, e243_24, e243_25, gK0_eq, gK1_eq, gK3_eq, w32_id, bI_eq0, bI_eq1, Bool.false_eq_true, not_true_eq_false, not_false_eq_true, ne_eq, ite_not, ↓reduceIte, if_true, if_false, Int.reduceToNat, Nat.reduceAdd, Int.reduceEq, Int.reduceLT, Int.reduceLE, Int.reduceNeg, bI_T, bI_F, ↓if_pos, ↓if_neg, h, Int.add_zero]
  | succ m ih =>
    intro k n h0 h1 h2 h3
    have h : ¬ 31 ≤ k := by omega
    have hk : 0 ≤ k ∧ k < 32 := by omega
    rw [e243_4, cntF]
    cases hbt : bt w k.toNat with
    | true =>
      simp (disch := first | assumption | omega) only [e243_0, e243_1, e243_2, e243_3, e243_5, e243_7, e243_10, e243_11, e243_12, e243_13, e243_14, e243_15, e243_16, e243_17, e243_18, e243_21, e243_24, e243_25, gK0_eq, gK1_eq, gK3_eq, w32_id, bI_eq0, bI_eq1, Bool.false_eq_true, not_true_eq_false, not_false_eq_true, ne_eq, ite_not, ↓reduceIte, if_true, if_false, Int.reduceToNat, Nat.reduceAdd, Int.reduceEq, Int.reduceLT, Int.reduceLE, Int.reduceNeg, bI_T, bI_F, ↓if_pos, ↓if_neg, h, bt_test, hk, hbt]
      rw [ih _ _ (by omega) (by omega) (by omega) (by omega), Int.add_assoc]
    | false =>
      simp (disch := first | assumption | omega) only [e243_0, e243_1, e243_2, e243_3, e243_5, e243_7, e243_10, e243_11, e243_12, e243_13, e243_14, e243_15, e243_16, e243_17, e243_18, e243_21, e243_24, e243_25, gK0_eq, gK1_eq, gK3_eq, w32_id, bI_eq0, bI_eq1, Bool.false_eq_true, not_true_eq_false, not_false_eq_true, ne_eq, ite_not, ↓reduceIte, if_true, if_false, Int.reduceToNat, Nat.reduceAdd, Int.reduceEq, Int.reduceLT, Int.reduceLE, Int.reduceNeg, bI_T, bI_F, ↓if_pos, ↓if_neg, h, bt_test, hk, hbt, Int.add_zero, Int.zero_add]
      rw [ih _ _ (by omega) (by omega) (by omega) (by omega)]
theorem s_bitsIn {w : Int} {μ : gM} : gE 243 0 [gI w, gX, gX] [] μ Q = Q (xBin w) μ := by
  simp (disch := first | assumption | omega) only [e243_0, e243_1, e243_2, e243_3, e243_5, e243_7, e243_10, e243_11, e243_12, e243_13, e243_14, e243_15, e243_16, e243_17, e243_18, e243_21, e243_24, e243_25, gK0_eq, gK1_eq, gK3_eq, w32_id, bI_eq0, bI_eq1, Bool.false_eq_true, not_true_eq_false, not_false_eq_true, ne_eq, ite_not, ↓reduceIte, if_true, if_false, Int.reduceToNat, Nat.reduceAdd, Int.reduceEq, Int.reduceLT, Int.reduceLE, Int.reduceNeg, bI_T, bI_F]
  rw [s_bitsIn_loop 31 0 0 (by omega) (by omega) (by omega) (by omega), Int.zero_add]
  rfl
theorem s_lay_l1 {ps : Int} {l4 : gv} (hI : gIX μ) : ∀ (m : Nat) (k s : Int), 0 ≤ k → k + m = μ 167 11 →
    gE 241 4 [gO 10 167, gI ps, gI s, gI k, l4] [] μ Q = gE 241 45 [gO 10 167, gI ps, gI (itF (fun b s => ior32 s (if μ 172 b ≠ 0 ∧ iand32 (ishr32 ps b) 1 = 0 then ishl32 1 b else 0)) k m s), gI (μ 167 11), l4] [] μ Q := by
  have hb6 := hI.1
  intro m
  induction m with
  | zero =>
    intro k s h0 h1
    have h : k = μ 167 11 := by omega
    rw [e241_4, itF]
    simp (disch := first | assumption | omega) only [e241_0, e241_1, e241_2, e241_3, e241_5, e241_6, e241_9, e241_12, e241_13, e241_14, e241_17, e241_18, e241_19, e241_22, e241_23, e241_24, e241_25, e241_26, e241_27, e241_30, e241_31, e241_32, e241_33, e241_36, e241_37, e241_38, e241_39, e241_42, e241_46, e241_47, e241_48, e241_50, e241_53, e241_54, e241_57, e241_58, e241_59, e241_60, e241_63, e241_66, e241_67, e241_68, e241_69, e241_70, e241_73, e241_76, e241_77, e241_78, e241_79, e241_81, e241_83, e241_84, e241_87, e241_90, e241_91, e241_92, e241_95, e241_96, e241_98, e241_101, e241_102, e241_103, e241_104, e241_107, e241_108, e241_109, e241_111, e241_114, e241_117, e241_120, e241_123, e241_126, e241_127, e241_128, e241_129, e241_130, e241_133, e241_136, e241_137, e241_138, e241_141, e241_142, e241_143, e241_144, e241_145, e241_146, e241_149, e241_150, e241_151, e241_152, e241_153, e241_154, e241_155, e241_158, e241_161, e241_164, gK0_eq, gK1_eq, gK3_eq, w32_id, bI_eq0, bI_eq1, Bool.false_eq_true, not_true_eq_false, not_false_eq_true, ne_eq, ite_not, ↓reduceIte, if_true, if_false, Int.reduceToNat, Nat.reduceAdd, Int.reduceEq, Int.reduceLT, Int.reduceLE, Int.reduceNeg, bI_T, bI_F, ↓if_pos, ↓if_neg, h]
  | succ m ih =>
    intro k s h0 h1
    have h : ¬ μ 167 11 ≤ k := by omega
    rw [itF, ← ih (k + 1) _ (by omega) (by omega), e241_4]
    by_cases c : μ 172 k = 0
    · have q : ¬ (μ 172 k ≠ 0 ∧ iand32 (ishr32 ps k) 1 = 0) := fun q => q.1 c
      rw [if_neg q]
      simp (disch := first | assumption | omega) only [e241_0, e241_1, e241_2, e241_3, e241_5, e241_6, e241_9, e241_12, e241_13, e241_14, e241_17, e241_18, e241_19, e241_22, e241_23, e241_24, e241_25, e241_26, e241_27, e241_30, e241_31, e241_32, e241_33, e241_36, e241_37, e241_38, e241_39, e241_42, e241_46, e241_47, e241_48, e241_50, e241_53, e241_54, e241_57, e241_58, e241_59, e241_60, e241_63, e241_66, e241_67, e241_68, e241_69, e241_70, e241_73, e241_76, e241_77, e241_78, e241_79, e241_81, e241_83, e241_84, e241_87, e241_90, e241_91, e241_92, e241_95, e241_96, e241_98, e241_101, e241_102, e241_103, e241_104, e241_107, e241_108, e241_109, e241_111, e241_114, e241_117, e241_120, e241_123, e241_126, e241_127, e241_128, e241_129, e241_130, e241_133, e241_136, e241_137, e241_138, e241_141, e241_142, e241_143, e241_144, e241_145, e241_146, e241_149, e241_150, e241_151, e241_152, e241_153, e241_154, e241_155, e241_158, e241_161, e241_164, gK0_eq, gK1_eq, gK3_eq, w32_id, bI_eq0, bI_eq1, Bool.false_eq_true, not_true_eq_false, not_false_eq_true, ne_eq, ite_not, ↓reduceIte, if_true, if_false, Int.reduceToNat, Nat.reduceAdd, Int.reduceEq, Int.reduceLT, Int.reduceLE, Int.reduceNeg, bI_T, bI_F, ↓if_pos, ↓if_neg, h, c]
    · by_cases c2 : iand32 (ishr32 ps k) 1 = 0
      · rw [if_pos ⟨c, c2⟩]
        simp (disch := first | assumption | omega) only [e241_0, e241_1, e241_2, e241_3, e241_5, e241_6, e241_9, e241_12, e241_13, e241_14, e241_17, e241_18, e241_19, e241_22, e241_23, e241_24, e241_25, e241_26, e241_27, e241_30, e241_31, e241_32, e241_33, e241_36, e241_37, e241_38, e241_39, e241_42, e241_46, e241_47, e241_48, e241_50, e241_53, e241_54, e241_57, e241_58, e241_59, e241_60, e241_63, e241_66, e241_67, e241_68, e241_69, e241_70, e241_73, e241_76, e241_77, e241_78, e241_79, e241_81, e241_83, e241_84, e241_87, e241_90, e241_91, e241_92, e241_95, e241_96, e241_98, e241_101, e241_102, e241_103, e241_104, e241_107, e241_108, e241_109, e241_111, e241_114, e241_117, e241_120, e241_123, e241_126, e241_127, e241_128, e241_129, e241_130, e241_133, e241_136, e241_137, e241_138, e241_141, e241_142, e241_143, e241_144, e241_145, e241_146, e241_149, e241_150, e241_151, e241_152, e241_153, e241_154, e241_155, e241_158, e241_161, e241_164, gK0_eq, gK1_eq, gK3_eq, w32_id, bI_eq0, bI_eq1, Bool.false_eq_true, not_true_eq_false, not_false_eq_true, ne_eq, ite_not, ↓reduceIte, if_true, if_false, Int.reduceToNat, Nat.reduceAdd, Int.reduceEq, Int.reduceLT, Int.reduceLE, Int.reduceNeg, bI_T, bI_F, ↓if_pos, ↓if_neg, h, c, c2]
      · rw [if_neg (fun q => c2 q.2)]
        simp (disch := first | assumption | omega) only [e241_0, e241_1, e241_2, e241_3, e241_5, e241_6, e241_9, e241_12, e241_13, e241_14, e241_17, e241_18, e241_19, e241_22, e241_23, e241_24, e241_25, e241_26, e241_27, e241_30, e241_31, e241_32, e241_33, e241_36, e241_37, e241_38, e241_39, e241_42, e241_46, e241_47, e241_48, e241_50, e241_53, e241_54, e241_57, e241_58, e241_59, e241_60, e241_63, e241_66, e241_67, e241_68, e241_69, e241_70, e241_73, e241_76, e241_77, e241_78, e241_79, e241_81, e241_83, e241_84, e241_87, e241_90, e241_91, e241_92, e241_95, e241_96, e241_98, e241_101, e241_102, e241_103, e241_104, e241_107, e241_108, e241_109, e241_111, e241_114, e241_117, e241_120, e241_123, e241_126, e241_127, e241_128, e241_129, e241_130, e241_133, e241_136, e241_137, e241_138, e241_141, e241_142, e241_143, e241_144, e241_145, e241_146, e241_149, e241_150, e241_151, e241_152, e241_153, e241_154, e241_155, e241_158, e241_161, e241_164, gK0_eq, gK1_eq, gK3_eq, w32_id, bI_eq0, bI_eq1, Bool.false_eq_true, not_true_eq_false, not_false_eq_true, ne_eq, ite_not, ↓reduceIte, if_true, if_false, Int.reduceToNat, Nat.reduceAdd, Int.reduceEq, Int.reduceLT, Int.reduceLE, Int.reduceNeg, bI_T, bI_F, ↓if_pos, ↓if_neg, h, c, c2]
theorem s_lay_l2 {ps lt : Int} {l4 : gv} : ∀ (m : Nat) (k : Int) (μ : gM), 0 ≤ k → k + m = 8 →
    gE 241 47 [gO 10 167, gI ps, gI lt, gI k, l4] [] μ Q = gE 241 66 [gO 10 167, gI ps, gI lt, gI 8, l4] [] (mrow μ 180 (fun d => if k ≤ d ∧ d < 8 then d else μ 180 d)) Q := by
  intro m
  induction m with
  | zero =>
    intro k μ h0 h1
    have h : k = 8 := by omega
    rw [mrow_id (fun j => if_neg (by omega)), e241_47]
    simp (disch := first | assumption | omega) only [e241_0, e241_1, e241_2, e241_3, e241_4, e241_5, e241_6, e241_9, e241_12, e241_13, e241_14, e241_17, e241_18, e241_19, e241_22, e241_23, e241_24, e241_25, e241_26, e241_27, e241_30, e241_31, e241_32, e241_33, e241_36, e241_37, e241_38, e241_39, e241_42, e241_45, e241_46, e241_48, e241_50, e241_53, e241_54, e241_57, e241_58, e241_59, e241_60, e241_63, e241_67, e241_68, e241_69, e241_70, e241_73, e241_76, e241_77, e241_78, e241_79, e241_81, e241_83, e241_84, e241_87, e241_90, e241_91, e241_92, e241_95, e241_96, e241_98, e241_101, e241_102, e241_103, e241_104, e241_107, e241_108, e241_109, e241_111, e241_114, e241_117, e241_120, e241_123, e241_126, e241_127, e241_128, e241_129, e241_130, e241_133, e241_136, e241_137, e241_138, e241_141, e241_142, e241_143, e241_144, e241_145, e241_146, e241_149, e241_150, e241_151, e241_152, e241_153, e241_154, e241_155, e241_158, e241_161, e241_164, gK0_eq, gK1_eq, gK3_eq, w32_id, bI_eq0, bI_eq1, Bool.false_eq_true, not_true_eq_false, not_false_eq_true, ne_eq, ite_not, ↓reduceIte, if_true, if_false, Int.reduceToNat, Nat.reduceAdd, Int.reduceEq, Int.reduceLT, Int.reduceLE, Int.reduceNeg, bI_T, bI_F, ↓if_pos, ↓if_neg, h]
  | succ m ih =>
    intro k μ h0 h1
    have h : ¬ 8 ≤ k := by omega
    have e : mrow μ 180 (fun d => if k ≤ d ∧ d < 8 then d else μ 180 d) = mrow (gS μ 180 k k) 180 (fun d => if k + 1 ≤ d ∧ d < 8 then d else gS μ 180 k k 180 d) := by
      rw [gS_mrow, mrow_mrow]
      congr 1
      funext d
      rw [mrow_same]
      by_cases hd : d = k
      · rw [if_pos (by omega), if_neg (by omega), if_pos hd]; exact hd
      · rw [if_neg hd]
        by_cases h9 : k ≤ d ∧ d < 8
        · rw [if_pos h9, if_pos (by omega)]
        · rw [if_neg h9, if_neg (by omega)]
    rw [e, ← ih (k + 1) _ (by omega) (by omega), e241_47]
    simp (disch := first | assumption | omega) only [e241_0, e241_1, e241_2, e241_3, e241_4, e241_5, e241_6, e241_9, e241_12, e241_13, e241_14, e241_17, e241_18, e241_19, e241_22, e241_23, e241_24, e241_25, e241_26, e241_27, e241_30, e241_31, e241_32, e241_33, e241_36, e241_37, e241_38, e241_39, e241_42, e241_45, e241_46, e241_48, e241_50, e241_53, e241_54, e241_57, e241_58, e241_59, e241_60, e241_63, e241_67, e241_68, e241_69, e241_70, e241_73, e241_76, e241_77, e241_78, e241_79, e241_81, e241_83, e241_84, e241_87, e241_90, e241_91, e241_92, e241_95, e241_96, e241_98, e241_101, e241_102, e241_103, e241_104, e241_107, e241_108, e241_109, e241_111, e241_114, e241_117, e241_120, e241_123, e241_126, e241_127, e241_128, e241_129, e241_130, e241_133, e241_136, e241_137, e241_138, e241_141, e241_142, e241_143, e241_144, e241_145, e241_146, e241_149, e241_150, e241_151, e241_152, e241_153, e241_154, e241_155, e241_158, e241_161, e241_164, gK0_eq, gK1_eq, gK3_eq, w32_id, bI_eq0, bI_eq1, Bool.false_eq_true, not_true_eq_false, not_false_eq_true, ne_eq, ite_not, ↓reduceIte, if_true, if_false, Int.reduceToNat, Nat.reduceAdd, Int.reduceEq, Int.reduceLT, Int.reduceLE, Int.reduceNeg, bI_T, bI_F, ↓if_pos, ↓if_neg, h]
theorem gIX_mH {f : Int → Int} (hI : gIX μ) : gIX (mH μ f) := gIX_congr (fun k i hk => mH_ne (by omega)) hI
theorem xAb_congr {X X' : gM} (h : ∀ i, X' 171 i = X 171 i) : ∀ (n : Nat) (b s : Int), xAb X' n b s = xAb X n b s := by
  intro n
  induction n with
  | zero => intro b s; rfl
  | succ n ih => intro b s; rw [xAb, xAb, h, ih]
theorem xAbo_mH {f : Int → Int} {d : Int} : xAbo (mH μ f) d = xAbo μ d := by
  unfold xAbo
  rw [mH_ne (by omega)]
  exact xAb_congr (fun i => mH_ne (by omega)) _ _ _
theorem s_lay_l3 {ps lt a : Int} (hI : gIX μ) (ha : 0 ≤ a) : ∀ (m : Nat) (k : Int) (f : Int → Int), a < k → k + m = μ 167 12 →
    gE 241 81 [gO 10 167, gI ps, gI lt, gI a, gI k] [] (mH μ f) Q = gE 241 120 [gO 10 167, gI ps, gI lt, gI a, gI (μ 167 12)] [] (mH μ (xLy1 μ lt a k m f)) Q := by
  have hd8 := hI.2.1
  intro m
  induction m with
  | zero =>
    intro k f h0 h1
    have h : k = μ 167 12 := by omega
    rw [e241_81]
    unfold xLy1
    rw [itF]
    simp (disch := first | assumption | omega) only [e241_0, e241_1, e241_2, e241_3, e241_4, e241_5, e241_6, e241_9, e241_12, e241_13, e241_14, e241_17, e241_18, e241_19, e241_22, e241_23, e241_24, e241_25, e241_26, e241_27, e241_30, e241_31, e241_32, e241_33, e241_36, e241_37, e241_38, e241_39, e241_42, e241_45, e241_46, e241_47, e241_48, e241_50, e241_53, e241_54, e241_57, e241_58, e241_59, e241_60, e241_63, e241_66, e241_67, e241_68, e241_69, e241_70, e241_73, e241_76, e241_77, e241_78, e241_79, e241_83, e241_84, e241_87, e241_90, e241_91, e241_92, e241_95, e241_96, e241_98, e241_101, e241_102, e241_103, e241_104, e241_107, e241_108, e241_109, e241_111, e241_114, e241_117, e241_123, e241_126, e241_127, e241_128, e241_129, e241_130, e241_133, e241_136, e241_137, e241_138, e241_141, e241_142, e241_143, e241_144, e241_145, e241_146, e241_149, e241_150, e241_151, e241_152, e241_153, e241_154, e241_155, e241_158, e241_161, e241_164, gK0_eq, gK1_eq, gK3_eq, w32_id, bI_eq0, bI_eq1, Bool.false_eq_true, not_true_eq_false, not_false_eq_true, ne_eq, ite_not, ↓reduceIte, if_true, if_false, Int.reduceToNat, Nat.reduceAdd, Int.reduceEq, Int.reduceLT, Int.reduceLE, Int.reduceNeg, bI_T, bI_F, ↓if_pos, ↓if_neg, mH_ne, h]
  | succ m ih =>
    intro k f h0 h1
    have h : ¬ μ 167 12 ≤ k := by omega
    have hI' := gIX_mH (f := f) hI
    have ha' : 0 ≤ a ∧ a < mH μ f 167 12 := by rw [mH_ne (by omega)]; omega
    have hk' : 0 ≤ k ∧ k < mH μ f 167 12 := by rw [mH_ne (by omega)]; omega
    have ha8 : 0 ≤ a ∧ a < 8 := by omega
    have hk8 : 0 ≤ k ∧ k < 8 := by omega
    have un : xLy1 μ lt a k (m + 1) f = xLy1 μ lt a (k + 1) m (if iand32 (iand32 (xAbo μ a) (xAbo μ k)) lt ≠ 0 then tMee (μ 167 12) f a k else f) := rfl
    rw [un, e241_81]
    by_cases c : iand32 (iand32 (xAbo μ a) (xAbo μ k)) lt = 0
    · rw [if_neg (fun q => q c), ← ih (k + 1) f (by omega) (by omega)]
      simp (disch := first | assumption | omega) only [e241_0, e241_1, e241_2, e241_3, e241_4, e241_5, e241_6, e241_9, e241_12, e241_13, e241_14, e241_17, e241_18, e241_19, e241_22, e241_23, e241_24, e241_25, e241_26, e241_27, e241_30, e241_31, e241_32, e241_33, e241_36, e241_37, e241_38, e241_39, e241_42, e241_45, e241_46, e241_47, e241_48, e241_50, e241_53, e241_54, e241_57, e241_58, e241_59, e241_60, e241_63, e241_66, e241_67, e241_68, e241_69, e241_70, e241_73, e241_76, e241_77, e241_78, e241_79, e241_83, e241_84, e241_87, e241_90, e241_91, e241_92, e241_95, e241_96, e241_98, e241_101, e241_102, e241_103, e241_104, e241_107, e241_108, e241_109, e241_111, e241_114, e241_117, e241_123, e241_126, e241_127, e241_128, e241_129, e241_130, e241_133, e241_136, e241_137, e241_138, e241_141, e241_142, e241_143, e241_144, e241_145, e241_146, e241_149, e241_150, e241_151, e241_152, e241_153, e241_154, e241_155, e241_158, e241_161, e241_164, gK0_eq, gK1_eq, gK3_eq, w32_id, bI_eq0, bI_eq1, Bool.false_eq_true, not_true_eq_false, not_false_eq_true, ne_eq, ite_not, ↓reduceIte, if_true, if_false, Int.reduceToNat, Nat.reduceAdd, Int.reduceEq, Int.reduceLT, Int.reduceLE, Int.reduceNeg, bI_T, bI_F, ↓if_pos, ↓if_neg, mH_ne, h, s_aboveOf, hI', ha', hk', xAbo_mH, c]
    · rw [if_pos c, ← ih (k + 1) _ (by omega) (by omega)]
      simp (disch := first | assumption | omega) only [e241_0, e241_1, e241_2, e241_3, e241_4, e241_5, e241_6, e241_9, e241_12, e241_13, e241_14, e241_17, e241_18, e241_19, e241_22, e241_23, e241_24, e241_25, e241_26, e241_27, e241_30, e241_31, e241_32, e241_33, e241_36, e241_37, e241_38, e241_39, e241_42, e241_45, e241_46, e241_47, e241_48, e241_50, e241_53, e241_54, e241_57, e241_58, e241_59, e241_60, e241_63, e241_66, e241_67, e241_68, e241_69, e241_70, e241_73, e241_76, e241_77, e241_78, e241_79, e241_83, e241_84, e241_87, e241_90, e241_91, e241_92, e241_95, e241_96, e241_98, e241_101, e241_102, e241_103, e241_104, e241_107, e241_108, e241_109, e241_111, e241_114, e241_117, e241_123, e241_126, e241_127, e241_128, e241_129, e241_130, e241_133, e241_136, e241_137, e241_138, e241_141, e241_142, e241_143, e241_144, e241_145, e241_146, e241_149, e241_150, e241_151, e241_152, e241_153, e241_154, e241_155, e241_158, e241_161, e241_164, gK0_eq, gK1_eq, gK3_eq, w32_id, bI_eq0, bI_eq1, Bool.false_eq_true, not_true_eq_false, not_false_eq_true, ne_eq, ite_not, ↓reduceIte, if_true, if_false, Int.reduceToNat, Nat.reduceAdd, Int.reduceEq, Int.reduceLT, Int.reduceLE, Int.reduceNeg, bI_T, bI_F, ↓if_pos, ↓if_neg, mH_ne, h, s_aboveOf, hI', ha', hk', xAbo_mH, c, s_meets, hd8, ha8, hk8]
theorem s_lay_l4 {ps lt : Int} (hI : gIX μ) : ∀ (m : Nat) (k : Int) (f : Int → Int) (l4 : gv), 0 ≤ k → k + m = μ 167 12 →
    ∃ l4' : gv, gE 241 68 [gO 10 167, gI ps, gI lt, gI k, l4] [] (mH μ f) Q = gE 241 126 [gO 10 167, gI ps, gI lt, gI (μ 167 12), l4'] [] (mH μ (xLy2 μ lt k m f)) Q := by
  have hd8 := hI.2.1
  intro m
  induction m with
  | zero =>
    intro k f l4 h0 h1
    have h : k = μ 167 12 := by omega
    refine ⟨l4, ?_⟩
    rw [e241_68]
    unfold xLy2
    rw [itF]
    simp (disch := first | assumption | omega) only [e241_0, e241_1, e241_2, e241_3, e241_4, e241_5, e241_6, e241_9, e241_12, e241_13, e241_14, e241_17, e241_18, e241_19, e241_22, e241_23, e241_24, e241_25, e241_26, e241_27, e241_30, e241_31, e241_32, e241_33, e241_36, e241_37, e241_38, e241_39, e241_42, e241_45, e241_46, e241_47, e241_48, e241_50, e241_53, e241_54, e241_57, e241_58, e241_59, e241_60, e241_63, e241_66, e241_67, e241_69, e241_70, e241_73, e241_76, e241_77, e241_78, e241_79, e241_81, e241_83, e241_84, e241_87, e241_90, e241_91, e241_92, e241_95, e241_96, e241_98, e241_101, e241_102, e241_103, e241_104, e241_107, e241_108, e241_109, e241_111, e241_114, e241_117, e241_120, e241_123, e241_127, e241_128, e241_129, e241_130, e241_133, e241_136, e241_137, e241_138, e241_141, e241_142, e241_143, e241_144, e241_145, e241_146, e241_149, e241_150, e241_151, e241_152, e241_153, e241_154, e241_155, e241_158, e241_161, e241_164, gK0_eq, gK1_eq, gK3_eq, w32_id, bI_eq0, bI_eq1, Bool.false_eq_true, not_true_eq_false, not_false_eq_true, ne_eq, ite_not, ↓reduceIte, if_true, if_false, Int.reduceToNat, Nat.reduceAdd, Int.reduceEq, Int.reduceLT, Int.reduceLE, Int.reduceNeg, bI_T, bI_F, ↓if_pos, ↓if_neg, mH_ne, h]
  | succ m ih =>
    intro k f l4 h0 h1
    have h : ¬ μ 167 12 ≤ k := by omega
    have un : xLy2 μ lt k (m + 1) f = xLy2 μ lt (k + 1) m (xLy1 μ lt k (k + 1) (μ 167 12 - (k + 1)).toNat f) := rfl
    obtain ⟨l4', hl⟩ := ih (k + 1) (xLy1 μ lt k (k + 1) (μ 167 12 - (k + 1)).toNat f) (gI (μ 167 12)) (by omega) (by omega)
    refine ⟨l4', ?_⟩
    rw [un, ← hl, e241_68]
    simp (disch := first | assumption | omega) only [e241_0, e241_1, e241_2, e241_3, e241_4, e241_5, e241_6, e241_9, e241_12, e241_13, e241_14, e241_17, e241_18, e241_19, e241_22, e241_23, e241_24, e241_25, e241_26, e241_27, e241_30, e241_31, e241_32, e241_33, e241_36, e241_37, e241_38, e241_39, e241_42, e241_45, e241_46, e241_47, e241_48, e241_50, e241_53, e241_54, e241_57, e241_58, e241_59, e241_60, e241_63, e241_66, e241_67, e241_69, e241_70, e241_73, e241_76, e241_77, e241_78, e241_79, e241_83, e241_84, e241_87, e241_90, e241_91, e241_92, e241_95, e241_96, e241_98, e241_101, e241_102, e241_103, e241_104, e241_107, e241_108, e241_109, e241_111, e241_114, e241_117, e241_120, e241_123, e241_127, e241_128, e241_129, e241_130, e241_133, e241_136, e241_137, e241_138, e241_141, e241_142, e241_143, e241_144, e241_145, e241_146, e241_149, e241_150, e241_151, e241_152, e241_153, e241_154, e241_155, e241_158, e241_161, e241_164, gK0_eq, gK1_eq, gK3_eq, w32_id, bI_eq0, bI_eq1, Bool.false_eq_true, not_true_eq_false, not_false_eq_true, ne_eq, ite_not, ↓reduceIte, if_true, if_false, Int.reduceToNat, Nat.reduceAdd, Int.reduceEq, Int.reduceLT, Int.reduceLE, Int.reduceNeg, bI_T, bI_F, ↓if_pos, ↓if_neg, mH_ne, h]
    rw [s_lay_l3 hI h0 (μ 167 12 - (k + 1)).toNat (k + 1) f (by omega) (by omega), e241_120]
    simp (disch := first | assumption | omega) only [e241_0, e241_1, e241_2, e241_3, e241_4, e241_5, e241_6, e241_9, e241_12, e241_13, e241_14, e241_17, e241_18, e241_19, e241_22, e241_23, e241_24, e241_25, e241_26, e241_27, e241_30, e241_31, e241_32, e241_33, e241_36, e241_37, e241_38, e241_39, e241_42, e241_45, e241_46, e241_47, e241_48, e241_50, e241_53, e241_54, e241_57, e241_58, e241_59, e241_60, e241_63, e241_66, e241_67, e241_69, e241_70, e241_73, e241_76, e241_77, e241_78, e241_79, e241_81, e241_83, e241_84, e241_87, e241_90, e241_91, e241_92, e241_95, e241_96, e241_98, e241_101, e241_102, e241_103, e241_104, e241_107, e241_108, e241_109, e241_111, e241_114, e241_117, e241_123, e241_126, e241_127, e241_128, e241_129, e241_130, e241_133, e241_136, e241_137, e241_138, e241_141, e241_142, e241_143, e241_144, e241_145, e241_146, e241_149, e241_150, e241_151, e241_152, e241_153, e241_154, e241_155, e241_158, e241_161, e241_164, gK0_eq, gK1_eq, gK3_eq, w32_id, bI_eq0, bI_eq1, Bool.false_eq_true, not_true_eq_false, not_false_eq_true, ne_eq, ite_not, ↓reduceIte, if_true, if_false, Int.reduceToNat, Nat.reduceAdd, Int.reduceEq, Int.reduceLT, Int.reduceLE, Int.reduceNeg, bI_T, bI_F, ↓if_pos, ↓if_neg]
theorem s_lay_l5 {ps lt : Int} {l4 : gv} (hI : gIX μ) : ∀ (m : Nat) (k : Int) (f : Int → Int), 0 ≤ k → k + m = μ 167 13 →
    gE 241 128 [gO 10 167, gI ps, gI lt, gI k, l4] [] (mH μ f) Q = Q 0 (mH μ (xLy3 μ k m f)) := by
  have hd8 := hI.2.1
  have ha8 := hI.2.2.1
  intro m
  induction m with
  | zero =>
    intro k f h0 h1
    have h : μ 167 13 ≤ k := by omega
    rw [e241_128]
    unfold xLy3
    rw [itF]
    simp (disch := first | assumption | omega) only [e241_0, e241_1, e241_2, e241_3, e241_4, e241_5, e241_6, e241_9, e241_12, e241_13, e241_14, e241_17, e241_18, e241_19, e241_22, e241_23, e241_24, e241_25, e241_26, e241_27, e241_30, e241_31, e241_32, e241_33, e241_36, e241_37, e241_38, e241_39, e241_42, e241_45, e241_46, e241_47, e241_48, e241_50, e241_53, e241_54, e241_57, e241_58, e241_59, e241_60, e241_63, e241_66, e241_67, e241_68, e241_69, e241_70, e241_73, e241_76, e241_77, e241_78, e241_79, e241_81, e241_83, e241_84, e241_87, e241_90, e241_91, e241_92, e241_95, e241_96, e241_98, e241_101, e241_102, e241_103, e241_104, e241_107, e241_108, e241_109, e241_111, e241_114, e241_117, e241_120, e241_123, e241_126, e241_127, e241_129, e241_130, e241_133, e241_136, e241_137, e241_138, e241_141, e241_142, e241_143, e241_144, e241_145, e241_146, e241_149, e241_150, e241_151, e241_152, e241_153, e241_154, e241_155, e241_158, e241_161, e241_164, gK0_eq, gK1_eq, gK3_eq, w32_id, bI_eq0, bI_eq1, Bool.false_eq_true, not_true_eq_false, not_false_eq_true, ne_eq, ite_not, ↓reduceIte, if_true, if_false, Int.reduceToNat, Nat.reduceAdd, Int.reduceEq, Int.reduceLT, Int.reduceLE, Int.reduceNeg, bI_T, bI_F, ↓if_pos, ↓if_neg, mH_ne, h]
  | succ m ih =>
    intro k f h0 h1
    have h : ¬ μ 167 13 ≤ k := by omega
    have hal := hI.2.2.2.2.2.2.2.1 k h0 (by omega)
    have q1 : 0 ≤ μ 176 (2 * k) ∧ μ 176 (2 * k) < 8 := by omega
    have q2 : 0 ≤ μ 176 (2 * k + 1) ∧ μ 176 (2 * k + 1) < 8 := by omega
    have un : xLy3 μ k (m + 1) f = xLy3 μ (k + 1) m (tMee (μ 167 12) f (μ 176 (2 * k)) (μ 176 (2 * k + 1))) := rfl
    rw [un, ← ih (k + 1) _ (by omega) (by omega), e241_128]
    simp (disch := first | assumption | omega) only [e241_0, e241_1, e241_2, e241_3, e241_4, e241_5, e241_6, e241_9, e241_12, e241_13, e241_14, e241_17, e241_18, e241_19, e241_22, e241_23, e241_24, e241_25, e241_26, e241_27, e241_30, e241_31, e241_32, e241_33, e241_36, e241_37, e241_38, e241_39, e241_42, e241_45, e241_46, e241_47, e241_48, e241_50, e241_53, e241_54, e241_57, e241_58, e241_59, e241_60, e241_63, e241_66, e241_67, e241_68, e241_69, e241_70, e241_73, e241_76, e241_77, e241_78, e241_79, e241_81, e241_83, e241_84, e241_87, e241_90, e241_91, e241_92, e241_95, e241_96, e241_98, e241_101, e241_102, e241_103, e241_104, e241_107, e241_108, e241_109, e241_111, e241_114, e241_117, e241_120, e241_123, e241_126, e241_127, e241_129, e241_130, e241_133, e241_136, e241_137, e241_138, e241_141, e241_142, e241_143, e241_144, e241_145, e241_146, e241_149, e241_150, e241_151, e241_152, e241_153, e241_154, e241_155, e241_158, e241_161, e241_164, gK0_eq, gK1_eq, gK3_eq, w32_id, bI_eq0, bI_eq1, Bool.false_eq_true, not_true_eq_false, not_false_eq_true, ne_eq, ite_not, ↓reduceIte, if_true, if_false, Int.reduceToNat, Nat.reduceAdd, Int.reduceEq, Int.reduceLT, Int.reduceLE, Int.reduceNeg, bI_T, bI_F, ↓if_pos, ↓if_neg, mH_ne, h, s_meets, hd8, q1, q2]
theorem s_layGroups {ps : Int} (hI : gIX μ) : gE 241 0 [gO 10 167, gI ps, gX, gX, gX] [] μ Q = Q 0 (mH μ (xLay μ ps)) := by
  have hb6 := hI.1
  have hd8 := hI.2.1
  have ha8 := hI.2.2.1
  obtain ⟨l4', hl⟩ := s_lay_l4 (Q := Q) (ps := ps) (lt := xLt μ ps) hI (μ 167 12).toNat 0 (fun d => d) gX (by omega) (by omega)
  simp (disch := first | assumption | omega) only [e241_0, e241_1, e241_2, e241_3, e241_5, e241_6, e241_9, e241_12, e241_13, e241_14, e241_17, e241_18, e241_19, e241_22, e241_23, e241_24, e241_25, e241_26, e241_27, e241_30, e241_31, e241_32, e241_33, e241_36, e241_37, e241_38, e241_39, e241_42, e241_45, e241_46, e241_47, e241_48, e241_50, e241_53, e241_54, e241_57, e241_58, e241_59, e241_60, e241_63, e241_66, e241_67, e241_68, e241_69, e241_70, e241_73, e241_76, e241_77, e241_78, e241_79, e241_81, e241_83, e241_84, e241_87, e241_90, e241_91, e241_92, e241_95, e241_96, e241_98, e241_101, e241_102, e241_103, e241_104, e241_107, e241_108, e241_109, e241_111, e241_114, e241_117, e241_120, e241_123, e241_126, e241_127, e241_128, e241_129, e241_130, e241_133, e241_136, e241_137, e241_138, e241_141, e241_142, e241_143, e241_144, e241_145, e241_146, e241_149, e241_150, e241_151, e241_152, e241_153, e241_154, e241_155, e241_158, e241_161, e241_164, gK0_eq, gK1_eq, gK3_eq, w32_id, bI_eq0, bI_eq1, Bool.false_eq_true, not_true_eq_false, not_false_eq_true, ne_eq, ite_not, ↓reduceIte, if_true, if_false, Int.reduceToNat, Nat.reduceAdd, Int.reduceEq, Int.reduceLT, Int.reduceLE, Int.reduceNeg, bI_T, bI_F]
  rw [s_lay_l1 hI (μ 167 11).toNat 0 0 (by omega) (by omega), e241_45]
  simp (disch := first | assumption | omega) only [e241_0, e241_1, e241_2, e241_3, e241_5, e241_6, e241_9, e241_12, e241_13, e241_14, e241_17, e241_18, e241_19, e241_22, e241_23, e241_24, e241_25, e241_26, e241_27, e241_30, e241_31, e241_32, e241_33, e241_36, e241_37, e241_38, e241_39, e241_42, e241_46, e241_48, e241_50, e241_53, e241_54, e241_57, e241_58, e241_59, e241_60, e241_63, e241_66, e241_67, e241_68, e241_69, e241_70, e241_73, e241_76, e241_77, e241_78, e241_79, e241_81, e241_83, e241_84, e241_87, e241_90, e241_91, e241_92, e241_95, e241_96, e241_98, e241_101, e241_102, e241_103, e241_104, e241_107, e241_108, e241_109, e241_111, e241_114, e241_117, e241_120, e241_123, e241_126, e241_127, e241_128, e241_129, e241_130, e241_133, e241_136, e241_137, e241_138, e241_141, e241_142, e241_143, e241_144, e241_145, e241_146, e241_149, e241_150, e241_151, e241_152, e241_153, e241_154, e241_155, e241_158, e241_161, e241_164, gK0_eq, gK1_eq, gK3_eq, w32_id, bI_eq0, bI_eq1, Bool.false_eq_true, not_true_eq_false, not_false_eq_true, ne_eq, ite_not, ↓reduceIte, if_true, if_false, Int.reduceToNat, Nat.reduceAdd, Int.reduceEq, Int.reduceLT, Int.reduceLE, Int.reduceNeg, bI_T, bI_F]
  rw [s_lay_l2 8 0 μ (by omega) (by omega), e241_66]
  simp (disch := first | assumption | omega) only [e241_0, e241_1, e241_2, e241_3, e241_4, e241_5, e241_6, e241_9, e241_12, e241_13, e241_14, e241_17, e241_18, e241_19, e241_22, e241_23, e241_24, e241_25, e241_26, e241_27, e241_30, e241_31, e241_32, e241_33, e241_36, e241_37, e241_38, e241_39, e241_42, e241_45, e241_46, e241_47, e241_48, e241_50, e241_53, e241_54, e241_57, e241_58, e241_59, e241_60, e241_63, e241_67, e241_69, e241_70, e241_73, e241_76, e241_77, e241_78, e241_79, e241_81, e241_83, e241_84, e241_87, e241_90, e241_91, e241_92, e241_95, e241_96, e241_98, e241_101, e241_102, e241_103, e241_104, e241_107, e241_108, e241_109, e241_111, e241_114, e241_117, e241_120, e241_123, e241_126, e241_127, e241_128, e241_129, e241_130, e241_133, e241_136, e241_137, e241_138, e241_141, e241_142, e241_143, e241_144, e241_145, e241_146, e241_149, e241_150, e241_151, e241_152, e241_153, e241_154, e241_155, e241_158, e241_161, e241_164, gK0_eq, gK1_eq, gK3_eq, w32_id, bI_eq0, bI_eq1, Bool.false_eq_true, not_true_eq_false, not_false_eq_true, ne_eq, ite_not, ↓reduceIte, if_true, if_false, Int.reduceToNat, Nat.reduceAdd, Int.reduceEq, Int.reduceLT, Int.reduceLE, Int.reduceNeg, bI_T, bI_F]
  unfold xLt at hl
  unfold mH at hl
  rw [hl, e241_126]
  simp (disch := first | assumption | omega) only [e241_0, e241_1, e241_2, e241_3, e241_4, e241_5, e241_6, e241_9, e241_12, e241_13, e241_14, e241_17, e241_18, e241_19, e241_22, e241_23, e241_24, e241_25, e241_26, e241_27, e241_30, e241_31, e241_32, e241_33, e241_36, e241_37, e241_38, e241_39, e241_42, e241_45, e241_46, e241_47, e241_48, e241_50, e241_53, e241_54, e241_57, e241_58, e241_59, e241_60, e241_63, e241_66, e241_67, e241_68, e241_69, e241_70, e241_73, e241_76, e241_77, e241_78, e241_79, e241_81, e241_83, e241_84, e241_87, e241_90, e241_91, e241_92, e241_95, e241_96, e241_98, e241_101, e241_102, e241_103, e241_104, e241_107, e241_108, e241_109, e241_111, e241_114, e241_117, e241_120, e241_123, e241_127, e241_129, e241_130, e241_133, e241_136, e241_137, e241_138, e241_141, e241_142, e241_143, e241_144, e241_145, e241_146, e241_149, e241_150, e241_151, e241_152, e241_153, e241_154, e241_155, e241_158, e241_161, e241_164, gK0_eq, gK1_eq, gK3_eq, w32_id, bI_eq0, bI_eq1, Bool.false_eq_true, not_true_eq_false, not_false_eq_true, ne_eq, ite_not, ↓reduceIte, if_true, if_false, Int.reduceToNat, Nat.reduceAdd, Int.reduceEq, Int.reduceLT, Int.reduceLE, Int.reduceNeg, bI_T, bI_F]
  have h5 := s_lay_l5 (Q := Q) (ps := ps) (lt := xLt μ ps) (l4 := l4') hI (μ 167 13).toNat 0 (xLy2 μ (xLt μ ps) 0 (μ 167 12).toNat (fun d => d)) (by omega) (by omega)
  unfold mH xLt at h5
  rw [h5]
  rfl
end MODEL19
