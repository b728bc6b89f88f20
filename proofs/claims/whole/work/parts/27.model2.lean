/-! the check's bank: tables, frames, causes, queue -/
def tTab (T : Int → Int) (d : Int) : Int := 1 + cntF (fun i => anyF (tMp T d) (16 * i) 16) 0 4 + cntF (fun i => anyF (tMp T d) (4 * i) 4 && decide (T (768 + 64 * d + 4 * i) = 0)) 0 16
def tUses (T : Int → Int) (f : Int) : Int := cntF (fun k => decide (T k = f)) 0 (64 * T 1672).toNat
def tState (T : Int → Int) (f : Int) : Int := if 0 < tUses T f then 1 else if T (1024 + f) = 1 then 2 else 0
def tFrB (T : Int → Int) (s : Int) : Int := cntF (fun f => decide (tState T f = s)) 0 64
def tBec (T : Int → Int) (c a : Int) : Int → Int := tS (tS (tS T (1919 + T 1918) c) (1923 + T 1918) a) 1918 (T 1918 + 1)
def tRef (T : Int → Int) (c a : Int) : Int → Int := tBec (tS T 1918 0) c a
def tMaps (T : Int → Int) (d p f r g : Int) : Int → Int := tS (tS (tS (tS T (64 * d + p) f) (256 + (64 * d + p)) r) (512 + (64 * d + p)) (iand32 g 1)) (768 + (64 * d + p)) (ishr32 g 1)
def tCom (T : Int → Int) (s d a : Int) : Int → Int := tS (tS (tS (tS (tS (tS T 1810 (w32 (T 1810 + 1))) (1682 + 4 * T 1681) s) (1682 + 4 * T 1681 + 1) d) (1682 + 4 * T 1681 + 2) a) (1682 + 4 * T 1681 + 3) (w32 (T 1810 + 1))) 1681 (T 1681 + 1)
def tFen (T : Int → Int) : Int → Int := tCom (tS T 1811 (w32 (T 1811 + 1))) 2 (-2) (w32 (T 1811 + 1))
def tAn1 (d p f : Int) (T : Int → Int) : Int → Int := if iand32 (ishr32 (T (1152 + 8 * f + (64 * d + p) / 32)) ((64 * d + p) % 32)) 1 = 0 then T else tS (tS T (1152 + 8 * f + (64 * d + p) / 32) (iand32 (T (1152 + 8 * f + (64 * d + p) / 32)) (ixor32 (ishl32 1 ((64 * d + p) % 32)) (-1)))) (1088 + f) (T 1810)
def tAns (d p : Int) (T : Int → Int) : Int → Int := itF (fun f T => tAn1 d p f T) 0 64 T
def tFlu (T : Int → Int) (d : Int) : Int → Int := tFen (tS (itF (fun p T => tAns d p T) 0 64 (tCom T 1 d (-2))) (1668 + d) 0)
def tBl0 (T : Int → Int) (k : Int) : Int → Int := fun j => if 768 + k ≤ j ∧ j < 768 + k + 4 then 0 else T j
def tUn (T : Int → Int) (d p : Int) : Int → Int := tS (tS (tS (tS (tBl0 T (64 * d + p - p % 4)) (64 * d + p) (-1)) (512 + (64 * d + p)) 0) (1024 + T (64 * d + p)) 1) (1152 + 8 * T (64 * d + p) + (64 * d + p) / 32) (ior32 (T (1152 + 8 * T (64 * d + p) + (64 * d + p) / 32)) (ishl32 1 ((64 * d + p) % 32)))
theorem tAn1_1810 {d p f : Int} {T : Int → Int} (hf : 0 ≤ f ∧ f < 64) (hd : 0 ≤ d ∧ d < 4) (hp : 0 ≤ p ∧ p < 64) {j : Int} (hj : 1664 ≤ j ∨ j < 1088) : tAn1 d p f T j = T j := by
  unfold tAn1
  split
  · rfl
  · rw [tS_ne (by omega), tS_ne (by omega)]
theorem cntF_t {P : Int → Bool} {k : Int} {n : Nat} (h : P k = true) : cntF P k (n + 1) = 1 + cntF P (k + 1) n := by simp only [cntF, h, if_true]
theorem cntF_f {P : Int → Bool} {k : Int} {n : Nat} (h : P k = false) : cntF P k (n + 1) = cntF P (k + 1) n := by simp only [cntF, h, Bool.false_eq_true, if_false, Int.zero_add]
section MODEL2
variable {μ : gM} {b : Int} {T : Int → Int} {Q : Int → gM → Prop}
theorem s_tablesOf_l1 {d : Int} (hb : gBk μ b) (hd : 0 ≤ d ∧ d < 4) : ∀ (m : Nat) (i n : Int), 0 ≤ i → i + m = 4 → 0 ≤ n → n ≤ 100 + i →
    gE 262 4 [gO 10 167, gI d, gI n, gI (16 * i)] [] (mK μ b T) Q = gE 262 35 [gO 10 167, gI d, gI (n + cntF (fun i => anyF (tMp T d) (16 * i) 16) i m), gI 64] [] (mK μ b T) Q := by
  intro m
  induction m with
  | zero =>
    intro i n h0 h1 h2 h3
    have hi : i = 4 := by omega
    subst hi
    rw [e262_4]
    simp (disch := first | assumption | omega) only [e262_0, e262_1, e262_2, e262_3, e262_5, e262_7, e262_10, e262_11, e262_12, e262_13, e262_14, e262_16, e262_19, e262_22, e262_23, e262_26, e262_27, e262_28, e262_29, e262_32, e262_36, e262_37, e262_38, e262_40, e262_43, e262_44, e262_45, e262_46, e262_47, e262_48, e262_51, e262_54, e262_55, e262_58, e262_60, e262_61, e262_62, e262_63, e262_64, e262_65, e262_68, e262_71, e262_72, e262_75, e262_76, e262_77, e262_78, e262_81, e262_84, e262_85, gK0_eq, gK1_eq, gK3_eq, w32_id, bI_eq0, bI_eq1, Bool.false_eq_true, not_true_eq_false, not_false_eq_true, ne_eq, ite_not, ↓reduceIte, if_true, if_false, Int.reduceToNat, Nat.reduceAdd, cntF, Int.add_zero, Int.reduceMul, Int.le_refl]
  | succ m ih =>
    intro i n h0 h1 h2 h3
    have h : ¬ 64 ≤ 16 * i := by omega
    rw [e262_4]
    cases hc : anyF (tMp T d) (16 * i) 16 with
    | true =>
      simp (disch := first | assumption | omega) only [e262_0, e262_1, e262_2, e262_3, e262_5, e262_7, e262_10, e262_11, e262_12, e262_13, e262_14, e262_16, e262_19, e262_22, e262_23, e262_26, e262_27, e262_28, e262_29, e262_32, e262_36, e262_37, e262_38, e262_40, e262_43, e262_44, e262_45, e262_46, e262_47, e262_48, e262_51, e262_54, e262_55, e262_58, e262_60, e262_61, e262_62, e262_63, e262_64, e262_65, e262_68, e262_71, e262_72, e262_75, e262_76, e262_77, e262_78, e262_81, e262_84, e262_85, gK0_eq, gK1_eq, gK3_eq, w32_id, bI_eq0, bI_eq1, Bool.false_eq_true, not_true_eq_false, not_false_eq_true, ne_eq, ite_not, ↓reduceIte, if_true, if_false, Int.reduceToNat, Nat.reduceAdd, h, s_isSome, hc]
      rw [show 16 * i + 16 = 16 * (i + 1) by omega, ih (i + 1) (n + 1) (by omega) (by omega) (by omega) (by omega)]
      simp only [cntF, hc, if_true, Int.add_assoc]
    | false =>
      simp (disch := first | assumption | omega) only [e262_0, e262_1, e262_2, e262_3, e262_5, e262_7, e262_10, e262_11, e262_12, e262_13, e262_14, e262_16, e262_19, e262_22, e262_23, e262_26, e262_27, e262_28, e262_29, e262_32, e262_36, e262_37, e262_38, e262_40, e262_43, e262_44, e262_45, e262_46, e262_47, e262_48, e262_51, e262_54, e262_55, e262_58, e262_60, e262_61, e262_62, e262_63, e262_64, e262_65, e262_68, e262_71, e262_72, e262_75, e262_76, e262_77, e262_78, e262_81, e262_84, e262_85, gK0_eq, gK1_eq, gK3_eq, w32_id, bI_eq0, bI_eq1, Bool.false_eq_true, not_true_eq_false, not_false_eq_true, ne_eq, ite_not, ↓reduceIte, if_true, if_false, Int.reduceToNat, Nat.reduceAdd, h, s_isSome, hc, Int.add_zero]
      rw [show 16 * i + 16 = 16 * (i + 1) by omega, ih (i + 1) n (by omega) (by omega) (by omega) (by omega)]
      simp only [cntF, hc, Bool.false_eq_true, if_false, Int.zero_add]
theorem s_tablesOf_l2 {d : Int} (hb : gBk μ b) (hd : 0 ≤ d ∧ d < 4) : ∀ (m : Nat) (i n : Int), 0 ≤ i → i + m = 16 → 0 ≤ n → n ≤ 200 + i →
    gE 262 37 [gO 10 167, gI d, gI n, gI (4 * i)] [] (mK μ b T) Q = Q (n + cntF (fun i => anyF (tMp T d) (4 * i) 4 && decide (T (768 + 64 * d + 4 * i) = 0)) i m) (mK μ b T) := by
  intro m
  induction m with
  | zero =>
    intro i n h0 h1 h2 h3
    have hi : i = 16 := by omega
    subst hi
    rw [e262_37]
    simp (disch := first | assumption | omega) only [e262_0, e262_1, e262_2, e262_3, e262_4, e262_5, e262_7, e262_10, e262_11, e262_12, e262_13, e262_14, e262_16, e262_19, e262_22, e262_23, e262_26, e262_27, e262_28, e262_29, e262_32, e262_35, e262_36, e262_38, e262_40, e262_43, e262_44, e262_45, e262_46, e262_47, e262_48, e262_51, e262_54, e262_55, e262_58, e262_60, e262_61, e262_62, e262_63, e262_64, e262_65, e262_68, e262_71, e262_72, e262_75, e262_76, e262_77, e262_78, e262_81, e262_84, e262_85, gK0_eq, gK1_eq, gK3_eq, w32_id, bI_eq0, bI_eq1, Bool.false_eq_true, not_true_eq_false, not_false_eq_true, ne_eq, ite_not, ↓reduceIte, if_true, if_false, Int.reduceToNat, Nat.reduceAdd, cntF, Int.add_zero, Int.reduceMul, Int.le_refl]
  | succ m ih =>
    intro i n h0 h1 h2 h3
    have h : ¬ 64 ≤ 4 * i := by omega
    rw [e262_37]
    cases hc : anyF (tMp T d) (4 * i) 4 with
    | true =>
      by_cases hz : T (768 + 64 * d + 4 * i) = 0
      · simp (disch := first | assumption | omega) only [e262_0, e262_1, e262_2, e262_3, e262_4, e262_5, e262_7, e262_10, e262_11, e262_12, e262_13, e262_14, e262_16, e262_19, e262_22, e262_23, e262_26, e262_27, e262_28, e262_29, e262_32, e262_35, e262_36, e262_38, e262_40, e262_43, e262_44, e262_45, e262_46, e262_47, e262_48, e262_51, e262_54, e262_55, e262_58, e262_60, e262_61, e262_62, e262_63, e262_64, e262_65, e262_68, e262_71, e262_72, e262_75, e262_76, e262_77, e262_78, e262_81, e262_84, e262_85, gK0_eq, gK1_eq, gK3_eq, w32_id, bI_eq0, bI_eq1, Bool.false_eq_true, not_true_eq_false, not_false_eq_true, ne_eq, ite_not, ↓reduceIte, if_true, if_false, Int.reduceToNat, Nat.reduceAdd, h, s_isSome, hc, s_of, hz]
        rw [show 4 * i + 4 = 4 * (i + 1) by omega, ih (i + 1) (n + 1) (by omega) (by omega) (by omega) (by omega), cntF_t, Int.add_assoc]
        simp only [hc, hz, decide_true, Bool.and_self]
      · simp (disch := first | assumption | omega) only [e262_0, e262_1, e262_2, e262_3, e262_4, e262_5, e262_7, e262_10, e262_11, e262_12, e262_13, e262_14, e262_16, e262_19, e262_22, e262_23, e262_26, e262_27, e262_28, e262_29, e262_32, e262_35, e262_36, e262_38, e262_40, e262_43, e262_44, e262_45, e262_46, e262_47, e262_48, e262_51, e262_54, e262_55, e262_58, e262_60, e262_61, e262_62, e262_63, e262_64, e262_65, e262_68, e262_71, e262_72, e262_75, e262_76, e262_77, e262_78, e262_81, e262_84, e262_85, gK0_eq, gK1_eq, gK3_eq, w32_id, bI_eq0, bI_eq1, Bool.false_eq_true, not_true_eq_false, not_false_eq_true, ne_eq, ite_not, ↓reduceIte, if_true, if_false, Int.reduceToNat, Nat.reduceAdd, h, s_isSome, hc, s_of, hz, Int.add_zero]
        rw [show 4 * i + 4 = 4 * (i + 1) by omega, ih (i + 1) n (by omega) (by omega) (by omega) (by omega)]
        simp only [cntF, hc, hz, decide_false, Bool.and_false, Bool.false_eq_true, if_false, Int.zero_add]
    | false =>
      simp (disch := first | assumption | omega) only [e262_0, e262_1, e262_2, e262_3, e262_4, e262_5, e262_7, e262_10, e262_11, e262_12, e262_13, e262_14, e262_16, e262_19, e262_22, e262_23, e262_26, e262_27, e262_28, e262_29, e262_32, e262_35, e262_36, e262_38, e262_40, e262_43, e262_44, e262_45, e262_46, e262_47, e262_48, e262_51, e262_54, e262_55, e262_58, e262_60, e262_61, e262_62, e262_63, e262_64, e262_65, e262_68, e262_71, e262_72, e262_75, e262_76, e262_77, e262_78, e262_81, e262_84, e262_85, gK0_eq, gK1_eq, gK3_eq, w32_id, bI_eq0, bI_eq1, Bool.false_eq_true, not_true_eq_false, not_false_eq_true, ne_eq, ite_not, ↓reduceIte, if_true, if_false, Int.reduceToNat, Nat.reduceAdd, h, s_isSome, hc, Int.add_zero]
      rw [show 4 * i + 4 = 4 * (i + 1) by omega, ih (i + 1) n (by omega) (by omega) (by omega) (by omega)]
      simp only [cntF, hc, Bool.false_and, Bool.false_eq_true, if_false, Int.zero_add]
theorem s_tablesOf {d : Int} (hb : gBk μ b) (hd : 0 ≤ d ∧ d < 4) : gE 262 0 [gO 10 167, gI d, gX, gX] [] (mK μ b T) Q = Q (tTab T d) (mK μ b T) := by
  simp only [e262_0, e262_1, e262_2, e262_3, e262_5, e262_7, e262_10, e262_11, e262_12, e262_13, e262_14, e262_16, e262_19, e262_22, e262_23, e262_26, e262_27, e262_28, e262_29, e262_32, e262_35, e262_36, e262_37, e262_38, e262_40, e262_43, e262_44, e262_45, e262_46, e262_47, e262_48, e262_51, e262_54, e262_55, e262_58, e262_60, e262_61, e262_62, e262_63, e262_64, e262_65, e262_68, e262_71, e262_72, e262_75, e262_76, e262_77, e262_78, e262_81, e262_84, e262_85, gK0_eq, gK1_eq, gK3_eq]
  have h1 := s_tablesOf_l1 (T := T) (Q := Q) hb hd 4 0 1 (by omega) (by omega) (by omega) (by omega)
  rw [Int.mul_zero] at h1
  rw [h1]
  have hn := cntF_nn (fun i => anyF (tMp T d) (16 * i) 16) 4 0
  have h2 := s_tablesOf_l2 (T := T) (Q := Q) hb hd 16 0 (1 + cntF (fun i => anyF (tMp T d) (16 * i) 16) 0 4) (by omega) (by omega) (by omega) (by omega)
  rw [Int.mul_zero] at h2
  simp only [e262_0, e262_1, e262_2, e262_3, e262_4, e262_5, e262_7, e262_10, e262_11, e262_12, e262_13, e262_14, e262_16, e262_19, e262_22, e262_23, e262_26, e262_27, e262_28, e262_29, e262_32, e262_35, e262_36, e262_38, e262_40, e262_43, e262_44, e262_45, e262_46, e262_47, e262_48, e262_51, e262_54, e262_55, e262_58, e262_60, e262_61, e262_62, e262_63, e262_64, e262_65, e262_68, e262_71, e262_72, e262_75, e262_76, e262_77, e262_78, e262_81, e262_84, e262_85, gK0_eq, gK1_eq, gK3_eq]
  rw [h2]
  rfl
theorem s_usesOf_loop {f : Int} (hb : gBk μ b) (hD : 0 ≤ T 1672 ∧ T 1672 ≤ 4) : ∀ (m : Nat) (k n : Int), 0 ≤ k → k + m = 64 * T 1672 → 0 ≤ n → n ≤ k →
    gE 263 4 [gO 10 167, gI f, gI n, gI k] [] (mK μ b T) Q = Q (n + cntF (fun k => decide (T k = f)) k m) (mK μ b T) := by
  intro m
  induction m with
  | zero =>
    intro k n h0 h1 h2 h3
    have h : 64 * T 1672 ≤ k := by omega
    rw [e263_4]
    simp (disch := first | assumption | omega) only [e263_0, e263_1, e263_2, e263_3, e263_5, e263_7, e263_8, e263_11, e263_14, e263_15, e263_18, e263_19, e263_20, e263_21, e263_22, e263_23, e263_26, e263_27, e263_30, e263_31, e263_34, e263_35, e263_36, e263_37, e263_40, e263_43, e263_44, gK0_eq, gK1_eq, gK3_eq, w32_id, bI_eq0, bI_eq1, Bool.false_eq_true, not_true_eq_false, not_false_eq_true, ne_eq, ite_not, ↓reduceIte, if_true, if_false, Int.reduceToNat, Nat.reduceAdd, s_of, h, cntF, Int.add_zero]
  | succ m ih =>
    intro k n h0 h1 h2 h3
    have h : ¬ 64 * T 1672 ≤ k := by omega
    rw [e263_4]
    by_cases hc : T k = f
    · simp (disch := first | assumption | omega) only [e263_0, e263_1, e263_2, e263_3, e263_5, e263_7, e263_8, e263_11, e263_14, e263_15, e263_18, e263_19, e263_20, e263_21, e263_22, e263_23, e263_26, e263_27, e263_30, e263_31, e263_34, e263_35, e263_36, e263_37, e263_40, e263_43, e263_44, gK0_eq, gK1_eq, gK3_eq, w32_id, bI_eq0, bI_eq1, Bool.false_eq_true, not_true_eq_false, not_false_eq_true, ne_eq, ite_not, ↓reduceIte, if_true, if_false, Int.reduceToNat, Nat.reduceAdd, s_of, h, Int.zero_add, hc]
      rw [ih (k + 1) (n + 1) (by omega) (by omega) (by omega) (by omega)]
      simp only [cntF, hc, decide_true, if_true, Int.add_assoc]
    · simp (disch := first | assumption | omega) only [e263_0, e263_1, e263_2, e263_3, e263_5, e263_7, e263_8, e263_11, e263_14, e263_15, e263_18, e263_19, e263_20, e263_21, e263_22, e263_23, e263_26, e263_27, e263_30, e263_31, e263_34, e263_35, e263_36, e263_37, e263_40, e263_43, e263_44, gK0_eq, gK1_eq, gK3_eq, w32_id, bI_eq0, bI_eq1, Bool.false_eq_true, not_true_eq_false, not_false_eq_true, ne_eq, ite_not, ↓reduceIte, if_true, if_false, Int.reduceToNat, Nat.reduceAdd, s_of, h, Int.zero_add, hc, Int.add_zero]
      rw [ih (k + 1) n (by omega) (by omega) (by omega) (by omega)]
      simp only [cntF, hc, decide_false, Bool.false_eq_true, if_false, Int.zero_add]
theorem s_usesOf {f : Int} (hb : gBk μ b) (hD : 0 ≤ T 1672 ∧ T 1672 ≤ 4) : gE 263 0 [gO 10 167, gI f, gX, gX] [] (mK μ b T) Q = Q (tUses T f) (mK μ b T) := by
  simp only [e263_0, e263_1, e263_2, e263_3, e263_5, e263_7, e263_8, e263_11, e263_14, e263_15, e263_18, e263_19, e263_20, e263_21, e263_22, e263_23, e263_26, e263_27, e263_30, e263_31, e263_34, e263_35, e263_36, e263_37, e263_40, e263_43, e263_44, gK0_eq, gK1_eq, gK3_eq]
  rw [s_usesOf_loop hb hD (64 * T 1672).toNat 0 0 (by omega) (by omega) (by omega) (by omega), Int.zero_add]
  rfl
theorem s_stateOf {f : Int} (hb : gBk μ b) (hD : 0 ≤ T 1672 ∧ T 1672 ≤ 4) (hf : 0 ≤ f ∧ f < 64) : gE 264 0 [gO 10 167, gI f] [] (mK μ b T) Q = Q (tState T f) (mK μ b T) := by
  unfold tState
  by_cases h1 : tUses T f ≤ 0
  · by_cases h2 : T (1024 + f) = 1
    · rw [if_neg (by omega), if_pos h2]
      simp (disch := first | assumption | omega) only [e264_0, e264_1, e264_2, e264_5, e264_8, e264_9, e264_12, e264_13, e264_16, e264_17, e264_18, e264_21, e264_22, e264_25, e264_26, e264_29, e264_30, gK0_eq, gK1_eq, gK3_eq, w32_id, bI_eq0, bI_eq1, Bool.false_eq_true, not_true_eq_false, not_false_eq_true, ne_eq, ite_not, ↓reduceIte, if_true, if_false, Int.reduceToNat, Nat.reduceAdd, s_usesOf, s_of, h1, h2]
    · rw [if_neg (by omega), if_neg h2]
      simp (disch := first | assumption | omega) only [e264_0, e264_1, e264_2, e264_5, e264_8, e264_9, e264_12, e264_13, e264_16, e264_17, e264_18, e264_21, e264_22, e264_25, e264_26, e264_29, e264_30, gK0_eq, gK1_eq, gK3_eq, w32_id, bI_eq0, bI_eq1, Bool.false_eq_true, not_true_eq_false, not_false_eq_true, ne_eq, ite_not, ↓reduceIte, if_true, if_false, Int.reduceToNat, Nat.reduceAdd, s_usesOf, s_of, h1, h2]
  · rw [if_pos (by omega)]
    simp (disch := first | assumption | omega) only [e264_0, e264_1, e264_2, e264_5, e264_8, e264_9, e264_12, e264_13, e264_16, e264_17, e264_18, e264_21, e264_22, e264_25, e264_26, e264_29, e264_30, gK0_eq, gK1_eq, gK3_eq, w32_id, bI_eq0, bI_eq1, Bool.false_eq_true, not_true_eq_false, not_false_eq_true, ne_eq, ite_not, ↓reduceIte, if_true, if_false, Int.reduceToNat, Nat.reduceAdd, s_usesOf, s_of, h1]
theorem s_framesBy_loop {s : Int} (hb : gBk μ b) (hD : 0 ≤ T 1672 ∧ T 1672 ≤ 4) : ∀ (m : Nat) (k n : Int), 0 ≤ k → k + m = 64 → 0 ≤ n → n ≤ k →
    gE 265 4 [gO 10 167, gI s, gI n, gI k] [] (mK μ b T) Q = Q (n + cntF (fun f => decide (tState T f = s)) k m) (mK μ b T) := by
  intro m
  induction m with
  | zero =>
    intro k n h0 h1 h2 h3
    have h : 64 ≤ k := by omega
    rw [e265_4]
    simp (disch := first | assumption | omega) only [e265_0, e265_1, e265_2, e265_3, e265_5, e265_7, e265_10, e265_11, e265_12, e265_13, e265_16, e265_17, e265_20, e265_21, e265_24, e265_25, e265_26, e265_27, e265_30, e265_33, e265_34, gK0_eq, gK1_eq, gK3_eq, w32_id, bI_eq0, bI_eq1, Bool.false_eq_true, not_true_eq_false, not_false_eq_true, ne_eq, ite_not, ↓reduceIte, if_true, if_false, Int.reduceToNat, Nat.reduceAdd, h, cntF, Int.add_zero]
  | succ m ih =>
    intro k n h0 h1 h2 h3
    have h : ¬ 64 ≤ k := by omega
    rw [e265_4]
    by_cases hc : tState T k = s
    · simp (disch := first | assumption | omega) only [e265_0, e265_1, e265_2, e265_3, e265_5, e265_7, e265_10, e265_11, e265_12, e265_13, e265_16, e265_17, e265_20, e265_21, e265_24, e265_25, e265_26, e265_27, e265_30, e265_33, e265_34, gK0_eq, gK1_eq, gK3_eq, w32_id, bI_eq0, bI_eq1, Bool.false_eq_true, not_true_eq_false, not_false_eq_true, ne_eq, ite_not, ↓reduceIte, if_true, if_false, Int.reduceToNat, Nat.reduceAdd, s_stateOf, h, hc]
      rw [ih (k + 1) (n + 1) (by omega) (by omega) (by omega) (by omega)]
      simp only [cntF, hc, decide_true, if_true, Int.add_assoc]
    · simp (disch := first | assumption | omega) only [e265_0, e265_1, e265_2, e265_3, e265_5, e265_7, e265_10, e265_11, e265_12, e265_13, e265_16, e265_17, e265_20, e265_21, e265_24, e265_25, e265_26, e265_27, e265_30, e265_33, e265_34, gK0_eq, gK1_eq, gK3_eq, w32_id, bI_eq0, bI_eq1, Bool.false_eq_true, not_true_eq_false, not_false_eq_true, ne_eq, ite_not, ↓reduceIte, if_true, if_false, Int.reduceToNat, Nat.reduceAdd, s_stateOf, h, hc, Int.add_zero]
      rw [ih (k + 1) n (by omega) (by omega) (by omega) (by omega)]
      simp only [cntF, hc, decide_false, Bool.false_eq_true, if_false, Int.zero_add]
theorem s_framesBy {s : Int} (hb : gBk μ b) (hD : 0 ≤ T 1672 ∧ T 1672 ≤ 4) : gE 265 0 [gO 10 167, gI s, gX, gX] [] (mK μ b T) Q = Q (tFrB T s) (mK μ b T) := by
  simp only [e265_0, e265_1, e265_2, e265_3, e265_5, e265_7, e265_10, e265_11, e265_12, e265_13, e265_16, e265_17, e265_20, e265_21, e265_24, e265_25, e265_26, e265_27, e265_30, e265_33, e265_34, gK0_eq, gK1_eq, gK3_eq]
  rw [s_framesBy_loop hb hD 64 0 0 (by omega) (by omega) (by omega) (by omega), Int.zero_add]
  rfl
theorem s_causes0 (hb : gBk μ b) : gE 266 0 [gO 10 167] [] (mK μ b T) Q = Q 0 (mK μ b (tS T 1918 0)) := by
  simp (disch := first | assumption | omega) only [e266_0, e266_1, e266_4, e266_5, e266_8, gK0_eq, gK1_eq, gK3_eq, w32_id, bI_eq0, bI_eq1, Bool.false_eq_true, not_true_eq_false, not_false_eq_true, ne_eq, ite_not, ↓reduceIte, if_true, if_false, Int.reduceToNat, Nat.reduceAdd, s_lay]
theorem s_because {c a : Int} (hb : gBk μ b) (hC : 0 ≤ T 1918 ∧ T 1918 ≤ 3) : gE 267 0 [gO 10 167, gI c, gI a] [] (mK μ b T) Q = Q 0 (mK μ b (tBec T c a)) := by
  simp (disch := first | assumption | omega) only [e267_0, e267_1, e267_4, e267_5, e267_8, e267_11, e267_12, e267_13, e267_16, e267_17, e267_20, e267_21, e267_24, e267_27, e267_28, e267_29, e267_32, e267_33, e267_36, e267_39, gK0_eq, gK1_eq, gK3_eq, w32_id, bI_eq0, bI_eq1, Bool.false_eq_true, not_true_eq_false, not_false_eq_true, ne_eq, ite_not, ↓reduceIte, if_true, if_false, Int.reduceToNat, Nat.reduceAdd, s_of, s_lay, s_more, tS_ne, tBec]
theorem s_refused {c a : Int} (hb : gBk μ b) : gE 268 0 [gO 10 167, gI c, gI a] [] (mK μ b T) Q = Q (-2) (mK μ b (tRef T c a)) := by
  have h : 0 ≤ tS T 1918 0 1918 ∧ tS T 1918 0 1918 ≤ 3 := by rw [tS_same]; omega
  simp (disch := first | assumption | omega) only [e268_0, e268_1, e268_4, e268_5, e268_6, e268_7, e268_10, e268_12, gK0_eq, gK1_eq, gK3_eq, w32_id, bI_eq0, bI_eq1, Bool.false_eq_true, not_true_eq_false, not_false_eq_true, ne_eq, ite_not, ↓reduceIte, if_true, if_false, Int.reduceToNat, Nat.reduceAdd, s_causes0, s_because, tRef]
theorem s_maps {d p f r g : Int} (hb : gBk μ b) (hd : 0 ≤ d ∧ d < 4) (hp : 0 ≤ p ∧ p < 64) : gE 271 0 [gO 10 167, gI d, gI p, gI f, gI r, gI g, gX] [] (mK μ b T) Q = Q 0 (mK μ b (tMaps T d p f r g)) := by
  simp (disch := first | assumption | omega) only [e271_0, e271_2, e271_3, e271_4, e271_5, e271_6, e271_8, e271_9, e271_10, e271_12, e271_13, e271_14, e271_17, e271_18, e271_21, e271_23, e271_24, e271_26, e271_29, e271_30, e271_33, e271_35, e271_36, e271_38, e271_39, e271_40, e271_43, e271_44, e271_47, e271_49, e271_50, e271_52, e271_53, e271_54, e271_57, gK0_eq, gK1_eq, gK3_eq, w32_id, bI_eq0, bI_eq1, Bool.false_eq_true, not_true_eq_false, not_false_eq_true, ne_eq, ite_not, ↓reduceIte, if_true, if_false, Int.reduceToNat, Nat.reduceAdd, s_lay, Int.zero_add, tMaps]
theorem s_comes {s d a : Int} (hb : gBk μ b) (hq : 0 ≤ T 1681 ∧ T 1681 < 32) : gE 274 0 [gO 10 167, gI s, gI d, gI a, gX] [] (mK μ b T) Q = Q 0 (mK μ b (tCom T s d a)) := by
  simp (disch := first | assumption | omega) only [e274_0, e274_1, e274_4, e274_7, e274_10, e274_11, e274_12, e274_15, e274_18, e274_19, e274_20, e274_22, e274_23, e274_25, e274_26, e274_29, e274_30, e274_32, e274_33, e274_34, e274_35, e274_38, e274_39, e274_41, e274_42, e274_43, e274_44, e274_47, e274_48, e274_50, e274_51, e274_52, e274_53, e274_56, e274_59, e274_62, e274_63, e274_66, e274_69, gK0_eq, gK1_eq, gK3_eq, w32_id, bI_eq0, bI_eq1, Bool.false_eq_true, not_true_eq_false, not_false_eq_true, ne_eq, ite_not, ↓reduceIte, if_true, if_false, Int.reduceToNat, Nat.reduceAdd, s_of, s_lay, s_more, tS_ne, tS_same, tCom]
theorem s_fences (hb : gBk μ b) (hq : 0 ≤ T 1681 ∧ T 1681 < 32) : gE 276 0 [gO 10 167] [] (mK μ b T) Q = Q (w32 (T 1811 + 1)) (mK μ b (tFen T)) := by
  have h : 0 ≤ tS T 1811 (w32 (T 1811 + 1)) 1681 ∧ tS T 1811 (w32 (T 1811 + 1)) 1681 < 32 := by rw [tS_ne (by omega)]; exact hq
  simp (disch := first | assumption | omega) only [e276_0, e276_1, e276_4, e276_7, e276_8, e276_9, e276_11, e276_12, e276_15, e276_18, e276_21, e276_22, e276_25, e276_28, gK0_eq, gK1_eq, gK3_eq, s_of, s_lay, s_more, s_comes, tS_ne, tS_same, tFen, tCom, bI_eq0]
theorem s_answers_loop {d p : Int} (hb : gBk μ b) (hd : 0 ≤ d ∧ d < 4) (hp : 0 ≤ p ∧ p < 64) : ∀ (m : Nat) (f : Int) (l5 : gv) (T : Int → Int), 0 ≤ f → f + m = 64 →
    gE 275 10 [gO 10 167, gI d, gI p, gI (64 * d + p), gI f, l5] [] (mK μ b T) Q = Q 0 (mK μ b (itF (fun f T => tAn1 d p f T) f m T)) := by
  intro m
  induction m with
  | zero =>
    intro f l5 T h0 h1
    have h : 64 ≤ f := by omega
    rw [e275_10]
    simp (disch := first | assumption | omega) only [e275_0, e275_2, e275_3, e275_4, e275_5, e275_6, e275_7, e275_8, e275_12, e275_14, e275_17, e275_20, e275_22, e275_24, e275_25, e275_26, e275_27, e275_29, e275_30, e275_31, e275_33, e275_34, e275_36, e275_39, e275_40, e275_42, e275_43, e275_44, e275_45, e275_46, e275_49, e275_52, e275_53, e275_55, e275_56, e275_58, e275_61, e275_62, e275_63, e275_65, e275_66, e275_67, e275_68, e275_69, e275_70, e275_73, e275_74, e275_77, e275_79, e275_80, e275_81, e275_84, e275_87, e275_90, e275_93, e275_96, gK0_eq, gK1_eq, gK3_eq, w32_id, bI_eq0, bI_eq1, Bool.false_eq_true, not_true_eq_false, not_false_eq_true, ne_eq, ite_not, ↓reduceIte, if_true, if_false, Int.reduceToNat, Nat.reduceAdd, h, itF]
  | succ m ih =>
    intro f l5 T h0 h1
    have h : ¬ 64 ≤ f := by omega
    rw [e275_10]
    by_cases hc : iand32 (ishr32 (T (1152 + 8 * f + (64 * d + p) / 32)) ((64 * d + p) % 32)) 1 = 0
    · simp (disch := first | assumption | omega) only [e275_0, e275_2, e275_3, e275_4, e275_5, e275_6, e275_7, e275_8, e275_12, e275_14, e275_17, e275_20, e275_22, e275_24, e275_25, e275_26, e275_27, e275_29, e275_30, e275_31, e275_33, e275_34, e275_36, e275_39, e275_40, e275_42, e275_43, e275_44, e275_45, e275_46, e275_49, e275_52, e275_53, e275_55, e275_56, e275_58, e275_61, e275_62, e275_63, e275_65, e275_66, e275_67, e275_68, e275_69, e275_70, e275_73, e275_74, e275_77, e275_79, e275_80, e275_81, e275_84, e275_87, e275_90, e275_93, e275_96, gK0_eq, gK1_eq, gK3_eq, w32_id, bI_eq0, bI_eq1, Bool.false_eq_true, not_true_eq_false, not_false_eq_true, ne_eq, ite_not, ↓reduceIte, if_true, if_false, Int.reduceToNat, Nat.reduceAdd, h, idiv32_id, irem32_id, s_of, hc]
      rw [ih (f + 1) _ _ (by omega) (by omega)]
      simp only [itF, tAn1, if_pos hc]
    · simp (disch := first | assumption | omega) only [e275_0, e275_2, e275_3, e275_4, e275_5, e275_6, e275_7, e275_8, e275_12, e275_14, e275_17, e275_20, e275_22, e275_24, e275_25, e275_26, e275_27, e275_29, e275_30, e275_31, e275_33, e275_34, e275_36, e275_39, e275_40, e275_42, e275_43, e275_44, e275_45, e275_46, e275_49, e275_52, e275_53, e275_55, e275_56, e275_58, e275_61, e275_62, e275_63, e275_65, e275_66, e275_67, e275_68, e275_69, e275_70, e275_73, e275_74, e275_77, e275_79, e275_80, e275_81, e275_84, e275_87, e275_90, e275_93, e275_96, gK0_eq, gK1_eq, gK3_eq, w32_id, bI_eq0, bI_eq1, Bool.false_eq_true, not_true_eq_false, not_false_eq_true, ne_eq, ite_not, ↓reduceIte, if_true, if_false, Int.reduceToNat, Nat.reduceAdd, h, idiv32_id, irem32_id, s_of, s_lay, hc, tS_ne]
      rw [ih (f + 1) _ _ (by omega) (by omega)]
      simp only [itF, tAn1, if_neg hc]
theorem s_answers {d p : Int} (hb : gBk μ b) (hd : 0 ≤ d ∧ d < 4) (hp : 0 ≤ p ∧ p < 64) : gE 275 0 [gO 10 167, gI d, gI p, gX, gX, gX] [] (mK μ b T) Q = Q 0 (mK μ b (tAns d p T)) := by
  simp (disch := first | assumption | omega) only [e275_0, e275_2, e275_3, e275_4, e275_5, e275_6, e275_7, e275_8, e275_12, e275_14, e275_17, e275_20, e275_22, e275_24, e275_25, e275_26, e275_27, e275_29, e275_30, e275_31, e275_33, e275_34, e275_36, e275_39, e275_40, e275_42, e275_43, e275_44, e275_45, e275_46, e275_49, e275_52, e275_53, e275_55, e275_56, e275_58, e275_61, e275_62, e275_63, e275_65, e275_66, e275_67, e275_68, e275_69, e275_70, e275_73, e275_74, e275_77, e275_79, e275_80, e275_81, e275_84, e275_87, e275_90, e275_93, e275_96, gK0_eq, gK1_eq, gK3_eq, w32_id, bI_eq0, bI_eq1, Bool.false_eq_true, not_true_eq_false, not_false_eq_true, ne_eq, ite_not, ↓reduceIte, if_true, if_false, Int.reduceToNat, Nat.reduceAdd]
  rw [s_answers_loop hb hd hp 64 0 gX T (by omega) (by omega)]
  rfl
theorem s_flushes_loop {d : Int} (hb : gBk μ b) (hd : 0 ≤ d ∧ d < 4) : ∀ (m : Nat) (p : Int) (T : Int → Int), 0 ≤ p → p + m = 64 →
    gE 277 10 [gO 10 167, gI d, gI p] [] (mK μ b T) Q = gE 277 28 [gO 10 167, gI d, gI 64] [] (mK μ b (itF (fun p T => tAns d p T) p m T)) Q := by
  intro m
  induction m with
  | zero =>
    intro p T h0 h1
    have h : p = 64 := by omega
    subst h
    rw [e277_10]
    simp (disch := first | assumption | omega) only [e277_0, e277_1, e277_2, e277_3, e277_5, e277_8, e277_9, e277_11, e277_13, e277_16, e277_17, e277_18, e277_19, e277_22, e277_25, e277_29, e277_32, e277_33, e277_34, e277_35, e277_38, e277_39, e277_42, gK0_eq, gK1_eq, gK3_eq, w32_id, bI_eq0, bI_eq1, Bool.false_eq_true, not_true_eq_false, not_false_eq_true, ne_eq, ite_not, ↓reduceIte, if_true, if_false, Int.reduceToNat, Nat.reduceAdd, Int.le_refl, itF]
  | succ m ih =>
    intro p T h0 h1
    have h : ¬ 64 ≤ p := by omega
    rw [e277_10]
    simp (disch := first | assumption | omega) only [e277_0, e277_1, e277_2, e277_3, e277_5, e277_8, e277_9, e277_11, e277_13, e277_16, e277_17, e277_18, e277_19, e277_22, e277_25, e277_29, e277_32, e277_33, e277_34, e277_35, e277_38, e277_39, e277_42, gK0_eq, gK1_eq, gK3_eq, w32_id, bI_eq0, bI_eq1, Bool.false_eq_true, not_true_eq_false, not_false_eq_true, ne_eq, ite_not, ↓reduceIte, if_true, if_false, Int.reduceToNat, Nat.reduceAdd, h, s_answers]
    rw [ih (p + 1) _ (by omega) (by omega)]
    simp only [itF]
end MODEL2
