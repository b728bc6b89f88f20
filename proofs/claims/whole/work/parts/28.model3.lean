/-! the check's bank: unmapping, flushes, cache, queue worked -/
def tShL (T : Int → Int) (a e : Int) : Int → Int := fun j => if a ≤ j ∧ j < e then T (j + 4) else T j
theorem tShL_id {T : Int → Int} {a e : Int} (h : e ≤ a) : tShL T a e = T := by
  funext j
  exact if_neg (by omega)
theorem tShL_step {T : Int → Int} {a e : Int} (h : a < e) : tShL (tS T a (T (a + 4))) (a + 1) e = tShL T a e := by
  funext j
  unfold tShL
  by_cases h1 : j = a
  · subst h1
    rw [if_neg (by omega), if_pos (by omega), tS_same]
  · by_cases h2 : a ≤ j ∧ j < e
    · rw [if_pos (by omega), if_pos h2, tS_ne (by omega)]
    · rw [if_neg (by omega), if_neg h2, tS_ne h1]
theorem tShL_lo {T : Int → Int} {a e j : Int} (h : j < a ∨ e ≤ j) : tShL T a e j = T j := if_neg (by omega)
def tDrop (T : Int → Int) (k : Int) : Int → Int := tS (tShL T (1814 + 4 * k) (1814 + 4 * T 1813 - 4)) 1813 (T 1813 - 1)
def tReqG (T : Int → Int) (k : Int) : Int → Int := tS (tShL T (1882 + 4 * k) (1882 + 4 * T 1881 - 4)) 1881 (T 1881 - 1)
def tQGo (T : Int → Int) : Int → Int := tS (tShL T 1682 (1682 + 4 * T 1681 - 4)) 1681 (T 1681 - 1)
/-- entries k-1, .., 0 of a domain go, of a page or (below 0) of all -/
def tFor (d p : Int) : Nat → (Int → Int) → Int → Int
  | 0, T => T
  | k + 1, T => tFor d p k (if T (1814 + 4 * k) = d ∧ (p < 0 ∨ T (1814 + 4 * k + 1) = p) then tDrop T k else T)
def tOpn (T : Int → Int) (f : Int) : Bool := anyF (fun k => decide (T (1152 + 8 * f + k) ≠ 0)) 0 8
def tPa1 (st f : Int) (T : Int → Int) : Int → Int := if tState T f = 2 ∧ tOpn T f = false ∧ T (1088 + f) < st then tS T (1024 + f) 0 else T
def tPas (T : Int → Int) (st : Int) : Int → Int := itF (fun f T => tPa1 st f T) 0 64 (tS T 1812 (w32 (T 1812 + 1)))
/-- one step of work (the queue isn't empty) -/
def tWrk (T : Int → Int) : Int → Int := if T 1682 = 2 then tPas (tQGo T) (T 1685) else tFor (T 1683) (if T 1682 = 0 then T 1684 else -1) (T 1813).toNat (tQGo T)
section MODEL3
variable {μ : gM} {b : Int} {T : Int → Int} {Q : Int → gM → Prop}
theorem s_flushes {d : Int} (hb : gBk μ b) (hd : 0 ≤ d ∧ d < 4) (hq : 0 ≤ T 1681 ∧ T 1681 < 31) (hfl : ∀ n, itF (fun p T => tAns d p T) 0 n (tCom T 1 d (-2)) 1681 = T 1681 + 1 ∧ itF (fun p T => tAns d p T) 0 n (tCom T 1 d (-2)) 1811 = T 1811) : gE 277 0 [gO 10 167, gI d, gX] [] (mK μ b T) Q = Q (w32 (T 1811 + 1)) (mK μ b (tFlu T d)) := by
  obtain ⟨h1, h2⟩ := hfl 64
  have hq' : 0 ≤ T 1681 ∧ T 1681 < 32 := by omega
  simp (disch := first | assumption | omega) only [e277_0, e277_1, e277_2, e277_3, e277_5, e277_8, e277_9, e277_11, e277_13, e277_16, e277_17, e277_18, e277_19, e277_22, e277_25, e277_29, e277_32, e277_33, e277_34, e277_35, e277_38, e277_39, e277_42, gK0_eq, gK1_eq, gK3_eq, w32_id, bI_eq0, bI_eq1, Bool.false_eq_true, not_true_eq_false, not_false_eq_true, ne_eq, ite_not, ↓reduceIte, if_true, if_false, Int.reduceToNat, Nat.reduceAdd, s_comes]
  rw [s_flushes_loop hb hd 64 0 _ (by omega) (by omega)]
  generalize hT : itF (fun p T => tAns d p T) 0 64 (tCom T 1 d (-2)) = T' at h1 h2
  have hq2 : 0 ≤ tS T' (1668 + d) 0 1681 ∧ tS T' (1668 + d) 0 1681 < 32 := by rw [tS_ne (by omega)]; omega
  simp (disch := first | assumption | omega) only [e277_0, e277_1, e277_2, e277_3, e277_5, e277_8, e277_9, e277_11, e277_13, e277_16, e277_17, e277_18, e277_19, e277_22, e277_25, e277_28, e277_29, e277_32, e277_33, e277_34, e277_35, e277_38, e277_39, e277_42, gK0_eq, gK1_eq, gK3_eq, w32_id, bI_eq0, bI_eq1, Bool.false_eq_true, not_true_eq_false, not_false_eq_true, ne_eq, ite_not, ↓reduceIte, if_true, if_false, Int.reduceToNat, Nat.reduceAdd, s_lay, s_fences, tS_ne, h2]
  rw [← hT]
  rfl
theorem s_isTight (hb : gBk μ b) : gE 278 0 [gO 10 167] [] (mK μ b T) Q = Q (bI (22 < T 1681)) (mK μ b T) := by
  by_cases h : T 1681 ≤ 22
  · rw [bI_f (by omega)]
    simp (disch := first | assumption | omega) only [e278_0, e278_1, e278_4, e278_7, e278_9, e278_12, e278_13, e278_16, e278_17, gK0_eq, gK1_eq, gK3_eq, w32_id, bI_eq0, bI_eq1, Bool.false_eq_true, not_true_eq_false, not_false_eq_true, ne_eq, ite_not, ↓reduceIte, if_true, if_false, Int.reduceToNat, Nat.reduceAdd, s_of, h]
  · rw [bI_t (by omega)]
    simp (disch := first | assumption | omega) only [e278_0, e278_1, e278_4, e278_7, e278_9, e278_12, e278_13, e278_16, e278_17, gK0_eq, gK1_eq, gK3_eq, w32_id, bI_eq0, bI_eq1, Bool.false_eq_true, not_true_eq_false, not_false_eq_true, ne_eq, ite_not, ↓reduceIte, if_true, if_false, Int.reduceToNat, Nat.reduceAdd, s_of, h]
theorem s_unmaps_loop {d p i f e : Int} (hb : gBk μ b) (hi : i = 64 * d + p) (hd : 0 ≤ d ∧ d < 4) (hp : 0 ≤ p ∧ p < 64) (he : e = i - p % 4 + 4) : ∀ (m : Nat) (k : Int) (T : Int → Int), e - 4 ≤ k → k + m = e →
    gE 273 23 [gO 10 167, gI d, gI p, gI i, gI f, gI k] [] (mK μ b T) Q = gE 273 52 [gO 10 167, gI d, gI p, gI i, gI f, gI e] [] (mK μ b (fun j => if 768 + k ≤ j ∧ j < 768 + e then 0 else T j)) Q := by
  intro m
  induction m with
  | zero =>
    intro k T h0 h1
    have h : i - p % 4 + 4 ≤ k := by omega
    have e1 : (fun j => if 768 + k ≤ j ∧ j < 768 + e then 0 else T j) = T := by
      funext j
      exact if_neg (by omega)
    rw [e273_23, e1]
    simp (disch := first | assumption | omega) only [e273_0, e273_2, e273_3, e273_4, e273_5, e273_6, e273_7, e273_8, e273_9, e273_10, e273_11, e273_14, e273_16, e273_17, e273_18, e273_19, e273_20, e273_21, e273_25, e273_26, e273_27, e273_28, e273_29, e273_30, e273_31, e273_32, e273_35, e273_36, e273_39, e273_41, e273_42, e273_43, e273_46, e273_49, e273_53, e273_54, e273_55, e273_56, e273_57, e273_60, e273_61, e273_64, e273_65, e273_66, e273_67, e273_70, e273_71, e273_74, e273_76, e273_77, e273_78, e273_81, e273_84, e273_86, e273_88, e273_89, e273_90, e273_91, e273_93, e273_94, e273_95, e273_97, e273_98, e273_100, e273_101, e273_103, e273_106, e273_107, e273_108, e273_110, e273_111, e273_112, e273_113, e273_116, gK0_eq, gK1_eq, gK3_eq, w32_id, bI_eq0, bI_eq1, Bool.false_eq_true, not_true_eq_false, not_false_eq_true, ne_eq, ite_not, ↓reduceIte, if_true, if_false, Int.reduceToNat, Nat.reduceAdd, irem32_id, h]
    rw [show k = e by omega]
  | succ m ih =>
    intro k T h0 h1
    have h : ¬ i - p % 4 + 4 ≤ k := by omega
    rw [e273_23]
    simp (disch := first | assumption | omega) only [e273_0, e273_2, e273_3, e273_4, e273_5, e273_6, e273_7, e273_8, e273_9, e273_10, e273_11, e273_14, e273_16, e273_17, e273_18, e273_19, e273_20, e273_21, e273_25, e273_26, e273_27, e273_28, e273_29, e273_30, e273_31, e273_32, e273_35, e273_36, e273_39, e273_41, e273_42, e273_43, e273_46, e273_49, e273_53, e273_54, e273_55, e273_56, e273_57, e273_60, e273_61, e273_64, e273_65, e273_66, e273_67, e273_70, e273_71, e273_74, e273_76, e273_77, e273_78, e273_81, e273_84, e273_86, e273_88, e273_89, e273_90, e273_91, e273_93, e273_94, e273_95, e273_97, e273_98, e273_100, e273_101, e273_103, e273_106, e273_107, e273_108, e273_110, e273_111, e273_112, e273_113, e273_116, gK0_eq, gK1_eq, gK3_eq, w32_id, bI_eq0, bI_eq1, Bool.false_eq_true, not_true_eq_false, not_false_eq_true, ne_eq, ite_not, ↓reduceIte, if_true, if_false, Int.reduceToNat, Nat.reduceAdd, irem32_id, h, s_lay]
    rw [ih (k + 1) _ (by omega) (by omega)]
    congr 2
    funext j
    by_cases hj : j = 768 + k
    · subst hj
      rw [if_neg (by omega), tS_same, if_pos (by omega)]
    · by_cases hq : 768 + k ≤ j ∧ j < 768 + e
      · rw [if_pos (by omega), if_pos hq]
      · rw [if_neg (by omega), if_neg hq, tS_ne hj]
theorem s_unmaps {d p : Int} (hb : gBk μ b) (hd : 0 ≤ d ∧ d < 4) (hp : 0 ≤ p ∧ p < 64) (hf : 0 ≤ T (64 * d + p) ∧ T (64 * d + p) < 64) : gE 273 0 [gO 10 167, gI d, gI p, gX, gX, gX] [] (mK μ b T) Q = Q 0 (mK μ b (tUn T d p)) := by
  simp (disch := first | assumption | omega) only [e273_0, e273_2, e273_3, e273_4, e273_5, e273_6, e273_7, e273_8, e273_9, e273_10, e273_11, e273_14, e273_16, e273_17, e273_18, e273_19, e273_20, e273_21, e273_25, e273_26, e273_27, e273_28, e273_29, e273_30, e273_31, e273_32, e273_35, e273_36, e273_39, e273_41, e273_42, e273_43, e273_46, e273_49, e273_52, e273_53, e273_54, e273_55, e273_56, e273_57, e273_60, e273_61, e273_64, e273_65, e273_66, e273_67, e273_70, e273_71, e273_74, e273_76, e273_77, e273_78, e273_81, e273_84, e273_86, e273_88, e273_89, e273_90, e273_91, e273_93, e273_94, e273_95, e273_97, e273_98, e273_100, e273_101, e273_103, e273_106, e273_107, e273_108, e273_110, e273_111, e273_112, e273_113, e273_116, gK0_eq, gK1_eq, gK3_eq, w32_id, bI_eq0, bI_eq1, Bool.false_eq_true, not_true_eq_false, not_false_eq_true, ne_eq, ite_not, ↓reduceIte, if_true, if_false, Int.reduceToNat, Nat.reduceAdd, irem32_id, s_of, Int.zero_add]
  rw [s_unmaps_loop (i := 64 * d + p) (e := 64 * d + p - p % 4 + 4) hb rfl hd hp rfl 4 _ _ (by omega) (by omega)]
  have e1 : (fun j => if 768 + (64 * d + p - p % 4) ≤ j ∧ j < 768 + (64 * d + p - p % 4 + 4) then 0 else T j) = tBl0 T (64 * d + p - p % 4) := by
    funext j
    unfold tBl0
    by_cases h : 768 + (64 * d + p - p % 4) ≤ j ∧ j < 768 + (64 * d + p - p % 4 + 4)
    · rw [if_pos h, if_pos (by omega)]
    · rw [if_neg h, if_neg (by omega)]
  rw [e1]
  have e2 : ∀ j, j < 768 ∨ 1024 ≤ j → tBl0 T (64 * d + p - p % 4) j = T j := fun j hj => if_neg (by omega)
  simp (disch := first | assumption | omega) only [e273_0, e273_2, e273_3, e273_4, e273_5, e273_6, e273_7, e273_8, e273_9, e273_10, e273_11, e273_14, e273_16, e273_17, e273_18, e273_19, e273_20, e273_21, e273_25, e273_26, e273_27, e273_28, e273_29, e273_30, e273_31, e273_32, e273_35, e273_36, e273_39, e273_41, e273_42, e273_43, e273_46, e273_49, e273_52, e273_53, e273_54, e273_55, e273_56, e273_57, e273_60, e273_61, e273_64, e273_65, e273_66, e273_67, e273_70, e273_71, e273_74, e273_76, e273_77, e273_78, e273_81, e273_84, e273_86, e273_88, e273_89, e273_90, e273_91, e273_93, e273_94, e273_95, e273_97, e273_98, e273_100, e273_101, e273_103, e273_106, e273_107, e273_108, e273_110, e273_111, e273_112, e273_113, e273_116, gK0_eq, gK1_eq, gK3_eq, w32_id, bI_eq0, bI_eq1, Bool.false_eq_true, not_true_eq_false, not_false_eq_true, ne_eq, ite_not, ↓reduceIte, if_true, if_false, Int.reduceToNat, Nat.reduceAdd, irem32_id, idiv32_id, s_of, s_lay, Int.zero_add, tS_ne, e2]
  rfl
theorem s_drops_loop {k : Int} (hb : gBk μ b) {e : Int} (he : 0 ≤ e ∧ e ≤ 60) : ∀ (m : Nat) (i : Int) (T : Int → Int), 0 ≤ i → (i + m = e ∨ (m = 0 ∧ e ≤ i ∧ i < 100)) → 4 * T 1813 - 4 = e →
    gE 282 4 [gO 10 167, gI k, gI i] [] (mK μ b T) Q = gE 282 45 [gO 10 167, gI k, gI (i + m)] [] (mK μ b (tShL T (1814 + i) (1814 + e))) Q := by
  intro m
  induction m with
  | zero =>
    intro i T h0 h1 h2
    have h : 4 * T 1813 - 4 ≤ i := by omega
    rw [e282_4, tShL_id (by omega)]
    simp (disch := first | assumption | omega) only [e282_0, e282_1, e282_2, e282_3, e282_5, e282_6, e282_7, e282_10, e282_13, e282_14, e282_15, e282_16, e282_19, e282_20, e282_23, e282_24, e282_25, e282_26, e282_29, e282_30, e282_31, e282_32, e282_33, e282_36, e282_39, e282_42, e282_46, e282_49, e282_50, e282_53, e282_56, e282_57, e282_58, e282_61, gK0_eq, gK1_eq, gK3_eq, w32_id, bI_eq0, bI_eq1, Bool.false_eq_true, not_true_eq_false, not_false_eq_true, ne_eq, ite_not, ↓reduceIte, if_true, if_false, Int.reduceToNat, Nat.reduceAdd, s_of, h, Int.natCast_zero, Int.add_zero]
  | succ m ih =>
    intro i T h0 h1 h2
    have h : ¬ 4 * T 1813 - 4 ≤ i := by omega
    rw [e282_4]
    simp (disch := first | assumption | omega) only [e282_0, e282_1, e282_2, e282_3, e282_5, e282_6, e282_7, e282_10, e282_13, e282_14, e282_15, e282_16, e282_19, e282_20, e282_23, e282_24, e282_25, e282_26, e282_29, e282_30, e282_31, e282_32, e282_33, e282_36, e282_39, e282_42, e282_46, e282_49, e282_50, e282_53, e282_56, e282_57, e282_58, e282_61, gK0_eq, gK1_eq, gK3_eq, w32_id, bI_eq0, bI_eq1, Bool.false_eq_true, not_true_eq_false, not_false_eq_true, ne_eq, ite_not, ↓reduceIte, if_true, if_false, Int.reduceToNat, Nat.reduceAdd, s_of, s_lay, h]
    rw [ih (i + 1) _ (by omega) (by omega) (by rw [tS_ne (by omega)]; exact h2)]
    have := tShL_step (T := T) (a := 1814 + i) (e := 1814 + e) (by omega)
    rw [show 1814 + (i + 1) = 1814 + i + 1 by omega, this, show i + 1 + (m : Int) = i + ((m + 1 : Nat) : Int) by omega]
theorem s_drops {k : Int} (hb : gBk μ b) (hC : T 1813 ≤ 16) (hk : 0 ≤ k ∧ k < T 1813) : gE 282 0 [gO 10 167, gI k, gX] [] (mK μ b T) Q = Q 0 (mK μ b (tDrop T k)) := by
  simp (disch := first | assumption | omega) only [e282_0, e282_1, e282_2, e282_3, e282_5, e282_6, e282_7, e282_10, e282_13, e282_14, e282_15, e282_16, e282_19, e282_20, e282_23, e282_24, e282_25, e282_26, e282_29, e282_30, e282_31, e282_32, e282_33, e282_36, e282_39, e282_42, e282_45, e282_46, e282_49, e282_50, e282_53, e282_56, e282_57, e282_58, e282_61, gK0_eq, gK1_eq, gK3_eq, w32_id, bI_eq0, bI_eq1, Bool.false_eq_true, not_true_eq_false, not_false_eq_true, ne_eq, ite_not, ↓reduceIte, if_true, if_false, Int.reduceToNat, Nat.reduceAdd]
  rw [s_drops_loop (k := k) (e := 4 * T 1813 - 4) hb (by omega) (4 * T 1813 - 4 - 4 * k).toNat (4 * k) T (by omega) (by omega) rfl]
  have e1 : tShL T (1814 + 4 * k) (1814 + (4 * T 1813 - 4)) 1813 = T 1813 := tShL_lo (by omega)
  simp (disch := first | assumption | omega) only [e282_0, e282_1, e282_2, e282_3, e282_5, e282_6, e282_7, e282_10, e282_13, e282_14, e282_15, e282_16, e282_19, e282_20, e282_23, e282_24, e282_25, e282_26, e282_29, e282_30, e282_31, e282_32, e282_33, e282_36, e282_39, e282_42, e282_45, e282_46, e282_49, e282_50, e282_53, e282_56, e282_57, e282_58, e282_61, gK0_eq, gK1_eq, gK3_eq, w32_id, bI_eq0, bI_eq1, Bool.false_eq_true, not_true_eq_false, not_false_eq_true, ne_eq, ite_not, ↓reduceIte, if_true, if_false, Int.reduceToNat, Nat.reduceAdd, s_of, s_lay, e1, tDrop, Int.add_sub_assoc]
theorem tDrop_1813 {k : Int} : tDrop T k 1813 = T 1813 - 1 := tS_same
theorem s_forgets_loop {d p : Int} (hb : gBk μ b) : ∀ (n : Nat) (T : Int → Int), (n : Int) ≤ T 1813 → T 1813 ≤ 16 →
    gE 283 10 [gO 10 167, gI d, gI p, gI ((n : Int) - 1)] [] (mK μ b T) Q = Q 0 (mK μ b (tFor d p n T)) := by
  intro n
  induction n with
  | zero =>
    intro T h0 h1
    have h : ((0 : Nat) : Int) - 1 < 0 := by omega
    rw [e283_10]
    simp (disch := first | assumption | omega) only [e283_0, e283_1, e283_4, e283_7, e283_8, e283_9, e283_11, e283_14, e283_15, e283_18, e283_19, e283_20, e283_21, e283_22, e283_25, e283_26, e283_29, e283_30, e283_33, e283_34, e283_37, e283_38, e283_39, e283_40, e283_41, e283_42, e283_43, e283_46, e283_47, e283_50, e283_51, e283_52, e283_55, e283_58, e283_61, gK0_eq, gK1_eq, gK3_eq, w32_id, bI_eq0, bI_eq1, Bool.false_eq_true, not_true_eq_false, not_false_eq_true, ne_eq, ite_not, ↓reduceIte, if_true, if_false, Int.reduceToNat, Nat.reduceAdd, h, tFor]
  | succ n ih =>
    intro T h0 h1
    have e0 : ((n + 1 : Nat) : Int) - 1 = n := by omega
    have e1 : (n : Int) + -1 = (n : Int) - 1 := by omega
    rw [e0, e283_10]
    have h : ¬ (n : Int) < 0 := by omega
    by_cases hc : T (1814 + 4 * n) = d
    · by_cases hp : p < 0
      · simp (disch := first | assumption | omega) only [e283_0, e283_1, e283_4, e283_7, e283_8, e283_9, e283_11, e283_14, e283_15, e283_18, e283_19, e283_20, e283_21, e283_22, e283_25, e283_26, e283_29, e283_30, e283_33, e283_34, e283_37, e283_38, e283_39, e283_40, e283_41, e283_42, e283_43, e283_46, e283_47, e283_50, e283_51, e283_52, e283_55, e283_58, e283_61, gK0_eq, gK1_eq, gK3_eq, w32_id, bI_eq0, bI_eq1, Bool.false_eq_true, not_true_eq_false, not_false_eq_true, ne_eq, ite_not, ↓reduceIte, if_true, if_false, Int.reduceToNat, Nat.reduceAdd, h, s_of, hc, hp, s_drops]
        rw [e1, ih _ (by rw [tDrop_1813]; omega) (by rw [tDrop_1813]; omega)]
        simp only [tFor, hc, hp, true_or, true_and, if_true]
      · by_cases hq : T (1814 + 4 * n + 1) = p
        · simp (disch := first | assumption | omega) only [e283_0, e283_1, e283_4, e283_7, e283_8, e283_9, e283_11, e283_14, e283_15, e283_18, e283_19, e283_20, e283_21, e283_22, e283_25, e283_26, e283_29, e283_30, e283_33, e283_34, e283_37, e283_38, e283_39, e283_40, e283_41, e283_42, e283_43, e283_46, e283_47, e283_50, e283_51, e283_52, e283_55, e283_58, e283_61, gK0_eq, gK1_eq, gK3_eq, w32_id, bI_eq0, bI_eq1, Bool.false_eq_true, not_true_eq_false, not_false_eq_true, ne_eq, ite_not, ↓reduceIte, if_true, if_false, Int.reduceToNat, Nat.reduceAdd, h, s_of, hc, hp, hq, s_drops]
          rw [e1, ih _ (by rw [tDrop_1813]; omega) (by rw [tDrop_1813]; omega)]
          simp only [tFor, hc, hq, or_true, true_and, if_true]
        · simp (disch := first | assumption | omega) only [e283_0, e283_1, e283_4, e283_7, e283_8, e283_9, e283_11, e283_14, e283_15, e283_18, e283_19, e283_20, e283_21, e283_22, e283_25, e283_26, e283_29, e283_30, e283_33, e283_34, e283_37, e283_38, e283_39, e283_40, e283_41, e283_42, e283_43, e283_46, e283_47, e283_50, e283_51, e283_52, e283_55, e283_58, e283_61, gK0_eq, gK1_eq, gK3_eq, w32_id, bI_eq0, bI_eq1, Bool.false_eq_true, not_true_eq_false, not_false_eq_true, ne_eq, ite_not, ↓reduceIte, if_true, if_false, Int.reduceToNat, Nat.reduceAdd, h, s_of, hc, hp, hq]
          rw [e1, ih _ (by omega) h1]
          simp only [tFor, hc, hp, hq, or_self, and_false, if_false]
    · simp (disch := first | assumption | omega) only [e283_0, e283_1, e283_4, e283_7, e283_8, e283_9, e283_11, e283_14, e283_15, e283_18, e283_19, e283_20, e283_21, e283_22, e283_25, e283_26, e283_29, e283_30, e283_33, e283_34, e283_37, e283_38, e283_39, e283_40, e283_41, e283_42, e283_43, e283_46, e283_47, e283_50, e283_51, e283_52, e283_55, e283_58, e283_61, gK0_eq, gK1_eq, gK3_eq, w32_id, bI_eq0, bI_eq1, Bool.false_eq_true, not_true_eq_false, not_false_eq_true, ne_eq, ite_not, ↓reduceIte, if_true, if_false, Int.reduceToNat, Nat.reduceAdd, h, s_of, hc]
      rw [e1, ih _ (by omega) h1]
      simp only [tFor, hc, false_and, if_false]
theorem s_forgets {d p : Int} (hb : gBk μ b) (hC : 0 ≤ T 1813 ∧ T 1813 ≤ 16) : gE 283 0 [gO 10 167, gI d, gI p, gX] [] (mK μ b T) Q = Q 0 (mK μ b (tFor d p (T 1813).toNat T)) := by
  simp (disch := first | assumption | omega) only [e283_0, e283_1, e283_4, e283_7, e283_8, e283_9, e283_11, e283_14, e283_15, e283_18, e283_19, e283_20, e283_21, e283_22, e283_25, e283_26, e283_29, e283_30, e283_33, e283_34, e283_37, e283_38, e283_39, e283_40, e283_41, e283_42, e283_43, e283_46, e283_47, e283_50, e283_51, e283_52, e283_55, e283_58, e283_61, gK0_eq, gK1_eq, gK3_eq, w32_id, bI_eq0, bI_eq1, Bool.false_eq_true, not_true_eq_false, not_false_eq_true, ne_eq, ite_not, ↓reduceIte, if_true, if_false, Int.reduceToNat, Nat.reduceAdd, s_of]
  have h := s_forgets_loop (d := d) (p := p) (Q := Q) hb (T 1813).toNat T (by omega) (by omega)
  rw [show ((T 1813).toNat : Int) = T 1813 by omega] at h
  exact h
theorem s_isOpen_loop {f : Int} (hb : gBk μ b) (hf : 0 ≤ f ∧ f < 64) : ∀ (m : Nat) (k : Int), 0 ≤ k → k + m = 8 →
    gE 284 2 [gO 10 167, gI f, gI k] [] (mK μ b T) Q = Q (bI (anyF (fun k => decide (T (1152 + 8 * f + k) ≠ 0)) k m = true)) (mK μ b T) := by
  intro m
  induction m with
  | zero =>
    intro k h0 h1
    have h : 8 ≤ k := by omega
    rw [e284_2, bI_f (by simp [anyF])]
    simp (disch := first | assumption | omega) only [e284_0, e284_1, e284_3, e284_5, e284_8, e284_9, e284_12, e284_14, e284_15, e284_16, e284_17, e284_18, e284_19, e284_22, e284_25, e284_26, e284_27, e284_30, e284_33, e284_34, gK0_eq, gK1_eq, gK3_eq, w32_id, bI_eq0, bI_eq1, Bool.false_eq_true, not_true_eq_false, not_false_eq_true, ne_eq, ite_not, ↓reduceIte, if_true, if_false, Int.reduceToNat, Nat.reduceAdd, h]
  | succ m ih =>
    intro k h0 h1
    have h : ¬ 8 ≤ k := by omega
    rw [e284_2]
    by_cases hc : T (1152 + 8 * f + k) = 0
    · simp (disch := first | assumption | omega) only [e284_0, e284_1, e284_3, e284_5, e284_8, e284_9, e284_12, e284_14, e284_15, e284_16, e284_17, e284_18, e284_19, e284_22, e284_25, e284_26, e284_27, e284_30, e284_33, e284_34, gK0_eq, gK1_eq, gK3_eq, w32_id, bI_eq0, bI_eq1, Bool.false_eq_true, not_true_eq_false, not_false_eq_true, ne_eq, ite_not, ↓reduceIte, if_true, if_false, Int.reduceToNat, Nat.reduceAdd, h, s_of, hc]
      rw [ih (k + 1) (by omega) (by omega)]
      simp only [anyF, hc, ne_eq, not_true_eq_false, decide_false, Bool.false_or]
    · rw [bI_t (by simp [anyF, hc])]
      simp (disch := first | assumption | omega) only [e284_0, e284_1, e284_3, e284_5, e284_8, e284_9, e284_12, e284_14, e284_15, e284_16, e284_17, e284_18, e284_19, e284_22, e284_25, e284_26, e284_27, e284_30, e284_33, e284_34, gK0_eq, gK1_eq, gK3_eq, w32_id, bI_eq0, bI_eq1, Bool.false_eq_true, not_true_eq_false, not_false_eq_true, ne_eq, ite_not, ↓reduceIte, if_true, if_false, Int.reduceToNat, Nat.reduceAdd, h, s_of, hc]
theorem s_isOpen {f : Int} (hb : gBk μ b) (hf : 0 ≤ f ∧ f < 64) : gE 284 0 [gO 10 167, gI f, gX] [] (mK μ b T) Q = Q (bI (tOpn T f = true)) (mK μ b T) := by
  simp (disch := first | assumption | omega) only [e284_0, e284_1, e284_3, e284_5, e284_8, e284_9, e284_12, e284_14, e284_15, e284_16, e284_17, e284_18, e284_19, e284_22, e284_25, e284_26, e284_27, e284_30, e284_33, e284_34, gK0_eq, gK1_eq, gK3_eq, w32_id, bI_eq0, bI_eq1, Bool.false_eq_true, not_true_eq_false, not_false_eq_true, ne_eq, ite_not, ↓reduceIte, if_true, if_false, Int.reduceToNat, Nat.reduceAdd]
  rw [s_isOpen_loop hb hf 8 0 (by omega) (by omega)]
  rfl
theorem tPa1_D {st f : Int} (hf : 0 ≤ f ∧ f < 64) : tPa1 st f T 1672 = T 1672 := by
  unfold tPa1
  split
  · exact tS_ne (by omega)
  · rfl
theorem s_passes_loop {st : Int} (hb : gBk μ b) : ∀ (m : Nat) (f : Int) (T : Int → Int), 0 ≤ T 1672 ∧ T 1672 ≤ 4 → 0 ≤ f → f + m = 64 →
    gE 285 9 [gO 10 167, gI st, gI f] [] (mK μ b T) Q = Q 0 (mK μ b (itF (fun f T => tPa1 st f T) f m T)) := by
  intro m
  induction m with
  | zero =>
    intro f T hD h0 h1
    have h : 64 ≤ f := by omega
    rw [e285_9]
    simp (disch := first | assumption | omega) only [e285_0, e285_1, e285_4, e285_7, e285_8, e285_10, e285_12, e285_15, e285_16, e285_17, e285_20, e285_21, e285_24, e285_25, e285_26, e285_29, e285_32, e285_33, e285_36, e285_37, e285_38, e285_41, e285_42, e285_45, e285_46, e285_49, e285_50, e285_51, e285_52, e285_55, e285_58, e285_61, gK0_eq, gK1_eq, gK3_eq, w32_id, bI_eq0, bI_eq1, Bool.false_eq_true, not_true_eq_false, not_false_eq_true, ne_eq, ite_not, ↓reduceIte, if_true, if_false, Int.reduceToNat, Nat.reduceAdd, h, itF]
  | succ m ih =>
    intro f T hD h0 h1
    have h : ¬ 64 ≤ f := by omega
    rw [e285_9]
    simp only [itF]
    rw [← ih (f + 1) (tPa1 st f T) (by rw [tPa1_D (by omega)]; exact hD) (by omega) (by omega)]
    by_cases h2 : tState T f = 2
    · cases h3 : tOpn T f with
      | true => simp (disch := first | assumption | omega) only [e285_0, e285_1, e285_4, e285_7, e285_8, e285_10, e285_12, e285_15, e285_16, e285_17, e285_20, e285_21, e285_24, e285_25, e285_26, e285_29, e285_32, e285_33, e285_36, e285_37, e285_38, e285_41, e285_42, e285_45, e285_46, e285_49, e285_50, e285_51, e285_52, e285_55, e285_58, e285_61, gK0_eq, gK1_eq, gK3_eq, w32_id, bI_eq0, bI_eq1, Bool.false_eq_true, not_true_eq_false, not_false_eq_true, ne_eq, ite_not, ↓reduceIte, if_true, if_false, Int.reduceToNat, Nat.reduceAdd, h, s_stateOf, s_isOpen, h2, h3, tPa1, reduceCtorEq, false_and, and_false]
      | false =>
        by_cases h4 : T (1088 + f) < st
        · have h5 : ¬ st ≤ T (1088 + f) := by omega
          simp (disch := first | assumption | omega) only [e285_0, e285_1, e285_4, e285_7, e285_8, e285_10, e285_12, e285_15, e285_16, e285_17, e285_20, e285_21, e285_24, e285_25, e285_26, e285_29, e285_32, e285_33, e285_36, e285_37, e285_38, e285_41, e285_42, e285_45, e285_46, e285_49, e285_50, e285_51, e285_52, e285_55, e285_58, e285_61, gK0_eq, gK1_eq, gK3_eq, w32_id, bI_eq0, bI_eq1, Bool.false_eq_true, not_true_eq_false, not_false_eq_true, ne_eq, ite_not, ↓reduceIte, if_true, if_false, Int.reduceToNat, Nat.reduceAdd, h, s_stateOf, s_isOpen, s_of, s_lay, h2, h3, h4, h5, tPa1, and_self]
        · have h5 : st ≤ T (1088 + f) := by omega
          simp (disch := first | assumption | omega) only [e285_0, e285_1, e285_4, e285_7, e285_8, e285_10, e285_12, e285_15, e285_16, e285_17, e285_20, e285_21, e285_24, e285_25, e285_26, e285_29, e285_32, e285_33, e285_36, e285_37, e285_38, e285_41, e285_42, e285_45, e285_46, e285_49, e285_50, e285_51, e285_52, e285_55, e285_58, e285_61, gK0_eq, gK1_eq, gK3_eq, w32_id, bI_eq0, bI_eq1, Bool.false_eq_true, not_true_eq_false, not_false_eq_true, ne_eq, ite_not, ↓reduceIte, if_true, if_false, Int.reduceToNat, Nat.reduceAdd, h, s_stateOf, s_isOpen, s_of, s_lay, h2, h3, h4, h5, tPa1, and_false]
    · simp (disch := first | assumption | omega) only [e285_0, e285_1, e285_4, e285_7, e285_8, e285_10, e285_12, e285_15, e285_16, e285_17, e285_20, e285_21, e285_24, e285_25, e285_26, e285_29, e285_32, e285_33, e285_36, e285_37, e285_38, e285_41, e285_42, e285_45, e285_46, e285_49, e285_50, e285_51, e285_52, e285_55, e285_58, e285_61, gK0_eq, gK1_eq, gK3_eq, w32_id, bI_eq0, bI_eq1, Bool.false_eq_true, not_true_eq_false, not_false_eq_true, ne_eq, ite_not, ↓reduceIte, if_true, if_false, Int.reduceToNat, Nat.reduceAdd, h, s_stateOf, h2, tPa1, false_and]
theorem s_passes {st : Int} (hb : gBk μ b) (hD : 0 ≤ T 1672 ∧ T 1672 ≤ 4) : gE 285 0 [gO 10 167, gI st, gX] [] (mK μ b T) Q = Q 0 (mK μ b (tPas T st)) := by
  simp (disch := first | assumption | omega) only [e285_0, e285_1, e285_4, e285_7, e285_8, e285_10, e285_12, e285_15, e285_16, e285_17, e285_20, e285_21, e285_24, e285_25, e285_26, e285_29, e285_32, e285_33, e285_36, e285_37, e285_38, e285_41, e285_42, e285_45, e285_46, e285_49, e285_50, e285_51, e285_52, e285_55, e285_58, e285_61, gK0_eq, gK1_eq, gK3_eq, w32_id, bI_eq0, bI_eq1, Bool.false_eq_true, not_true_eq_false, not_false_eq_true, ne_eq, ite_not, ↓reduceIte, if_true, if_false, Int.reduceToNat, Nat.reduceAdd, s_more]
  rw [s_passes_loop hb 64 0 _ (by rw [tS_ne (by omega)]; exact hD) (by omega) (by omega)]
  rfl
theorem s_isWorked_loop (hb : gBk μ b) {l1 l2 l3 l4 : gv} {e : Int} (he : 0 ≤ e ∧ e ≤ 124) : ∀ (m : Nat) (i : Int) (T : Int → Int), 4 ≤ i → i + m = e + 4 → 4 * T 1681 = e + 4 →
    gE 286 48 [gO 10 167, l1, l2, l3, l4, gI i] [] (mK μ b T) Q = gE 286 90 [gO 10 167, l1, l2, l3, l4, gI (e + 4)] [] (mK μ b (tShL T (1682 + i - 4) (1682 + e))) Q := by
  intro m
  induction m with
  | zero =>
    intro i T h0 h1 h2
    have h : 4 * T 1681 ≤ i := by omega
    rw [e286_48, tShL_id (by omega)]
    simp (disch := first | assumption | omega) only [e286_0, e286_1, e286_4, e286_7, e286_10, e286_11, e286_12, e286_13, e286_16, e286_19, e286_20, e286_21, e286_24, e286_27, e286_28, e286_29, e286_32, e286_35, e286_36, e286_37, e286_40, e286_43, e286_45, e286_46, e286_50, e286_51, e286_52, e286_55, e286_58, e286_59, e286_62, e286_63, e286_66, e286_68, e286_69, e286_70, e286_71, e286_72, e286_75, e286_77, e286_78, e286_81, e286_84, e286_87, e286_91, e286_94, e286_95, e286_98, e286_101, e286_102, e286_103, e286_106, e286_107, e286_108, e286_111, e286_112, e286_114, e286_117, e286_120, e286_121, e286_122, e286_123, e286_126, e286_127, e286_130, e286_131, e286_134, e286_135, gK0_eq, gK1_eq, gK3_eq, w32_id, bI_eq0, bI_eq1, Bool.false_eq_true, not_true_eq_false, not_false_eq_true, ne_eq, ite_not, ↓reduceIte, if_true, if_false, Int.reduceToNat, Nat.reduceAdd, s_of, h]
    rw [show i = e + 4 by omega]
  | succ m ih =>
    intro i T h0 h1 h2
    have h : ¬ 4 * T 1681 ≤ i := by omega
    rw [e286_48]
    simp (disch := first | assumption | omega) only [e286_0, e286_1, e286_4, e286_7, e286_10, e286_11, e286_12, e286_13, e286_16, e286_19, e286_20, e286_21, e286_24, e286_27, e286_28, e286_29, e286_32, e286_35, e286_36, e286_37, e286_40, e286_43, e286_45, e286_46, e286_50, e286_51, e286_52, e286_55, e286_58, e286_59, e286_62, e286_63, e286_66, e286_68, e286_69, e286_70, e286_71, e286_72, e286_75, e286_77, e286_78, e286_81, e286_84, e286_87, e286_91, e286_94, e286_95, e286_98, e286_101, e286_102, e286_103, e286_106, e286_107, e286_108, e286_111, e286_112, e286_114, e286_117, e286_120, e286_121, e286_122, e286_123, e286_126, e286_127, e286_130, e286_131, e286_134, e286_135, gK0_eq, gK1_eq, gK3_eq, w32_id, bI_eq0, bI_eq1, Bool.false_eq_true, not_true_eq_false, not_false_eq_true, ne_eq, ite_not, ↓reduceIte, if_true, if_false, Int.reduceToNat, Nat.reduceAdd, s_of, s_lay, h]
    rw [ih (i + 1) _ (by omega) (by omega) (by rw [tS_ne (by omega)]; exact h2)]
    have := tShL_step (T := T) (a := 1682 + i - 4) (e := 1682 + e) (by omega)
    rw [show 1682 + i - 4 + 4 = 1682 + i by omega] at this
    rw [show 1682 + (i + 1) - 4 = 1682 + i - 4 + 1 by omega, this]
theorem s_isWorked0 (hb : gBk μ b) (h : T 1681 = 0) : gE 286 0 [gO 10 167, gX, gX, gX, gX, gX] [] (mK μ b T) Q = Q 0 (mK μ b T) := by
  simp (disch := first | assumption | omega) only [e286_0, e286_1, e286_4, e286_7, e286_10, e286_11, e286_12, e286_13, e286_16, e286_19, e286_20, e286_21, e286_24, e286_27, e286_28, e286_29, e286_32, e286_35, e286_36, e286_37, e286_40, e286_43, e286_45, e286_46, e286_50, e286_51, e286_52, e286_55, e286_58, e286_59, e286_62, e286_63, e286_66, e286_68, e286_69, e286_70, e286_71, e286_72, e286_75, e286_77, e286_78, e286_81, e286_84, e286_87, e286_90, e286_91, e286_94, e286_95, e286_98, e286_101, e286_102, e286_103, e286_106, e286_107, e286_108, e286_111, e286_112, e286_114, e286_117, e286_120, e286_121, e286_122, e286_123, e286_126, e286_127, e286_130, e286_131, e286_134, e286_135, gK0_eq, gK1_eq, gK3_eq, w32_id, bI_eq0, bI_eq1, Bool.false_eq_true, not_true_eq_false, not_false_eq_true, ne_eq, ite_not, ↓reduceIte, if_true, if_false, Int.reduceToNat, Nat.reduceAdd, s_of, h]
theorem s_isWorked (hb : gBk μ b) (hD : 0 ≤ T 1672 ∧ T 1672 ≤ 4) (hq : 0 < T 1681 ∧ T 1681 ≤ 32) (hC : 0 ≤ T 1813 ∧ T 1813 ≤ 16) : gE 286 0 [gO 10 167, gX, gX, gX, gX, gX] [] (mK μ b T) Q = Q 1 (mK μ b (tWrk T)) := by
  have h0 : ¬ T 1681 = 0 := by omega
  simp (disch := first | assumption | omega) only [e286_0, e286_1, e286_4, e286_7, e286_10, e286_11, e286_12, e286_13, e286_16, e286_19, e286_20, e286_21, e286_24, e286_27, e286_28, e286_29, e286_32, e286_35, e286_36, e286_37, e286_40, e286_43, e286_45, e286_46, e286_50, e286_51, e286_52, e286_55, e286_58, e286_59, e286_62, e286_63, e286_66, e286_68, e286_69, e286_70, e286_71, e286_72, e286_75, e286_77, e286_78, e286_81, e286_84, e286_87, e286_90, e286_91, e286_94, e286_95, e286_98, e286_101, e286_102, e286_103, e286_106, e286_107, e286_108, e286_111, e286_112, e286_114, e286_117, e286_120, e286_121, e286_122, e286_123, e286_126, e286_127, e286_130, e286_131, e286_134, e286_135, gK0_eq, gK1_eq, gK3_eq, w32_id, bI_eq0, bI_eq1, Bool.false_eq_true, not_true_eq_false, not_false_eq_true, ne_eq, ite_not, ↓reduceIte, if_true, if_false, Int.reduceToNat, Nat.reduceAdd, s_of, h0]
  rw [s_isWorked_loop hb (e := 4 * T 1681 - 4) (by omega) (4 * T 1681 - 4).toNat 4 T (by omega) (by omega) (by omega)]
  have e1 : tShL T (1682 + 4 - 4) (1682 + (4 * T 1681 - 4)) 1681 = T 1681 := tShL_lo (by omega)
  have e2 : tS (tShL T (1682 + 4 - 4) (1682 + (4 * T 1681 - 4))) 1681 (T 1681 - 1) = tQGo T := by
    unfold tQGo
    rw [show (1682 : Int) + 4 - 4 = 1682 by omega, show 1682 + (4 * T 1681 - 4) = 1682 + 4 * T 1681 - 4 by omega]
  have hD2 : 0 ≤ tQGo T 1672 ∧ tQGo T 1672 ≤ 4 := by
    unfold tQGo
    rw [tS_ne (by omega), tShL_lo (by omega)]
    exact hD
  have e3 : tQGo T 1813 = T 1813 := by
    unfold tQGo
    rw [tS_ne (by omega), tShL_lo (by omega)]
  have hC2 : 0 ≤ tQGo T 1813 ∧ tQGo T 1813 ≤ 16 := by rw [e3]; exact hC
  simp (disch := first | assumption | omega) only [e286_0, e286_1, e286_4, e286_7, e286_10, e286_11, e286_12, e286_13, e286_16, e286_19, e286_20, e286_21, e286_24, e286_27, e286_28, e286_29, e286_32, e286_35, e286_36, e286_37, e286_40, e286_43, e286_45, e286_46, e286_50, e286_51, e286_52, e286_55, e286_58, e286_59, e286_62, e286_63, e286_66, e286_68, e286_69, e286_70, e286_71, e286_72, e286_75, e286_77, e286_78, e286_81, e286_84, e286_87, e286_90, e286_91, e286_94, e286_95, e286_98, e286_101, e286_102, e286_103, e286_106, e286_107, e286_108, e286_111, e286_112, e286_114, e286_117, e286_120, e286_121, e286_122, e286_123, e286_126, e286_127, e286_130, e286_131, e286_134, e286_135, gK0_eq, gK1_eq, gK3_eq, w32_id, bI_eq0, bI_eq1, Bool.false_eq_true, not_true_eq_false, not_false_eq_true, ne_eq, ite_not, ↓reduceIte, if_true, if_false, Int.reduceToNat, Nat.reduceAdd, s_of, s_lay, e1, e2]
  by_cases hs : T 1682 = 2
  · simp (disch := first | assumption | omega) only [e286_0, e286_1, e286_4, e286_7, e286_10, e286_11, e286_12, e286_13, e286_16, e286_19, e286_20, e286_21, e286_24, e286_27, e286_28, e286_29, e286_32, e286_35, e286_36, e286_37, e286_40, e286_43, e286_45, e286_46, e286_50, e286_51, e286_52, e286_55, e286_58, e286_59, e286_62, e286_63, e286_66, e286_68, e286_69, e286_70, e286_71, e286_72, e286_75, e286_77, e286_78, e286_81, e286_84, e286_87, e286_90, e286_91, e286_94, e286_95, e286_98, e286_101, e286_102, e286_103, e286_106, e286_107, e286_108, e286_111, e286_112, e286_114, e286_117, e286_120, e286_121, e286_122, e286_123, e286_126, e286_127, e286_130, e286_131, e286_134, e286_135, gK0_eq, gK1_eq, gK3_eq, w32_id, bI_eq0, bI_eq1, Bool.false_eq_true, not_true_eq_false, not_false_eq_true, ne_eq, ite_not, ↓reduceIte, if_true, if_false, Int.reduceToNat, Nat.reduceAdd, hs, s_passes, tWrk]
  · by_cases hz : T 1682 = 0
    · have h2 : ¬ (0 : Int) = 2 := by omega
      simp (disch := first | assumption | omega) only [e286_0, e286_1, e286_4, e286_7, e286_10, e286_11, e286_12, e286_13, e286_16, e286_19, e286_20, e286_21, e286_24, e286_27, e286_28, e286_29, e286_32, e286_35, e286_36, e286_37, e286_40, e286_43, e286_45, e286_46, e286_50, e286_51, e286_52, e286_55, e286_58, e286_59, e286_62, e286_63, e286_66, e286_68, e286_69, e286_70, e286_71, e286_72, e286_75, e286_77, e286_78, e286_81, e286_84, e286_87, e286_90, e286_91, e286_94, e286_95, e286_98, e286_101, e286_102, e286_103, e286_106, e286_107, e286_108, e286_111, e286_112, e286_114, e286_117, e286_120, e286_121, e286_122, e286_123, e286_126, e286_127, e286_130, e286_131, e286_134, e286_135, gK0_eq, gK1_eq, gK3_eq, w32_id, bI_eq0, bI_eq1, Bool.false_eq_true, not_true_eq_false, not_false_eq_true, ne_eq, ite_not, ↓reduceIte, if_true, if_false, Int.reduceToNat, Nat.reduceAdd, hz, h2, s_forgets, tWrk, e3]
    · simp (disch := first | assumption | omega) only [e286_0, e286_1, e286_4, e286_7, e286_10, e286_11, e286_12, e286_13, e286_16, e286_19, e286_20, e286_21, e286_24, e286_27, e286_28, e286_29, e286_32, e286_35, e286_36, e286_37, e286_40, e286_43, e286_45, e286_46, e286_50, e286_51, e286_52, e286_55, e286_58, e286_59, e286_62, e286_63, e286_66, e286_68, e286_69, e286_70, e286_71, e286_72, e286_75, e286_77, e286_78, e286_81, e286_84, e286_87, e286_90, e286_91, e286_94, e286_95, e286_98, e286_101, e286_102, e286_103, e286_106, e286_107, e286_108, e286_111, e286_112, e286_114, e286_117, e286_120, e286_121, e286_122, e286_123, e286_126, e286_127, e286_130, e286_131, e286_134, e286_135, gK0_eq, gK1_eq, gK3_eq, w32_id, bI_eq0, bI_eq1, Bool.false_eq_true, not_true_eq_false, not_false_eq_true, ne_eq, ite_not, ↓reduceIte, if_true, if_false, Int.reduceToNat, Nat.reduceAdd, hs, hz, s_forgets, tWrk, e3]
end MODEL3
