/-! the check's text: tokens -/
def nRun (P : Int → Bool) : Nat → Int → Int
  | 0, k => k
  | m + 1, k => if P k = true then nRun P m (k + 1) else k
def isB (f : Int → Int) (stop k : Int) : Bool := decide (k < stop) && (decide (f k = 10) || decide (f k = 32))
def isS (f : Int → Int) (stop k : Int) : Bool := decide (k < stop) && (decide (97 ≤ f k) && decide (f k ≤ 122))
def isN (f : Int → Int) (stop k : Int) : Bool := decide (k < stop) && (decide (48 ≤ f k) && decide (f k ≤ 57))
def tNum (f : Int → Int) : Nat → Int → Int → Int
  | 0, _, v => v
  | m + 1, k, v => tNum f m (k + 1) (if 99999 < v then v else 10 * v + f k - 48)
def xPk (f : Int → Int) (a b : Int) : Int := itF (fun k n => ior32 (ishl32 n 5) (if k < b then f k - 96 else 0)) a 6 0
def wdr : List Int := [98, 114, 105, 100, 103, 101, 32, 100, 101, 118, 105, 99, 101, 32, 97, 108, 105, 97, 115, 32, 115, 112, 97, 110, 32, 115, 116, 97, 108, 108, 32, 114, 111, 111, 109, 32, 115, 101, 101, 100, 32, 114, 111, 111, 116, 32]
def wdM (f : Int → Int) (a b s n : Int) : Bool := decide (n = b - a) && !anyF (fun i => decide (wdr.getD (s + i).toNat 0 ≠ f (a + i))) 0 n.toNat
def xWd (f : Int → Int) (a b : Int) : Int := if wdM f a b 0 6 = true then 0 else if wdM f a b 7 6 = true then 1 else if wdM f a b 14 5 = true then 2 else if wdM f a b 20 4 = true then 3 else if wdM f a b 25 5 = true then 4 else if wdM f a b 31 4 = true then 5 else if wdM f a b 36 4 = true then 6 else if wdM f a b 41 4 = true then 7 else -1
def kA (f : Int → Int) (stop n : Int) : Int := nRun (isB f stop) (stop - n).toNat n
def kE (f : Int → Int) (stop a : Int) : Int := nRun (isS f stop) (stop - a).toNat a
def kD (f : Int → Int) (stop a : Int) : Int := nRun (isN f stop) (stop - a).toNat a
def kK (f : Int → Int) (stop a : Int) : Int := if a = stop then 0 else if isS f stop a = true then (if 0 ≤ xWd f a (kE f stop a) then 1 else if 6 < kE f stop a - a then 5 else 2) else if isN f stop a = true then 3 else if f a = 59 then 4 else 5
def kW (f : Int → Int) (stop a old : Int) : Int := if a = stop then old else if isS f stop a = true then (if 0 ≤ xWd f a (kE f stop a) then xWd f a (kE f stop a) else if 6 < kE f stop a - a then -1 else xPk f a (kE f stop a)) else if isN f stop a = true then tNum f (kD f stop a - a).toNat a 0 else old
def kN (f : Int → Int) (stop a : Int) : Int := if a = stop then a else if isS f stop a = true then kE f stop a else if isN f stop a = true then kD f stop a else a + 1
def mTk (μ : gM) (k w a n : Int) : gM := fun p i => if p = 167 ∧ i = 8 then k else if p = 167 ∧ i = 9 then w else if p = 167 ∧ i = 10 then a else if p = 167 ∧ i = 7 then n else μ p i
def gIW (μ : gM) : Prop := ∀ k : Nat, k < 46 → μ 169 k = wdr.getD k 0
section TEXT1
variable {μ : gM} {Q : Int → gM → Prop}
theorem nRun_in {P : Int → Bool} : ∀ (m : Nat) (k : Int), k ≤ nRun P m k ∧ nRun P m k ≤ k + m := by
  intro m
  induction m with
  | zero => intro k; rw [nRun]; omega
  | succ m ih =>
    intro k
    rw [nRun]
    split
    · have := ih (k + 1); omega
    · omega
theorem mTk_id : mTk μ (μ 167 8) (μ 167 9) (μ 167 10) (μ 167 7) = μ := by
  funext p i
  unfold mTk
  split
  · rename_i h; rw [h.1, h.2]
  · split
    · rename_i h; rw [h.1, h.2]
    · split
      · rename_i h; rw [h.1, h.2]
      · split
        · rename_i h; rw [h.1, h.2]
        · rfl
theorem mTk_8 {k w a n : Int} : mTk μ k w a n 167 8 = k := if_pos ⟨rfl, rfl⟩
theorem mTk_9 {k w a n : Int} : mTk μ k w a n 167 9 = w := by unfold mTk; rw [if_neg (by omega), if_pos ⟨rfl, rfl⟩]
theorem mTk_10 {k w a n : Int} : mTk μ k w a n 167 10 = a := by unfold mTk; rw [if_neg (by omega), if_neg (by omega), if_pos ⟨rfl, rfl⟩]
theorem mTk_7 {k w a n : Int} : mTk μ k w a n 167 7 = n := by unfold mTk; rw [if_neg (by omega), if_neg (by omega), if_neg (by omega), if_pos ⟨rfl, rfl⟩]
theorem mTk_ne {k w a n : Int} {p : Nat} {i : Int} (h : p ≠ 167 ∨ (i ≠ 7 ∧ i ≠ 8 ∧ i ≠ 9 ∧ i ≠ 10)) : mTk μ k w a n p i = μ p i := by
  unfold mTk; rw [if_neg (by omega), if_neg (by omega), if_neg (by omega), if_neg (by omega)]
theorem gS_mTk8 {k w a n v : Int} : gS (mTk μ k w a n) 167 8 v = mTk μ v w a n := by
  funext p i; unfold gS mTk
  by_cases h : p = 167 ∧ i = 8
  · rw [if_pos h, if_pos h]
  · rw [if_neg h, if_neg h, if_neg h]
theorem gS_mTk9 {k w a n v : Int} : gS (mTk μ k w a n) 167 9 v = mTk μ k v a n := by
  funext p i; unfold gS mTk
  by_cases h : p = 167 ∧ i = 9
  · rw [if_pos h, if_neg (by omega), if_pos h]
  · rw [if_neg h, if_neg h, if_neg h]
theorem gS_mTk10 {k w a n v : Int} : gS (mTk μ k w a n) 167 10 v = mTk μ k w v n := by
  funext p i; unfold gS mTk
  by_cases h : p = 167 ∧ i = 10
  · rw [if_pos h, if_neg (by omega), if_neg (by omega), if_pos h]
  · rw [if_neg h, if_neg h, if_neg h]
theorem gS_mTk7 {k w a n v : Int} : gS (mTk μ k w a n) 167 7 v = mTk μ k w a v := by
  funext p i; unfold gS mTk
  by_cases h : p = 167 ∧ i = 7
  · rw [if_pos h, if_neg (by omega), if_neg (by omega), if_neg (by omega), if_pos h]
  · rw [if_neg h, if_neg h, if_neg h]
theorem s_isSmall {k : Int} (hk : 0 ≤ k) (hs : μ 167 6 ≤ 700) : gE 213 0 [gO 10 167, gI k] [] μ Q = Q (bI (isS (μ 168) (μ 167 6) k = true)) μ := by
  unfold isS
  by_cases c : k < μ 167 6
  · by_cases c1 : 97 ≤ μ 168 k
    · by_cases c2 : μ 168 k ≤ 122
      · simp (disch := first | assumption | omega) only [e213_0, e213_1, e213_2, e213_5, e213_8, e213_9, e213_12, e213_13, e213_14, e213_16, e213_19, e213_20, e213_23, e213_24, e213_25, e213_27, e213_30, e213_31, e213_34, e213_35, gK0_eq, gK1_eq, gK3_eq, w32_id, bI_eq0, bI_eq1, Bool.false_eq_true, not_true_eq_false, not_false_eq_true, ne_eq, ite_not, ↓reduceIte, if_true, if_false, Int.reduceToNat, Nat.reduceAdd, Int.reduceEq, Int.reduceLT, Int.reduceLE, Int.reduceNeg, bI_T, bI_F, ↓if_pos, ↓if_neg, c, c1, c2, decide_true, Bool.and_self]
      · simp (disch := first | assumption | omega) only [e213_0, e213_1, e213_2, e213_5, e213_8, e213_9, e213_12, e213_13, e213_14, e213_16, e213_19, e213_20, e213_23, e213_24, e213_25, e213_27, e213_30, e213_31, e213_34, e213_35, gK0_eq, gK1_eq, gK3_eq, w32_id, bI_eq0, bI_eq1, Bool.false_eq_true, not_true_eq_false, not_false_eq_true, ne_eq, ite_not, ↓reduceIte, if_true, if_false, Int.reduceToNat, Nat.reduceAdd, Int.reduceEq, Int.reduceLT, Int.reduceLE, Int.reduceNeg, bI_T, bI_F, ↓if_pos, ↓if_neg, c, c1, c2, decide_true, decide_false, Bool.and_false]
    · simp (disch := first | assumption | omega) only [e213_0, e213_1, e213_2, e213_5, e213_8, e213_9, e213_12, e213_13, e213_14, e213_16, e213_19, e213_20, e213_23, e213_24, e213_25, e213_27, e213_30, e213_31, e213_34, e213_35, gK0_eq, gK1_eq, gK3_eq, w32_id, bI_eq0, bI_eq1, Bool.false_eq_true, not_true_eq_false, not_false_eq_true, ne_eq, ite_not, ↓reduceIte, if_true, if_false, Int.reduceToNat, Nat.reduceAdd, Int.reduceEq, Int.reduceLT, Int.reduceLE, Int.reduceNeg, bI_T, bI_F, ↓if_pos, ↓if_neg, c, c1, decide_true, decide_false, Bool.and_false, Bool.false_and]
  · simp (disch := first | assumption | omega) only [e213_0, e213_1, e213_2, e213_5, e213_8, e213_9, e213_12, e213_13, e213_14, e213_16, e213_19, e213_20, e213_23, e213_24, e213_25, e213_27, e213_30, e213_31, e213_34, e213_35, gK0_eq, gK1_eq, gK3_eq, w32_id, bI_eq0, bI_eq1, Bool.false_eq_true, not_true_eq_false, not_false_eq_true, ne_eq, ite_not, ↓reduceIte, if_true, if_false, Int.reduceToNat, Nat.reduceAdd, Int.reduceEq, Int.reduceLT, Int.reduceLE, Int.reduceNeg, bI_T, bI_F, ↓if_pos, ↓if_neg, c, decide_false, Bool.false_and]
theorem s_isDigit {k : Int} (hk : 0 ≤ k) (hs : μ 167 6 ≤ 700) : gE 214 0 [gO 10 167, gI k] [] μ Q = Q (bI (isN (μ 168) (μ 167 6) k = true)) μ := by
  unfold isN
  by_cases c : k < μ 167 6
  · by_cases c1 : 48 ≤ μ 168 k
    · by_cases c2 : μ 168 k ≤ 57
      · simp (disch := first | assumption | omega) only [e214_0, e214_1, e214_2, e214_5, e214_8, e214_9, e214_12, e214_13, e214_14, e214_16, e214_19, e214_20, e214_23, e214_24, e214_25, e214_27, e214_30, e214_31, e214_34, e214_35, gK0_eq, gK1_eq, gK3_eq, w32_id, bI_eq0, bI_eq1, Bool.false_eq_true, not_true_eq_false, not_false_eq_true, ne_eq, ite_not, ↓reduceIte, if_true, if_false, Int.reduceToNat, Nat.reduceAdd, Int.reduceEq, Int.reduceLT, Int.reduceLE, Int.reduceNeg, bI_T, bI_F, ↓if_pos, ↓if_neg, c, c1, c2, decide_true, Bool.and_self]
      · simp (disch := first | assumption | omega) only [e214_0, e214_1, e214_2, e214_5, e214_8, e214_9, e214_12, e214_13, e214_14, e214_16, e214_19, e214_20, e214_23, e214_24, e214_25, e214_27, e214_30, e214_31, e214_34, e214_35, gK0_eq, gK1_eq, gK3_eq, w32_id, bI_eq0, bI_eq1, Bool.false_eq_true, not_true_eq_false, not_false_eq_true, ne_eq, ite_not, ↓reduceIte, if_true, if_false, Int.reduceToNat, Nat.reduceAdd, Int.reduceEq, Int.reduceLT, Int.reduceLE, Int.reduceNeg, bI_T, bI_F, ↓if_pos, ↓if_neg, c, c1, c2, decide_true, decide_false, Bool.and_false]
    · simp (disch := first | assumption | omega) only [e214_0, e214_1, e214_2, e214_5, e214_8, e214_9, e214_12, e214_13, e214_14, e214_16, e214_19, e214_20, e214_23, e214_24, e214_25, e214_27, e214_30, e214_31, e214_34, e214_35, gK0_eq, gK1_eq, gK3_eq, w32_id, bI_eq0, bI_eq1, Bool.false_eq_true, not_true_eq_false, not_false_eq_true, ne_eq, ite_not, ↓reduceIte, if_true, if_false, Int.reduceToNat, Nat.reduceAdd, Int.reduceEq, Int.reduceLT, Int.reduceLE, Int.reduceNeg, bI_T, bI_F, ↓if_pos, ↓if_neg, c, c1, decide_true, decide_false, Bool.and_false, Bool.false_and]
  · simp (disch := first | assumption | omega) only [e214_0, e214_1, e214_2, e214_5, e214_8, e214_9, e214_12, e214_13, e214_14, e214_16, e214_19, e214_20, e214_23, e214_24, e214_25, e214_27, e214_30, e214_31, e214_34, e214_35, gK0_eq, gK1_eq, gK3_eq, w32_id, bI_eq0, bI_eq1, Bool.false_eq_true, not_true_eq_false, not_false_eq_true, ne_eq, ite_not, ↓reduceIte, if_true, if_false, Int.reduceToNat, Nat.reduceAdd, Int.reduceEq, Int.reduceLT, Int.reduceLE, Int.reduceNeg, bI_T, bI_F, ↓if_pos, ↓if_neg, c, decide_false, Bool.false_and]
theorem s_packed_loop {a b : Int} (ha : 0 ≤ a) (hb : b ≤ 700) (hf : ∀ k, a ≤ k → k < b → 97 ≤ μ 168 k ∧ μ 168 k ≤ 122) (h7 : a ≤ 700) : ∀ (m : Nat) (k n : Int), a ≤ k → k + m = a + 6 →
    gE 216 5 [gO 10 167, gI a, gI b, gI n, gI k] [] μ Q = Q (itF (fun k n => ior32 (ishl32 n 5) (if k < b then μ 168 k - 96 else 0)) k m n) μ := by
  intro m
  induction m with
  | zero =>
    intro k n h0 h1
    have h : a + 6 ≤ k := by omega
    rw [e216_5, itF]
    simp (disch := first | assumption | omega) only [e216_0, e216_1, e216_2, e216_3, e216_7, e216_8, e216_10, e216_11, e216_14, e216_15, e216_16, e216_17, e216_19, e216_20, e216_23, e216_24, e216_27, e216_29, e216_30, e216_32, e216_33, e216_36, e216_37, e216_38, e216_39, e216_42, e216_45, e216_46, gK0_eq, gK1_eq, gK3_eq, w32_id, bI_eq0, bI_eq1, Bool.false_eq_true, not_true_eq_false, not_false_eq_true, ne_eq, ite_not, ↓reduceIte, if_true, if_false, Int.reduceToNat, Nat.reduceAdd, Int.reduceEq, Int.reduceLT, Int.reduceLE, Int.reduceNeg, bI_T, bI_F, ↓if_pos, ↓if_neg, h]
  | succ m ih =>
    intro k n h0 h1
    have h : ¬ a + 6 ≤ k := by omega
    rw [itF, ← ih (k + 1) _ (by omega) (by omega), e216_5]
    by_cases c : k < b
    · have q := hf k h0 c
      have q1 : ¬ b ≤ k := by omega
      simp (disch := first | assumption | omega) only [e216_0, e216_1, e216_2, e216_3, e216_7, e216_8, e216_10, e216_11, e216_14, e216_15, e216_16, e216_17, e216_19, e216_20, e216_23, e216_24, e216_27, e216_29, e216_30, e216_32, e216_33, e216_36, e216_37, e216_38, e216_39, e216_42, e216_45, e216_46, gK0_eq, gK1_eq, gK3_eq, w32_id, bI_eq0, bI_eq1, Bool.false_eq_true, not_true_eq_false, not_false_eq_true, ne_eq, ite_not, ↓reduceIte, if_true, if_false, Int.reduceToNat, Nat.reduceAdd, Int.reduceEq, Int.reduceLT, Int.reduceLE, Int.reduceNeg, bI_T, bI_F, ↓if_pos, ↓if_neg, h, c, q1]
    · have q1 : b ≤ k := by omega
      simp (disch := first | assumption | omega) only [e216_0, e216_1, e216_2, e216_3, e216_7, e216_8, e216_10, e216_11, e216_14, e216_15, e216_16, e216_17, e216_19, e216_20, e216_23, e216_24, e216_27, e216_29, e216_30, e216_32, e216_33, e216_36, e216_37, e216_38, e216_39, e216_42, e216_45, e216_46, gK0_eq, gK1_eq, gK3_eq, w32_id, bI_eq0, bI_eq1, Bool.false_eq_true, not_true_eq_false, not_false_eq_true, ne_eq, ite_not, ↓reduceIte, if_true, if_false, Int.reduceToNat, Nat.reduceAdd, Int.reduceEq, Int.reduceLT, Int.reduceLE, Int.reduceNeg, bI_T, bI_F, ↓if_pos, ↓if_neg, h, c, q1]
theorem s_packed {a b : Int} (ha : 0 ≤ a) (hb : b ≤ 700) (hf : ∀ k, a ≤ k → k < b → 97 ≤ μ 168 k ∧ μ 168 k ≤ 122) (h7 : a ≤ 700) : gE 216 0 [gO 10 167, gI a, gI b, gX, gX] [] μ Q = Q (xPk (μ 168) a b) μ := by
  simp (disch := first | assumption | omega) only [e216_0, e216_1, e216_2, e216_3, e216_7, e216_8, e216_10, e216_11, e216_14, e216_15, e216_16, e216_17, e216_19, e216_20, e216_23, e216_24, e216_27, e216_29, e216_30, e216_32, e216_33, e216_36, e216_37, e216_38, e216_39, e216_42, e216_45, e216_46, gK0_eq, gK1_eq, gK3_eq, w32_id, bI_eq0, bI_eq1, Bool.false_eq_true, not_true_eq_false, not_false_eq_true, ne_eq, ite_not, ↓reduceIte, if_true, if_false, Int.reduceToNat, Nat.reduceAdd, Int.reduceEq, Int.reduceLT, Int.reduceLE, Int.reduceNeg, bI_T, bI_F]
  rw [s_packed_loop ha hb hf h7 6 a 0 (by omega) (by omega)]
  rfl
end TEXT1
