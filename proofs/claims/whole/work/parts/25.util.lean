/-! numbers of the small machine; rows of ints read and written by at, put; copied, filled -/
theorem w32_id {z : Int} (h1 : -2147483648 ≤ z) (h2 : z < 2147483648) : w32 z = z := by
  unfold w32
  rw [Int32.toInt_ofInt, Int.bmod_eq_of_le (by simp only [Int32.size]; omega) (by simp only [Int32.size]; omega)]
theorem ofInt_toInt {z : Int} (h1 : -2147483648 ≤ z) (h2 : z < 2147483648) : (Int32.ofInt z).toInt = z := w32_id h1 h2
/-- a row of memory as a function -/
def mrow (μ : gM) (k : Nat) (f : Int → Int) : gM := fun a i => if a = k then f i else μ a i
theorem mrow_same {μ : gM} {k : Nat} {f : Int → Int} {i : Int} : mrow μ k f k i = f i := if_pos rfl
theorem mrow_ne {μ : gM} {k a : Nat} {f : Int → Int} {i : Int} (h : a ≠ k) : mrow μ k f a i = μ a i := if_neg h
theorem mrow_id {μ : gM} {k : Nat} {f : Int → Int} (h : ∀ i, f i = μ k i) : mrow μ k f = μ := by
  funext a i
  unfold mrow
  split
  · rename_i q; subst q; exact h i
  · rfl
theorem gS_mrow (μ : gM) (k : Nat) (i v : Int) : gS μ k i v = mrow μ k (fun j => if j = i then v else μ k j) := by
  funext a j
  unfold gS mrow
  by_cases h : a = k
  · subst h; simp
  · simp [h]
theorem mrow_mrow (μ : gM) (k : Nat) (f g : Int → Int) : mrow (mrow μ k f) k g = mrow μ k g := by
  funext a i
  unfold mrow
  split <;> rfl
theorem gS_same {μ : gM} {k : Nat} {i v : Int} : gS μ k i v k i = v := if_pos ⟨rfl, rfl⟩
theorem gS_neK {μ : gM} {k a : Nat} {i j v : Int} (h : a ≠ k) : gS μ k i v a j = μ a j := if_neg (fun q => h q.1)
theorem gS_neI {μ : gM} {k a : Nat} {i j v : Int} (h : j ≠ i) : gS μ k i v a j = μ a j := if_neg (fun q => h q.2)
/-- what `at` answers -/
def atv (μ : gM) (n k : Nat) (i : Int) : Int := if 0 ≤ i ∧ i < n then μ k i else -1
theorem atv_in {μ : gM} {n k : Nat} {i : Int} (h0 : 0 ≤ i) (h1 : i < n) : atv μ n k i = μ k i := if_pos ⟨h0, h1⟩
theorem atv_out {μ : gM} {n k : Nat} {i : Int} (h : ¬ (0 ≤ i ∧ i < n)) : atv μ n k i = -1 := if_neg h
theorem s_at {n k : Nat} {i : Int} {μ : gM} {Q : Int → gM → Prop} : gE 43 0 [gA n k, gI i] [] μ Q = Q (atv μ n k i) μ := by
  by_cases h0 : i < 0
  · rw [atv_out (by omega)]
    simp only [e43_0, e43_1, e43_4, e43_5, e43_6, e43_7, e43_10, e43_11, e43_12, e43_13, e43_16, e43_17, gK0_eq, gK1_eq, gK3_eq, if_pos h0]
  · by_cases h1 : (n : Int) ≤ i
    · rw [atv_out (by omega)]
      simp only [e43_0, e43_1, e43_4, e43_5, e43_6, e43_7, e43_10, e43_11, e43_12, e43_13, e43_16, e43_17, gK0_eq, gK1_eq, gK3_eq, if_neg h0, if_pos h1]
    · rw [atv_in (by omega) (by omega)]
      simp (disch := omega) only [e43_0, e43_1, e43_4, e43_5, e43_6, e43_7, e43_10, e43_11, e43_12, e43_13, e43_16, e43_17, gK0_eq, gK1_eq, gK3_eq, if_neg h0, if_neg h1]
def putv (μ : gM) (n k : Nat) (i v : Int) : gM := if 0 ≤ i ∧ i < n then gS μ k i v else μ
theorem putv_in {μ : gM} {n k : Nat} {i v : Int} (h0 : 0 ≤ i) (h1 : i < n) : putv μ n k i v = gS μ k i v := if_pos ⟨h0, h1⟩
theorem s_put' {n k : Nat} {i v : Int} {μ : gM} {Q : Int → gM → Prop} : gE 44 0 [gA n k, gI i, gI v] [] μ Q = Q 0 (putv μ n k i v) := by
  unfold putv
  by_cases h0 : i < 0
  · rw [if_neg (by omega)]
    simp only [e44_0, e44_1, e44_4, e44_5, e44_6, e44_7, e44_10, e44_11, e44_12, e44_13, e44_14, gK0_eq, gK1_eq, gK3_eq, if_pos h0]
  · by_cases h1 : (n : Int) ≤ i
    · rw [if_neg (by omega)]
      simp only [e44_0, e44_1, e44_4, e44_5, e44_6, e44_7, e44_10, e44_11, e44_12, e44_13, e44_14, gK0_eq, gK1_eq, gK3_eq, if_neg h0, if_pos h1]
    · rw [if_pos (by omega)]
      simp (disch := omega) only [e44_0, e44_1, e44_4, e44_5, e44_6, e44_7, e44_10, e44_11, e44_12, e44_13, e44_14, gK0_eq, gK1_eq, gK3_eq, if_neg h0, if_neg h1]
theorem s_fillRow_loop {n k : Nat} {v : Int} {Q : Int → gM → Prop} (hn : n < 65536) : ∀ (m : Nat) (i : Int) (μ : gM), 0 ≤ i → i + m = n → gE 46 2 [gA n k, gI v, gI i] [] μ Q = Q 0 (mrow μ k (fun j => if i ≤ j ∧ j < n then v else μ k j)) := by
  intro m
  induction m with
  | zero =>
    intro i μ h0 h1
    have h : (n : Int) ≤ i := by omega
    rw [mrow_id (fun j => if_neg (by omega))]
    simp only [e46_0, e46_1, e46_2, e46_3, e46_4, e46_5, e46_8, e46_9, e46_10, e46_11, e46_12, e46_15, e46_18, gK0_eq, gK1_eq, gK3_eq, if_pos h]
  | succ m ih =>
    intro i μ h0 h1
    have h : ¬ (n : Int) ≤ i := by omega
    rw [e46_2]
    simp (disch := omega) only [e46_0, e46_1, e46_3, e46_4, e46_5, e46_8, e46_9, e46_10, e46_11, e46_12, e46_15, e46_18, gK0_eq, gK1_eq, gK3_eq, if_neg h, w32_id]
    rw [ih (i + 1) _ (by omega) (by omega), gS_mrow, mrow_mrow]
    congr 2
    funext j
    simp only [mrow_same]
    by_cases hj : j = i
    · subst hj
      rw [if_neg (by omega), if_pos rfl, if_pos (by omega)]
    · rw [if_neg hj]
      by_cases hq : i ≤ j ∧ j < n
      · rw [if_pos hq, if_pos (by omega)]
      · rw [if_neg hq, if_neg (by omega)]
theorem s_fillRow {n k : Nat} {v : Int} {μ : gM} {Q : Int → gM → Prop} (hn : n < 65536) : gE 46 0 [gA n k, gI v, gX] [] μ Q = Q 0 (mrow μ k (fun j => if 0 ≤ j ∧ j < n then v else μ k j)) := by
  simp only [e46_0, e46_1, e46_3, e46_4, e46_5, e46_8, e46_9, e46_10, e46_11, e46_12, e46_15, e46_18, gK0_eq, gK1_eq, gK3_eq]
  exact s_fillRow_loop hn n 0 μ (by omega) (by omega)
theorem s_copyRow_loop {n kf k : Nat} {Q : Int → gM → Prop} (hn : n < 65536) (hk : kf ≠ k) : ∀ (m : Nat) (i : Int) (μ : gM), 0 ≤ i → i + m = n → gE 45 2 [gA n kf, gA n k, gI i] [] μ Q = Q 0 (mrow μ k (fun j => if i ≤ j ∧ j < n then μ kf j else μ k j)) := by
  intro m
  induction m with
  | zero =>
    intro i μ h0 h1
    have h : (n : Int) ≤ i := by omega
    rw [mrow_id (fun j => if_neg (by omega))]
    simp only [e45_0, e45_1, e45_2, e45_3, e45_4, e45_5, e45_8, e45_9, e45_10, e45_11, e45_12, e45_15, e45_16, e45_19, e45_22, gK0_eq, gK1_eq, gK3_eq, if_pos h]
  | succ m ih =>
    intro i μ h0 h1
    have h : ¬ (n : Int) ≤ i := by omega
    rw [e45_2]
    simp (disch := omega) only [e45_0, e45_1, e45_3, e45_4, e45_5, e45_8, e45_9, e45_10, e45_11, e45_12, e45_15, e45_16, e45_19, e45_22, gK0_eq, gK1_eq, gK3_eq, if_neg h, w32_id, s_at, atv_in]
    rw [ih (i + 1) _ (by omega) (by omega), gS_mrow, mrow_mrow]
    congr 2
    funext j
    simp only [mrow_same, mrow_ne hk]
    by_cases hj : j = i
    · subst hj
      rw [if_neg (by omega), if_pos rfl, if_pos (by omega)]
    · rw [if_neg hj]
      by_cases hq : i ≤ j ∧ j < n
      · rw [if_pos hq, if_pos (by omega)]
      · rw [if_neg hq, if_neg (by omega)]
theorem s_copyRow {n kf k : Nat} {μ : gM} {Q : Int → gM → Prop} (hn : n < 65536) (hk : kf ≠ k) : gE 45 0 [gA n kf, gA n k, gX] [] μ Q = Q 0 (mrow μ k (fun j => if 0 ≤ j ∧ j < n then μ kf j else μ k j)) := by
  simp only [e45_0, e45_1, e45_3, e45_4, e45_5, e45_8, e45_9, e45_10, e45_11, e45_12, e45_15, e45_16, e45_19, e45_22, gK0_eq, gK1_eq, gK3_eq]
  exact s_copyRow_loop hn hk n 0 μ (by omega) (by omega)
theorem s_takeOut_loop {n k : Nat} {c i0 : Int} {Q : Int → gM → Prop} (hn : n < 65536) (hc : c ≤ n) : ∀ (m : Nat) (i : Int) (μ : gM), 0 < i → i + m = c → gE 47 20 [gA n k, gI i0, gI c, gI i] [] μ Q = Q 0 (mrow μ k (fun j => if i - 1 ≤ j ∧ j < c - 1 then μ k (j + 1) else μ k j)) := by
  intro m
  induction m with
  | zero =>
    intro i μ h0 h1
    have h : c ≤ i := by omega
    rw [mrow_id (fun j => if_neg (by omega))]
    simp only [e47_0, e47_1, e47_4, e47_5, e47_6, e47_9, e47_10, e47_11, e47_12, e47_15, e47_16, e47_17, e47_18, e47_19, e47_20, e47_21, e47_22, e47_25, e47_26, e47_27, e47_28, e47_29, e47_30, e47_31, e47_32, e47_33, e47_36, e47_39, gK0_eq, gK1_eq, gK3_eq, if_pos h]
  | succ m ih =>
    intro i μ h0 h1
    have h : ¬ c ≤ i := by omega
    rw [e47_20]
    simp (disch := omega) only [e47_0, e47_1, e47_4, e47_5, e47_6, e47_9, e47_10, e47_11, e47_12, e47_15, e47_16, e47_17, e47_18, e47_19, e47_21, e47_22, e47_25, e47_26, e47_27, e47_28, e47_29, e47_30, e47_31, e47_32, e47_33, e47_36, e47_39, gK0_eq, gK1_eq, gK3_eq, if_neg h, w32_id]
    rw [ih (i + 1) _ (by omega) (by omega), gS_mrow, mrow_mrow]
    congr 2
    funext j
    simp only [mrow_same]
    by_cases hj : j = i - 1
    · subst hj
      rw [if_neg (by omega), if_pos rfl, if_pos (by omega)]
      congr 1
      omega
    · rw [if_neg hj]
      by_cases hq : i - 1 ≤ j ∧ j < c - 1
      · rw [if_pos hq, if_pos (by omega), if_neg (by omega)]
      · rw [if_neg hq, if_neg (by omega)]
theorem s_takeOut {n k : Nat} {c i : Int} {μ : gM} {Q : Int → gM → Prop} (hn : n < 65536) (hc : c ≤ n) (hi : 0 ≤ i) (hic : i < c) : gE 47 0 [gA n k, gI i, gI c, gX] [] μ Q = Q 0 (mrow μ k (fun j => if i ≤ j ∧ j < c - 1 then μ k (j + 1) else μ k j)) := by
  have h0 : ¬ i < 0 := by omega
  have h1 : ¬ c ≤ i := by omega
  simp (disch := omega) only [e47_0, e47_1, e47_4, e47_5, e47_6, e47_9, e47_10, e47_11, e47_12, e47_15, e47_16, e47_17, e47_18, e47_19, e47_21, e47_22, e47_25, e47_26, e47_27, e47_28, e47_29, e47_30, e47_31, e47_32, e47_33, e47_36, e47_39, gK0_eq, gK1_eq, gK3_eq, if_neg h0, if_neg h1, if_pos hc, w32_id]
  rw [s_takeOut_loop hn hc (c - (i + 1)).toNat (i + 1) μ (by omega) (by omega)]
  congr 2
  funext j
  rw [show i + 1 - 1 = i by omega]
/-! loops over whole numbers, told from the front -/
/-- how many of k, k+1, .. (n of them) -/
def cntF (P : Int → Bool) : Int → Nat → Int
  | _, 0 => 0
  | k, n + 1 => (if P k = true then 1 else 0) + cntF P (k + 1) n
def anyF (P : Int → Bool) : Int → Nat → Bool
  | _, 0 => false
  | k, n + 1 => P k || anyF P (k + 1) n
/-- the first, or -1 -/
def findF (P : Int → Bool) : Int → Nat → Int
  | _, 0 => -1
  | k, n + 1 => if P k = true then k else findF P (k + 1) n
def itF {σ : Type} (f : Int → σ → σ) : Int → Nat → σ → σ
  | _, 0, s => s
  | k, n + 1, s => itF f (k + 1) n (f k s)
theorem cntF_nn (P : Int → Bool) : ∀ (n : Nat) (k : Int), 0 ≤ cntF P k n ∧ cntF P k n ≤ n := by
  intro n
  induction n with
  | zero => intro k; exact ⟨Int.le_refl _, Int.le_refl _⟩
  | succ n ih =>
    intro k
    have := ih (k + 1)
    unfold cntF
    split <;> omega
theorem cntF_any (P : Int → Bool) : ∀ (n : Nat) (k : Int), 0 < cntF P k n ↔ anyF P k n = true := by
  intro n
  induction n with
  | zero => intro k; simp [cntF, anyF]
  | succ n ih =>
    intro k
    have h1 := ih (k + 1)
    have h2 := cntF_nn P n (k + 1)
    unfold cntF anyF
    cases hP : P k with
    | true => simp; omega
    | false => simpa using h1
theorem anyF_iff (P : Int → Bool) : ∀ (n : Nat) (k : Int), anyF P k n = true ↔ ∃ i, k ≤ i ∧ i < k + n ∧ P i = true := by
  intro n
  induction n with
  | zero =>
    intro k
    simp only [anyF]
    constructor
    · intro h; cases h
    · rintro ⟨i, h1, h2, -⟩; omega
  | succ n ih =>
    intro k
    simp only [anyF, Bool.or_eq_true, ih (k + 1)]
    constructor
    · rintro (h | ⟨i, h1, h2, h3⟩)
      · exact ⟨k, by omega, by omega, h⟩
      · exact ⟨i, by omega, by omega, h3⟩
    · rintro ⟨i, h1, h2, h3⟩
      by_cases hi : i = k
      · subst hi; exact Or.inl h3
      · exact Or.inr ⟨i, by omega, by omega, h3⟩
theorem cntF_congr {P P' : Int → Bool} : ∀ (n : Nat) (k : Int), (∀ i, k ≤ i → i < k + n → P i = P' i) → cntF P k n = cntF P' k n := by
  intro n
  induction n with
  | zero => intro k h; rfl
  | succ n ih =>
    intro k h
    unfold cntF
    rw [h k (by omega) (by omega), ih (k + 1) (fun i h1 h2 => h i (by omega) (by omega))]
theorem anyF_congr {P P' : Int → Bool} : ∀ (n : Nat) (k : Int), (∀ i, k ≤ i → i < k + n → P i = P' i) → anyF P k n = anyF P' k n := by
  intro n
  induction n with
  | zero => intro k h; rfl
  | succ n ih =>
    intro k h
    unfold anyF
    rw [h k (by omega) (by omega), ih (k + 1) (fun i h1 h2 => h i (by omega) (by omega))]
theorem findF_congr {P P' : Int → Bool} : ∀ (n : Nat) (k : Int), (∀ i, k ≤ i → i < k + n → P i = P' i) → findF P k n = findF P' k n := by
  intro n
  induction n with
  | zero => intro k h; rfl
  | succ n ih =>
    intro k h
    unfold findF
    rw [h k (by omega) (by omega), ih (k + 1) (fun i h1 h2 => h i (by omega) (by omega))]
