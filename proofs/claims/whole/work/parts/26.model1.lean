/-! the check's bank as a function; its readers -/
def bI (P : Prop) [Decidable P] : Int := if P then 1 else 0
theorem bI_01 {P : Prop} [Decidable P] : bI P = 0 ∨ bI P = 1 := by
  unfold bI
  split
  · exact Or.inr rfl
  · exact Or.inl rfl
theorem bI_eq0 {P : Prop} [Decidable P] : (bI P = 0) = ¬ P := by
  unfold bI
  split
  · rename_i h; simp [h]
  · rename_i h; simp [h]
theorem bI_eq1 {P : Prop} [Decidable P] : (bI P = 1) = P := by
  unfold bI
  split
  · rename_i h; simp [h]
  · rename_i h; simp [h]
theorem bI_t {P : Prop} [Decidable P] (h : P) : bI P = 1 := if_pos h
theorem bI_f {P : Prop} [Decidable P] (h : ¬ P) : bI P = 0 := if_neg h
theorem bI_congr {P P' : Prop} [Decidable P] [Decidable P'] (h : P ↔ P') : bI P = bI P' := by
  unfold bI
  by_cases q : P
  · rw [if_pos q, if_pos (h.mp q)]
  · rw [if_neg q, if_neg (fun z => q (h.mpr z))]
theorem irem32_id {a b : Int} (h0 : 0 ≤ a) (h1 : a < 2147483648) (h2 : 0 < b) (h3 : b < 2147483648) : irem32 a b = a % b := by
  unfold irem32
  have ea : Int32.ofInt a = nI a.toNat := by
    unfold nI
    rw [← Int32.toInt_inj, ofInt_toInt (by omega) h1]
    have := nI_toInt (n := a.toNat) (by omega)
    unfold nI at this
    rw [this]
    omega
  have eb : Int32.ofInt b = nI b.toNat := by
    unfold nI
    rw [← Int32.toInt_inj, ofInt_toInt (by omega) h3]
    have := nI_toInt (n := b.toNat) (by omega)
    unfold nI at this
    rw [this]
    omega
  rw [ea, eb, pk_rem (by omega) (by omega) (by omega)]
  have hlt : a.toNat % b.toNat < 2 ^ 31 := Nat.lt_of_le_of_lt (Nat.mod_le _ _) (by omega)
  rw [nI_toInt hlt, Int.natCast_emod, Int.toNat_of_nonneg h0, Int.toNat_of_nonneg (by omega)]
theorem idiv32_id {a b : Int} (h0 : 0 ≤ a) (h1 : a < 2147483648) (h2 : 0 < b) (h3 : b < 2147483648) : idiv32 a b = a / b := by
  unfold idiv32
  have ea : Int32.ofInt a = nI a.toNat := by
    unfold nI
    rw [← Int32.toInt_inj, ofInt_toInt (by omega) h1]
    have := nI_toInt (n := a.toNat) (by omega)
    unfold nI at this
    rw [this]
    omega
  have eb : Int32.ofInt b = nI b.toNat := by
    unfold nI
    rw [← Int32.toInt_inj, ofInt_toInt (by omega) h3]
    have := nI_toInt (n := b.toNat) (by omega)
    unfold nI at this
    rw [this]
    omega
  rw [ea, eb, pk_div (by omega) (by omega) (by omega)]
  have hlt : a.toNat / b.toNat < 2 ^ 31 := Nat.lt_of_le_of_lt (Nat.div_le_self _ _) (by omega)
  rw [nI_toInt hlt, Int.natCast_ediv, Int.toNat_of_nonneg h0, Int.toNat_of_nonneg (by omega)]
def mK (μ : gM) (b : Int) (T : Int → Int) : gM := fun a i => if a = 181 ∧ 1960 * b ≤ i ∧ i < 1960 * b + 1960 then T (i - 1960 * b) else μ a i
def tS (T : Int → Int) (k v : Int) : Int → Int := fun j => if j = k then v else T j
theorem tS_same {T : Int → Int} {k v : Int} : tS T k v k = v := if_pos rfl
theorem tS_ne {T : Int → Int} {k v j : Int} (h : j ≠ k) : tS T k v j = T j := if_neg h
theorem mK_ne {μ : gM} {b : Int} {T : Int → Int} {a : Nat} {i : Int} (h : a ≠ 181) : mK μ b T a i = μ a i := if_neg (fun q => h q.1)
theorem mK_at {μ : gM} {b : Int} {T : Int → Int} {k : Int} (h0 : 0 ≤ k) (h1 : k < 1960) : mK μ b T 181 (1960 * b + k) = T k := by
  unfold mK
  rw [if_pos ⟨rfl, by omega, by omega⟩]
  congr 1
  omega
theorem mK_lay {μ : gM} {b : Int} {T : Int → Int} {k v : Int} (h0 : 0 ≤ k) (h1 : k < 1960) : gS (mK μ b T) 181 (1960 * b + k) v = mK μ b (tS T k v) := by
  funext a i
  unfold gS mK tS
  by_cases ha : a = 181
  · subst ha
    by_cases hi : i = 1960 * b + k
    · subst hi
      rw [if_pos ⟨rfl, rfl⟩, if_pos ⟨rfl, by omega, by omega⟩, if_pos (by omega)]
    · rw [if_neg (fun q => hi q.2)]
      by_cases hq : 1960 * b ≤ i ∧ i < 1960 * b + 1960
      · rw [if_pos ⟨rfl, hq⟩, if_pos ⟨rfl, hq⟩, if_neg (by omega)]
      · rw [if_neg (fun q => hq q.2), if_neg (fun q => hq q.2)]
  · rw [if_neg (fun q => ha q.1), if_neg (fun q => ha q.1), if_neg (fun q => ha q.1)]
theorem gS_mK {μ : gM} {b : Int} {T : Int → Int} {a : Nat} {j v : Int} (h : a ≠ 181) : gS (mK μ b T) a j v = mK (gS μ a j v) b T := by
  funext x i
  by_cases hx : x = 181
  · subst hx
    rw [gS_neK (Ne.symm h)]
    unfold mK
    rw [gS_neK (Ne.symm h)]
  · rw [mK_ne hx]
    unfold gS
    rw [mK_ne hx]
def gBk (μ : gM) (b : Int) : Prop := μ 167 34 = b ∧ 0 ≤ b ∧ b ≤ 2
theorem gBk_gS {μ : gM} {b j v : Int} (h : gBk μ b) (hj : j ≠ 34) : gBk (gS μ 167 j v) b := ⟨by rw [gS_neI (Ne.symm hj)]; exact h.1, h.2⟩
section MODEL1
variable {μ : gM} {b : Int} {T : Int → Int} {Q : Int → gM → Prop}
theorem s_of {k : Int} (hb : gBk μ b) (h0 : 0 ≤ k) (h1 : k < 1960) : gE 248 0 [gO 10 167, gI k] [] (mK μ b T) Q = Q (T k) (mK μ b T) := by
  obtain ⟨hb, hb0, hb2⟩ := hb
  simp (disch := omega) only [e248_0, e248_1, e248_4, e248_7, e248_8, e248_11, e248_12, e248_13, e248_14, e248_15, gK0_eq, gK1_eq, gK3_eq, mK_ne, hb, w32_id, Nat.reduceAdd, mK_at]
theorem s_lay {k n : Int} (hb : gBk μ b) (h0 : 0 ≤ k) (h1 : k < 1960) : gE 249 0 [gO 10 167, gI k, gI n] [] (mK μ b T) Q = Q 0 (mK μ b (tS T k n)) := by
  obtain ⟨hb, hb0, hb2⟩ := hb
  simp (disch := omega) only [e249_0, e249_1, e249_4, e249_7, e249_8, e249_11, e249_12, e249_13, e249_14, e249_15, e249_16, gK0_eq, gK1_eq, gK3_eq, mK_ne, hb, w32_id, Nat.reduceAdd, mK_lay]
theorem s_more {k : Int} (hb : gBk μ b) (h0 : 0 ≤ k) (h1 : k < 1960) : gE 250 0 [gO 10 167, gI k] [] (mK μ b T) Q = Q 0 (mK μ b (tS T k (w32 (T k + 1)))) := by
  simp (disch := first | assumption | omega) only [e250_0, e250_1, e250_2, e250_3, e250_4, e250_7, e250_8, e250_9, e250_12, gK0_eq, gK1_eq, gK3_eq, s_of, s_lay]
theorem s_isIn {n lo hi : Int} {μ : gM} : gE 210 0 [gI n, gI lo, gI hi] [] μ Q = Q (bI (lo ≤ n ∧ n ≤ hi)) μ := by
  by_cases h1 : n < lo
  · simp (disch := omega) only [e210_0, e210_1, e210_2, e210_5, e210_6, e210_7, e210_10, e210_11, e210_14, e210_15, gK0_eq, gK1_eq, gK3_eq, if_pos h1, bI_f]
  · by_cases h2 : hi < n
    · simp (disch := omega) only [e210_0, e210_1, e210_2, e210_5, e210_6, e210_7, e210_10, e210_11, e210_14, e210_15, gK0_eq, gK1_eq, gK3_eq, if_neg h1, if_pos h2, bI_f]
    · simp (disch := omega) only [e210_0, e210_1, e210_2, e210_5, e210_6, e210_7, e210_10, e210_11, e210_14, e210_15, gK0_eq, gK1_eq, gK3_eq, if_neg h1, if_neg h2, bI_t]
theorem s_isPage {p : Int} {μ : gM} : gE 256 0 [gI p] [] μ Q = Q (bI (0 ≤ p ∧ p < 64)) μ := by
  by_cases h1 : p < 0
  · simp (disch := omega) only [e256_0, e256_1, e256_4, e256_5, e256_7, e256_10, e256_11, e256_14, e256_15, gK0_eq, gK1_eq, gK3_eq, if_pos h1, bI_f]
  · by_cases h2 : 64 ≤ p
    · simp (disch := omega) only [e256_0, e256_1, e256_4, e256_5, e256_7, e256_10, e256_11, e256_14, e256_15, gK0_eq, gK1_eq, gK3_eq, if_neg h1, if_pos h2, bI_f]
    · simp (disch := omega) only [e256_0, e256_1, e256_4, e256_5, e256_7, e256_10, e256_11, e256_14, e256_15, gK0_eq, gK1_eq, gK3_eq, if_neg h1, if_neg h2, bI_t]
theorem s_isDomain {d : Int} (hb : gBk μ b) : gE 255 0 [gO 10 167, gI d] [] (mK μ b T) Q = Q (bI (0 ≤ d ∧ d < T 1672)) (mK μ b T) := by
  by_cases h1 : d < 0
  · simp (disch := first | assumption | omega) only [e255_0, e255_1, e255_4, e255_5, e255_6, e255_9, e255_12, e255_15, e255_16, e255_19, e255_20, gK0_eq, gK1_eq, gK3_eq, if_pos h1, bI_f]
  · by_cases h2 : T 1672 ≤ d
    · simp (disch := first | assumption | omega) only [e255_0, e255_1, e255_4, e255_5, e255_6, e255_9, e255_12, e255_15, e255_16, e255_19, e255_20, gK0_eq, gK1_eq, gK3_eq, s_of, if_neg h1, if_pos h2, bI_f]
    · simp (disch := first | assumption | omega) only [e255_0, e255_1, e255_4, e255_5, e255_6, e255_9, e255_12, e255_15, e255_16, e255_19, e255_20, gK0_eq, gK1_eq, gK3_eq, s_of, if_neg h1, if_neg h2, bI_t]
theorem s_frameAt {d p : Int} (hb : gBk μ b) (hd : 0 ≤ d ∧ d < 4) (hp : 0 ≤ p ∧ p < 64) : gE 258 0 [gO 10 167, gI d, gI p] [] (mK μ b T) Q = Q (T (64 * d + p)) (mK μ b T) := by
  simp (disch := first | assumption | omega) only [e258_0, e258_1, e258_2, e258_4, e258_5, e258_6, e258_7, e258_8, e258_9, e258_12, gK0_eq, gK1_eq, gK3_eq, w32_id, s_of, Int.zero_add]
def tMp (T : Int → Int) (d p : Int) : Bool := decide (0 ≤ T (64 * d + p))
theorem s_isMapped {d p : Int} (hb : gBk μ b) (hd : 0 ≤ d ∧ d < 4) (hp : 0 ≤ p ∧ p < 64) : gE 259 0 [gO 10 167, gI d, gI p] [] (mK μ b T) Q = Q (bI (tMp T d p = true)) (mK μ b T) := by
  unfold tMp
  by_cases h : T (64 * d + p) < 0
  · rw [bI_f (by simp; omega)]
    simp (disch := first | assumption | omega) only [e259_0, e259_1, e259_2, e259_3, e259_6, e259_9, e259_10, e259_13, e259_14, gK0_eq, gK1_eq, gK3_eq, s_frameAt, if_pos h]
  · rw [bI_t (by simp; omega)]
    simp (disch := first | assumption | omega) only [e259_0, e259_1, e259_2, e259_3, e259_6, e259_9, e259_10, e259_13, e259_14, gK0_eq, gK1_eq, gK3_eq, s_frameAt, if_neg h]
theorem s_isSome_loop {d f n : Int} (hb : gBk μ b) (hd : 0 ≤ d ∧ d < 4) (hf : 0 ≤ f) (hn : f + n ≤ 64) : ∀ (m : Nat) (p : Int), f ≤ p → p + m = f + n → gE 260 3 [gO 10 167, gI d, gI f, gI n, gI p] [] (mK μ b T) Q = Q (bI (anyF (tMp T d) p m = true)) (mK μ b T) := by
  intro m
  induction m with
  | zero =>
    intro p h0 h1
    have h : f + n ≤ p := by omega
    rw [bI_f (by simp [anyF]), e260_3]
    simp (disch := first | assumption | omega) only [e260_0, e260_1, e260_5, e260_6, e260_7, e260_8, e260_11, e260_12, e260_13, e260_15, e260_18, e260_21, e260_22, e260_23, e260_26, e260_29, e260_30, gK0_eq, gK1_eq, gK3_eq, w32_id, bI_eq0, bI_eq1, Bool.false_eq_true, not_true_eq_false, not_false_eq_true, ne_eq, ite_not, ↓reduceIte, if_true, if_false, Int.reduceToNat, Nat.reduceAdd, h]
  | succ m ih =>
    intro p h0 h1
    have h : ¬ f + n ≤ p := by omega
    rw [e260_3]
    cases hm : tMp T d p with
    | true =>
      rw [bI_t (by simp [anyF, hm])]
      simp (disch := first | assumption | omega) only [e260_0, e260_1, e260_5, e260_6, e260_7, e260_8, e260_11, e260_12, e260_13, e260_15, e260_18, e260_21, e260_22, e260_23, e260_26, e260_29, e260_30, gK0_eq, gK1_eq, gK3_eq, w32_id, if_neg h, s_isMapped, hm, w32_id, bI_eq0, bI_eq1, Bool.false_eq_true, not_true_eq_false, not_false_eq_true, ne_eq, ite_not, ↓reduceIte, if_true, if_false, Int.reduceToNat, Nat.reduceAdd]
    | false =>
      simp (disch := first | assumption | omega) only [e260_0, e260_1, e260_5, e260_6, e260_7, e260_8, e260_11, e260_12, e260_13, e260_15, e260_18, e260_21, e260_22, e260_23, e260_26, e260_29, e260_30, gK0_eq, gK1_eq, gK3_eq, w32_id, if_neg h, s_isMapped, hm, bI_eq0, Bool.false_eq_true, not_false_eq_true, if_true]
      rw [ih (p + 1) (by omega) (by omega)]
      simp only [anyF, hm, Bool.false_or]
theorem s_isSome {d f n : Int} (hb : gBk μ b) (hd : 0 ≤ d ∧ d < 4) (hf : 0 ≤ f) (hn : f + n ≤ 64) (hn0 : 0 ≤ n) : gE 260 0 [gO 10 167, gI d, gI f, gI n, gX] [] (mK μ b T) Q = Q (bI (anyF (tMp T d) f n.toNat = true)) (mK μ b T) := by
  simp only [e260_0, e260_1, e260_5, e260_6, e260_7, e260_8, e260_11, e260_12, e260_13, e260_15, e260_18, e260_21, e260_22, e260_23, e260_26, e260_29, e260_30, gK0_eq, gK1_eq, gK3_eq]
  exact s_isSome_loop hb hd hf hn n.toNat f (by omega) (by omega)
def tLvl (T : Int → Int) (d p : Int) : Int := if anyF (tMp T d) (p - p % 16) 16 = true then (if anyF (tMp T d) (p - p % 4) 4 = true ∧ T (768 + 64 * d + p) ≠ 1 then 3 else 2) else 1
theorem s_levelOf {d p : Int} (hb : gBk μ b) (hd : 0 ≤ d ∧ d < 4) (hp : 0 ≤ p ∧ p < 64) : gE 261 0 [gO 10 167, gI d, gI p] [] (mK μ b T) Q = Q (tLvl T d p) (mK μ b T) := by
  unfold tLvl
  by_cases h1 : anyF (tMp T d) (p - p % 16) 16 = true
  · rw [if_pos h1]
    by_cases h2 : anyF (tMp T d) (p - p % 4) 4 = true
    · by_cases h3 : T (768 + 64 * d + p) = 1
      · rw [if_neg (by simp [h3])]
        simp (disch := first | assumption | omega) only [e261_0, e261_1, e261_2, e261_3, e261_4, e261_6, e261_7, e261_8, e261_10, e261_13, e261_16, e261_17, e261_18, e261_19, e261_20, e261_21, e261_22, e261_23, e261_24, e261_25, e261_26, e261_29, e261_32, e261_33, e261_36, e261_38, e261_39, e261_40, e261_41, e261_42, e261_43, e261_46, e261_47, e261_50, e261_51, e261_54, e261_55, gK0_eq, gK1_eq, gK3_eq, w32_id, irem32_id, s_isSome, Int.reduceToNat, h1, h2, bI_eq0, not_true_eq_false, if_false, not_false_eq_true, if_true, s_of, if_neg, h3]
      · rw [if_pos ⟨h2, h3⟩]
        simp (disch := first | assumption | omega) only [e261_0, e261_1, e261_2, e261_3, e261_4, e261_6, e261_7, e261_8, e261_10, e261_13, e261_16, e261_17, e261_18, e261_19, e261_20, e261_21, e261_22, e261_23, e261_24, e261_25, e261_26, e261_29, e261_32, e261_33, e261_36, e261_38, e261_39, e261_40, e261_41, e261_42, e261_43, e261_46, e261_47, e261_50, e261_51, e261_54, e261_55, gK0_eq, gK1_eq, gK3_eq, w32_id, irem32_id, s_isSome, Int.reduceToNat, h1, h2, bI_eq0, not_true_eq_false, if_false, not_false_eq_true, if_true, s_of, h3]
    · rw [if_neg (by simp [h2])]
      simp (disch := first | assumption | omega) only [e261_0, e261_1, e261_2, e261_3, e261_4, e261_6, e261_7, e261_8, e261_10, e261_13, e261_16, e261_17, e261_18, e261_19, e261_20, e261_21, e261_22, e261_23, e261_24, e261_25, e261_26, e261_29, e261_32, e261_33, e261_36, e261_38, e261_39, e261_40, e261_41, e261_42, e261_43, e261_46, e261_47, e261_50, e261_51, e261_54, e261_55, gK0_eq, gK1_eq, gK3_eq, w32_id, irem32_id, s_isSome, Int.reduceToNat, h1, h2, bI_eq0, not_true_eq_false, if_false, not_false_eq_true, if_true, s_of, Bool.false_eq_true]
  · rw [if_neg h1]
    simp (disch := first | assumption | omega) only [e261_0, e261_1, e261_2, e261_3, e261_4, e261_6, e261_7, e261_8, e261_10, e261_13, e261_16, e261_17, e261_18, e261_19, e261_20, e261_21, e261_22, e261_23, e261_24, e261_25, e261_26, e261_29, e261_32, e261_33, e261_36, e261_38, e261_39, e261_40, e261_41, e261_42, e261_43, e261_46, e261_47, e261_50, e261_51, e261_54, e261_55, gK0_eq, gK1_eq, gK3_eq, w32_id, irem32_id, s_isSome, Int.reduceToNat, h1, bI_eq0, not_true_eq_false, if_false, not_false_eq_true, if_true, s_of, Bool.false_eq_true]
end MODEL1
