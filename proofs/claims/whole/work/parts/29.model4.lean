/-! the check: looks, records, requests -/
def gIX (X : gM) : Prop := (0 ≤ X 167 11 ∧ X 167 11 ≤ 6) ∧ (0 ≤ X 167 12 ∧ X 167 12 ≤ 8) ∧ (0 ≤ X 167 13 ∧ X 167 13 ≤ 8) ∧ (0 ≤ X 167 14 ∧ X 167 14 ≤ 6) ∧
  (∀ i, 0 ≤ i → i < X 167 11 → -1 ≤ X 171 i ∧ X 171 i < i ∧ 0 ≤ X 172 i ∧ X 172 i ≤ 2) ∧
  (∀ d, 0 ≤ d → d < X 167 12 → -1 ≤ X 174 d ∧ X 174 d < X 167 11 ∧ (X 175 d = 0 ∨ X 175 d = 1)) ∧
  (∀ d, 0 ≤ d → d < 8 → 0 ≤ X 179 d ∧ X 179 d ≤ d ∧ X 179 (X 179 d) = X 179 d) ∧
  (∀ k, 0 ≤ k → k < X 167 13 → 0 ≤ X 176 (2 * k) ∧ X 176 (2 * k) < X 167 12 ∧ 0 ≤ X 176 (2 * k + 1) ∧ X 176 (2 * k + 1) < X 167 12) ∧
  (∀ k, 0 ≤ k → k < X 167 14 → 0 ≤ X 177 (3 * k) ∧ X 177 (3 * k) < X 167 12 ∧ 0 ≤ X 177 (3 * k + 1) ∧ X 177 (3 * k + 1) ≤ X 177 (3 * k + 2) ∧ X 177 (3 * k + 2) ≤ 63) ∧
  (1 ≤ X 178 0 ∧ X 178 0 ≤ 16) ∧ (0 ≤ X 178 1 ∧ X 178 1 ≤ 99999)
def xSg (X : gM) : Nat → Int → Int → Int
  | 0, _, s => s
  | n + 1, b, s => if b < 0 then s else xSg X n (X 171 b) (if X 172 b = 2 then 8 + b else s)
def xSign (X : gM) (d : Int) : Int := xSg X 7 (X 174 d) d
def tMor (T : Int → Int) (k : Int) : Int → Int := tS T k (w32 (T k + 1))
def tEnt (T : Int → Int) (d p : Int) : Int := findF (fun k => decide (T (1814 + 4 * k) = d) && decide (T (1814 + 4 * k + 1) = p)) 0 (T 1813).toNat
def tCch (T : Int → Int) (d p f r : Int) : Int → Int := tS (tS (tS (tS (tS T (1814 + 4 * T 1813) d) (1814 + 4 * T 1813 + 1) p) (1814 + 4 * T 1813 + 2) f) (1814 + 4 * T 1813 + 3) r) 1813 (T 1813 + 1)
def tAs (T : Int → Int) (d p f r : Int) : Bool := decide (T (64 * d + p) = f) && decide (iand32 (T (256 + 64 * d + p)) r = r)
def tHit (T : Int → Int) (d p r : Int) : Bool := decide (0 ≤ tEnt T d p) && decide (iand32 (T (1814 + 4 * tEnt T d p + 3)) r ≠ 0)
def tWok (T : Int → Int) (d p r : Int) : Bool := tMp T d p && decide (iand32 (T (256 + 64 * d + p)) r ≠ 0)
def tLkF (T : Int → Int) (d p r : Int) : Int := if tHit T d p r = true then T (1814 + 4 * tEnt T d p + 2) else if tWok T d p r = true then T (64 * d + p) else -1
def tLkH (T : Int → Int) (d p r : Int) : Int → Int := tMor (tCch (tDrop T (tEnt T d p)) d p (T (1814 + 4 * tEnt T d p + 2)) (T (1814 + 4 * tEnt T d p + 3))) 1878
def tLkV (T : Int → Int) (room d p : Int) : Int → Int := if 0 ≤ tEnt T d p then tDrop T (tEnt T d p) else if T 1813 = room then tDrop T 0 else T
def tLkT (T : Int → Int) (room d p r : Int) : Int → Int :=
  if tHit T d p r = true then (if tAs T d p (T (1814 + 4 * tEnt T d p + 2)) r = true then tLkH T d p r else tMor (tLkH T d p r) 1880)
  else if tWok T d p r = true then tCch (tLkV (tMor T 1879) room d p) d p (T (64 * d + p)) (T (256 + 64 * d + p)) else tMor T 1879
def tWai (T : Int → Int) (e bt : Int) : Int := cntF (fun k => decide (T (1882 + 4 * k) = e) && decide (T (1882 + 4 * k + 3) = bt)) 0 (T 1881).toNat
def tOpF (e : Int) : Nat → (Int → Int) → Int → Int
  | 0, T => T
  | k + 1, T => tOpF e k (if T (1882 + 4 * k) = e ∧ T (1882 + 4 * k + 3) = 0 then tMor (tReqG T k) 1917 else T)
def tReq (T : Int → Int) (e p r : Int) : Int → Int := tMor (tS (tS (tS (tS (tS T (1882 + 4 * T 1881) e) (1882 + 4 * T 1881 + 1) p) (1882 + 4 * T 1881 + 2) r) (1882 + 4 * T 1881 + 3) 0) 1881 (T 1881 + 1)) 1915
def tShR (T : Int → Int) (a m : Int) : Int → Int := fun j => if a + 4 ≤ j ∧ j < a + 4 + m then T (j - 4) else T j
def tRcn (T : Int → Int) : Int := if T 1927 < 8 then T 1927 else 7
def tRcd (T : Int → Int) (sg p r w : Int) : Int → Int := tS (tS (tS (tS (tS (tShR T 1928 (4 * tRcn T)) 1928 sg) 1929 p) 1930 r) 1931 w) 1927 (tRcn T + 1)
theorem findF_in {P : Int → Bool} : ∀ (n : Nat) (k : Int), 0 ≤ k → (findF P k n = -1 ∧ (∀ i, k ≤ i → i < k + n → P i = false)) ∨ (k ≤ findF P k n ∧ findF P k n < k + n ∧ P (findF P k n) = true ∧ ∀ i, k ≤ i → i < findF P k n → P i = false) := by
  intro n
  induction n with
  | zero => intro k h0; exact Or.inl ⟨rfl, fun i h1 h2 => by omega⟩
  | succ n ih =>
    intro k h0
    unfold findF
    cases hP : P k with
    | true =>
      refine Or.inr ⟨by simp, by simp; omega, by simpa using hP, fun i h1 h2 => ?_⟩
      simp at h2
      omega
    | false =>
      simp only [Bool.false_eq_true, if_false]
      rcases ih (k + 1) (by omega) with ⟨h1, h2⟩ | ⟨h1, h2, h3, h4⟩
      · refine Or.inl ⟨h1, fun i h3 h4 => ?_⟩
        by_cases hi : i = k
        · rw [hi]; exact hP
        · exact h2 i (by omega) (by omega)
      · refine Or.inr ⟨by omega, by omega, h3, fun i h5 h6 => ?_⟩
        by_cases hi : i = k
        · rw [hi]; exact hP
        · exact h4 i (by omega) h6
section MODEL4
variable {μ : gM} {b : Int} {T : Int → Int} {Q : Int → gM → Prop}
theorem s_signOf_loop {d : Int} (hI : gIX μ) : ∀ (n : Nat) (k s : Int), -1 ≤ k → k < μ 167 11 → k < n → gE 242 9 [gO 10 167, gI d, gI s, gI k] [] (mK μ b T) Q = Q (xSg μ (n + 1) k s) (mK μ b T) := by
  obtain ⟨h1, h2, h3, h4, h5, h6, h7, h8, h9, h10, h11⟩ := hI
  intro n
  induction n with
  | zero =>
    intro k s a1 a2 a3
    have h : k < 0 := by omega
    rw [e242_9]
    simp (disch := first | assumption | omega) only [e242_0, e242_1, e242_2, e242_3, e242_6, e242_7, e242_8, e242_10, e242_13, e242_14, e242_17, e242_18, e242_19, e242_20, e242_23, e242_25, e242_26, e242_27, e242_30, e242_31, e242_32, e242_33, e242_36, e242_37, e242_38, e242_39, e242_42, e242_43, gK0_eq, gK1_eq, gK3_eq, w32_id, bI_eq0, bI_eq1, Bool.false_eq_true, not_true_eq_false, not_false_eq_true, ne_eq, ite_not, ↓reduceIte, if_true, if_false, Int.reduceToNat, Nat.reduceAdd, h, xSg]
  | succ n ih =>
    intro k s a1 a2 a3
    rw [e242_9]
    by_cases h : k < 0
    · simp (disch := first | assumption | omega) only [e242_0, e242_1, e242_2, e242_3, e242_6, e242_7, e242_8, e242_10, e242_13, e242_14, e242_17, e242_18, e242_19, e242_20, e242_23, e242_25, e242_26, e242_27, e242_30, e242_31, e242_32, e242_33, e242_36, e242_37, e242_38, e242_39, e242_42, e242_43, gK0_eq, gK1_eq, gK3_eq, w32_id, bI_eq0, bI_eq1, Bool.false_eq_true, not_true_eq_false, not_false_eq_true, ne_eq, ite_not, ↓reduceIte, if_true, if_false, Int.reduceToNat, Nat.reduceAdd, h, xSg]
    · obtain ⟨g1, g2, g3, g4⟩ := h5 k (by omega) a2
      rw [xSg, if_neg h]
      by_cases hc : μ 172 k = 2
      · simp (disch := first | assumption | omega) only [e242_0, e242_1, e242_2, e242_3, e242_6, e242_7, e242_8, e242_10, e242_13, e242_14, e242_17, e242_18, e242_19, e242_20, e242_23, e242_25, e242_26, e242_27, e242_30, e242_31, e242_32, e242_33, e242_36, e242_37, e242_38, e242_39, e242_42, e242_43, gK0_eq, gK1_eq, gK3_eq, w32_id, bI_eq0, bI_eq1, Bool.false_eq_true, not_true_eq_false, not_false_eq_true, ne_eq, ite_not, ↓reduceIte, if_true, if_false, Int.reduceToNat, Nat.reduceAdd, h, mK_ne, hc]
        rw [ih _ _ (by omega) (by omega) (by omega)]
      · simp (disch := first | assumption | omega) only [e242_0, e242_1, e242_2, e242_3, e242_6, e242_7, e242_8, e242_10, e242_13, e242_14, e242_17, e242_18, e242_19, e242_20, e242_23, e242_25, e242_26, e242_27, e242_30, e242_31, e242_32, e242_33, e242_36, e242_37, e242_38, e242_39, e242_42, e242_43, gK0_eq, gK1_eq, gK3_eq, w32_id, bI_eq0, bI_eq1, Bool.false_eq_true, not_true_eq_false, not_false_eq_true, ne_eq, ite_not, ↓reduceIte, if_true, if_false, Int.reduceToNat, Nat.reduceAdd, h, mK_ne, hc]
        rw [ih _ _ (by omega) (by omega) (by omega)]
theorem s_signOf {d : Int} (hI : gIX μ) (hd : 0 ≤ d ∧ d < μ 167 12) : gE 242 0 [gO 10 167, gI d, gX, gX] [] (mK μ b T) Q = Q (xSign μ d) (mK μ b T) := by
  obtain ⟨h1, h2, h3, h4, h5, h6, h7, h8, h9, h10, h11⟩ := id hI
  obtain ⟨g1, g2, g3⟩ := h6 d hd.1 hd.2
  simp (disch := first | assumption | omega) only [e242_0, e242_1, e242_2, e242_3, e242_6, e242_7, e242_8, e242_10, e242_13, e242_14, e242_17, e242_18, e242_19, e242_20, e242_23, e242_25, e242_26, e242_27, e242_30, e242_31, e242_32, e242_33, e242_36, e242_37, e242_38, e242_39, e242_42, e242_43, gK0_eq, gK1_eq, gK3_eq, w32_id, bI_eq0, bI_eq1, Bool.false_eq_true, not_true_eq_false, not_false_eq_true, ne_eq, ite_not, ↓reduceIte, if_true, if_false, Int.reduceToNat, Nat.reduceAdd, mK_ne]
  exact s_signOf_loop hI 6 _ _ g1 g2 (by omega)
theorem s_entryOf_loop {d p : Int} (hb : gBk μ b) (hC : 0 ≤ T 1813 ∧ T 1813 ≤ 16) : ∀ (m : Nat) (k : Int), 0 ≤ k → k + m = T 1813 →
    gE 288 2 [gO 10 167, gI d, gI p, gI k] [] (mK μ b T) Q = Q (findF (fun k => decide (T (1814 + 4 * k) = d) && decide (T (1814 + 4 * k + 1) = p)) k m) (mK μ b T) := by
  intro m
  induction m with
  | zero =>
    intro k h0 h1
    have h : T 1813 ≤ k := by omega
    rw [e288_2]
    simp (disch := first | assumption | omega) only [e288_0, e288_1, e288_3, e288_4, e288_7, e288_10, e288_13, e288_14, e288_17, e288_18, e288_19, e288_20, e288_21, e288_24, e288_25, e288_28, e288_29, e288_32, e288_33, e288_34, e288_35, e288_36, e288_37, e288_38, e288_41, e288_42, e288_45, e288_46, e288_47, e288_50, e288_53, e288_54, gK0_eq, gK1_eq, gK3_eq, w32_id, bI_eq0, bI_eq1, Bool.false_eq_true, not_true_eq_false, not_false_eq_true, ne_eq, ite_not, ↓reduceIte, if_true, if_false, Int.reduceToNat, Nat.reduceAdd, s_of, h, findF]
  | succ m ih =>
    intro k h0 h1
    have h : ¬ T 1813 ≤ k := by omega
    rw [e288_2]
    by_cases h2 : T (1814 + 4 * k) = d
    · by_cases h3 : T (1814 + 4 * k + 1) = p
      · simp (disch := first | assumption | omega) only [e288_0, e288_1, e288_3, e288_4, e288_7, e288_10, e288_13, e288_14, e288_17, e288_18, e288_19, e288_20, e288_21, e288_24, e288_25, e288_28, e288_29, e288_32, e288_33, e288_34, e288_35, e288_36, e288_37, e288_38, e288_41, e288_42, e288_45, e288_46, e288_47, e288_50, e288_53, e288_54, gK0_eq, gK1_eq, gK3_eq, w32_id, bI_eq0, bI_eq1, Bool.false_eq_true, not_true_eq_false, not_false_eq_true, ne_eq, ite_not, ↓reduceIte, if_true, if_false, Int.reduceToNat, Nat.reduceAdd, s_of, h, h2, h3, findF, decide_true, Bool.and_self]
      · simp (disch := first | assumption | omega) only [e288_0, e288_1, e288_3, e288_4, e288_7, e288_10, e288_13, e288_14, e288_17, e288_18, e288_19, e288_20, e288_21, e288_24, e288_25, e288_28, e288_29, e288_32, e288_33, e288_34, e288_35, e288_36, e288_37, e288_38, e288_41, e288_42, e288_45, e288_46, e288_47, e288_50, e288_53, e288_54, gK0_eq, gK1_eq, gK3_eq, w32_id, bI_eq0, bI_eq1, Bool.false_eq_true, not_true_eq_false, not_false_eq_true, ne_eq, ite_not, ↓reduceIte, if_true, if_false, Int.reduceToNat, Nat.reduceAdd, s_of, h, h2, h3]
        rw [ih (k + 1) (by omega) (by omega)]
        simp only [findF, h3, decide_false, Bool.and_false, Bool.false_eq_true, if_false]
    · simp (disch := first | assumption | omega) only [e288_0, e288_1, e288_3, e288_4, e288_7, e288_10, e288_13, e288_14, e288_17, e288_18, e288_19, e288_20, e288_21, e288_24, e288_25, e288_28, e288_29, e288_32, e288_33, e288_34, e288_35, e288_36, e288_37, e288_38, e288_41, e288_42, e288_45, e288_46, e288_47, e288_50, e288_53, e288_54, gK0_eq, gK1_eq, gK3_eq, w32_id, bI_eq0, bI_eq1, Bool.false_eq_true, not_true_eq_false, not_false_eq_true, ne_eq, ite_not, ↓reduceIte, if_true, if_false, Int.reduceToNat, Nat.reduceAdd, s_of, h, h2]
      rw [ih (k + 1) (by omega) (by omega)]
      simp only [findF, h2, decide_false, Bool.false_and, Bool.false_eq_true, if_false]
theorem s_entryOf {d p : Int} (hb : gBk μ b) (hC : 0 ≤ T 1813 ∧ T 1813 ≤ 16) : gE 288 0 [gO 10 167, gI d, gI p, gX] [] (mK μ b T) Q = Q (tEnt T d p) (mK μ b T) := by
  simp (disch := first | assumption | omega) only [e288_0, e288_1, e288_3, e288_4, e288_7, e288_10, e288_13, e288_14, e288_17, e288_18, e288_19, e288_20, e288_21, e288_24, e288_25, e288_28, e288_29, e288_32, e288_33, e288_34, e288_35, e288_36, e288_37, e288_38, e288_41, e288_42, e288_45, e288_46, e288_47, e288_50, e288_53, e288_54, gK0_eq, gK1_eq, gK3_eq, w32_id, bI_eq0, bI_eq1, Bool.false_eq_true, not_true_eq_false, not_false_eq_true, ne_eq, ite_not, ↓reduceIte, if_true, if_false, Int.reduceToNat, Nat.reduceAdd]
  rw [s_entryOf_loop hb hC (T 1813).toNat 0 (by omega) (by omega)]
  rfl
theorem s_caches {d p f r : Int} (hb : gBk μ b) (hC : 0 ≤ T 1813 ∧ T 1813 < 16) : gE 289 0 [gO 10 167, gI d, gI p, gI f, gI r, gX] [] (mK μ b T) Q = Q 0 (mK μ b (tCch T d p f r)) := by
  simp (disch := first | assumption | omega) only [e289_0, e289_3, e289_4, e289_5, e289_8, e289_11, e289_12, e289_13, e289_15, e289_16, e289_18, e289_19, e289_22, e289_23, e289_25, e289_26, e289_27, e289_28, e289_31, e289_32, e289_34, e289_35, e289_36, e289_37, e289_40, e289_41, e289_43, e289_44, e289_45, e289_47, e289_50, e289_51, e289_54, e289_57, gK0_eq, gK1_eq, gK3_eq, w32_id, bI_eq0, bI_eq1, Bool.false_eq_true, not_true_eq_false, not_false_eq_true, ne_eq, ite_not, ↓reduceIte, if_true, if_false, Int.reduceToNat, Nat.reduceAdd, s_of, s_lay, s_more, tS_ne, tCch]
theorem s_isAsMapped {d p f r : Int} (hb : gBk μ b) (hd : 0 ≤ d ∧ d < 4) (hp : 0 ≤ p ∧ p < 64) : gE 290 0 [gO 10 167, gI d, gI p, gI f, gI r] [] (mK μ b T) Q = Q (bI (tAs T d p f r = true)) (mK μ b T) := by
  unfold tAs
  by_cases h1 : T (64 * d + p) = f
  · by_cases h2 : iand32 (T (256 + 64 * d + p)) r = r
    · rw [bI_t (by simp [h1, h2])]
      simp (disch := first | assumption | omega) only [e290_0, e290_1, e290_2, e290_3, e290_6, e290_7, e290_10, e290_11, e290_14, e290_16, e290_17, e290_18, e290_19, e290_20, e290_21, e290_24, e290_26, e290_27, e290_29, e290_32, e290_33, e290_36, e290_37, gK0_eq, gK1_eq, gK3_eq, w32_id, bI_eq0, bI_eq1, Bool.false_eq_true, not_true_eq_false, not_false_eq_true, ne_eq, ite_not, ↓reduceIte, if_true, if_false, Int.reduceToNat, Nat.reduceAdd, s_frameAt, s_of, h1, h2]
    · rw [bI_f (by simp [h2])]
      simp (disch := first | assumption | omega) only [e290_0, e290_1, e290_2, e290_3, e290_6, e290_7, e290_10, e290_11, e290_14, e290_16, e290_17, e290_18, e290_19, e290_20, e290_21, e290_24, e290_26, e290_27, e290_29, e290_32, e290_33, e290_36, e290_37, gK0_eq, gK1_eq, gK3_eq, w32_id, bI_eq0, bI_eq1, Bool.false_eq_true, not_true_eq_false, not_false_eq_true, ne_eq, ite_not, ↓reduceIte, if_true, if_false, Int.reduceToNat, Nat.reduceAdd, s_frameAt, s_of, h1, h2]
  · rw [bI_f (by simp [h1])]
    simp (disch := first | assumption | omega) only [e290_0, e290_1, e290_2, e290_3, e290_6, e290_7, e290_10, e290_11, e290_14, e290_16, e290_17, e290_18, e290_19, e290_20, e290_21, e290_24, e290_26, e290_27, e290_29, e290_32, e290_33, e290_36, e290_37, gK0_eq, gK1_eq, gK3_eq, w32_id, bI_eq0, bI_eq1, Bool.false_eq_true, not_true_eq_false, not_false_eq_true, ne_eq, ite_not, ↓reduceIte, if_true, if_false, Int.reduceToNat, Nat.reduceAdd, s_frameAt, s_of, h1]
theorem s_domainOfDevice {e : Int} (hb : gBk μ b) (hI : gIX μ) (he : 0 ≤ e ∧ e < 8) : gE 292 0 [gO 10 167, gI e] [] (mK μ b T) Q = Q (T (1673 + μ 179 e)) (mK μ b T) := by
  obtain ⟨h1, h2, h3, h4, h5, h6, h7, h8, h9, h10, h11⟩ := hI
  obtain ⟨g1, g2, g3⟩ := h7 e he.1 he.2
  simp (disch := first | assumption | omega) only [e292_0, e292_1, e292_4, e292_5, e292_8, e292_9, e292_10, e292_11, e292_14, gK0_eq, gK1_eq, gK3_eq, w32_id, bI_eq0, bI_eq1, Bool.false_eq_true, not_true_eq_false, not_false_eq_true, ne_eq, ite_not, ↓reduceIte, if_true, if_false, Int.reduceToNat, Nat.reduceAdd, mK_ne, s_of]
theorem tEnt_lt {d p : Int} (hC : 0 ≤ T 1813) : tEnt T d p < T 1813 ∧ -1 ≤ tEnt T d p := by
  unfold tEnt
  rcases findF_in (P := fun k => decide (T (1814 + 4 * k) = d) && decide (T (1814 + 4 * k + 1) = p)) (T 1813).toNat 0 (by omega) with ⟨h1, h2⟩ | ⟨h1, h2, h3, h4⟩
  · omega
  · omega
theorem tMor_ne {k j : Int} (h : j ≠ k) : tMor T k j = T j := tS_ne h
theorem tMor_ent {d p k : Int} (h : k < 1813 ∨ 1878 ≤ k) (hC : 0 ≤ T 1813 ∧ T 1813 ≤ 16) : tEnt (tMor T k) d p = tEnt T d p := by
  unfold tEnt
  rw [tMor_ne (by omega)]
  apply findF_congr
  intro i h0 h1
  rw [tMor_ne (by omega), tMor_ne (by omega)]
theorem s_moreM {k : Int} (hb : gBk μ b) (h0 : 0 ≤ k) (h1 : k < 1960) : gE 250 0 [gO 10 167, gI k] [] (mK μ b T) Q = Q 0 (mK μ b (tMor T k)) := s_more hb h0 h1
theorem tDrop_lo {k j : Int} (h : j < 1813 ∨ 1878 ≤ j) (hk : 0 ≤ k) (hC : T 1813 ≤ 16) : tDrop T k j = T j := by
  unfold tDrop
  rw [tS_ne (by omega), tShL_lo (by omega)]
theorem tCch_lo {d p f r j : Int} (h : j < 1813 ∨ 1878 ≤ j) (hC : 0 ≤ T 1813 ∧ T 1813 < 16) : tCch T d p f r j = T j := by
  unfold tCch
  rw [tS_ne (by omega), tS_ne (by omega), tS_ne (by omega), tS_ne (by omega), tS_ne (by omega)]
theorem tAs_congr {T' : Int → Int} {d p f r : Int} (hd : 0 ≤ d ∧ d < 4) (hp : 0 ≤ p ∧ p < 64) (h : ∀ j, j < 512 → T' j = T j) : tAs T' d p f r = tAs T d p f r := by
  unfold tAs
  rw [h _ (by omega), h _ (by omega)]
theorem s_looks_hit {d p r : Int} (hb : gBk μ b) (hd : 0 ≤ d ∧ d < 4) (hp : 0 ≤ p ∧ p < 64) (hC : 0 ≤ T 1813 ∧ T 1813 ≤ 16) (hh : tHit T d p r = true) : gE 291 0 [gO 10 167, gI d, gI p, gI r, gX, gX, gX] [] (mK μ b T) Q = Q (tLkF T d p r) (mK μ b (tLkT T (μ 178 0) d p r)) := by
  have hh' := hh
  unfold tHit at hh'
  rw [Bool.and_eq_true, decide_eq_true_eq, decide_eq_true_eq] at hh'
  obtain ⟨h1, h2⟩ := hh'
  have h3 := (tEnt_lt (d := d) (p := p) hC.1).1
  have h4 : ¬ tEnt T d p < 0 := by omega
  have e1 : tDrop T (tEnt T d p) 1813 = T 1813 - 1 := tDrop_1813
  have hC1 : 0 ≤ tDrop T (tEnt T d p) 1813 ∧ tDrop T (tEnt T d p) 1813 < 16 := by omega
  have hk : 0 ≤ tEnt T d p ∧ tEnt T d p < T 1813 := ⟨h1, h3⟩
  have hC16 : T 1813 ≤ 16 := hC.2
  have e2 : ∀ j, j < 512 → tMor (tCch (tDrop T (tEnt T d p)) d p (T (1814 + 4 * tEnt T d p + 2)) (T (1814 + 4 * tEnt T d p + 3))) 1878 j = T j := fun j hj => by
    rw [tMor_ne (by omega), tCch_lo (by omega) hC1, tDrop_lo (by omega) (by omega) hC16]
  have e3 := tAs_congr (T := T) (f := T (1814 + 4 * tEnt T d p + 2)) (r := r) hd hp e2
  unfold tLkF tLkT
  rw [if_pos hh, if_pos hh]
  unfold tLkH
  cases ha : tAs T d p (T (1814 + 4 * tEnt T d p + 2)) r with
  | true => simp (disch := first | assumption | omega) only [e291_0, e291_1, e291_2, e291_3, e291_6, e291_8, e291_10, e291_13, e291_14, e291_17, e291_18, e291_20, e291_21, e291_22, e291_23, e291_24, e291_27, e291_28, e291_29, e291_32, e291_33, e291_36, e291_37, e291_39, e291_40, e291_41, e291_42, e291_43, e291_46, e291_48, e291_49, e291_52, e291_53, e291_55, e291_56, e291_57, e291_58, e291_59, e291_62, e291_64, e291_65, e291_67, e291_70, e291_71, e291_72, e291_73, e291_75, e291_77, e291_80, e291_81, e291_84, e291_87, e291_88, e291_89, e291_90, e291_92, e291_93, e291_96, e291_99, e291_100, e291_103, e291_106, e291_108, e291_109, e291_110, e291_113, e291_116, e291_117, e291_118, e291_119, e291_122, e291_124, e291_126, e291_129, e291_130, e291_133, e291_135, e291_136, e291_137, e291_138, e291_139, e291_140, e291_143, e291_144, e291_145, e291_148, e291_149, e291_151, e291_154, e291_156, e291_159, e291_161, e291_164, e291_165, e291_167, e291_170, e291_171, e291_174, e291_175, e291_176, e291_177, e291_180, e291_183, e291_184, e291_185, e291_187, e291_190, e291_191, e291_193, e291_196, e291_199, e291_200, e291_203, e291_206, e291_207, e291_210, e291_211, e291_212, e291_215, e291_216, e291_217, e291_220, e291_221, e291_222, e291_223, e291_224, e291_225, e291_226, e291_229, e291_230, e291_233, e291_235, e291_236, e291_237, e291_238, e291_239, e291_240, e291_243, e291_246, e291_247, e291_248, e291_249, e291_252, gK0_eq, gK1_eq, gK3_eq, w32_id, bI_eq0, bI_eq1, Bool.false_eq_true, not_true_eq_false, not_false_eq_true, ne_eq, ite_not, ↓reduceIte, if_true, if_false, Int.reduceToNat, Nat.reduceAdd, s_entryOf, s_of, s_drops, s_caches, s_moreM, s_isAsMapped, h4, h2, e3, ha]
  | false => simp (disch := first | assumption | omega) only [e291_0, e291_1, e291_2, e291_3, e291_6, e291_8, e291_10, e291_13, e291_14, e291_17, e291_18, e291_20, e291_21, e291_22, e291_23, e291_24, e291_27, e291_28, e291_29, e291_32, e291_33, e291_36, e291_37, e291_39, e291_40, e291_41, e291_42, e291_43, e291_46, e291_48, e291_49, e291_52, e291_53, e291_55, e291_56, e291_57, e291_58, e291_59, e291_62, e291_64, e291_65, e291_67, e291_70, e291_71, e291_72, e291_73, e291_75, e291_77, e291_80, e291_81, e291_84, e291_87, e291_88, e291_89, e291_90, e291_92, e291_93, e291_96, e291_99, e291_100, e291_103, e291_106, e291_108, e291_109, e291_110, e291_113, e291_116, e291_117, e291_118, e291_119, e291_122, e291_124, e291_126, e291_129, e291_130, e291_133, e291_135, e291_136, e291_137, e291_138, e291_139, e291_140, e291_143, e291_144, e291_145, e291_148, e291_149, e291_151, e291_154, e291_156, e291_159, e291_161, e291_164, e291_165, e291_167, e291_170, e291_171, e291_174, e291_175, e291_176, e291_177, e291_180, e291_183, e291_184, e291_185, e291_187, e291_190, e291_191, e291_193, e291_196, e291_199, e291_200, e291_203, e291_206, e291_207, e291_210, e291_211, e291_212, e291_215, e291_216, e291_217, e291_220, e291_221, e291_222, e291_223, e291_224, e291_225, e291_226, e291_229, e291_230, e291_233, e291_235, e291_236, e291_237, e291_238, e291_239, e291_240, e291_243, e291_246, e291_247, e291_248, e291_249, e291_252, gK0_eq, gK1_eq, gK3_eq, w32_id, bI_eq0, bI_eq1, Bool.false_eq_true, not_true_eq_false, not_false_eq_true, ne_eq, ite_not, ↓reduceIte, if_true, if_false, Int.reduceToNat, Nat.reduceAdd, s_entryOf, s_of, s_drops, s_caches, s_moreM, s_isAsMapped, h4, h2, e3, ha]
end MODEL4
