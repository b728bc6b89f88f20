/-! the check: detach -/
def tSpd (X : gM) (T : Int → Int) (d p : Int) : Bool := anyF (fun k => (decide (X 177 (3 * k + 1) ≤ p) && decide (p ≤ X 177 (3 * k + 2))) && decide (T (1673 + X 179 (X 177 (3 * k))) = d)) 0 (X 167 14).toNat
def tDe (T : Int → Int) (D : Int → Bool) (T1 : Int → Int) : Prop :=
  (∀ i, 0 ≤ i → i < 256 → T1 i = (if D i = true then -1 else T i) ∧ T1 (256 + i) = T (256 + i) ∧ T1 (512 + i) = (if D i = true then 0 else T (512 + i)) ∧ T1 (768 + i) = (if anyF D (i - i % 4) 4 = true then 0 else T (768 + i))) ∧
  (∀ f, 0 ≤ f → f < 64 → T1 (1024 + f) = (if anyF (fun i => D i && decide (T i = f)) 0 256 = true then 1 else T (1024 + f)) ∧ T1 (1088 + f) = T (1088 + f)) ∧
  (∀ f w, 0 ≤ f → f < 64 → 0 ≤ w → w < 8 → in32 (T1 (1152 + 8 * f + w)) ∧ ∀ k : Nat, k < 32 → bt (T1 (1152 + 8 * f + w)) k = (bt (T (1152 + 8 * f + w)) k || (D (32 * w + k) && decide (T (32 * w + k) = f)))) ∧
  (∀ j, j < 0 ∨ 1664 ≤ j → T1 j = T j)
def tDtR (gr : Int → Int) (g : Int) : Nat → (Int → Int) → Int → Int
  | 0, T => T
  | k + 1, T => tDtR gr g k (if gr (T (1882 + 4 * k)) = g then tMor (tReqG T k) 1917 else T)
def tOin (T : Int → Int) : Prop := ∀ f w, 0 ≤ f → f < 64 → 0 ≤ w → w < 8 → in32 (T (1152 + 8 * f + w))
def tDt0 (X : gM) (T : Int → Int) (e : Int) : Int → Int := tS (tDtR (fun e => X 179 e) (X 179 e) (T 1881).toNat T) (1673 + X 179 e) (-1)
def tDtD (X : gM) (T0 : Int → Int) (e d : Int) : Int → Bool := cMp T0 d (fun x => xGp X e x && !tSpd X T0 d x)
section MODEL13
variable {μ : gM} {b : Int} {T : Int → Int} {Q : Int → gM → Prop}
theorem anyF_or {P P' : Int → Bool} : ∀ (n : Nat) (k : Int), anyF (fun i => P i || P' i) k n = (anyF P k n || anyF P' k n) := by
  intro n
  induction n with
  | zero => intro k; rfl
  | succ n ih =>
    intro k
    rw [anyF, anyF, anyF, ih]
    cases P k <;> cases P' k <;> cases anyF P (k + 1) n <;> rfl
theorem anyF_one {i : Int} {c : Bool} : ∀ (n : Nat) (k : Int), anyF (fun j => decide (j = i) && c) k n = (decide (k ≤ i ∧ i < k + n) && c) := by
  intro n
  induction n with
  | zero => intro k; rw [decide_eq_false (by omega)]; rfl
  | succ n ih =>
    intro k
    rw [anyF, ih]
    by_cases hk : k = i
    · subst hk
      rw [decide_eq_true (rfl : k = k), decide_eq_false (show ¬ (k + 1 ≤ k ∧ k < k + 1 + n) by omega), decide_eq_true (show k ≤ k ∧ k < k + ((n + 1 : Nat) : Int) by omega), Bool.false_and, Bool.or_false]
    · rw [decide_eq_false hk, Bool.false_and, Bool.false_or]
      congr 1
      exact decide_eq_decide.mpr (by omega)
theorem anyF_bOr {D : Int → Bool} {i : Int} (n : Nat) (k : Int) : anyF (bOr D i) k n = (anyF D k n || decide (k ≤ i ∧ i < k + n)) := by
  have h := anyF_one (i := i) (c := true) n k
  simp only [Bool.and_true] at h
  rw [← h, ← anyF_or]
  rfl
theorem tDe_none (h : tOin T) : tDe T (fun _ => false) T := by
  refine ⟨fun i _ _ => ⟨by simp, rfl, by simp, ?_⟩, fun f _ _ => ⟨?_, rfl⟩, fun f w h0 h1 h2 h3 => ⟨h f w h0 h1 h2 h3, fun k _ => by simp⟩, fun j _ => rfl⟩
  · rw [if_neg (by rw [anyF_iff]; rintro ⟨_, _, _, q⟩; exact Bool.noConfusion q)]
  · rw [if_neg (by rw [anyF_iff]; rintro ⟨_, _, _, q⟩; simp at q)]
theorem tDe_uniq {D : Int → Bool} {T1 T2 : Int → Int} (h1 : tDe T D T1) (h2 : tDe T D T2) : T1 = T2 := by
  obtain ⟨a1, a2, a3, a4⟩ := h1
  obtain ⟨b1, b2, b3, b4⟩ := h2
  funext j
  by_cases c0 : j < 0 ∨ 1664 ≤ j
  · rw [a4 j c0, b4 j c0]
  · by_cases c1 : j < 256
    · rw [(a1 j (by omega) c1).1, (b1 j (by omega) c1).1]
    · by_cases c2 : j < 512
      · have e : j = 256 + (j - 256) := by omega
        rw [e, (a1 (j - 256) (by omega) (by omega)).2.1, (b1 (j - 256) (by omega) (by omega)).2.1]
      · by_cases c3 : j < 768
        · have e : j = 512 + (j - 512) := by omega
          rw [e, (a1 (j - 512) (by omega) (by omega)).2.2.1, (b1 (j - 512) (by omega) (by omega)).2.2.1]
        · by_cases c4 : j < 1024
          · have e : j = 768 + (j - 768) := by omega
            rw [e, (a1 (j - 768) (by omega) (by omega)).2.2.2, (b1 (j - 768) (by omega) (by omega)).2.2.2]
          · by_cases c5 : j < 1088
            · have e : j = 1024 + (j - 1024) := by omega
              rw [e, (a2 (j - 1024) (by omega) (by omega)).1, (b2 (j - 1024) (by omega) (by omega)).1]
            · by_cases c6 : j < 1152
              · have e : j = 1088 + (j - 1088) := by omega
                rw [e, (a2 (j - 1088) (by omega) (by omega)).2, (b2 (j - 1088) (by omega) (by omega)).2]
              · have e : j = 1152 + 8 * ((j - 1152) / 8) + (j - 1152) % 8 := by omega
                rw [e]
                obtain ⟨x1, x2⟩ := a3 ((j - 1152) / 8) ((j - 1152) % 8) (by omega) (by omega) (by omega) (by omega)
                obtain ⟨y1, y2⟩ := b3 ((j - 1152) / 8) ((j - 1152) % 8) (by omega) (by omega) (by omega) (by omega)
                exact bt_ext x1 y1 (fun k hk => by rw [x2 k hk, y2 k hk])
theorem tDe_step {D : Int → Bool} {T1 : Int → Int} {d p i : Int} (hi : i = 64 * d + p) (hd : 0 ≤ d ∧ d < 4) (hp : 0 ≤ p ∧ p < 64) (h : tDe T D T1) (hD : D i = false) (hT : 0 ≤ T i ∧ T i < 64) : tDe T (bOr D i) (tUn T1 d p) := by
  obtain ⟨a1, a2, a3, a4⟩ := h
  have hi0 : 0 ≤ i ∧ i < 256 := by omega
  have hv : T1 i = T i := by rw [(a1 i hi0.1 hi0.2).1, hD]; rfl
  unfold tUn
  rw [← hi]
  have h4 : i - p % 4 = i - i % 4 := by omega
  rw [h4]
  generalize hf : T1 i = f
  rw [hv] at hf
  have hf0 : 0 ≤ f ∧ f < 64 := by omega
  refine ⟨fun j j0 j1 => ⟨?_, ?_, ?_, ?_⟩, fun g g0 g1 => ⟨?_, ?_⟩, fun g w g0 g1 w0 w1 => ?_, fun j hj => ?_⟩
  · rw [tS_ne (by omega), tS_ne (by omega), tS_ne (by omega)]
    by_cases c : j = i
    · subst c
      rw [tS_same, if_pos (by simp [bOr])]
    · rw [tS_ne c, tBl0_lo (by omega), (a1 j j0 j1).1]
      have e : bOr D i j = D j := by simp [bOr, c]
      rw [e]
  · rw [tS_ne (by omega), tS_ne (by omega), tS_ne (by omega), tS_ne (by omega), tBl0_lo (by omega)]
    exact (a1 j j0 j1).2.1
  · rw [tS_ne (by omega), tS_ne (by omega)]
    by_cases c : j = i
    · subst c
      rw [tS_same, if_pos (by simp [bOr])]
    · rw [tS_ne (by omega), tS_ne (by omega), tBl0_lo (by omega), (a1 j j0 j1).2.2.1]
      have e : bOr D i j = D j := by simp [bOr, c]
      rw [e]
  · rw [tS_ne (by omega), tS_ne (by omega), tS_ne (by omega), tS_ne (by omega), anyF_bOr]
    by_cases c : j - j % 4 ≤ i ∧ i < j - j % 4 + 4
    · rw [decide_eq_true (show j - j % 4 ≤ i ∧ i < j - j % 4 + ((4 : Nat) : Int) by omega), Bool.or_true, if_pos rfl]
      unfold tBl0
      rw [if_pos (by omega)]
    · rw [decide_eq_false (show ¬ (j - j % 4 ≤ i ∧ i < j - j % 4 + ((4 : Nat) : Int)) by omega), Bool.or_false, tBl0_lo (by omega)]
      exact (a1 j j0 j1).2.2.2
  · rw [tS_ne (by omega)]
    have e : anyF (fun i' => bOr D i i' && decide (T i' = g)) 0 256 = (anyF (fun i => D i && decide (T i = g)) 0 256 || decide (T i = g)) := by
      have e1 : (fun i' => bOr D i i' && decide (T i' = g)) = fun i' => (D i' && decide (T i' = g)) || (decide (i' = i) && decide (T i = g)) := by
        funext x
        unfold bOr
        by_cases c : x = i
        · subst c; cases D x <;> simp
        · simp [c]
      rw [e1, anyF_or, anyF_one, decide_eq_true (show 0 ≤ i ∧ i < 0 + ((256 : Nat) : Int) by omega), Bool.true_and]
    rw [e]
    by_cases c : T i = g
    · rw [decide_eq_true c, Bool.or_true, if_pos rfl]
      have e2 : 1024 + g = 1024 + f := by omega
      rw [e2, tS_same]
    · rw [decide_eq_false c, Bool.or_false, tS_ne (by omega), tS_ne (by omega), tS_ne (by omega), tBl0_lo (by omega)]
      exact (a2 g g0 g1).1
  · rw [tS_ne (by omega), tS_ne (by omega), tS_ne (by omega), tS_ne (by omega), tBl0_lo (by omega)]
    exact (a2 g g0 g1).2
  · obtain ⟨x1, x2⟩ := a3 g w g0 g1 w0 w1
    by_cases c : g = f ∧ w = i / 32
    · have e : 1152 + 8 * g + w = 1152 + 8 * f + i / 32 := by omega
      rw [e] at x1 x2 ⊢
      rw [tS_same]
      refine ⟨in32_or, fun k hk => ?_⟩
      rw [bt_or, x2 k hk, bt_shl (by omega) hk, Bool.or_assoc]
      congr 1
      unfold bOr
      by_cases ck : (k : Int) = i % 32
      · have e2 : 32 * w + k = i := by omega
        rw [decide_eq_true ck, e2, decide_eq_true (rfl : i = i), decide_eq_true (show T i = g by omega)]
        simp
      · rw [decide_eq_false ck, decide_eq_false (show ¬ (32 * w + k = i) by omega)]
        simp
    · rw [tS_ne (by omega), tS_ne (by omega), tS_ne (by omega), tS_ne (by omega), tBl0_lo (by omega)]
      refine ⟨x1, fun k hk => ?_⟩
      rw [x2 k hk]
      congr 1
      unfold bOr
      by_cases ck : 32 * w + k = i
      · have e2 : ¬ T (32 * w + k) = g := by rw [ck]; omega
        rw [decide_eq_false e2, Bool.and_false, Bool.and_false]
      · rw [decide_eq_false ck, Bool.or_false]
  · rw [tS_ne (by omega), tS_ne (by omega), tS_ne (by omega), tS_ne (by omega), tBl0_lo (by omega)]
    exact a4 j hj
theorem s_isSpanned_loop {d p : Int} (hb : gBk μ b) (hI : gIX μ) : ∀ (n : Nat) (k : Int) (l4 : gv), 0 ≤ k → k + n = μ 167 14 →
    gE 307 2 [gO 10 167, gI d, gI p, gI k, l4] [] (mK μ b T) Q = Q (bI (anyF (fun k => (decide (μ 177 (3 * k + 1) ≤ p) && decide (p ≤ μ 177 (3 * k + 2))) && decide (T (1673 + μ 179 (μ 177 (3 * k))) = d)) k n = true)) (mK μ b T) := by
  have hs6 := hI.2.2.2.1
  have hd8 := hI.2.1
  intro n
  induction n with
  | zero =>
    intro k l4 h0 h1
    have h : μ 167 14 ≤ k := by omega
    rw [e307_2, anyF]
    simp (disch := first | assumption | omega) only [e307_0, e307_1, e307_3, e307_4, e307_7, e307_10, e307_11, e307_12, e307_15, e307_16, e307_17, e307_18, e307_19, e307_20, e307_21, e307_24, e307_25, e307_26, e307_29, e307_30, e307_31, e307_32, e307_33, e307_34, e307_35, e307_38, e307_39, e307_42, e307_43, e307_45, e307_47, e307_50, e307_51, e307_52, e307_55, e307_56, e307_57, e307_58, e307_59, e307_62, e307_63, e307_66, e307_67, e307_68, e307_71, e307_74, e307_75, gK0_eq, gK1_eq, gK3_eq, w32_id, bI_eq0, bI_eq1, Bool.false_eq_true, not_true_eq_false, not_false_eq_true, ne_eq, ite_not, ↓reduceIte, if_true, if_false, Int.reduceToNat, Nat.reduceAdd, Int.reduceEq, Int.reduceLT, Int.reduceLE, Int.reduceNeg, bI_T, bI_F, ↓if_pos, ↓if_neg, h, mK_ne]
  | succ n ih =>
    intro k l4 h0 h1
    have h : ¬ μ 167 14 ≤ k := by omega
    have hsp := hI.2.2.2.2.2.2.2.2.1 k h0 (by omega)
    have h3 : 0 ≤ 3 * k + 2 ∧ 3 * k + 2 < 36 := by omega
    have h8 : 0 ≤ μ 177 (3 * k) ∧ μ 177 (3 * k) < 8 := by omega
    rw [e307_2, anyF]
    by_cases c1 : μ 177 (3 * k + 1) ≤ p
    · by_cases c2 : p ≤ μ 177 (3 * k + 2)
      · rw [decide_eq_true c1, decide_eq_true c2]
        by_cases c3 : T (1673 + μ 179 (μ 177 (3 * k))) = d
        · rw [decide_eq_true c3]
          simp (disch := first | assumption | omega) only [e307_0, e307_1, e307_3, e307_4, e307_7, e307_10, e307_11, e307_12, e307_15, e307_16, e307_17, e307_18, e307_19, e307_20, e307_21, e307_24, e307_25, e307_26, e307_29, e307_30, e307_31, e307_32, e307_33, e307_34, e307_35, e307_38, e307_39, e307_42, e307_43, e307_45, e307_47, e307_50, e307_51, e307_52, e307_55, e307_56, e307_57, e307_58, e307_59, e307_62, e307_63, e307_66, e307_67, e307_68, e307_71, e307_74, e307_75, gK0_eq, gK1_eq, gK3_eq, w32_id, bI_eq0, bI_eq1, Bool.false_eq_true, not_true_eq_false, not_false_eq_true, ne_eq, ite_not, ↓reduceIte, if_true, if_false, Int.reduceToNat, Nat.reduceAdd, Int.reduceEq, Int.reduceLT, Int.reduceLE, Int.reduceNeg, bI_T, bI_F, ↓if_pos, ↓if_neg, h, mK_ne, c1, c2, s_domainOfDevice, h8, c3, Bool.and_true, Bool.true_or]
        · rw [decide_eq_false c3]
          simp (disch := first | assumption | omega) only [e307_0, e307_1, e307_3, e307_4, e307_7, e307_10, e307_11, e307_12, e307_15, e307_16, e307_17, e307_18, e307_19, e307_20, e307_21, e307_24, e307_25, e307_26, e307_29, e307_30, e307_31, e307_32, e307_33, e307_34, e307_35, e307_38, e307_39, e307_42, e307_43, e307_45, e307_47, e307_50, e307_51, e307_52, e307_55, e307_56, e307_57, e307_58, e307_59, e307_62, e307_63, e307_66, e307_67, e307_68, e307_71, e307_74, e307_75, gK0_eq, gK1_eq, gK3_eq, w32_id, bI_eq0, bI_eq1, Bool.false_eq_true, not_true_eq_false, not_false_eq_true, ne_eq, ite_not, ↓reduceIte, if_true, if_false, Int.reduceToNat, Nat.reduceAdd, Int.reduceEq, Int.reduceLT, Int.reduceLE, Int.reduceNeg, bI_T, bI_F, ↓if_pos, ↓if_neg, h, mK_ne, c1, c2, s_domainOfDevice, h8, c3, Bool.and_false, Bool.false_or]
          exact ih _ _ (by omega) (by omega)
      · rw [decide_eq_false c2]
        simp (disch := first | assumption | omega) only [e307_0, e307_1, e307_3, e307_4, e307_7, e307_10, e307_11, e307_12, e307_15, e307_16, e307_17, e307_18, e307_19, e307_20, e307_21, e307_24, e307_25, e307_26, e307_29, e307_30, e307_31, e307_32, e307_33, e307_34, e307_35, e307_38, e307_39, e307_42, e307_43, e307_45, e307_47, e307_50, e307_51, e307_52, e307_55, e307_56, e307_57, e307_58, e307_59, e307_62, e307_63, e307_66, e307_67, e307_68, e307_71, e307_74, e307_75, gK0_eq, gK1_eq, gK3_eq, w32_id, bI_eq0, bI_eq1, Bool.false_eq_true, not_true_eq_false, not_false_eq_true, ne_eq, ite_not, ↓reduceIte, if_true, if_false, Int.reduceToNat, Nat.reduceAdd, Int.reduceEq, Int.reduceLT, Int.reduceLE, Int.reduceNeg, bI_T, bI_F, ↓if_pos, ↓if_neg, h, mK_ne, c1, c2, Bool.and_false, Bool.false_and, Bool.false_or]
        exact ih _ _ (by omega) (by omega)
    · rw [decide_eq_false c1]
      simp (disch := first | assumption | omega) only [e307_0, e307_1, e307_3, e307_4, e307_7, e307_10, e307_11, e307_12, e307_15, e307_16, e307_17, e307_18, e307_19, e307_20, e307_21, e307_24, e307_25, e307_26, e307_29, e307_30, e307_31, e307_32, e307_33, e307_34, e307_35, e307_38, e307_39, e307_42, e307_43, e307_45, e307_47, e307_50, e307_51, e307_52, e307_55, e307_56, e307_57, e307_58, e307_59, e307_62, e307_63, e307_66, e307_67, e307_68, e307_71, e307_74, e307_75, gK0_eq, gK1_eq, gK3_eq, w32_id, bI_eq0, bI_eq1, Bool.false_eq_true, not_true_eq_false, not_false_eq_true, ne_eq, ite_not, ↓reduceIte, if_true, if_false, Int.reduceToNat, Nat.reduceAdd, Int.reduceEq, Int.reduceLT, Int.reduceLE, Int.reduceNeg, bI_T, bI_F, ↓if_pos, ↓if_neg, h, mK_ne, c1, Bool.and_false, Bool.false_and, Bool.false_or]
      exact ih _ _ (by omega) (by omega)
theorem s_isSpanned {d p : Int} (hb : gBk μ b) (hI : gIX μ) : gE 307 0 [gO 10 167, gI d, gI p, gX, gX] [] (mK μ b T) Q = Q (bI (tSpd μ T d p = true)) (mK μ b T) := by
  have hs6 := hI.2.2.2.1
  simp (disch := first | assumption | omega) only [e307_0, e307_1, e307_3, e307_4, e307_7, e307_10, e307_11, e307_12, e307_15, e307_16, e307_17, e307_18, e307_19, e307_20, e307_21, e307_24, e307_25, e307_26, e307_29, e307_30, e307_31, e307_32, e307_33, e307_34, e307_35, e307_38, e307_39, e307_42, e307_43, e307_45, e307_47, e307_50, e307_51, e307_52, e307_55, e307_56, e307_57, e307_58, e307_59, e307_62, e307_63, e307_66, e307_67, e307_68, e307_71, e307_74, e307_75, gK0_eq, gK1_eq, gK3_eq, w32_id, bI_eq0, bI_eq1, Bool.false_eq_true, not_true_eq_false, not_false_eq_true, ne_eq, ite_not, ↓reduceIte, if_true, if_false, Int.reduceToNat, Nat.reduceAdd, Int.reduceEq, Int.reduceLT, Int.reduceLE, Int.reduceNeg, bI_T, bI_F]
  rw [s_isSpanned_loop hb hI (μ 167 14).toNat 0 gX (by omega) (by omega)]
  rfl
theorem tDtR_lo {gr : Int → Int} {g : Int} : ∀ (n : Nat) (T : Int → Int), (n : Int) ≤ T 1881 → T 1881 ≤ 8 → ∀ j, j < 1881 ∨ (1914 ≤ j ∧ j ≠ 1917) → tDtR gr g n T j = T j := by
  intro n
  induction n with
  | zero => intro T _ _ j _; rfl
  | succ n ih =>
    intro T h0 h1 j hj
    rw [tDtR]
    split
    · rw [ih _ (by rw [tMor_ne (by omega), tReqG_1881]; omega) (by rw [tMor_ne (by omega), tReqG_1881]; omega) j hj, tMor_ne (by omega), tReqG_lo (by omega) (by omega) h1]
    · exact ih T (by omega) h1 j hj
theorem s_det_r {e d : Int} {l4 : gv} (hb : gBk μ b) (hI : gIX μ) (he : 0 ≤ e ∧ e < 8) : ∀ (n : Nat) (T : Int → Int), (n : Int) ≤ T 1881 → tRqO (fun e => μ 179 e) (μ 167 12) T →
    gE 308 69 [gO 10 167, gI e, gI d, gI ((n : Int) - 1), l4] [] (mK μ b T) Q = gE 308 119 [gO 10 167, gI e, gI d, gI (-1), l4] [] (mK μ b (tDtR (fun e => μ 179 e) (μ 179 e) n T)) Q := by
  have hd8 := hI.2.1
  have hg : ∀ e, 0 ≤ e → e < μ 167 12 → 0 ≤ μ 179 e ∧ μ 179 e < 8 := fun e q0 q1 => by have := hI.2.2.2.2.2.2.1 e q0 (by omega); omega
  intro n
  induction n with
  | zero =>
    intro T h0 hO
    have e1 : ((0 : Nat) : Int) - 1 = -1 := by omega
    rw [e1, e308_69, tDtR]
    simp (disch := first | assumption | omega) only [e308_0, e308_1, e308_2, e308_5, e308_6, e308_7, e308_10, e308_13, e308_14, e308_15, e308_16, e308_17, e308_20, e308_21, e308_22, e308_25, e308_26, e308_28, e308_29, e308_32, e308_33, e308_34, e308_37, e308_38, e308_39, e308_42, e308_45, e308_46, e308_48, e308_49, e308_52, e308_55, e308_58, e308_59, e308_60, e308_63, e308_66, e308_67, e308_68, e308_70, e308_73, e308_74, e308_77, e308_78, e308_81, e308_82, e308_83, e308_84, e308_85, e308_88, e308_89, e308_90, e308_93, e308_94, e308_95, e308_98, e308_101, e308_102, e308_103, e308_106, e308_107, e308_110, e308_113, e308_116, e308_120, e308_123, e308_124, e308_127, e308_128, e308_129, e308_130, e308_131, e308_134, e308_135, e308_136, e308_137, e308_138, e308_141, e308_144, e308_145, e308_148, e308_149, e308_152, e308_153, e308_154, e308_155, e308_156, e308_157, e308_158, e308_161, e308_162, e308_163, e308_166, e308_169, e308_170, e308_173, e308_174, e308_175, e308_176, e308_177, e308_178, e308_179, e308_181, e308_183, e308_184, e308_187, e308_188, e308_189, e308_190, e308_191, e308_192, e308_193, e308_196, e308_197, e308_198, e308_200, e308_203, e308_206, e308_207, e308_208, e308_210, e308_213, e308_216, e308_217, e308_218, e308_220, e308_223, e308_226, e308_229, e308_232, e308_235, e308_236, e308_237, e308_240, gK0_eq, gK1_eq, gK3_eq, w32_id, bI_eq0, bI_eq1, Bool.false_eq_true, not_true_eq_false, not_false_eq_true, ne_eq, ite_not, ↓reduceIte, if_true, if_false, Int.reduceToNat, Nat.reduceAdd, Int.reduceEq, Int.reduceLT, Int.reduceLE, Int.reduceNeg, bI_T, bI_F, ↓if_pos, ↓if_neg]
  | succ n ih =>
    intro T h0 hO
    obtain ⟨w0, w8, w⟩ := hO
    have hw := w n (by omega) (by omega)
    have e1 : ((n + 1 : Nat) : Int) - 1 = n := by omega
    have e2 : (n : Int) + -1 = n - 1 := by omega
    have h8 : 0 ≤ T (1882 + 4 * n) ∧ T (1882 + 4 * n) < 16 := by omega
    have q : 0 ≤ (n : Int) ∧ (n : Int) < T 1881 := by omega
    rw [e1, e308_69, tDtR]
    by_cases c : μ 179 (T (1882 + 4 * n)) = μ 179 e
    · rw [if_pos c, ← ih _ (by rw [tMor_ne (by omega), tReqG_1881]; omega) (tRqO_congr hg (tRqO_go hg ⟨w0, w8, w⟩ q) (fun j hj => tMor_ne (by omega)))]
      simp (disch := first | assumption | omega) only [e308_0, e308_1, e308_2, e308_5, e308_6, e308_7, e308_10, e308_13, e308_14, e308_15, e308_16, e308_17, e308_20, e308_21, e308_22, e308_25, e308_26, e308_28, e308_29, e308_32, e308_33, e308_34, e308_37, e308_38, e308_39, e308_42, e308_45, e308_46, e308_48, e308_49, e308_52, e308_55, e308_58, e308_59, e308_60, e308_63, e308_66, e308_67, e308_68, e308_70, e308_73, e308_74, e308_77, e308_78, e308_81, e308_82, e308_83, e308_84, e308_85, e308_88, e308_89, e308_90, e308_93, e308_94, e308_95, e308_98, e308_101, e308_102, e308_103, e308_106, e308_107, e308_110, e308_113, e308_116, e308_120, e308_123, e308_124, e308_127, e308_128, e308_129, e308_130, e308_131, e308_134, e308_135, e308_136, e308_137, e308_138, e308_141, e308_144, e308_145, e308_148, e308_149, e308_152, e308_153, e308_154, e308_155, e308_156, e308_157, e308_158, e308_161, e308_162, e308_163, e308_166, e308_169, e308_170, e308_173, e308_174, e308_175, e308_176, e308_177, e308_178, e308_179, e308_181, e308_183, e308_184, e308_187, e308_188, e308_189, e308_190, e308_191, e308_192, e308_193, e308_196, e308_197, e308_198, e308_200, e308_203, e308_206, e308_207, e308_208, e308_210, e308_213, e308_216, e308_217, e308_218, e308_220, e308_223, e308_226, e308_229, e308_232, e308_235, e308_236, e308_237, e308_240, gK0_eq, gK1_eq, gK3_eq, w32_id, bI_eq0, bI_eq1, Bool.false_eq_true, not_true_eq_false, not_false_eq_true, ne_eq, ite_not, ↓reduceIte, if_true, if_false, Int.reduceToNat, Nat.reduceAdd, Int.reduceEq, Int.reduceLT, Int.reduceLE, Int.reduceNeg, bI_T, bI_F, ↓if_pos, ↓if_neg, s_of, mK_ne, c, s_requestGoes, q, s_moreM, e2]
    · rw [if_neg c, ← ih _ (by omega) ⟨w0, w8, w⟩]
      simp (disch := first | assumption | omega) only [e308_0, e308_1, e308_2, e308_5, e308_6, e308_7, e308_10, e308_13, e308_14, e308_15, e308_16, e308_17, e308_20, e308_21, e308_22, e308_25, e308_26, e308_28, e308_29, e308_32, e308_33, e308_34, e308_37, e308_38, e308_39, e308_42, e308_45, e308_46, e308_48, e308_49, e308_52, e308_55, e308_58, e308_59, e308_60, e308_63, e308_66, e308_67, e308_68, e308_70, e308_73, e308_74, e308_77, e308_78, e308_81, e308_82, e308_83, e308_84, e308_85, e308_88, e308_89, e308_90, e308_93, e308_94, e308_95, e308_98, e308_101, e308_102, e308_103, e308_106, e308_107, e308_110, e308_113, e308_116, e308_120, e308_123, e308_124, e308_127, e308_128, e308_129, e308_130, e308_131, e308_134, e308_135, e308_136, e308_137, e308_138, e308_141, e308_144, e308_145, e308_148, e308_149, e308_152, e308_153, e308_154, e308_155, e308_156, e308_157, e308_158, e308_161, e308_162, e308_163, e308_166, e308_169, e308_170, e308_173, e308_174, e308_175, e308_176, e308_177, e308_178, e308_179, e308_181, e308_183, e308_184, e308_187, e308_188, e308_189, e308_190, e308_191, e308_192, e308_193, e308_196, e308_197, e308_198, e308_200, e308_203, e308_206, e308_207, e308_208, e308_210, e308_213, e308_216, e308_217, e308_218, e308_220, e308_223, e308_226, e308_229, e308_232, e308_235, e308_236, e308_237, e308_240, gK0_eq, gK1_eq, gK3_eq, w32_id, bI_eq0, bI_eq1, Bool.false_eq_true, not_true_eq_false, not_false_eq_true, ne_eq, ite_not, ↓reduceIte, if_true, if_false, Int.reduceToNat, Nat.reduceAdd, Int.reduceEq, Int.reduceLT, Int.reduceLE, Int.reduceNeg, bI_T, bI_F, ↓if_pos, ↓if_neg, s_of, mK_ne, c, e2]
end MODEL13
