/-! the class: its tables, changed -/
def tLv (T : Int → Int) (d p : Int) : Int → Int := tS (tS (tBl0 T (64 * d + p - p % 4)) (64 * d + p) (-1)) (512 + (64 * d + p)) 0
def fs1 (T : Int → Int) (d r p s : Int) : Int := if tMp T d p = true ∧ iand32 (T (256 + 64 * d + p)) r ≠ 0 then lor64 s (lshl64 1 (T (64 * d + p))) else s
section TABLES2
variable {x y : Nat} {T T' : Int → Int} {μ μ' : gM} {Q : Int → gM → Prop}
theorem k_framesOf_loop {d r : Int} (h : rTb x T μ) (hd : 0 ≤ d ∧ d < 4) : ∀ (m : Nat) (p s : Int), 0 ≤ p → p + m = 64 →
    gE 115 5 [gO 7 x, gI d, gI r, gJ s, gX, gI p] [] μ Q = Q (itF (fs1 T d r) p m s) μ := by
  intro m
  induction m with
  | zero =>
    intro p s p0 p1
    have c : 64 ≤ p := by omega
    rw [e115_5]
    simp (disch := first | assumption | omega) only [e115_0, e115_1, e115_2, e115_3, e115_7, e115_9, e115_12, e115_13, e115_14, e115_16, e115_19, e115_20, e115_21, e115_24, e115_25, e115_26, e115_27, e115_28, e115_30, e115_33, e115_34, e115_35, e115_36, e115_39, e115_42, e115_43, gK0_eq, gK1_eq, gK3_eq, w32_id, bI_eq0, bI_eq1, Bool.false_eq_true, not_true_eq_false, not_false_eq_true, ne_eq, ite_not, ↓reduceIte, if_true, if_false, Int.reduceToNat, Nat.reduceAdd, Int.reduceEq, Int.reduceLT, Int.reduceLE, Int.reduceNeg, bI_T, bI_F, ↓if_pos, ↓if_neg, c, itF]
  | succ m ih =>
    intro p s p0 p1
    have c : ¬ 64 ≤ p := by omega
    have hp : 0 ≤ p ∧ p < 64 := by omega
    have a4 : T (256 + 64 * d + p) = T (256 + (64 * d + p)) := by rw [Int.add_assoc]
    rw [e115_5, itF]
    by_cases c2 : T (64 * d + p) < 0
    · have e : tRg T d p = 0 := if_pos c2
      have z : iand32 0 r = 0 := by
        apply bt_ext in32_and
        · unfold in32; omega
        · intro k hk; rw [bt_and, bt_zero, Bool.false_and]
      have w : fs1 T d r p s = s := if_neg (by unfold tMp; rw [decide_eq_true_eq]; omega)
      rw [w]
      simp (disch := first | assumption | omega) only [e115_0, e115_1, e115_2, e115_3, e115_7, e115_9, e115_12, e115_13, e115_14, e115_16, e115_19, e115_20, e115_21, e115_24, e115_25, e115_26, e115_27, e115_28, e115_30, e115_33, e115_34, e115_35, e115_36, e115_39, e115_42, e115_43, gK0_eq, gK1_eq, gK3_eq, w32_id, bI_eq0, bI_eq1, Bool.false_eq_true, not_true_eq_false, not_false_eq_true, ne_eq, ite_not, ↓reduceIte, if_true, if_false, Int.reduceToNat, Nat.reduceAdd, Int.reduceEq, Int.reduceLT, Int.reduceLE, Int.reduceNeg, bI_T, bI_F, ↓if_pos, ↓if_neg, c, k_rightsOf h hd hp, e, z]
      rw [ih _ _ (by omega) (by omega)]
    · have e : tRg T d p = T (256 + (64 * d + p)) := if_neg c2
      by_cases c3 : iand32 (T (256 + (64 * d + p))) r = 0
      · have w : fs1 T d r p s = s := if_neg (fun q => q.2 (by rw [a4]; exact c3))
        rw [w]
        simp (disch := first | assumption | omega) only [e115_0, e115_1, e115_2, e115_3, e115_7, e115_9, e115_12, e115_13, e115_14, e115_16, e115_19, e115_20, e115_21, e115_24, e115_25, e115_26, e115_27, e115_28, e115_30, e115_33, e115_34, e115_35, e115_36, e115_39, e115_42, e115_43, gK0_eq, gK1_eq, gK3_eq, w32_id, bI_eq0, bI_eq1, Bool.false_eq_true, not_true_eq_false, not_false_eq_true, ne_eq, ite_not, ↓reduceIte, if_true, if_false, Int.reduceToNat, Nat.reduceAdd, Int.reduceEq, Int.reduceLT, Int.reduceLE, Int.reduceNeg, bI_T, bI_F, ↓if_pos, ↓if_neg, c, k_rightsOf h hd hp, e, c3]
        rw [ih _ _ (by omega) (by omega)]
      · have w : fs1 T d r p s = lor64 s (lshl64 1 (T (64 * d + p))) := if_pos ⟨by unfold tMp; rw [decide_eq_true_eq]; omega, by rw [a4]; exact c3⟩
        rw [w]
        simp (disch := first | assumption | omega) only [e115_0, e115_1, e115_2, e115_3, e115_7, e115_9, e115_12, e115_13, e115_14, e115_16, e115_19, e115_20, e115_21, e115_24, e115_25, e115_26, e115_27, e115_28, e115_30, e115_33, e115_34, e115_35, e115_36, e115_39, e115_42, e115_43, gK0_eq, gK1_eq, gK3_eq, w32_id, bI_eq0, bI_eq1, Bool.false_eq_true, not_true_eq_false, not_false_eq_true, ne_eq, ite_not, ↓reduceIte, if_true, if_false, Int.reduceToNat, Nat.reduceAdd, Int.reduceEq, Int.reduceLT, Int.reduceLE, Int.reduceNeg, bI_T, bI_F, ↓if_pos, ↓if_neg, c, k_rightsOf h hd hp, k_frameOf h hd hp, e, c3]
        rw [ih _ _ (by omega) (by omega)]
theorem k_framesOf {d r : Int} (h : rTb x T μ) (hd : 0 ≤ d ∧ d < 4) : gE 115 0 [gO 7 x, gI d, gI r, gX, gX, gX] [] μ Q = Q (tRe0 T d r) μ := by
  simp (disch := first | assumption | omega) only [e115_0, e115_1, e115_2, e115_3, e115_7, e115_9, e115_12, e115_13, e115_14, e115_16, e115_19, e115_20, e115_21, e115_24, e115_25, e115_26, e115_27, e115_28, e115_30, e115_33, e115_34, e115_35, e115_36, e115_39, e115_42, e115_43, gK0_eq, gK1_eq, gK3_eq, w32_id, bI_eq0, bI_eq1, Bool.false_eq_true, not_true_eq_false, not_false_eq_true, ne_eq, ite_not, ↓reduceIte, if_true, if_false, Int.reduceToNat, Nat.reduceAdd, Int.reduceEq, Int.reduceLT, Int.reduceLE, Int.reduceNeg, bI_T, bI_F]
  rw [k_framesOf_loop h hd 64 0 0 (by omega) (by omega)]
  rfl
theorem itF_congr {σ : Type} {f g : Int → σ → σ} : ∀ (n : Nat) (k : Int) (s : σ), (∀ i s, k ≤ i → i < k + n → f i s = g i s) → itF f k n s = itF g k n s := by
  intro n
  induction n with
  | zero => intro k s _; rfl
  | succ n ih => intro k s h; rw [itF, itF, h k s (by omega) (by omega), ih (k + 1) _ (fun i s i0 i1 => h i s (by omega) (by omega))]
theorem tRe0_3 {d : Int} (h : rTb x T μ) (hd : 0 ≤ d ∧ d < 4) : tRe0 T d 3 = tMin T d := by
  unfold tRe0 tMin
  apply itF_congr
  intro p s p0 p1
  obtain ⟨-, -, -, -, -, -, -, r3⟩ := h.2.2.2 (64 * d + p) (by omega) (by omega)
  have a4 : T (256 + 64 * d + p) = T (256 + (64 * d + p)) := by rw [Int.add_assoc]
  rw [a4]
  cases hm : tMp T d p with
  | false => simp
  | true =>
    have hm0 : 0 ≤ T (64 * d + p) := by unfold tMp at hm; rw [decide_eq_true_eq] at hm; exact hm
    obtain ⟨-, ⟨r4, r5⟩, -⟩ := r3 hm0
    have z : iand32 (T (256 + (64 * d + p))) 3 ≠ 0 := by
      have : T (256 + (64 * d + p)) = 1 ∨ T (256 + (64 * d + p)) = 2 ∨ T (256 + (64 * d + p)) = 3 := by omega
      rcases this with q | q | q <;> rw [q] <;> decide
    simp [z]
theorem findF_skip {P : Int → Bool} : ∀ (a b : Nat) (k : Int), (∀ i, k ≤ i → i < k + a → P i = false) → findF P k (a + b) = findF P (k + a) b := by
  intro a
  induction a with
  | zero => intro b k _; rw [Nat.zero_add]; congr 1; omega
  | succ a ih =>
    intro b k h
    have h0 := h k (by omega) (by omega)
    rw [show a + 1 + b = a + b + 1 by omega, findF, h0, if_neg Bool.noConfusion, ih b (k + 1) (fun i i0 i1 => h i (by omega) (by omega))]
    congr 1
    omega
theorem k_firstGap_loop {d n : Int} (h : rTb x T μ) (hd : 0 ≤ d ∧ d < 4) (hn : 1 ≤ n ∧ n ≤ 64) : ∀ (m : Nat) (p r : Int), 0 ≤ p → p + m = 64 → 0 ≤ r → r < n → r ≤ p → (∀ q, p - r ≤ q → q < p → tMp T d q = false) →
    gE 116 5 [gO 7 x, gI d, gI n, gI r, gI p] [] μ Q = Q (if 0 ≤ findF (fun p => !anyF (tMp T d) p n.toNat) (p - r) (65 - n - (p - r)).toNat then findF (fun p => !anyF (tMp T d) p n.toNat) (p - r) (65 - n - (p - r)).toNat else -2) μ := by
  intro m
  induction m with
  | zero =>
    intro p r p0 p1 r0 r1 r2 hq
    have c : 64 ≤ p := by omega
    have e : (65 - n - (p - r)).toNat = 0 := by omega
    rw [e116_5, e, findF, if_neg (by omega)]
    simp (disch := first | assumption | omega) only [e116_0, e116_1, e116_2, e116_3, e116_7, e116_9, e116_12, e116_13, e116_14, e116_16, e116_19, e116_22, e116_23, e116_26, e116_27, e116_28, e116_29, e116_30, e116_31, e116_32, e116_35, e116_37, e116_38, e116_39, e116_40, e116_41, e116_42, e116_45, e116_48, e116_50, gK0_eq, gK1_eq, gK3_eq, w32_id, bI_eq0, bI_eq1, Bool.false_eq_true, not_true_eq_false, not_false_eq_true, ne_eq, ite_not, ↓reduceIte, if_true, if_false, Int.reduceToNat, Nat.reduceAdd, Int.reduceEq, Int.reduceLT, Int.reduceLE, Int.reduceNeg, bI_T, bI_F, ↓if_pos, ↓if_neg, c]
  | succ m ih =>
    intro p r p0 p1 r0 r1 r2 hq
    have c : ¬ 64 ≤ p := by omega
    have hp : 0 ≤ p ∧ p < 64 := by omega
    cases hm : tMp T d p with
    | true =>
      have cn : ¬ 0 = n := by omega
      have ih' := ih (p + 1) 0 (by omega) (by omega) (by omega) (by omega) (by omega) (fun q q0 q1 => by omega)
      rw [Int.sub_zero] at ih'
      have sk : findF (fun p => !anyF (tMp T d) p n.toNat) (p - r) (65 - n - (p - r)).toNat = findF (fun p => !anyF (tMp T d) p n.toNat) (p + 1) (65 - n - (p + 1)).toNat := by
        have bad : ∀ i, p - r ≤ i → i < p + 1 → (!anyF (tMp T d) i n.toNat) = false := fun i i0 i1 => by
          rw [(anyF_iff _ _ _).mpr ⟨p, by omega, by omega, hm⟩]
          rfl
        by_cases q : p + 1 ≤ 65 - n
        · rw [show (65 - n - (p - r)).toNat = (r + 1).toNat + (65 - n - (p + 1)).toNat by omega, findF_skip _ _ _ (fun i i0 i1 => bad i i0 (by omega))]
          congr 1
          omega
        · rw [show (65 - n - (p + 1)).toNat = 0 by omega, show (65 - n - (p - r)).toNat = (65 - n - (p - r)).toNat + 0 by omega, findF_skip _ _ _ (fun i i0 i1 => bad i i0 (by omega))]
          rfl
      rw [sk, ← ih', e116_5]
      simp (disch := first | assumption | omega) only [e116_0, e116_1, e116_2, e116_3, e116_7, e116_9, e116_12, e116_13, e116_14, e116_16, e116_19, e116_22, e116_23, e116_26, e116_27, e116_28, e116_29, e116_30, e116_31, e116_32, e116_35, e116_37, e116_38, e116_39, e116_40, e116_41, e116_42, e116_45, e116_48, e116_50, gK0_eq, gK1_eq, gK3_eq, w32_id, bI_eq0, bI_eq1, Bool.false_eq_true, not_true_eq_false, not_false_eq_true, ne_eq, ite_not, ↓reduceIte, if_true, if_false, Int.reduceToNat, Nat.reduceAdd, Int.reduceEq, Int.reduceLT, Int.reduceLE, Int.reduceNeg, bI_T, bI_F, ↓if_pos, ↓if_neg, c, k_isMapped h hd hp, hm, cn]
    | false =>
      by_cases cn : r + 1 = n
      · have e : (65 - n - (p - r)).toNat = (65 - n - (p - r) - 1).toNat + 1 := by omega
        have w : anyF (tMp T d) (p - r) n.toNat = false := by
          cases ha : anyF (tMp T d) (p - r) n.toNat with
          | false => rfl
          | true =>
            obtain ⟨i, i0, i1, i2⟩ := (anyF_iff _ _ _).mp ha
            by_cases q : i = p
            · rw [q, hm] at i2; exact i2.symm
            · rw [hq i i0 (by omega)] at i2; exact i2.symm
        have f : findF (fun p => !anyF (tMp T d) p n.toNat) (p - r) (65 - n - (p - r)).toNat = p - r := by
          rw [e, findF, w]
          rfl
        have en : p - n + 1 = p - r := by omega
        rw [f, if_pos (by omega), e116_5]
        simp (disch := first | assumption | omega) only [e116_0, e116_1, e116_2, e116_3, e116_7, e116_9, e116_12, e116_13, e116_14, e116_16, e116_19, e116_22, e116_23, e116_26, e116_27, e116_28, e116_29, e116_30, e116_31, e116_32, e116_35, e116_37, e116_38, e116_39, e116_40, e116_41, e116_42, e116_45, e116_48, e116_50, gK0_eq, gK1_eq, gK3_eq, w32_id, bI_eq0, bI_eq1, Bool.false_eq_true, not_true_eq_false, not_false_eq_true, ne_eq, ite_not, ↓reduceIte, if_true, if_false, Int.reduceToNat, Nat.reduceAdd, Int.reduceEq, Int.reduceLT, Int.reduceLE, Int.reduceNeg, bI_T, bI_F, ↓if_pos, ↓if_neg, c, k_isMapped h hd hp, hm, cn, en]
      · have ih' := ih (p + 1) (r + 1) (by omega) (by omega) (by omega) (by omega) (by omega) (fun q q0 q1 => by
          by_cases qp : q = p
          · rw [qp]; exact hm
          · exact hq q (by omega) (by omega))
        rw [show p + 1 - (r + 1) = p - r by omega] at ih'
        rw [← ih', e116_5]
        simp (disch := first | assumption | omega) only [e116_0, e116_1, e116_2, e116_3, e116_7, e116_9, e116_12, e116_13, e116_14, e116_16, e116_19, e116_22, e116_23, e116_26, e116_27, e116_28, e116_29, e116_30, e116_31, e116_32, e116_35, e116_37, e116_38, e116_39, e116_40, e116_41, e116_42, e116_45, e116_48, e116_50, gK0_eq, gK1_eq, gK3_eq, w32_id, bI_eq0, bI_eq1, Bool.false_eq_true, not_true_eq_false, not_false_eq_true, ne_eq, ite_not, ↓reduceIte, if_true, if_false, Int.reduceToNat, Nat.reduceAdd, Int.reduceEq, Int.reduceLT, Int.reduceLE, Int.reduceNeg, bI_T, bI_F, ↓if_pos, ↓if_neg, c, k_isMapped h hd hp, hm, cn]
theorem k_firstGap {d n : Int} (h : rTb x T μ) (hd : 0 ≤ d ∧ d < 4) (hn : 1 ≤ n ∧ n ≤ 64) : gE 116 0 [gO 7 x, gI d, gI n, gX, gX] [] μ Q = Q (if 0 ≤ tGpF T d n then tGpF T d n else -2) μ := by
  have h2 := k_firstGap_loop (Q := Q) h hd hn 64 0 0 (by omega) (by omega) (by omega) (by omega) (by omega) (fun q q0 q1 => by omega)
  rw [Int.sub_zero, Int.sub_zero] at h2
  simp (disch := first | assumption | omega) only [e116_0, e116_1, e116_2, e116_3, e116_7, e116_9, e116_12, e116_13, e116_14, e116_16, e116_19, e116_22, e116_23, e116_26, e116_27, e116_28, e116_29, e116_30, e116_31, e116_32, e116_35, e116_37, e116_38, e116_39, e116_40, e116_41, e116_42, e116_45, e116_48, e116_50, gK0_eq, gK1_eq, gK3_eq, w32_id, bI_eq0, bI_eq1, Bool.false_eq_true, not_true_eq_false, not_false_eq_true, ne_eq, ite_not, ↓reduceIte, if_true, if_false, Int.reduceToNat, Nat.reduceAdd, Int.reduceEq, Int.reduceLT, Int.reduceLE, Int.reduceNeg, bI_T, bI_F]
  exact h2
theorem k_couldBe_loop {d p f : Int} (h : rTb x T μ) (hd : 0 ≤ d ∧ d < 4) (hp : 0 ≤ p ∧ p ≤ 60) (hf : f = T (64 * d + p)) (hf0 : 0 ≤ f) : ∀ (m : Nat) (k : Int), 0 ≤ k → k + m = 4 →
    gE 118 23 [gO 7 x, gI d, gI p, gI f, gI k] [] μ Q = Q (bI (anyF (tRwB T d p) k m = false)) μ := by
  have f63 := (h.2.2.2 (64 * d + p) (by omega) (by omega)).2.1.2
  have rp : tRg T d p = T (256 + 64 * d + p) := by
    unfold tRg
    rw [if_neg (by omega), Int.add_assoc]
  intro m
  induction m with
  | zero =>
    intro k k0 k1
    have c : 4 ≤ k := by omega
    rw [e118_23, bI_t (by rfl)]
    simp (disch := first | assumption | omega) only [e118_0, e118_1, e118_2, e118_3, e118_6, e118_7, e118_8, e118_9, e118_12, e118_13, e118_14, e118_15, e118_18, e118_19, e118_20, e118_21, e118_25, e118_26, e118_29, e118_30, e118_31, e118_32, e118_34, e118_35, e118_38, e118_39, e118_41, e118_42, e118_45, e118_46, e118_47, e118_48, e118_50, e118_51, e118_54, e118_57, e118_58, e118_59, e118_60, e118_62, e118_63, e118_66, e118_67, e118_68, e118_69, e118_72, e118_75, e118_76, e118_77, e118_80, e118_83, e118_84, gK0_eq, gK1_eq, gK3_eq, w32_id, bI_eq0, bI_eq1, Bool.false_eq_true, not_true_eq_false, not_false_eq_true, ne_eq, ite_not, ↓reduceIte, if_true, if_false, Int.reduceToNat, Nat.reduceAdd, Int.reduceEq, Int.reduceLT, Int.reduceLE, Int.reduceNeg, bI_T, bI_F, ↓if_pos, ↓if_neg, c]
  | succ m ih =>
    intro k k0 k1
    have c : ¬ 4 ≤ k := by omega
    have hpk : 0 ≤ p + k ∧ p + k < 64 := by omega
    have hp' : 0 ≤ p ∧ p < 64 := by omega
    have a1 : 64 * d + p + k = 64 * d + (p + k) := by omega
    rw [e118_23, anyF]
    by_cases c1 : T (64 * d + (p + k)) = f + k
    · by_cases c2 : T (512 + (64 * d + (p + k))) = 1
      · have b : tRwB T d p k = true := by unfold tRwB; rw [a1, decide_eq_true c2]; simp
        rw [b, bI_f (by simp)]
        simp (disch := first | assumption | omega) only [e118_0, e118_1, e118_2, e118_3, e118_6, e118_7, e118_8, e118_9, e118_12, e118_13, e118_14, e118_15, e118_18, e118_19, e118_20, e118_21, e118_25, e118_26, e118_29, e118_30, e118_31, e118_32, e118_34, e118_35, e118_38, e118_39, e118_41, e118_42, e118_45, e118_46, e118_47, e118_48, e118_50, e118_51, e118_54, e118_57, e118_58, e118_59, e118_60, e118_62, e118_63, e118_66, e118_67, e118_68, e118_69, e118_72, e118_75, e118_76, e118_77, e118_80, e118_83, e118_84, gK0_eq, gK1_eq, gK3_eq, w32_id, bI_eq0, bI_eq1, Bool.false_eq_true, not_true_eq_false, not_false_eq_true, ne_eq, ite_not, ↓reduceIte, if_true, if_false, Int.reduceToNat, Nat.reduceAdd, Int.reduceEq, Int.reduceLT, Int.reduceLE, Int.reduceNeg, bI_T, bI_F, ↓if_pos, ↓if_neg, c, k_frameOf h hd hpk, c1, k_isReserved h hd hpk, c2]
      · have e : tRg T d (p + k) = T (256 + (64 * d + (p + k))) := by unfold tRg; rw [if_neg (by omega)]
        by_cases c3 : T (256 + (64 * d + (p + k))) = T (256 + 64 * d + p)
        · have b : tRwB T d p k = false := by unfold tRwB; rw [a1, c1, hf]; simp [c2, c3]
          rw [b, Bool.false_or]
          simp (disch := first | assumption | omega) only [e118_0, e118_1, e118_2, e118_3, e118_6, e118_7, e118_8, e118_9, e118_12, e118_13, e118_14, e118_15, e118_18, e118_19, e118_20, e118_21, e118_25, e118_26, e118_29, e118_30, e118_31, e118_32, e118_34, e118_35, e118_38, e118_39, e118_41, e118_42, e118_45, e118_46, e118_47, e118_48, e118_50, e118_51, e118_54, e118_57, e118_58, e118_59, e118_60, e118_62, e118_63, e118_66, e118_67, e118_68, e118_69, e118_72, e118_75, e118_76, e118_77, e118_80, e118_83, e118_84, gK0_eq, gK1_eq, gK3_eq, w32_id, bI_eq0, bI_eq1, Bool.false_eq_true, not_true_eq_false, not_false_eq_true, ne_eq, ite_not, ↓reduceIte, if_true, if_false, Int.reduceToNat, Nat.reduceAdd, Int.reduceEq, Int.reduceLT, Int.reduceLE, Int.reduceNeg, bI_T, bI_F, ↓if_pos, ↓if_neg, c, k_frameOf h hd hpk, c1, k_isReserved h hd hpk, c2, k_rightsOf h hd hpk, k_rightsOf h hd hp', e, rp, c3]
          exact ih _ (by omega) (by omega)
        · have b : tRwB T d p k = true := by unfold tRwB; rw [a1, decide_eq_true c3]; simp
          rw [b, bI_f (by simp)]
          simp (disch := first | assumption | omega) only [e118_0, e118_1, e118_2, e118_3, e118_6, e118_7, e118_8, e118_9, e118_12, e118_13, e118_14, e118_15, e118_18, e118_19, e118_20, e118_21, e118_25, e118_26, e118_29, e118_30, e118_31, e118_32, e118_34, e118_35, e118_38, e118_39, e118_41, e118_42, e118_45, e118_46, e118_47, e118_48, e118_50, e118_51, e118_54, e118_57, e118_58, e118_59, e118_60, e118_62, e118_63, e118_66, e118_67, e118_68, e118_69, e118_72, e118_75, e118_76, e118_77, e118_80, e118_83, e118_84, gK0_eq, gK1_eq, gK3_eq, w32_id, bI_eq0, bI_eq1, Bool.false_eq_true, not_true_eq_false, not_false_eq_true, ne_eq, ite_not, ↓reduceIte, if_true, if_false, Int.reduceToNat, Nat.reduceAdd, Int.reduceEq, Int.reduceLT, Int.reduceLE, Int.reduceNeg, bI_T, bI_F, ↓if_pos, ↓if_neg, c, k_frameOf h hd hpk, c1, k_isReserved h hd hpk, c2, k_rightsOf h hd hpk, k_rightsOf h hd hp', e, rp, c3]
    · have q : T (64 * d + (p + k)) ≠ T (64 * d + p) + k := fun q => c1 (by rw [q, hf])
      have b : tRwB T d p k = true := by unfold tRwB; rw [a1]; simp [q]
      rw [b, bI_f (by simp)]
      simp (disch := first | assumption | omega) only [e118_0, e118_1, e118_2, e118_3, e118_6, e118_7, e118_8, e118_9, e118_12, e118_13, e118_14, e118_15, e118_18, e118_19, e118_20, e118_21, e118_25, e118_26, e118_29, e118_30, e118_31, e118_32, e118_34, e118_35, e118_38, e118_39, e118_41, e118_42, e118_45, e118_46, e118_47, e118_48, e118_50, e118_51, e118_54, e118_57, e118_58, e118_59, e118_60, e118_62, e118_63, e118_66, e118_67, e118_68, e118_69, e118_72, e118_75, e118_76, e118_77, e118_80, e118_83, e118_84, gK0_eq, gK1_eq, gK3_eq, w32_id, bI_eq0, bI_eq1, Bool.false_eq_true, not_true_eq_false, not_false_eq_true, ne_eq, ite_not, ↓reduceIte, if_true, if_false, Int.reduceToNat, Nat.reduceAdd, Int.reduceEq, Int.reduceLT, Int.reduceLE, Int.reduceNeg, bI_T, bI_F, ↓if_pos, ↓if_neg, c, k_frameOf h hd hpk, c1]
theorem k_couldBe {d p : Int} (h : rTb x T μ) (hd : 0 ≤ d ∧ d < 4) (hp : 0 ≤ p ∧ p ≤ 60) (hb : T (768 + (64 * d + p)) ≠ 1) : gE 118 0 [gO 7 x, gI d, gI p, gX, gX] [] μ Q = Q (bI (tRow T d p = true)) μ := by
  have f63 := (h.2.2.2 (64 * d + p) (by omega) (by omega)).2.1
  have hp' : 0 ≤ p ∧ p < 64 := by omega
  have a1 : T (768 + 64 * d + p) = T (768 + (64 * d + p)) := by rw [Int.add_assoc]
  unfold tRow
  rw [a1, decide_eq_true hb, Bool.and_true]
  by_cases c1 : T (64 * d + p) = -1
  · rw [bI_f (by rw [c1]; simp)]
    simp (disch := first | assumption | omega) only [e118_0, e118_1, e118_2, e118_3, e118_6, e118_7, e118_8, e118_9, e118_12, e118_13, e118_14, e118_15, e118_18, e118_19, e118_20, e118_21, e118_25, e118_26, e118_29, e118_30, e118_31, e118_32, e118_34, e118_35, e118_38, e118_39, e118_41, e118_42, e118_45, e118_46, e118_47, e118_48, e118_50, e118_51, e118_54, e118_57, e118_58, e118_59, e118_60, e118_62, e118_63, e118_66, e118_67, e118_68, e118_69, e118_72, e118_75, e118_76, e118_77, e118_80, e118_83, e118_84, gK0_eq, gK1_eq, gK3_eq, w32_id, bI_eq0, bI_eq1, Bool.false_eq_true, not_true_eq_false, not_false_eq_true, ne_eq, ite_not, ↓reduceIte, if_true, if_false, Int.reduceToNat, Nat.reduceAdd, Int.reduceEq, Int.reduceLT, Int.reduceLE, Int.reduceNeg, bI_T, bI_F, ↓if_pos, ↓if_neg, k_frameOf h hd hp', c1]
  · have c0 : 0 ≤ T (64 * d + p) := by omega
    by_cases c2 : T (64 * d + p) % 4 = 0
    · rw [decide_eq_true c0, decide_eq_true c2, Bool.true_and, Bool.true_and]
      simp (disch := first | assumption | omega) only [e118_0, e118_1, e118_2, e118_3, e118_6, e118_7, e118_8, e118_9, e118_12, e118_13, e118_14, e118_15, e118_18, e118_19, e118_20, e118_21, e118_25, e118_26, e118_29, e118_30, e118_31, e118_32, e118_34, e118_35, e118_38, e118_39, e118_41, e118_42, e118_45, e118_46, e118_47, e118_48, e118_50, e118_51, e118_54, e118_57, e118_58, e118_59, e118_60, e118_62, e118_63, e118_66, e118_67, e118_68, e118_69, e118_72, e118_75, e118_76, e118_77, e118_80, e118_83, e118_84, gK0_eq, gK1_eq, gK3_eq, w32_id, bI_eq0, bI_eq1, Bool.false_eq_true, not_true_eq_false, not_false_eq_true, ne_eq, ite_not, ↓reduceIte, if_true, if_false, Int.reduceToNat, Nat.reduceAdd, Int.reduceEq, Int.reduceLT, Int.reduceLE, Int.reduceNeg, bI_T, bI_F, ↓if_pos, ↓if_neg, k_frameOf h hd hp', c1, irem32_id, c2]
      rw [k_couldBe_loop h hd hp rfl c0 4 0 (by omega) (by omega)]
      congr 1
      exact bI_congr (by simp)
    · rw [bI_f (by simp [c2])]
      simp (disch := first | assumption | omega) only [e118_0, e118_1, e118_2, e118_3, e118_6, e118_7, e118_8, e118_9, e118_12, e118_13, e118_14, e118_15, e118_18, e118_19, e118_20, e118_21, e118_25, e118_26, e118_29, e118_30, e118_31, e118_32, e118_34, e118_35, e118_38, e118_39, e118_41, e118_42, e118_45, e118_46, e118_47, e118_48, e118_50, e118_51, e118_54, e118_57, e118_58, e118_59, e118_60, e118_62, e118_63, e118_66, e118_67, e118_68, e118_69, e118_72, e118_75, e118_76, e118_77, e118_80, e118_83, e118_84, gK0_eq, gK1_eq, gK3_eq, w32_id, bI_eq0, bI_eq1, Bool.false_eq_true, not_true_eq_false, not_false_eq_true, ne_eq, ite_not, ↓reduceIte, if_true, if_false, Int.reduceToNat, Nat.reduceAdd, Int.reduceEq, Int.reduceLT, Int.reduceLE, Int.reduceNeg, bI_T, bI_F, ↓if_pos, ↓if_neg, k_frameOf h hd hp', c1, irem32_id, c2]
theorem tBl1_at {a j : Int} : tBl1 T a j = if 768 + a ≤ j ∧ j < 768 + a + 4 then 1 else T j := rfl
theorem k_makeBlock {d p : Int} (h : rTb x T μ) (hd : 0 ≤ d ∧ d < 4) (hp : 0 ≤ p ∧ p ≤ 60) (h4 : p % 4 = 0) (hm : ∀ j, 0 ≤ j → j < 4 → 0 ≤ T (64 * d + p + j)) : ∃ μ', gFr x (x + 7) μ μ' ∧ rTb x (tBl1 T (64 * d + p)) μ' ∧ ∀ Q : Int → gM → Prop, gE 104 0 [gO 7 x, gI d, gI p] [] μ Q = Q 0 μ' := by
  have c0 : 0 ≤ (64 * d + p) / 4 := by omega
  have c1 : (64 * d + p) / 4 < ((64 : Nat) : Int) := by omega
  have hp' : 0 ≤ p ∧ p < 64 := by omega
  refine ⟨gS μ (x + 6) ((64 * d + p) / 4) 1, gFr_gS gFr_refl (by omega) (by omega), ?_, fun Q => ?_⟩
  · obtain ⟨g1, g2, g3, g4⟩ := h
    have lo : ∀ j, j < 768 ∨ 1024 ≤ j → tBl1 T (64 * d + p) j = T j := fun j hj => by rw [tBl1_at, if_neg (by omega)]
    refine ⟨by rw [lo _ (by omega)]; exact g1, by rw [lo _ (by omega), gS_neK (by omega)]; exact g2, fun e e0 e1 => ?_, fun i i0 i1 => ?_⟩
    · rw [lo _ (by omega), lo _ (by omega), lo _ (by omega), gS_neK (by omega), gS_neK (by omega)]
      exact g3 e e0 e1
    · have q := g4 i i0 i1
      obtain ⟨q1, q2, q3, q4, q5, q6, q7, q8⟩ := q
      have l0 := lo i (by omega)
      have l1 := lo (256 + i) (by omega)
      have l2 := lo (512 + i) (by omega)
      have l4 := lo 1672 (by omega)
      have m3 : gS μ (x + 6) ((64 * d + p) / 4) 1 (x + 3) i = μ (x + 3) i := gS_neK (by omega)
      have m4 : gS μ (x + 6) ((64 * d + p) / 4) 1 (x + 4) i = μ (x + 4) i := gS_neK (by omega)
      have m5 : gS μ (x + 6) ((64 * d + p) / 4) 1 (x + 5) i = μ (x + 5) i := gS_neK (by omega)
      unfold rTi
      rw [l0, l1, l2, l4, m3, m4, m5]
      by_cases c : 64 * d + p ≤ i ∧ i < 64 * d + p + 4
      · have e : i / 4 = (64 * d + p) / 4 := by omega
        have m := hm (i - (64 * d + p)) (by omega) (by omega)
        rw [show 64 * d + p + (i - (64 * d + p)) = i by omega] at m
        have l3 : tBl1 T (64 * d + p) (768 + i) = 1 := by rw [tBl1_at, if_pos (by omega)]
        rw [l3, e, gS_same]
        exact ⟨q1, q2, q3, q4, rfl, Or.inr rfl, fun z => by omega, q8⟩
      · have e : ¬ i / 4 = (64 * d + p) / 4 := by omega
        have l3 : tBl1 T (64 * d + p) (768 + i) = T (768 + i) := by rw [tBl1_at, if_neg (by omega)]
        rw [l3, gS_neI e]
        exact ⟨q1, q2, q3, q4, q5, q6, q7, q8⟩
  · simp (disch := first | assumption | omega) only [e104_0, e104_1, e104_4, e104_5, e104_6, e104_9, e104_10, e104_13, gK0_eq, gK1_eq, gK3_eq, w32_id, bI_eq0, bI_eq1, Bool.false_eq_true, not_true_eq_false, not_false_eq_true, ne_eq, ite_not, ↓reduceIte, if_true, if_false, Int.reduceToNat, Nat.reduceAdd, Int.reduceEq, Int.reduceLT, Int.reduceLE, Int.reduceNeg, bI_T, bI_F, ↓if_pos, ↓if_neg, k_blockSlot hd hp', s_put', putv_in]
theorem k_tidy_loop {d : Int} (hd : 0 ≤ d ∧ d < 4) : ∀ (m : Nat) (i n : Int) (T : Int → Int) (μ : gM), rTb x T μ → 0 ≤ i → i + m = 16 → 0 ≤ n → n ≤ i →
    ∃ μ', gFr x (x + 7) μ μ' ∧ rTb x (tTid d m i n T).2 μ' ∧ ∀ Q : Int → gM → Prop, gE 117 4 [gO 7 x, gI d, gI n, gI (4 * i)] [] μ Q = Q (tTid d m i n T).1 μ' := by
  intro m
  induction m with
  | zero =>
    intro i n T μ h i0 i1 n0 n1
    have e : i = 16 := by omega
    subst e
    refine ⟨μ, gFr_refl, h, fun Q => ?_⟩
    rw [e117_4]
    simp (disch := first | assumption | omega) only [e117_0, e117_1, e117_2, e117_3, e117_5, e117_7, e117_10, e117_11, e117_12, e117_13, e117_16, e117_19, e117_20, e117_21, e117_22, e117_25, e117_28, e117_29, e117_30, e117_31, e117_34, e117_37, e117_40, e117_43, e117_44, gK0_eq, gK1_eq, gK3_eq, w32_id, bI_eq0, bI_eq1, Bool.false_eq_true, not_true_eq_false, not_false_eq_true, ne_eq, ite_not, ↓reduceIte, if_true, if_false, Int.reduceToNat, Nat.reduceAdd, Int.reduceEq, Int.reduceLT, Int.reduceLE, Int.reduceNeg, bI_T, bI_F, ↓if_pos, ↓if_neg, Int.reduceMul, tTid]
  | succ m ih =>
    intro i n T μ h i0 i1 n0 n1
    have c : ¬ 64 ≤ 4 * i := by omega
    have hp : 0 ≤ 4 * i ∧ 4 * i ≤ 60 := by omega
    have hp' : 0 ≤ 4 * i ∧ 4 * i < 64 := by omega
    have e : 4 * i + 4 = 4 * (i + 1) := by omega
    have a1 : T (768 + 64 * d + 4 * i) = T (768 + (64 * d + 4 * i)) := by rw [Int.add_assoc]
    rw [tTid]
    by_cases cb : T (768 + (64 * d + 4 * i)) = 1
    · have b : ¬ tRow T d (4 * i) = true := by
        unfold tRow
        rw [a1, cb]
        simp
      obtain ⟨μ2, f2, r2, run2⟩ := ih (i + 1) n T μ h (by omega) (by omega) n0 (by omega)
      rw [if_neg b]
      refine ⟨μ2, f2, r2, fun Q => ?_⟩
      rw [e117_4]
      simp (disch := first | assumption | omega) only [e117_0, e117_1, e117_2, e117_3, e117_5, e117_7, e117_10, e117_11, e117_12, e117_13, e117_16, e117_19, e117_20, e117_21, e117_22, e117_25, e117_28, e117_29, e117_30, e117_31, e117_34, e117_37, e117_40, e117_43, e117_44, gK0_eq, gK1_eq, gK3_eq, w32_id, bI_eq0, bI_eq1, Bool.false_eq_true, not_true_eq_false, not_false_eq_true, ne_eq, ite_not, ↓reduceIte, if_true, if_false, Int.reduceToNat, Nat.reduceAdd, Int.reduceEq, Int.reduceLT, Int.reduceLE, Int.reduceNeg, bI_T, bI_F, ↓if_pos, ↓if_neg, c, k_inBlock h hd hp', cb, e, run2]
    · cases b : tRow T d (4 * i) with
      | false =>
        obtain ⟨μ2, f2, r2, run2⟩ := ih (i + 1) n T μ h (by omega) (by omega) n0 (by omega)
        rw [if_neg Bool.noConfusion]
        refine ⟨μ2, f2, r2, fun Q => ?_⟩
        rw [e117_4]
        simp (disch := first | assumption | omega) only [e117_0, e117_1, e117_2, e117_3, e117_5, e117_7, e117_10, e117_11, e117_12, e117_13, e117_16, e117_19, e117_20, e117_21, e117_22, e117_25, e117_28, e117_29, e117_30, e117_31, e117_34, e117_37, e117_40, e117_43, e117_44, gK0_eq, gK1_eq, gK3_eq, w32_id, bI_eq0, bI_eq1, Bool.false_eq_true, not_true_eq_false, not_false_eq_true, ne_eq, ite_not, ↓reduceIte, if_true, if_false, Int.reduceToNat, Nat.reduceAdd, Int.reduceEq, Int.reduceLT, Int.reduceLE, Int.reduceNeg, bI_T, bI_F, ↓if_pos, ↓if_neg, c, k_inBlock h hd hp', cb, k_couldBe h hd hp cb, b, e, run2]
      | true =>
        have b' := b
        unfold tRow at b'
        simp only [Bool.and_eq_true, decide_eq_true_eq, Bool.not_eq_true'] at b'
        obtain ⟨⟨⟨b1, b2⟩, b3⟩, b4⟩ := b'
        obtain ⟨μ1, f1, r1, run1⟩ := k_makeBlock h hd hp (by omega) (fun j j0 j1 => by
          apply Classical.byContradiction
          intro q
          have : anyF (tRwB T d (4 * i)) 0 4 = true := (anyF_iff _ _ _).mpr ⟨j, j0, by omega, by unfold tRwB; rw [decide_eq_true (by omega)]; rfl⟩
          rw [this] at b4
          exact Bool.noConfusion b4)
        obtain ⟨μ2, f2, r2, run2⟩ := ih (i + 1) (n + 1) _ μ1 r1 (by omega) (by omega) (by omega) (by omega)
        rw [if_pos rfl]
        refine ⟨μ2, gFr_trans f1 f2, r2, fun Q => ?_⟩
        rw [e117_4]
        simp (disch := first | assumption | omega) only [e117_0, e117_1, e117_2, e117_3, e117_5, e117_7, e117_10, e117_11, e117_12, e117_13, e117_16, e117_19, e117_20, e117_21, e117_22, e117_25, e117_28, e117_29, e117_30, e117_31, e117_34, e117_37, e117_40, e117_43, e117_44, gK0_eq, gK1_eq, gK3_eq, w32_id, bI_eq0, bI_eq1, Bool.false_eq_true, not_true_eq_false, not_false_eq_true, ne_eq, ite_not, ↓reduceIte, if_true, if_false, Int.reduceToNat, Nat.reduceAdd, Int.reduceEq, Int.reduceLT, Int.reduceLE, Int.reduceNeg, bI_T, bI_F, ↓if_pos, ↓if_neg, c, k_inBlock h hd hp', cb, k_couldBe h hd hp cb, b, run1, e, run2]
theorem k_tidy {d : Int} (h : rTb x T μ) (hd : 0 ≤ d ∧ d < 4) : ∃ μ', gFr x (x + 7) μ μ' ∧ rTb x (tTid d 16 0 0 T).2 μ' ∧ ∀ Q : Int → gM → Prop, gE 117 0 [gO 7 x, gI d, gX, gX] [] μ Q = Q (tTid d 16 0 0 T).1 μ' := by
  obtain ⟨μ1, f1, r1, run1⟩ := k_tidy_loop hd 16 0 0 T μ h (by omega) (by omega) (by omega) (by omega)
  rw [Int.mul_zero] at run1
  refine ⟨μ1, f1, r1, fun Q => ?_⟩
  simp (disch := first | assumption | omega) only [e117_0, e117_1, e117_2, e117_3, e117_5, e117_7, e117_10, e117_11, e117_12, e117_13, e117_16, e117_19, e117_20, e117_21, e117_22, e117_25, e117_28, e117_29, e117_30, e117_31, e117_34, e117_37, e117_40, e117_43, e117_44, gK0_eq, gK1_eq, gK3_eq, w32_id, bI_eq0, bI_eq1, Bool.false_eq_true, not_true_eq_false, not_false_eq_true, ne_eq, ite_not, ↓reduceIte, if_true, if_false, Int.reduceToNat, Nat.reduceAdd, Int.reduceEq, Int.reduceLT, Int.reduceLE, Int.reduceNeg, bI_T, bI_F, run1]
theorem rTi_congr {i : Int} (h : rTi x T μ i) (h3 : μ' (x + 3) i = μ (x + 3) i) (h4 : μ' (x + 4) i = μ (x + 4) i) (h5 : μ' (x + 5) i = μ (x + 5) i) (h6 : μ' (x + 6) (i / 4) = μ (x + 6) (i / 4)) (t0 : T' i = T i) (t1 : T' (256 + i) = T (256 + i)) (t2 : T' (512 + i) = T (512 + i)) (t3 : T' (768 + i) = T (768 + i)) (t4 : T' 1672 = T 1672) : rTi x T' μ' i := by
  unfold rTi at h ⊢
  rw [h3, h4, h5, h6, t0, t1, t2, t3, t4]
  exact h
theorem tMaps_at {d p f r g : Int} (hd : 0 ≤ d ∧ d < 4) (hp : 0 ≤ p ∧ p < 64) : tMaps T d p f r g (64 * d + p) = f ∧ tMaps T d p f r g (256 + (64 * d + p)) = r ∧ tMaps T d p f r g (512 + (64 * d + p)) = iand32 g 1 ∧ tMaps T d p f r g (768 + (64 * d + p)) = ishr32 g 1 := by
  simp (disch := first | assumption | omega) only [tMaps, tS_ne, tS_same, and_self]
theorem tMaps_lo {d p f r g j : Int} (h : j ≠ 64 * d + p ∧ j ≠ 256 + (64 * d + p) ∧ j ≠ 512 + (64 * d + p) ∧ j ≠ 768 + (64 * d + p)) : tMaps T d p f r g j = T j := by
  simp (disch := first | assumption | omega) only [tMaps, tS_ne]
theorem k_Tenter {d p f r : Int} (h : rTb x T μ) (hd : 0 ≤ d ∧ d < T 1672) (hp : 0 ≤ p ∧ p < 64) (hu : T (64 * d + p) < 0) (hf : 0 ≤ f ∧ f < 64) (hr : 1 ≤ r ∧ r ≤ 3) : ∃ μ', gFr x (x + 7) μ μ' ∧ rTb x (tMaps T d p f r 0) μ' ∧ ∀ Q : Int → gM → Prop, gE 102 0 [gO 7 x, gI d, gI p, gI f, gI r] [] μ Q = Q 0 μ' := by
  have hD := h.1
  have hd4 : 0 ≤ d ∧ d < 4 := by omega
  have c0 : 0 ≤ 64 * d + p := by omega
  have c1 : 64 * d + p < ((256 : Nat) : Int) := by omega
  have z1 : iand32 0 1 = 0 := by decide
  have z2 : ishr32 0 1 = 0 := by decide
  obtain ⟨m1, m2, m3, m4⟩ := tMaps_at (T := T) (f := f) (r := r) (g := 0) hd4 hp
  rw [z1] at m3
  rw [z2] at m4
  refine ⟨gS (gS μ (x + 3) (64 * d + p) f) (x + 4) (64 * d + p) r, gFr_gS (gFr_gS gFr_refl (by omega) (by omega)) (by omega) (by omega), ?_, fun Q => ?_⟩
  · obtain ⟨g1, g2, g3, g4⟩ := h
    refine ⟨by rw [tMaps_lo (by omega)]; exact g1, by rw [tMaps_lo (by omega), gS_neK (by omega), gS_neK (by omega)]; exact g2, fun e e0 e1 => ?_, fun i i0 i1 => ?_⟩
    · rw [tMaps_lo (by omega), tMaps_lo (by omega), tMaps_lo (by omega), gS_neK (by omega), gS_neK (by omega), gS_neK (by omega), gS_neK (by omega)]
      exact g3 e e0 e1
    · have q := g4 i i0 i1
      by_cases c : i = 64 * d + p
      · subst c
        obtain ⟨q1, q2, q3, q4, q5, q6, q7, q8⟩ := q
        obtain ⟨u1, u2, u3⟩ := q7 hu
        unfold rTi
        rw [m1, m2, m3, m4, tMaps_lo (by omega), gS_same, gS_neK (by omega), gS_same, gS_neK (by omega), gS_neK (by omega), gS_neK (by omega), gS_neK (by omega), q3, q5, u2, u3]
        exact ⟨rfl, by omega, rfl, Or.inl rfl, rfl, Or.inl rfl, fun _ => by omega, fun _ => ⟨rfl, hr, by omega⟩⟩
      · refine rTi_congr q ?_ ?_ ?_ ?_ (tMaps_lo (by omega)) (tMaps_lo (by omega)) (tMaps_lo (by omega)) (tMaps_lo (by omega)) (tMaps_lo (by omega))
        · rw [gS_neK (by omega), gS_neI c]
        · rw [gS_neI c, gS_neK (by omega)]
        · rw [gS_neK (by omega), gS_neK (by omega)]
        · rw [gS_neK (by omega), gS_neK (by omega)]
  · simp (disch := first | assumption | omega) only [e102_0, e102_1, e102_4, e102_5, e102_6, e102_9, e102_10, e102_13, e102_14, e102_17, e102_18, e102_19, e102_22, e102_24, e102_27, gK0_eq, gK1_eq, gK3_eq, w32_id, bI_eq0, bI_eq1, Bool.false_eq_true, not_true_eq_false, not_false_eq_true, ne_eq, ite_not, ↓reduceIte, if_true, if_false, Int.reduceToNat, Nat.reduceAdd, Int.reduceEq, Int.reduceLT, Int.reduceLE, Int.reduceNeg, bI_T, bI_F, ↓if_pos, ↓if_neg, k_slot hd4 hp, s_put', putv_in]
theorem k_Treserve {d p : Int} (h : rTb x T μ) (hd : 0 ≤ d ∧ d < 4) (hp : 0 ≤ p ∧ p < 64) (hm : 0 ≤ T (64 * d + p)) : ∃ μ', gFr x (x + 7) μ μ' ∧ rTb x (tS T (512 + (64 * d + p)) 1) μ' ∧ ∀ Q : Int → gM → Prop, gE 103 0 [gO 7 x, gI d, gI p] [] μ Q = Q 0 μ' := by
  have c0 : 0 ≤ 64 * d + p := by omega
  have c1 : 64 * d + p < ((256 : Nat) : Int) := by omega
  refine ⟨gS μ (x + 5) (64 * d + p) 1, gFr_gS gFr_refl (by omega) (by omega), ?_, fun Q => ?_⟩
  · obtain ⟨g1, g2, g3, g4⟩ := h
    refine ⟨by rw [tS_ne (by omega)]; exact g1, by rw [tS_ne (by omega), gS_neK (by omega)]; exact g2, fun e e0 e1 => ?_, fun i i0 i1 => ?_⟩
    · rw [tS_ne (by omega), tS_ne (by omega), tS_ne (by omega), gS_neK (by omega), gS_neK (by omega)]
      exact g3 e e0 e1
    · have q := g4 i i0 i1
      by_cases c : i = 64 * d + p
      · subst c
        obtain ⟨q1, q2, q3, q4, q5, q6, q7, q8⟩ := q
        unfold rTi
        rw [tS_same, gS_same, tS_ne (by omega), tS_ne (by omega), tS_ne (by omega), tS_ne (by omega), gS_neK (by omega), gS_neK (by omega), gS_neK (by omega)]
        exact ⟨q1, q2, rfl, Or.inr rfl, q5, q6, fun z => by omega, q8⟩
      · refine rTi_congr q ?_ ?_ ?_ ?_ (tS_ne (by omega)) (tS_ne (by omega)) (tS_ne (by omega)) (tS_ne (by omega)) (tS_ne (by omega))
        · rw [gS_neK (by omega)]
        · rw [gS_neK (by omega)]
        · rw [gS_neI c]
        · rw [gS_neK (by omega)]
  · simp (disch := first | assumption | omega) only [e103_0, e103_1, e103_4, e103_5, e103_6, e103_9, e103_10, e103_13, gK0_eq, gK1_eq, gK3_eq, w32_id, bI_eq0, bI_eq1, Bool.false_eq_true, not_true_eq_false, not_false_eq_true, ne_eq, ite_not, ↓reduceIte, if_true, if_false, Int.reduceToNat, Nat.reduceAdd, Int.reduceEq, Int.reduceLT, Int.reduceLE, Int.reduceNeg, bI_T, bI_F, ↓if_pos, ↓if_neg, k_slot hd hp, s_put', putv_in]
theorem tLv_at {d p : Int} (hd : 0 ≤ d ∧ d < 4) (hp : 0 ≤ p ∧ p < 64) {j : Int} : tLv T d p j = if j = 64 * d + p then -1 else if j = 512 + (64 * d + p) then 0 else if 768 + (64 * d + p - p % 4) ≤ j ∧ j < 768 + (64 * d + p - p % 4) + 4 then 0 else T j := by
  unfold tLv tS tBl0
  by_cases c1 : j = 512 + (64 * d + p)
  · rw [if_pos c1, if_neg (by omega), if_pos c1]
  · rw [if_neg c1]
    by_cases c2 : j = 64 * d + p
    · rw [if_pos c2, if_pos c2]
    · rw [if_neg c2, if_neg c2, if_neg c1]
theorem k_Tleave {d p : Int} (h : rTb x T μ) (hd : 0 ≤ d ∧ d < 4) (hp : 0 ≤ p ∧ p < 64) : ∃ μ', gFr x (x + 7) μ μ' ∧ rTb x (tLv T d p) μ' ∧ ∀ Q : Int → gM → Prop, gE 105 0 [gO 7 x, gI d, gI p] [] μ Q = Q 0 μ' := by
  have c0 : 0 ≤ 64 * d + p := by omega
  have c1 : 64 * d + p < ((256 : Nat) : Int) := by omega
  have d0 : 0 ≤ (64 * d + p) / 4 := by omega
  have d1 : (64 * d + p) / 4 < ((64 : Nat) : Int) := by omega
  refine ⟨gS (gS (gS (gS μ (x + 6) ((64 * d + p) / 4) 0) (x + 3) (64 * d + p) (-1)) (x + 4) (64 * d + p) 0) (x + 5) (64 * d + p) 0, gFr_gS (gFr_gS (gFr_gS (gFr_gS gFr_refl (by omega) (by omega)) (by omega) (by omega)) (by omega) (by omega)) (by omega) (by omega), ?_, fun Q => ?_⟩
  · obtain ⟨g1, g2, g3, g4⟩ := h
    have lo : ∀ j, 1024 ≤ j → tLv T d p j = T j := fun j hj => by rw [tLv_at hd hp, if_neg (by omega), if_neg (by omega), if_neg (by omega)]
    refine ⟨by rw [lo _ (by omega)]; exact g1, by rw [lo _ (by omega), gS_neK (by omega), gS_neK (by omega), gS_neK (by omega), gS_neK (by omega)]; exact g2, fun e e0 e1 => ?_, fun i i0 i1 => ?_⟩
    · rw [lo _ (by omega), lo _ (by omega), lo _ (by omega)]
      simp (disch := first | assumption | omega) only [gS_neK]
      exact g3 e e0 e1
    · have q := g4 i i0 i1
      obtain ⟨q1, q2, q3, q4, q5, q6, q7, q8⟩ := q
      have m6 : gS (gS (gS (gS μ (x + 6) ((64 * d + p) / 4) 0) (x + 3) (64 * d + p) (-1)) (x + 4) (64 * d + p) 0) (x + 5) (64 * d + p) 0 (x + 6) (i / 4) = tLv T d p (768 + i) := by
        simp (disch := first | assumption | omega) only [gS_neK]
        rw [tLv_at hd hp, if_neg (by omega), if_neg (by omega)]
        by_cases cq : i / 4 = (64 * d + p) / 4
        · rw [cq, gS_same, if_pos (by omega)]
        · rw [gS_neI cq, if_neg (by omega), q5]
      have t3 : tLv T d p (768 + i) = 0 ∨ tLv T d p (768 + i) = T (768 + i) := by
        rw [tLv_at hd hp, if_neg (by omega), if_neg (by omega)]
        split
        · exact Or.inl rfl
        · exact Or.inr rfl
      have t4 := lo 1672 (by omega)
      have t1 : tLv T d p (256 + i) = T (256 + i) := by rw [tLv_at hd hp, if_neg (by omega), if_neg (by omega), if_neg (by omega)]
      have m3 : gS (gS (gS (gS μ (x + 6) ((64 * d + p) / 4) 0) (x + 3) (64 * d + p) (-1)) (x + 4) (64 * d + p) 0) (x + 5) (64 * d + p) 0 (x + 3) i = if i = 64 * d + p then -1 else μ (x + 3) i := by
        rw [gS_neK (by omega), gS_neK (by omega)]
        split
        · rename_i c; rw [c, gS_same]
        · rename_i c; rw [gS_neI c, gS_neK (by omega)]
      have m4 : gS (gS (gS (gS μ (x + 6) ((64 * d + p) / 4) 0) (x + 3) (64 * d + p) (-1)) (x + 4) (64 * d + p) 0) (x + 5) (64 * d + p) 0 (x + 4) i = if i = 64 * d + p then 0 else μ (x + 4) i := by
        rw [gS_neK (by omega)]
        split
        · rename_i c; rw [c, gS_same]
        · rename_i c; rw [gS_neI c, gS_neK (by omega), gS_neK (by omega)]
      have m5 : gS (gS (gS (gS μ (x + 6) ((64 * d + p) / 4) 0) (x + 3) (64 * d + p) (-1)) (x + 4) (64 * d + p) 0) (x + 5) (64 * d + p) 0 (x + 5) i = if i = 64 * d + p then 0 else μ (x + 5) i := by
        split
        · rename_i c; rw [c, gS_same]
        · rename_i c; rw [gS_neI c, gS_neK (by omega), gS_neK (by omega), gS_neK (by omega)]
      unfold rTi
      rw [m6, t1, t4, m3, m4, m5]
      by_cases c : i = 64 * d + p
      · subst c
        have a0 : tLv T d p (64 * d + p) = -1 := by rw [tLv_at hd hp, if_pos rfl]
        have a2 : tLv T d p (512 + (64 * d + p)) = 0 := by rw [tLv_at hd hp, if_neg (by omega), if_pos rfl]
        have a3 : tLv T d p (768 + (64 * d + p)) = 0 := by rw [tLv_at hd hp, if_neg (by omega), if_neg (by omega), if_pos (by omega)]
        rw [a0, a2, a3, if_pos rfl, if_pos rfl, if_pos rfl]
        exact ⟨rfl, by omega, rfl, Or.inl rfl, rfl, Or.inl rfl, fun _ => ⟨rfl, rfl, rfl⟩, fun z => by omega⟩
      · have a0 : tLv T d p i = T i := by rw [tLv_at hd hp, if_neg c, if_neg (by omega), if_neg (by omega)]
        have a2 : tLv T d p (512 + i) = T (512 + i) := by rw [tLv_at hd hp, if_neg (by omega), if_neg (by omega), if_neg (by omega)]
        rw [a0, a2, if_neg c, if_neg c, if_neg c]
        exact ⟨q1, q2, q3, q4, rfl, by rcases t3 with t3 | t3 <;> rw [t3] <;> omega, fun z => ⟨(q7 z).1, (q7 z).2.1, by rcases t3 with t3 | t3 <;> rw [t3]; exact (q7 z).2.2⟩, q8⟩
  · simp (disch := first | assumption | omega) only [e105_0, e105_1, e105_4, e105_5, e105_6, e105_9, e105_10, e105_13, e105_14, e105_17, e105_18, e105_19, e105_22, e105_23, e105_26, e105_27, e105_30, e105_31, e105_32, e105_35, e105_36, e105_39, e105_40, e105_43, e105_44, e105_45, e105_48, e105_49, e105_52, gK0_eq, gK1_eq, gK3_eq, w32_id, bI_eq0, bI_eq1, Bool.false_eq_true, not_true_eq_false, not_false_eq_true, ne_eq, ite_not, ↓reduceIte, if_true, if_false, Int.reduceToNat, Nat.reduceAdd, Int.reduceEq, Int.reduceLT, Int.reduceLE, Int.reduceNeg, bI_T, bI_F, ↓if_pos, ↓if_neg, k_slot hd hp, k_blockSlot hd hp, s_put', putv_in]
theorem k_addDomain {v : Int} (h : rTb x T μ) : ∃ μ', gFr x (x + 7) μ μ' ∧ rTb x (tDomT T v) μ' ∧ ∀ Q : Int → gM → Prop, gE 94 0 [gO 7 x, gI v] [] μ Q = Q (tDomA T) μ' := by
  have hD := h.1
  have h0 := h.2.1
  unfold tDomT tDomA
  by_cases c : T 1672 = 4
  · rw [if_pos c, if_pos c]
    refine ⟨μ, gFr_refl, h, fun Q => ?_⟩
    simp (disch := first | assumption | omega) only [e94_0, e94_1, e94_4, e94_5, e94_8, e94_9, e94_10, e94_11, e94_14, e94_15, e94_18, e94_19, e94_22, e94_23, e94_26, e94_27, e94_30, e94_31, e94_34, e94_35, e94_38, e94_39, e94_42, e94_43, e94_44, e94_47, e94_48, e94_49, e94_52, e94_53, e94_56, e94_57, e94_58, gK0_eq, gK1_eq, gK3_eq, w32_id, bI_eq0, bI_eq1, Bool.false_eq_true, not_true_eq_false, not_false_eq_true, ne_eq, ite_not, ↓reduceIte, if_true, if_false, Int.reduceToNat, Nat.reduceAdd, Int.reduceEq, Int.reduceLT, Int.reduceLE, Int.reduceNeg, bI_T, bI_F, ↓if_pos, ↓if_neg, h0, c]
  · have c' : T 1672 < 4 := by omega
    have c0 : 0 ≤ T 1672 := hD.1
    have c1 : T 1672 < ((4 : Nat) : Int) := by omega
    have cz : T 1672 + 1 - 1 = T 1672 := by omega
    rw [if_neg c, if_neg c]
    refine ⟨gS (gS (gS μ (x + 1) (T 1672) (if v = 0 then 0 else 1)) (x + 2) (T 1672) 0) x 0 (T 1672 + 1), gFr_gS (gFr_gS (gFr_gS gFr_refl (by omega) (by omega)) (by omega) (by omega)) (by omega) (by omega), ?_, fun Q => ?_⟩
    · obtain ⟨g1, g2, g3, g4⟩ := h
      refine ⟨by rw [tS_same]; omega, by rw [tS_same, gS_same], fun e e0 e1 => ?_, fun i i0 i1 => ?_⟩
      · obtain ⟨q1, q2, q3⟩ := g3 e e0 e1
        rw [tS_same, tS_ne (by omega), tS_ne (by omega), tS_ne (by omega)]
        simp (disch := first | assumption | omega) only [gS_neK]
        refine ⟨q1, fun z => ?_, fun z => q3 (by omega)⟩
        by_cases ce : e = T 1672
        · rw [ce, tS_same, gS_same, gS_same, ← ce, q3 (by omega)]
          refine ⟨rfl, rfl, ?_⟩
          split
          · exact Or.inl rfl
          · exact Or.inr rfl
        · rw [tS_ne (by omega), gS_neI ce, gS_neI ce, gS_neK (by omega)]
          exact q2 (by omega)
      · have q := g4 i i0 i1
        unfold rTi at q ⊢
        rw [tS_same]
        simp (disch := first | assumption | omega) only [gS_neK, tS_ne]
        obtain ⟨q1, q2, q3, q4, q5, q6, q7, q8⟩ := q
        exact ⟨q1, q2, q3, q4, q5, q6, q7, fun z => ⟨(q8 z).1, (q8 z).2.1, by have := (q8 z).2.2; omega⟩⟩
    · by_cases cv : v = 0
      · simp (disch := first | assumption | omega) only [e94_0, e94_1, e94_4, e94_5, e94_8, e94_9, e94_10, e94_11, e94_14, e94_15, e94_18, e94_19, e94_22, e94_23, e94_26, e94_27, e94_30, e94_31, e94_34, e94_35, e94_38, e94_39, e94_42, e94_43, e94_44, e94_47, e94_48, e94_49, e94_52, e94_53, e94_56, e94_57, e94_58, gK0_eq, gK1_eq, gK3_eq, w32_id, bI_eq0, bI_eq1, Bool.false_eq_true, not_true_eq_false, not_false_eq_true, ne_eq, ite_not, ↓reduceIte, if_true, if_false, Int.reduceToNat, Nat.reduceAdd, Int.reduceEq, Int.reduceLT, Int.reduceLE, Int.reduceNeg, bI_T, bI_F, ↓if_pos, ↓if_neg, h0, c', cv, s_put', putv_in, gS_neK, gS_same, cz]
      · simp (disch := first | assumption | omega) only [e94_0, e94_1, e94_4, e94_5, e94_8, e94_9, e94_10, e94_11, e94_14, e94_15, e94_18, e94_19, e94_22, e94_23, e94_26, e94_27, e94_30, e94_31, e94_34, e94_35, e94_38, e94_39, e94_42, e94_43, e94_44, e94_47, e94_48, e94_49, e94_52, e94_53, e94_56, e94_57, e94_58, gK0_eq, gK1_eq, gK3_eq, w32_id, bI_eq0, bI_eq1, Bool.false_eq_true, not_true_eq_false, not_false_eq_true, ne_eq, ite_not, ↓reduceIte, if_true, if_false, Int.reduceToNat, Nat.reduceAdd, Int.reduceEq, Int.reduceLT, Int.reduceLE, Int.reduceNeg, bI_T, bI_F, ↓if_pos, ↓if_neg, h0, c', cv, s_put', putv_in, gS_neK, gS_same, cz]
theorem k_Tclear (t1 : T 1672 = 0) (t2 : ∀ d, 0 ≤ d → d < 4 → T (1668 + d) = 0) (t3 : ∀ i, 0 ≤ i → i < 256 → T i = -1 ∧ T (512 + i) = 0 ∧ T (768 + i) = 0) : ∃ μ', gFr x (x + 7) μ μ' ∧ rTb x T μ' ∧ ∀ Q : Int → gM → Prop, gE 92 0 [gO 7 x] [] μ Q = Q 0 μ' := by
  refine ⟨?m, ?f, ?r, fun Q => ?run⟩
  case run =>
    simp (disch := first | assumption | omega) only [e92_0, e92_1, e92_2, e92_5, e92_6, e92_9, e92_10, e92_13, e92_14, e92_17, e92_18, e92_21, e92_22, e92_25, e92_26, e92_29, e92_30, e92_33, e92_34, e92_37, gK0_eq, gK1_eq, gK3_eq, w32_id, bI_eq0, bI_eq1, Bool.false_eq_true, not_true_eq_false, not_false_eq_true, ne_eq, ite_not, ↓reduceIte, if_true, if_false, Int.reduceToNat, Nat.reduceAdd, Int.reduceEq, Int.reduceLT, Int.reduceLE, Int.reduceNeg, bI_T, bI_F, ↓if_pos, ↓if_neg, s_fillRow, gS_neK, mrow_ne]
    exact rfl
  case f => intro k i hk; simp (disch := first | assumption | omega) only [gS_neK, mrow_ne]
  case r =>
    refine ⟨by omega, ?_, fun d d0 d1 => ?_, fun i i0 i1 => ?_⟩
    · simp (disch := first | assumption | omega) only [gS_same, mrow_ne, t1]
    · rw [t2 d d0 d1, t1]
      exact ⟨by omega, fun z => by omega, fun _ => rfl⟩
    · obtain ⟨s1, s2, s3⟩ := t3 i i0 i1
      have c : 0 ≤ i ∧ i < ((256 : Nat) : Int) := by omega
      have c4 : 0 ≤ i / 4 ∧ i / 4 < ((64 : Nat) : Int) := by omega
      unfold rTi
      rw [mrow_ne (by omega), mrow_ne (by omega), mrow_ne (by omega), mrow_same, mrow_ne (by omega), mrow_same, mrow_same, mrow_ne (by omega), mrow_ne (by omega), mrow_same, if_pos c, if_pos c, if_pos c, if_pos c4, s1, s2, s3]
      exact ⟨rfl, by omega, rfl, Or.inl rfl, rfl, Or.inl rfl, fun _ => ⟨rfl, rfl, rfl⟩, fun z => by omega⟩
theorem k_Tcopy (h : rTb y T μ) (hxy : x + 7 ≤ y ∨ y + 7 ≤ x) : ∃ μ', gFr x (x + 7) μ μ' ∧ rTb x T μ' ∧ ∀ Q : Int → gM → Prop, gE 93 0 [gO 7 x, gO 7 y] [] μ Q = Q 0 μ' := by
  refine ⟨?m, ?f, ?r, fun Q => ?run⟩
  case run =>
    simp (disch := first | assumption | omega) only [e93_0, e93_1, e93_2, e93_5, e93_8, e93_9, e93_12, e93_13, e93_16, e93_19, e93_20, e93_23, e93_24, e93_27, e93_30, e93_31, e93_34, e93_35, e93_38, e93_41, e93_42, e93_45, e93_46, e93_49, e93_52, e93_53, e93_56, e93_57, e93_60, e93_63, e93_64, e93_67, e93_68, e93_71, e93_74, gK0_eq, gK1_eq, gK3_eq, w32_id, bI_eq0, bI_eq1, Bool.false_eq_true, not_true_eq_false, not_false_eq_true, ne_eq, ite_not, ↓reduceIte, if_true, if_false, Int.reduceToNat, Nat.reduceAdd, Int.reduceEq, Int.reduceLT, Int.reduceLE, Int.reduceNeg, bI_T, bI_F, ↓if_pos, ↓if_neg, s_copyRow, gS_neK, mrow_ne]
    exact rfl
  case f => intro k i hk; simp (disch := first | assumption | omega) only [gS_neK, mrow_ne]
  case r =>
    refine rTb_tr h ?_ (fun i i0 i1 => ?_) (fun i i0 i1 => ?_) (fun i i0 i1 => ?_) (fun j _ => rfl)
    · simp (disch := first | assumption | omega) only [gS_same, mrow_ne]
    · have c : 0 ≤ i ∧ i < ((4 : Nat) : Int) := by omega
      simp (disch := first | assumption | omega) only [gS_neK, mrow_ne, mrow_same, if_pos c, and_self]
    · have c : 0 ≤ i ∧ i < ((256 : Nat) : Int) := by omega
      simp (disch := first | assumption | omega) only [gS_neK, mrow_ne, mrow_same, if_pos c, and_self]
    · have c : 0 ≤ i ∧ i < ((64 : Nat) : Int) := by omega
      simp (disch := first | assumption | omega) only [gS_neK, mrow_ne, mrow_same, if_pos c]
end TABLES2
