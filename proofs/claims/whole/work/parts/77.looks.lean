/-! the class: its state: looks -/
section LOOKS
variable {B C : Nat} {X μ μ' : gM} {T T' : Int → Int} {Q : Int → gM → Prop}
theorem k_staleFor {k r : Int} (h : rSt B X T μ) (hk : 0 ≤ k ∧ k < T 1813) : gE 194 0 [gO 6 B, gI k, gI r, gX, gX] [] μ Q = Q (bI (tAs T (T (1814 + 4 * k)) (T (1814 + 4 * k + 1)) (T (1814 + 4 * k + 2)) r = false)) μ := by
  have hC := h.2.2.2.2.1.1.1
  have h16 : T 1813 ≤ 16 := by have := hC.2.1; have := h.2.2.2.2.1.1.2.2; omega
  obtain ⟨b1, b2, b3, b4⟩ := h.2.2.2.2.1.2.2 k hk.1 hk.2
  obtain ⟨o1, o2, o3, o4⟩ := hC.2.2.1 k hk.1 hk.2
  have k0 := hk.1
  have k1 : k < ((16 : Nat) : Int) := by omega
  have a4 : T (256 + 64 * T (1814 + 4 * k) + T (1814 + 4 * k + 1)) = T (256 + (64 * T (1814 + 4 * k) + T (1814 + 4 * k + 1))) := by rw [Int.add_assoc]
  unfold tAs
  rw [a4]
  by_cases c : T (64 * T (1814 + 4 * k) + T (1814 + 4 * k + 1)) = T (1814 + 4 * k + 2)
  · have e : tRg T (T (1814 + 4 * k)) (T (1814 + 4 * k + 1)) = T (256 + (64 * T (1814 + 4 * k) + T (1814 + 4 * k + 1))) := if_neg (by omega)
    by_cases q : iand32 (T (256 + (64 * T (1814 + 4 * k) + T (1814 + 4 * k + 1)))) r = r
    · rw [bI_f (by rw [decide_eq_true c, decide_eq_true q]; exact Bool.noConfusion)]
      simp (disch := first | assumption | omega) only [e194_0, e194_1, e194_4, e194_7, e194_8, e194_11, e194_12, e194_13, e194_16, e194_19, e194_20, e194_23, e194_25, e194_26, e194_29, e194_30, e194_32, e194_35, e194_36, e194_39, e194_42, e194_43, e194_46, e194_49, e194_50, e194_53, e194_54, e194_56, e194_59, e194_60, e194_61, e194_62, e194_65, e194_66, e194_69, e194_70, gK0_eq, gK1_eq, gK3_eq, w32_id, bI_eq0, bI_eq1, Bool.false_eq_true, not_true_eq_false, not_false_eq_true, ne_eq, ite_not, ↓reduceIte, if_true, if_false, Int.reduceToNat, Nat.reduceAdd, Int.reduceEq, Int.reduceLT, Int.reduceLE, Int.reduceNeg, bI_T, bI_F, ↓if_pos, ↓if_neg, s_at, atv_in, b1, b2, b3, k_frameOf h.2.1 o1 o2, c, k_rightsOf h.2.1 o1 o2, e, q]
    · rw [bI_t (by rw [decide_eq_false q, Bool.and_false])]
      simp (disch := first | assumption | omega) only [e194_0, e194_1, e194_4, e194_7, e194_8, e194_11, e194_12, e194_13, e194_16, e194_19, e194_20, e194_23, e194_25, e194_26, e194_29, e194_30, e194_32, e194_35, e194_36, e194_39, e194_42, e194_43, e194_46, e194_49, e194_50, e194_53, e194_54, e194_56, e194_59, e194_60, e194_61, e194_62, e194_65, e194_66, e194_69, e194_70, gK0_eq, gK1_eq, gK3_eq, w32_id, bI_eq0, bI_eq1, Bool.false_eq_true, not_true_eq_false, not_false_eq_true, ne_eq, ite_not, ↓reduceIte, if_true, if_false, Int.reduceToNat, Nat.reduceAdd, Int.reduceEq, Int.reduceLT, Int.reduceLE, Int.reduceNeg, bI_T, bI_F, ↓if_pos, ↓if_neg, s_at, atv_in, b1, b2, b3, k_frameOf h.2.1 o1 o2, c, k_rightsOf h.2.1 o1 o2, e, q]
  · rw [bI_t (by rw [decide_eq_false c, Bool.false_and])]
    simp (disch := first | assumption | omega) only [e194_0, e194_1, e194_4, e194_7, e194_8, e194_11, e194_12, e194_13, e194_16, e194_19, e194_20, e194_23, e194_25, e194_26, e194_29, e194_30, e194_32, e194_35, e194_36, e194_39, e194_42, e194_43, e194_46, e194_49, e194_50, e194_53, e194_54, e194_56, e194_59, e194_60, e194_61, e194_62, e194_65, e194_66, e194_69, e194_70, gK0_eq, gK1_eq, gK3_eq, w32_id, bI_eq0, bI_eq1, Bool.false_eq_true, not_true_eq_false, not_false_eq_true, ne_eq, ite_not, ↓reduceIte, if_true, if_false, Int.reduceToNat, Nat.reduceAdd, Int.reduceEq, Int.reduceLT, Int.reduceLE, Int.reduceNeg, bI_T, bI_F, ↓if_pos, ↓if_neg, s_at, atv_in, b1, b2, b3, k_frameOf h.2.1 o1 o2, c]
theorem k_isStale {k : Int} (h : rSt B X T μ) (hk : 0 ≤ k ∧ k < T 1813) : gE 195 0 [gO 6 B, gI k] [] μ Q = Q (bI (tStl T k = true)) μ := by
  have hC := h.2.2.2.2.1.1.1
  have h16 : T 1813 ≤ 16 := by have := hC.2.1; have := h.2.2.2.2.1.1.2.2; omega
  obtain ⟨b1, b2, b3, b4⟩ := h.2.2.2.2.1.2.2 k hk.1 hk.2
  have k0 := hk.1
  have k1 : k < ((16 : Nat) : Int) := by omega
  cases q : tAs T (T (1814 + 4 * k)) (T (1814 + 4 * k + 1)) (T (1814 + 4 * k + 2)) (T (1814 + 4 * k + 3)) with
  | true =>
    have sf : ∀ Q' : Int → gM → Prop, gE 194 0 [gO 6 B, gI k, gI (T (1814 + 4 * k + 3)), gX, gX] [] μ Q' = Q' 0 μ := fun Q' => by rw [k_staleFor h hk, q, bI_f (by simp)]
    rw [bI_f (by unfold tStl; rw [q]; exact Bool.noConfusion)]
    simp (disch := first | assumption | omega) only [e195_0, e195_1, e195_2, e195_3, e195_6, e195_9, e195_10, e195_13, e195_16, gK0_eq, gK1_eq, gK3_eq, w32_id, bI_eq0, bI_eq1, Bool.false_eq_true, not_true_eq_false, not_false_eq_true, ne_eq, ite_not, ↓reduceIte, if_true, if_false, Int.reduceToNat, Nat.reduceAdd, Int.reduceEq, Int.reduceLT, Int.reduceLE, Int.reduceNeg, bI_T, bI_F, ↓if_pos, ↓if_neg, s_at, atv_in, b4, sf]
  | false =>
    have sf : ∀ Q' : Int → gM → Prop, gE 194 0 [gO 6 B, gI k, gI (T (1814 + 4 * k + 3)), gX, gX] [] μ Q' = Q' 1 μ := fun Q' => by rw [k_staleFor h hk, q, bI_t rfl]
    rw [bI_t (by unfold tStl; rw [q]; rfl)]
    simp (disch := first | assumption | omega) only [e195_0, e195_1, e195_2, e195_3, e195_6, e195_9, e195_10, e195_13, e195_16, gK0_eq, gK1_eq, gK3_eq, w32_id, bI_eq0, bI_eq1, Bool.false_eq_true, not_true_eq_false, not_false_eq_true, ne_eq, ite_not, ↓reduceIte, if_true, if_false, Int.reduceToNat, Nat.reduceAdd, Int.reduceEq, Int.reduceLT, Int.reduceLE, Int.reduceNeg, bI_T, bI_F, ↓if_pos, ↓if_neg, s_at, atv_in, b4, sf]
theorem k_entryStale {k : Int} (h : rSt B X T μ) : gE 196 0 [gO 6 B, gI k] [] μ Q = Q (tCaA T k 4) μ := by
  have h0 := h.2.2.2.2.1.2.1
  unfold tCaA
  by_cases c0 : k < 0
  · rw [if_neg (by omega)]
    simp (disch := first | assumption | omega) only [e196_0, e196_1, e196_4, e196_5, e196_6, e196_9, e196_12, e196_15, e196_16, e196_17, e196_18, e196_19, e196_22, e196_25, e196_26, e196_29, e196_30, gK0_eq, gK1_eq, gK3_eq, w32_id, bI_eq0, bI_eq1, Bool.false_eq_true, not_true_eq_false, not_false_eq_true, ne_eq, ite_not, ↓reduceIte, if_true, if_false, Int.reduceToNat, Nat.reduceAdd, Int.reduceEq, Int.reduceLT, Int.reduceLE, Int.reduceNeg, bI_T, bI_F, ↓if_pos, ↓if_neg, c0]
  · by_cases c1 : k < T 1813
    · have hk : 0 ≤ k ∧ k < T 1813 := by omega
      rw [if_pos (by omega), if_neg (by omega)]
      cases s : tStl T k with
      | true => simp (disch := first | assumption | omega) only [e196_0, e196_1, e196_4, e196_5, e196_6, e196_9, e196_12, e196_15, e196_16, e196_17, e196_18, e196_19, e196_22, e196_25, e196_26, e196_29, e196_30, gK0_eq, gK1_eq, gK3_eq, w32_id, bI_eq0, bI_eq1, Bool.false_eq_true, not_true_eq_false, not_false_eq_true, ne_eq, ite_not, ↓reduceIte, if_true, if_false, Int.reduceToNat, Nat.reduceAdd, Int.reduceEq, Int.reduceLT, Int.reduceLE, Int.reduceNeg, bI_T, bI_F, ↓if_pos, ↓if_neg, c0, c1, h0, k_isStale h hk, s]
      | false => simp (disch := first | assumption | omega) only [e196_0, e196_1, e196_4, e196_5, e196_6, e196_9, e196_12, e196_15, e196_16, e196_17, e196_18, e196_19, e196_22, e196_25, e196_26, e196_29, e196_30, gK0_eq, gK1_eq, gK3_eq, w32_id, bI_eq0, bI_eq1, Bool.false_eq_true, not_true_eq_false, not_false_eq_true, ne_eq, ite_not, ↓reduceIte, if_true, if_false, Int.reduceToNat, Nat.reduceAdd, Int.reduceEq, Int.reduceLT, Int.reduceLE, Int.reduceNeg, bI_T, bI_F, ↓if_pos, ↓if_neg, c0, c1, h0, k_isStale h hk, s]
    · rw [if_neg (by omega)]
      simp (disch := first | assumption | omega) only [e196_0, e196_1, e196_4, e196_5, e196_6, e196_9, e196_12, e196_15, e196_16, e196_17, e196_18, e196_19, e196_22, e196_25, e196_26, e196_29, e196_30, gK0_eq, gK1_eq, gK3_eq, w32_id, bI_eq0, bI_eq1, Bool.false_eq_true, not_true_eq_false, not_false_eq_true, ne_eq, ite_not, ↓reduceIte, if_true, if_false, Int.reduceToNat, Nat.reduceAdd, Int.reduceEq, Int.reduceLT, Int.reduceLE, Int.reduceNeg, bI_T, bI_F, ↓if_pos, ↓if_neg, c0, c1, h0]
theorem k_staleEntries_loop {f : Int} (h : rSt B X T μ) : ∀ (m : Nat) (k n : Int), 0 ≤ k → k + m = T 1813 → 0 ≤ n → n ≤ k →
    gE 197 4 [gO 6 B, gI f, gI n, gI k] [] μ Q = Q (n + cntF (fun k => decide (T (1814 + 4 * k + 2) = f) && tStl T k) k m) μ := by
  have h0 := h.2.2.2.2.1.2.1
  have h16 : T 1813 ≤ 16 := by have := h.2.2.2.2.1.1.1.2.1; have := h.2.2.2.2.1.1.2.2; omega
  intro m
  induction m with
  | zero =>
    intro k n k0 k1 _ _
    have c : T 1813 ≤ k := by omega
    rw [e197_4]
    simp (disch := first | assumption | omega) only [e197_0, e197_1, e197_2, e197_3, e197_5, e197_6, e197_9, e197_12, e197_15, e197_16, e197_19, e197_22, e197_23, e197_26, e197_27, e197_30, e197_31, e197_32, e197_35, e197_38, e197_41, e197_44, e197_47, e197_48, gK0_eq, gK1_eq, gK3_eq, w32_id, bI_eq0, bI_eq1, Bool.false_eq_true, not_true_eq_false, not_false_eq_true, ne_eq, ite_not, ↓reduceIte, if_true, if_false, Int.reduceToNat, Nat.reduceAdd, Int.reduceEq, Int.reduceLT, Int.reduceLE, Int.reduceNeg, bI_T, bI_F, ↓if_pos, ↓if_neg, h0, c, cntF, Int.add_zero]
  | succ m ih =>
    intro k n k0 k1 n0 n1
    have c : ¬ T 1813 ≤ k := by omega
    have hk : 0 ≤ k ∧ k < T 1813 := by omega
    have b3 := (h.2.2.2.2.1.2.2 k k0 hk.2).2.2.1
    have c16 : k < ((16 : Nat) : Int) := by omega
    rw [e197_4]
    by_cases q : T (1814 + 4 * k + 2) = f
    · cases s : tStl T k with
      | true =>
        simp (disch := first | assumption | omega) only [e197_0, e197_1, e197_2, e197_3, e197_5, e197_6, e197_9, e197_12, e197_15, e197_16, e197_19, e197_22, e197_23, e197_26, e197_27, e197_30, e197_31, e197_32, e197_35, e197_38, e197_41, e197_44, e197_47, e197_48, gK0_eq, gK1_eq, gK3_eq, w32_id, bI_eq0, bI_eq1, Bool.false_eq_true, not_true_eq_false, not_false_eq_true, ne_eq, ite_not, ↓reduceIte, if_true, if_false, Int.reduceToNat, Nat.reduceAdd, Int.reduceEq, Int.reduceLT, Int.reduceLE, Int.reduceNeg, bI_T, bI_F, ↓if_pos, ↓if_neg, h0, c, s_at, atv_in, b3, q, k_isStale h hk, s]
        rw [ih _ _ (by omega) (by omega) (by omega) (by omega), cntF_t (by rw [decide_eq_true q, s]; rfl), Int.add_assoc]
      | false =>
        simp (disch := first | assumption | omega) only [e197_0, e197_1, e197_2, e197_3, e197_5, e197_6, e197_9, e197_12, e197_15, e197_16, e197_19, e197_22, e197_23, e197_26, e197_27, e197_30, e197_31, e197_32, e197_35, e197_38, e197_41, e197_44, e197_47, e197_48, gK0_eq, gK1_eq, gK3_eq, w32_id, bI_eq0, bI_eq1, Bool.false_eq_true, not_true_eq_false, not_false_eq_true, ne_eq, ite_not, ↓reduceIte, if_true, if_false, Int.reduceToNat, Nat.reduceAdd, Int.reduceEq, Int.reduceLT, Int.reduceLE, Int.reduceNeg, bI_T, bI_F, ↓if_pos, ↓if_neg, h0, c, s_at, atv_in, b3, q, k_isStale h hk, s]
        rw [ih _ _ (by omega) (by omega) (by omega) (by omega), cntF_f (by rw [s, Bool.and_false])]
    · simp (disch := first | assumption | omega) only [e197_0, e197_1, e197_2, e197_3, e197_5, e197_6, e197_9, e197_12, e197_15, e197_16, e197_19, e197_22, e197_23, e197_26, e197_27, e197_30, e197_31, e197_32, e197_35, e197_38, e197_41, e197_44, e197_47, e197_48, gK0_eq, gK1_eq, gK3_eq, w32_id, bI_eq0, bI_eq1, Bool.false_eq_true, not_true_eq_false, not_false_eq_true, ne_eq, ite_not, ↓reduceIte, if_true, if_false, Int.reduceToNat, Nat.reduceAdd, Int.reduceEq, Int.reduceLT, Int.reduceLE, Int.reduceNeg, bI_T, bI_F, ↓if_pos, ↓if_neg, h0, c, s_at, atv_in, b3, q]
      rw [ih _ _ (by omega) (by omega) (by omega) (by omega), cntF_f (by rw [decide_eq_false q, Bool.false_and])]
theorem k_staleEntries {f : Int} (h : rSt B X T μ) : gE 197 0 [gO 6 B, gI f, gX, gX] [] μ Q = Q (tFrC T f 3) μ := by
  have hl := h.2.2.2.2.1.1.1.1
  have e : tFrC T f 3 = cntF (fun k => decide (T (1814 + 4 * k + 2) = f) && tStl T k) 0 (T 1813).toNat := by
    unfold tFrC
    exact cntF_congr _ _ (fun i _ _ => by rw [decide_eq_false (show ¬ (3 : Int) = 2 by omega), Bool.false_or])
  rw [e]
  simp (disch := first | assumption | omega) only [e197_0, e197_1, e197_2, e197_3, e197_5, e197_6, e197_9, e197_12, e197_15, e197_16, e197_19, e197_22, e197_23, e197_26, e197_27, e197_30, e197_31, e197_32, e197_35, e197_38, e197_41, e197_44, e197_47, e197_48, gK0_eq, gK1_eq, gK3_eq, w32_id, bI_eq0, bI_eq1, Bool.false_eq_true, not_true_eq_false, not_false_eq_true, ne_eq, ite_not, ↓reduceIte, if_true, if_false, Int.reduceToNat, Nat.reduceAdd, Int.reduceEq, Int.reduceLT, Int.reduceLE, Int.reduceNeg, bI_T, bI_F]
  rw [k_staleEntries_loop h (T 1813).toNat 0 0 (by omega) (by omega) (by omega) (by omega), Int.zero_add]
def re1 (T : Int → Int) (d r w k s : Int) : Int := if (T (1814 + 4 * k) = d ∧ iand32 (T (1814 + 4 * k + 3)) r ≠ 0) ∧ (w = 1 ∨ tAs T d (T (1814 + 4 * k + 1)) (T (1814 + 4 * k + 2)) r = false) then lor64 s (lshl64 1 (T (1814 + 4 * k + 2))) else s
theorem k_hitFrames_loop {d r w v : Int} (h : rSt B X T μ) (hv : v = bI (w = 2)) (hw : w = 1 ∨ w = 2) : ∀ (m : Nat) (k s : Int) (l7 : gv), 0 ≤ k → k + m = T 1813 →
    gE 198 6 [gO 6 B, gI d, gI r, gI v, gJ s, gX, gI k, l7] [] μ Q = Q (itF (re1 T d r w) k m s) μ := by
  have h0 := h.2.2.2.2.1.2.1
  have h16 : T 1813 ≤ 16 := by have := h.2.2.2.2.1.1.1.2.1; have := h.2.2.2.2.1.1.2.2; omega
  intro m
  induction m with
  | zero =>
    intro k s l7 k0 k1
    have c : T 1813 ≤ k := by omega
    rw [e198_6, itF]
    simp (disch := first | assumption | omega) only [e198_0, e198_1, e198_3, e198_4, e198_8, e198_9, e198_12, e198_15, e198_18, e198_19, e198_22, e198_25, e198_27, e198_30, e198_31, e198_34, e198_35, e198_38, e198_41, e198_43, e198_46, e198_47, e198_48, e198_51, e198_52, e198_55, e198_56, e198_58, e198_60, e198_63, e198_64, e198_67, e198_68, e198_70, e198_71, e198_74, e198_77, e198_79, e198_80, e198_81, e198_84, e198_87, e198_89, e198_92, e198_93, e198_94, e198_96, e198_99, e198_102, e198_104, gK0_eq, gK1_eq, gK3_eq, w32_id, bI_eq0, bI_eq1, Bool.false_eq_true, not_true_eq_false, not_false_eq_true, ne_eq, ite_not, ↓reduceIte, if_true, if_false, Int.reduceToNat, Nat.reduceAdd, Int.reduceEq, Int.reduceLT, Int.reduceLE, Int.reduceNeg, bI_T, bI_F, ↓if_pos, ↓if_neg, h0, c]
  | succ m ih =>
    intro k s l7 k0 k1
    have c : ¬ T 1813 ≤ k := by omega
    have hk : 0 ≤ k ∧ k < T 1813 := by omega
    obtain ⟨b1, b2, b3, b4⟩ := h.2.2.2.2.1.2.2 k k0 hk.2
    have c16 : k < ((16 : Nat) : Int) := by omega
    rw [e198_6, itF]
    by_cases q1 : T (1814 + 4 * k) = d
    · by_cases q2 : iand32 (T (1814 + 4 * k + 3)) r = 0
      · have u : re1 T d r w k s = s := if_neg (fun z => z.1.2 q2)
        rw [u]
        simp (disch := first | assumption | omega) only [e198_0, e198_1, e198_3, e198_4, e198_8, e198_9, e198_12, e198_15, e198_18, e198_19, e198_22, e198_25, e198_27, e198_30, e198_31, e198_34, e198_35, e198_38, e198_41, e198_43, e198_46, e198_47, e198_48, e198_51, e198_52, e198_55, e198_56, e198_58, e198_60, e198_63, e198_64, e198_67, e198_68, e198_70, e198_71, e198_74, e198_77, e198_79, e198_80, e198_81, e198_84, e198_87, e198_89, e198_92, e198_93, e198_94, e198_96, e198_99, e198_102, e198_104, gK0_eq, gK1_eq, gK3_eq, w32_id, bI_eq0, bI_eq1, Bool.false_eq_true, not_true_eq_false, not_false_eq_true, ne_eq, ite_not, ↓reduceIte, if_true, if_false, Int.reduceToNat, Nat.reduceAdd, Int.reduceEq, Int.reduceLT, Int.reduceLE, Int.reduceNeg, bI_T, bI_F, ↓if_pos, ↓if_neg, h0, c, s_at, atv_in, b1, b4, q1, q2]
        exact ih _ _ _ (by omega) (by omega)
      · rcases hw with w1 | w2
        · have u : re1 T d r w k s = lor64 s (lshl64 1 (T (1814 + 4 * k + 2))) := if_pos ⟨⟨q1, q2⟩, Or.inl w1⟩
          have hv' : v = 0 := by rw [hv, bI_f (by omega)]
          rw [u]
          subst hv'
          simp (disch := first | assumption | omega) only [e198_0, e198_1, e198_3, e198_4, e198_8, e198_9, e198_12, e198_15, e198_18, e198_19, e198_22, e198_25, e198_27, e198_30, e198_31, e198_34, e198_35, e198_38, e198_41, e198_43, e198_46, e198_47, e198_48, e198_51, e198_52, e198_55, e198_56, e198_58, e198_60, e198_63, e198_64, e198_67, e198_68, e198_70, e198_71, e198_74, e198_77, e198_79, e198_80, e198_81, e198_84, e198_87, e198_89, e198_92, e198_93, e198_94, e198_96, e198_99, e198_102, e198_104, gK0_eq, gK1_eq, gK3_eq, w32_id, bI_eq0, bI_eq1, Bool.false_eq_true, not_true_eq_false, not_false_eq_true, ne_eq, ite_not, ↓reduceIte, if_true, if_false, Int.reduceToNat, Nat.reduceAdd, Int.reduceEq, Int.reduceLT, Int.reduceLE, Int.reduceNeg, bI_T, bI_F, ↓if_pos, ↓if_neg, h0, c, s_at, atv_in, b1, b3, b4, q1, q2]
          exact ih _ _ _ (by omega) (by omega)
        · have hv' : v = 1 := by rw [hv, bI_t w2]
          subst hv'
          cases q3 : tAs T d (T (1814 + 4 * k + 1)) (T (1814 + 4 * k + 2)) r with
          | true =>
            have sf : ∀ Q' : Int → gM → Prop, gE 194 0 [gO 6 B, gI k, gI r, gX, gX] [] μ Q' = Q' 0 μ := fun Q' => by rw [k_staleFor h hk, q1, q3, bI_f (by simp)]
            have u : re1 T d r w k s = s := if_neg (fun z => by
              rcases z.2 with z | z
              · omega
              · rw [q3] at z; exact Bool.noConfusion z)
            rw [u]
            simp (disch := first | assumption | omega) only [e198_0, e198_1, e198_3, e198_4, e198_8, e198_9, e198_12, e198_15, e198_18, e198_19, e198_22, e198_25, e198_27, e198_30, e198_31, e198_34, e198_35, e198_38, e198_41, e198_43, e198_46, e198_47, e198_48, e198_51, e198_52, e198_55, e198_56, e198_58, e198_60, e198_63, e198_64, e198_67, e198_68, e198_70, e198_71, e198_74, e198_77, e198_79, e198_80, e198_81, e198_84, e198_87, e198_89, e198_92, e198_93, e198_94, e198_96, e198_99, e198_102, e198_104, gK0_eq, gK1_eq, gK3_eq, w32_id, bI_eq0, bI_eq1, Bool.false_eq_true, not_true_eq_false, not_false_eq_true, ne_eq, ite_not, ↓reduceIte, if_true, if_false, Int.reduceToNat, Nat.reduceAdd, Int.reduceEq, Int.reduceLT, Int.reduceLE, Int.reduceNeg, bI_T, bI_F, ↓if_pos, ↓if_neg, h0, c, s_at, atv_in, b1, b4, q1, q2, sf]
            exact ih _ _ _ (by omega) (by omega)
          | false =>
            have sf : ∀ Q' : Int → gM → Prop, gE 194 0 [gO 6 B, gI k, gI r, gX, gX] [] μ Q' = Q' 1 μ := fun Q' => by rw [k_staleFor h hk, q1, q3, bI_t rfl]
            have u : re1 T d r w k s = lor64 s (lshl64 1 (T (1814 + 4 * k + 2))) := if_pos ⟨⟨q1, q2⟩, Or.inr q3⟩
            rw [u]
            simp (disch := first | assumption | omega) only [e198_0, e198_1, e198_3, e198_4, e198_8, e198_9, e198_12, e198_15, e198_18, e198_19, e198_22, e198_25, e198_27, e198_30, e198_31, e198_34, e198_35, e198_38, e198_41, e198_43, e198_46, e198_47, e198_48, e198_51, e198_52, e198_55, e198_56, e198_58, e198_60, e198_63, e198_64, e198_67, e198_68, e198_70, e198_71, e198_74, e198_77, e198_79, e198_80, e198_81, e198_84, e198_87, e198_89, e198_92, e198_93, e198_94, e198_96, e198_99, e198_102, e198_104, gK0_eq, gK1_eq, gK3_eq, w32_id, bI_eq0, bI_eq1, Bool.false_eq_true, not_true_eq_false, not_false_eq_true, ne_eq, ite_not, ↓reduceIte, if_true, if_false, Int.reduceToNat, Nat.reduceAdd, Int.reduceEq, Int.reduceLT, Int.reduceLE, Int.reduceNeg, bI_T, bI_F, ↓if_pos, ↓if_neg, h0, c, s_at, atv_in, b1, b3, b4, q1, q2, sf]
            exact ih _ _ _ (by omega) (by omega)
    · have u : re1 T d r w k s = s := if_neg (fun z => q1 z.1.1)
      rw [u]
      simp (disch := first | assumption | omega) only [e198_0, e198_1, e198_3, e198_4, e198_8, e198_9, e198_12, e198_15, e198_18, e198_19, e198_22, e198_25, e198_27, e198_30, e198_31, e198_34, e198_35, e198_38, e198_41, e198_43, e198_46, e198_47, e198_48, e198_51, e198_52, e198_55, e198_56, e198_58, e198_60, e198_63, e198_64, e198_67, e198_68, e198_70, e198_71, e198_74, e198_77, e198_79, e198_80, e198_81, e198_84, e198_87, e198_89, e198_92, e198_93, e198_94, e198_96, e198_99, e198_102, e198_104, gK0_eq, gK1_eq, gK3_eq, w32_id, bI_eq0, bI_eq1, Bool.false_eq_true, not_true_eq_false, not_false_eq_true, ne_eq, ite_not, ↓reduceIte, if_true, if_false, Int.reduceToNat, Nat.reduceAdd, Int.reduceEq, Int.reduceLT, Int.reduceLE, Int.reduceNeg, bI_T, bI_F, ↓if_pos, ↓if_neg, h0, c, s_at, atv_in, b1, q1]
      exact ih _ _ _ (by omega) (by omega)
theorem k_hitFrames {d r w : Int} (h : rSt B X T μ) (hw : w = 1 ∨ w = 2) : gE 198 0 [gO 6 B, gI d, gI r, gI (bI (w = 2)), gX, gX, gX, gX] [] μ Q = Q (tRe1 T d r w) μ := by
  have hl := h.2.2.2.2.1.1.1.1
  simp (disch := first | assumption | omega) only [e198_0, e198_1, e198_3, e198_4, e198_8, e198_9, e198_12, e198_15, e198_18, e198_19, e198_22, e198_25, e198_27, e198_30, e198_31, e198_34, e198_35, e198_38, e198_41, e198_43, e198_46, e198_47, e198_48, e198_51, e198_52, e198_55, e198_56, e198_58, e198_60, e198_63, e198_64, e198_67, e198_68, e198_70, e198_71, e198_74, e198_77, e198_79, e198_80, e198_81, e198_84, e198_87, e198_89, e198_92, e198_93, e198_94, e198_96, e198_99, e198_102, e198_104, gK0_eq, gK1_eq, gK3_eq, w32_id, bI_eq0, bI_eq1, Bool.false_eq_true, not_true_eq_false, not_false_eq_true, ne_eq, ite_not, ↓reduceIte, if_true, if_false, Int.reduceToNat, Nat.reduceAdd, Int.reduceEq, Int.reduceLT, Int.reduceLE, Int.reduceNeg, bI_T, bI_F]
  rw [k_hitFrames_loop h rfl hw (T 1813).toNat 0 0 gX (by omega) (by omega)]
  rfl
theorem k_hit {d p r : Int} (hI : gIX X) (h : rSt B X T μ) (hh : tHit T d p r = true) : ∃ μ', gFr B (B + 50) μ μ' ∧ rSt B X (tLkT T (X 178 0) d p r) μ' ∧ ∀ Q : Int → gM → Prop, gE 193 0 [gO 6 B, gI (tEnt T d p), gI r, gX] [] μ Q = Q (tLkF T d p r) μ' := by
  have hC := h.2.2.2.2.1.1.1
  have hr16 := h.2.2.2.2.1.1.2.2
  have h16 : T 1813 ≤ 16 := by have := hC.2.1; omega
  have he := tHit_ent hh
  have hlt := (tEnt_lt (T := T) (d := d) (p := p) hC.1).1
  have hk : 0 ≤ tEnt T d p ∧ tEnt T d p < T 1813 := ⟨he, hlt⟩
  obtain ⟨s1, s2⟩ := tEnt_spec hC.1 he
  have b3 := (h.2.2.2.2.1.2.2 _ hk.1 hk.2).2.2.1
  have k1 : tEnt T d p < ((16 : Nat) : Int) := by omega
  have g8 := h.2.2.2.2.2.2.1.2.2.1.2.2.1
  have rl1 := rLg_cnt (c := 8) (j := 1878) h.2.2.2.2.2.2.1 (Or.inl ⟨rfl, rfl⟩)
  have h1 : rSt B X (tMor T 1878) (gS μ (B + 42) 8 (w32 (T 1878 + 1))) := by
    have f : gFr (B + 42) (B + 49) μ (gS μ (B + 42) 8 (w32 (T 1878 + 1))) := gFr_gS gFr_refl (by omega) (by omega)
    exact ⟨rTr_fr hI h.1 f (by omega), rTb_fr h.2.1 f (by omega) (fun j hj => by exact tMor_ne (by omega)), rFr_fr h.2.2.1 f (by omega) (fun j hj => by exact tMor_ne (by omega)), rQu_fr h.2.2.2.1 f (by omega) (fun j j1 j2 => by exact tMor_ne (by omega)), rCa_fr h.2.2.2.2.1 f (by omega) (fun j j1 j2 => by exact tMor_ne (by omega)), rRq_fr h.2.2.2.2.2.1 f (by omega) (fun j j1 j2 => by exact tMor_ne (by omega)), rl1, rDm_fr hI h.2.2.2.2.2.2.2 f (by omega) (fun j j1 j2 => by exact tMor_ne (by omega))⟩
  have e1878 : tEnt (tMor T 1878) d p = tEnt T d p := tMor_ent (by omega) ⟨hC.1, h16⟩
  have as1 : tAs (tMor T 1878) d p (T (1814 + 4 * tEnt T d p + 2)) r = tAs T d p (T (1814 + 4 * tEnt T d p + 2)) r := by
    obtain ⟨o1, o2, -⟩ := hC.2.2.1 _ hk.1 hk.2
    rw [s1] at o1; rw [s2] at o2
    exact tAs_congr o1 o2 (fun j hj => tMor_ne (by omega))
  have sf : ∀ Q' : Int → gM → Prop, gE 194 0 [gO 6 B, gI (tEnt T d p), gI r, gX, gX] [] (gS μ (B + 42) 8 (w32 (T 1878 + 1))) Q' = Q' (bI (tAs T d p (T (1814 + 4 * tEnt T d p + 2)) r = false)) (gS μ (B + 42) 8 (w32 (T 1878 + 1))) := fun Q' => by
    rw [k_staleFor h1 (by rw [tMor_ne (by omega)]; exact hk), tMor_ne (by omega), tMor_ne (by omega), tMor_ne (by omega), s1, s2, as1]
  have fF : tLkF T d p r = T (1814 + 4 * tEnt T d p + 2) := if_pos hh
  have uT : tLkT T (X 178 0) d p r = if tAs T d p (T (1814 + 4 * tEnt T d p + 2)) r = true then tLkH T d p r else tMor (tLkH T d p r) 1880 := if_pos hh
  have lat : ∀ (T1 : Int → Int) (μ1 : gM), rSt B X T1 μ1 → (∀ j, 1813 ≤ j → j ≤ 1877 → T1 j = T j) → ∃ μ', gFr B (B + 50) μ1 μ' ∧ rSt B X (tCch (tDrop T1 (tEnt T d p)) d p (T (1814 + 4 * tEnt T d p + 2)) (T (1814 + 4 * tEnt T d p + 3))) μ' ∧ ∀ Q : Int → gM → Prop, gE 142 0 [gO 0 (B + 32), gI (tEnt T d p), gX, gX, gX, gX] [] μ1 Q = Q 0 μ' := by
    intro T1 μ1 h1 hT
    have t13 := hT 1813 (by omega) (by omega)
    have en : tEnt T1 d p = tEnt T d p := by
      unfold tEnt
      rw [t13]
      exact findF_congr _ _ (fun i i0 i1 => by rw [hT _ (by omega) (by omega), hT _ (by omega) (by omega)])
    obtain ⟨μ2, f2, r2, run2⟩ := k_CmakeLatest (d := d) (p := p) h1.2.2.2.2.1 (by rw [en]; exact he)
    rw [en, hT _ (by omega) (by omega), hT _ (by omega) (by omega)] at r2
    rw [en] at run2
    have d13 : tDrop T1 (tEnt T d p) 1813 = T1 1813 - 1 := tDrop_1813
    refine ⟨μ2, gFr_mono f2 (by omega) (by omega), ⟨rTr_fr hI h1.1 f2 (by omega), rTb_fr h1.2.1 f2 (by omega) (fun j hj => by rw [tCch_lo (by omega) (by omega), tDrop_lo (by omega) he (by omega)]), rFr_fr h1.2.2.1 f2 (by omega) (fun j hj => by rw [tCch_lo (by omega) (by omega), tDrop_lo (by omega) he (by omega)]), rQu_fr h1.2.2.2.1 f2 (by omega) (fun j j1 j2 => by rw [tCch_lo (by omega) (by omega), tDrop_lo (by omega) he (by omega)]), r2, rRq_fr h1.2.2.2.2.2.1 f2 (by omega) (fun j j1 j2 => by rw [tCch_lo (by omega) (by omega), tDrop_lo (by omega) he (by omega)]), rLg_fr h1.2.2.2.2.2.2.1 f2 (by omega) (fun j hj => by rw [tCch_lo (by omega) (by omega), tDrop_lo (by omega) he (by omega)]), rDm_fr hI h1.2.2.2.2.2.2.2 f2 (by omega) (fun j j1 j2 => by rw [tCch_lo (by omega) (by omega), tDrop_lo (by omega) he (by omega)])⟩, run2⟩
  have fr1 : gFr B (B + 50) μ (gS μ (B + 42) 8 (w32 (T 1878 + 1))) := gFr_gS gFr_refl (by omega) (by omega)
  have b31 : gS μ (B + 42) 8 (w32 (T 1878 + 1)) (B + 32 + 3) (tEnt T d p) = T (1814 + 4 * tEnt T d p + 2) := by rw [gS_neK (by omega)]; exact b3
  have com : ∀ j, tMor (tCch (tDrop T (tEnt T d p)) d p (T (1814 + 4 * tEnt T d p + 2)) (T (1814 + 4 * tEnt T d p + 3))) 1878 j = tCch (tDrop (tMor T 1878) (tEnt T d p)) d p (T (1814 + 4 * tEnt T d p + 2)) (T (1814 + 4 * tEnt T d p + 3)) j := by
    intro j
    have d13 : tDrop T (tEnt T d p) 1813 = T 1813 - 1 := tDrop_1813
    have d13' : tDrop (tMor T 1878) (tEnt T d p) 1813 = T 1813 - 1 := by rw [tDrop_1813, tMor_ne (by omega)]
    have m13 : tMor T 1878 1813 = T 1813 := tMor_ne (by omega)
    have dr : ∀ i, i ≠ 1878 → tDrop (tMor T 1878) (tEnt T d p) i = tDrop T (tEnt T d p) i := fun i hi => by
      unfold tDrop
      rw [m13]
      by_cases y : i = 1813
      · rw [y, tS_same, tS_same]
      · rw [tS_ne y, tS_ne y]
        unfold tShL
        split
        · exact tMor_ne (by omega)
        · exact tMor_ne hi
    by_cases z : j = 1878
    · rw [z, tCch_lo (by omega) (by omega), tDrop_lo (by omega) he (by omega)]
      unfold tMor
      rw [tS_same, tS_same, tCch_lo (by omega) (by omega), tDrop_lo (by omega) he (by omega)]
    · rw [tMor_ne z]
      unfold tCch
      rw [d13, d13']
      unfold tS
      simp only [dr j z]
  have comf : tMor (tCch (tDrop T (tEnt T d p)) d p (T (1814 + 4 * tEnt T d p + 2)) (T (1814 + 4 * tEnt T d p + 3))) 1878 = tCch (tDrop (tMor T 1878) (tEnt T d p)) d p (T (1814 + 4 * tEnt T d p + 2)) (T (1814 + 4 * tEnt T d p + 3)) := funext com
  cases q : tAs T d p (T (1814 + 4 * tEnt T d p + 2)) r with
  | true =>
    obtain ⟨μ2, f2, r2, run2⟩ := lat _ _ h1 (fun j j0 j1 => tMor_ne (by omega))
    rw [q] at sf
    have sf' : ∀ Q' : Int → gM → Prop, gE 194 0 [gO 6 B, gI (tEnt T d p), gI r, gX, gX] [] (gS μ (B + 42) 8 (w32 (T 1878 + 1))) Q' = Q' 0 (gS μ (B + 42) 8 (w32 (T 1878 + 1))) := fun Q' => by rw [sf, bI_f (by simp)]
    rw [uT, q, if_pos rfl, fF]
    refine ⟨μ2, gFr_trans fr1 f2, by unfold tLkH; rw [comf]; exact r2, fun Q => ?_⟩
    simp (disch := first | assumption | omega) only [e193_0, e193_1, e193_4, e193_5, e193_8, e193_9, e193_10, e193_13, e193_14, e193_15, e193_16, e193_19, e193_22, e193_23, e193_26, e193_27, e193_30, e193_31, e193_32, e193_35, e193_36, e193_39, e193_42, e193_43, e193_46, e193_47, e193_48, e193_51, e193_52, e193_55, e193_56, gK0_eq, gK1_eq, gK3_eq, w32_id, bI_eq0, bI_eq1, Bool.false_eq_true, not_true_eq_false, not_false_eq_true, ne_eq, ite_not, ↓reduceIte, if_true, if_false, Int.reduceToNat, Nat.reduceAdd, Int.reduceEq, Int.reduceLT, Int.reduceLE, Int.reduceNeg, bI_T, bI_F, ↓if_pos, ↓if_neg, g8, sf', s_at, atv_in, b31, run2]
  | false =>
    have g10 := h1.2.2.2.2.2.2.1.2.2.1.2.2.2.2
    have rl2 := rLg_cnt (c := 10) (j := 1880) h1.2.2.2.2.2.2.1 (Or.inr (Or.inr ⟨rfl, rfl⟩))
    have h2 : rSt B X (tMor (tMor T 1878) 1880) (gS (gS μ (B + 42) 8 (w32 (T 1878 + 1))) (B + 42) 10 (w32 (tMor T 1878 1880 + 1))) := by
      have f : gFr (B + 42) (B + 49) (gS μ (B + 42) 8 (w32 (T 1878 + 1))) (gS (gS μ (B + 42) 8 (w32 (T 1878 + 1))) (B + 42) 10 (w32 (tMor T 1878 1880 + 1))) := gFr_gS gFr_refl (by omega) (by omega)
      exact ⟨rTr_fr hI h1.1 f (by omega), rTb_fr h1.2.1 f (by omega) (fun j hj => by exact tMor_ne (by omega)), rFr_fr h1.2.2.1 f (by omega) (fun j hj => by exact tMor_ne (by omega)), rQu_fr h1.2.2.2.1 f (by omega) (fun j j1 j2 => by exact tMor_ne (by omega)), rCa_fr h1.2.2.2.2.1 f (by omega) (fun j j1 j2 => by exact tMor_ne (by omega)), rRq_fr h1.2.2.2.2.2.1 f (by omega) (fun j j1 j2 => by exact tMor_ne (by omega)), rl2, rDm_fr hI h1.2.2.2.2.2.2.2 f (by omega) (fun j j1 j2 => by exact tMor_ne (by omega))⟩
    obtain ⟨μ2, f2, r2, run2⟩ := lat _ _ h2 (fun j j0 j1 => by rw [tMor_ne (by omega), tMor_ne (by omega)])
    have fr2 : gFr B (B + 50) μ (gS (gS μ (B + 42) 8 (w32 (T 1878 + 1))) (B + 42) 10 (w32 (tMor T 1878 1880 + 1))) := gFr_gS fr1 (by omega) (by omega)
    rw [q] at sf
    have sf' : ∀ Q' : Int → gM → Prop, gE 194 0 [gO 6 B, gI (tEnt T d p), gI r, gX, gX] [] (gS μ (B + 42) 8 (w32 (T 1878 + 1))) Q' = Q' 1 (gS μ (B + 42) 8 (w32 (T 1878 + 1))) := fun Q' => by rw [sf, bI_t rfl]
    have b32 : gS (gS μ (B + 42) 8 (w32 (T 1878 + 1))) (B + 42) 10 (w32 (tMor T 1878 1880 + 1)) (B + 32 + 3) (tEnt T d p) = T (1814 + 4 * tEnt T d p + 2) := by rw [gS_neK (by omega)]; exact b31
    have m13 : tMor (tMor T 1878) 1880 1813 = T 1813 := by rw [tMor_ne (by omega), tMor_ne (by omega)]
    have com2 : tMor (tLkH T d p r) 1880 = tCch (tDrop (tMor (tMor T 1878) 1880) (tEnt T d p)) d p (T (1814 + 4 * tEnt T d p + 2)) (T (1814 + 4 * tEnt T d p + 3)) := by
      unfold tLkH
      rw [comf]
      funext j
      have d13 : tDrop (tMor T 1878) (tEnt T d p) 1813 = T 1813 - 1 := by rw [tDrop_1813, tMor_ne (by omega)]
      have d13' : tDrop (tMor (tMor T 1878) 1880) (tEnt T d p) 1813 = T 1813 - 1 := by rw [tDrop_1813, m13]
      have mm : tMor T 1878 1813 = T 1813 := tMor_ne (by omega)
      have dr : ∀ i, i ≠ 1880 → tDrop (tMor (tMor T 1878) 1880) (tEnt T d p) i = tDrop (tMor T 1878) (tEnt T d p) i := fun i hi => by
        unfold tDrop
        rw [m13, mm]
        by_cases y : i = 1813
        · rw [y, tS_same, tS_same]
        · rw [tS_ne y, tS_ne y]
          unfold tShL
          split
          · exact tMor_ne (by omega)
          · exact tMor_ne hi
      by_cases z : j = 1880
      · rw [z, tCch_lo (by omega) (by omega), tDrop_lo (by omega) he (by omega)]
        unfold tMor
        rw [tS_same, tS_same]
        have := tCch_lo (T := tDrop (tMor T 1878) (tEnt T d p)) (d := d) (p := p) (f := T (1814 + 4 * tEnt T d p + 2)) (r := T (1814 + 4 * tEnt T d p + 3)) (j := 1880) (by omega) (by omega)
        rw [tDrop_lo (by omega) he (by omega)] at this
        unfold tMor at this
        rw [this]
      · rw [tMor_ne z]
        unfold tCch
        rw [d13, d13']
        unfold tS
        simp only [dr j z]
    rw [uT, q, if_neg (c := false = true) Bool.noConfusion, fF]
    refine ⟨μ2, gFr_trans fr2 f2, by rw [com2]; exact r2, fun Q => ?_⟩
    simp (disch := first | assumption | omega) only [e193_0, e193_1, e193_4, e193_5, e193_8, e193_9, e193_10, e193_13, e193_14, e193_15, e193_16, e193_19, e193_22, e193_23, e193_26, e193_27, e193_30, e193_31, e193_32, e193_35, e193_36, e193_39, e193_42, e193_43, e193_46, e193_47, e193_48, e193_51, e193_52, e193_55, e193_56, gK0_eq, gK1_eq, gK3_eq, w32_id, bI_eq0, bI_eq1, Bool.false_eq_true, not_true_eq_false, not_false_eq_true, ne_eq, ite_not, ↓reduceIte, if_true, if_false, Int.reduceToNat, Nat.reduceAdd, Int.reduceEq, Int.reduceLT, Int.reduceLE, Int.reduceNeg, bI_T, bI_F, ↓if_pos, ↓if_neg, g8, sf', g10, s_at, atv_in, b32, run2]
theorem k_look_none {p r : Int} : gE 192 0 [gO 6 B, gI (-1), gI p, gI r, gX, gX] [] μ Q = Q (-1) μ := by
  simp (disch := first | assumption | omega) only [e192_0, e192_1, e192_2, e192_5, e192_6, e192_7, e192_8, e192_11, e192_12, e192_13, e192_14, e192_17, e192_19, e192_21, e192_22, e192_25, e192_26, e192_28, e192_29, e192_32, e192_33, e192_34, e192_37, e192_38, e192_41, e192_42, e192_43, e192_46, e192_47, e192_50, e192_51, e192_52, e192_55, e192_56, e192_57, e192_60, e192_61, e192_62, e192_63, e192_66, e192_67, e192_68, e192_71, e192_73, e192_74, e192_77, e192_78, e192_79, e192_81, e192_82, e192_85, e192_86, e192_87, e192_90, e192_91, e192_94, e192_97, e192_100, e192_102, gK0_eq, gK1_eq, gK3_eq, w32_id, bI_eq0, bI_eq1, Bool.false_eq_true, not_true_eq_false, not_false_eq_true, ne_eq, ite_not, ↓reduceIte, if_true, if_false, Int.reduceToNat, Nat.reduceAdd, Int.reduceEq, Int.reduceLT, Int.reduceLE, Int.reduceNeg, bI_T, bI_F, ↓if_pos, ↓if_neg]
theorem k_look {d p r : Int} (hI : gIX X) (h : rSt B X T μ) (hd : 0 ≤ d ∧ d < 4) (hp : 0 ≤ p ∧ p < 64) : ∃ μ', gFr B (B + 50) μ μ' ∧ rSt B X (tLkT T (X 178 0) d p r) μ' ∧ ∀ Q : Int → gM → Prop, gE 192 0 [gO 6 B, gI d, gI p, gI r, gX, gX] [] μ Q = Q (tLkF T d p r) μ' := by
  have hC := h.2.2.2.2.1.1.1
  have hr16 := h.2.2.2.2.1.1.2.2
  have hr1 := h.2.2.2.2.1.1.2.1
  have h16 : T 1813 ≤ 16 := by have := hC.2.1; omega
  have dn : ¬ d = -1 := by omega
  have en := tEnt_lt (T := T) (d := d) (p := p) hC.1
  cases hh : tHit T d p r with
  | true =>
    have he := tHit_ent hh
    have e1 : ¬ tEnt T d p = -1 := by omega
    have cf : ∀ Q' : Int → gM → Prop, gE 141 0 [gO 0 (B + 32), gI d, gI p, gI r, gX] [] μ Q' = Q' (tEnt T d p) μ := fun Q' => by rw [k_CentryFor h.2.2.2.2.1, hh, if_pos rfl]
    obtain ⟨μ1, f1, r1, run1⟩ := k_hit hI h hh
    refine ⟨μ1, f1, r1, fun Q => ?_⟩
    simp (disch := first | assumption | omega) only [e192_0, e192_1, e192_2, e192_5, e192_6, e192_7, e192_8, e192_11, e192_12, e192_13, e192_14, e192_17, e192_19, e192_21, e192_22, e192_25, e192_26, e192_28, e192_29, e192_32, e192_33, e192_34, e192_37, e192_38, e192_41, e192_42, e192_43, e192_46, e192_47, e192_50, e192_51, e192_52, e192_55, e192_56, e192_57, e192_60, e192_61, e192_62, e192_63, e192_66, e192_67, e192_68, e192_71, e192_73, e192_74, e192_77, e192_78, e192_79, e192_81, e192_82, e192_85, e192_86, e192_87, e192_90, e192_91, e192_94, e192_97, e192_100, e192_102, gK0_eq, gK1_eq, gK3_eq, w32_id, bI_eq0, bI_eq1, Bool.false_eq_true, not_true_eq_false, not_false_eq_true, ne_eq, ite_not, ↓reduceIte, if_true, if_false, Int.reduceToNat, Nat.reduceAdd, Int.reduceEq, Int.reduceLT, Int.reduceLE, Int.reduceNeg, bI_T, bI_F, ↓if_pos, ↓if_neg, dn, cf, e1, run1]
  | false =>
    have cf : ∀ Q' : Int → gM → Prop, gE 141 0 [gO 0 (B + 32), gI d, gI p, gI r, gX] [] μ Q' = Q' (-1) μ := fun Q' => by rw [k_CentryFor h.2.2.2.2.1, hh, if_neg (c := false = true) Bool.noConfusion]
    have g9 := h.2.2.2.2.2.2.1.2.2.1.2.2.2.1
    have rl1 := rLg_cnt (c := 9) (j := 1879) h.2.2.2.2.2.2.1 (Or.inr (Or.inl ⟨rfl, rfl⟩))
    have f1 : gFr (B + 42) (B + 49) μ (gS μ (B + 42) 9 (w32 (T 1879 + 1))) := gFr_gS gFr_refl (by omega) (by omega)
    have h1 : rSt B X (tMor T 1879) (gS μ (B + 42) 9 (w32 (T 1879 + 1))) := ⟨rTr_fr hI h.1 f1 (by omega), rTb_fr h.2.1 f1 (by omega) (fun j hj => by exact tMor_ne (by omega)), rFr_fr h.2.2.1 f1 (by omega) (fun j hj => by exact tMor_ne (by omega)), rQu_fr h.2.2.2.1 f1 (by omega) (fun j j1 j2 => by exact tMor_ne (by omega)), rCa_fr h.2.2.2.2.1 f1 (by omega) (fun j j1 j2 => by exact tMor_ne (by omega)), rRq_fr h.2.2.2.2.2.1 f1 (by omega) (fun j j1 j2 => by exact tMor_ne (by omega)), rl1, rDm_fr hI h.2.2.2.2.2.2.2 f1 (by omega) (fun j j1 j2 => by exact tMor_ne (by omega))⟩
    have a4 : T (256 + 64 * d + p) = T (256 + (64 * d + p)) := by rw [Int.add_assoc]
    have lo : ∀ j, j < 1813 → tMor T 1879 j = T j := fun j hj => tMor_ne (by omega)
    have rg : tRg (tMor T 1879) d p = tRg T d p := by unfold tRg; rw [lo _ (by omega), lo _ (by omega)]
    have uT : tLkT T (X 178 0) d p r = if tWok T d p r = true then tCch (tLkV (tMor T 1879) (X 178 0) d p) d p (T (64 * d + p)) (T (256 + 64 * d + p)) else tMor T 1879 := if_neg (by rw [hh]; exact Bool.noConfusion)
    have uF : tLkF T d p r = if tWok T d p r = true then T (64 * d + p) else -1 := if_neg (by rw [hh]; exact Bool.noConfusion)
    rw [uT, uF]
    cases hw : tWok T d p r with
    | false =>
      have z : iand32 (tRg T d p) r = 0 := by
        unfold tRg
        unfold tWok tMp at hw
        by_cases c : T (64 * d + p) < 0
        · rw [if_pos c]
          exact bt_ext in32_and (by unfold in32; omega) (fun k hk => by rw [bt_and, bt_zero, Bool.false_and])
        · rw [if_neg c]
          rw [decide_eq_true (show 0 ≤ T (64 * d + p) by omega), Bool.true_and, decide_eq_false_iff_not, a4] at hw
          exact Classical.not_not.mp hw
      rw [if_neg (c := false = true) Bool.noConfusion, if_neg (c := false = true) Bool.noConfusion]
      refine ⟨_, gFr_mono f1 (by omega) (by omega), h1, fun Q => ?_⟩
      simp (disch := first | assumption | omega) only [e192_0, e192_1, e192_2, e192_5, e192_6, e192_7, e192_8, e192_11, e192_12, e192_13, e192_14, e192_17, e192_19, e192_21, e192_22, e192_25, e192_26, e192_28, e192_29, e192_32, e192_33, e192_34, e192_37, e192_38, e192_41, e192_42, e192_43, e192_46, e192_47, e192_50, e192_51, e192_52, e192_55, e192_56, e192_57, e192_60, e192_61, e192_62, e192_63, e192_66, e192_67, e192_68, e192_71, e192_73, e192_74, e192_77, e192_78, e192_79, e192_81, e192_82, e192_85, e192_86, e192_87, e192_90, e192_91, e192_94, e192_97, e192_100, e192_102, gK0_eq, gK1_eq, gK3_eq, w32_id, bI_eq0, bI_eq1, Bool.false_eq_true, not_true_eq_false, not_false_eq_true, ne_eq, ite_not, ↓reduceIte, if_true, if_false, Int.reduceToNat, Nat.reduceAdd, Int.reduceEq, Int.reduceLT, Int.reduceLE, Int.reduceNeg, bI_T, bI_F, ↓if_pos, ↓if_neg, dn, cf, g9, k_rightsOf h1.2.1 hd hp, rg, z]
    | true =>
      have hw' := hw
      unfold tWok tMp at hw'
      rw [Bool.and_eq_true, decide_eq_true_eq, decide_eq_true_eq, a4] at hw'
      have z1 : tRg T d p = T (256 + (64 * d + p)) := if_neg (by omega)
      have z : ¬ iand32 (T (256 + (64 * d + p))) r = 0 := hw'.2
      obtain ⟨-, fr, -, -, -, -, -, rr⟩ := h.2.1.2.2.2 (64 * d + p) (by omega) (by omega)
      have rr := (rr hw'.1).2.1
      have room : gS μ (B + 42) 9 (w32 (T 1879 + 1)) (B + 1) 15 = X 178 0 := by rw [gS_neK (by omega)]; exact h.1.1.1.2.2.2.2.1
      obtain ⟨μ2, f2, r2, run2⟩ := k_Center (d := d) (p := p) (f := T (64 * d + p)) (r := T (256 + (64 * d + p))) h1.2.2.2.2.1 hd hp ⟨hw'.1, fr.2⟩ rr
      have t13 : tMor T 1879 1813 = T 1813 := tMor_ne (by omega)
      have hroom := hC.2.1
      have hc0 := hC.1
      have v13 := tLkV_1813 (T := tMor T 1879) (room := X 178 0) (d := d) (p := p) (by rw [t13]; exact ⟨hc0, hroom⟩) ⟨hr1, hr16⟩
      rw [if_pos rfl, if_pos rfl, a4]
      refine ⟨μ2, gFr_trans (gFr_mono f1 (by omega) (by omega)) (gFr_mono f2 (by omega) (by omega)), ⟨rTr_fr hI h1.1 f2 (by omega), rTb_fr h1.2.1 f2 (by omega) (fun j hj => by rw [tCch_lo (by omega) (by omega), tLkV_lo (by omega) (by omega)]), rFr_fr h1.2.2.1 f2 (by omega) (fun j hj => by rw [tCch_lo (by omega) (by omega), tLkV_lo (by omega) (by omega)]), rQu_fr h1.2.2.2.1 f2 (by omega) (fun j j1 j2 => by rw [tCch_lo (by omega) (by omega), tLkV_lo (by omega) (by omega)]), r2, rRq_fr h1.2.2.2.2.2.1 f2 (by omega) (fun j j1 j2 => by rw [tCch_lo (by omega) (by omega), tLkV_lo (by omega) (by omega)]), rLg_fr h1.2.2.2.2.2.2.1 f2 (by omega) (fun j hj => by rw [tCch_lo (by omega) (by omega), tLkV_lo (by omega) (by omega)]), rDm_fr hI h1.2.2.2.2.2.2.2 f2 (by omega) (fun j j1 j2 => by rw [tCch_lo (by omega) (by omega), tLkV_lo (by omega) (by omega)])⟩, fun Q => ?_⟩
      simp (disch := first | assumption | omega) only [e192_0, e192_1, e192_2, e192_5, e192_6, e192_7, e192_8, e192_11, e192_12, e192_13, e192_14, e192_17, e192_19, e192_21, e192_22, e192_25, e192_26, e192_28, e192_29, e192_32, e192_33, e192_34, e192_37, e192_38, e192_41, e192_42, e192_43, e192_46, e192_47, e192_50, e192_51, e192_52, e192_55, e192_56, e192_57, e192_60, e192_61, e192_62, e192_63, e192_66, e192_67, e192_68, e192_71, e192_73, e192_74, e192_77, e192_78, e192_79, e192_81, e192_82, e192_85, e192_86, e192_87, e192_90, e192_91, e192_94, e192_97, e192_100, e192_102, gK0_eq, gK1_eq, gK3_eq, w32_id, bI_eq0, bI_eq1, Bool.false_eq_true, not_true_eq_false, not_false_eq_true, ne_eq, ite_not, ↓reduceIte, if_true, if_false, Int.reduceToNat, Nat.reduceAdd, Int.reduceEq, Int.reduceLT, Int.reduceLE, Int.reduceNeg, bI_T, bI_F, ↓if_pos, ↓if_neg, dn, cf, g9, k_rightsOf h1.2.1 hd hp, rg, z1, z, k_frameOf h1.2.1 hd hp, lo, room, run2]
end LOOKS
