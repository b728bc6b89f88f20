/-! the class: its state: groups, attach -/
section ATTACH
variable {B C : Nat} {X μ μ' : gM} {T T' : Int → Int} {Q : Int → gM → Prop}
theorem k_give_loop {e v : Int} (hI : gIX X) (hT : rTr (B + 1) X μ) (he : 0 ≤ e ∧ e < X 167 12) : ∀ (m : Nat) (k : Int) (μ' : gM), gFr (B + 49) (B + 50) μ μ' → 0 ≤ k → k + m = X 167 12 →
    gE 176 2 [gO 6 B, gI e, gI v, gI k] [] μ' Q = Q 0 (mrow μ' (B + 49) (fun d => if (k ≤ d ∧ d < X 167 12) ∧ X 179 d = X 179 e then v else μ' (B + 49) d)) := by
  have n2 := hI.2.1
  intro m
  induction m with
  | zero =>
    intro k μ' hf k0 k1
    have a2 : μ' (B + 1) 4 = X 167 12 := by rw [hf _ _ (by omega)]; exact hT.1.1.2.1
    have c : X 167 12 ≤ k := by omega
    rw [e176_2, mrow_id (fun j => if_neg (by omega))]
    simp (disch := first | assumption | omega) only [e176_0, e176_1, e176_3, e176_4, e176_7, e176_10, e176_13, e176_14, e176_17, e176_18, e176_19, e176_22, e176_25, e176_26, e176_29, e176_30, e176_31, e176_34, e176_37, e176_40, gK0_eq, gK1_eq, gK3_eq, w32_id, bI_eq0, bI_eq1, Bool.false_eq_true, not_true_eq_false, not_false_eq_true, ne_eq, ite_not, ↓reduceIte, if_true, if_false, Int.reduceToNat, Nat.reduceAdd, Int.reduceEq, Int.reduceLT, Int.reduceLE, Int.reduceNeg, bI_T, bI_F, ↓if_pos, ↓if_neg, a2, c]
  | succ m ih =>
    intro k μ' hf k0 k1
    have a2 : μ' (B + 1) 4 = X 167 12 := by rw [hf _ _ (by omega)]; exact hT.1.1.2.1
    have c : ¬ X 167 12 ≤ k := by omega
    have c8 : k < ((8 : Nat) : Int) := by omega
    have hk : 0 ≤ k ∧ k < X 167 12 := by omega
    have hT' : rTr (B + 1) X μ' := rTr_fr hI hT hf (by omega)
    rw [e176_2]
    by_cases q : X 179 e = X 179 k
    · simp (disch := first | assumption | omega) only [e176_0, e176_1, e176_3, e176_4, e176_7, e176_10, e176_13, e176_14, e176_17, e176_18, e176_19, e176_22, e176_25, e176_26, e176_29, e176_30, e176_31, e176_34, e176_37, e176_40, gK0_eq, gK1_eq, gK3_eq, w32_id, bI_eq0, bI_eq1, Bool.false_eq_true, not_true_eq_false, not_false_eq_true, ne_eq, ite_not, ↓reduceIte, if_true, if_false, Int.reduceToNat, Nat.reduceAdd, Int.reduceEq, Int.reduceLT, Int.reduceLE, Int.reduceNeg, bI_T, bI_F, ↓if_pos, ↓if_neg, a2, c, k_areOne hI hT' he hk, bI_t q, s_put', putv_in]
      rw [ih _ _ (gFr_gS hf (by omega) (by omega)) (by omega) (by omega), gS_mrow, mrow_mrow]
      congr 2
      funext d
      rw [mrow_same]
      by_cases z : d = k
      · rw [z, if_neg (by omega), if_pos rfl, if_pos ⟨by omega, q.symm⟩]
      · rw [if_neg z]
        by_cases w : (k + 1 ≤ d ∧ d < X 167 12) ∧ X 179 d = X 179 e
        · rw [if_pos w, if_pos ⟨by omega, w.2⟩]
        · rw [if_neg w, if_neg (fun v => w ⟨by omega, v.2⟩)]
    · simp (disch := first | assumption | omega) only [e176_0, e176_1, e176_3, e176_4, e176_7, e176_10, e176_13, e176_14, e176_17, e176_18, e176_19, e176_22, e176_25, e176_26, e176_29, e176_30, e176_31, e176_34, e176_37, e176_40, gK0_eq, gK1_eq, gK3_eq, w32_id, bI_eq0, bI_eq1, Bool.false_eq_true, not_true_eq_false, not_false_eq_true, ne_eq, ite_not, ↓reduceIte, if_true, if_false, Int.reduceToNat, Nat.reduceAdd, Int.reduceEq, Int.reduceLT, Int.reduceLE, Int.reduceNeg, bI_T, bI_F, ↓if_pos, ↓if_neg, a2, c, k_areOne hI hT' he hk, bI_f q]
      rw [ih _ _ hf (by omega) (by omega)]
      congr 2
      funext d
      by_cases w : (k + 1 ≤ d ∧ d < X 167 12) ∧ X 179 d = X 179 e
      · rw [if_pos w, if_pos ⟨by omega, w.2⟩]
      · rw [if_neg w, if_neg (fun v => w ⟨by
          have : d ≠ k := fun z => q (by rw [← z]; exact v.2.symm)
          omega, v.2⟩)]
theorem k_giveGroup {e v : Int} (hI : gIX X) (h : rSt B X T μ) (he : 0 ≤ e ∧ e < X 167 12) : ∃ μ', gFr B (B + 50) μ μ' ∧ rSt B X (tS T (1673 + X 179 e) v) μ' ∧ ∀ Q : Int → gM → Prop, gE 176 0 [gO 6 B, gI e, gI v, gX] [] μ Q = Q 0 μ' := by
  have n2 := hI.2.1
  have g := gX8 hI (d := e) (by omega)
  have ff : gFr (B + 49) (B + 50) μ (mrow μ (B + 49) (fun d => if (0 ≤ d ∧ d < X 167 12) ∧ X 179 d = X 179 e then v else μ (B + 49) d)) := gFr_mrow gFr_refl (by omega) (by omega)
  refine ⟨_, gFr_mono ff (by omega) (by omega), ⟨rTr_fr hI h.1 ff (by omega), rTb_fr h.2.1 ff (by omega) (fun j hj => by exact tS_ne (by omega)), rFr_fr h.2.2.1 ff (by omega) (fun j hj => by exact tS_ne (by omega)), rQu_fr h.2.2.2.1 ff (by omega) (fun j j1 j2 => by exact tS_ne (by omega)), rCa_fr h.2.2.2.2.1 ff (by omega) (fun j j1 j2 => by exact tS_ne (by omega)), rRq_fr h.2.2.2.2.2.1 ff (by omega) (fun j j1 j2 => by exact tS_ne (by omega)), rLg_fr h.2.2.2.2.2.2.1 ff (by omega) (fun j hj => by exact tS_ne (by omega)), fun d d0 d1 => ?_⟩, fun Q => ?_⟩
  · have g' := gX8 hI (d := d) ⟨d0, by omega⟩
    rw [mrow_same]
    by_cases c : X 179 d = X 179 e
    · rw [if_pos ⟨⟨d0, d1⟩, c⟩, c, tS_same]
    · rw [if_neg (fun z => c z.2), tS_ne (by omega)]
      exact h.2.2.2.2.2.2.2 d d0 d1
  · simp (disch := first | assumption | omega) only [e176_0, e176_1, e176_3, e176_4, e176_7, e176_10, e176_13, e176_14, e176_17, e176_18, e176_19, e176_22, e176_25, e176_26, e176_29, e176_30, e176_31, e176_34, e176_37, e176_40, gK0_eq, gK1_eq, gK3_eq, w32_id, bI_eq0, bI_eq1, Bool.false_eq_true, not_true_eq_false, not_false_eq_true, ne_eq, ite_not, ↓reduceIte, if_true, if_false, Int.reduceToNat, Nat.reduceAdd, Int.reduceEq, Int.reduceLT, Int.reduceLE, Int.reduceNeg, bI_T, bI_F]
    exact k_give_loop hI h.1 he (X 167 12).toNat 0 μ gFr_refl (by omega) (by omega)
theorem k_groupsOf_loop {g : Int} (hI : gIX X) (h : rSt B X T μ) : ∀ (m : Nat) (k n : Int), 0 ≤ k → k + m = X 167 12 → 0 ≤ n → n ≤ k →
    gE 175 4 [gO 6 B, gI g, gI n, gI k] [] μ Q = Q (n + cntF (fun e => decide (X 179 e = e) && decide (T (1673 + X 179 e) = g)) k m) μ := by
  have n2 := hI.2.1
  have a2 := h.1.1.1.2.1
  intro m
  induction m with
  | zero =>
    intro k n k0 k1 _ _
    have c : X 167 12 ≤ k := by omega
    rw [e175_4]
    simp (disch := first | assumption | omega) only [e175_0, e175_1, e175_2, e175_3, e175_5, e175_6, e175_9, e175_12, e175_15, e175_16, e175_19, e175_20, e175_23, e175_24, e175_27, e175_28, e175_31, e175_34, e175_35, e175_38, e175_39, e175_42, e175_45, e175_48, e175_51, e175_52, gK0_eq, gK1_eq, gK3_eq, w32_id, bI_eq0, bI_eq1, Bool.false_eq_true, not_true_eq_false, not_false_eq_true, ne_eq, ite_not, ↓reduceIte, if_true, if_false, Int.reduceToNat, Nat.reduceAdd, Int.reduceEq, Int.reduceLT, Int.reduceLE, Int.reduceNeg, bI_T, bI_F, ↓if_pos, ↓if_neg, a2, c, cntF, Int.add_zero]
  | succ m ih =>
    intro k n k0 k1 n0 n1
    have c : ¬ X 167 12 ≤ k := by omega
    have c8 : k < ((8 : Nat) : Int) := by omega
    have b1 := h.2.2.2.2.2.2.2 k k0 (by omega)
    have b2 := h.1.2 k k0 (by omega)
    rw [e175_4]
    by_cases q : T (1673 + X 179 k) = g
    · by_cases z : X 179 k = k
      · have q' : T (1673 + k) = g := by rw [z] at q; exact q
        simp (disch := first | assumption | omega) only [e175_0, e175_1, e175_2, e175_3, e175_5, e175_6, e175_9, e175_12, e175_15, e175_16, e175_19, e175_20, e175_23, e175_24, e175_27, e175_28, e175_31, e175_34, e175_35, e175_38, e175_39, e175_42, e175_45, e175_48, e175_51, e175_52, gK0_eq, gK1_eq, gK3_eq, w32_id, bI_eq0, bI_eq1, Bool.false_eq_true, not_true_eq_false, not_false_eq_true, ne_eq, ite_not, ↓reduceIte, if_true, if_false, Int.reduceToNat, Nat.reduceAdd, Int.reduceEq, Int.reduceLT, Int.reduceLE, Int.reduceNeg, bI_T, bI_F, ↓if_pos, ↓if_neg, a2, c, s_at, atv_in, b1, b2, q, q', z]
        rw [ih _ _ (by omega) (by omega) (by omega) (by omega), cntF_t (by rw [decide_eq_true z, decide_eq_true q]; rfl), Int.add_assoc]
      · simp (disch := first | assumption | omega) only [e175_0, e175_1, e175_2, e175_3, e175_5, e175_6, e175_9, e175_12, e175_15, e175_16, e175_19, e175_20, e175_23, e175_24, e175_27, e175_28, e175_31, e175_34, e175_35, e175_38, e175_39, e175_42, e175_45, e175_48, e175_51, e175_52, gK0_eq, gK1_eq, gK3_eq, w32_id, bI_eq0, bI_eq1, Bool.false_eq_true, not_true_eq_false, not_false_eq_true, ne_eq, ite_not, ↓reduceIte, if_true, if_false, Int.reduceToNat, Nat.reduceAdd, Int.reduceEq, Int.reduceLT, Int.reduceLE, Int.reduceNeg, bI_T, bI_F, ↓if_pos, ↓if_neg, a2, c, s_at, atv_in, b1, b2, q, z]
        rw [ih _ _ (by omega) (by omega) (by omega) (by omega), cntF_f (by rw [decide_eq_false z, Bool.false_and])]
    · simp (disch := first | assumption | omega) only [e175_0, e175_1, e175_2, e175_3, e175_5, e175_6, e175_9, e175_12, e175_15, e175_16, e175_19, e175_20, e175_23, e175_24, e175_27, e175_28, e175_31, e175_34, e175_35, e175_38, e175_39, e175_42, e175_45, e175_48, e175_51, e175_52, gK0_eq, gK1_eq, gK3_eq, w32_id, bI_eq0, bI_eq1, Bool.false_eq_true, not_true_eq_false, not_false_eq_true, ne_eq, ite_not, ↓reduceIte, if_true, if_false, Int.reduceToNat, Nat.reduceAdd, Int.reduceEq, Int.reduceLT, Int.reduceLE, Int.reduceNeg, bI_T, bI_F, ↓if_pos, ↓if_neg, a2, c, s_at, atv_in, b1, b2, q]
      rw [ih _ _ (by omega) (by omega) (by omega) (by omega), cntF_f (by rw [decide_eq_false q, Bool.and_false])]
theorem k_groupsOf {g : Int} (hI : gIX X) (h : rSt B X T μ) : gE 175 0 [gO 6 B, gI g, gX, gX] [] μ Q = Q (tDoG X T g) μ := by
  have n2 := hI.2.1
  simp (disch := first | assumption | omega) only [e175_0, e175_1, e175_2, e175_3, e175_5, e175_6, e175_9, e175_12, e175_15, e175_16, e175_19, e175_20, e175_23, e175_24, e175_27, e175_28, e175_31, e175_34, e175_35, e175_38, e175_39, e175_42, e175_45, e175_48, e175_51, e175_52, gK0_eq, gK1_eq, gK3_eq, w32_id, bI_eq0, bI_eq1, Bool.false_eq_true, not_true_eq_false, not_false_eq_true, ne_eq, ite_not, ↓reduceIte, if_true, if_false, Int.reduceToNat, Nat.reduceAdd, Int.reduceEq, Int.reduceLT, Int.reduceLE, Int.reduceNeg, bI_T, bI_F]
  rw [k_groupsOf_loop hI h (X 167 12).toNat 0 0 (by omega) (by omega) (by omega) (by omega), Int.zero_add]
  rfl
theorem k_whyNot {d p : Int} (h : rSt B X T μ) (hd : 0 ≤ d ∧ d < 4) (hp : 0 ≤ p ∧ p < 64) : gE 186 0 [gO 6 B, gI d, gI p, gX] [] μ Q = Q (hP T d p) μ := by
  unfold hP
  cases hm : tMp T d p with
  | false =>
    rw [if_neg (c := false = true) Bool.noConfusion]
    by_cases c : tState T p = 2
    · simp (disch := first | assumption | omega) only [e186_0, e186_1, e186_4, e186_5, e186_6, e186_9, e186_12, e186_13, e186_16, e186_17, e186_18, e186_21, e186_24, e186_25, e186_28, e186_29, e186_30, e186_33, e186_34, e186_37, e186_38, e186_41, e186_42, e186_43, e186_46, e186_47, e186_50, e186_51, e186_54, e186_55, e186_56, e186_57, e186_60, e186_61, e186_64, e186_65, e186_66, e186_67, e186_70, e186_71, e186_74, e186_75, e186_78, e186_79, e186_82, e186_83, gK0_eq, gK1_eq, gK3_eq, w32_id, bI_eq0, bI_eq1, Bool.false_eq_true, not_true_eq_false, not_false_eq_true, ne_eq, ite_not, ↓reduceIte, if_true, if_false, Int.reduceToNat, Nat.reduceAdd, Int.reduceEq, Int.reduceLT, Int.reduceLE, Int.reduceNeg, bI_T, bI_F, ↓if_pos, ↓if_neg, k_isMapped h.2.1 hd hp, hm, k_stateOf h.2.2.1 hp, c]
    · simp (disch := first | assumption | omega) only [e186_0, e186_1, e186_4, e186_5, e186_6, e186_9, e186_12, e186_13, e186_16, e186_17, e186_18, e186_21, e186_24, e186_25, e186_28, e186_29, e186_30, e186_33, e186_34, e186_37, e186_38, e186_41, e186_42, e186_43, e186_46, e186_47, e186_50, e186_51, e186_54, e186_55, e186_56, e186_57, e186_60, e186_61, e186_64, e186_65, e186_66, e186_67, e186_70, e186_71, e186_74, e186_75, e186_78, e186_79, e186_82, e186_83, gK0_eq, gK1_eq, gK3_eq, w32_id, bI_eq0, bI_eq1, Bool.false_eq_true, not_true_eq_false, not_false_eq_true, ne_eq, ite_not, ↓reduceIte, if_true, if_false, Int.reduceToNat, Nat.reduceAdd, Int.reduceEq, Int.reduceLT, Int.reduceLE, Int.reduceNeg, bI_T, bI_F, ↓if_pos, ↓if_neg, k_isMapped h.2.1 hd hp, hm, k_stateOf h.2.2.1 hp, c]
  | true =>
    have hm0 : ¬ T (64 * d + p) < 0 := by unfold tMp at hm; rw [decide_eq_true_eq] at hm; omega
    have e : tRg T d p = T (256 + (64 * d + p)) := if_neg hm0
    rw [if_pos rfl]
    by_cases c1 : T (512 + (64 * d + p)) = 1
    · by_cases c2 : T (64 * d + p) = p
      · by_cases c3 : T (256 + (64 * d + p)) = 3
        · rw [if_pos ⟨c2, c3, c1⟩]
          simp (disch := first | assumption | omega) only [e186_0, e186_1, e186_4, e186_5, e186_6, e186_9, e186_12, e186_13, e186_16, e186_17, e186_18, e186_21, e186_24, e186_25, e186_28, e186_29, e186_30, e186_33, e186_34, e186_37, e186_38, e186_41, e186_42, e186_43, e186_46, e186_47, e186_50, e186_51, e186_54, e186_55, e186_56, e186_57, e186_60, e186_61, e186_64, e186_65, e186_66, e186_67, e186_70, e186_71, e186_74, e186_75, e186_78, e186_79, e186_82, e186_83, gK0_eq, gK1_eq, gK3_eq, w32_id, bI_eq0, bI_eq1, Bool.false_eq_true, not_true_eq_false, not_false_eq_true, ne_eq, ite_not, ↓reduceIte, if_true, if_false, Int.reduceToNat, Nat.reduceAdd, Int.reduceEq, Int.reduceLT, Int.reduceLE, Int.reduceNeg, bI_T, bI_F, ↓if_pos, ↓if_neg, k_isMapped h.2.1 hd hp, hm, k_isReserved h.2.1 hd hp, bI_t c1, k_frameOf h.2.1 hd hp, c2, k_rightsOf h.2.1 hd hp, e, c3]
        · rw [if_neg (fun z => c3 z.2.1)]
          simp (disch := first | assumption | omega) only [e186_0, e186_1, e186_4, e186_5, e186_6, e186_9, e186_12, e186_13, e186_16, e186_17, e186_18, e186_21, e186_24, e186_25, e186_28, e186_29, e186_30, e186_33, e186_34, e186_37, e186_38, e186_41, e186_42, e186_43, e186_46, e186_47, e186_50, e186_51, e186_54, e186_55, e186_56, e186_57, e186_60, e186_61, e186_64, e186_65, e186_66, e186_67, e186_70, e186_71, e186_74, e186_75, e186_78, e186_79, e186_82, e186_83, gK0_eq, gK1_eq, gK3_eq, w32_id, bI_eq0, bI_eq1, Bool.false_eq_true, not_true_eq_false, not_false_eq_true, ne_eq, ite_not, ↓reduceIte, if_true, if_false, Int.reduceToNat, Nat.reduceAdd, Int.reduceEq, Int.reduceLT, Int.reduceLE, Int.reduceNeg, bI_T, bI_F, ↓if_pos, ↓if_neg, k_isMapped h.2.1 hd hp, hm, k_isReserved h.2.1 hd hp, bI_t c1, k_frameOf h.2.1 hd hp, c2, k_rightsOf h.2.1 hd hp, e, c3]
      · rw [if_neg (fun z => c2 z.1)]
        simp (disch := first | assumption | omega) only [e186_0, e186_1, e186_4, e186_5, e186_6, e186_9, e186_12, e186_13, e186_16, e186_17, e186_18, e186_21, e186_24, e186_25, e186_28, e186_29, e186_30, e186_33, e186_34, e186_37, e186_38, e186_41, e186_42, e186_43, e186_46, e186_47, e186_50, e186_51, e186_54, e186_55, e186_56, e186_57, e186_60, e186_61, e186_64, e186_65, e186_66, e186_67, e186_70, e186_71, e186_74, e186_75, e186_78, e186_79, e186_82, e186_83, gK0_eq, gK1_eq, gK3_eq, w32_id, bI_eq0, bI_eq1, Bool.false_eq_true, not_true_eq_false, not_false_eq_true, ne_eq, ite_not, ↓reduceIte, if_true, if_false, Int.reduceToNat, Nat.reduceAdd, Int.reduceEq, Int.reduceLT, Int.reduceLE, Int.reduceNeg, bI_T, bI_F, ↓if_pos, ↓if_neg, k_isMapped h.2.1 hd hp, hm, k_isReserved h.2.1 hd hp, bI_t c1, k_frameOf h.2.1 hd hp, c2]
    · rw [if_neg (fun z => c1 z.2.2)]
      simp (disch := first | assumption | omega) only [e186_0, e186_1, e186_4, e186_5, e186_6, e186_9, e186_12, e186_13, e186_16, e186_17, e186_18, e186_21, e186_24, e186_25, e186_28, e186_29, e186_30, e186_33, e186_34, e186_37, e186_38, e186_41, e186_42, e186_43, e186_46, e186_47, e186_50, e186_51, e186_54, e186_55, e186_56, e186_57, e186_60, e186_61, e186_64, e186_65, e186_66, e186_67, e186_70, e186_71, e186_74, e186_75, e186_78, e186_79, e186_82, e186_83, gK0_eq, gK1_eq, gK3_eq, w32_id, bI_eq0, bI_eq1, Bool.false_eq_true, not_true_eq_false, not_false_eq_true, ne_eq, ite_not, ↓reduceIte, if_true, if_false, Int.reduceToNat, Nat.reduceAdd, Int.reduceEq, Int.reduceLT, Int.reduceLE, Int.reduceNeg, bI_T, bI_F, ↓if_pos, ↓if_neg, k_isMapped h.2.1 hd hp, hm, k_isReserved h.2.1 hd hp, bI_f c1]
def tHi3 (T : Int → Int) (d e m p : Int) : Int → Int := tBec (tBec (tBec (tS T 1918 0) 5 e) 4 m) (hP T d p) p
theorem tHi3_lo {d e m p j : Int} (h : j < 1918 ∨ 1927 ≤ j) : tHi3 T d e m p j = T j := by
  have z : tS T 1918 0 1918 = 0 := tS_same
  have z1 : tBec (tS T 1918 0) 5 e 1918 = 1 := by rw [tBec_1918, z]; rfl
  have z2 : tBec (tBec (tS T 1918 0) 5 e) 4 m 1918 = 2 := by rw [tBec_1918, z1]; rfl
  unfold tHi3
  rw [tBec_lo h (by omega), tBec_lo h (by omega), tBec_lo h (by omega), tS_ne (by omega)]
/-- three causes told -/
theorem k_three {d e m p : Int} (hI : gIX X) (h : rSt B X T μ) : ∃ μ1 μ2 μ3, gFr B (B + 50) μ μ3 ∧ rSt B X (tHi3 T d e m p) μ3 ∧ (∀ Q : Int → gM → Prop, gE 165 0 [gO 2 (B + 42), gI 5, gI e] [] μ Q = Q (-2) μ1) ∧ (∀ Q : Int → gM → Prop, gE 166 0 [gO 2 (B + 42), gI 4, gI m] [] μ1 Q = Q (-2) μ2) ∧ (∀ Q : Int → gM → Prop, gE 166 0 [gO 2 (B + 42), gI (hP T d p), gI p] [] μ2 Q = Q (-2) μ3) := by
  obtain ⟨μ1, f1, r1, run1⟩ := k_refuse (c := 5) (a := e) h.2.2.2.2.2.2.1
  have z : tS T 1918 0 1918 = 0 := tS_same
  have z1 : tRef T 5 e 1918 = 1 := by unfold tRef; rw [tBec_1918, z]; rfl
  obtain ⟨μ2, f2, r2, run2⟩ := k_because (c := 4) (a := m) r1 (by omega)
  have z2 : tBec (tRef T 5 e) 4 m 1918 = 2 := by rw [tBec_1918, z1]; rfl
  obtain ⟨μ3, f3, r3, run3⟩ := k_because (c := hP T d p) (a := p) r2 (by omega)
  have ff := gFr_trans f1 (gFr_trans f2 f3)
  exact ⟨μ1, μ2, μ3, gFr_mono ff (by omega) (by omega), ⟨rTr_fr hI h.1 ff (by omega), rTb_fr h.2.1 ff (by omega) (fun j hj => by exact tHi3_lo (by omega)), rFr_fr h.2.2.1 ff (by omega) (fun j hj => by exact tHi3_lo (by omega)), rQu_fr h.2.2.2.1 ff (by omega) (fun j j1 j2 => by exact tHi3_lo (by omega)), rCa_fr h.2.2.2.2.1 ff (by omega) (fun j j1 j2 => by exact tHi3_lo (by omega)), rRq_fr h.2.2.2.2.2.1 ff (by omega) (fun j j1 j2 => by exact tHi3_lo (by omega)), r3, rDm_fr hI h.2.2.2.2.2.2.2 ff (by omega) (fun j j1 j2 => by exact tHi3_lo (by omega))⟩, run1, run2, run3⟩
theorem k_can_p {e d m k : Int} (hI : gIX X) (h : rSt B X T μ) (hd : 0 ≤ d ∧ d < 4) (hk : 0 ≤ k ∧ k < X 167 14) : ∀ (n : Nat) (p : Int) (l6 : gv), 0 ≤ p → p + n = 64 →
    (0 ≤ findF (fun p => (decide (X 177 (3 * k + 1) ≤ p) && decide (p ≤ X 177 (3 * k + 2))) && decide (hP T d p ≠ 0)) p n → ∃ μ', gFr B (B + 50) μ μ' ∧ rSt B X (tHi3 T d e m (findF (fun p => (decide (X 177 (3 * k + 1) ≤ p) && decide (p ≤ X 177 (3 * k + 2))) && decide (hP T d p ≠ 0)) p n)) μ' ∧ ∀ Q : Int → gM → Prop, gE 185 37 [gO 6 B, gI e, gI m, gI d, gI k, gI p, l6] [] μ Q = Q 0 μ') ∧
    (findF (fun p => (decide (X 177 (3 * k + 1) ≤ p) && decide (p ≤ X 177 (3 * k + 2))) && decide (hP T d p ≠ 0)) p n < 0 → ∃ l5' l6' : gv, ∀ Q : Int → gM → Prop, gE 185 37 [gO 6 B, gI e, gI m, gI d, gI k, gI p, l6] [] μ Q = gE 185 116 [gO 6 B, gI e, gI m, gI d, gI k, l5', l6'] [] μ Q) := by
  intro n
  induction n with
  | zero =>
    intro p l6 p0 p1
    have c : 64 ≤ p := by omega
    refine ⟨fun z => by rw [findF] at z; omega, fun _ => ⟨gI p, l6, fun Q => ?_⟩⟩
    rw [e185_37]
    simp (disch := first | assumption | omega) only [e185_0, e185_1, e185_3, e185_5, e185_6, e185_9, e185_12, e185_15, e185_16, e185_19, e185_22, e185_24, e185_27, e185_28, e185_31, e185_34, e185_35, e185_39, e185_41, e185_44, e185_45, e185_48, e185_50, e185_52, e185_55, e185_58, e185_59, e185_60, e185_62, e185_65, e185_68, e185_69, e185_71, e185_73, e185_76, e185_77, e185_80, e185_81, e185_82, e185_85, e185_86, e185_87, e185_90, e185_91, e185_92, e185_95, e185_96, e185_97, e185_100, e185_102, e185_104, e185_107, e185_108, e185_109, e185_110, e185_113, e185_119, e185_122, e185_123, gK0_eq, gK1_eq, gK3_eq, w32_id, bI_eq0, bI_eq1, Bool.false_eq_true, not_true_eq_false, not_false_eq_true, ne_eq, ite_not, ↓reduceIte, if_true, if_false, Int.reduceToNat, Nat.reduceAdd, Int.reduceEq, Int.reduceLT, Int.reduceLE, Int.reduceNeg, bI_T, bI_F, ↓if_pos, ↓if_neg, c]
  | succ n ih =>
    intro p l6 p0 p1
    have c : ¬ 64 ≤ p := by omega
    have hp : 0 ≤ p ∧ p < 64 := by omega
    rw [findF]
    by_cases q : X 177 (3 * k + 1) ≤ p ∧ p ≤ X 177 (3 * k + 2)
    · by_cases z : hP T d p = 0
      · have f : ((decide (X 177 (3 * k + 1) ≤ p) && decide (p ≤ X 177 (3 * k + 2))) && decide (hP T d p ≠ 0)) = false := by
          rw [decide_eq_false (show ¬ hP T d p ≠ 0 from fun w => w z), Bool.and_false]
        rw [f, if_neg (c := false = true) Bool.noConfusion]
        obtain ⟨i1, i2⟩ := ih (p + 1) (gI 0) (by omega) (by omega)
        have st : ∀ Q : Int → gM → Prop, gE 185 37 [gO 6 B, gI e, gI m, gI d, gI k, gI p, l6] [] μ Q = gE 185 37 [gO 6 B, gI e, gI m, gI d, gI k, gI (p + 1), gI 0] [] μ Q := fun Q => by
          rw [e185_37]
          simp (disch := first | assumption | omega) only [e185_0, e185_1, e185_3, e185_5, e185_6, e185_9, e185_12, e185_15, e185_16, e185_19, e185_22, e185_24, e185_27, e185_28, e185_31, e185_34, e185_35, e185_39, e185_41, e185_44, e185_45, e185_48, e185_50, e185_52, e185_55, e185_58, e185_59, e185_60, e185_62, e185_65, e185_68, e185_69, e185_71, e185_73, e185_76, e185_77, e185_80, e185_81, e185_82, e185_85, e185_86, e185_87, e185_90, e185_91, e185_92, e185_95, e185_96, e185_97, e185_100, e185_102, e185_104, e185_107, e185_108, e185_109, e185_110, e185_113, e185_119, e185_122, e185_123, gK0_eq, gK1_eq, gK3_eq, w32_id, bI_eq0, bI_eq1, Bool.false_eq_true, not_true_eq_false, not_false_eq_true, ne_eq, ite_not, ↓reduceIte, if_true, if_false, Int.reduceToNat, Nat.reduceAdd, Int.reduceEq, Int.reduceLT, Int.reduceLE, Int.reduceNeg, bI_T, bI_F, ↓if_pos, ↓if_neg, c, k_inSpan hI h.1.1 hk, bI_t q, k_whyNot h hd hp, z]
        exact ⟨fun w => by obtain ⟨μ1, f1, r1, run1⟩ := i1 w; exact ⟨μ1, f1, r1, fun Q => by rw [st Q]; exact run1 Q⟩, fun w => by obtain ⟨a, b, run⟩ := i2 w; exact ⟨a, b, fun Q => by rw [st Q]; exact run Q⟩⟩
      · have f : ((decide (X 177 (3 * k + 1) ≤ p) && decide (p ≤ X 177 (3 * k + 2))) && decide (hP T d p ≠ 0)) = true := by
          rw [decide_eq_true q.1, decide_eq_true q.2, decide_eq_true z]; rfl
        rw [f, if_pos rfl]
        refine ⟨fun _ => ?_, fun w => by omega⟩
        obtain ⟨μ1, μ2, μ3, f3, r3, run1, run2, run3⟩ := k_three (d := d) (e := e) (m := m) (p := p) hI h
        refine ⟨μ3, f3, r3, fun Q => ?_⟩
        rw [e185_37]
        simp (disch := first | assumption | omega) only [e185_0, e185_1, e185_3, e185_5, e185_6, e185_9, e185_12, e185_15, e185_16, e185_19, e185_22, e185_24, e185_27, e185_28, e185_31, e185_34, e185_35, e185_39, e185_41, e185_44, e185_45, e185_48, e185_50, e185_52, e185_55, e185_58, e185_59, e185_60, e185_62, e185_65, e185_68, e185_69, e185_71, e185_73, e185_76, e185_77, e185_80, e185_81, e185_82, e185_85, e185_86, e185_87, e185_90, e185_91, e185_92, e185_95, e185_96, e185_97, e185_100, e185_102, e185_104, e185_107, e185_108, e185_109, e185_110, e185_113, e185_119, e185_122, e185_123, gK0_eq, gK1_eq, gK3_eq, w32_id, bI_eq0, bI_eq1, Bool.false_eq_true, not_true_eq_false, not_false_eq_true, ne_eq, ite_not, ↓reduceIte, if_true, if_false, Int.reduceToNat, Nat.reduceAdd, Int.reduceEq, Int.reduceLT, Int.reduceLE, Int.reduceNeg, bI_T, bI_F, ↓if_pos, ↓if_neg, c, k_inSpan hI h.1.1 hk, bI_t q, k_whyNot h hd hp, z, run1, run2, run3]
    · have f : ((decide (X 177 (3 * k + 1) ≤ p) && decide (p ≤ X 177 (3 * k + 2))) && decide (hP T d p ≠ 0)) = false := by
        by_cases z1 : X 177 (3 * k + 1) ≤ p
        · rw [decide_eq_false (show ¬ p ≤ X 177 (3 * k + 2) from fun w => q ⟨z1, w⟩), Bool.and_false, Bool.false_and]
        · rw [decide_eq_false z1, Bool.false_and, Bool.false_and]
      rw [f, if_neg (c := false = true) Bool.noConfusion]
      obtain ⟨i1, i2⟩ := ih (p + 1) (gI 0) (by omega) (by omega)
      have st : ∀ Q : Int → gM → Prop, gE 185 37 [gO 6 B, gI e, gI m, gI d, gI k, gI p, l6] [] μ Q = gE 185 37 [gO 6 B, gI e, gI m, gI d, gI k, gI (p + 1), gI 0] [] μ Q := fun Q => by
        rw [e185_37]
        simp (disch := first | assumption | omega) only [e185_0, e185_1, e185_3, e185_5, e185_6, e185_9, e185_12, e185_15, e185_16, e185_19, e185_22, e185_24, e185_27, e185_28, e185_31, e185_34, e185_35, e185_39, e185_41, e185_44, e185_45, e185_48, e185_50, e185_52, e185_55, e185_58, e185_59, e185_60, e185_62, e185_65, e185_68, e185_69, e185_71, e185_73, e185_76, e185_77, e185_80, e185_81, e185_82, e185_85, e185_86, e185_87, e185_90, e185_91, e185_92, e185_95, e185_96, e185_97, e185_100, e185_102, e185_104, e185_107, e185_108, e185_109, e185_110, e185_113, e185_119, e185_122, e185_123, gK0_eq, gK1_eq, gK3_eq, w32_id, bI_eq0, bI_eq1, Bool.false_eq_true, not_true_eq_false, not_false_eq_true, ne_eq, ite_not, ↓reduceIte, if_true, if_false, Int.reduceToNat, Nat.reduceAdd, Int.reduceEq, Int.reduceLT, Int.reduceLE, Int.reduceNeg, bI_T, bI_F, ↓if_pos, ↓if_neg, c, k_inSpan hI h.1.1 hk, bI_f q]
      exact ⟨fun w => by obtain ⟨μ1, f1, r1, run1⟩ := i1 w; exact ⟨μ1, f1, r1, fun Q => by rw [st Q]; exact run1 Q⟩, fun w => by obtain ⟨a, b, run⟩ := i2 w; exact ⟨a, b, fun Q => by rw [st Q]; exact run Q⟩⟩
theorem hK_is (hI : gIX X) {d k : Int} (hk : 0 ≤ k ∧ k < X 167 14) : findF (fun p => (decide (X 177 (3 * k + 1) ≤ p) && decide (p ≤ X 177 (3 * k + 2))) && decide (hP T d p ≠ 0)) 0 64 = hK X T d k := by
  obtain ⟨-, -, s1, s2, s3⟩ := hI.2.2.2.2.2.2.2.2.1 k hk.1 hk.2
  unfold hK
  have e : 64 = (X 177 (3 * k + 1)).toNat + (64 - (X 177 (3 * k + 1)).toNat) := by omega
  rcases findF_in (P := fun p => decide (hP T d p ≠ 0)) (X 177 (3 * k + 2) + 1 - X 177 (3 * k + 1)).toNat (X 177 (3 * k + 1)) (by omega) with ⟨h1, h2⟩ | ⟨h1, h2, h3, h4⟩
  · rw [h1]
    refine findF_no _ _ (fun i i0 i1 => ?_)
    by_cases q : X 177 (3 * k + 1) ≤ i ∧ i ≤ X 177 (3 * k + 2)
    · rw [h2 i q.1 (by omega), Bool.and_false]
    · by_cases z1 : X 177 (3 * k + 1) ≤ i
      · rw [decide_eq_false (show ¬ i ≤ X 177 (3 * k + 2) from fun w => q ⟨z1, w⟩), Bool.and_false, Bool.false_and]
      · rw [decide_eq_false z1, Bool.false_and, Bool.false_and]
  · generalize findF (fun p => decide (hP T d p ≠ 0)) (X 177 (3 * k + 1)) (X 177 (3 * k + 2) + 1 - X 177 (3 * k + 1)).toNat = r at *
    refine findF_is _ _ (by omega) (by omega) (by rw [decide_eq_true h1, decide_eq_true (show r ≤ X 177 (3 * k + 2) by omega), h3]; rfl) (fun i i0 i1 => ?_)
    by_cases z1 : X 177 (3 * k + 1) ≤ i
    · rw [h4 i z1 i1, Bool.and_false]
    · rw [decide_eq_false z1, Bool.false_and, Bool.false_and]
theorem k_can_k {e d m : Int} (hI : gIX X) (h : rSt B X T μ) (hd : 0 ≤ d ∧ d < 4) : ∀ (n : Nat) (k : Int) (l5 l6 : gv), 0 ≤ k → k + n = X 167 14 →
    (0 ≤ findF (fun k => decide (X 177 (3 * k) = m) && decide (0 ≤ hK X T d k)) k n → ∃ μ', gFr B (B + 50) μ μ' ∧ rSt B X (tHi3 T d e m (hK X T d (findF (fun k => decide (X 177 (3 * k) = m) && decide (0 ≤ hK X T d k)) k n))) μ' ∧ ∀ Q : Int → gM → Prop, gE 185 3 [gO 6 B, gI e, gI m, gI d, gI k, l5, l6] [] μ Q = Q 0 μ') ∧
    (findF (fun k => decide (X 177 (3 * k) = m) && decide (0 ≤ hK X T d k)) k n < 0 → ∀ Q : Int → gM → Prop, gE 185 3 [gO 6 B, gI e, gI m, gI d, gI k, l5, l6] [] μ Q = Q 1 μ) := by
  have n4 := hI.2.2.2.1
  have a4 := h.1.1.1.2.2.2.1
  intro n
  induction n with
  | zero =>
    intro k l5 l6 k0 k1
    have c : X 167 14 ≤ k := by omega
    refine ⟨fun z => by rw [findF] at z; omega, fun _ Q => ?_⟩
    rw [e185_3]
    simp (disch := first | assumption | omega) only [e185_0, e185_1, e185_5, e185_6, e185_9, e185_12, e185_15, e185_16, e185_19, e185_22, e185_24, e185_27, e185_28, e185_31, e185_34, e185_35, e185_39, e185_41, e185_44, e185_45, e185_48, e185_50, e185_52, e185_55, e185_58, e185_59, e185_60, e185_62, e185_65, e185_68, e185_69, e185_71, e185_73, e185_76, e185_77, e185_80, e185_81, e185_82, e185_85, e185_86, e185_87, e185_90, e185_91, e185_92, e185_95, e185_96, e185_97, e185_100, e185_102, e185_104, e185_107, e185_108, e185_109, e185_110, e185_113, e185_116, e185_119, e185_122, e185_123, gK0_eq, gK1_eq, gK3_eq, w32_id, bI_eq0, bI_eq1, Bool.false_eq_true, not_true_eq_false, not_false_eq_true, ne_eq, ite_not, ↓reduceIte, if_true, if_false, Int.reduceToNat, Nat.reduceAdd, Int.reduceEq, Int.reduceLT, Int.reduceLE, Int.reduceNeg, bI_T, bI_F, ↓if_pos, ↓if_neg, a4, c]
  | succ n ih =>
    intro k l5 l6 k0 k1
    have c : ¬ X 167 14 ≤ k := by omega
    have hk : 0 ≤ k ∧ k < X 167 14 := by omega
    have b1 := (h.1.1.2.2.2.2 k k0 hk.2).1
    have c6 : k < ((6 : Nat) : Int) := by omega
    rw [findF]
    by_cases q : X 177 (3 * k) = m
    · obtain ⟨p1, p2⟩ := k_can_p (e := e) (m := m) hI h hd hk 64 0 l6 (by omega) (by omega)
      rw [hK_is hI hk] at p1 p2
      have st : ∀ Q : Int → gM → Prop, gE 185 3 [gO 6 B, gI e, gI m, gI d, gI k, l5, l6] [] μ Q = gE 185 37 [gO 6 B, gI e, gI m, gI d, gI k, gI 0, l6] [] μ Q := fun Q => by
        rw [e185_3]
        simp (disch := first | assumption | omega) only [e185_0, e185_1, e185_5, e185_6, e185_9, e185_12, e185_15, e185_16, e185_19, e185_22, e185_24, e185_27, e185_28, e185_31, e185_34, e185_35, e185_39, e185_41, e185_44, e185_45, e185_48, e185_50, e185_52, e185_55, e185_58, e185_59, e185_60, e185_62, e185_65, e185_68, e185_69, e185_71, e185_73, e185_76, e185_77, e185_80, e185_81, e185_82, e185_85, e185_86, e185_87, e185_90, e185_91, e185_92, e185_95, e185_96, e185_97, e185_100, e185_102, e185_104, e185_107, e185_108, e185_109, e185_110, e185_113, e185_116, e185_119, e185_122, e185_123, gK0_eq, gK1_eq, gK3_eq, w32_id, bI_eq0, bI_eq1, Bool.false_eq_true, not_true_eq_false, not_false_eq_true, ne_eq, ite_not, ↓reduceIte, if_true, if_false, Int.reduceToNat, Nat.reduceAdd, Int.reduceEq, Int.reduceLT, Int.reduceLE, Int.reduceNeg, bI_T, bI_F, ↓if_pos, ↓if_neg, a4, c, s_at, atv_in, b1, q]
      by_cases z : 0 ≤ hK X T d k
      · rw [decide_eq_true q, decide_eq_true z, Bool.and_self, if_pos rfl]
        refine ⟨fun _ => ?_, fun w => by omega⟩
        obtain ⟨μ1, f1, r1, run1⟩ := p1 z
        exact ⟨μ1, f1, r1, fun Q => by rw [st Q]; exact run1 Q⟩
      · rw [decide_eq_false z, Bool.and_false, if_neg (c := false = true) Bool.noConfusion]
        obtain ⟨l5', l6', run⟩ := p2 (by omega)
        obtain ⟨i1, i2⟩ := ih (k + 1) l5' l6' (by omega) (by omega)
        have st2 : ∀ Q : Int → gM → Prop, gE 185 3 [gO 6 B, gI e, gI m, gI d, gI k, l5, l6] [] μ Q = gE 185 3 [gO 6 B, gI e, gI m, gI d, gI (k + 1), l5', l6'] [] μ Q := fun Q => by
          rw [st Q, run Q]
          simp (disch := first | assumption | omega) only [e185_0, e185_1, e185_5, e185_6, e185_9, e185_12, e185_15, e185_16, e185_19, e185_22, e185_24, e185_27, e185_28, e185_31, e185_34, e185_35, e185_39, e185_41, e185_44, e185_45, e185_48, e185_50, e185_52, e185_55, e185_58, e185_59, e185_60, e185_62, e185_65, e185_68, e185_69, e185_71, e185_73, e185_76, e185_77, e185_80, e185_81, e185_82, e185_85, e185_86, e185_87, e185_90, e185_91, e185_92, e185_95, e185_96, e185_97, e185_100, e185_102, e185_104, e185_107, e185_108, e185_109, e185_110, e185_113, e185_116, e185_119, e185_122, e185_123, gK0_eq, gK1_eq, gK3_eq, w32_id, bI_eq0, bI_eq1, Bool.false_eq_true, not_true_eq_false, not_false_eq_true, ne_eq, ite_not, ↓reduceIte, if_true, if_false, Int.reduceToNat, Nat.reduceAdd, Int.reduceEq, Int.reduceLT, Int.reduceLE, Int.reduceNeg, bI_T, bI_F]
        exact ⟨fun w => by obtain ⟨μ1, f1, r1, run1⟩ := i1 w; exact ⟨μ1, f1, r1, fun Q => by rw [st2 Q]; exact run1 Q⟩, fun w Q => by rw [st2 Q]; exact i2 w Q⟩
    · rw [decide_eq_false q, Bool.false_and, if_neg (c := false = true) Bool.noConfusion]
      obtain ⟨i1, i2⟩ := ih (k + 1) l5 l6 (by omega) (by omega)
      have st2 : ∀ Q : Int → gM → Prop, gE 185 3 [gO 6 B, gI e, gI m, gI d, gI k, l5, l6] [] μ Q = gE 185 3 [gO 6 B, gI e, gI m, gI d, gI (k + 1), l5, l6] [] μ Q := fun Q => by
        rw [e185_3]
        simp (disch := first | assumption | omega) only [e185_0, e185_1, e185_5, e185_6, e185_9, e185_12, e185_15, e185_16, e185_19, e185_22, e185_24, e185_27, e185_28, e185_31, e185_34, e185_35, e185_39, e185_41, e185_44, e185_45, e185_48, e185_50, e185_52, e185_55, e185_58, e185_59, e185_60, e185_62, e185_65, e185_68, e185_69, e185_71, e185_73, e185_76, e185_77, e185_80, e185_81, e185_82, e185_85, e185_86, e185_87, e185_90, e185_91, e185_92, e185_95, e185_96, e185_97, e185_100, e185_102, e185_104, e185_107, e185_108, e185_109, e185_110, e185_113, e185_116, e185_119, e185_122, e185_123, gK0_eq, gK1_eq, gK3_eq, w32_id, bI_eq0, bI_eq1, Bool.false_eq_true, not_true_eq_false, not_false_eq_true, ne_eq, ite_not, ↓reduceIte, if_true, if_false, Int.reduceToNat, Nat.reduceAdd, Int.reduceEq, Int.reduceLT, Int.reduceLE, Int.reduceNeg, bI_T, bI_F, ↓if_pos, ↓if_neg, a4, c, s_at, atv_in, b1, q]
      exact ⟨fun w => by obtain ⟨μ1, f1, r1, run1⟩ := i1 w; exact ⟨μ1, f1, r1, fun Q => by rw [st2 Q]; exact run1 Q⟩, fun w Q => by rw [st2 Q]; exact i2 w Q⟩
theorem k_canBe {e d m : Int} (hI : gIX X) (h : rSt B X T μ) (hd : 0 ≤ d ∧ d < 4) :
    (0 ≤ hM X T d m → ∃ μ', gFr B (B + 50) μ μ' ∧ rSt B X (tHi3 T d e m (hK X T d (hM X T d m))) μ' ∧ ∀ Q : Int → gM → Prop, gE 185 0 [gO 6 B, gI e, gI m, gI d, gX, gX, gX] [] μ Q = Q 0 μ') ∧
    (hM X T d m < 0 → ∀ Q : Int → gM → Prop, gE 185 0 [gO 6 B, gI e, gI m, gI d, gX, gX, gX] [] μ Q = Q 1 μ) := by
  have n4 := hI.2.2.2.1
  obtain ⟨i1, i2⟩ := k_can_k (e := e) (m := m) hI h hd (X 167 14).toNat 0 gX gX (by omega) (by omega)
  refine ⟨fun z => ?_, fun z Q => ?_⟩
  · obtain ⟨μ1, f1, r1, run1⟩ := i1 z
    refine ⟨μ1, f1, r1, fun Q => ?_⟩
    simp (disch := first | assumption | omega) only [e185_0, e185_1, e185_5, e185_6, e185_9, e185_12, e185_15, e185_16, e185_19, e185_22, e185_24, e185_27, e185_28, e185_31, e185_34, e185_35, e185_37, e185_39, e185_41, e185_44, e185_45, e185_48, e185_50, e185_52, e185_55, e185_58, e185_59, e185_60, e185_62, e185_65, e185_68, e185_69, e185_71, e185_73, e185_76, e185_77, e185_80, e185_81, e185_82, e185_85, e185_86, e185_87, e185_90, e185_91, e185_92, e185_95, e185_96, e185_97, e185_100, e185_102, e185_104, e185_107, e185_108, e185_109, e185_110, e185_113, e185_116, e185_119, e185_122, e185_123, gK0_eq, gK1_eq, gK3_eq, w32_id, bI_eq0, bI_eq1, Bool.false_eq_true, not_true_eq_false, not_false_eq_true, ne_eq, ite_not, ↓reduceIte, if_true, if_false, Int.reduceToNat, Nat.reduceAdd, Int.reduceEq, Int.reduceLT, Int.reduceLE, Int.reduceNeg, bI_T, bI_F]
    exact run1 Q
  · simp (disch := first | assumption | omega) only [e185_0, e185_1, e185_5, e185_6, e185_9, e185_12, e185_15, e185_16, e185_19, e185_22, e185_24, e185_27, e185_28, e185_31, e185_34, e185_35, e185_37, e185_39, e185_41, e185_44, e185_45, e185_48, e185_50, e185_52, e185_55, e185_58, e185_59, e185_60, e185_62, e185_65, e185_68, e185_69, e185_71, e185_73, e185_76, e185_77, e185_80, e185_81, e185_82, e185_85, e185_86, e185_87, e185_90, e185_91, e185_92, e185_95, e185_96, e185_97, e185_100, e185_102, e185_104, e185_107, e185_108, e185_109, e185_110, e185_113, e185_116, e185_119, e185_122, e185_123, gK0_eq, gK1_eq, gK3_eq, w32_id, bI_eq0, bI_eq1, Bool.false_eq_true, not_true_eq_false, not_false_eq_true, ne_eq, ite_not, ↓reduceIte, if_true, if_false, Int.reduceToNat, Nat.reduceAdd, Int.reduceEq, Int.reduceLT, Int.reduceLE, Int.reduceNeg, bI_T, bI_F]
    exact i2 z Q
theorem k_att_m {e d : Int} (hI : gIX X) (h : rSt B X T μ) (hd : 0 ≤ d ∧ d < 4) (he : 0 ≤ e ∧ e < X 167 12) : ∀ (n : Nat) (m : Int) (l4 : gv), 0 ≤ m → m + n = X 167 12 →
    (0 ≤ findF (fun m => decide (X 179 m = X 179 e) && decide (0 ≤ hM X T d m)) m n → ∃ μ', gFr B (B + 50) μ μ' ∧ rSt B X (tHi3 T d e (findF (fun m => decide (X 179 m = X 179 e) && decide (0 ≤ hM X T d m)) m n) (hK X T d (hM X T d (findF (fun m => decide (X 179 m = X 179 e) && decide (0 ≤ hM X T d m)) m n)))) μ' ∧ ∀ Q : Int → gM → Prop, gE 184 35 [gO 6 B, gI e, gI d, gI m, l4] [] μ Q = Q (-2) μ') ∧
    (findF (fun m => decide (X 179 m = X 179 e) && decide (0 ≤ hM X T d m)) m n < 0 → ∀ Q : Int → gM → Prop, gE 184 35 [gO 6 B, gI e, gI d, gI m, l4] [] μ Q = gE 184 77 [gO 6 B, gI e, gI d, gI (X 167 12), l4] [] μ Q) := by
  have n2 := hI.2.1
  have a2 := h.1.1.1.2.1
  intro n
  induction n with
  | zero =>
    intro m l4 m0 m1
    have c : X 167 12 ≤ m := by omega
    have e1 : m = X 167 12 := by omega
    refine ⟨fun z => by rw [findF] at z; omega, fun _ Q => ?_⟩
    rw [e184_35]
    simp (disch := first | assumption | omega) only [e184_0, e184_1, e184_4, e184_5, e184_8, e184_9, e184_12, e184_13, e184_16, e184_18, e184_19, e184_22, e184_25, e184_26, e184_29, e184_32, e184_33, e184_34, e184_36, e184_37, e184_40, e184_43, e184_46, e184_47, e184_50, e184_51, e184_52, e184_55, e184_58, e184_59, e184_60, e184_61, e184_62, e184_65, e184_68, e184_70, e184_71, e184_74, e184_78, e184_79, e184_80, e184_82, e184_84, e184_86, e184_89, e184_90, e184_93, e184_94, e184_96, e184_99, e184_102, e184_103, e184_106, e184_107, e184_109, e184_112, e184_115, e184_116, e184_117, e184_119, e184_121, e184_122, e184_125, e184_126, e184_129, e184_130, e184_132, e184_135, e184_138, e184_141, e184_144, e184_145, e184_146, e184_147, e184_150, e184_151, gK0_eq, gK1_eq, gK3_eq, w32_id, bI_eq0, bI_eq1, Bool.false_eq_true, not_true_eq_false, not_false_eq_true, ne_eq, ite_not, ↓reduceIte, if_true, if_false, Int.reduceToNat, Nat.reduceAdd, Int.reduceEq, Int.reduceLT, Int.reduceLE, Int.reduceNeg, bI_T, bI_F, ↓if_pos, ↓if_neg, a2, c]
    rw [e1]
  | succ n ih =>
    intro m l4 m0 m1
    have c : ¬ X 167 12 ≤ m := by omega
    have hm : 0 ≤ m ∧ m < X 167 12 := by omega
    obtain ⟨p1, p2⟩ := k_canBe (e := e) (m := m) hI h hd
    obtain ⟨i1, i2⟩ := ih (m + 1) l4 (by omega) (by omega)
    rw [findF]
    by_cases q : X 179 e = X 179 m
    · by_cases z : 0 ≤ hM X T d m
      · rw [decide_eq_true q.symm, decide_eq_true z, Bool.and_self, if_pos rfl]
        refine ⟨fun _ => ?_, fun w => by omega⟩
        obtain ⟨μ1, f1, r1, run1⟩ := p1 z
        refine ⟨μ1, f1, r1, fun Q => ?_⟩
        rw [e184_35]
        simp (disch := first | assumption | omega) only [e184_0, e184_1, e184_4, e184_5, e184_8, e184_9, e184_12, e184_13, e184_16, e184_18, e184_19, e184_22, e184_25, e184_26, e184_29, e184_32, e184_33, e184_34, e184_36, e184_37, e184_40, e184_43, e184_46, e184_47, e184_50, e184_51, e184_52, e184_55, e184_58, e184_59, e184_60, e184_61, e184_62, e184_65, e184_68, e184_70, e184_71, e184_74, e184_78, e184_79, e184_80, e184_82, e184_84, e184_86, e184_89, e184_90, e184_93, e184_94, e184_96, e184_99, e184_102, e184_103, e184_106, e184_107, e184_109, e184_112, e184_115, e184_116, e184_117, e184_119, e184_121, e184_122, e184_125, e184_126, e184_129, e184_130, e184_132, e184_135, e184_138, e184_141, e184_144, e184_145, e184_146, e184_147, e184_150, e184_151, gK0_eq, gK1_eq, gK3_eq, w32_id, bI_eq0, bI_eq1, Bool.false_eq_true, not_true_eq_false, not_false_eq_true, ne_eq, ite_not, ↓reduceIte, if_true, if_false, Int.reduceToNat, Nat.reduceAdd, Int.reduceEq, Int.reduceLT, Int.reduceLE, Int.reduceNeg, bI_T, bI_F, ↓if_pos, ↓if_neg, a2, c, k_areOne hI h.1 he hm, bI_t q, run1]
      · rw [decide_eq_false z, Bool.and_false, if_neg (c := false = true) Bool.noConfusion]
        have run := p2 (by omega)
        have st : ∀ Q : Int → gM → Prop, gE 184 35 [gO 6 B, gI e, gI d, gI m, l4] [] μ Q = gE 184 35 [gO 6 B, gI e, gI d, gI (m + 1), l4] [] μ Q := fun Q => by
          rw [e184_35]
          simp (disch := first | assumption | omega) only [e184_0, e184_1, e184_4, e184_5, e184_8, e184_9, e184_12, e184_13, e184_16, e184_18, e184_19, e184_22, e184_25, e184_26, e184_29, e184_32, e184_33, e184_34, e184_36, e184_37, e184_40, e184_43, e184_46, e184_47, e184_50, e184_51, e184_52, e184_55, e184_58, e184_59, e184_60, e184_61, e184_62, e184_65, e184_68, e184_70, e184_71, e184_74, e184_78, e184_79, e184_80, e184_82, e184_84, e184_86, e184_89, e184_90, e184_93, e184_94, e184_96, e184_99, e184_102, e184_103, e184_106, e184_107, e184_109, e184_112, e184_115, e184_116, e184_117, e184_119, e184_121, e184_122, e184_125, e184_126, e184_129, e184_130, e184_132, e184_135, e184_138, e184_141, e184_144, e184_145, e184_146, e184_147, e184_150, e184_151, gK0_eq, gK1_eq, gK3_eq, w32_id, bI_eq0, bI_eq1, Bool.false_eq_true, not_true_eq_false, not_false_eq_true, ne_eq, ite_not, ↓reduceIte, if_true, if_false, Int.reduceToNat, Nat.reduceAdd, Int.reduceEq, Int.reduceLT, Int.reduceLE, Int.reduceNeg, bI_T, bI_F, ↓if_pos, ↓if_neg, a2, c, k_areOne hI h.1 he hm, bI_t q, run]
        exact ⟨fun w => by obtain ⟨μ1, f1, r1, run1⟩ := i1 w; exact ⟨μ1, f1, r1, fun Q => by rw [st Q]; exact run1 Q⟩, fun w Q => by rw [st Q]; exact i2 w Q⟩
    · rw [decide_eq_false (fun z => q z.symm), Bool.false_and, if_neg (c := false = true) Bool.noConfusion]
      have st : ∀ Q : Int → gM → Prop, gE 184 35 [gO 6 B, gI e, gI d, gI m, l4] [] μ Q = gE 184 35 [gO 6 B, gI e, gI d, gI (m + 1), l4] [] μ Q := fun Q => by
        rw [e184_35]
        simp (disch := first | assumption | omega) only [e184_0, e184_1, e184_4, e184_5, e184_8, e184_9, e184_12, e184_13, e184_16, e184_18, e184_19, e184_22, e184_25, e184_26, e184_29, e184_32, e184_33, e184_34, e184_36, e184_37, e184_40, e184_43, e184_46, e184_47, e184_50, e184_51, e184_52, e184_55, e184_58, e184_59, e184_60, e184_61, e184_62, e184_65, e184_68, e184_70, e184_71, e184_74, e184_78, e184_79, e184_80, e184_82, e184_84, e184_86, e184_89, e184_90, e184_93, e184_94, e184_96, e184_99, e184_102, e184_103, e184_106, e184_107, e184_109, e184_112, e184_115, e184_116, e184_117, e184_119, e184_121, e184_122, e184_125, e184_126, e184_129, e184_130, e184_132, e184_135, e184_138, e184_141, e184_144, e184_145, e184_146, e184_147, e184_150, e184_151, gK0_eq, gK1_eq, gK3_eq, w32_id, bI_eq0, bI_eq1, Bool.false_eq_true, not_true_eq_false, not_false_eq_true, ne_eq, ite_not, ↓reduceIte, if_true, if_false, Int.reduceToNat, Nat.reduceAdd, Int.reduceEq, Int.reduceLT, Int.reduceLE, Int.reduceNeg, bI_T, bI_F, ↓if_pos, ↓if_neg, a2, c, k_areOne hI h.1 he hm, bI_f q]
      exact ⟨fun w => by obtain ⟨μ1, f1, r1, run1⟩ := i1 w; exact ⟨μ1, f1, r1, fun Q => by rw [st Q]; exact run1 Q⟩, fun w Q => by rw [st Q]; exact i2 w Q⟩
theorem tMaps_res {d p f r : Int} (hd : 0 ≤ d ∧ d < 4) (hp : 0 ≤ p ∧ p < 64) : tS (tMaps T d p f r 0) (512 + (64 * d + p)) 1 = tMaps T d p f r 1 := by
  have z1 : iand32 0 1 = 0 := by decide
  have z2 : ishr32 0 1 = 0 := by decide
  have z3 : iand32 1 1 = 1 := by decide
  have z4 : ishr32 1 1 = 0 := by decide
  obtain ⟨a1, a2, a3, a4⟩ := tMaps_at (T := T) (f := f) (r := r) (g := 1) hd hp
  obtain ⟨b1, b2, b3, b4⟩ := tMaps_at (T := T) (f := f) (r := r) (g := 0) hd hp
  funext j
  by_cases c3 : j = 512 + (64 * d + p)
  · rw [c3, tS_same, a3, z3]
  · rw [tS_ne c3]
    by_cases c0 : j = 64 * d + p
    · rw [c0, a1, b1]
    · by_cases c1 : j = 256 + (64 * d + p)
      · rw [c1, a2, b2]
      · by_cases c2 : j = 768 + (64 * d + p)
        · rw [c2, a4, b4, z2, z4]
        · rw [tMaps_lo ⟨c0, c1, c3, c2⟩, tMaps_lo ⟨c0, c1, c3, c2⟩]
theorem tNew_hi {D : Int → Bool} {j : Int} (h : 1024 ≤ j) : tNew T D j = T j := by
  unfold tNew
  rw [if_neg (by omega), if_neg (by omega), if_neg (by omega), if_neg (by omega)]
theorem k_att_p {e d : Int} (hI : gIX X) (he : 0 ≤ e ∧ e < X 167 12) (hd : 0 ≤ d ∧ d < T 1672) : ∀ (n : Nat) (p : Int) (μ : gM), rSt B X (tNew T (cFr T d (fun x => xGp X e x && decide (x < p)))) μ → 0 ≤ p → p + n = 64 →
    ∃ μ', gFr B (B + 50) μ μ' ∧ rSt B X (tNew T (cFr T d (xGp X e))) μ' ∧ ∀ Q : Int → gM → Prop, gE 184 82 [gO 6 B, gI e, gI d, gI (cntF (cFr T d (fun x => xGp X e x && decide (x < p))) 0 256), gI p] [] μ Q = gE 184 144 [gO 6 B, gI e, gI d, gI (cntF (cFr T d (xGp X e)) 0 256), gI 64] [] μ' Q := by
  intro n
  induction n with
  | zero =>
    intro p μ h p0 p1
    have c : p = 64 := by omega
    subst c
    have eP : cFr T d (fun x => xGp X e x && decide (x < 64)) = cFr T d (xGp X e) := by
      funext i
      unfold cFr
      by_cases q : 64 * d ≤ i ∧ i < 64 * d + 64
      · dsimp only
        rw [decide_eq_true (show i - 64 * d < 64 by omega), Bool.and_true]
      · rw [decide_eq_false q, Bool.false_and, Bool.false_and]
    rw [eP] at h ⊢
    refine ⟨μ, gFr_refl, h, fun Q => ?_⟩
    rw [e184_82]
    simp (disch := first | assumption | omega) only [e184_0, e184_1, e184_4, e184_5, e184_8, e184_9, e184_12, e184_13, e184_16, e184_18, e184_19, e184_22, e184_25, e184_26, e184_29, e184_32, e184_33, e184_34, e184_35, e184_36, e184_37, e184_40, e184_43, e184_46, e184_47, e184_50, e184_51, e184_52, e184_55, e184_58, e184_59, e184_60, e184_61, e184_62, e184_65, e184_68, e184_70, e184_71, e184_74, e184_77, e184_78, e184_79, e184_80, e184_84, e184_86, e184_89, e184_90, e184_93, e184_94, e184_96, e184_99, e184_102, e184_103, e184_106, e184_107, e184_109, e184_112, e184_115, e184_116, e184_117, e184_119, e184_121, e184_122, e184_125, e184_126, e184_129, e184_130, e184_132, e184_135, e184_138, e184_141, e184_145, e184_146, e184_147, e184_150, e184_151, gK0_eq, gK1_eq, gK3_eq, w32_id, bI_eq0, bI_eq1, Bool.false_eq_true, not_true_eq_false, not_false_eq_true, ne_eq, ite_not, ↓reduceIte, if_true, if_false, Int.reduceToNat, Nat.reduceAdd, Int.reduceEq, Int.reduceLT, Int.reduceLE, Int.reduceNeg, bI_T, bI_F, ↓if_pos, ↓if_neg]
  | succ n ih =>
    intro p μ h p0 p1
    have c : ¬ 64 ≤ p := by omega
    have hp : 0 ≤ p ∧ p < 64 := by omega
    have hD := h.2.1.1
    rw [tNew_hi (by omega)] at hD
    have hd4 : 0 ≤ d ∧ d < 4 := by omega
    have hc := cntF_nn (cFr T d (fun x => xGp X e x && decide (x < p))) 256 0
    have nD : cFr T d (fun x => xGp X e x && decide (x < p)) (64 * d + p) = false := by
      unfold cFr
      rw [show 64 * d + p - 64 * d = p by omega]
      dsimp only
      rw [decide_eq_false (show ¬ p < p by omega), Bool.and_false, Bool.false_and, Bool.and_false]
    have hv : tNew T (cFr T d (fun x => xGp X e x && decide (x < p))) (64 * d + p) = T (64 * d + p) := by rw [tNew_at (by omega), nD]; rfl
    have hmv : tMp (tNew T (cFr T d (fun x => xGp X e x && decide (x < p)))) d p = tMp T d p := tMp_congr hv
    cases q : xGp X e p with
    | false =>
      have eP : (fun x => xGp X e x && decide (x < p)) = (fun x => xGp X e x && decide (x < p + 1)) := by
        funext x
        by_cases z : x = p
        · rw [z, q, Bool.false_and, Bool.false_and]
        · congr 1
          exact decide_eq_decide.mpr (by omega)
      rw [eP] at h ⊢
      obtain ⟨μ1, f1, r1, run1⟩ := ih (p + 1) μ h (by omega) (by omega)
      refine ⟨μ1, f1, r1, fun Q => ?_⟩
      rw [← run1, e184_82]
      simp (disch := first | assumption | omega) only [e184_0, e184_1, e184_4, e184_5, e184_8, e184_9, e184_12, e184_13, e184_16, e184_18, e184_19, e184_22, e184_25, e184_26, e184_29, e184_32, e184_33, e184_34, e184_35, e184_36, e184_37, e184_40, e184_43, e184_46, e184_47, e184_50, e184_51, e184_52, e184_55, e184_58, e184_59, e184_60, e184_61, e184_62, e184_65, e184_68, e184_70, e184_71, e184_74, e184_77, e184_78, e184_79, e184_80, e184_84, e184_86, e184_89, e184_90, e184_93, e184_94, e184_96, e184_99, e184_102, e184_103, e184_106, e184_107, e184_109, e184_112, e184_115, e184_116, e184_117, e184_119, e184_121, e184_122, e184_125, e184_126, e184_129, e184_130, e184_132, e184_135, e184_138, e184_141, e184_145, e184_146, e184_147, e184_150, e184_151, gK0_eq, gK1_eq, gK3_eq, w32_id, bI_eq0, bI_eq1, Bool.false_eq_true, not_true_eq_false, not_false_eq_true, ne_eq, ite_not, ↓reduceIte, if_true, if_false, Int.reduceToNat, Nat.reduceAdd, Int.reduceEq, Int.reduceLT, Int.reduceLE, Int.reduceNeg, bI_T, bI_F, ↓if_pos, ↓if_neg, c, k_spansPage hI h.1 he, q]
    | true =>
      have eP : bOr (fun x => xGp X e x && decide (x < p)) p = (fun x => xGp X e x && decide (x < p + 1)) := by
        funext x
        unfold bOr
        dsimp only
        by_cases z : x = p
        · rw [z, q, decide_eq_true rfl, Bool.or_true, decide_eq_true (show p < p + 1 by omega)]; rfl
        · rw [decide_eq_false z, Bool.or_false]
          congr 1
          exact decide_eq_decide.mpr (by omega)
      cases hm : tMp T d p with
      | true =>
        have hm0 : 0 ≤ T (64 * d + p) := by unfold tMp at hm; rw [decide_eq_true_eq] at hm; exact hm
        have e1 := cFr_nop (T := T) (P := fun x => xGp X e x && decide (x < p)) (d := d) (p := p) (Or.inr hm0)
        rw [hm] at hmv
        rw [eP] at e1
        rw [← e1] at h hmv ⊢
        obtain ⟨μ1, f1, r1, run1⟩ := ih (p + 1) μ h (by omega) (by omega)
        refine ⟨μ1, f1, r1, fun Q => ?_⟩
        rw [← run1, e184_82]
        simp (disch := first | assumption | omega) only [e184_0, e184_1, e184_4, e184_5, e184_8, e184_9, e184_12, e184_13, e184_16, e184_18, e184_19, e184_22, e184_25, e184_26, e184_29, e184_32, e184_33, e184_34, e184_35, e184_36, e184_37, e184_40, e184_43, e184_46, e184_47, e184_50, e184_51, e184_52, e184_55, e184_58, e184_59, e184_60, e184_61, e184_62, e184_65, e184_68, e184_70, e184_71, e184_74, e184_77, e184_78, e184_79, e184_80, e184_84, e184_86, e184_89, e184_90, e184_93, e184_94, e184_96, e184_99, e184_102, e184_103, e184_106, e184_107, e184_109, e184_112, e184_115, e184_116, e184_117, e184_119, e184_121, e184_122, e184_125, e184_126, e184_129, e184_130, e184_132, e184_135, e184_138, e184_141, e184_145, e184_146, e184_147, e184_150, e184_151, gK0_eq, gK1_eq, gK3_eq, w32_id, bI_eq0, bI_eq1, Bool.false_eq_true, not_true_eq_false, not_false_eq_true, ne_eq, ite_not, ↓reduceIte, if_true, if_false, Int.reduceToNat, Nat.reduceAdd, Int.reduceEq, Int.reduceLT, Int.reduceLE, Int.reduceNeg, bI_T, bI_F, ↓if_pos, ↓if_neg, c, k_spansPage hI h.1 he, q, k_isMapped h.2.1 hd4 hp, hmv]
      | false =>
        have hm0 : T (64 * d + p) < 0 := by unfold tMp at hm; rw [decide_eq_false_iff_not] at hm; omega
        rw [hm] at hmv
        have e1 := cFr_add (T := T) (P := fun x => xGp X e x && decide (x < p)) (d := d) hp hm0
        rw [eP] at e1
        have e2 := cntF_bOr nD 256 0
        rw [← e1, if_pos (by omega)] at e2
        obtain ⟨μ1, f1, r1, run1⟩ := k_Senter (p := p) (f := p) (r := 3) hI h (by rw [tNew_hi (by omega)]; exact hd) hp (by rw [hv]; exact hm0) hp (by omega)
        have m1 := (tMaps_at (T := tNew T (cFr T d (fun x => xGp X e x && decide (x < p)))) (f := p) (r := 3) (g := 0) hd4 hp).1
        obtain ⟨μ2, f2, r2, run2⟩ := k_Treserve r1.2.1 hd4 hp (by rw [m1]; exact p0)
        have r3 : rSt B X (tS (tMaps (tNew T (cFr T d (fun x => xGp X e x && decide (x < p)))) d p p 3 0) (512 + (64 * d + p)) 1) μ2 := ⟨rTr_fr hI r1.1 f2 (by omega), r2, rFr_fr r1.2.2.1 f2 (by omega) (fun j hj => by exact tS_ne (by omega)), rQu_fr r1.2.2.2.1 f2 (by omega) (fun j j1 j2 => by exact tS_ne (by omega)), rCa_fr r1.2.2.2.2.1 f2 (by omega) (fun j j1 j2 => by exact tS_ne (by omega)), rRq_fr r1.2.2.2.2.2.1 f2 (by omega) (fun j j1 j2 => by exact tS_ne (by omega)), rLg_fr r1.2.2.2.2.2.2.1 f2 (by omega) (fun j hj => by exact tS_ne (by omega)), rDm_fr hI r1.2.2.2.2.2.2.2 f2 (by omega) (fun j j1 j2 => by exact tS_ne (by omega))⟩
        rw [tMaps_res hd4 hp, tNew_step hd4 hp, ← e1] at r3
        obtain ⟨μ3, f3, r4, run3⟩ := ih (p + 1) μ2 r3 (by omega) (by omega)
        refine ⟨μ3, gFr_trans f1 (gFr_trans (gFr_mono f2 (by omega) (by omega)) f3), r4, fun Q => ?_⟩
        rw [← run3, e2, e184_82]
        simp (disch := first | assumption | omega) only [e184_0, e184_1, e184_4, e184_5, e184_8, e184_9, e184_12, e184_13, e184_16, e184_18, e184_19, e184_22, e184_25, e184_26, e184_29, e184_32, e184_33, e184_34, e184_35, e184_36, e184_37, e184_40, e184_43, e184_46, e184_47, e184_50, e184_51, e184_52, e184_55, e184_58, e184_59, e184_60, e184_61, e184_62, e184_65, e184_68, e184_70, e184_71, e184_74, e184_77, e184_78, e184_79, e184_80, e184_84, e184_86, e184_89, e184_90, e184_93, e184_94, e184_96, e184_99, e184_102, e184_103, e184_106, e184_107, e184_109, e184_112, e184_115, e184_116, e184_117, e184_119, e184_121, e184_122, e184_125, e184_126, e184_129, e184_130, e184_132, e184_135, e184_138, e184_141, e184_145, e184_146, e184_147, e184_150, e184_151, gK0_eq, gK1_eq, gK3_eq, w32_id, bI_eq0, bI_eq1, Bool.false_eq_true, not_true_eq_false, not_false_eq_true, ne_eq, ite_not, ↓reduceIte, if_true, if_false, Int.reduceToNat, Nat.reduceAdd, Int.reduceEq, Int.reduceLT, Int.reduceLE, Int.reduceNeg, bI_T, bI_F, ↓if_pos, ↓if_neg, c, k_spansPage hI h.1 he, q, k_isMapped h.2.1 hd4 hp, hmv, run1, run2]
theorem k_attach {e d : Int} (hI : gIX X) (h : rSt B X T μ) (he : 0 ≤ e ∧ e < X 167 12) (hd : 0 ≤ d ∧ d < T 1672) (hH : ∀ g, 0 ≤ g → g < 8 → -1 ≤ T (1673 + g)) : ∃ μ', gFr B (B + 50) μ μ' ∧ rSt B X (tAtT X T e d) μ' ∧ ∀ Q : Int → gM → Prop, gE 184 0 [gO 6 B, gI e, gI d, gX, gX] [] μ Q = Q (tAtA X T e d) μ' := by
  have n2 := hI.2.1
  have hD := h.2.1.1
  have hd4 : 0 ≤ d ∧ d < 4 := by omega
  have he8 : 0 ≤ e ∧ e < 8 := by omega
  have g := gX8 hI he8
  have hh := hH (X 179 e) g.1 g.2.1
  have b1 := h.2.2.2.2.2.2.2 e he.1 he.2
  have b2 := h.1.2 e he.1 he.2
  have e0 := he.1
  have e1 : e < ((8 : Nat) : Int) := he8.2
  have hG : 0 ≤ e ∧ e < X 167 12 ∧ 0 ≤ d ∧ d < T 1672 := ⟨he.1, he.2, hd.1, hd.2⟩
  unfold tAtT tAtA
  rw [if_pos hG, if_pos hG]
  by_cases c : 0 ≤ T (1673 + X 179 e)
  · have c' : ¬ T (1673 + X 179 e) = -1 := by omega
    obtain ⟨μ1, f1, r1, run1⟩ := k_Srefuse (c := 9) (a := X 179 e) hI h
    rw [if_pos c, if_pos c]
    refine ⟨μ1, f1, r1, fun Q => ?_⟩
    simp (disch := first | assumption | omega) only [e184_0, e184_1, e184_4, e184_5, e184_8, e184_9, e184_12, e184_13, e184_16, e184_18, e184_19, e184_22, e184_25, e184_26, e184_29, e184_32, e184_33, e184_34, e184_36, e184_37, e184_40, e184_43, e184_46, e184_47, e184_50, e184_51, e184_52, e184_55, e184_58, e184_59, e184_60, e184_61, e184_62, e184_65, e184_68, e184_70, e184_71, e184_74, e184_77, e184_78, e184_79, e184_80, e184_84, e184_86, e184_89, e184_90, e184_93, e184_94, e184_96, e184_99, e184_102, e184_103, e184_106, e184_107, e184_109, e184_112, e184_115, e184_116, e184_117, e184_119, e184_121, e184_122, e184_125, e184_126, e184_129, e184_130, e184_132, e184_135, e184_138, e184_141, e184_144, e184_145, e184_146, e184_147, e184_150, e184_151, gK0_eq, gK1_eq, gK3_eq, w32_id, bI_eq0, bI_eq1, Bool.false_eq_true, not_true_eq_false, not_false_eq_true, ne_eq, ite_not, ↓reduceIte, if_true, if_false, Int.reduceToNat, Nat.reduceAdd, Int.reduceEq, Int.reduceLT, Int.reduceLE, Int.reduceNeg, bI_T, bI_F, ↓if_pos, ↓if_neg, s_at, atv_in, b1, b2, c', run1]
  · have c' : T (1673 + X 179 e) = -1 := by omega
    rw [if_neg c, if_neg c]
    obtain ⟨i1, i2⟩ := k_att_m (d := d) hI h hd4 he (X 167 12).toNat 0 gX (by omega) (by omega)
    have uE : hE X T d e = findF (fun m => decide (X 179 m = X 179 e) && decide (0 ≤ hM X T d m)) 0 (X 167 12).toNat := rfl
    by_cases q : 0 ≤ hE X T d e
    · obtain ⟨μ1, f1, r1, run1⟩ := i1 q
      rw [if_pos q, if_pos q]
      refine ⟨μ1, f1, r1, fun Q => ?_⟩
      simp (disch := first | assumption | omega) only [e184_0, e184_1, e184_4, e184_5, e184_8, e184_9, e184_12, e184_13, e184_16, e184_18, e184_19, e184_22, e184_25, e184_26, e184_29, e184_32, e184_33, e184_34, e184_36, e184_37, e184_40, e184_43, e184_46, e184_47, e184_50, e184_51, e184_52, e184_55, e184_58, e184_59, e184_60, e184_61, e184_62, e184_65, e184_68, e184_70, e184_71, e184_74, e184_77, e184_78, e184_79, e184_80, e184_84, e184_86, e184_89, e184_90, e184_93, e184_94, e184_96, e184_99, e184_102, e184_103, e184_106, e184_107, e184_109, e184_112, e184_115, e184_116, e184_117, e184_119, e184_121, e184_122, e184_125, e184_126, e184_129, e184_130, e184_132, e184_135, e184_138, e184_141, e184_144, e184_145, e184_146, e184_147, e184_150, e184_151, gK0_eq, gK1_eq, gK3_eq, w32_id, bI_eq0, bI_eq1, Bool.false_eq_true, not_true_eq_false, not_false_eq_true, ne_eq, ite_not, ↓reduceIte, if_true, if_false, Int.reduceToNat, Nat.reduceAdd, Int.reduceEq, Int.reduceLT, Int.reduceLE, Int.reduceNeg, bI_T, bI_F, ↓if_pos, ↓if_neg, s_at, atv_in, b1, c', run1]
    · have run0 := i2 (by omega)
      have eP : cFr T d (fun x => xGp X e x && decide (x < 0)) = fun _ => false := by
        funext i
        unfold cFr
        by_cases z : 64 * d ≤ i ∧ i < 64 * d + 64
        · dsimp only
          rw [decide_eq_false (show ¬ i - 64 * d < 0 by omega), Bool.and_false, Bool.false_and, Bool.and_false]
        · rw [decide_eq_false z, Bool.false_and]
      have eN : tNew T (fun _ => false) = T := by
        funext j
        unfold tNew
        rw [if_neg (fun z => Bool.noConfusion z.2), if_neg (fun z => Bool.noConfusion z.2), if_neg (fun z => Bool.noConfusion z.2), if_neg (fun z => Bool.noConfusion z.2)]
      have eC0 : ∀ (n : Nat) (k : Int), cntF (fun _ : Int => false) k n = 0 := by
        intro n
        induction n with
        | zero => intro k; rfl
        | succ n ih => intro k; rw [cntF_f rfl]; exact ih _
      have eC := eC0 256 0
      obtain ⟨μ1, f1, r1, run1⟩ := k_att_p (e := e) hI he hd 64 0 μ (by rw [eP, eN]; exact h) (by omega) (by omega)
      rw [eP, eC] at run1
      obtain ⟨μ2, f2, r2, run2⟩ := k_giveGroup (v := d) hI r1 he
      have eS : tS (tNew T (cFr T d (xGp X e))) (1673 + X 179 e) d = tNew (tS T (1673 + X 179 e) d) (cFr T d (xGp X e)) := by
        funext j
        by_cases z : j = 1673 + X 179 e
        · rw [z, tS_same, tNew_hi (by omega), tS_same]
        · rw [tS_ne z]
          unfold tNew
          rw [tS_ne z]
      rw [eS] at r2
      rw [if_neg q, if_neg q]
      refine ⟨μ2, gFr_trans f1 f2, r2, fun Q => ?_⟩
      simp (disch := first | assumption | omega) only [e184_0, e184_1, e184_4, e184_5, e184_8, e184_9, e184_12, e184_13, e184_16, e184_18, e184_19, e184_22, e184_25, e184_26, e184_29, e184_32, e184_33, e184_34, e184_36, e184_37, e184_40, e184_43, e184_46, e184_47, e184_50, e184_51, e184_52, e184_55, e184_58, e184_59, e184_60, e184_61, e184_62, e184_65, e184_68, e184_70, e184_71, e184_74, e184_77, e184_78, e184_79, e184_80, e184_84, e184_86, e184_89, e184_90, e184_93, e184_94, e184_96, e184_99, e184_102, e184_103, e184_106, e184_107, e184_109, e184_112, e184_115, e184_116, e184_117, e184_119, e184_121, e184_122, e184_125, e184_126, e184_129, e184_130, e184_132, e184_135, e184_138, e184_141, e184_144, e184_145, e184_146, e184_147, e184_150, e184_151, gK0_eq, gK1_eq, gK3_eq, w32_id, bI_eq0, bI_eq1, Bool.false_eq_true, not_true_eq_false, not_false_eq_true, ne_eq, ite_not, ↓reduceIte, if_true, if_false, Int.reduceToNat, Nat.reduceAdd, Int.reduceEq, Int.reduceLT, Int.reduceLE, Int.reduceNeg, bI_T, bI_F, ↓if_pos, ↓if_neg, s_at, atv_in, b1, c', run0, run1, run2]
end ATTACH
