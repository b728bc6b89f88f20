/-! the reader and the check's text in step: names, numbers, stops -/
section STEPS
variable {C C' C'' M M' M'' : gM} {Q : Int → gM → Prop}
theorem findF_rng {P : Int → Bool} : ∀ (n : Nat) (k : Int), findF P k n = -1 ∨ (k ≤ findF P k n ∧ findF P k n < k + n) := by
  intro n
  induction n with
  | zero => intro k; exact Or.inl rfl
  | succ n ih =>
    intro k
    rw [findF]
    split
    · omega
    · have := ih (k + 1)
      omega
theorem cl_adv (h : tP C M) : (∀ Q : Int → gM → Prop, gE 86 0 [gO 4 1] [] C Q = Q 0 (cAdv C)) ∧ sR (cAdv C) M ∧ dR (cAdv C) M ∧ C 1 4 ≤ cAdv C 1 4 :=
  ⟨fun Q => run_adv ⟨h.2.2.1, h.2.2.2.1⟩ h.2.2.2.2, h.1, dR_adv h.2.1, (adv_4 ⟨h.2.2.1, h.2.2.2.1⟩).1⟩
theorem tP_got {v : Int} (h : sR C M) (d : dR C M) : tP C (mTok (gS M 167 30 v)) ∧ (∀ Q : Int → gM → Prop, gE 215 0 [gO 10 167] [] (gS M 167 30 v) Q = Q 0 (mTok (gS M 167 30 v))) := by
  have h' := sR_got (i := 30) (v := v) h (by omega)
  refine ⟨tP_of h' (dR_got d), fun Q => ?_⟩
  obtain ⟨⟨a1, a2, a3, a4⟩, b1, b2, -⟩ := h'
  exact run_tok a4 (by omega) (by omega)
theorem run_tokS (h : sR C M) : gE 215 0 [gO 10 167] [] M Q = Q 0 (mTok M) := by
  obtain ⟨⟨a1, a2, a3, a4⟩, b1, b2, -⟩ := h
  exact run_tok a4 (by omega) (by omega)
theorem nn_name {s v k w : Int} (h : tokR s v k w) (hk : k = 2) : s = 1 ∧ v = w := by
  rcases h with ⟨a, b⟩ | ⟨a, b, c, d⟩ | ⟨a, b, c, d⟩ | ⟨a, b, c⟩ | ⟨a, b⟩ | ⟨a, b⟩ <;> omega
theorem x_newName (h : tP C M) : ∃ (b : Int) (C' M' : gM), (∀ Q : Int → gM → Prop, gE 78 0 [gO 4 1] [] C Q = Q b C') ∧ (∀ Q : Int → gM → Prop, gE 224 0 [gO 10 167] [] M Q = Q b M') ∧ fC C C' ∧ fM M M' ∧ ((b = 0 ∧ fl C' M') ∨ (b = 1 ∧ tP C' M' ∧ M' 167 30 = C' 1 7 ∧ C 1 4 ≤ C' 1 4)) := by
  obtain ⟨ra, hs, hd, hp⟩ := cl_adv h
  have tk := hs.2.2.2.2
  have pl := hs.2.2.2.1
  have hI := hd.1
  have t := hd.2.1
  by_cases c : M 167 8 = 2
  · obtain ⟨s1, v1⟩ := nn_name tk c
    have kb := fun (Q : Int → gM → Prop) => k_bridgeNamed (Q := Q) (l := M 167 9) hI t
    have kd := fun (Q : Int → gM → Prop) => k_deviceNamed (Q := Q) (l := M 167 9) hI t
    have sb := fun (Q : Int → gM → Prop) => s_bridgeRead (Q := Q) (l := M 167 9) hI
    have sd := fun (Q : Int → gM → Prop) => s_deviceRead (Q := Q) (l := M 167 9) hI
    have r1 := findF_rng (P := fun i => decide (xR M 170 i = M 167 9)) (xR M 167 11).toNat 0
    have r2 := findF_rng (P := fun i => decide (xR M 173 i = M 167 9)) (xR M 167 12).toNat 0
    generalize findF (fun i => decide (xR M 170 i = M 167 9)) 0 (xR M 167 11).toNat = x1 at *
    generalize findF (fun i => decide (xR M 173 i = M 167 9)) 0 (xR M 167 12).toNat = x2 at *
    by_cases c1 : x1 = -1
    · by_cases c2 : x2 = -1
      · obtain ⟨p1, p2⟩ := tP_got (v := M 167 9) hs hd
        refine ⟨1, cAdv C, mTok (gS M 167 30 (M 167 9)), fun Q => ?_, fun Q => ?_, fC_adv, fM_trans (fM_gS fM_refl (by omega)) fM_tok, Or.inr ⟨rfl, p1, by rw [mTok_ne (by omega), gS_same, v1], hp⟩⟩
        · simp (disch := first | assumption | omega) only [e78_0, e78_1, e78_4, e78_5, e78_8, e78_11, e78_12, e78_13, e78_16, e78_17, e78_18, e78_21, e78_22, e78_25, e78_28, e78_29, e78_32, e78_33, e78_36, e78_37, e78_40, e78_43, e78_44, e78_47, e78_48, e78_49, e78_52, e78_53, e78_54, gK0_eq, gK1_eq, gK3_eq, w32_id, bI_eq0, bI_eq1, Bool.false_eq_true, not_true_eq_false, not_false_eq_true, ne_eq, ite_not, ↓reduceIte, if_true, if_false, Int.reduceToNat, Nat.reduceAdd, Int.reduceEq, Int.reduceLT, Int.reduceLE, Int.reduceNeg, bI_T, bI_F, ↓if_pos, ↓if_neg, ra, k_isName tk, c, v1, kb, kd, c1, c2]
        · simp (disch := first | assumption | omega) only [e224_0, e224_1, e224_4, e224_5, e224_8, e224_9, e224_10, e224_13, e224_14, e224_15, e224_16, e224_19, e224_22, e224_25, e224_26, e224_27, e224_30, e224_33, e224_36, e224_37, e224_38, e224_41, e224_42, e224_43, e224_44, e224_47, e224_50, e224_51, e224_54, e224_55, gK0_eq, gK1_eq, gK3_eq, w32_id, bI_eq0, bI_eq1, Bool.false_eq_true, not_true_eq_false, not_false_eq_true, ne_eq, ite_not, ↓reduceIte, if_true, if_false, Int.reduceToNat, Nat.reduceAdd, Int.reduceEq, Int.reduceLT, Int.reduceLE, Int.reduceNeg, bI_T, bI_F, ↓if_pos, ↓if_neg, c, sb, sd, c1, c2, p2]
      · refine ⟨0, cRef (cAdv C) 3, mWr M 3, fun Q => ?_, fun Q => ?_, fC_ref fC_adv, fM_wr fM_refl, Or.inl ⟨rfl, fl_ref pl⟩⟩
        · simp (disch := first | assumption | omega) only [e78_0, e78_1, e78_4, e78_5, e78_8, e78_11, e78_12, e78_13, e78_16, e78_17, e78_18, e78_21, e78_22, e78_25, e78_28, e78_29, e78_32, e78_33, e78_36, e78_37, e78_40, e78_43, e78_44, e78_47, e78_48, e78_49, e78_52, e78_53, e78_54, gK0_eq, gK1_eq, gK3_eq, w32_id, bI_eq0, bI_eq1, Bool.false_eq_true, not_true_eq_false, not_false_eq_true, ne_eq, ite_not, ↓reduceIte, if_true, if_false, Int.reduceToNat, Nat.reduceAdd, Int.reduceEq, Int.reduceLT, Int.reduceLE, Int.reduceNeg, bI_T, bI_F, ↓if_pos, ↓if_neg, ra, k_isName tk, c, v1, kb, kd, c1, c2, k_refuseR]
        · simp (disch := first | assumption | omega) only [e224_0, e224_1, e224_4, e224_5, e224_8, e224_9, e224_10, e224_13, e224_14, e224_15, e224_16, e224_19, e224_22, e224_25, e224_26, e224_27, e224_30, e224_33, e224_36, e224_37, e224_38, e224_41, e224_42, e224_43, e224_44, e224_47, e224_50, e224_51, e224_54, e224_55, gK0_eq, gK1_eq, gK3_eq, w32_id, bI_eq0, bI_eq1, Bool.false_eq_true, not_true_eq_false, not_false_eq_true, ne_eq, ite_not, ↓reduceIte, if_true, if_false, Int.reduceToNat, Nat.reduceAdd, Int.reduceEq, Int.reduceLT, Int.reduceLE, Int.reduceNeg, bI_T, bI_F, ↓if_pos, ↓if_neg, c, sb, sd, c1, show ¬ x2 < 0 by omega, s_wrong]
    · refine ⟨0, cRef (cAdv C) 3, mWr M 3, fun Q => ?_, fun Q => ?_, fC_ref fC_adv, fM_wr fM_refl, Or.inl ⟨rfl, fl_ref pl⟩⟩
      · simp (disch := first | assumption | omega) only [e78_0, e78_1, e78_4, e78_5, e78_8, e78_11, e78_12, e78_13, e78_16, e78_17, e78_18, e78_21, e78_22, e78_25, e78_28, e78_29, e78_32, e78_33, e78_36, e78_37, e78_40, e78_43, e78_44, e78_47, e78_48, e78_49, e78_52, e78_53, e78_54, gK0_eq, gK1_eq, gK3_eq, w32_id, bI_eq0, bI_eq1, Bool.false_eq_true, not_true_eq_false, not_false_eq_true, ne_eq, ite_not, ↓reduceIte, if_true, if_false, Int.reduceToNat, Nat.reduceAdd, Int.reduceEq, Int.reduceLT, Int.reduceLE, Int.reduceNeg, bI_T, bI_F, ↓if_pos, ↓if_neg, ra, k_isName tk, c, v1, kb, c1, k_refuseR]
      · simp (disch := first | assumption | omega) only [e224_0, e224_1, e224_4, e224_5, e224_8, e224_9, e224_10, e224_13, e224_14, e224_15, e224_16, e224_19, e224_22, e224_25, e224_26, e224_27, e224_30, e224_33, e224_36, e224_37, e224_38, e224_41, e224_42, e224_43, e224_44, e224_47, e224_50, e224_51, e224_54, e224_55, gK0_eq, gK1_eq, gK3_eq, w32_id, bI_eq0, bI_eq1, Bool.false_eq_true, not_true_eq_false, not_false_eq_true, ne_eq, ite_not, ↓reduceIte, if_true, if_false, Int.reduceToNat, Nat.reduceAdd, Int.reduceEq, Int.reduceLT, Int.reduceLE, Int.reduceNeg, bI_T, bI_F, ↓if_pos, ↓if_neg, c, sb, show 0 ≤ x1 by omega, s_wrong]
  · refine ⟨0, cRef (cAdv C) 1, mWr M 1, fun Q => ?_, fun Q => ?_, fC_ref fC_adv, fM_wr fM_refl, Or.inl ⟨rfl, fl_ref pl⟩⟩
    · simp (disch := first | assumption | omega) only [e78_0, e78_1, e78_4, e78_5, e78_8, e78_11, e78_12, e78_13, e78_16, e78_17, e78_18, e78_21, e78_22, e78_25, e78_28, e78_29, e78_32, e78_33, e78_36, e78_37, e78_40, e78_43, e78_44, e78_47, e78_48, e78_49, e78_52, e78_53, e78_54, gK0_eq, gK1_eq, gK3_eq, w32_id, bI_eq0, bI_eq1, Bool.false_eq_true, not_true_eq_false, not_false_eq_true, ne_eq, ite_not, ↓reduceIte, if_true, if_false, Int.reduceToNat, Nat.reduceAdd, Int.reduceEq, Int.reduceLT, Int.reduceLE, Int.reduceNeg, bI_T, bI_F, ↓if_pos, ↓if_neg, ra, k_isName tk, c, k_refuseR]
    · simp (disch := first | assumption | omega) only [e224_0, e224_1, e224_4, e224_5, e224_8, e224_9, e224_10, e224_13, e224_14, e224_15, e224_16, e224_19, e224_22, e224_25, e224_26, e224_27, e224_30, e224_33, e224_36, e224_37, e224_38, e224_41, e224_42, e224_43, e224_44, e224_47, e224_50, e224_51, e224_54, e224_55, gK0_eq, gK1_eq, gK3_eq, w32_id, bI_eq0, bI_eq1, Bool.false_eq_true, not_true_eq_false, not_false_eq_true, ne_eq, ite_not, ↓reduceIte, if_true, if_false, Int.reduceToNat, Nat.reduceAdd, Int.reduceEq, Int.reduceLT, Int.reduceLE, Int.reduceNeg, bI_T, bI_F, ↓if_pos, ↓if_neg, c, s_wrong]
theorem x_told (h : tP C M) : ∃ (b r : Int) (C' M' : gM), (∀ Q : Int → gM → Prop, gE 80 0 [gO 4 1] [] C Q = Q r C') ∧ (∀ Q : Int → gM → Prop, gE 226 0 [gO 10 167] [] M Q = Q b M') ∧ fC C C' ∧ fM M M' ∧ ((b = 0 ∧ r = -2 ∧ fl C' M') ∨ (b = 1 ∧ sR C' M' ∧ dR C' M' ∧ (0 ≤ r ∧ r < xR M 167 12) ∧ M' 167 30 = r ∧ C 1 4 ≤ C' 1 4 ∧ (∀ (k : Nat) i, (k ≠ 167 ∨ i ≠ 30) → M' k i = M k i))) := by
  obtain ⟨ra, hs, hd, hp⟩ := cl_adv h
  have tk := hs.2.2.2.2
  have pl := hs.2.2.2.1
  have hI := hd.1
  have t := hd.2.1
  by_cases c : M 167 8 = 2
  · obtain ⟨s1, v1⟩ := nn_name tk c
    have kd := fun (Q : Int → gM → Prop) => k_deviceNamed (Q := Q) (l := M 167 9) hI t
    have sd := fun (Q : Int → gM → Prop) => s_deviceRead (Q := Q) (l := M 167 9) hI
    have n2 := hI.2.1
    have r2 := findF_rng (P := fun i => decide (xR M 173 i = M 167 9)) (xR M 167 12).toNat 0
    have fg : ∀ v, fM M (gS M 167 30 v) := fun v => fM_gS fM_refl (by omega)
    generalize findF (fun i => decide (xR M 173 i = M 167 9)) 0 (xR M 167 12).toNat = x2 at *
    by_cases c2 : x2 = -1
    · have pl2 : cAdv C 1 5 = gS M 167 30 x2 167 10 := by rw [gS_neI (by omega)]; exact pl
      refine ⟨0, -2, cRef (cAdv C) 4, mWr (gS M 167 30 x2) 4, fun Q => ?_, fun Q => ?_, fC_ref fC_adv, fM_wr (fg x2), Or.inl ⟨rfl, rfl, fl_ref pl2⟩⟩
      · simp (disch := first | assumption | omega) only [e80_0, e80_1, e80_4, e80_5, e80_8, e80_11, e80_12, e80_13, e80_16, e80_17, e80_20, e80_23, e80_26, e80_29, e80_30, e80_31, e80_34, gK0_eq, gK1_eq, gK3_eq, e81_0, e81_1, e81_2, e81_5, e81_6, e81_7, e81_10, e81_13, e81_14, gK0_eq, gK1_eq, gK3_eq, w32_id, bI_eq0, bI_eq1, Bool.false_eq_true, not_true_eq_false, not_false_eq_true, ne_eq, ite_not, ↓reduceIte, if_true, if_false, Int.reduceToNat, Nat.reduceAdd, Int.reduceEq, Int.reduceLT, Int.reduceLE, Int.reduceNeg, bI_T, bI_F, ↓if_pos, ↓if_neg, ra, k_isName tk, c, v1, kd, c2, k_refusedHere]
      · simp (disch := first | assumption | omega) only [e226_0, e226_1, e226_4, e226_5, e226_8, e226_9, e226_10, e226_13, e226_14, e226_15, e226_16, e226_17, e226_20, e226_23, e226_26, e226_27, e226_30, e226_33, e226_34, e226_35, e226_38, e226_39, e226_40, gK0_eq, gK1_eq, gK3_eq, w32_id, bI_eq0, bI_eq1, Bool.false_eq_true, not_true_eq_false, not_false_eq_true, ne_eq, ite_not, ↓reduceIte, if_true, if_false, Int.reduceToNat, Nat.reduceAdd, Int.reduceEq, Int.reduceLT, Int.reduceLE, Int.reduceNeg, bI_T, bI_F, ↓if_pos, ↓if_neg, c, sd, gS_same, show x2 < 0 by omega, s_wrong]
    · refine ⟨1, x2, cAdv C, gS M 167 30 x2, fun Q => ?_, fun Q => ?_, fC_adv, fg x2, Or.inr ⟨rfl, sR_got hs (by omega), dR_got hd, by omega, gS_same, hp, fun k i q => if_neg (by omega)⟩⟩
      · simp (disch := first | assumption | omega) only [e80_0, e80_1, e80_4, e80_5, e80_8, e80_11, e80_12, e80_13, e80_16, e80_17, e80_20, e80_23, e80_26, e80_29, e80_30, e80_31, e80_34, gK0_eq, gK1_eq, gK3_eq, e81_0, e81_1, e81_2, e81_5, e81_6, e81_7, e81_10, e81_13, e81_14, gK0_eq, gK1_eq, gK3_eq, w32_id, bI_eq0, bI_eq1, Bool.false_eq_true, not_true_eq_false, not_false_eq_true, ne_eq, ite_not, ↓reduceIte, if_true, if_false, Int.reduceToNat, Nat.reduceAdd, Int.reduceEq, Int.reduceLT, Int.reduceLE, Int.reduceNeg, bI_T, bI_F, ↓if_pos, ↓if_neg, ra, k_isName tk, c, v1, kd, c2]
      · simp (disch := first | assumption | omega) only [e226_0, e226_1, e226_4, e226_5, e226_8, e226_9, e226_10, e226_13, e226_14, e226_15, e226_16, e226_17, e226_20, e226_23, e226_26, e226_27, e226_30, e226_33, e226_34, e226_35, e226_38, e226_39, e226_40, gK0_eq, gK1_eq, gK3_eq, w32_id, bI_eq0, bI_eq1, Bool.false_eq_true, not_true_eq_false, not_false_eq_true, ne_eq, ite_not, ↓reduceIte, if_true, if_false, Int.reduceToNat, Nat.reduceAdd, Int.reduceEq, Int.reduceLT, Int.reduceLE, Int.reduceNeg, bI_T, bI_F, ↓if_pos, ↓if_neg, c, sd, gS_same, show ¬ x2 < 0 by omega]
  · refine ⟨0, -2, cRef (cAdv C) 1, mWr M 1, fun Q => ?_, fun Q => ?_, fC_ref fC_adv, fM_wr fM_refl, Or.inl ⟨rfl, rfl, fl_ref pl⟩⟩
    · simp (disch := first | assumption | omega) only [e80_0, e80_1, e80_4, e80_5, e80_8, e80_11, e80_12, e80_13, e80_16, e80_17, e80_20, e80_23, e80_26, e80_29, e80_30, e80_31, e80_34, gK0_eq, gK1_eq, gK3_eq, w32_id, bI_eq0, bI_eq1, Bool.false_eq_true, not_true_eq_false, not_false_eq_true, ne_eq, ite_not, ↓reduceIte, if_true, if_false, Int.reduceToNat, Nat.reduceAdd, Int.reduceEq, Int.reduceLT, Int.reduceLE, Int.reduceNeg, bI_T, bI_F, ↓if_pos, ↓if_neg, ra, k_isName tk, c, k_refusedHere]
    · simp (disch := first | assumption | omega) only [e226_0, e226_1, e226_4, e226_5, e226_8, e226_9, e226_10, e226_13, e226_14, e226_15, e226_16, e226_17, e226_20, e226_23, e226_26, e226_27, e226_30, e226_33, e226_34, e226_35, e226_38, e226_39, e226_40, gK0_eq, gK1_eq, gK3_eq, w32_id, bI_eq0, bI_eq1, Bool.false_eq_true, not_true_eq_false, not_false_eq_true, ne_eq, ite_not, ↓reduceIte, if_true, if_false, Int.reduceToNat, Nat.reduceAdd, Int.reduceEq, Int.reduceLT, Int.reduceLE, Int.reduceNeg, bI_T, bI_F, ↓if_pos, ↓if_neg, c, s_wrong]
theorem nn_root {s v k w : Int} (h : tokR s v k w) : (s = 1 ∧ v = 620220416) ↔ (k = 1 ∧ w = 7) := by
  rcases h with ⟨a, b⟩ | ⟨a, b, c, d⟩ | ⟨a, b, c, d⟩ | ⟨a, b, c⟩ | ⟨a, b⟩ | ⟨a, b⟩
  · omega
  · have e : w = 0 ∨ w = 1 ∨ w = 2 ∨ w = 3 ∨ w = 4 ∨ w = 5 ∨ w = 6 ∨ w = 7 := by omega
    rcases e with rfl | rfl | rfl | rfl | rfl | rfl | rfl | rfl
    · rw [kw_0] at d; omega
    · rw [kw_1] at d; omega
    · rw [kw_2] at d; omega
    · rw [kw_3] at d; omega
    · rw [kw_4] at d; omega
    · rw [kw_5] at d; omega
    · rw [kw_6] at d; omega
    · rw [kw_7] at d; omega
  · have d7 := d 7 (by omega) (by omega)
    rw [kw_7] at d7
    omega
  · omega
  · omega
  · omega
theorem x_beneath (h : tP C M) : ∃ (b r : Int) (C' M' : gM), (∀ Q : Int → gM → Prop, gE 79 0 [gO 4 1] [] C Q = Q r C') ∧ (∀ Q : Int → gM → Prop, gE 225 0 [gO 10 167] [] M Q = Q b M') ∧ fC C C' ∧ fM M M' ∧ ((b = 0 ∧ r = -2 ∧ fl C' M') ∨ (b = 1 ∧ tP C' M' ∧ (-1 ≤ r ∧ r < xR M 167 11) ∧ M' 167 30 = r ∧ C 1 4 ≤ C' 1 4)) := by
  obtain ⟨ra, hs, hd, hp⟩ := cl_adv h
  have tk := hs.2.2.2.2
  have pl := hs.2.2.2.1
  have hI := hd.1
  have t := hd.2.1
  have n1 := hI.1
  have rt := nn_root tk
  have fg : ∀ v, fM M (gS M 167 30 v) := fun v => fM_gS fM_refl (by omega)
  by_cases c0 : M 167 8 = 1 ∧ M 167 9 = 7
  · obtain ⟨s1, v1⟩ := rt.mpr c0
    obtain ⟨c01, c02⟩ := c0
    obtain ⟨p1, p2⟩ := tP_got (v := -1) hs hd
    refine ⟨1, -1, cAdv C, mTok (gS M 167 30 (-1)), fun Q => ?_, fun Q => ?_, fC_adv, fM_trans (fg _) fM_tok, Or.inr ⟨rfl, p1, by omega, by rw [mTok_ne (by omega), gS_same], hp⟩⟩
    · simp (disch := first | assumption | omega) only [e79_0, e79_1, e79_4, e79_5, e79_8, e79_9, e79_12, e79_13, e79_16, e79_18, e79_21, e79_22, e79_23, e79_24, e79_27, e79_30, e79_31, e79_32, e79_35, e79_36, e79_39, e79_42, e79_45, e79_48, e79_49, e79_50, e79_53, gK0_eq, gK1_eq, gK3_eq, w32_id, bI_eq0, bI_eq1, Bool.false_eq_true, not_true_eq_false, not_false_eq_true, ne_eq, ite_not, ↓reduceIte, if_true, if_false, Int.reduceToNat, Nat.reduceAdd, Int.reduceEq, Int.reduceLT, Int.reduceLE, Int.reduceNeg, bI_T, bI_F, ↓if_pos, ↓if_neg, ra, s1, v1]
    · simp (disch := first | assumption | omega) only [e225_0, e225_1, e225_4, e225_5, e225_8, e225_9, e225_12, e225_14, e225_17, e225_18, e225_19, e225_22, e225_25, e225_26, e225_29, e225_30, e225_33, e225_34, e225_35, e225_38, e225_39, e225_40, e225_41, e225_42, e225_45, e225_48, e225_51, e225_52, e225_55, e225_58, e225_59, e225_60, e225_63, e225_64, e225_65, e225_68, e225_69, gK0_eq, gK1_eq, gK3_eq, w32_id, bI_eq0, bI_eq1, Bool.false_eq_true, not_true_eq_false, not_false_eq_true, ne_eq, ite_not, ↓reduceIte, if_true, if_false, Int.reduceToNat, Nat.reduceAdd, Int.reduceEq, Int.reduceLT, Int.reduceLE, Int.reduceNeg, bI_T, bI_F, ↓if_pos, ↓if_neg, c01, c02, p2]
  · have nr : ¬ (cAdv C 1 6 = 1 ∧ cAdv C 1 7 = 620220416) := fun z => c0 (rt.mp z)
    by_cases c : M 167 8 = 2
    · obtain ⟨s1, v1⟩ := nn_name tk c
      have v7 : ¬ M 167 9 = 620220416 := fun z => nr ⟨s1, by omega⟩
      have kb := fun (Q : Int → gM → Prop) => k_bridgeNamed (Q := Q) (l := M 167 9) hI t
      have sb := fun (Q : Int → gM → Prop) => s_bridgeRead (Q := Q) (l := M 167 9) hI
      have r1 := findF_rng (P := fun i => decide (xR M 170 i = M 167 9)) (xR M 167 11).toNat 0
      generalize findF (fun i => decide (xR M 170 i = M 167 9)) 0 (xR M 167 11).toNat = x1 at *
      by_cases c1 : x1 = -1
      · have pl2 : cAdv C 1 5 = gS M 167 30 x1 167 10 := by rw [gS_neI (by omega)]; exact pl
        refine ⟨0, -2, cRef (cAdv C) 4, mWr (gS M 167 30 x1) 4, fun Q => ?_, fun Q => ?_, fC_ref fC_adv, fM_wr (fg x1), Or.inl ⟨rfl, rfl, fl_ref pl2⟩⟩
        · simp (disch := first | assumption | omega) only [e79_0, e79_1, e79_4, e79_5, e79_8, e79_9, e79_12, e79_13, e79_16, e79_18, e79_21, e79_22, e79_23, e79_24, e79_27, e79_30, e79_31, e79_32, e79_35, e79_36, e79_39, e79_42, e79_45, e79_48, e79_49, e79_50, e79_53, gK0_eq, gK1_eq, gK3_eq, e81_0, e81_1, e81_2, e81_5, e81_6, e81_7, e81_10, e81_13, e81_14, gK0_eq, gK1_eq, gK3_eq, w32_id, bI_eq0, bI_eq1, Bool.false_eq_true, not_true_eq_false, not_false_eq_true, ne_eq, ite_not, ↓reduceIte, if_true, if_false, Int.reduceToNat, Nat.reduceAdd, Int.reduceEq, Int.reduceLT, Int.reduceLE, Int.reduceNeg, bI_T, bI_F, ↓if_pos, ↓if_neg, ra, s1, v1, v7, k_isName tk, c, kb, c1, k_refusedHere]
        · simp (disch := first | assumption | omega) only [e225_0, e225_1, e225_4, e225_5, e225_8, e225_9, e225_12, e225_14, e225_17, e225_18, e225_19, e225_22, e225_25, e225_26, e225_29, e225_30, e225_33, e225_34, e225_35, e225_38, e225_39, e225_40, e225_41, e225_42, e225_45, e225_48, e225_51, e225_52, e225_55, e225_58, e225_59, e225_60, e225_63, e225_64, e225_65, e225_68, e225_69, gK0_eq, gK1_eq, gK3_eq, w32_id, bI_eq0, bI_eq1, Bool.false_eq_true, not_true_eq_false, not_false_eq_true, ne_eq, ite_not, ↓reduceIte, if_true, if_false, Int.reduceToNat, Nat.reduceAdd, Int.reduceEq, Int.reduceLT, Int.reduceLE, Int.reduceNeg, bI_T, bI_F, ↓if_pos, ↓if_neg, c, sb, gS_same, show x1 < 0 by omega, s_wrong]
      · obtain ⟨p1, p2⟩ := tP_got (v := x1) hs hd
        refine ⟨1, x1, cAdv C, mTok (gS M 167 30 x1), fun Q => ?_, fun Q => ?_, fC_adv, fM_trans (fg _) fM_tok, Or.inr ⟨rfl, p1, by omega, by rw [mTok_ne (by omega), gS_same], hp⟩⟩
        · simp (disch := first | assumption | omega) only [e79_0, e79_1, e79_4, e79_5, e79_8, e79_9, e79_12, e79_13, e79_16, e79_18, e79_21, e79_22, e79_23, e79_24, e79_27, e79_30, e79_31, e79_32, e79_35, e79_36, e79_39, e79_42, e79_45, e79_48, e79_49, e79_50, e79_53, gK0_eq, gK1_eq, gK3_eq, e81_0, e81_1, e81_2, e81_5, e81_6, e81_7, e81_10, e81_13, e81_14, gK0_eq, gK1_eq, gK3_eq, w32_id, bI_eq0, bI_eq1, Bool.false_eq_true, not_true_eq_false, not_false_eq_true, ne_eq, ite_not, ↓reduceIte, if_true, if_false, Int.reduceToNat, Nat.reduceAdd, Int.reduceEq, Int.reduceLT, Int.reduceLE, Int.reduceNeg, bI_T, bI_F, ↓if_pos, ↓if_neg, ra, s1, v1, v7, k_isName tk, c, kb, c1]
        · simp (disch := first | assumption | omega) only [e225_0, e225_1, e225_4, e225_5, e225_8, e225_9, e225_12, e225_14, e225_17, e225_18, e225_19, e225_22, e225_25, e225_26, e225_29, e225_30, e225_33, e225_34, e225_35, e225_38, e225_39, e225_40, e225_41, e225_42, e225_45, e225_48, e225_51, e225_52, e225_55, e225_58, e225_59, e225_60, e225_63, e225_64, e225_65, e225_68, e225_69, gK0_eq, gK1_eq, gK3_eq, w32_id, bI_eq0, bI_eq1, Bool.false_eq_true, not_true_eq_false, not_false_eq_true, ne_eq, ite_not, ↓reduceIte, if_true, if_false, Int.reduceToNat, Nat.reduceAdd, Int.reduceEq, Int.reduceLT, Int.reduceLE, Int.reduceNeg, bI_T, bI_F, ↓if_pos, ↓if_neg, c, sb, gS_same, show ¬ x1 < 0 by omega, p2]
    · refine ⟨0, -2, cRef (cAdv C) 1, mWr M 1, fun Q => ?_, fun Q => ?_, fC_ref fC_adv, fM_wr fM_refl, Or.inl ⟨rfl, rfl, fl_ref pl⟩⟩
      · by_cases q : cAdv C 1 6 = 1
        · have v7 : ¬ cAdv C 1 7 = 620220416 := fun z => nr ⟨q, z⟩
          simp (disch := first | assumption | omega) only [e79_0, e79_1, e79_4, e79_5, e79_8, e79_9, e79_12, e79_13, e79_16, e79_18, e79_21, e79_22, e79_23, e79_24, e79_27, e79_30, e79_31, e79_32, e79_35, e79_36, e79_39, e79_42, e79_45, e79_48, e79_49, e79_50, e79_53, gK0_eq, gK1_eq, gK3_eq, w32_id, bI_eq0, bI_eq1, Bool.false_eq_true, not_true_eq_false, not_false_eq_true, ne_eq, ite_not, ↓reduceIte, if_true, if_false, Int.reduceToNat, Nat.reduceAdd, Int.reduceEq, Int.reduceLT, Int.reduceLE, Int.reduceNeg, bI_T, bI_F, ↓if_pos, ↓if_neg, ra, q, v7, k_isName tk, c, k_refusedHere]
        · simp (disch := first | assumption | omega) only [e79_0, e79_1, e79_4, e79_5, e79_8, e79_9, e79_12, e79_13, e79_16, e79_18, e79_21, e79_22, e79_23, e79_24, e79_27, e79_30, e79_31, e79_32, e79_35, e79_36, e79_39, e79_42, e79_45, e79_48, e79_49, e79_50, e79_53, gK0_eq, gK1_eq, gK3_eq, w32_id, bI_eq0, bI_eq1, Bool.false_eq_true, not_true_eq_false, not_false_eq_true, ne_eq, ite_not, ↓reduceIte, if_true, if_false, Int.reduceToNat, Nat.reduceAdd, Int.reduceEq, Int.reduceLT, Int.reduceLE, Int.reduceNeg, bI_T, bI_F, ↓if_pos, ↓if_neg, ra, q, k_isName tk, c, k_refusedHere]
      · by_cases q : M 167 8 = 1
        · have w7 : ¬ M 167 9 = 7 := fun z => c0 ⟨q, z⟩
          simp (disch := first | assumption | omega) only [e225_0, e225_1, e225_4, e225_5, e225_8, e225_9, e225_12, e225_14, e225_17, e225_18, e225_19, e225_22, e225_25, e225_26, e225_29, e225_30, e225_33, e225_34, e225_35, e225_38, e225_39, e225_40, e225_41, e225_42, e225_45, e225_48, e225_51, e225_52, e225_55, e225_58, e225_59, e225_60, e225_63, e225_64, e225_65, e225_68, e225_69, gK0_eq, gK1_eq, gK3_eq, w32_id, bI_eq0, bI_eq1, Bool.false_eq_true, not_true_eq_false, not_false_eq_true, ne_eq, ite_not, ↓reduceIte, if_true, if_false, Int.reduceToNat, Nat.reduceAdd, Int.reduceEq, Int.reduceLT, Int.reduceLE, Int.reduceNeg, bI_T, bI_F, ↓if_pos, ↓if_neg, q, w7, s_wrong]
        · simp (disch := first | assumption | omega) only [e225_0, e225_1, e225_4, e225_5, e225_8, e225_9, e225_12, e225_14, e225_17, e225_18, e225_19, e225_22, e225_25, e225_26, e225_29, e225_30, e225_33, e225_34, e225_35, e225_38, e225_39, e225_40, e225_41, e225_42, e225_45, e225_48, e225_51, e225_52, e225_55, e225_58, e225_59, e225_60, e225_63, e225_64, e225_65, e225_68, e225_69, gK0_eq, gK1_eq, gK3_eq, w32_id, bI_eq0, bI_eq1, Bool.false_eq_true, not_true_eq_false, not_false_eq_true, ne_eq, ite_not, ↓reduceIte, if_true, if_false, Int.reduceToNat, Nat.reduceAdd, Int.reduceEq, Int.reduceLT, Int.reduceLE, Int.reduceNeg, bI_T, bI_F, ↓if_pos, ↓if_neg, q, c, s_wrong]
theorem nn_num {s v k w : Int} (h : tokR s v k w) : (s = 2 ↔ k = 3) ∧ (s = 2 → v = w ∨ (99999 < v ∧ 99999 < w)) := by
  rcases h with ⟨a, b⟩ | ⟨a, b, c, d⟩ | ⟨a, b, c, d⟩ | ⟨a, b, c⟩ | ⟨a, b⟩ | ⟨a, b⟩ <;> omega
theorem nn_pos {s v k w : Int} (h : tokR s v k w) (hk : k = 3) : 0 ≤ w := by
  rcases h with ⟨a, b⟩ | ⟨a, b, c, d⟩ | ⟨a, b, c, d⟩ | ⟨a, b, c⟩ | ⟨a, b⟩ | ⟨a, b⟩ <;> omega
theorem x_number {lo hi : Int} (hlo : 0 ≤ lo ∧ lo ≤ hi ∧ hi ≤ 99999) (h : tP C M) : ∃ (b : Int) (C' M' : gM), (∀ Q : Int → gM → Prop, gE 82 0 [gO 4 1, gI lo, gI hi] [] C Q = Q b C') ∧ (∀ Q : Int → gM → Prop, gE 223 0 [gO 10 167, gI lo, gI hi] [] M Q = Q b M') ∧ fC C C' ∧ fM M M' ∧ ((b = 0 ∧ fl C' M' ∧ (M 167 8 ≠ 3 ∨ M 167 9 < lo ∨ hi < M 167 9)) ∨ (b = 1 ∧ tP C' M' ∧ (lo ≤ C' 1 7 ∧ C' 1 7 ≤ hi) ∧ M' 167 30 = C' 1 7 ∧ C 1 4 ≤ C' 1 4 ∧ (M 167 8 = 3 ∧ M 167 9 = C' 1 7 ∧ C' 1 5 = M 167 10))) := by
  obtain ⟨ra, hs, hd, hp⟩ := cl_adv h
  have tk := hs.2.2.2.2
  have pl := hs.2.2.2.1
  obtain ⟨n1, n2⟩ := nn_num tk
  by_cases c : M 167 8 = 3
  · have c' := n1.mpr c
    have n2 := n2 c'
    by_cases c2 : lo ≤ M 167 9 ∧ M 167 9 ≤ hi
    · have v1 : cAdv C 1 7 = M 167 9 := by omega
      obtain ⟨c3, c4⟩ := id c2
      obtain ⟨p1, p2⟩ := tP_got (v := M 167 9) hs hd
      refine ⟨1, cAdv C, mTok (gS M 167 30 (M 167 9)), fun Q => ?_, fun Q => ?_, fC_adv, fM_trans (fM_gS fM_refl (by omega)) fM_tok, Or.inr ⟨rfl, p1, by rw [v1]; exact c2, by rw [mTok_ne (by omega), gS_same, v1], hp, c, v1.symm, pl⟩⟩
      · simp (disch := first | assumption | omega) only [e82_0, e82_1, e82_4, e82_5, e82_8, e82_9, e82_12, e82_13, e82_14, e82_17, e82_18, e82_19, e82_22, e82_23, e82_26, e82_27, e82_30, e82_31, e82_34, e82_35, e82_36, e82_39, e82_42, e82_43, e82_46, e82_47, gK0_eq, gK1_eq, gK3_eq, w32_id, bI_eq0, bI_eq1, Bool.false_eq_true, not_true_eq_false, not_false_eq_true, ne_eq, ite_not, ↓reduceIte, if_true, if_false, Int.reduceToNat, Nat.reduceAdd, Int.reduceEq, Int.reduceLT, Int.reduceLE, Int.reduceNeg, bI_T, bI_F, ↓if_pos, ↓if_neg, ra, c', v1, show ¬ M 167 9 < lo by omega, c4]
      · simp (disch := first | assumption | omega) only [e223_0, e223_1, e223_4, e223_5, e223_8, e223_9, e223_10, e223_13, e223_14, e223_15, e223_18, e223_19, e223_20, e223_23, e223_26, e223_27, e223_28, e223_31, e223_32, e223_33, e223_34, e223_37, e223_40, e223_41, e223_44, e223_45, gK0_eq, gK1_eq, gK3_eq, w32_id, bI_eq0, bI_eq1, Bool.false_eq_true, not_true_eq_false, not_false_eq_true, ne_eq, ite_not, ↓reduceIte, if_true, if_false, Int.reduceToNat, Nat.reduceAdd, Int.reduceEq, Int.reduceLT, Int.reduceLE, Int.reduceNeg, bI_T, bI_F, ↓if_pos, ↓if_neg, c, s_isIn, c2, and_self, p2]
    · have c3 : cAdv C 1 7 < lo ∨ hi < cAdv C 1 7 := by omega
      refine ⟨0, cRef (cAdv C) 2, mWr M 2, fun Q => ?_, fun Q => ?_, fC_ref fC_adv, fM_wr fM_refl, Or.inl ⟨rfl, fl_ref pl, by omega⟩⟩
      · by_cases c4 : cAdv C 1 7 < lo
        · simp (disch := first | assumption | omega) only [e82_0, e82_1, e82_4, e82_5, e82_8, e82_9, e82_12, e82_13, e82_14, e82_17, e82_18, e82_19, e82_22, e82_23, e82_26, e82_27, e82_30, e82_31, e82_34, e82_35, e82_36, e82_39, e82_42, e82_43, e82_46, e82_47, gK0_eq, gK1_eq, gK3_eq, w32_id, bI_eq0, bI_eq1, Bool.false_eq_true, not_true_eq_false, not_false_eq_true, ne_eq, ite_not, ↓reduceIte, if_true, if_false, Int.reduceToNat, Nat.reduceAdd, Int.reduceEq, Int.reduceLT, Int.reduceLE, Int.reduceNeg, bI_T, bI_F, ↓if_pos, ↓if_neg, ra, c', c4, k_refuseR]
        · simp (disch := first | assumption | omega) only [e82_0, e82_1, e82_4, e82_5, e82_8, e82_9, e82_12, e82_13, e82_14, e82_17, e82_18, e82_19, e82_22, e82_23, e82_26, e82_27, e82_30, e82_31, e82_34, e82_35, e82_36, e82_39, e82_42, e82_43, e82_46, e82_47, gK0_eq, gK1_eq, gK3_eq, w32_id, bI_eq0, bI_eq1, Bool.false_eq_true, not_true_eq_false, not_false_eq_true, ne_eq, ite_not, ↓reduceIte, if_true, if_false, Int.reduceToNat, Nat.reduceAdd, Int.reduceEq, Int.reduceLT, Int.reduceLE, Int.reduceNeg, bI_T, bI_F, ↓if_pos, ↓if_neg, ra, c', c4, show ¬ cAdv C 1 7 ≤ hi by omega, k_refuseR]
      · simp (disch := first | assumption | omega) only [e223_0, e223_1, e223_4, e223_5, e223_8, e223_9, e223_10, e223_13, e223_14, e223_15, e223_18, e223_19, e223_20, e223_23, e223_26, e223_27, e223_28, e223_31, e223_32, e223_33, e223_34, e223_37, e223_40, e223_41, e223_44, e223_45, gK0_eq, gK1_eq, gK3_eq, w32_id, bI_eq0, bI_eq1, Bool.false_eq_true, not_true_eq_false, not_false_eq_true, ne_eq, ite_not, ↓reduceIte, if_true, if_false, Int.reduceToNat, Nat.reduceAdd, Int.reduceEq, Int.reduceLT, Int.reduceLE, Int.reduceNeg, bI_T, bI_F, ↓if_pos, ↓if_neg, c, s_isIn, c2, s_wrong]
  · have c' : ¬ cAdv C 1 6 = 2 := fun z => c (n1.mp z)
    refine ⟨0, cRef (cAdv C) 1, mWr M 1, fun Q => ?_, fun Q => ?_, fC_ref fC_adv, fM_wr fM_refl, Or.inl ⟨rfl, fl_ref pl, by omega⟩⟩
    · simp (disch := first | assumption | omega) only [e82_0, e82_1, e82_4, e82_5, e82_8, e82_9, e82_12, e82_13, e82_14, e82_17, e82_18, e82_19, e82_22, e82_23, e82_26, e82_27, e82_30, e82_31, e82_34, e82_35, e82_36, e82_39, e82_42, e82_43, e82_46, e82_47, gK0_eq, gK1_eq, gK3_eq, w32_id, bI_eq0, bI_eq1, Bool.false_eq_true, not_true_eq_false, not_false_eq_true, ne_eq, ite_not, ↓reduceIte, if_true, if_false, Int.reduceToNat, Nat.reduceAdd, Int.reduceEq, Int.reduceLT, Int.reduceLE, Int.reduceNeg, bI_T, bI_F, ↓if_pos, ↓if_neg, ra, c', k_refuseR]
    · simp (disch := first | assumption | omega) only [e223_0, e223_1, e223_4, e223_5, e223_8, e223_9, e223_10, e223_13, e223_14, e223_15, e223_18, e223_19, e223_20, e223_23, e223_26, e223_27, e223_28, e223_31, e223_32, e223_33, e223_34, e223_37, e223_40, e223_41, e223_44, e223_45, gK0_eq, gK1_eq, gK3_eq, w32_id, bI_eq0, bI_eq1, Bool.false_eq_true, not_true_eq_false, not_false_eq_true, ne_eq, ite_not, ↓reduceIte, if_true, if_false, Int.reduceToNat, Nat.reduceAdd, Int.reduceEq, Int.reduceLT, Int.reduceLE, Int.reduceNeg, bI_T, bI_F, ↓if_pos, ↓if_neg, c, s_wrong]
theorem nn_stop {s v k w : Int} (h : tokR s v k w) : s = 3 ↔ k = 4 := by
  rcases h with ⟨a, b⟩ | ⟨a, b, c, d⟩ | ⟨a, b, c, d⟩ | ⟨a, b, c⟩ | ⟨a, b⟩ | ⟨a, b⟩ <;> omega
/-- the class reads the stop; the check's end of a line, from its pc 122 with 1 as its answer so far -/
theorem x_stop (h : tP C M) : ∃ (b : Int) (C' M' : gM), (∀ Q : Int → gM → Prop, gE 83 0 [gO 4 1] [] C Q = Q b C') ∧ (∀ Q : Int → gM → Prop, gE 234 122 [gO 10 167, gI 1] [] M Q = Q b M') ∧ fC C C' ∧ fM M M' ∧ ((b = 0 ∧ fl C' M') ∨ (b = 1 ∧ tP C' M' ∧ C 1 4 + 1 ≤ C' 1 4)) := by
  obtain ⟨ra, hs, hd, hp⟩ := cl_adv h
  have tk := hs.2.2.2.2
  have pl := hs.2.2.2.1
  have n1 := nn_stop tk
  by_cases c : M 167 8 = 4
  · have c' := n1.mpr c
    have p := (adv_4 (C := C) ⟨h.2.2.1, h.2.2.2.1⟩).2.2 c'
    refine ⟨1, cAdv C, mTok M, fun Q => ?_, fun Q => ?_, fC_adv, fM_tok, Or.inr ⟨rfl, tP_of hs hd, p⟩⟩
    · simp (disch := first | assumption | omega) only [e83_0, e83_1, e83_4, e83_5, e83_8, e83_9, e83_12, e83_13, e83_14, e83_17, e83_20, e83_21, e83_24, e83_25, gK0_eq, gK1_eq, gK3_eq, w32_id, bI_eq0, bI_eq1, Bool.false_eq_true, not_true_eq_false, not_false_eq_true, ne_eq, ite_not, ↓reduceIte, if_true, if_false, Int.reduceToNat, Nat.reduceAdd, Int.reduceEq, Int.reduceLT, Int.reduceLE, Int.reduceNeg, bI_T, bI_F, ↓if_pos, ↓if_neg, ra, c']
    · simp (disch := first | assumption | omega) only [e234_0, e234_1, e234_4, e234_5, e234_8, e234_9, e234_10, e234_13, e234_14, e234_15, e234_18_c0, e234_18_c1, e234_18_c2, e234_18_c3, e234_18_c4, e234_18_c5, e234_18_c6, e234_18_d, e234_60, e234_61, e234_64, e234_65, e234_68, e234_69, e234_72, e234_73, e234_76, e234_77, e234_80, e234_81, e234_84, e234_85, e234_88, e234_89, e234_92, e234_93, e234_96, e234_97, e234_100, e234_101, e234_104, e234_105, e234_108, e234_109, e234_112, e234_113, e234_116, e234_117, e234_118, e234_121, e234_122, e234_123, e234_126, e234_127, e234_128, e234_129, e234_132, e234_133, e234_136, e234_137, e234_138, e234_141, e234_142, e234_143, e234_146, e234_147, gK0_eq, gK1_eq, gK3_eq, w32_id, bI_eq0, bI_eq1, Bool.false_eq_true, not_true_eq_false, not_false_eq_true, ne_eq, ite_not, ↓reduceIte, if_true, if_false, Int.reduceToNat, Nat.reduceAdd, Int.reduceEq, Int.reduceLT, Int.reduceLE, Int.reduceNeg, bI_T, bI_F, ↓if_pos, ↓if_neg, c, run_tokS hs]
  · have c' : ¬ cAdv C 1 6 = 3 := fun z => c (n1.mp z)
    refine ⟨0, cRef (cAdv C) 1, mWr M 1, fun Q => ?_, fun Q => ?_, fC_ref fC_adv, fM_wr fM_refl, Or.inl ⟨rfl, fl_ref pl⟩⟩
    · simp (disch := first | assumption | omega) only [e83_0, e83_1, e83_4, e83_5, e83_8, e83_9, e83_12, e83_13, e83_14, e83_17, e83_20, e83_21, e83_24, e83_25, gK0_eq, gK1_eq, gK3_eq, w32_id, bI_eq0, bI_eq1, Bool.false_eq_true, not_true_eq_false, not_false_eq_true, ne_eq, ite_not, ↓reduceIte, if_true, if_false, Int.reduceToNat, Nat.reduceAdd, Int.reduceEq, Int.reduceLT, Int.reduceLE, Int.reduceNeg, bI_T, bI_F, ↓if_pos, ↓if_neg, ra, c', k_refuseR]
    · simp (disch := first | assumption | omega) only [e234_0, e234_1, e234_4, e234_5, e234_8, e234_9, e234_10, e234_13, e234_14, e234_15, e234_18_c0, e234_18_c1, e234_18_c2, e234_18_c3, e234_18_c4, e234_18_c5, e234_18_c6, e234_18_d, e234_60, e234_61, e234_64, e234_65, e234_68, e234_69, e234_72, e234_73, e234_76, e234_77, e234_80, e234_81, e234_84, e234_85, e234_88, e234_89, e234_92, e234_93, e234_96, e234_97, e234_100, e234_101, e234_104, e234_105, e234_108, e234_109, e234_112, e234_113, e234_116, e234_117, e234_118, e234_121, e234_122, e234_123, e234_126, e234_127, e234_128, e234_129, e234_132, e234_133, e234_136, e234_137, e234_138, e234_141, e234_142, e234_143, e234_146, e234_147, gK0_eq, gK1_eq, gK3_eq, w32_id, bI_eq0, bI_eq1, Bool.false_eq_true, not_true_eq_false, not_false_eq_true, ne_eq, ite_not, ↓reduceIte, if_true, if_false, Int.reduceToNat, Nat.reduceAdd, Int.reduceEq, Int.reduceLT, Int.reduceLE, Int.reduceNeg, bI_T, bI_F, ↓if_pos, ↓if_neg, c, s_wrong]
end STEPS
