/-! the class: its queue -/
def gFr (lo hi : Nat) (μ μ' : gM) : Prop := ∀ (k : Nat) (i : Int), (k < lo ∨ hi ≤ k) → μ' k i = μ k i
theorem gFr_refl {lo hi : Nat} {μ : gM} : gFr lo hi μ μ := fun _ _ _ => rfl
theorem gFr_trans {lo hi : Nat} {μ μ' μ'' : gM} (h : gFr lo hi μ μ') (h' : gFr lo hi μ' μ'') : gFr lo hi μ μ'' := fun k i q => by rw [h' k i q, h k i q]
theorem gFr_mono {lo hi lo' hi' : Nat} {μ μ' : gM} (h : gFr lo hi μ μ') (h1 : lo' ≤ lo) (h2 : hi ≤ hi') : gFr lo' hi' μ μ' := fun k i q => h k i (by omega)
theorem gFr_gS {lo hi k : Nat} {i v : Int} {μ μ' : gM} (h : gFr lo hi μ μ') (h1 : lo ≤ k) (h2 : k < hi) : gFr lo hi μ (gS μ' k i v) := fun a j q => by rw [gS_neK (by omega), h a j q]
theorem gFr_mrow {lo hi k : Nat} {f : Int → Int} {μ μ' : gM} (h : gFr lo hi μ μ') (h1 : lo ≤ k) (h2 : k < hi) : gFr lo hi μ (mrow μ' k f) := fun a j q => by rw [mrow_ne (by omega), h a j q]
def rQu (x : Nat) (T : Int → Int) (μ : gM) : Prop := (0 ≤ T 1681 ∧ T 1681 ≤ 32) ∧ μ x 0 = T 1681 ∧ μ x 5 = T 1810 ∧ μ x 6 = T 1811 ∧ μ x 7 = T 1812 ∧
  ∀ k, 0 ≤ k → k < T 1681 → μ (x + 1) k = T (1682 + 4 * k) ∧ μ (x + 2) k = T (1682 + 4 * k + 1) ∧ μ (x + 3) k = T (1682 + 4 * k + 2) ∧ μ (x + 4) k = T (1682 + 4 * k + 3)
section QUEUE
variable {x y : Nat} {T T' : Int → Int} {μ μ' : gM} {Q : Int → gM → Prop}
theorem rQu_tr (h : rQu x T μ) (h0 : ∀ i, μ' y i = μ x i ∨ (i ≠ 0 ∧ i ≠ 5 ∧ i ≠ 6 ∧ i ≠ 7)) (hr : ∀ i, 0 ≤ i → i < 32 → μ' (y + 1) i = μ (x + 1) i ∧ μ' (y + 2) i = μ (x + 2) i ∧ μ' (y + 3) i = μ (x + 3) i ∧ μ' (y + 4) i = μ (x + 4) i) (hT : ∀ j, 1681 ≤ j → j ≤ 1812 → T' j = T j) : rQu y T' μ' := by
  obtain ⟨h1, h2, h3, h4, h5, h6⟩ := h
  have e0 : μ' y 0 = μ x 0 := (h0 0).resolve_right (by omega)
  have e5 : μ' y 5 = μ x 5 := (h0 5).resolve_right (by omega)
  have e6 : μ' y 6 = μ x 6 := (h0 6).resolve_right (by omega)
  have e7 : μ' y 7 = μ x 7 := (h0 7).resolve_right (by omega)
  have t1 := hT 1681 (by omega) (by omega)
  refine ⟨by rw [t1]; exact h1, by rw [e0, t1]; exact h2, by rw [e5, hT 1810 (by omega) (by omega)]; exact h3, by rw [e6, hT 1811 (by omega) (by omega)]; exact h4, by rw [e7, hT 1812 (by omega) (by omega)]; exact h5, fun k k0 k1 => ?_⟩
  rw [t1] at k1
  obtain ⟨a1, a2, a3, a4⟩ := hr k k0 (by omega)
  obtain ⟨b1, b2, b3, b4⟩ := h6 k k0 k1
  rw [a1, a2, a3, a4, hT _ (by omega) (by omega), hT _ (by omega) (by omega), hT _ (by omega) (by omega), hT _ (by omega) (by omega)]
  exact ⟨b1, b2, b3, b4⟩
theorem rQu_fr {lo hi : Nat} (h : rQu x T μ) (hf : gFr lo hi μ μ') (hd : x + 5 ≤ lo ∨ hi ≤ x) (hT : ∀ j, 1681 ≤ j → j ≤ 1812 → T' j = T j) : rQu x T' μ' :=
  rQu_tr h (fun i => Or.inl (hf _ _ (by omega))) (fun i _ _ => ⟨hf _ _ (by omega), hf _ _ (by omega), hf _ _ (by omega), hf _ _ (by omega)⟩) hT
theorem tCom_at {s d a : Int} (hq : 0 ≤ T 1681) {k : Int} (h0 : 0 ≤ k) (h1 : k < T 1681) (h32 : T 1681 < 32) : tCom T s d a (1682 + 4 * k) = T (1682 + 4 * k) ∧ tCom T s d a (1682 + 4 * k + 1) = T (1682 + 4 * k + 1) ∧ tCom T s d a (1682 + 4 * k + 2) = T (1682 + 4 * k + 2) ∧ tCom T s d a (1682 + 4 * k + 3) = T (1682 + 4 * k + 3) := by
  simp (disch := first | assumption | omega) only [tCom, tS_ne, and_self]
theorem tCom_new {s d a : Int} (hq : 0 ≤ T 1681) (h32 : T 1681 < 32) : tCom T s d a (1682 + 4 * T 1681) = s ∧ tCom T s d a (1682 + 4 * T 1681 + 1) = d ∧ tCom T s d a (1682 + 4 * T 1681 + 2) = a ∧ tCom T s d a (1682 + 4 * T 1681 + 3) = w32 (T 1810 + 1) := by
  simp (disch := first | assumption | omega) only [tCom, tS_ne, tS_same, and_self]
theorem tCom_1810 {s d a : Int} (hq : 0 ≤ T 1681) (h32 : T 1681 < 32) : tCom T s d a 1810 = w32 (T 1810 + 1) := by
  simp (disch := first | assumption | omega) only [tCom, tS_ne, tS_same]
theorem k_Qadd {s d a : Int} (h : rQu x T μ) (hq : T 1681 < 32) : ∃ μ', gFr x (x + 5) μ μ' ∧ rQu x (tCom T s d a) μ' ∧ ∀ Q : Int → gM → Prop, gE 132 0 [gO 3 x, gI s, gI d, gI a] [] μ Q = Q 0 μ' := by
  obtain ⟨hl, h0, h5, h6, h7, hr⟩ := h
  have hl0 := hl.1
  refine ⟨?m, ?f, ?r, fun Q => ?run⟩
  case run =>
    simp (disch := first | assumption | omega) only [e132_0, e132_1, e132_4, e132_6, e132_9, e132_10, e132_11, e132_12, e132_15, e132_16, e132_17, e132_20, e132_21, e132_24, e132_25, e132_28, e132_29, e132_32, e132_33, e132_36, e132_37, e132_40, e132_41, e132_44, e132_45, e132_48, e132_49, e132_52, e132_53, e132_56, e132_57, e132_60, e132_61, e132_64, e132_65, e132_68, e132_71, e132_72, e132_73, e132_76, e132_77, e132_78, e132_81, gK0_eq, gK1_eq, gK3_eq, w32_id, bI_eq0, bI_eq1, Bool.false_eq_true, not_true_eq_false, not_false_eq_true, ne_eq, ite_not, ↓reduceIte, if_true, if_false, Int.reduceToNat, Nat.reduceAdd, Int.reduceEq, Int.reduceLT, Int.reduceLE, Int.reduceNeg, bI_T, bI_F, ↓if_pos, ↓if_neg, s_put', putv_in, gS_same, gS_neK, gS_neI, h0, h5, hq]
    exact rfl
  case f => intro k i hk; simp (disch := first | assumption | omega) only [gS_neK]
  case r =>
    have n := tCom_new (T := T) (s := s) (d := d) (a := a) hl0 hq
    refine ⟨by rw [tCom_1681]; omega, by rw [tCom_1681]; simp (disch := first | assumption | omega) only [gS_same, gS_neK, gS_neI], ?_, ?_, ?_, fun k k0 k1 => ?_⟩
    · rw [tCom_1810 hl0 hq]; simp (disch := first | assumption | omega) only [gS_same, gS_neK, gS_neI]
    · rw [tCom_lo (by omega) (by omega)]; simp (disch := first | assumption | omega) only [gS_same, gS_neK, gS_neI, h6]
    · rw [tCom_lo (by omega) (by omega)]; simp (disch := first | assumption | omega) only [gS_same, gS_neK, gS_neI, h7]
    · rw [tCom_1681] at k1
      by_cases c : k = T 1681
      · subst c
        rw [n.1, n.2.1, n.2.2.1, n.2.2.2]
        simp (disch := first | assumption | omega) only [gS_same, gS_neK, gS_neI, and_self]
      · obtain ⟨a1, a2, a3, a4⟩ := tCom_at (s := s) (d := d) (a := a) hl0 k0 (by omega) hq
        obtain ⟨b1, b2, b3, b4⟩ := hr k k0 (by omega)
        rw [a1, a2, a3, a4]
        simp (disch := first | assumption | omega) only [gS_same, gS_neK, gS_neI, b1, b2, b3, b4, and_self]
theorem k_QaddPage {d a : Int} (h : rQu x T μ) (hq : T 1681 < 32) : ∃ μ', gFr x (x + 5) μ μ' ∧ rQu x (tCom T 0 d a) μ' ∧ ∀ Q : Int → gM → Prop, gE 133 0 [gO 3 x, gI d, gI a] [] μ Q = Q (w32 (T 1810 + 1)) μ' := by
  obtain ⟨μ', f, r, run⟩ := k_Qadd (s := 0) (d := d) (a := a) h hq
  have e5 := r.2.2.1
  rw [tCom_1810 h.1.1 hq] at e5
  exact ⟨μ', f, r, fun Q => by simp (disch := first | assumption | omega) only [e133_0, e133_1, e133_2, e133_3, e133_4, e133_7, e133_8, e133_11, gK0_eq, gK1_eq, gK3_eq, w32_id, bI_eq0, bI_eq1, Bool.false_eq_true, not_true_eq_false, not_false_eq_true, ne_eq, ite_not, ↓reduceIte, if_true, if_false, Int.reduceToNat, Nat.reduceAdd, Int.reduceEq, Int.reduceLT, Int.reduceLE, Int.reduceNeg, bI_T, bI_F, run, e5]⟩
theorem k_QaddAll {d : Int} (h : rQu x T μ) (hq : T 1681 < 32) : ∃ μ', gFr x (x + 5) μ μ' ∧ rQu x (tCom T 1 d (-2)) μ' ∧ ∀ Q : Int → gM → Prop, gE 134 0 [gO 3 x, gI d] [] μ Q = Q (w32 (T 1810 + 1)) μ' := by
  obtain ⟨μ', f, r, run⟩ := k_Qadd (s := 1) (d := d) (a := -2) h hq
  have e5 := r.2.2.1
  rw [tCom_1810 h.1.1 hq] at e5
  exact ⟨μ', f, r, fun Q => by simp (disch := first | assumption | omega) only [e134_0, e134_1, e134_2, e134_3, e134_5, e134_8, e134_9, e134_12, gK0_eq, gK1_eq, gK3_eq, w32_id, bI_eq0, bI_eq1, Bool.false_eq_true, not_true_eq_false, not_false_eq_true, ne_eq, ite_not, ↓reduceIte, if_true, if_false, Int.reduceToNat, Nat.reduceAdd, Int.reduceEq, Int.reduceLT, Int.reduceLE, Int.reduceNeg, bI_T, bI_F, run, e5]⟩
theorem k_QaddFence (h : rQu x T μ) (hq : T 1681 < 32) : ∃ μ', gFr x (x + 5) μ μ' ∧ rQu x (tFen T) μ' ∧ ∀ Q : Int → gM → Prop, gE 135 0 [gO 3 x] [] μ Q = Q (w32 (T 1811 + 1)) μ' := by
  have hl0 := h.1.1
  have h1 : rQu x (tS T 1811 (w32 (T 1811 + 1))) (gS μ x 6 (w32 (T 1811 + 1))) := by
    obtain ⟨hl, h0, h5, h6, h7, hr⟩ := h
    have hl2 := hl.2
    refine ⟨?_, ?_, ?_, ?_, ?_, fun k k0 k1 => ?_⟩
    · simp (disch := first | assumption | omega) only [tS_ne]; exact hl
    · simp (disch := first | assumption | omega) only [tS_ne, gS_neI, h0]
    · simp (disch := first | assumption | omega) only [tS_ne, gS_neI, h5]
    · simp (disch := first | assumption | omega) only [tS_same, gS_same]
    · simp (disch := first | assumption | omega) only [tS_ne, gS_neI, h7]
    · rw [tS_ne (by omega)] at k1
      obtain ⟨b1, b2, b3, b4⟩ := hr k k0 k1
      simp (disch := first | assumption | omega) only [tS_ne, gS_neK, b1, b2, b3, b4, and_self]
  have e6 := h.2.2.2.1
  obtain ⟨μ', f, r, run⟩ := k_Qadd (s := 2) (d := -2) (a := w32 (T 1811 + 1)) h1 (by rw [tS_ne (by omega)]; exact hq)
  have r6 : μ' x 6 = w32 (T 1811 + 1) := by
    have := r.2.2.2.1
    rw [tCom_lo (by omega) (by rw [tS_ne (by omega)]; omega), tS_same] at this
    exact this
  refine ⟨μ', gFr_trans (gFr_gS gFr_refl (by omega) (by omega)) f, r, fun Q => ?_⟩
  simp (disch := first | assumption | omega) only [e135_0, e135_1, e135_2, e135_5, e135_6, e135_7, e135_10, e135_11, e135_12, e135_14, e135_15, e135_18, e135_21, e135_22, e135_25, gK0_eq, gK1_eq, gK3_eq, w32_id, bI_eq0, bI_eq1, Bool.false_eq_true, not_true_eq_false, not_false_eq_true, ne_eq, ite_not, ↓reduceIte, if_true, if_false, Int.reduceToNat, Nat.reduceAdd, Int.reduceEq, Int.reduceLT, Int.reduceLE, Int.reduceNeg, bI_T, bI_F, e6, gS_same, run, r6]
theorem k_QtakesTwo (h : rQu x T μ) : gE 131 0 [gO 3 x] [] μ Q = Q (bI (T 1681 ≤ 22)) μ := by
  have h0 := h.2.1
  by_cases c : T 1681 ≤ 22
  · have c' : ¬ 22 < T 1681 := by omega
    simp (disch := first | assumption | omega) only [e131_0, e131_1, e131_4, e131_6, e131_9, e131_10, e131_13, e131_14, gK0_eq, gK1_eq, gK3_eq, w32_id, bI_eq0, bI_eq1, Bool.false_eq_true, not_true_eq_false, not_false_eq_true, ne_eq, ite_not, ↓reduceIte, if_true, if_false, Int.reduceToNat, Nat.reduceAdd, Int.reduceEq, Int.reduceLT, Int.reduceLE, Int.reduceNeg, bI_T, bI_F, ↓if_pos, ↓if_neg, h0, c, c']
  · have c' : 22 < T 1681 := by omega
    simp (disch := first | assumption | omega) only [e131_0, e131_1, e131_4, e131_6, e131_9, e131_10, e131_13, e131_14, gK0_eq, gK1_eq, gK3_eq, w32_id, bI_eq0, bI_eq1, Bool.false_eq_true, not_true_eq_false, not_false_eq_true, ne_eq, ite_not, ↓reduceIte, if_true, if_false, Int.reduceToNat, Nat.reduceAdd, Int.reduceEq, Int.reduceLT, Int.reduceLE, Int.reduceNeg, bI_T, bI_F, ↓if_pos, ↓if_neg, h0, c, c']
theorem tQGo_at {i : Int} (h0 : 0 ≤ i) (h1 : i < T 1681 - 1) (h32 : T 1681 ≤ 32) : tQGo T (1682 + 4 * i) = T (1682 + 4 * (i + 1)) ∧ tQGo T (1682 + 4 * i + 1) = T (1682 + 4 * (i + 1) + 1) ∧ tQGo T (1682 + 4 * i + 2) = T (1682 + 4 * (i + 1) + 2) ∧ tQGo T (1682 + 4 * i + 3) = T (1682 + 4 * (i + 1) + 3) := by
  have e : ∀ j, 1682 ≤ j → j < 1682 + 4 * T 1681 - 4 → tQGo T j = T (j + 4) := fun j j0 j1 => by
    unfold tQGo tShL
    rw [tS_ne (by omega), if_pos (by omega)]
  rw [e _ (by omega) (by omega), e _ (by omega) (by omega), e _ (by omega) (by omega), e _ (by omega) (by omega)]
  refine ⟨?_, ?_, ?_, ?_⟩ <;> congr 1 <;> omega
theorem k_QtakeFirst (h : rQu x T μ) (hq : 0 < T 1681) : ∃ μ', gFr x (x + 5) μ μ' ∧ rQu x (tQGo T) μ' ∧ ∀ Q : Int → gM → Prop, gE 136 0 [gO 3 x] [] μ Q = Q 0 μ' := by
  obtain ⟨hl, h0, h5, h6, h7, hr⟩ := h
  have hl2 := hl.2
  have e1 : T 1681 ≤ ((32 : Nat) : Int) := hl2
  refine ⟨?m, ?f, ?r, fun Q => ?run⟩
  case run =>
    simp (disch := first | assumption | omega) only [e136_0, e136_1, e136_4, e136_5, e136_6, e136_9, e136_12, e136_13, e136_16, e136_17, e136_18, e136_21, e136_24, e136_25, e136_28, e136_29, e136_30, e136_33, e136_36, e136_37, e136_40, e136_41, e136_42, e136_45, e136_48, e136_49, e136_50, e136_53, e136_54, e136_55, e136_58, gK0_eq, gK1_eq, gK3_eq, w32_id, bI_eq0, bI_eq1, Bool.false_eq_true, not_true_eq_false, not_false_eq_true, ne_eq, ite_not, ↓reduceIte, if_true, if_false, Int.reduceToNat, Nat.reduceAdd, Int.reduceEq, Int.reduceLT, Int.reduceLE, Int.reduceNeg, bI_T, bI_F, ↓if_pos, ↓if_neg, s_takeOut, h0, mrow_ne]
    exact rfl
  case f => intro k i hk; simp (disch := first | assumption | omega) only [gS_neK, mrow_ne]
  case r =>
    have q1 : tQGo T 1681 = T 1681 - 1 := tS_same
    refine ⟨by rw [q1]; omega, by rw [q1]; simp (disch := first | assumption | omega) only [gS_same], ?_, ?_, ?_, fun k k0 k1 => ?_⟩
    · rw [tQGo_lo (by omega) hl]; simp (disch := first | assumption | omega) only [gS_neI, mrow_ne, h5]
    · rw [tQGo_lo (by omega) hl]; simp (disch := first | assumption | omega) only [gS_neI, mrow_ne, h6]
    · rw [tQGo_lo (by omega) hl]; simp (disch := first | assumption | omega) only [gS_neI, mrow_ne, h7]
    · rw [q1] at k1
      obtain ⟨a1, a2, a3, a4⟩ := tQGo_at k0 k1 hl2
      obtain ⟨b1, b2, b3, b4⟩ := hr (k + 1) (by omega) (by omega)
      have c : 0 ≤ k ∧ k < T 1681 - 1 := ⟨k0, k1⟩
      rw [a1, a2, a3, a4]
      simp (disch := first | assumption | omega) only [gS_neK, mrow_same, mrow_ne, if_pos c, b1, b2, b3, b4, and_self]
theorem k_Qtell {k w : Int} (h : rQu x T μ) : gE 137 0 [gO 3 x, gI k, gI w] [] μ Q = Q (tTel T 1681 1682 2 k w) μ := by
  obtain ⟨hl, h0, h5, h6, h7, hr⟩ := h
  have hl2 := hl.2
  unfold tTel
  by_cases c0 : k < 0
  · rw [if_neg (by omega)]
    simp (disch := first | assumption | omega) only [e137_0, e137_1, e137_4, e137_5, e137_6, e137_9, e137_12, e137_13, e137_14, e137_15_c0, e137_15_c1, e137_15_c2, e137_15_d, e137_40, e137_41, e137_44, e137_45, e137_48, e137_49, e137_50, e137_53, e137_54, e137_57, e137_58, e137_59, e137_62, e137_63, e137_66, e137_67, e137_68, gK0_eq, gK1_eq, gK3_eq, w32_id, bI_eq0, bI_eq1, Bool.false_eq_true, not_true_eq_false, not_false_eq_true, ne_eq, ite_not, ↓reduceIte, if_true, if_false, Int.reduceToNat, Nat.reduceAdd, Int.reduceEq, Int.reduceLT, Int.reduceLE, Int.reduceNeg, bI_T, bI_F, ↓if_pos, ↓if_neg, c0]
  · by_cases c1 : k < T 1681
    · obtain ⟨b1, b2, b3, b4⟩ := hr k (by omega) c1
      have c32 : k < ((32 : Nat) : Int) := by omega
      have c00 : 0 ≤ k := by omega
      by_cases w0 : w = 0
      · subst w0
        rw [if_pos (by omega), Int.add_zero]
        simp (disch := first | assumption | omega) only [e137_0, e137_1, e137_4, e137_5, e137_6, e137_9, e137_12, e137_13, e137_14, e137_15_c0, e137_15_c1, e137_15_c2, e137_15_d, e137_40, e137_41, e137_44, e137_45, e137_48, e137_49, e137_50, e137_53, e137_54, e137_57, e137_58, e137_59, e137_62, e137_63, e137_66, e137_67, e137_68, gK0_eq, gK1_eq, gK3_eq, w32_id, bI_eq0, bI_eq1, Bool.false_eq_true, not_true_eq_false, not_false_eq_true, ne_eq, ite_not, ↓reduceIte, if_true, if_false, Int.reduceToNat, Nat.reduceAdd, Int.reduceEq, Int.reduceLT, Int.reduceLE, Int.reduceNeg, bI_T, bI_F, ↓if_pos, ↓if_neg, c0, c1, h0, s_at, atv_in, b1]
      · by_cases w1 : w = 1
        · subst w1
          rw [if_pos (by omega)]
          simp (disch := first | assumption | omega) only [e137_0, e137_1, e137_4, e137_5, e137_6, e137_9, e137_12, e137_13, e137_14, e137_15_c0, e137_15_c1, e137_15_c2, e137_15_d, e137_40, e137_41, e137_44, e137_45, e137_48, e137_49, e137_50, e137_53, e137_54, e137_57, e137_58, e137_59, e137_62, e137_63, e137_66, e137_67, e137_68, gK0_eq, gK1_eq, gK3_eq, w32_id, bI_eq0, bI_eq1, Bool.false_eq_true, not_true_eq_false, not_false_eq_true, ne_eq, ite_not, ↓reduceIte, if_true, if_false, Int.reduceToNat, Nat.reduceAdd, Int.reduceEq, Int.reduceLT, Int.reduceLE, Int.reduceNeg, bI_T, bI_F, ↓if_pos, ↓if_neg, c0, c1, h0, s_at, atv_in, b2]
        · by_cases w2 : w = 2
          · subst w2
            rw [if_pos (by omega)]
            simp (disch := first | assumption | omega) only [e137_0, e137_1, e137_4, e137_5, e137_6, e137_9, e137_12, e137_13, e137_14, e137_15_c0, e137_15_c1, e137_15_c2, e137_15_d, e137_40, e137_41, e137_44, e137_45, e137_48, e137_49, e137_50, e137_53, e137_54, e137_57, e137_58, e137_59, e137_62, e137_63, e137_66, e137_67, e137_68, gK0_eq, gK1_eq, gK3_eq, w32_id, bI_eq0, bI_eq1, Bool.false_eq_true, not_true_eq_false, not_false_eq_true, ne_eq, ite_not, ↓reduceIte, if_true, if_false, Int.reduceToNat, Nat.reduceAdd, Int.reduceEq, Int.reduceLT, Int.reduceLE, Int.reduceNeg, bI_T, bI_F, ↓if_pos, ↓if_neg, c0, c1, h0, s_at, atv_in, b3]
          · rw [if_neg (by omega)]
            simp (disch := first | assumption | omega) only [e137_0, e137_1, e137_4, e137_5, e137_6, e137_9, e137_12, e137_13, e137_14, e137_15_c0, e137_15_c1, e137_15_c2, e137_15_d, e137_40, e137_41, e137_44, e137_45, e137_48, e137_49, e137_50, e137_53, e137_54, e137_57, e137_58, e137_59, e137_62, e137_63, e137_66, e137_67, e137_68, gK0_eq, gK1_eq, gK3_eq, w32_id, bI_eq0, bI_eq1, Bool.false_eq_true, not_true_eq_false, not_false_eq_true, ne_eq, ite_not, ↓reduceIte, if_true, if_false, Int.reduceToNat, Nat.reduceAdd, Int.reduceEq, Int.reduceLT, Int.reduceLE, Int.reduceNeg, bI_T, bI_F, ↓if_pos, ↓if_neg, c0, c1, h0, w0, w1, w2]
    · rw [if_neg (by omega)]
      simp (disch := first | assumption | omega) only [e137_0, e137_1, e137_4, e137_5, e137_6, e137_9, e137_12, e137_13, e137_14, e137_15_c0, e137_15_c1, e137_15_c2, e137_15_d, e137_40, e137_41, e137_44, e137_45, e137_48, e137_49, e137_50, e137_53, e137_54, e137_57, e137_58, e137_59, e137_62, e137_63, e137_66, e137_67, e137_68, gK0_eq, gK1_eq, gK3_eq, w32_id, bI_eq0, bI_eq1, Bool.false_eq_true, not_true_eq_false, not_false_eq_true, ne_eq, ite_not, ↓reduceIte, if_true, if_false, Int.reduceToNat, Nat.reduceAdd, Int.reduceEq, Int.reduceLT, Int.reduceLE, Int.reduceNeg, bI_T, bI_F, ↓if_pos, ↓if_neg, c0, c1, h0]
theorem k_Qclear (h : 0 ≤ T 1681 ∧ T 1681 ≤ 32) (ht : T 1681 = 0 ∧ T 1810 = 0 ∧ T 1811 = 0 ∧ T 1812 = 0) : ∃ μ', gFr x (x + 5) μ μ' ∧ rQu x T μ' ∧ ∀ Q : Int → gM → Prop, gE 129 0 [gO 3 x] [] μ Q = Q 0 μ' := by
  refine ⟨?m, ?f, ?r, fun Q => ?run⟩
  case run =>
    simp (disch := first | assumption | omega) only [e129_0, e129_1, e129_2, e129_5, e129_6, e129_7, e129_10, e129_11, e129_12, e129_15, e129_16, e129_17, e129_20, gK0_eq, gK1_eq, gK3_eq, w32_id, bI_eq0, bI_eq1, Bool.false_eq_true, not_true_eq_false, not_false_eq_true, ne_eq, ite_not, ↓reduceIte, if_true, if_false, Int.reduceToNat, Nat.reduceAdd, Int.reduceEq, Int.reduceLT, Int.reduceLE, Int.reduceNeg, bI_T, bI_F, ↓if_pos, ↓if_neg]
    exact rfl
  case f => intro k i hk; simp (disch := first | assumption | omega) only [gS_neK]
  case r =>
    obtain ⟨t1, t2, t3, t4⟩ := ht
    refine ⟨h, ?_, ?_, ?_, ?_, fun k k0 k1 => by omega⟩
    · simp (disch := first | assumption | omega) only [gS_same, gS_neI, t1]
    · simp (disch := first | assumption | omega) only [gS_same, gS_neI, t2]
    · simp (disch := first | assumption | omega) only [gS_same, gS_neI, t3]
    · simp (disch := first | assumption | omega) only [gS_same, gS_neI, t4]
theorem k_Qcopy (h : rQu y T μ) (hxy : x + 5 ≤ y ∨ y + 5 ≤ x) : ∃ μ', gFr x (x + 5) μ μ' ∧ rQu x T μ' ∧ ∀ Q : Int → gM → Prop, gE 130 0 [gO 3 x, gO 3 y] [] μ Q = Q 0 μ' := by
  refine ⟨?m, ?f, ?r, fun Q => ?run⟩
  case run =>
    simp (disch := first | assumption | omega) only [e130_0, e130_1, e130_2, e130_5, e130_8, e130_9, e130_12, e130_13, e130_16, e130_19, e130_20, e130_23, e130_24, e130_27, e130_30, e130_31, e130_34, e130_35, e130_38, e130_41, e130_42, e130_45, e130_46, e130_49, e130_52, e130_53, e130_54, e130_57, e130_60, e130_61, e130_62, e130_65, e130_68, e130_69, e130_70, e130_73, e130_76, gK0_eq, gK1_eq, gK3_eq, w32_id, bI_eq0, bI_eq1, Bool.false_eq_true, not_true_eq_false, not_false_eq_true, ne_eq, ite_not, ↓reduceIte, if_true, if_false, Int.reduceToNat, Nat.reduceAdd, Int.reduceEq, Int.reduceLT, Int.reduceLE, Int.reduceNeg, bI_T, bI_F, ↓if_pos, ↓if_neg, s_copyRow, gS_neK, mrow_ne]
    exact rfl
  case f => intro k i hk; simp (disch := first | assumption | omega) only [gS_neK, mrow_ne]
  case r =>
    obtain ⟨hl, h0, h5, h6, h7, hr⟩ := h
    refine ⟨hl, ?_, ?_, ?_, ?_, fun k k0 k1 => ?_⟩
    · simp (disch := first | assumption | omega) only [gS_same, gS_neI, mrow_ne, h0]
    · simp (disch := first | assumption | omega) only [gS_same, gS_neI, mrow_ne, h5]
    · simp (disch := first | assumption | omega) only [gS_same, gS_neI, mrow_ne, h6]
    · simp (disch := first | assumption | omega) only [gS_same, gS_neI, mrow_ne, h7]
    · have c : 0 ≤ k ∧ k < ((32 : Nat) : Int) := by omega
      obtain ⟨b1, b2, b3, b4⟩ := hr k k0 k1
      simp (disch := first | assumption | omega) only [gS_neK, gS_neI, mrow_ne, mrow_same, if_pos c, b1, b2, b3, b4, and_self]
end QUEUE
