/-! the class: its requests -/
theorem w32_add {a b : Int} : w32 (w32 a + b) = w32 (a + b) := by
  unfold w32
  rw [Int32.toInt_ofInt, Int32.toInt_ofInt, Int32.toInt_ofInt, Int.bmod_add_bmod]
theorem w32_in {a : Int} : in32 (w32 a) := by
  unfold in32 w32
  have h1 := Int32.le_toInt (Int32.ofInt a)
  have h2 := Int32.toInt_lt (Int32.ofInt a)
  omega
def rRq (x : Nat) (T : Int → Int) (μ : gM) : Prop := (0 ≤ T 1881 ∧ T 1881 ≤ 8) ∧ (in32 (T 1916) ∧ in32 (T 1917)) ∧ μ x 0 = T 1881 ∧ μ x 5 = T 1914 ∧ μ x 6 = T 1915 ∧ μ x 7 = T 1916 ∧ μ x 8 = T 1917 ∧
  ∀ k, 0 ≤ k → k < T 1881 → μ (x + 1) k = T (1882 + 4 * k) ∧ μ (x + 2) k = T (1882 + 4 * k + 1) ∧ μ (x + 3) k = T (1882 + 4 * k + 2) ∧ μ (x + 4) k = T (1882 + 4 * k + 3)
def tFaA (e : Int) : Nat → (Int → Int) → Int → Int
  | 0, T => T
  | k + 1, T => tFaA e k (if T (1882 + 4 * k) = e then tMor (tReqG T k) 1917 else T)
def tRmB (b : Int) : Nat → (Int → Int) → Int → Int
  | 0, T => T
  | k + 1, T => tRmB b k (if T (1882 + 4 * k + 3) = b then tReqG T k else T)
def tBnn (T : Int → Int) : Prop := ∀ k, 0 ≤ k → k < T 1881 → 0 ≤ T (1882 + 4 * k + 3)
def sumF (g : Int → Int) : Int → Nat → Int
  | _, 0 => 0
  | d, m + 1 => g d + sumF g (d + 1) m
section REQUESTS
variable {x y : Nat} {T T' : Int → Int} {μ μ' : gM} {Q : Int → gM → Prop}
theorem rRq_tr (h : rRq x T μ) (h0 : μ' y 0 = μ x 0 ∧ μ' y 5 = μ x 5 ∧ μ' y 6 = μ x 6 ∧ μ' y 7 = μ x 7 ∧ μ' y 8 = μ x 8) (hr : ∀ i, 0 ≤ i → i < 8 → μ' (y + 1) i = μ (x + 1) i ∧ μ' (y + 2) i = μ (x + 2) i ∧ μ' (y + 3) i = μ (x + 3) i ∧ μ' (y + 4) i = μ (x + 4) i) (hT : ∀ j, 1881 ≤ j → j ≤ 1917 → T' j = T j) : rRq y T' μ' := by
  obtain ⟨h1, hb, h2, h3, h4, h5, h6, h7⟩ := h
  obtain ⟨e0, e5, e6, e7, e8⟩ := h0
  have t1 := hT 1881 (by omega) (by omega)
  refine ⟨by rw [t1]; exact h1, by rw [hT 1916 (by omega) (by omega), hT 1917 (by omega) (by omega)]; exact hb, by rw [e0, t1]; exact h2, by rw [e5, hT 1914 (by omega) (by omega)]; exact h3, by rw [e6, hT 1915 (by omega) (by omega)]; exact h4, by rw [e7, hT 1916 (by omega) (by omega)]; exact h5, by rw [e8, hT 1917 (by omega) (by omega)]; exact h6, fun k k0 k1 => ?_⟩
  rw [t1] at k1
  obtain ⟨a1, a2, a3, a4⟩ := hr k k0 (by omega)
  obtain ⟨b1, b2, b3, b4⟩ := h7 k k0 k1
  rw [a1, a2, a3, a4, hT _ (by omega) (by omega), hT _ (by omega) (by omega), hT _ (by omega) (by omega), hT _ (by omega) (by omega)]
  exact ⟨b1, b2, b3, b4⟩
theorem rRq_fr {lo hi : Nat} (h : rRq x T μ) (hf : gFr lo hi μ μ') (hd : x + 5 ≤ lo ∨ hi ≤ x) (hT : ∀ j, 1881 ≤ j → j ≤ 1917 → T' j = T j) : rRq x T' μ' :=
  rRq_tr h ⟨hf _ _ (by omega), hf _ _ (by omega), hf _ _ (by omega), hf _ _ (by omega), hf _ _ (by omega)⟩ (fun i _ _ => ⟨hf _ _ (by omega), hf _ _ (by omega), hf _ _ (by omega), hf _ _ (by omega)⟩) hT
theorem tReqG_row {k i : Int} (hk : 0 ≤ k) (i0 : 0 ≤ i) (i1 : i < T 1881 - 1) : tReqG T k (1882 + 4 * i) = T (1882 + 4 * (if i < k then i else i + 1)) ∧ tReqG T k (1882 + 4 * i + 1) = T (1882 + 4 * (if i < k then i else i + 1) + 1) ∧ tReqG T k (1882 + 4 * i + 2) = T (1882 + 4 * (if i < k then i else i + 1) + 2) ∧ tReqG T k (1882 + 4 * i + 3) = T (1882 + 4 * (if i < k then i else i + 1) + 3) := by
  rw [tReqG_at0 ⟨i0, i1⟩, tReqG_at ⟨i0, i1⟩ (by omega), tReqG_at ⟨i0, i1⟩ (by omega), tReqG_at ⟨i0, i1⟩ (by omega)]
  split <;> exact ⟨rfl, rfl, rfl, rfl⟩
theorem k_Rremove {k : Int} (h : rRq x T μ) (hk : 0 ≤ k ∧ k < T 1881) : ∃ μ', gFr x (x + 5) μ μ' ∧ rRq x (tReqG T k) μ' ∧ ∀ Q : Int → gM → Prop, gE 153 0 [gO 5 x, gI k] [] μ Q = Q 0 μ' := by
  obtain ⟨hl, hb, h0, h5, h6, h7, h8, hr⟩ := h
  have hl2 := hl.2
  have h16 : T 1881 ≤ ((8 : Nat) : Int) := hl2
  have k0 := hk.1
  have k1 := hk.2
  refine ⟨?m, ?f, ?r, fun Q => ?run⟩
  case run =>
    simp (disch := first | assumption | omega) only [e153_0, e153_1, e153_4, e153_5, e153_6, e153_9, e153_12, e153_13, e153_16, e153_17, e153_18, e153_21, e153_24, e153_25, e153_28, e153_29, e153_30, e153_33, e153_36, e153_37, e153_40, e153_41, e153_42, e153_45, e153_48, e153_49, e153_50, e153_53, e153_54, e153_55, e153_58, gK0_eq, gK1_eq, gK3_eq, w32_id, bI_eq0, bI_eq1, Bool.false_eq_true, not_true_eq_false, not_false_eq_true, ne_eq, ite_not, ↓reduceIte, if_true, if_false, Int.reduceToNat, Nat.reduceAdd, Int.reduceEq, Int.reduceLT, Int.reduceLE, Int.reduceNeg, bI_T, bI_F, ↓if_pos, ↓if_neg, s_takeOut, h0, mrow_ne]
    exact rfl
  case f => intro k i hk; simp (disch := first | assumption | omega) only [gS_neK, mrow_ne]
  case r =>
    refine ⟨by rw [tReqG_1881]; omega, by rw [tReqG_lo (by omega) k0 hl2, tReqG_lo (by omega) k0 hl2]; exact hb, ?_, ?_, ?_, ?_, ?_, fun i i0 i1 => ?_⟩
    · rw [tReqG_1881]; simp (disch := first | assumption | omega) only [gS_same]
    · rw [tReqG_lo (by omega) k0 hl2]; simp (disch := first | assumption | omega) only [gS_neI, mrow_ne, h5]
    · rw [tReqG_lo (by omega) k0 hl2]; simp (disch := first | assumption | omega) only [gS_neI, mrow_ne, h6]
    · rw [tReqG_lo (by omega) k0 hl2]; simp (disch := first | assumption | omega) only [gS_neI, mrow_ne, h7]
    · rw [tReqG_lo (by omega) k0 hl2]; simp (disch := first | assumption | omega) only [gS_neI, mrow_ne, h8]
    · rw [tReqG_1881] at i1
      obtain ⟨a1, a2, a3, a4⟩ := tReqG_row k0 i0 i1
      rw [a1, a2, a3, a4]
      by_cases c : i < k
      · obtain ⟨b1, b2, b3, b4⟩ := hr i (by omega) (by omega)
        have c2 : ¬ (k ≤ i ∧ i < T 1881 - 1) := by omega
        simp (disch := first | assumption | omega) only [gS_neK, mrow_same, mrow_ne, if_neg c2, if_pos c, b1, b2, b3, b4, and_self]
      · obtain ⟨b1, b2, b3, b4⟩ := hr (i + 1) (by omega) (by omega)
        have c2 : k ≤ i ∧ i < T 1881 - 1 := by omega
        simp (disch := first | assumption | omega) only [gS_neK, mrow_same, mrow_ne, if_pos c2, if_neg c, b1, b2, b3, b4, and_self]
theorem k_Radd {e p r : Int} (h : rRq x T μ) (hl8 : T 1881 < 8) : ∃ μ', gFr x (x + 5) μ μ' ∧ rRq x (tReq T e p r) μ' ∧ ∀ Q : Int → gM → Prop, gE 152 0 [gO 5 x, gI e, gI p, gI r] [] μ Q = Q 0 μ' := by
  obtain ⟨hl, hb, h0, h5, h6, h7, h8, hr⟩ := h
  have hl0 := hl.1
  refine ⟨?m, ?f, ?r, fun Q => ?run⟩
  case run =>
    simp (disch := first | assumption | omega) only [e152_0, e152_1, e152_4, e152_5, e152_8, e152_9, e152_12, e152_13, e152_16, e152_17, e152_20, e152_21, e152_24, e152_25, e152_28, e152_29, e152_32, e152_33, e152_36, e152_37, e152_40, e152_41, e152_44, e152_45, e152_48, e152_49, e152_50, e152_53, e152_54, e152_55, e152_58, e152_59, e152_60, e152_63, e152_64, e152_65, e152_68, gK0_eq, gK1_eq, gK3_eq, w32_id, bI_eq0, bI_eq1, Bool.false_eq_true, not_true_eq_false, not_false_eq_true, ne_eq, ite_not, ↓reduceIte, if_true, if_false, Int.reduceToNat, Nat.reduceAdd, Int.reduceEq, Int.reduceLT, Int.reduceLE, Int.reduceNeg, bI_T, bI_F, ↓if_pos, ↓if_neg, s_put', putv_in, h0, h6, gS_neK, gS_neI, gS_same]
    exact rfl
  case f => intro k i hk; simp (disch := first | assumption | omega) only [gS_neK]
  case r =>
    have q1 : tReq T e p r 1881 = T 1881 + 1 := by unfold tReq; rw [tMor_ne (by omega), tS_same]
    have q2 : ∀ j, 1881 < j → (j < 1882 + 4 * T 1881 ∨ 1914 ≤ j) → j ≠ 1915 → tReq T e p r j = T j := fun j j0 j1 j2 => by
      unfold tReq
      rw [tMor_ne j2, tS_ne (by omega), tS_ne (by omega), tS_ne (by omega), tS_ne (by omega), tS_ne (by omega)]
    have q3 : tReq T e p r 1915 = w32 (T 1915 + 1) := by
      simp (disch := first | assumption | omega) only [tReq, tMor, tS_ne, tS_same]
    refine ⟨by rw [q1]; omega, by rw [q2 _ (by omega) (by omega) (by omega), q2 _ (by omega) (by omega) (by omega)]; exact hb, ?_, ?_, ?_, ?_, ?_, fun i i0 i1 => ?_⟩
    · rw [q1]; simp (disch := first | assumption | omega) only [gS_same, gS_neI]
    · rw [q2 _ (by omega) (by omega) (by omega)]; simp (disch := first | assumption | omega) only [gS_neI, gS_neK, h5]
    · rw [q3]; simp (disch := first | assumption | omega) only [gS_same]
    · rw [q2 _ (by omega) (by omega) (by omega)]; simp (disch := first | assumption | omega) only [gS_neI, gS_neK, h7]
    · rw [q2 _ (by omega) (by omega) (by omega)]; simp (disch := first | assumption | omega) only [gS_neI, gS_neK, h8]
    · rw [q1] at i1
      by_cases c : i = T 1881
      · subst c
        simp (disch := first | assumption | omega) only [tReq, tMor_ne, tS_ne, tS_same, gS_same, gS_neK, gS_neI, and_self]
      · obtain ⟨b1, b2, b3, b4⟩ := hr i i0 (by omega)
        rw [q2 _ (by omega) (by omega) (by omega), q2 _ (by omega) (by omega) (by omega), q2 _ (by omega) (by omega) (by omega), q2 _ (by omega) (by omega) (by omega)]
        simp (disch := first | assumption | omega) only [gS_neK, gS_neI, b1, b2, b3, b4, and_self]
theorem rRq_fail {T : Int → Int} {μ : gM} (h : rRq x T μ) : rRq x (tMor T 1917) (gS μ x 8 (w32 (T 1917 + 1))) := by
  obtain ⟨hl, hb, h0, h5, h6, h7, h8, hr⟩ := h
  have hl2 := hl.2
  have e : tMor T 1917 1917 = w32 (T 1917 + 1) := tS_same
  refine ⟨by rw [tMor_ne (by omega)]; exact hl, by rw [tMor_ne (by omega), e]; exact ⟨hb.1, w32_in⟩, ?_, ?_, ?_, ?_, ?_, fun i i0 i1 => ?_⟩
  · rw [tMor_ne (by omega)]; simp (disch := first | assumption | omega) only [gS_neI, h0]
  · rw [tMor_ne (by omega)]; simp (disch := first | assumption | omega) only [gS_neI, h5]
  · rw [tMor_ne (by omega)]; simp (disch := first | assumption | omega) only [gS_neI, h6]
  · rw [tMor_ne (by omega)]; simp (disch := first | assumption | omega) only [gS_neI, h7]
  · rw [e]; simp (disch := first | assumption | omega) only [gS_same]
  · rw [tMor_ne (by omega)] at i1
    obtain ⟨b1, b2, b3, b4⟩ := hr i i0 i1
    rw [tMor_ne (by omega), tMor_ne (by omega), tMor_ne (by omega), tMor_ne (by omega)]
    simp (disch := first | assumption | omega) only [gS_neK, b1, b2, b3, b4, and_self]
theorem k_RfailOpen_loop {e : Int} : ∀ (n : Nat) (T : Int → Int) (μ : gM), rRq x T μ → (n : Int) ≤ T 1881 → ∃ μ', gFr x (x + 5) μ μ' ∧ rRq x (tOpF e n T) μ' ∧ ∀ Q : Int → gM → Prop, gE 155 7 [gO 5 x, gI e, gI ((n : Int) - 1)] [] μ Q = Q 0 μ' := by
  intro n
  induction n with
  | zero =>
    intro T μ h hn
    refine ⟨μ, gFr_refl, h, fun Q => ?_⟩
    rw [e155_7]
    simp (disch := first | assumption | omega) only [e155_0, e155_1, e155_4, e155_5, e155_6, e155_8, e155_11, e155_12, e155_15, e155_16, e155_19, e155_20, e155_23, e155_24, e155_27, e155_28, e155_31, e155_34, e155_35, e155_36, e155_39, e155_40, e155_41, e155_44, e155_45, e155_46, e155_49, e155_52, e155_55, gK0_eq, gK1_eq, gK3_eq, w32_id, bI_eq0, bI_eq1, Bool.false_eq_true, not_true_eq_false, not_false_eq_true, ne_eq, ite_not, ↓reduceIte, if_true, if_false, Int.reduceToNat, Nat.reduceAdd, Int.reduceEq, Int.reduceLT, Int.reduceLE, Int.reduceNeg, bI_T, bI_F, ↓if_pos, ↓if_neg, Int.natCast_zero, Int.zero_sub]
  | succ n ih =>
    intro T μ h hn
    have h8 := h.1.2
    obtain ⟨b1, b2, b3, b4⟩ := h.2.2.2.2.2.2.2 n (by omega) (by omega)
    have e0 : ((n + 1 : Nat) : Int) - 1 = n := by omega
    have e1 : (n : Int) + -1 = (n : Int) - 1 := by omega
    have c0 : ¬ (n : Int) < 0 := by omega
    have c16 : (n : Int) < ((8 : Nat) : Int) := by omega
    have c00 : (0 : Int) ≤ n := by omega
    rw [tOpF]
    by_cases c : T (1882 + 4 * n) = e
    · by_cases c3 : T (1882 + 4 * n + 3) = 0
      · obtain ⟨μ1, f1, r1, run1⟩ := k_Rremove (k := n) h ⟨c00, by omega⟩
        have q8 := r1.2.2.2.2.2.2.1
        have r2 := rRq_fail r1
        obtain ⟨μ2, f2, r3, run2⟩ := ih _ _ r2 (by rw [tMor_ne (by omega), tReqG_1881]; omega)
        rw [if_pos ⟨c, c3⟩]
        refine ⟨μ2, gFr_trans (gFr_gS f1 (by omega) (by omega)) f2, r3, fun Q => ?_⟩
        rw [e0, e155_7]
        simp (disch := first | assumption | omega) only [e155_0, e155_1, e155_4, e155_5, e155_6, e155_8, e155_11, e155_12, e155_15, e155_16, e155_19, e155_20, e155_23, e155_24, e155_27, e155_28, e155_31, e155_34, e155_35, e155_36, e155_39, e155_40, e155_41, e155_44, e155_45, e155_46, e155_49, e155_52, e155_55, gK0_eq, gK1_eq, gK3_eq, w32_id, bI_eq0, bI_eq1, Bool.false_eq_true, not_true_eq_false, not_false_eq_true, ne_eq, ite_not, ↓reduceIte, if_true, if_false, Int.reduceToNat, Nat.reduceAdd, Int.reduceEq, Int.reduceLT, Int.reduceLE, Int.reduceNeg, bI_T, bI_F, ↓if_pos, ↓if_neg, c0, s_at, atv_in, b1, b4, c, c3, run1, q8, e1, run2]
      · obtain ⟨μ2, f2, r2, run2⟩ := ih _ _ h (by omega)
        rw [if_neg (fun q => c3 q.2)]
        refine ⟨μ2, f2, r2, fun Q => ?_⟩
        rw [e0, e155_7]
        simp (disch := first | assumption | omega) only [e155_0, e155_1, e155_4, e155_5, e155_6, e155_8, e155_11, e155_12, e155_15, e155_16, e155_19, e155_20, e155_23, e155_24, e155_27, e155_28, e155_31, e155_34, e155_35, e155_36, e155_39, e155_40, e155_41, e155_44, e155_45, e155_46, e155_49, e155_52, e155_55, gK0_eq, gK1_eq, gK3_eq, w32_id, bI_eq0, bI_eq1, Bool.false_eq_true, not_true_eq_false, not_false_eq_true, ne_eq, ite_not, ↓reduceIte, if_true, if_false, Int.reduceToNat, Nat.reduceAdd, Int.reduceEq, Int.reduceLT, Int.reduceLE, Int.reduceNeg, bI_T, bI_F, ↓if_pos, ↓if_neg, c0, s_at, atv_in, b1, b4, c, c3, e1, run2]
    · obtain ⟨μ2, f2, r2, run2⟩ := ih _ _ h (by omega)
      rw [if_neg (fun q => c q.1)]
      refine ⟨μ2, f2, r2, fun Q => ?_⟩
      rw [e0, e155_7]
      simp (disch := first | assumption | omega) only [e155_0, e155_1, e155_4, e155_5, e155_6, e155_8, e155_11, e155_12, e155_15, e155_16, e155_19, e155_20, e155_23, e155_24, e155_27, e155_28, e155_31, e155_34, e155_35, e155_36, e155_39, e155_40, e155_41, e155_44, e155_45, e155_46, e155_49, e155_52, e155_55, gK0_eq, gK1_eq, gK3_eq, w32_id, bI_eq0, bI_eq1, Bool.false_eq_true, not_true_eq_false, not_false_eq_true, ne_eq, ite_not, ↓reduceIte, if_true, if_false, Int.reduceToNat, Nat.reduceAdd, Int.reduceEq, Int.reduceLT, Int.reduceLE, Int.reduceNeg, bI_T, bI_F, ↓if_pos, ↓if_neg, c0, s_at, atv_in, b1, c, e1, run2]
theorem k_RfailOpen {e : Int} (h : rRq x T μ) : ∃ μ', gFr x (x + 5) μ μ' ∧ rRq x (tOpF e (T 1881).toNat T) μ' ∧ ∀ Q : Int → gM → Prop, gE 155 0 [gO 5 x, gI e, gX] [] μ Q = Q 0 μ' := by
  have hl := h.1
  have h0 := h.2.2.1
  obtain ⟨μ1, f1, r1, run1⟩ := k_RfailOpen_loop (e := e) (T 1881).toNat T μ h (by omega)
  rw [show ((T 1881).toNat : Int) = T 1881 by omega] at run1
  refine ⟨μ1, f1, r1, fun Q => ?_⟩
  simp (disch := first | assumption | omega) only [e155_0, e155_1, e155_4, e155_5, e155_6, e155_8, e155_11, e155_12, e155_15, e155_16, e155_19, e155_20, e155_23, e155_24, e155_27, e155_28, e155_31, e155_34, e155_35, e155_36, e155_39, e155_40, e155_41, e155_44, e155_45, e155_46, e155_49, e155_52, e155_55, gK0_eq, gK1_eq, gK3_eq, w32_id, bI_eq0, bI_eq1, Bool.false_eq_true, not_true_eq_false, not_false_eq_true, ne_eq, ite_not, ↓reduceIte, if_true, if_false, Int.reduceToNat, Nat.reduceAdd, Int.reduceEq, Int.reduceLT, Int.reduceLE, Int.reduceNeg, bI_T, bI_F, ↓if_pos, ↓if_neg, h0, run1]
theorem k_RfailAll_loop {e : Int} : ∀ (n : Nat) (T : Int → Int) (μ : gM), rRq x T μ → (n : Int) ≤ T 1881 → ∃ μ', gFr x (x + 5) μ μ' ∧ rRq x (tFaA e n T) μ' ∧ ∀ Q : Int → gM → Prop, gE 156 7 [gO 5 x, gI e, gI ((n : Int) - 1)] [] μ Q = Q 0 μ' := by
  intro n
  induction n with
  | zero =>
    intro T μ h hn
    refine ⟨μ, gFr_refl, h, fun Q => ?_⟩
    rw [e156_7]
    simp (disch := first | assumption | omega) only [e156_0, e156_1, e156_4, e156_5, e156_6, e156_8, e156_11, e156_12, e156_15, e156_16, e156_19, e156_20, e156_23, e156_24, e156_25, e156_28, e156_29, e156_30, e156_33, e156_34, e156_35, e156_38, e156_41, e156_44, gK0_eq, gK1_eq, gK3_eq, w32_id, bI_eq0, bI_eq1, Bool.false_eq_true, not_true_eq_false, not_false_eq_true, ne_eq, ite_not, ↓reduceIte, if_true, if_false, Int.reduceToNat, Nat.reduceAdd, Int.reduceEq, Int.reduceLT, Int.reduceLE, Int.reduceNeg, bI_T, bI_F, ↓if_pos, ↓if_neg, Int.natCast_zero, Int.zero_sub]
  | succ n ih =>
    intro T μ h hn
    have h8 := h.1.2
    obtain ⟨b1, b2, b3, b4⟩ := h.2.2.2.2.2.2.2 n (by omega) (by omega)
    have e0 : ((n + 1 : Nat) : Int) - 1 = n := by omega
    have e1 : (n : Int) + -1 = (n : Int) - 1 := by omega
    have c0 : ¬ (n : Int) < 0 := by omega
    have c16 : (n : Int) < ((8 : Nat) : Int) := by omega
    have c00 : (0 : Int) ≤ n := by omega
    rw [tFaA]
    by_cases c : T (1882 + 4 * n) = e
    · obtain ⟨μ1, f1, r1, run1⟩ := k_Rremove (k := n) h ⟨c00, by omega⟩
      have q8 := r1.2.2.2.2.2.2.1
      have r2 := rRq_fail r1
      obtain ⟨μ2, f2, r3, run2⟩ := ih _ _ r2 (by rw [tMor_ne (by omega), tReqG_1881]; omega)
      rw [if_pos c]
      refine ⟨μ2, gFr_trans (gFr_gS f1 (by omega) (by omega)) f2, r3, fun Q => ?_⟩
      rw [e0, e156_7]
      simp (disch := first | assumption | omega) only [e156_0, e156_1, e156_4, e156_5, e156_6, e156_8, e156_11, e156_12, e156_15, e156_16, e156_19, e156_20, e156_23, e156_24, e156_25, e156_28, e156_29, e156_30, e156_33, e156_34, e156_35, e156_38, e156_41, e156_44, gK0_eq, gK1_eq, gK3_eq, w32_id, bI_eq0, bI_eq1, Bool.false_eq_true, not_true_eq_false, not_false_eq_true, ne_eq, ite_not, ↓reduceIte, if_true, if_false, Int.reduceToNat, Nat.reduceAdd, Int.reduceEq, Int.reduceLT, Int.reduceLE, Int.reduceNeg, bI_T, bI_F, ↓if_pos, ↓if_neg, c0, s_at, atv_in, b1, c, run1, q8, e1, run2]
    · obtain ⟨μ2, f2, r2, run2⟩ := ih _ _ h (by omega)
      rw [if_neg c]
      refine ⟨μ2, f2, r2, fun Q => ?_⟩
      rw [e0, e156_7]
      simp (disch := first | assumption | omega) only [e156_0, e156_1, e156_4, e156_5, e156_6, e156_8, e156_11, e156_12, e156_15, e156_16, e156_19, e156_20, e156_23, e156_24, e156_25, e156_28, e156_29, e156_30, e156_33, e156_34, e156_35, e156_38, e156_41, e156_44, gK0_eq, gK1_eq, gK3_eq, w32_id, bI_eq0, bI_eq1, Bool.false_eq_true, not_true_eq_false, not_false_eq_true, ne_eq, ite_not, ↓reduceIte, if_true, if_false, Int.reduceToNat, Nat.reduceAdd, Int.reduceEq, Int.reduceLT, Int.reduceLE, Int.reduceNeg, bI_T, bI_F, ↓if_pos, ↓if_neg, c0, s_at, atv_in, b1, c, e1, run2]
theorem k_RfailAll {e : Int} (h : rRq x T μ) : ∃ μ', gFr x (x + 5) μ μ' ∧ rRq x (tFaA e (T 1881).toNat T) μ' ∧ ∀ Q : Int → gM → Prop, gE 156 0 [gO 5 x, gI e, gX] [] μ Q = Q 0 μ' := by
  have hl := h.1
  have h0 := h.2.2.1
  obtain ⟨μ1, f1, r1, run1⟩ := k_RfailAll_loop (e := e) (T 1881).toNat T μ h (by omega)
  rw [show ((T 1881).toNat : Int) = T 1881 by omega] at run1
  refine ⟨μ1, f1, r1, fun Q => ?_⟩
  simp (disch := first | assumption | omega) only [e156_0, e156_1, e156_4, e156_5, e156_6, e156_8, e156_11, e156_12, e156_15, e156_16, e156_19, e156_20, e156_23, e156_24, e156_25, e156_28, e156_29, e156_30, e156_33, e156_34, e156_35, e156_38, e156_41, e156_44, gK0_eq, gK1_eq, gK3_eq, w32_id, bI_eq0, bI_eq1, Bool.false_eq_true, not_true_eq_false, not_false_eq_true, ne_eq, ite_not, ↓reduceIte, if_true, if_false, Int.reduceToNat, Nat.reduceAdd, Int.reduceEq, Int.reduceLT, Int.reduceLE, Int.reduceNeg, bI_T, bI_F, ↓if_pos, ↓if_neg, h0, run1]
theorem k_RremoveBatch_loop {e : Int} : ∀ (n : Nat) (T : Int → Int) (μ : gM), rRq x T μ → (n : Int) ≤ T 1881 → ∃ μ', gFr x (x + 5) μ μ' ∧ rRq x (tRmB e n T) μ' ∧ ∀ Q : Int → gM → Prop, gE 159 7 [gO 5 x, gI e, gI ((n : Int) - 1)] [] μ Q = Q 0 μ' := by
  intro n
  induction n with
  | zero =>
    intro T μ h hn
    refine ⟨μ, gFr_refl, h, fun Q => ?_⟩
    rw [e159_7]
    simp (disch := first | assumption | omega) only [e159_0, e159_1, e159_4, e159_5, e159_6, e159_8, e159_11, e159_12, e159_15, e159_16, e159_19, e159_20, e159_23, e159_24, e159_25, e159_28, e159_31, e159_34, gK0_eq, gK1_eq, gK3_eq, w32_id, bI_eq0, bI_eq1, Bool.false_eq_true, not_true_eq_false, not_false_eq_true, ne_eq, ite_not, ↓reduceIte, if_true, if_false, Int.reduceToNat, Nat.reduceAdd, Int.reduceEq, Int.reduceLT, Int.reduceLE, Int.reduceNeg, bI_T, bI_F, ↓if_pos, ↓if_neg, Int.natCast_zero, Int.zero_sub]
  | succ n ih =>
    intro T μ h hn
    have h8 := h.1.2
    obtain ⟨b1, b2, b3, b4⟩ := h.2.2.2.2.2.2.2 n (by omega) (by omega)
    have e0 : ((n + 1 : Nat) : Int) - 1 = n := by omega
    have e1 : (n : Int) + -1 = (n : Int) - 1 := by omega
    have c0 : ¬ (n : Int) < 0 := by omega
    have c16 : (n : Int) < ((8 : Nat) : Int) := by omega
    have c00 : (0 : Int) ≤ n := by omega
    rw [tRmB]
    by_cases c : T (1882 + 4 * n + 3) = e
    · obtain ⟨μ1, f1, r1, run1⟩ := k_Rremove (k := n) h ⟨c00, by omega⟩
      obtain ⟨μ2, f2, r3, run2⟩ := ih _ _ r1 (by rw [tReqG_1881]; omega)
      rw [if_pos c]
      refine ⟨μ2, gFr_trans f1 f2, r3, fun Q => ?_⟩
      rw [e0, e159_7]
      simp (disch := first | assumption | omega) only [e159_0, e159_1, e159_4, e159_5, e159_6, e159_8, e159_11, e159_12, e159_15, e159_16, e159_19, e159_20, e159_23, e159_24, e159_25, e159_28, e159_31, e159_34, gK0_eq, gK1_eq, gK3_eq, w32_id, bI_eq0, bI_eq1, Bool.false_eq_true, not_true_eq_false, not_false_eq_true, ne_eq, ite_not, ↓reduceIte, if_true, if_false, Int.reduceToNat, Nat.reduceAdd, Int.reduceEq, Int.reduceLT, Int.reduceLE, Int.reduceNeg, bI_T, bI_F, ↓if_pos, ↓if_neg, c0, s_at, atv_in, b4, c, run1, e1, run2]
    · obtain ⟨μ2, f2, r2, run2⟩ := ih _ _ h (by omega)
      rw [if_neg c]
      refine ⟨μ2, f2, r2, fun Q => ?_⟩
      rw [e0, e159_7]
      simp (disch := first | assumption | omega) only [e159_0, e159_1, e159_4, e159_5, e159_6, e159_8, e159_11, e159_12, e159_15, e159_16, e159_19, e159_20, e159_23, e159_24, e159_25, e159_28, e159_31, e159_34, gK0_eq, gK1_eq, gK3_eq, w32_id, bI_eq0, bI_eq1, Bool.false_eq_true, not_true_eq_false, not_false_eq_true, ne_eq, ite_not, ↓reduceIte, if_true, if_false, Int.reduceToNat, Nat.reduceAdd, Int.reduceEq, Int.reduceLT, Int.reduceLE, Int.reduceNeg, bI_T, bI_F, ↓if_pos, ↓if_neg, c0, s_at, atv_in, b4, c, e1, run2]
theorem k_RremoveBatch {e : Int} (h : rRq x T μ) : ∃ μ', gFr x (x + 5) μ μ' ∧ rRq x (tRmB e (T 1881).toNat T) μ' ∧ ∀ Q : Int → gM → Prop, gE 159 0 [gO 5 x, gI e, gX] [] μ Q = Q 0 μ' := by
  have hl := h.1
  have h0 := h.2.2.1
  obtain ⟨μ1, f1, r1, run1⟩ := k_RremoveBatch_loop (e := e) (T 1881).toNat T μ h (by omega)
  rw [show ((T 1881).toNat : Int) = T 1881 by omega] at run1
  refine ⟨μ1, f1, r1, fun Q => ?_⟩
  simp (disch := first | assumption | omega) only [e159_0, e159_1, e159_4, e159_5, e159_6, e159_8, e159_11, e159_12, e159_15, e159_16, e159_19, e159_20, e159_23, e159_24, e159_25, e159_28, e159_31, e159_34, gK0_eq, gK1_eq, gK3_eq, w32_id, bI_eq0, bI_eq1, Bool.false_eq_true, not_true_eq_false, not_false_eq_true, ne_eq, ite_not, ↓reduceIte, if_true, if_false, Int.reduceToNat, Nat.reduceAdd, Int.reduceEq, Int.reduceLT, Int.reduceLE, Int.reduceNeg, bI_T, bI_F, ↓if_pos, ↓if_neg, h0, run1]
theorem k_RopenOf_loop {e : Int} (h : rRq x T μ) : ∀ (m : Nat) (k n : Int), 0 ≤ k → k + m = T 1881 → 0 ≤ n → n ≤ k →
    gE 154 4 [gO 5 x, gI e, gI n, gI k] [] μ Q = Q (n + cntF (fun k => decide (T (1882 + 4 * k) = e) && decide (T (1882 + 4 * k + 3) = 0)) k m) μ := by
  obtain ⟨hl, hb, h0, h5, h6, h7, h8, hr⟩ := h
  intro m
  induction m with
  | zero =>
    intro k n k0 k1 n0 n1
    have c : T 1881 ≤ k := by omega
    rw [e154_4]
    simp (disch := first | assumption | omega) only [e154_0, e154_1, e154_2, e154_3, e154_5, e154_6, e154_9, e154_12, e154_13, e154_16, e154_17, e154_20, e154_21, e154_24, e154_25, e154_28, e154_29, e154_32, e154_35, e154_38, e154_41, e154_44, e154_45, gK0_eq, gK1_eq, gK3_eq, w32_id, bI_eq0, bI_eq1, Bool.false_eq_true, not_true_eq_false, not_false_eq_true, ne_eq, ite_not, ↓reduceIte, if_true, if_false, Int.reduceToNat, Nat.reduceAdd, Int.reduceEq, Int.reduceLT, Int.reduceLE, Int.reduceNeg, bI_T, bI_F, ↓if_pos, ↓if_neg, h0, c, cntF, Int.add_zero]
  | succ m ih =>
    intro k n k0 k1 n0 n1
    have c : ¬ T 1881 ≤ k := by omega
    obtain ⟨b1, b2, b3, b4⟩ := hr k k0 (by omega)
    have c16 : k < ((8 : Nat) : Int) := by omega
    rw [e154_4]
    by_cases h2 : T (1882 + 4 * k) = e
    · by_cases h3 : T (1882 + 4 * k + 3) = 0
      · simp (disch := first | assumption | omega) only [e154_0, e154_1, e154_2, e154_3, e154_5, e154_6, e154_9, e154_12, e154_13, e154_16, e154_17, e154_20, e154_21, e154_24, e154_25, e154_28, e154_29, e154_32, e154_35, e154_38, e154_41, e154_44, e154_45, gK0_eq, gK1_eq, gK3_eq, w32_id, bI_eq0, bI_eq1, Bool.false_eq_true, not_true_eq_false, not_false_eq_true, ne_eq, ite_not, ↓reduceIte, if_true, if_false, Int.reduceToNat, Nat.reduceAdd, Int.reduceEq, Int.reduceLT, Int.reduceLE, Int.reduceNeg, bI_T, bI_F, ↓if_pos, ↓if_neg, h0, c, s_at, atv_in, b1, b4, h2, h3]
        rw [ih (k + 1) (n + 1) (by omega) (by omega) (by omega) (by omega), cntF_t (by simp [h2, h3]), Int.add_assoc]
      · simp (disch := first | assumption | omega) only [e154_0, e154_1, e154_2, e154_3, e154_5, e154_6, e154_9, e154_12, e154_13, e154_16, e154_17, e154_20, e154_21, e154_24, e154_25, e154_28, e154_29, e154_32, e154_35, e154_38, e154_41, e154_44, e154_45, gK0_eq, gK1_eq, gK3_eq, w32_id, bI_eq0, bI_eq1, Bool.false_eq_true, not_true_eq_false, not_false_eq_true, ne_eq, ite_not, ↓reduceIte, if_true, if_false, Int.reduceToNat, Nat.reduceAdd, Int.reduceEq, Int.reduceLT, Int.reduceLE, Int.reduceNeg, bI_T, bI_F, ↓if_pos, ↓if_neg, h0, c, s_at, atv_in, b1, b4, h2, h3]
        rw [ih (k + 1) n (by omega) (by omega) (by omega) (by omega), cntF_f (by simp [h3])]
    · simp (disch := first | assumption | omega) only [e154_0, e154_1, e154_2, e154_3, e154_5, e154_6, e154_9, e154_12, e154_13, e154_16, e154_17, e154_20, e154_21, e154_24, e154_25, e154_28, e154_29, e154_32, e154_35, e154_38, e154_41, e154_44, e154_45, gK0_eq, gK1_eq, gK3_eq, w32_id, bI_eq0, bI_eq1, Bool.false_eq_true, not_true_eq_false, not_false_eq_true, ne_eq, ite_not, ↓reduceIte, if_true, if_false, Int.reduceToNat, Nat.reduceAdd, Int.reduceEq, Int.reduceLT, Int.reduceLE, Int.reduceNeg, bI_T, bI_F, ↓if_pos, ↓if_neg, h0, c, s_at, atv_in, b1, h2]
      rw [ih (k + 1) n (by omega) (by omega) (by omega) (by omega), cntF_f (by simp [h2])]
theorem k_RopenOf {e : Int} (h : rRq x T μ) : gE 154 0 [gO 5 x, gI e, gX, gX] [] μ Q = Q (tWai T e 0) μ := by
  have hl := h.1
  simp (disch := first | assumption | omega) only [e154_0, e154_1, e154_2, e154_3, e154_5, e154_6, e154_9, e154_12, e154_13, e154_16, e154_17, e154_20, e154_21, e154_24, e154_25, e154_28, e154_29, e154_32, e154_35, e154_38, e154_41, e154_44, e154_45, gK0_eq, gK1_eq, gK3_eq, w32_id, bI_eq0, bI_eq1, Bool.false_eq_true, not_true_eq_false, not_false_eq_true, ne_eq, ite_not, ↓reduceIte, if_true, if_false, Int.reduceToNat, Nat.reduceAdd, Int.reduceEq, Int.reduceLT, Int.reduceLE, Int.reduceNeg, bI_T, bI_F]
  rw [k_RopenOf_loop h (T 1881).toNat 0 0 (by omega) (by omega) (by omega) (by omega), Int.zero_add]
  rfl
theorem rRq_cl1 {T : Int → Int} {μ : gM} {e k : Int} (h : rRq x T μ) (hk : 0 ≤ k ∧ k < T 1881) (c : T (1882 + 4 * k) = e ∧ T (1882 + 4 * k + 3) = 0) : rRq x (tCl1 e k T) (gS μ (x + 4) k (T 1914)) := by
  obtain ⟨hl, hb, h0, h5, h6, h7, h8, hr⟩ := h
  have q : tCl1 e k T = tS T (1882 + 4 * k + 3) (T 1914) := if_pos c
  have k0 := hk.1
  have hl2 := hl.2
  rw [q]
  refine ⟨by rw [tS_ne (by omega)]; exact hl, by rw [tS_ne (by omega), tS_ne (by omega)]; exact hb, ?_, ?_, ?_, ?_, ?_, fun i i0 i1 => ?_⟩
  · rw [tS_ne (by omega)]; simp (disch := first | assumption | omega) only [gS_neK, h0]
  · rw [tS_ne (by omega)]; simp (disch := first | assumption | omega) only [gS_neK, h5]
  · rw [tS_ne (by omega)]; simp (disch := first | assumption | omega) only [gS_neK, h6]
  · rw [tS_ne (by omega)]; simp (disch := first | assumption | omega) only [gS_neK, h7]
  · rw [tS_ne (by omega)]; simp (disch := first | assumption | omega) only [gS_neK, h8]
  · rw [tS_ne (by omega)] at i1
    obtain ⟨b1, b2, b3, b4⟩ := hr i i0 i1
    rw [tS_ne (by omega), tS_ne (by omega), tS_ne (by omega)]
    by_cases ci : i = k
    · subst ci
      simp (disch := first | assumption | omega) only [gS_neK, gS_same, tS_same, b1, b2, b3, and_self]
    · rw [tS_ne (by omega)]
      simp (disch := first | assumption | omega) only [gS_neK, gS_neI, b1, b2, b3, b4, and_self]
theorem k_Rclose_loop {e n : Int} : ∀ (m : Nat) (k : Int) (T : Int → Int) (μ : gM), rRq x T μ → 0 ≤ k → k + m = T 1881 → ∃ μ', gFr x (x + 5) μ μ' ∧ rRq x (itF (fun k T => tCl1 e k T) k m T) μ' ∧ ∀ Q : Int → gM → Prop, gE 157 25 [gO 5 x, gI e, gI n, gI k] [] μ Q = Q n μ' := by
  intro m
  induction m with
  | zero =>
    intro k T μ h k0 k1
    have c : T 1881 ≤ k := by omega
    have h0 := h.2.2.1
    refine ⟨μ, gFr_refl, h, fun Q => ?_⟩
    rw [e157_25]
    simp (disch := first | assumption | omega) only [e157_0, e157_1, e157_2, e157_5, e157_6, e157_7, e157_10, e157_12, e157_13, e157_14, e157_15, e157_18, e157_19, e157_20, e157_23, e157_24, e157_26, e157_27, e157_30, e157_33, e157_34, e157_37, e157_38, e157_41, e157_42, e157_45, e157_46, e157_49, e157_50, e157_53, e157_56, e157_57, e157_60, e157_61, e157_62, e157_65, e157_68, e157_71, e157_74, e157_75, gK0_eq, gK1_eq, gK3_eq, w32_id, bI_eq0, bI_eq1, Bool.false_eq_true, not_true_eq_false, not_false_eq_true, ne_eq, ite_not, ↓reduceIte, if_true, if_false, Int.reduceToNat, Nat.reduceAdd, Int.reduceEq, Int.reduceLT, Int.reduceLE, Int.reduceNeg, bI_T, bI_F, ↓if_pos, ↓if_neg, h0, c]
  | succ m ih =>
    intro k T μ h k0 k1
    have c : ¬ T 1881 ≤ k := by omega
    have h8 := h.1.2
    have h0 := h.2.2.1
    have h5 := h.2.2.2.1
    obtain ⟨b1, b2, b3, b4⟩ := h.2.2.2.2.2.2.2 k k0 (by omega)
    have c16 : k < ((8 : Nat) : Int) := by omega
    have lo : tCl1 e k T 1881 = T 1881 := tCl1_lo (by omega) (by omega)
    by_cases h2 : T (1882 + 4 * k) = e
    · by_cases h3 : T (1882 + 4 * k + 3) = 0
      · have r1 := rRq_cl1 h ⟨k0, by omega⟩ ⟨h2, h3⟩
        obtain ⟨μ2, f2, r2, run2⟩ := ih (k + 1) _ _ r1 (by omega) (by rw [lo]; omega)
        refine ⟨μ2, gFr_trans (gFr_gS gFr_refl (by omega) (by omega)) f2, r2, fun Q => ?_⟩
        rw [e157_25]
        simp (disch := first | assumption | omega) only [e157_0, e157_1, e157_2, e157_5, e157_6, e157_7, e157_10, e157_12, e157_13, e157_14, e157_15, e157_18, e157_19, e157_20, e157_23, e157_24, e157_26, e157_27, e157_30, e157_33, e157_34, e157_37, e157_38, e157_41, e157_42, e157_45, e157_46, e157_49, e157_50, e157_53, e157_56, e157_57, e157_60, e157_61, e157_62, e157_65, e157_68, e157_71, e157_74, e157_75, gK0_eq, gK1_eq, gK3_eq, w32_id, bI_eq0, bI_eq1, Bool.false_eq_true, not_true_eq_false, not_false_eq_true, ne_eq, ite_not, ↓reduceIte, if_true, if_false, Int.reduceToNat, Nat.reduceAdd, Int.reduceEq, Int.reduceLT, Int.reduceLE, Int.reduceNeg, bI_T, bI_F, ↓if_pos, ↓if_neg, h0, h5, c, s_at, atv_in, s_put', putv_in, b1, b4, h2, h3, run2]
      · have q : tCl1 e k T = T := if_neg (fun q => h3 q.2)
        obtain ⟨μ2, f2, r2, run2⟩ := ih (k + 1) _ _ h (by omega) (by omega)
        refine ⟨μ2, f2, by rw [itF, q]; exact r2, fun Q => ?_⟩
        rw [e157_25]
        simp (disch := first | assumption | omega) only [e157_0, e157_1, e157_2, e157_5, e157_6, e157_7, e157_10, e157_12, e157_13, e157_14, e157_15, e157_18, e157_19, e157_20, e157_23, e157_24, e157_26, e157_27, e157_30, e157_33, e157_34, e157_37, e157_38, e157_41, e157_42, e157_45, e157_46, e157_49, e157_50, e157_53, e157_56, e157_57, e157_60, e157_61, e157_62, e157_65, e157_68, e157_71, e157_74, e157_75, gK0_eq, gK1_eq, gK3_eq, w32_id, bI_eq0, bI_eq1, Bool.false_eq_true, not_true_eq_false, not_false_eq_true, ne_eq, ite_not, ↓reduceIte, if_true, if_false, Int.reduceToNat, Nat.reduceAdd, Int.reduceEq, Int.reduceLT, Int.reduceLE, Int.reduceNeg, bI_T, bI_F, ↓if_pos, ↓if_neg, h0, h5, c, s_at, atv_in, b1, b4, h2, h3, run2]
    · have q : tCl1 e k T = T := if_neg (fun q => h2 q.1)
      obtain ⟨μ2, f2, r2, run2⟩ := ih (k + 1) _ _ h (by omega) (by omega)
      refine ⟨μ2, f2, by rw [itF, q]; exact r2, fun Q => ?_⟩
      rw [e157_25]
      simp (disch := first | assumption | omega) only [e157_0, e157_1, e157_2, e157_5, e157_6, e157_7, e157_10, e157_12, e157_13, e157_14, e157_15, e157_18, e157_19, e157_20, e157_23, e157_24, e157_26, e157_27, e157_30, e157_33, e157_34, e157_37, e157_38, e157_41, e157_42, e157_45, e157_46, e157_49, e157_50, e157_53, e157_56, e157_57, e157_60, e157_61, e157_62, e157_65, e157_68, e157_71, e157_74, e157_75, gK0_eq, gK1_eq, gK3_eq, w32_id, bI_eq0, bI_eq1, Bool.false_eq_true, not_true_eq_false, not_false_eq_true, ne_eq, ite_not, ↓reduceIte, if_true, if_false, Int.reduceToNat, Nat.reduceAdd, Int.reduceEq, Int.reduceLT, Int.reduceLE, Int.reduceNeg, bI_T, bI_F, ↓if_pos, ↓if_neg, h0, h5, c, s_at, atv_in, b1, h2, run2]
theorem k_Rclose {e : Int} (h : rRq x T μ) : ∃ μ', gFr x (x + 5) μ μ' ∧ rRq x (if tWai T e 0 = 0 then T else tClo T e) μ' ∧ ∀ Q : Int → gM → Prop, gE 157 0 [gO 5 x, gI e, gX, gX] [] μ Q = Q (if tWai T e 0 = 0 then -2 else tWai T e 0) μ' := by
  have hl := h.1
  by_cases c : tWai T e 0 = 0
  · rw [if_pos c, if_pos c]
    refine ⟨μ, gFr_refl, h, fun Q => ?_⟩
    simp (disch := first | assumption | omega) only [e157_0, e157_1, e157_2, e157_5, e157_6, e157_7, e157_10, e157_12, e157_13, e157_14, e157_15, e157_18, e157_19, e157_20, e157_23, e157_24, e157_26, e157_27, e157_30, e157_33, e157_34, e157_37, e157_38, e157_41, e157_42, e157_45, e157_46, e157_49, e157_50, e157_53, e157_56, e157_57, e157_60, e157_61, e157_62, e157_65, e157_68, e157_71, e157_74, e157_75, gK0_eq, gK1_eq, gK3_eq, w32_id, bI_eq0, bI_eq1, Bool.false_eq_true, not_true_eq_false, not_false_eq_true, ne_eq, ite_not, ↓reduceIte, if_true, if_false, Int.reduceToNat, Nat.reduceAdd, Int.reduceEq, Int.reduceLT, Int.reduceLE, Int.reduceNeg, bI_T, bI_F, ↓if_pos, ↓if_neg, k_RopenOf h, c]
  · rw [if_neg c, if_neg c]
    have h5 := h.2.2.2.1
    have r0 : rRq x (tMor T 1914) (gS μ x 5 (w32 (T 1914 + 1))) := by
      obtain ⟨hl, hb, h0, h5, h6, h7, h8, hr⟩ := h
      have e : tMor T 1914 1914 = w32 (T 1914 + 1) := tS_same
      refine ⟨by rw [tMor_ne (by omega)]; exact hl, by rw [tMor_ne (by omega), tMor_ne (by omega)]; exact hb, ?_, ?_, ?_, ?_, ?_, fun i i0 i1 => ?_⟩
      · rw [tMor_ne (by omega)]; simp (disch := first | assumption | omega) only [gS_neI, h0]
      · rw [e]; simp (disch := first | assumption | omega) only [gS_same]
      · rw [tMor_ne (by omega)]; simp (disch := first | assumption | omega) only [gS_neI, h6]
      · rw [tMor_ne (by omega)]; simp (disch := first | assumption | omega) only [gS_neI, h7]
      · rw [tMor_ne (by omega)]; simp (disch := first | assumption | omega) only [gS_neI, h8]
      · rw [tMor_ne (by omega)] at i1
        obtain ⟨b1, b2, b3, b4⟩ := hr i i0 i1
        rw [tMor_ne (by omega), tMor_ne (by omega), tMor_ne (by omega), tMor_ne (by omega)]
        simp (disch := first | assumption | omega) only [gS_neK, b1, b2, b3, b4, and_self]
    obtain ⟨μ2, f2, r2, run2⟩ := k_Rclose_loop (e := e) (n := tWai T e 0) (T 1881).toNat 0 _ _ r0 (by omega) (by rw [tMor_ne (by omega)]; omega)
    refine ⟨μ2, gFr_trans (gFr_gS gFr_refl (by omega) (by omega)) f2, r2, fun Q => ?_⟩
    simp (disch := first | assumption | omega) only [e157_0, e157_1, e157_2, e157_5, e157_6, e157_7, e157_10, e157_12, e157_13, e157_14, e157_15, e157_18, e157_19, e157_20, e157_23, e157_24, e157_26, e157_27, e157_30, e157_33, e157_34, e157_37, e157_38, e157_41, e157_42, e157_45, e157_46, e157_49, e157_50, e157_53, e157_56, e157_57, e157_60, e157_61, e157_62, e157_65, e157_68, e157_71, e157_74, e157_75, gK0_eq, gK1_eq, gK3_eq, w32_id, bI_eq0, bI_eq1, Bool.false_eq_true, not_true_eq_false, not_false_eq_true, ne_eq, ite_not, ↓reduceIte, if_true, if_false, Int.reduceToNat, Nat.reduceAdd, Int.reduceEq, Int.reduceLT, Int.reduceLE, Int.reduceNeg, bI_T, bI_F, ↓if_pos, ↓if_neg, k_RopenOf h, c, h5, run2]
theorem k_RfirstBatch_loop (h : rRq x T μ) (hn : tBnn T) : ∀ (m : Nat) (k best : Int) (l3 : gv), 0 ≤ k → k + m = T 1881 →
    gE 158 4 [gO 5 x, gI best, gI k, l3] [] μ Q = Q (itF (fun k best => tFb1 T k best) k m best) μ := by
  obtain ⟨hl, hb, h0, h5, h6, h7, h8, hr⟩ := h
  intro m
  induction m with
  | zero =>
    intro k best l3 k0 k1
    have c : T 1881 ≤ k := by omega
    rw [e158_4]
    simp (disch := first | assumption | omega) only [e158_0, e158_1, e158_2, e158_3, e158_5, e158_6, e158_9, e158_12, e158_13, e158_16, e158_17, e158_20, e158_21, e158_22, e158_25, e158_26, e158_29, e158_30, e158_31, e158_34, e158_35, e158_36, e158_39, e158_42, e158_43, gK0_eq, gK1_eq, gK3_eq, w32_id, bI_eq0, bI_eq1, Bool.false_eq_true, not_true_eq_false, not_false_eq_true, ne_eq, ite_not, ↓reduceIte, if_true, if_false, Int.reduceToNat, Nat.reduceAdd, Int.reduceEq, Int.reduceLT, Int.reduceLE, Int.reduceNeg, bI_T, bI_F, ↓if_pos, ↓if_neg, h0, c, itF]
  | succ m ih =>
    intro k best l3 k0 k1
    have c : ¬ T 1881 ≤ k := by omega
    obtain ⟨b1, b2, b3, b4⟩ := hr k k0 (by omega)
    have c16 : k < ((8 : Nat) : Int) := by omega
    have nn := hn k k0 (by omega)
    rw [e158_4, itF]
    by_cases c1 : T (1882 + 4 * k + 3) = 0
    · have e1 : tFb1 T k best = best := if_neg (by omega)
      simp (disch := first | assumption | omega) only [e158_0, e158_1, e158_2, e158_3, e158_5, e158_6, e158_9, e158_12, e158_13, e158_16, e158_17, e158_20, e158_21, e158_22, e158_25, e158_26, e158_29, e158_30, e158_31, e158_34, e158_35, e158_36, e158_39, e158_42, e158_43, gK0_eq, gK1_eq, gK3_eq, w32_id, bI_eq0, bI_eq1, Bool.false_eq_true, not_true_eq_false, not_false_eq_true, ne_eq, ite_not, ↓reduceIte, if_true, if_false, Int.reduceToNat, Nat.reduceAdd, Int.reduceEq, Int.reduceLT, Int.reduceLE, Int.reduceNeg, bI_T, bI_F, ↓if_pos, ↓if_neg, h0, c, s_at, atv_in, b4, c1, e1]
      rw [ih _ _ _ (by omega) (by omega)]
    · by_cases c2 : best = 0
      · have e1 : tFb1 T k best = T (1882 + 4 * k + 3) := if_pos (by omega)
        simp (disch := first | assumption | omega) only [e158_0, e158_1, e158_2, e158_3, e158_5, e158_6, e158_9, e158_12, e158_13, e158_16, e158_17, e158_20, e158_21, e158_22, e158_25, e158_26, e158_29, e158_30, e158_31, e158_34, e158_35, e158_36, e158_39, e158_42, e158_43, gK0_eq, gK1_eq, gK3_eq, w32_id, bI_eq0, bI_eq1, Bool.false_eq_true, not_true_eq_false, not_false_eq_true, ne_eq, ite_not, ↓reduceIte, if_true, if_false, Int.reduceToNat, Nat.reduceAdd, Int.reduceEq, Int.reduceLT, Int.reduceLE, Int.reduceNeg, bI_T, bI_F, ↓if_pos, ↓if_neg, h0, c, s_at, atv_in, b4, c1, c2]
        rw [ih _ _ _ (by omega) (by omega), ← c2, e1]
      · by_cases c3 : best ≤ T (1882 + 4 * k + 3)
        · have e1 : tFb1 T k best = best := if_neg (by omega)
          simp (disch := first | assumption | omega) only [e158_0, e158_1, e158_2, e158_3, e158_5, e158_6, e158_9, e158_12, e158_13, e158_16, e158_17, e158_20, e158_21, e158_22, e158_25, e158_26, e158_29, e158_30, e158_31, e158_34, e158_35, e158_36, e158_39, e158_42, e158_43, gK0_eq, gK1_eq, gK3_eq, w32_id, bI_eq0, bI_eq1, Bool.false_eq_true, not_true_eq_false, not_false_eq_true, ne_eq, ite_not, ↓reduceIte, if_true, if_false, Int.reduceToNat, Nat.reduceAdd, Int.reduceEq, Int.reduceLT, Int.reduceLE, Int.reduceNeg, bI_T, bI_F, ↓if_pos, ↓if_neg, h0, c, s_at, atv_in, b4, c1, c2, c3, e1]
          rw [ih _ _ _ (by omega) (by omega)]
        · have e1 : tFb1 T k best = T (1882 + 4 * k + 3) := if_pos (by omega)
          simp (disch := first | assumption | omega) only [e158_0, e158_1, e158_2, e158_3, e158_5, e158_6, e158_9, e158_12, e158_13, e158_16, e158_17, e158_20, e158_21, e158_22, e158_25, e158_26, e158_29, e158_30, e158_31, e158_34, e158_35, e158_36, e158_39, e158_42, e158_43, gK0_eq, gK1_eq, gK3_eq, w32_id, bI_eq0, bI_eq1, Bool.false_eq_true, not_true_eq_false, not_false_eq_true, ne_eq, ite_not, ↓reduceIte, if_true, if_false, Int.reduceToNat, Nat.reduceAdd, Int.reduceEq, Int.reduceLT, Int.reduceLE, Int.reduceNeg, bI_T, bI_F, ↓if_pos, ↓if_neg, h0, c, s_at, atv_in, b4, c1, c2, c3, e1]
          rw [ih _ _ _ (by omega) (by omega)]
theorem k_RfirstBatch (h : rRq x T μ) (hn : tBnn T) : gE 158 0 [gO 5 x, gX, gX, gX] [] μ Q = Q (tFirB T) μ := by
  have hl := h.1
  simp (disch := first | assumption | omega) only [e158_0, e158_1, e158_2, e158_3, e158_5, e158_6, e158_9, e158_12, e158_13, e158_16, e158_17, e158_20, e158_21, e158_22, e158_25, e158_26, e158_29, e158_30, e158_31, e158_34, e158_35, e158_36, e158_39, e158_42, e158_43, gK0_eq, gK1_eq, gK3_eq, w32_id, bI_eq0, bI_eq1, Bool.false_eq_true, not_true_eq_false, not_false_eq_true, ne_eq, ite_not, ↓reduceIte, if_true, if_false, Int.reduceToNat, Nat.reduceAdd, Int.reduceEq, Int.reduceLT, Int.reduceLE, Int.reduceNeg, bI_T, bI_F]
  rw [k_RfirstBatch_loop h hn (T 1881).toNat 0 0 gX (by omega) (by omega)]
  rfl
theorem k_RisFirst_loop {k : Int} (h : rRq x T μ) (hk : 0 ≤ k ∧ k < T 1881) : ∀ (m : Nat) (i : Int), 0 ≤ i → i + m = k →
    gE 162 2 [gO 5 x, gI k, gI i] [] μ Q = Q (bI (anyF (fun i => decide (T (1882 + 4 * i + 3) = T (1882 + 4 * k + 3))) i m = false)) μ := by
  obtain ⟨hl, hb, h0, h5, h6, h7, h8, hr⟩ := h
  obtain ⟨d1, d2, d3, d4⟩ := hr k hk.1 hk.2
  have ck : k < ((8 : Nat) : Int) := by omega
  have ck0 := hk.1
  intro m
  induction m with
  | zero =>
    intro i i0 i1
    have c : k ≤ i := by omega
    rw [e162_2, bI_t (by rfl)]
    simp (disch := first | assumption | omega) only [e162_0, e162_1, e162_3, e162_4, e162_7, e162_8, e162_11, e162_12, e162_15, e162_16, e162_19, e162_20, e162_23, e162_26, e162_27, e162_28, e162_31, e162_34, e162_35, gK0_eq, gK1_eq, gK3_eq, w32_id, bI_eq0, bI_eq1, Bool.false_eq_true, not_true_eq_false, not_false_eq_true, ne_eq, ite_not, ↓reduceIte, if_true, if_false, Int.reduceToNat, Nat.reduceAdd, Int.reduceEq, Int.reduceLT, Int.reduceLE, Int.reduceNeg, bI_T, bI_F, ↓if_pos, ↓if_neg, c]
  | succ m ih =>
    intro i i0 i1
    have c : ¬ k ≤ i := by omega
    obtain ⟨b1, b2, b3, b4⟩ := hr i i0 (by omega)
    have c16 : i < ((8 : Nat) : Int) := by omega
    rw [e162_2]
    by_cases c1 : T (1882 + 4 * i + 3) = T (1882 + 4 * k + 3)
    · rw [bI_f (by simp [anyF, c1])]
      simp (disch := first | assumption | omega) only [e162_0, e162_1, e162_3, e162_4, e162_7, e162_8, e162_11, e162_12, e162_15, e162_16, e162_19, e162_20, e162_23, e162_26, e162_27, e162_28, e162_31, e162_34, e162_35, gK0_eq, gK1_eq, gK3_eq, w32_id, bI_eq0, bI_eq1, Bool.false_eq_true, not_true_eq_false, not_false_eq_true, ne_eq, ite_not, ↓reduceIte, if_true, if_false, Int.reduceToNat, Nat.reduceAdd, Int.reduceEq, Int.reduceLT, Int.reduceLE, Int.reduceNeg, bI_T, bI_F, ↓if_pos, ↓if_neg, c, s_at, atv_in, b4, d4, c1]
    · simp (disch := first | assumption | omega) only [e162_0, e162_1, e162_3, e162_4, e162_7, e162_8, e162_11, e162_12, e162_15, e162_16, e162_19, e162_20, e162_23, e162_26, e162_27, e162_28, e162_31, e162_34, e162_35, gK0_eq, gK1_eq, gK3_eq, w32_id, bI_eq0, bI_eq1, Bool.false_eq_true, not_true_eq_false, not_false_eq_true, ne_eq, ite_not, ↓reduceIte, if_true, if_false, Int.reduceToNat, Nat.reduceAdd, Int.reduceEq, Int.reduceLT, Int.reduceLE, Int.reduceNeg, bI_T, bI_F, ↓if_pos, ↓if_neg, c, s_at, atv_in, b4, d4, c1]
      rw [ih _ (by omega) (by omega), anyF, decide_eq_false c1, Bool.false_or]
theorem k_RisFirst {k : Int} (h : rRq x T μ) (hk : 0 ≤ k ∧ k < T 1881) : gE 162 0 [gO 5 x, gI k, gX] [] μ Q = Q (bI (anyF (fun i => decide (T (1882 + 4 * i + 3) = T (1882 + 4 * k + 3))) 0 k.toNat = false)) μ := by
  simp (disch := first | assumption | omega) only [e162_0, e162_1, e162_3, e162_4, e162_7, e162_8, e162_11, e162_12, e162_15, e162_16, e162_19, e162_20, e162_23, e162_26, e162_27, e162_28, e162_31, e162_34, e162_35, gK0_eq, gK1_eq, gK3_eq, w32_id, bI_eq0, bI_eq1, Bool.false_eq_true, not_true_eq_false, not_false_eq_true, ne_eq, ite_not, ↓reduceIte, if_true, if_false, Int.reduceToNat, Nat.reduceAdd, Int.reduceEq, Int.reduceLT, Int.reduceLE, Int.reduceNeg, bI_T, bI_F]
  exact k_RisFirst_loop h hk k.toNat 0 (by omega) (by omega)
theorem k_RbatchesOf_loop {e : Int} (h : rRq x T μ) (hn : tBnn T) (he : 0 ≤ e) : ∀ (m : Nat) (k n : Int), 0 ≤ k → k + m = T 1881 → 0 ≤ n → n ≤ k →
    gE 161 4 [gO 5 x, gI e, gI n, gI k] [] μ Q = Q (n + cntF (tBt T e) k m) μ := by
  have h' := h
  obtain ⟨hl, hb, h0, h5, h6, h7, h8, hr⟩ := h
  intro m
  induction m with
  | zero =>
    intro k n k0 k1 n0 n1
    have c : T 1881 ≤ k := by omega
    rw [e161_4]
    simp (disch := first | assumption | omega) only [e161_0, e161_1, e161_2, e161_3, e161_5, e161_6, e161_9, e161_12, e161_13, e161_16, e161_17, e161_20, e161_21, e161_24, e161_25, e161_28, e161_29, e161_32, e161_35, e161_36, e161_37, e161_40, e161_43, e161_46, e161_49, e161_52, e161_53, gK0_eq, gK1_eq, gK3_eq, w32_id, bI_eq0, bI_eq1, Bool.false_eq_true, not_true_eq_false, not_false_eq_true, ne_eq, ite_not, ↓reduceIte, if_true, if_false, Int.reduceToNat, Nat.reduceAdd, Int.reduceEq, Int.reduceLT, Int.reduceLE, Int.reduceNeg, bI_T, bI_F, ↓if_pos, ↓if_neg, h0, c, cntF, Int.add_zero]
  | succ m ih =>
    intro k n k0 k1 n0 n1
    have c : ¬ T 1881 ≤ k := by omega
    obtain ⟨b1, b2, b3, b4⟩ := hr k k0 (by omega)
    have c16 : k < ((8 : Nat) : Int) := by omega
    have nn := hn k k0 (by omega)
    have ck : 0 ≤ k ∧ k < T 1881 := by omega
    have he' : ¬ e < 0 := by omega
    rw [e161_4]
    by_cases h2 : T (1882 + 4 * k) = e
    · by_cases h3 : T (1882 + 4 * k + 3) = 0
      · simp (disch := first | assumption | omega) only [e161_0, e161_1, e161_2, e161_3, e161_5, e161_6, e161_9, e161_12, e161_13, e161_16, e161_17, e161_20, e161_21, e161_24, e161_25, e161_28, e161_29, e161_32, e161_35, e161_36, e161_37, e161_40, e161_43, e161_46, e161_49, e161_52, e161_53, gK0_eq, gK1_eq, gK3_eq, w32_id, bI_eq0, bI_eq1, Bool.false_eq_true, not_true_eq_false, not_false_eq_true, ne_eq, ite_not, ↓reduceIte, if_true, if_false, Int.reduceToNat, Nat.reduceAdd, Int.reduceEq, Int.reduceLT, Int.reduceLE, Int.reduceNeg, bI_T, bI_F, ↓if_pos, ↓if_neg, h0, c, s_at, atv_in, b1, b4, h2, h3]
        rw [ih (k + 1) n (by omega) (by omega) (by omega) (by omega), cntF_f (by unfold tBt; rw [h3]; rfl)]
      · have h4 : 0 < T (1882 + 4 * k + 3) := by omega
        cases ha : anyF (fun i => decide (T (1882 + 4 * i + 3) = T (1882 + 4 * k + 3))) 0 k.toNat with
        | false =>
          simp (disch := first | assumption | omega) only [e161_0, e161_1, e161_2, e161_3, e161_5, e161_6, e161_9, e161_12, e161_13, e161_16, e161_17, e161_20, e161_21, e161_24, e161_25, e161_28, e161_29, e161_32, e161_35, e161_36, e161_37, e161_40, e161_43, e161_46, e161_49, e161_52, e161_53, gK0_eq, gK1_eq, gK3_eq, w32_id, bI_eq0, bI_eq1, Bool.false_eq_true, not_true_eq_false, not_false_eq_true, ne_eq, ite_not, ↓reduceIte, if_true, if_false, Int.reduceToNat, Nat.reduceAdd, Int.reduceEq, Int.reduceLT, Int.reduceLE, Int.reduceNeg, bI_T, bI_F, ↓if_pos, ↓if_neg, h0, c, s_at, atv_in, b1, b4, h2, h3, k_RisFirst h' ck, ha]
          rw [ih (k + 1) (n + 1) (by omega) (by omega) (by omega) (by omega), cntF_t (by unfold tBt; rw [ha]; simp [h2, h4]), Int.add_assoc]
        | true =>
          simp (disch := first | assumption | omega) only [e161_0, e161_1, e161_2, e161_3, e161_5, e161_6, e161_9, e161_12, e161_13, e161_16, e161_17, e161_20, e161_21, e161_24, e161_25, e161_28, e161_29, e161_32, e161_35, e161_36, e161_37, e161_40, e161_43, e161_46, e161_49, e161_52, e161_53, gK0_eq, gK1_eq, gK3_eq, w32_id, bI_eq0, bI_eq1, Bool.false_eq_true, not_true_eq_false, not_false_eq_true, ne_eq, ite_not, ↓reduceIte, if_true, if_false, Int.reduceToNat, Nat.reduceAdd, Int.reduceEq, Int.reduceLT, Int.reduceLE, Int.reduceNeg, bI_T, bI_F, ↓if_pos, ↓if_neg, h0, c, s_at, atv_in, b1, b4, h2, h3, k_RisFirst h' ck, ha, Bool.true_eq_false]
          rw [ih (k + 1) n (by omega) (by omega) (by omega) (by omega), cntF_f (by unfold tBt; rw [ha]; simp)]
    · simp (disch := first | assumption | omega) only [e161_0, e161_1, e161_2, e161_3, e161_5, e161_6, e161_9, e161_12, e161_13, e161_16, e161_17, e161_20, e161_21, e161_24, e161_25, e161_28, e161_29, e161_32, e161_35, e161_36, e161_37, e161_40, e161_43, e161_46, e161_49, e161_52, e161_53, gK0_eq, gK1_eq, gK3_eq, w32_id, bI_eq0, bI_eq1, Bool.false_eq_true, not_true_eq_false, not_false_eq_true, ne_eq, ite_not, ↓reduceIte, if_true, if_false, Int.reduceToNat, Nat.reduceAdd, Int.reduceEq, Int.reduceLT, Int.reduceLE, Int.reduceNeg, bI_T, bI_F, ↓if_pos, ↓if_neg, h0, c, s_at, atv_in, b1, h2]
      rw [ih (k + 1) n (by omega) (by omega) (by omega) (by omega), cntF_f (by unfold tBt; simp [h2, he'])]
theorem k_RbatchesOf {e : Int} (h : rRq x T μ) (hn : tBnn T) (he : 0 ≤ e) : gE 161 0 [gO 5 x, gI e, gX, gX] [] μ Q = Q (tBts T e) μ := by
  have hl := h.1
  simp (disch := first | assumption | omega) only [e161_0, e161_1, e161_2, e161_3, e161_5, e161_6, e161_9, e161_12, e161_13, e161_16, e161_17, e161_20, e161_21, e161_24, e161_25, e161_28, e161_29, e161_32, e161_35, e161_36, e161_37, e161_40, e161_43, e161_46, e161_49, e161_52, e161_53, gK0_eq, gK1_eq, gK3_eq, w32_id, bI_eq0, bI_eq1, Bool.false_eq_true, not_true_eq_false, not_false_eq_true, ne_eq, ite_not, ↓reduceIte, if_true, if_false, Int.reduceToNat, Nat.reduceAdd, Int.reduceEq, Int.reduceLT, Int.reduceLE, Int.reduceNeg, bI_T, bI_F]
  rw [k_RbatchesOf_loop h hn he (T 1881).toNat 0 0 (by omega) (by omega) (by omega) (by omega), Int.zero_add]
  rfl
theorem tBts_in {e : Int} : 0 ≤ tBts T e ∧ tBts T e ≤ (T 1881).toNat := cntF_nn _ _ _
theorem k_Rbatches_loop (h : rRq x T μ) (hn : tBnn T) : ∀ (m : Nat) (d n : Int), 0 ≤ d → d + m = 8 → 0 ≤ n → n ≤ 8 * d →
    gE 160 4 [gO 5 x, gI n, gI d] [] μ Q = Q (itF (fun d n => n + tBts T d) d m n) μ := by
  have hl := h.1
  intro m
  induction m with
  | zero =>
    intro d n d0 d1 n0 n1
    have c : 8 ≤ d := by omega
    rw [e160_4]
    simp (disch := first | assumption | omega) only [e160_0, e160_1, e160_2, e160_3, e160_5, e160_7, e160_10, e160_11, e160_12, e160_13, e160_16, e160_17, e160_18, e160_21, e160_24, e160_25, gK0_eq, gK1_eq, gK3_eq, w32_id, bI_eq0, bI_eq1, Bool.false_eq_true, not_true_eq_false, not_false_eq_true, ne_eq, ite_not, ↓reduceIte, if_true, if_false, Int.reduceToNat, Nat.reduceAdd, Int.reduceEq, Int.reduceLT, Int.reduceLE, Int.reduceNeg, bI_T, bI_F, ↓if_pos, ↓if_neg, c, itF]
  | succ m ih =>
    intro d n d0 d1 n0 n1
    have c : ¬ 8 ≤ d := by omega
    have b := tBts_in (T := T) (e := d)
    rw [e160_4]
    simp (disch := first | assumption | omega) only [e160_0, e160_1, e160_2, e160_3, e160_5, e160_7, e160_10, e160_11, e160_12, e160_13, e160_16, e160_17, e160_18, e160_21, e160_24, e160_25, gK0_eq, gK1_eq, gK3_eq, w32_id, bI_eq0, bI_eq1, Bool.false_eq_true, not_true_eq_false, not_false_eq_true, ne_eq, ite_not, ↓reduceIte, if_true, if_false, Int.reduceToNat, Nat.reduceAdd, Int.reduceEq, Int.reduceLT, Int.reduceLE, Int.reduceNeg, bI_T, bI_F, ↓if_pos, ↓if_neg, c, k_RbatchesOf h hn d0]
    rw [ih (d + 1) _ (by omega) (by omega) (by omega) (by omega), itF]
theorem itF_sum {g : Int → Int} : ∀ (m : Nat) (d s : Int), itF (fun d s => s + g d) d m s = s + sumF g d m := by
  intro m
  induction m with
  | zero => intro d s; rw [itF, sumF, Int.add_zero]
  | succ m ih => intro d s; rw [itF, ih, sumF, Int.add_assoc]
theorem sumF_add {g g' : Int → Int} : ∀ (m : Nat) (d : Int), sumF (fun d => g d + g' d) d m = sumF g d m + sumF g' d m := by
  intro m
  induction m with
  | zero => intro d; rfl
  | succ m ih => intro d; rw [sumF, sumF, sumF, ih]; omega
theorem sumF_ind {b : Bool} {v : Int} : ∀ (m : Nat) (d : Int), sumF (fun d => if (b && decide (v = d)) = true then 1 else 0) d m = if b = true ∧ d ≤ v ∧ v < d + m then 1 else 0 := by
  intro m
  induction m with
  | zero => intro d; rw [sumF, if_neg (by omega)]
  | succ m ih =>
    intro d
    rw [sumF, ih]
    cases b with
    | false => simp
    | true =>
      by_cases c : v = d
      · rw [if_pos (by simp [c]), if_neg (by omega), if_pos (by simp; omega)]; rfl
      · rw [if_neg (by simp [c])]
        by_cases q : d + 1 ≤ v ∧ v < d + 1 + m
        · rw [if_pos ⟨rfl, q⟩, if_pos ⟨rfl, by omega, by omega⟩]; rfl
        · rw [if_neg (fun z => q z.2), if_neg (fun z => q ⟨by omega, by omega⟩)]; rfl
theorem cntF_sum {P : Int → Bool} {f : Int → Int} : ∀ (n : Nat) (k : Int), (∀ i, k ≤ i → i < k + n → P i = true → 0 ≤ f i ∧ f i < 8) → sumF (fun d => cntF (fun i => P i && decide (f i = d)) k n) 0 8 = cntF P k n := by
  intro n
  induction n with
  | zero => intro k _; rfl
  | succ n ih =>
    intro k h
    have e : (fun d => cntF (fun i => P i && decide (f i = d)) k (n + 1)) = fun d => (if (P k && decide (f k = d)) = true then 1 else 0) + cntF (fun i => P i && decide (f i = d)) (k + 1) n := rfl
    rw [e, sumF_add, sumF_ind, ih (k + 1) (fun i i0 i1 => h i (by omega) (by omega)), cntF]
    cases hP : P k with
    | false => simp
    | true =>
      have := h k (by omega) (by omega) hP
      rw [if_pos ⟨rfl, by omega, by omega⟩, if_pos rfl]
theorem k_Rbatches (h : rRq x T μ) (hn : tBnn T) (hd : ∀ k, 0 ≤ k → k < T 1881 → 0 ≤ T (1882 + 4 * k) ∧ T (1882 + 4 * k) < 8) : gE 160 0 [gO 5 x, gX, gX] [] μ Q = Q (tBts T (-1)) μ := by
  have hl := h.1
  simp (disch := first | assumption | omega) only [e160_0, e160_1, e160_2, e160_3, e160_5, e160_7, e160_10, e160_11, e160_12, e160_13, e160_16, e160_17, e160_18, e160_21, e160_24, e160_25, gK0_eq, gK1_eq, gK3_eq, w32_id, bI_eq0, bI_eq1, Bool.false_eq_true, not_true_eq_false, not_false_eq_true, ne_eq, ite_not, ↓reduceIte, if_true, if_false, Int.reduceToNat, Nat.reduceAdd, Int.reduceEq, Int.reduceLT, Int.reduceLE, Int.reduceNeg, bI_T, bI_F]
  rw [k_Rbatches_loop h hn 8 0 0 (by omega) (by omega) (by omega) (by omega), itF_sum, Int.zero_add]
  have e : sumF (fun d => tBts T d) 0 8 = sumF (fun d => cntF (fun i => tBt T (-1) i && decide (T (1882 + 4 * i) = d)) 0 (T 1881).toNat) 0 8 := by
    have : ∀ d : Int, 0 ≤ d → tBts T d = cntF (fun i => tBt T (-1) i && decide (T (1882 + 4 * i) = d)) 0 (T 1881).toNat := fun d d0 => by
      have d1 : ¬ d < 0 := by omega
      unfold tBts
      apply cntF_congr
      intro i _ _
      unfold tBt
      rw [decide_eq_false d1, Bool.false_or, decide_eq_true (show (-1 : Int) < 0 by omega), Bool.true_or, Bool.and_true, Bool.and_assoc, Bool.and_assoc, Bool.and_comm (decide (T (1882 + 4 * i) = d))]
    simp only [sumF]
    rw [this 0 (by omega), this (0 + 1) (by omega), this (0 + 1 + 1) (by omega), this (0 + 1 + 1 + 1) (by omega), this (0 + 1 + 1 + 1 + 1) (by omega), this (0 + 1 + 1 + 1 + 1 + 1) (by omega), this (0 + 1 + 1 + 1 + 1 + 1 + 1) (by omega), this (0 + 1 + 1 + 1 + 1 + 1 + 1 + 1) (by omega)]
  have e2 := cntF_sum (P := tBt T (-1)) (f := fun i => T (1882 + 4 * i)) (T 1881).toNat 0 (fun i i0 i1 _ => hd i i0 (by omega))
  rw [e, e2]
  rfl
theorem k_Rclear (ht : T 1881 = 0 ∧ T 1914 = 0 ∧ T 1915 = 0 ∧ T 1916 = 0 ∧ T 1917 = 0) : ∃ μ', gFr x (x + 5) μ μ' ∧ rRq x T μ' ∧ ∀ Q : Int → gM → Prop, gE 150 0 [gO 5 x] [] μ Q = Q 0 μ' := by
  refine ⟨?m, ?f, ?r, fun Q => ?run⟩
  case run =>
    simp (disch := first | assumption | omega) only [e150_0, e150_1, e150_2, e150_5, e150_6, e150_7, e150_10, e150_11, e150_12, e150_15, e150_16, e150_17, e150_20, e150_21, e150_22, e150_25, gK0_eq, gK1_eq, gK3_eq, w32_id, bI_eq0, bI_eq1, Bool.false_eq_true, not_true_eq_false, not_false_eq_true, ne_eq, ite_not, ↓reduceIte, if_true, if_false, Int.reduceToNat, Nat.reduceAdd, Int.reduceEq, Int.reduceLT, Int.reduceLE, Int.reduceNeg, bI_T, bI_F, ↓if_pos, ↓if_neg]
    exact rfl
  case f => intro k i hk; simp (disch := first | assumption | omega) only [gS_neK]
  case r =>
    obtain ⟨t1, t2, t3, t4, t5⟩ := ht
    refine ⟨by omega, by unfold in32; omega, ?_, ?_, ?_, ?_, ?_, fun k k0 k1 => by omega⟩
    · simp (disch := first | assumption | omega) only [gS_same, gS_neI, t1]
    · simp (disch := first | assumption | omega) only [gS_same, gS_neI, t2]
    · simp (disch := first | assumption | omega) only [gS_same, gS_neI, t3]
    · simp (disch := first | assumption | omega) only [gS_same, gS_neI, t4]
    · simp (disch := first | assumption | omega) only [gS_same, gS_neI, t5]
theorem k_Rcopy (h : rRq y T μ) (hxy : x + 5 ≤ y ∨ y + 5 ≤ x) : ∃ μ', gFr x (x + 5) μ μ' ∧ rRq x T μ' ∧ ∀ Q : Int → gM → Prop, gE 151 0 [gO 5 x, gO 5 y] [] μ Q = Q 0 μ' := by
  refine ⟨?m, ?f, ?r, fun Q => ?run⟩
  case run =>
    simp (disch := first | assumption | omega) only [e151_0, e151_1, e151_2, e151_5, e151_8, e151_9, e151_12, e151_13, e151_16, e151_19, e151_20, e151_23, e151_24, e151_27, e151_30, e151_31, e151_34, e151_35, e151_38, e151_41, e151_42, e151_45, e151_46, e151_49, e151_52, e151_53, e151_54, e151_57, e151_60, e151_61, e151_62, e151_65, e151_68, e151_69, e151_70, e151_73, e151_76, e151_77, e151_78, e151_81, e151_84, gK0_eq, gK1_eq, gK3_eq, w32_id, bI_eq0, bI_eq1, Bool.false_eq_true, not_true_eq_false, not_false_eq_true, ne_eq, ite_not, ↓reduceIte, if_true, if_false, Int.reduceToNat, Nat.reduceAdd, Int.reduceEq, Int.reduceLT, Int.reduceLE, Int.reduceNeg, bI_T, bI_F, ↓if_pos, ↓if_neg, s_copyRow, gS_neK, mrow_ne]
    exact rfl
  case f => intro k i hk; simp (disch := first | assumption | omega) only [gS_neK, mrow_ne]
  case r =>
    refine rRq_tr h ?_ (fun i i0 i1 => ?_) (fun j _ _ => rfl)
    · simp (disch := first | assumption | omega) only [gS_same, gS_neI, gS_neK, mrow_ne, and_self]
    · have c : 0 ≤ i ∧ i < ((8 : Nat) : Int) := by omega
      simp (disch := first | assumption | omega) only [gS_neK, gS_neI, mrow_ne, mrow_same, if_pos c, and_self]
end REQUESTS
