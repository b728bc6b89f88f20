/-! the class: its cache -/
def rCa (x : Nat) (room : Int) (T : Int → Int) (μ : gM) : Prop := (tCaO room T ∧ 1 ≤ room ∧ room ≤ 16) ∧ μ x 0 = T 1813 ∧
  ∀ k, 0 ≤ k → k < T 1813 → μ (x + 1) k = T (1814 + 4 * k) ∧ μ (x + 2) k = T (1814 + 4 * k + 1) ∧ μ (x + 3) k = T (1814 + 4 * k + 2) ∧ μ (x + 4) k = T (1814 + 4 * k + 3)
section CACHE
variable {x y : Nat} {room : Int} {T T' : Int → Int} {μ μ' : gM} {Q : Int → gM → Prop}
theorem tCaO_congr (h : tCaO room T) (hT : ∀ j, 1813 ≤ j → j ≤ 1877 → T' j = T j) (hr : room ≤ 16) : tCaO room T' := by
  obtain ⟨h1, h2, h3, h4⟩ := h
  have e := hT 1813 (by omega) (by omega)
  refine ⟨by omega, by omega, fun k k0 k1 => ?_, fun i k i0 ik k1 => ?_⟩
  · rw [e] at k1
    rw [hT _ (by omega) (by omega), hT _ (by omega) (by omega), hT _ (by omega) (by omega), hT _ (by omega) (by omega)]
    exact h3 k k0 k1
  · rw [e] at k1
    rw [hT _ (by omega) (by omega), hT _ (by omega) (by omega), hT _ (by omega) (by omega), hT _ (by omega) (by omega)]
    exact h4 i k i0 ik k1
theorem rCa_tr (h : rCa x room T μ) (h0 : μ' y 0 = μ x 0) (hr : ∀ i, 0 ≤ i → i < 16 → μ' (y + 1) i = μ (x + 1) i ∧ μ' (y + 2) i = μ (x + 2) i ∧ μ' (y + 3) i = μ (x + 3) i ∧ μ' (y + 4) i = μ (x + 4) i) (hT : ∀ j, 1813 ≤ j → j ≤ 1877 → T' j = T j) : rCa y room T' μ' := by
  obtain ⟨⟨h1, g1, g2⟩, h2, h6⟩ := h
  have t1 := hT 1813 (by omega) (by omega)
  refine ⟨⟨tCaO_congr h1 hT g2, g1, g2⟩, by rw [h0, t1]; exact h2, fun k k0 k1 => ?_⟩
  rw [t1] at k1
  have h16 := h1.2.1
  obtain ⟨a1, a2, a3, a4⟩ := hr k k0 (by omega)
  obtain ⟨b1, b2, b3, b4⟩ := h6 k k0 k1
  rw [a1, a2, a3, a4, hT _ (by omega) (by omega), hT _ (by omega) (by omega), hT _ (by omega) (by omega), hT _ (by omega) (by omega)]
  exact ⟨b1, b2, b3, b4⟩
theorem rCa_fr {lo hi : Nat} (h : rCa x room T μ) (hf : gFr lo hi μ μ') (hd : x + 5 ≤ lo ∨ hi ≤ x) (hT : ∀ j, 1813 ≤ j → j ≤ 1877 → T' j = T j) : rCa x room T' μ' :=
  rCa_tr h (hf _ _ (by omega)) (fun i _ _ => ⟨hf _ _ (by omega), hf _ _ (by omega), hf _ _ (by omega), hf _ _ (by omega)⟩) hT
theorem tDrop_at {k i j : Int} (k0 : 0 ≤ k) (i0 : 0 ≤ i) (i1 : i < T 1813 - 1) (h16 : T 1813 ≤ 16) (hj : j = if k ≤ i then i + 1 else i) : tDrop T k (1814 + 4 * i) = T (1814 + 4 * j) ∧ tDrop T k (1814 + 4 * i + 1) = T (1814 + 4 * j + 1) ∧ tDrop T k (1814 + 4 * i + 2) = T (1814 + 4 * j + 2) ∧ tDrop T k (1814 + 4 * i + 3) = T (1814 + 4 * j + 3) := by
  by_cases c : k ≤ i
  · rw [if_pos c] at hj
    have e : ∀ w, 0 ≤ w → w < 4 → tDrop T k (1814 + 4 * i + w) = T (1814 + 4 * j + w) := fun w w0 w1 => by
      unfold tDrop tShL
      rw [tS_ne (by omega), if_pos (by omega)]
      congr 1
      omega
    have e0 := e 0 (by omega) (by omega)
    rw [Int.add_zero, Int.add_zero] at e0
    exact ⟨e0, e 1 (by omega) (by omega), e 2 (by omega) (by omega), e 3 (by omega) (by omega)⟩
  · rw [if_neg c] at hj
    have e : ∀ w, 0 ≤ w → w < 4 → tDrop T k (1814 + 4 * i + w) = T (1814 + 4 * j + w) := fun w w0 w1 => by
      unfold tDrop tShL
      rw [tS_ne (by omega), if_neg (by omega), hj]
    have e0 := e 0 (by omega) (by omega)
    rw [Int.add_zero, Int.add_zero] at e0
    exact ⟨e0, e 1 (by omega) (by omega), e 2 (by omega) (by omega), e 3 (by omega) (by omega)⟩
theorem tCaO_drop {k : Int} (h : tCaO room T) (hr : room ≤ 16) (hk : 0 ≤ k ∧ k < T 1813) : tCaO room (tDrop T k) := by
  obtain ⟨h1, h2, h3, h4⟩ := h
  have q : tDrop T k 1813 = T 1813 - 1 := tDrop_1813
  refine ⟨by omega, by omega, fun i i0 i1 => ?_, fun i m i0 im m1 => ?_⟩
  · rw [q] at i1
    obtain ⟨a1, a2, a3, a4⟩ := tDrop_at hk.1 i0 i1 (by omega) rfl
    rw [a1, a2, a3, a4]
    apply h3 <;> (split <;> omega)
  · rw [q] at m1
    obtain ⟨a1, a2, -, -⟩ := tDrop_at (T := T) hk.1 i0 (show i < T 1813 - 1 by omega) (by omega) rfl
    obtain ⟨b1, b2, -, -⟩ := tDrop_at (T := T) hk.1 (show 0 ≤ m by omega) m1 (by omega) rfl
    rw [a1, a2, b1, b2]
    apply h4
    · split <;> omega
    · split <;> split <;> omega
    · split <;> omega
theorem tCch_at {d p f r i : Int} (hC : 0 ≤ T 1813 ∧ T 1813 < 16) (i0 : 0 ≤ i) (i1 : i < T 1813) : tCch T d p f r (1814 + 4 * i) = T (1814 + 4 * i) ∧ tCch T d p f r (1814 + 4 * i + 1) = T (1814 + 4 * i + 1) ∧ tCch T d p f r (1814 + 4 * i + 2) = T (1814 + 4 * i + 2) ∧ tCch T d p f r (1814 + 4 * i + 3) = T (1814 + 4 * i + 3) := by
  simp (disch := first | assumption | omega) only [tCch, tS_ne, and_self]
theorem tCch_new {d p f r : Int} (hC : 0 ≤ T 1813 ∧ T 1813 < 16) : tCch T d p f r (1814 + 4 * T 1813) = d ∧ tCch T d p f r (1814 + 4 * T 1813 + 1) = p ∧ tCch T d p f r (1814 + 4 * T 1813 + 2) = f ∧ tCch T d p f r (1814 + 4 * T 1813 + 3) = r := by
  simp (disch := first | assumption | omega) only [tCch, tS_ne, tS_same, and_self]
theorem tCaO_add {d p f r : Int} (h : tCaO room T) (hr : room ≤ 16) (hl : T 1813 < room) (hd : 0 ≤ d ∧ d < 4) (hp : 0 ≤ p ∧ p < 64) (hf : 0 ≤ f ∧ f < 64) (hrr : 1 ≤ r ∧ r ≤ 3) (hn : ∀ i, 0 ≤ i → i < T 1813 → ¬ (T (1814 + 4 * i) = d ∧ T (1814 + 4 * i + 1) = p)) : tCaO room (tCch T d p f r) := by
  obtain ⟨h1, h2, h3, h4⟩ := h
  have hC : 0 ≤ T 1813 ∧ T 1813 < 16 := by omega
  obtain ⟨n1, n2, n3, n4⟩ := tCch_new (d := d) (p := p) (f := f) (r := r) hC
  have q : tCch T d p f r 1813 = T 1813 + 1 := tCch_1813
  refine ⟨by omega, by omega, fun i i0 i1 => ?_, fun i m i0 im m1 => ?_⟩
  · by_cases c : i = T 1813
    · rw [c, n1, n2, n3, n4]
      exact ⟨hd, hp, hf, hrr⟩
    · obtain ⟨a1, a2, a3, a4⟩ := tCch_at (d := d) (p := p) (f := f) (r := r) hC i0 (by omega)
      rw [a1, a2, a3, a4]
      exact h3 i i0 (by omega)
  · obtain ⟨a1, a2, -, -⟩ := tCch_at (d := d) (p := p) (f := f) (r := r) hC i0 (show i < T 1813 by omega)
    by_cases c : m = T 1813
    · rw [c, n1, n2, a1, a2]
      exact hn i i0 (by omega)
    · obtain ⟨b1, b2, -, -⟩ := tCch_at (d := d) (p := p) (f := f) (r := r) hC (show 0 ≤ m by omega) (show m < T 1813 by omega)
      rw [a1, a2, b1, b2]
      exact h4 i m i0 im (by omega)
theorem k_Cremove {k : Int} (h : rCa x room T μ) (hk : 0 ≤ k ∧ k < T 1813) : ∃ μ', gFr x (x + 5) μ μ' ∧ rCa x room (tDrop T k) μ' ∧ ∀ Q : Int → gM → Prop, gE 145 0 [gO 0 x, gI k] [] μ Q = Q 0 μ' := by
  obtain ⟨⟨hO, hr1, hr2⟩, h0, hr⟩ := h
  have h16 : T 1813 ≤ ((16 : Nat) : Int) := by have := hO.2.1; omega
  have c0 : ¬ k < 0 := by omega
  have k0 := hk.1
  have k1 := hk.2
  refine ⟨?m, ?f, ?r, fun Q => ?run⟩
  case run =>
    simp (disch := first | assumption | omega) only [e145_0, e145_1, e145_4, e145_5, e145_6, e145_9, e145_12, e145_13, e145_14, e145_17, e145_18, e145_19, e145_22, e145_25, e145_26, e145_29, e145_30, e145_31, e145_34, e145_37, e145_38, e145_41, e145_42, e145_43, e145_46, e145_49, e145_50, e145_53, e145_54, e145_55, e145_58, e145_61, e145_62, e145_63, e145_66, e145_67, e145_68, e145_71, gK0_eq, gK1_eq, gK3_eq, w32_id, bI_eq0, bI_eq1, Bool.false_eq_true, not_true_eq_false, not_false_eq_true, ne_eq, ite_not, ↓reduceIte, if_true, if_false, Int.reduceToNat, Nat.reduceAdd, Int.reduceEq, Int.reduceLT, Int.reduceLE, Int.reduceNeg, bI_T, bI_F, ↓if_pos, ↓if_neg, s_takeOut, h0, mrow_ne, c0, hk]
    exact rfl
  case f => intro k i hk; simp (disch := first | assumption | omega) only [gS_neK, mrow_ne]
  case r =>
    refine ⟨⟨tCaO_drop hO hr2 hk, hr1, hr2⟩, ?_, fun i i0 i1 => ?_⟩
    · rw [tDrop_1813]; simp (disch := first | assumption | omega) only [gS_same]
    · rw [tDrop_1813] at i1
      obtain ⟨a1, a2, a3, a4⟩ := tDrop_at k0 i0 i1 (by omega) rfl
      rw [a1, a2, a3, a4]
      by_cases c : k ≤ i
      · obtain ⟨b1, b2, b3, b4⟩ := hr (i + 1) (by omega) (by omega)
        have c2 : k ≤ i ∧ i < T 1813 - 1 := ⟨c, i1⟩
        simp (disch := first | assumption | omega) only [gS_neK, mrow_same, mrow_ne, if_pos c2, if_pos c, b1, b2, b3, b4, and_self]
      · obtain ⟨b1, b2, b3, b4⟩ := hr i (by omega) (by omega)
        have c2 : ¬ (k ≤ i ∧ i < T 1813 - 1) := fun q => c q.1
        simp (disch := first | assumption | omega) only [gS_neK, mrow_same, mrow_ne, if_neg c2, if_neg c, b1, b2, b3, b4, and_self]
theorem k_Cadd {d p f r : Int} (h : rCa x room T μ) (hl : T 1813 < room) (hd : 0 ≤ d ∧ d < 4) (hp : 0 ≤ p ∧ p < 64) (hf : 0 ≤ f ∧ f < 64) (hrr : 1 ≤ r ∧ r ≤ 3) (hn : ∀ i, 0 ≤ i → i < T 1813 → ¬ (T (1814 + 4 * i) = d ∧ T (1814 + 4 * i + 1) = p)) : ∃ μ', gFr x (x + 5) μ μ' ∧ rCa x room (tCch T d p f r) μ' ∧ ∀ Q : Int → gM → Prop, gE 144 0 [gO 0 x, gI d, gI p, gI f, gI r] [] μ Q = Q 0 μ' := by
  obtain ⟨⟨hO, hr1, hr2⟩, h0, hr⟩ := h
  have hl0 := hO.1
  have h16 : T 1813 < 16 := by omega
  refine ⟨?m, ?f, ?r, fun Q => ?run⟩
  case run =>
    simp (disch := first | assumption | omega) only [e144_0, e144_1, e144_4, e144_6, e144_9, e144_10, e144_11, e144_14, e144_15, e144_18, e144_19, e144_22, e144_23, e144_26, e144_27, e144_30, e144_31, e144_34, e144_35, e144_38, e144_39, e144_42, e144_43, e144_46, e144_47, e144_50, e144_51, e144_54, e144_56, e144_59, e144_60, e144_61, e144_64, e144_65, e144_66, e144_69, gK0_eq, gK1_eq, gK3_eq, w32_id, bI_eq0, bI_eq1, Bool.false_eq_true, not_true_eq_false, not_false_eq_true, ne_eq, ite_not, ↓reduceIte, if_true, if_false, Int.reduceToNat, Nat.reduceAdd, Int.reduceEq, Int.reduceLT, Int.reduceLE, Int.reduceNeg, bI_T, bI_F, ↓if_pos, ↓if_neg, s_put', putv_in, h0, gS_neK, gS_neI, gS_same, h16]
    exact rfl
  case f => intro k i hk; simp (disch := first | assumption | omega) only [gS_neK]
  case r =>
    obtain ⟨n1, n2, n3, n4⟩ := tCch_new (T := T) (d := d) (p := p) (f := f) (r := r) ⟨hl0, h16⟩
    refine ⟨⟨tCaO_add hO hr2 hl hd hp hf hrr hn, hr1, hr2⟩, ?_, fun i i0 i1 => ?_⟩
    · rw [tCch_1813]; simp (disch := first | assumption | omega) only [gS_same]
    · rw [tCch_1813] at i1
      by_cases c : i = T 1813
      · subst c
        rw [n1, n2, n3, n4]
        simp (disch := first | assumption | omega) only [gS_same, gS_neK, gS_neI, and_self]
      · obtain ⟨a1, a2, a3, a4⟩ := tCch_at (T := T) (d := d) (p := p) (f := f) (r := r) ⟨hl0, h16⟩ i0 (by omega)
        obtain ⟨b1, b2, b3, b4⟩ := hr i i0 (by omega)
        rw [a1, a2, a3, a4]
        simp (disch := first | assumption | omega) only [gS_same, gS_neK, gS_neI, b1, b2, b3, b4, and_self]
theorem k_CentryOf_loop {d p : Int} (h : rCa x room T μ) : ∀ (m : Nat) (k : Int), 0 ≤ k → k + m = T 1813 →
    gE 140 2 [gO 0 x, gI d, gI p, gI k] [] μ Q = Q (findF (fun k => decide (T (1814 + 4 * k) = d) && decide (T (1814 + 4 * k + 1) = p)) k m) μ := by
  obtain ⟨⟨hO, hr1, hr2⟩, h0, hr⟩ := h
  have h16 := hO.2.1
  intro m
  induction m with
  | zero =>
    intro k k0 k1
    have c : T 1813 ≤ k := by omega
    rw [e140_2]
    simp (disch := first | assumption | omega) only [e140_0, e140_1, e140_3, e140_4, e140_7, e140_10, e140_11, e140_14, e140_15, e140_18, e140_19, e140_22, e140_23, e140_26, e140_27, e140_30, e140_31, e140_34, e140_35, e140_36, e140_39, e140_42, e140_43, gK0_eq, gK1_eq, gK3_eq, w32_id, bI_eq0, bI_eq1, Bool.false_eq_true, not_true_eq_false, not_false_eq_true, ne_eq, ite_not, ↓reduceIte, if_true, if_false, Int.reduceToNat, Nat.reduceAdd, Int.reduceEq, Int.reduceLT, Int.reduceLE, Int.reduceNeg, bI_T, bI_F, ↓if_pos, ↓if_neg, h0, c, findF]
  | succ m ih =>
    intro k k0 k1
    have c : ¬ T 1813 ≤ k := by omega
    obtain ⟨b1, b2, b3, b4⟩ := hr k k0 (by omega)
    have c16 : k < ((16 : Nat) : Int) := by omega
    rw [e140_2]
    by_cases h2 : T (1814 + 4 * k) = d
    · by_cases h3 : T (1814 + 4 * k + 1) = p
      · simp (disch := first | assumption | omega) only [e140_0, e140_1, e140_3, e140_4, e140_7, e140_10, e140_11, e140_14, e140_15, e140_18, e140_19, e140_22, e140_23, e140_26, e140_27, e140_30, e140_31, e140_34, e140_35, e140_36, e140_39, e140_42, e140_43, gK0_eq, gK1_eq, gK3_eq, w32_id, bI_eq0, bI_eq1, Bool.false_eq_true, not_true_eq_false, not_false_eq_true, ne_eq, ite_not, ↓reduceIte, if_true, if_false, Int.reduceToNat, Nat.reduceAdd, Int.reduceEq, Int.reduceLT, Int.reduceLE, Int.reduceNeg, bI_T, bI_F, ↓if_pos, ↓if_neg, h0, c, s_at, atv_in, b1, b2, h2, h3, findF, decide_true, Bool.and_self]
      · simp (disch := first | assumption | omega) only [e140_0, e140_1, e140_3, e140_4, e140_7, e140_10, e140_11, e140_14, e140_15, e140_18, e140_19, e140_22, e140_23, e140_26, e140_27, e140_30, e140_31, e140_34, e140_35, e140_36, e140_39, e140_42, e140_43, gK0_eq, gK1_eq, gK3_eq, w32_id, bI_eq0, bI_eq1, Bool.false_eq_true, not_true_eq_false, not_false_eq_true, ne_eq, ite_not, ↓reduceIte, if_true, if_false, Int.reduceToNat, Nat.reduceAdd, Int.reduceEq, Int.reduceLT, Int.reduceLE, Int.reduceNeg, bI_T, bI_F, ↓if_pos, ↓if_neg, h0, c, s_at, atv_in, b1, b2, h2, h3]
        rw [ih (k + 1) (by omega) (by omega)]
        simp only [findF, h3, decide_false, Bool.and_false, Bool.false_eq_true, if_false]
    · simp (disch := first | assumption | omega) only [e140_0, e140_1, e140_3, e140_4, e140_7, e140_10, e140_11, e140_14, e140_15, e140_18, e140_19, e140_22, e140_23, e140_26, e140_27, e140_30, e140_31, e140_34, e140_35, e140_36, e140_39, e140_42, e140_43, gK0_eq, gK1_eq, gK3_eq, w32_id, bI_eq0, bI_eq1, Bool.false_eq_true, not_true_eq_false, not_false_eq_true, ne_eq, ite_not, ↓reduceIte, if_true, if_false, Int.reduceToNat, Nat.reduceAdd, Int.reduceEq, Int.reduceLT, Int.reduceLE, Int.reduceNeg, bI_T, bI_F, ↓if_pos, ↓if_neg, h0, c, s_at, atv_in, b1, h2]
      rw [ih (k + 1) (by omega) (by omega)]
      simp only [findF, h2, decide_false, Bool.false_and, Bool.false_eq_true, if_false]
theorem k_CentryOf {d p : Int} (h : rCa x room T μ) : gE 140 0 [gO 0 x, gI d, gI p, gX] [] μ Q = Q (tEnt T d p) μ := by
  have h0 := h.1.1.1
  simp (disch := first | assumption | omega) only [e140_0, e140_1, e140_3, e140_4, e140_7, e140_10, e140_11, e140_14, e140_15, e140_18, e140_19, e140_22, e140_23, e140_26, e140_27, e140_30, e140_31, e140_34, e140_35, e140_36, e140_39, e140_42, e140_43, gK0_eq, gK1_eq, gK3_eq, w32_id, bI_eq0, bI_eq1, Bool.false_eq_true, not_true_eq_false, not_false_eq_true, ne_eq, ite_not, ↓reduceIte, if_true, if_false, Int.reduceToNat, Nat.reduceAdd, Int.reduceEq, Int.reduceLT, Int.reduceLE, Int.reduceNeg, bI_T, bI_F]
  rw [k_CentryOf_loop h (T 1813).toNat 0 (by omega) (by omega)]
  rfl
theorem k_CentryFor {d p r : Int} (h : rCa x room T μ) : gE 141 0 [gO 0 x, gI d, gI p, gI r, gX] [] μ Q = Q (if tHit T d p r = true then tEnt T d p else -1) μ := by
  have hl := h.1.1.1
  have e := tEnt_lt (T := T) (d := d) (p := p) hl
  have h16 : T 1813 ≤ 16 := by have := h.1.1.2.1; have := h.1.2.2; omega
  by_cases c : tEnt T d p = -1
  · have hh : tHit T d p r = false := by unfold tHit; rw [c]; rfl
    simp (disch := first | assumption | omega) only [e141_0, e141_1, e141_2, e141_3, e141_6, e141_8, e141_10, e141_11, e141_14, e141_15, e141_18, e141_20, e141_23, e141_24, e141_25, e141_28, e141_30, e141_33, e141_34, gK0_eq, gK1_eq, gK3_eq, w32_id, bI_eq0, bI_eq1, Bool.false_eq_true, not_true_eq_false, not_false_eq_true, ne_eq, ite_not, ↓reduceIte, if_true, if_false, Int.reduceToNat, Nat.reduceAdd, Int.reduceEq, Int.reduceLT, Int.reduceLE, Int.reduceNeg, bI_T, bI_F, ↓if_pos, ↓if_neg, k_CentryOf h, c, hh]
  · have b4 := (h.2.2 (tEnt T d p) (by omega) e.1).2.2.2
    have c16 : tEnt T d p < ((16 : Nat) : Int) := by omega
    have c0 : 0 ≤ tEnt T d p := by omega
    by_cases q : iand32 (T (1814 + 4 * tEnt T d p + 3)) r = 0
    · have hh : tHit T d p r = false := by unfold tHit; rw [q]; simp
      simp (disch := first | assumption | omega) only [e141_0, e141_1, e141_2, e141_3, e141_6, e141_8, e141_10, e141_11, e141_14, e141_15, e141_18, e141_20, e141_23, e141_24, e141_25, e141_28, e141_30, e141_33, e141_34, gK0_eq, gK1_eq, gK3_eq, w32_id, bI_eq0, bI_eq1, Bool.false_eq_true, not_true_eq_false, not_false_eq_true, ne_eq, ite_not, ↓reduceIte, if_true, if_false, Int.reduceToNat, Nat.reduceAdd, Int.reduceEq, Int.reduceLT, Int.reduceLE, Int.reduceNeg, bI_T, bI_F, ↓if_pos, ↓if_neg, k_CentryOf h, c, hh, s_at, atv_in, b4, q]
    · have hh : tHit T d p r = true := by unfold tHit; simp [c0, q]
      simp (disch := first | assumption | omega) only [e141_0, e141_1, e141_2, e141_3, e141_6, e141_8, e141_10, e141_11, e141_14, e141_15, e141_18, e141_20, e141_23, e141_24, e141_25, e141_28, e141_30, e141_33, e141_34, gK0_eq, gK1_eq, gK3_eq, w32_id, bI_eq0, bI_eq1, Bool.false_eq_true, not_true_eq_false, not_false_eq_true, ne_eq, ite_not, ↓reduceIte, if_true, if_false, Int.reduceToNat, Nat.reduceAdd, Int.reduceEq, Int.reduceLT, Int.reduceLE, Int.reduceNeg, bI_T, bI_F, ↓if_pos, ↓if_neg, k_CentryOf h, c, hh, s_at, atv_in, b4, q]
theorem tEnt_spec {d p : Int} (hC : 0 ≤ T 1813) (h : 0 ≤ tEnt T d p) : T (1814 + 4 * tEnt T d p) = d ∧ T (1814 + 4 * tEnt T d p + 1) = p := by
  unfold tEnt at h ⊢
  rcases findF_in (P := fun k => decide (T (1814 + 4 * k) = d) && decide (T (1814 + 4 * k + 1) = p)) (T 1813).toNat 0 (by omega) with ⟨h1, h2⟩ | ⟨h1, h2, h3, h4⟩
  · omega
  · simpa using h3
theorem tEnt_none {d p : Int} (hC : 0 ≤ T 1813) (h : tEnt T d p < 0) : ∀ i, 0 ≤ i → i < T 1813 → ¬ (T (1814 + 4 * i) = d ∧ T (1814 + 4 * i + 1) = p) := by
  unfold tEnt at h
  rcases findF_in (P := fun k => decide (T (1814 + 4 * k) = d) && decide (T (1814 + 4 * k + 1) = p)) (T 1813).toNat 0 (by omega) with ⟨h1, h2⟩ | ⟨h1, h2, h3, h4⟩
  · intro i i0 i1
    have := h2 i i0 (by omega)
    simpa using this
  · omega
theorem tDrop_none {d p : Int} (hO : tCaO room T) (hr : room ≤ 16) (h : 0 ≤ tEnt T d p) : ∀ i, 0 ≤ i → i < tDrop T (tEnt T d p) 1813 → ¬ (tDrop T (tEnt T d p) (1814 + 4 * i) = d ∧ tDrop T (tEnt T d p) (1814 + 4 * i + 1) = p) := by
  obtain ⟨h1, h2, h3, h4⟩ := hO
  have e := (tEnt_lt (T := T) (d := d) (p := p) h1).1
  have s := tEnt_spec h1 h
  intro i i0 i1
  rw [tDrop_1813] at i1
  obtain ⟨a1, a2, -, -⟩ := tDrop_at (T := T) h i0 i1 (by omega) rfl
  rw [a1, a2]
  generalize tEnt T d p = e' at *
  intro q
  by_cases c : e' ≤ i
  · rw [if_pos c] at q
    exact h4 e' (i + 1) h (by omega) (by omega) ⟨by rw [s.1, q.1], by rw [s.2, q.2]⟩
  · rw [if_neg c] at q
    exact h4 i e' i0 (by omega) e ⟨by rw [s.1, q.1], by rw [s.2, q.2]⟩
theorem k_CmakeLatest {d p : Int} (h : rCa x room T μ) (hk : 0 ≤ tEnt T d p) : ∃ μ', gFr x (x + 5) μ μ' ∧ rCa x room (tCch (tDrop T (tEnt T d p)) d p (T (1814 + 4 * tEnt T d p + 2)) (T (1814 + 4 * tEnt T d p + 3))) μ' ∧ ∀ Q : Int → gM → Prop, gE 142 0 [gO 0 x, gI (tEnt T d p), gX, gX, gX, gX] [] μ Q = Q 0 μ' := by
  have hl := h.1.1.1
  have e := (tEnt_lt (T := T) (d := d) (p := p) hl).1
  have h16 : T 1813 ≤ 16 := by have := h.1.1.2.1; have := h.1.2.2; omega
  have c16 : tEnt T d p < ((16 : Nat) : Int) := by omega
  obtain ⟨s1, s2⟩ := tEnt_spec hl hk
  obtain ⟨b1, b2, b3, b4⟩ := h.2.2 (tEnt T d p) hk e
  obtain ⟨g1, g2, g3, g4⟩ := h.1.1.2.2.1 (tEnt T d p) hk e
  rw [s1] at g1; rw [s2] at g2
  obtain ⟨μ1, f1, r1, run1⟩ := k_Cremove h ⟨hk, e⟩
  have hroom := h.1.1.2.1
  obtain ⟨μ2, f2, r2, run2⟩ := k_Cadd r1 (by rw [tDrop_1813]; omega) g1 g2 g3 g4 (tDrop_none h.1.1 h.1.2.2 hk)
  refine ⟨μ2, gFr_trans f1 f2, r2, fun Q => ?_⟩
  simp (disch := first | assumption | omega) only [e142_0, e142_1, e142_4, e142_5, e142_8, e142_9, e142_10, e142_13, e142_14, e142_17, e142_18, e142_19, e142_22, e142_23, e142_26, e142_28, e142_29, e142_32, e142_33, e142_36, e142_38, e142_39, e142_40, e142_43, e142_44, e142_45, e142_46, e142_48, e142_50, e142_53, gK0_eq, gK1_eq, gK3_eq, w32_id, bI_eq0, bI_eq1, Bool.false_eq_true, not_true_eq_false, not_false_eq_true, ne_eq, ite_not, ↓reduceIte, if_true, if_false, Int.reduceToNat, Nat.reduceAdd, Int.reduceEq, Int.reduceLT, Int.reduceLE, Int.reduceNeg, bI_T, bI_F, ↓if_pos, ↓if_neg, s_at, atv_in, b1, b2, b3, b4, s1, s2, run1, run2]
theorem k_Center {d p f r : Int} (h : rCa x room T μ) (hd : 0 ≤ d ∧ d < 4) (hp : 0 ≤ p ∧ p < 64) (hf : 0 ≤ f ∧ f < 64) (hrr : 1 ≤ r ∧ r ≤ 3) : ∃ μ', gFr x (x + 5) μ μ' ∧ rCa x room (tCch (tLkV T room d p) d p f r) μ' ∧ ∀ Q : Int → gM → Prop, gE 143 0 [gO 0 x, gI d, gI p, gI f, gI r, gI room, gX] [] μ Q = Q 0 μ' := by
  have hl := h.1.1.1
  have hroom := h.1.1.2.1
  have hr1 := h.1.2.1
  have h0 := h.2.1
  have e := tEnt_lt (T := T) (d := d) (p := p) hl
  unfold tLkV
  by_cases c : 0 ≤ tEnt T d p
  · have c' : ¬ tEnt T d p = -1 := by omega
    obtain ⟨μ1, f1, r1, run1⟩ := k_Cremove h ⟨c, e.1⟩
    obtain ⟨μ2, f2, r2, run2⟩ := k_Cadd r1 (by rw [tDrop_1813]; omega) hd hp hf hrr (tDrop_none h.1.1 h.1.2.2 c)
    rw [if_pos c]
    refine ⟨μ2, gFr_trans f1 f2, r2, fun Q => ?_⟩
    simp (disch := first | assumption | omega) only [e143_0, e143_1, e143_2, e143_3, e143_6, e143_8, e143_10, e143_11, e143_14, e143_15, e143_17, e143_20, e143_23, e143_24, e143_27, e143_29, e143_32, e143_33, e143_34, e143_37, e143_38, e143_39, e143_40, e143_41, e143_43, e143_46, gK0_eq, gK1_eq, gK3_eq, w32_id, bI_eq0, bI_eq1, Bool.false_eq_true, not_true_eq_false, not_false_eq_true, ne_eq, ite_not, ↓reduceIte, if_true, if_false, Int.reduceToNat, Nat.reduceAdd, Int.reduceEq, Int.reduceLT, Int.reduceLE, Int.reduceNeg, bI_T, bI_F, ↓if_pos, ↓if_neg, k_CentryOf h, c', run1, run2]
  · have c' : tEnt T d p = -1 := by omega
    have hn := tEnt_none hl (show tEnt T d p < 0 by omega)
    rw [if_neg c]
    by_cases q : T 1813 = room
    · have q' : ¬ T 1813 < room := by omega
      obtain ⟨μ1, f1, r1, run1⟩ := k_Cremove (k := 0) h ⟨Int.le_refl _, by omega⟩
      obtain ⟨μ2, f2, r2, run2⟩ := k_Cadd r1 (by rw [tDrop_1813]; omega) hd hp hf hrr (fun i i0 i1 => by
        rw [tDrop_1813] at i1
        obtain ⟨a1, a2, -, -⟩ := tDrop_at (T := T) (k := 0) (Int.le_refl _) i0 i1 (by have := h.1.2.2; omega) rfl
        rw [a1, a2, if_pos i0]
        exact hn (i + 1) (by omega) (by omega))
      rw [if_pos q]
      refine ⟨μ2, gFr_trans f1 f2, r2, fun Q => ?_⟩
      simp (disch := first | assumption | omega) only [e143_0, e143_1, e143_2, e143_3, e143_6, e143_8, e143_10, e143_11, e143_14, e143_15, e143_17, e143_20, e143_23, e143_24, e143_27, e143_29, e143_32, e143_33, e143_34, e143_37, e143_38, e143_39, e143_40, e143_41, e143_43, e143_46, gK0_eq, gK1_eq, gK3_eq, w32_id, bI_eq0, bI_eq1, Bool.false_eq_true, not_true_eq_false, not_false_eq_true, ne_eq, ite_not, ↓reduceIte, if_true, if_false, Int.reduceToNat, Nat.reduceAdd, Int.reduceEq, Int.reduceLT, Int.reduceLE, Int.reduceNeg, bI_T, bI_F, ↓if_pos, ↓if_neg, k_CentryOf h, c', h0, q', run1, run2]
    · have q' : T 1813 < room := by omega
      obtain ⟨μ2, f2, r2, run2⟩ := k_Cadd h q' hd hp hf hrr hn
      rw [if_neg q]
      refine ⟨μ2, f2, r2, fun Q => ?_⟩
      simp (disch := first | assumption | omega) only [e143_0, e143_1, e143_2, e143_3, e143_6, e143_8, e143_10, e143_11, e143_14, e143_15, e143_17, e143_20, e143_23, e143_24, e143_27, e143_29, e143_32, e143_33, e143_34, e143_37, e143_38, e143_39, e143_40, e143_41, e143_43, e143_46, gK0_eq, gK1_eq, gK3_eq, w32_id, bI_eq0, bI_eq1, Bool.false_eq_true, not_true_eq_false, not_false_eq_true, ne_eq, ite_not, ↓reduceIte, if_true, if_false, Int.reduceToNat, Nat.reduceAdd, Int.reduceEq, Int.reduceLT, Int.reduceLE, Int.reduceNeg, bI_T, bI_F, ↓if_pos, ↓if_neg, k_CentryOf h, c', h0, q', run2]
theorem tFor_none {d p : Int} (hp : 0 ≤ p) : ∀ (n : Nat), (∀ i : Int, 0 ≤ i → i < n → ¬ (T (1814 + 4 * i) = d ∧ T (1814 + 4 * i + 1) = p)) → tFor d p n T = T := by
  intro n
  induction n with
  | zero => intro _; rfl
  | succ n ih =>
    intro h
    have hn := h n (by omega) (by omega)
    rw [tFor, if_neg (fun q => hn ⟨q.1, q.2.resolve_left (by omega)⟩)]
    exact ih (fun i i0 i1 => h i i0 (by omega))
theorem tFor_one {d p : Int} (hp : 0 ≤ p) (hO : tCaO room T) (hr : room ≤ 16) (he : 0 ≤ tEnt T d p) : ∀ (n : Nat), tEnt T d p < n → (n : Int) ≤ T 1813 → tFor d p n T = tDrop T (tEnt T d p) := by
  have hl := hO.1
  have e := (tEnt_lt (T := T) (d := d) (p := p) hl).1
  have s := tEnt_spec hl he
  intro n
  induction n with
  | zero => intro h; omega
  | succ n ih =>
    intro h1 h2
    rw [tFor]
    by_cases c : (n : Int) = tEnt T d p
    · rw [c, if_pos ⟨s.1, Or.inr s.2⟩]
      apply tFor_none hp
      intro i i0 i1
      have := tDrop_none hO hr he i i0 (by rw [tDrop_1813]; omega)
      exact this
    · rw [if_neg]
      · exact ih (by omega) (by omega)
      · rintro ⟨q1, q2⟩
        have q2 := q2.resolve_left (by omega)
        exact hO.2.2.2 (tEnt T d p) n he (by omega) (by omega) ⟨by rw [s.1, q1], by rw [s.2, q2]⟩
theorem k_CdropPage {d p : Int} (h : rCa x room T μ) (hp : 0 ≤ p) : ∃ μ', gFr x (x + 5) μ μ' ∧ rCa x room (tFor d p (T 1813).toNat T) μ' ∧ ∀ Q : Int → gM → Prop, gE 146 0 [gO 0 x, gI d, gI p] [] μ Q = Q 0 μ' := by
  have hl := h.1.1.1
  have e := tEnt_lt (T := T) (d := d) (p := p) hl
  by_cases c : 0 ≤ tEnt T d p
  · rw [tFor_one hp h.1.1 h.1.2.2 c (T 1813).toNat (by omega) (by omega)]
    obtain ⟨μ1, f1, r1, run1⟩ := k_Cremove h ⟨c, e.1⟩
    refine ⟨μ1, f1, r1, fun Q => ?_⟩
    simp (disch := first | assumption | omega) only [e146_0, e146_1, e146_2, e146_3, e146_4, e146_7, e146_10, gK0_eq, gK1_eq, gK3_eq, w32_id, bI_eq0, bI_eq1, Bool.false_eq_true, not_true_eq_false, not_false_eq_true, ne_eq, ite_not, ↓reduceIte, if_true, if_false, Int.reduceToNat, Nat.reduceAdd, Int.reduceEq, Int.reduceLT, Int.reduceLE, Int.reduceNeg, bI_T, bI_F, ↓if_pos, ↓if_neg, k_CentryOf h, run1]
  · have hn := tEnt_none hl (show tEnt T d p < 0 by omega)
    rw [tFor_none hp (T 1813).toNat (fun i i0 i1 => hn i i0 (by omega))]
    have c' : tEnt T d p = -1 := by omega
    have rm : ∀ Q : Int → gM → Prop, gE 145 0 [gO 0 x, gI (-1)] [] μ Q = Q 0 μ := fun Q => by
      simp (disch := first | assumption | omega) only [e145_0, e145_1, e145_4, e145_5, e145_6, e145_9, e145_12, e145_13, e145_14, e145_17, e145_18, e145_19, e145_22, e145_25, e145_26, e145_29, e145_30, e145_31, e145_34, e145_37, e145_38, e145_41, e145_42, e145_43, e145_46, e145_49, e145_50, e145_53, e145_54, e145_55, e145_58, e145_61, e145_62, e145_63, e145_66, e145_67, e145_68, e145_71, gK0_eq, gK1_eq, gK3_eq, w32_id, bI_eq0, bI_eq1, Bool.false_eq_true, not_true_eq_false, not_false_eq_true, ne_eq, ite_not, ↓reduceIte, if_true, if_false, Int.reduceToNat, Nat.reduceAdd, Int.reduceEq, Int.reduceLT, Int.reduceLE, Int.reduceNeg, bI_T, bI_F, ↓if_pos, ↓if_neg]
    refine ⟨μ, gFr_refl, h, fun Q => ?_⟩
    simp (disch := first | assumption | omega) only [e146_0, e146_1, e146_2, e146_3, e146_4, e146_7, e146_10, gK0_eq, gK1_eq, gK3_eq, w32_id, bI_eq0, bI_eq1, Bool.false_eq_true, not_true_eq_false, not_false_eq_true, ne_eq, ite_not, ↓reduceIte, if_true, if_false, Int.reduceToNat, Nat.reduceAdd, Int.reduceEq, Int.reduceLT, Int.reduceLE, Int.reduceNeg, bI_T, bI_F, ↓if_pos, ↓if_neg, k_CentryOf h, c', rm]
theorem k_CdropAll_loop {d : Int} : ∀ (n : Nat) (T : Int → Int) (μ : gM), rCa x room T μ → (n : Int) ≤ T 1813 → ∃ μ', gFr x (x + 5) μ μ' ∧ rCa x room (tFor d (-1) n T) μ' ∧ ∀ Q : Int → gM → Prop, gE 147 7 [gO 0 x, gI d, gI ((n : Int) - 1)] [] μ Q = Q 0 μ' := by
  intro n
  induction n with
  | zero =>
    intro T μ h hn
    refine ⟨μ, gFr_refl, h, fun Q => ?_⟩
    rw [e147_7]
    simp (disch := first | assumption | omega) only [e147_0, e147_1, e147_4, e147_5, e147_6, e147_8, e147_11, e147_12, e147_15, e147_16, e147_19, e147_20, e147_23, e147_24, e147_25, e147_28, e147_31, e147_34, gK0_eq, gK1_eq, gK3_eq, w32_id, bI_eq0, bI_eq1, Bool.false_eq_true, not_true_eq_false, not_false_eq_true, ne_eq, ite_not, ↓reduceIte, if_true, if_false, Int.reduceToNat, Nat.reduceAdd, Int.reduceEq, Int.reduceLT, Int.reduceLE, Int.reduceNeg, bI_T, bI_F, ↓if_pos, ↓if_neg, Int.natCast_zero, Int.zero_sub]
  | succ n ih =>
    intro T μ h hn
    have h16 : T 1813 ≤ 16 := by have := h.1.1.2.1; have := h.1.2.2; omega
    obtain ⟨b1, b2, b3, b4⟩ := h.2.2 n (by omega) (by omega)
    have e0 : ((n + 1 : Nat) : Int) - 1 = n := by omega
    have e1 : (n : Int) + -1 = (n : Int) - 1 := by omega
    have c0 : ¬ (n : Int) < 0 := by omega
    have c16 : (n : Int) < ((16 : Nat) : Int) := by omega
    have c00 : (0 : Int) ≤ n := by omega
    rw [tFor]
    by_cases c : T (1814 + 4 * n) = d
    · obtain ⟨μ1, f1, r1, run1⟩ := k_Cremove (k := n) h ⟨c00, by omega⟩
      obtain ⟨μ2, f2, r2, run2⟩ := ih _ _ r1 (by rw [tDrop_1813]; omega)
      rw [if_pos ⟨c, Or.inl (by omega)⟩]
      refine ⟨μ2, gFr_trans f1 f2, r2, fun Q => ?_⟩
      rw [e0, e147_7]
      simp (disch := first | assumption | omega) only [e147_0, e147_1, e147_4, e147_5, e147_6, e147_8, e147_11, e147_12, e147_15, e147_16, e147_19, e147_20, e147_23, e147_24, e147_25, e147_28, e147_31, e147_34, gK0_eq, gK1_eq, gK3_eq, w32_id, bI_eq0, bI_eq1, Bool.false_eq_true, not_true_eq_false, not_false_eq_true, ne_eq, ite_not, ↓reduceIte, if_true, if_false, Int.reduceToNat, Nat.reduceAdd, Int.reduceEq, Int.reduceLT, Int.reduceLE, Int.reduceNeg, bI_T, bI_F, ↓if_pos, ↓if_neg, c0, s_at, atv_in, b1, c, run1, e1, run2]
    · obtain ⟨μ2, f2, r2, run2⟩ := ih _ _ h (by omega)
      rw [if_neg (fun q => c q.1)]
      refine ⟨μ2, f2, r2, fun Q => ?_⟩
      rw [e0, e147_7]
      simp (disch := first | assumption | omega) only [e147_0, e147_1, e147_4, e147_5, e147_6, e147_8, e147_11, e147_12, e147_15, e147_16, e147_19, e147_20, e147_23, e147_24, e147_25, e147_28, e147_31, e147_34, gK0_eq, gK1_eq, gK3_eq, w32_id, bI_eq0, bI_eq1, Bool.false_eq_true, not_true_eq_false, not_false_eq_true, ne_eq, ite_not, ↓reduceIte, if_true, if_false, Int.reduceToNat, Nat.reduceAdd, Int.reduceEq, Int.reduceLT, Int.reduceLE, Int.reduceNeg, bI_T, bI_F, ↓if_pos, ↓if_neg, c0, s_at, atv_in, b1, c, e1, run2]
theorem k_CdropAll {d : Int} (h : rCa x room T μ) : ∃ μ', gFr x (x + 5) μ μ' ∧ rCa x room (tFor d (-1) (T 1813).toNat T) μ' ∧ ∀ Q : Int → gM → Prop, gE 147 0 [gO 0 x, gI d, gX] [] μ Q = Q 0 μ' := by
  have hl := h.1.1.1
  have h0 := h.2.1
  have h16 : T 1813 ≤ 16 := by have := h.1.1.2.1; have := h.1.2.2; omega
  obtain ⟨μ1, f1, r1, run1⟩ := k_CdropAll_loop (d := d) (T 1813).toNat T μ h (by omega)
  rw [show ((T 1813).toNat : Int) = T 1813 by omega] at run1
  refine ⟨μ1, f1, r1, fun Q => ?_⟩
  simp (disch := first | assumption | omega) only [e147_0, e147_1, e147_4, e147_5, e147_6, e147_8, e147_11, e147_12, e147_15, e147_16, e147_19, e147_20, e147_23, e147_24, e147_25, e147_28, e147_31, e147_34, gK0_eq, gK1_eq, gK3_eq, w32_id, bI_eq0, bI_eq1, Bool.false_eq_true, not_true_eq_false, not_false_eq_true, ne_eq, ite_not, ↓reduceIte, if_true, if_false, Int.reduceToNat, Nat.reduceAdd, Int.reduceEq, Int.reduceLT, Int.reduceLE, Int.reduceNeg, bI_T, bI_F, ↓if_pos, ↓if_neg, h0, run1]
theorem k_CentriesOf_loop {f : Int} (h : rCa x room T μ) : ∀ (m : Nat) (k n : Int), 0 ≤ k → k + m = T 1813 → 0 ≤ n → n ≤ k →
    gE 148 4 [gO 0 x, gI f, gI n, gI k] [] μ Q = Q (n + cntF (fun k => decide (T (1814 + 4 * k + 2) = f)) k m) μ := by
  obtain ⟨⟨hO, hr1, hr2⟩, h0, hr⟩ := h
  have h16 := hO.2.1
  intro m
  induction m with
  | zero =>
    intro k n k0 k1 n0 n1
    have c : T 1813 ≤ k := by omega
    rw [e148_4]
    simp (disch := first | assumption | omega) only [e148_0, e148_1, e148_2, e148_3, e148_5, e148_6, e148_9, e148_12, e148_13, e148_16, e148_17, e148_20, e148_21, e148_24, e148_27, e148_30, e148_33, e148_34, gK0_eq, gK1_eq, gK3_eq, w32_id, bI_eq0, bI_eq1, Bool.false_eq_true, not_true_eq_false, not_false_eq_true, ne_eq, ite_not, ↓reduceIte, if_true, if_false, Int.reduceToNat, Nat.reduceAdd, Int.reduceEq, Int.reduceLT, Int.reduceLE, Int.reduceNeg, bI_T, bI_F, ↓if_pos, ↓if_neg, h0, c, cntF, Int.add_zero]
  | succ m ih =>
    intro k n k0 k1 n0 n1
    have c : ¬ T 1813 ≤ k := by omega
    obtain ⟨b1, b2, b3, b4⟩ := hr k k0 (by omega)
    have c16 : k < ((16 : Nat) : Int) := by omega
    rw [e148_4]
    by_cases h2 : T (1814 + 4 * k + 2) = f
    · simp (disch := first | assumption | omega) only [e148_0, e148_1, e148_2, e148_3, e148_5, e148_6, e148_9, e148_12, e148_13, e148_16, e148_17, e148_20, e148_21, e148_24, e148_27, e148_30, e148_33, e148_34, gK0_eq, gK1_eq, gK3_eq, w32_id, bI_eq0, bI_eq1, Bool.false_eq_true, not_true_eq_false, not_false_eq_true, ne_eq, ite_not, ↓reduceIte, if_true, if_false, Int.reduceToNat, Nat.reduceAdd, Int.reduceEq, Int.reduceLT, Int.reduceLE, Int.reduceNeg, bI_T, bI_F, ↓if_pos, ↓if_neg, h0, c, s_at, atv_in, b3, h2]
      rw [ih (k + 1) (n + 1) (by omega) (by omega) (by omega) (by omega), cntF_t (by simp [h2]), Int.add_assoc]
    · simp (disch := first | assumption | omega) only [e148_0, e148_1, e148_2, e148_3, e148_5, e148_6, e148_9, e148_12, e148_13, e148_16, e148_17, e148_20, e148_21, e148_24, e148_27, e148_30, e148_33, e148_34, gK0_eq, gK1_eq, gK3_eq, w32_id, bI_eq0, bI_eq1, Bool.false_eq_true, not_true_eq_false, not_false_eq_true, ne_eq, ite_not, ↓reduceIte, if_true, if_false, Int.reduceToNat, Nat.reduceAdd, Int.reduceEq, Int.reduceLT, Int.reduceLE, Int.reduceNeg, bI_T, bI_F, ↓if_pos, ↓if_neg, h0, c, s_at, atv_in, b3, h2]
      rw [ih (k + 1) n (by omega) (by omega) (by omega) (by omega), cntF_f (by simp [h2])]
theorem k_CentriesOf {f : Int} (h : rCa x room T μ) : gE 148 0 [gO 0 x, gI f, gX, gX] [] μ Q = Q (tFrC T f 2) μ := by
  have hl := h.1.1.1
  simp (disch := first | assumption | omega) only [e148_0, e148_1, e148_2, e148_3, e148_5, e148_6, e148_9, e148_12, e148_13, e148_16, e148_17, e148_20, e148_21, e148_24, e148_27, e148_30, e148_33, e148_34, gK0_eq, gK1_eq, gK3_eq, w32_id, bI_eq0, bI_eq1, Bool.false_eq_true, not_true_eq_false, not_false_eq_true, ne_eq, ite_not, ↓reduceIte, if_true, if_false, Int.reduceToNat, Nat.reduceAdd, Int.reduceEq, Int.reduceLT, Int.reduceLE, Int.reduceNeg, bI_T, bI_F]
  rw [k_CentriesOf_loop h (T 1813).toNat 0 0 (by omega) (by omega) (by omega) (by omega), Int.zero_add]
  unfold tFrC
  congr 1
  exact cntF_congr _ _ (fun i _ _ => by simp)
theorem k_Ctell {k w : Int} (h : rCa x room T μ) : gE 149 0 [gO 0 x, gI k, gI w] [] μ Q = Q (tTel T 1813 1814 3 k w) μ := by
  obtain ⟨⟨hO, hr1, hr2⟩, h0, hr⟩ := h
  have hl2 := hO.2.1
  unfold tTel
  by_cases c0 : k < 0
  · rw [if_neg (by omega)]
    simp (disch := first | assumption | omega) only [e149_0, e149_1, e149_4, e149_5, e149_6, e149_9, e149_12, e149_13, e149_14, e149_15_c0, e149_15_c1, e149_15_c2, e149_15_c3, e149_15_d, e149_44, e149_45, e149_48, e149_49, e149_52, e149_53, e149_54, e149_57, e149_58, e149_61, e149_62, e149_63, e149_66, e149_67, e149_70, e149_71, e149_72, e149_75, e149_76, e149_79, e149_80, e149_81, gK0_eq, gK1_eq, gK3_eq, w32_id, bI_eq0, bI_eq1, Bool.false_eq_true, not_true_eq_false, not_false_eq_true, ne_eq, ite_not, ↓reduceIte, if_true, if_false, Int.reduceToNat, Nat.reduceAdd, Int.reduceEq, Int.reduceLT, Int.reduceLE, Int.reduceNeg, bI_T, bI_F, ↓if_pos, ↓if_neg, c0]
  · by_cases c1 : k < T 1813
    · obtain ⟨b1, b2, b3, b4⟩ := hr k (by omega) c1
      have c32 : k < ((16 : Nat) : Int) := by omega
      have c00 : 0 ≤ k := by omega
      by_cases w0 : w = 0
      · subst w0
        rw [if_pos (by omega), Int.add_zero]
        simp (disch := first | assumption | omega) only [e149_0, e149_1, e149_4, e149_5, e149_6, e149_9, e149_12, e149_13, e149_14, e149_15_c0, e149_15_c1, e149_15_c2, e149_15_c3, e149_15_d, e149_44, e149_45, e149_48, e149_49, e149_52, e149_53, e149_54, e149_57, e149_58, e149_61, e149_62, e149_63, e149_66, e149_67, e149_70, e149_71, e149_72, e149_75, e149_76, e149_79, e149_80, e149_81, gK0_eq, gK1_eq, gK3_eq, w32_id, bI_eq0, bI_eq1, Bool.false_eq_true, not_true_eq_false, not_false_eq_true, ne_eq, ite_not, ↓reduceIte, if_true, if_false, Int.reduceToNat, Nat.reduceAdd, Int.reduceEq, Int.reduceLT, Int.reduceLE, Int.reduceNeg, bI_T, bI_F, ↓if_pos, ↓if_neg, c0, c1, h0, s_at, atv_in, b1]
      · by_cases w1 : w = 1
        · subst w1
          rw [if_pos (by omega)]
          simp (disch := first | assumption | omega) only [e149_0, e149_1, e149_4, e149_5, e149_6, e149_9, e149_12, e149_13, e149_14, e149_15_c0, e149_15_c1, e149_15_c2, e149_15_c3, e149_15_d, e149_44, e149_45, e149_48, e149_49, e149_52, e149_53, e149_54, e149_57, e149_58, e149_61, e149_62, e149_63, e149_66, e149_67, e149_70, e149_71, e149_72, e149_75, e149_76, e149_79, e149_80, e149_81, gK0_eq, gK1_eq, gK3_eq, w32_id, bI_eq0, bI_eq1, Bool.false_eq_true, not_true_eq_false, not_false_eq_true, ne_eq, ite_not, ↓reduceIte, if_true, if_false, Int.reduceToNat, Nat.reduceAdd, Int.reduceEq, Int.reduceLT, Int.reduceLE, Int.reduceNeg, bI_T, bI_F, ↓if_pos, ↓if_neg, c0, c1, h0, s_at, atv_in, b2]
        · by_cases w2 : w = 2
          · subst w2
            rw [if_pos (by omega)]
            simp (disch := first | assumption | omega) only [e149_0, e149_1, e149_4, e149_5, e149_6, e149_9, e149_12, e149_13, e149_14, e149_15_c0, e149_15_c1, e149_15_c2, e149_15_c3, e149_15_d, e149_44, e149_45, e149_48, e149_49, e149_52, e149_53, e149_54, e149_57, e149_58, e149_61, e149_62, e149_63, e149_66, e149_67, e149_70, e149_71, e149_72, e149_75, e149_76, e149_79, e149_80, e149_81, gK0_eq, gK1_eq, gK3_eq, w32_id, bI_eq0, bI_eq1, Bool.false_eq_true, not_true_eq_false, not_false_eq_true, ne_eq, ite_not, ↓reduceIte, if_true, if_false, Int.reduceToNat, Nat.reduceAdd, Int.reduceEq, Int.reduceLT, Int.reduceLE, Int.reduceNeg, bI_T, bI_F, ↓if_pos, ↓if_neg, c0, c1, h0, s_at, atv_in, b3]
          · by_cases w3 : w = 3
            · subst w3
              rw [if_pos (by omega)]
              simp (disch := first | assumption | omega) only [e149_0, e149_1, e149_4, e149_5, e149_6, e149_9, e149_12, e149_13, e149_14, e149_15_c0, e149_15_c1, e149_15_c2, e149_15_c3, e149_15_d, e149_44, e149_45, e149_48, e149_49, e149_52, e149_53, e149_54, e149_57, e149_58, e149_61, e149_62, e149_63, e149_66, e149_67, e149_70, e149_71, e149_72, e149_75, e149_76, e149_79, e149_80, e149_81, gK0_eq, gK1_eq, gK3_eq, w32_id, bI_eq0, bI_eq1, Bool.false_eq_true, not_true_eq_false, not_false_eq_true, ne_eq, ite_not, ↓reduceIte, if_true, if_false, Int.reduceToNat, Nat.reduceAdd, Int.reduceEq, Int.reduceLT, Int.reduceLE, Int.reduceNeg, bI_T, bI_F, ↓if_pos, ↓if_neg, c0, c1, h0, s_at, atv_in, b4]
            · rw [if_neg (by omega)]
              simp (disch := first | assumption | omega) only [e149_0, e149_1, e149_4, e149_5, e149_6, e149_9, e149_12, e149_13, e149_14, e149_15_c0, e149_15_c1, e149_15_c2, e149_15_c3, e149_15_d, e149_44, e149_45, e149_48, e149_49, e149_52, e149_53, e149_54, e149_57, e149_58, e149_61, e149_62, e149_63, e149_66, e149_67, e149_70, e149_71, e149_72, e149_75, e149_76, e149_79, e149_80, e149_81, gK0_eq, gK1_eq, gK3_eq, w32_id, bI_eq0, bI_eq1, Bool.false_eq_true, not_true_eq_false, not_false_eq_true, ne_eq, ite_not, ↓reduceIte, if_true, if_false, Int.reduceToNat, Nat.reduceAdd, Int.reduceEq, Int.reduceLT, Int.reduceLE, Int.reduceNeg, bI_T, bI_F, ↓if_pos, ↓if_neg, c0, c1, h0, w0, w1, w2, w3]
    · rw [if_neg (by omega)]
      simp (disch := first | assumption | omega) only [e149_0, e149_1, e149_4, e149_5, e149_6, e149_9, e149_12, e149_13, e149_14, e149_15_c0, e149_15_c1, e149_15_c2, e149_15_c3, e149_15_d, e149_44, e149_45, e149_48, e149_49, e149_52, e149_53, e149_54, e149_57, e149_58, e149_61, e149_62, e149_63, e149_66, e149_67, e149_70, e149_71, e149_72, e149_75, e149_76, e149_79, e149_80, e149_81, gK0_eq, gK1_eq, gK3_eq, w32_id, bI_eq0, bI_eq1, Bool.false_eq_true, not_true_eq_false, not_false_eq_true, ne_eq, ite_not, ↓reduceIte, if_true, if_false, Int.reduceToNat, Nat.reduceAdd, Int.reduceEq, Int.reduceLT, Int.reduceLE, Int.reduceNeg, bI_T, bI_F, ↓if_pos, ↓if_neg, c0, c1, h0]
theorem k_Cclear (hr : 1 ≤ room ∧ room ≤ 16) (ht : T 1813 = 0) : ∃ μ', gFr x (x + 5) μ μ' ∧ rCa x room T μ' ∧ ∀ Q : Int → gM → Prop, gE 138 0 [gO 0 x] [] μ Q = Q 0 μ' := by
  refine ⟨?m, ?f, ?r, fun Q => ?run⟩
  case run =>
    simp (disch := first | assumption | omega) only [e138_0, e138_1, e138_2, e138_5, gK0_eq, gK1_eq, gK3_eq, w32_id, bI_eq0, bI_eq1, Bool.false_eq_true, not_true_eq_false, not_false_eq_true, ne_eq, ite_not, ↓reduceIte, if_true, if_false, Int.reduceToNat, Nat.reduceAdd, Int.reduceEq, Int.reduceLT, Int.reduceLE, Int.reduceNeg, bI_T, bI_F, ↓if_pos, ↓if_neg]
    exact rfl
  case f => intro k i hk; simp (disch := first | assumption | omega) only [gS_neK]
  case r =>
    refine ⟨⟨⟨by omega, by omega, fun k k0 k1 => by omega, fun i k i0 ik k1 => by omega⟩, hr.1, hr.2⟩, ?_, fun k k0 k1 => by omega⟩
    simp (disch := first | assumption | omega) only [gS_same, ht]
theorem k_Ccopy (h : rCa y room T μ) (hxy : x + 5 ≤ y ∨ y + 5 ≤ x) : ∃ μ', gFr x (x + 5) μ μ' ∧ rCa x room T μ' ∧ ∀ Q : Int → gM → Prop, gE 139 0 [gO 0 x, gO 0 y] [] μ Q = Q 0 μ' := by
  refine ⟨?m, ?f, ?r, fun Q => ?run⟩
  case run =>
    simp (disch := first | assumption | omega) only [e139_0, e139_1, e139_2, e139_5, e139_8, e139_9, e139_12, e139_13, e139_16, e139_19, e139_20, e139_23, e139_24, e139_27, e139_30, e139_31, e139_34, e139_35, e139_38, e139_41, e139_42, e139_45, e139_46, e139_49, e139_52, gK0_eq, gK1_eq, gK3_eq, w32_id, bI_eq0, bI_eq1, Bool.false_eq_true, not_true_eq_false, not_false_eq_true, ne_eq, ite_not, ↓reduceIte, if_true, if_false, Int.reduceToNat, Nat.reduceAdd, Int.reduceEq, Int.reduceLT, Int.reduceLE, Int.reduceNeg, bI_T, bI_F, ↓if_pos, ↓if_neg, s_copyRow, gS_neK, mrow_ne]
    exact rfl
  case f => intro k i hk; simp (disch := first | assumption | omega) only [gS_neK, mrow_ne]
  case r =>
    refine rCa_tr h ?_ (fun i i0 i1 => ?_) (fun j _ _ => rfl)
    · simp (disch := first | assumption | omega) only [gS_same, gS_neI, mrow_ne]
    · have c : 0 ≤ i ∧ i < ((16 : Nat) : Int) := by omega
      simp (disch := first | assumption | omega) only [gS_neK, gS_neI, mrow_ne, mrow_same, if_pos c, and_self]
end CACHE
