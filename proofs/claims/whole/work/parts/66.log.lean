/-! the class: its log -/
def rLg (x : Nat) (T : Int → Int) (μ : gM) : Prop := (0 ≤ T 1918 ∧ T 1918 ≤ 3) ∧ (0 ≤ T 1927 ∧ T 1927 ≤ 8) ∧ (μ x 0 = T 1918 ∧ μ x 3 = T 1927 ∧ μ x 8 = T 1878 ∧ μ x 9 = T 1879 ∧ μ x 10 = T 1880) ∧
  (∀ k, 0 ≤ k → k < T 1918 → μ (x + 1) k = T (1919 + k) ∧ μ (x + 2) k = T (1923 + k)) ∧
  (∀ k, 0 ≤ k → k < T 1927 → μ (x + 3) k = T (1928 + 4 * k) ∧ μ (x + 4) k = T (1928 + 4 * k + 1) ∧ μ (x + 5) k = T (1928 + 4 * k + 2) ∧ μ (x + 6) k = T (1928 + 4 * k + 3))
section LOG
variable {x y : Nat} {T T' : Int → Int} {μ μ' : gM} {Q : Int → gM → Prop}
theorem rLg_tr (h : rLg x T μ) (h0 : μ' y 0 = μ x 0 ∧ μ' y 3 = μ x 3 ∧ μ' y 8 = μ x 8 ∧ μ' y 9 = μ x 9 ∧ μ' y 10 = μ x 10) (h1 : ∀ i, 0 ≤ i → i < 3 → μ' (y + 1) i = μ (x + 1) i ∧ μ' (y + 2) i = μ (x + 2) i) (hr : ∀ i, 0 ≤ i → i < 8 → μ' (y + 3) i = μ (x + 3) i ∧ μ' (y + 4) i = μ (x + 4) i ∧ μ' (y + 5) i = μ (x + 5) i ∧ μ' (y + 6) i = μ (x + 6) i) (hT : ∀ j, (1878 ≤ j ∧ j ≤ 1880) ∨ (1918 ≤ j ∧ j < 1960) → T' j = T j) : rLg y T' μ' := by
  obtain ⟨g1, g2, ⟨a0, a3, a8, a9, a10⟩, g4, g5⟩ := h
  obtain ⟨e0, e3, e8, e9, e10⟩ := h0
  have t1 := hT 1918 (by omega)
  have t2 := hT 1927 (by omega)
  refine ⟨by rw [t1]; exact g1, by rw [t2]; exact g2, ⟨by rw [e0, t1]; exact a0, by rw [e3, t2]; exact a3, by rw [e8, hT _ (by omega)]; exact a8, by rw [e9, hT _ (by omega)]; exact a9, by rw [e10, hT _ (by omega)]; exact a10⟩, fun k k0 k1 => ?_, fun k k0 k1 => ?_⟩
  · rw [t1] at k1
    obtain ⟨b1, b2⟩ := h1 k k0 (by omega)
    rw [b1, b2, hT _ (by omega), hT _ (by omega)]
    exact g4 k k0 k1
  · rw [t2] at k1
    obtain ⟨b1, b2, b3, b4⟩ := hr k k0 (by omega)
    rw [b1, b2, b3, b4, hT _ (by omega), hT _ (by omega), hT _ (by omega), hT _ (by omega)]
    exact g5 k k0 k1
theorem rLg_fr {lo hi : Nat} (h : rLg x T μ) (hf : gFr lo hi μ μ') (hd : x + 7 ≤ lo ∨ hi ≤ x) (hT : ∀ j, (1878 ≤ j ∧ j ≤ 1880) ∨ (1918 ≤ j ∧ j < 1960) → T' j = T j) : rLg x T' μ' :=
  rLg_tr h ⟨hf _ _ (by omega), hf _ _ (by omega), hf _ _ (by omega), hf _ _ (by omega), hf _ _ (by omega)⟩ (fun i _ _ => ⟨hf _ _ (by omega), hf _ _ (by omega)⟩) (fun i _ _ => ⟨hf _ _ (by omega), hf _ _ (by omega), hf _ _ (by omega), hf _ _ (by omega)⟩) hT
theorem rLg_cnt {c j : Int} (h : rLg x T μ) (hc : (c = 8 ∧ j = 1878) ∨ (c = 9 ∧ j = 1879) ∨ (c = 10 ∧ j = 1880)) : rLg x (tMor T j) (gS μ x c (w32 (T j + 1))) := by
  obtain ⟨g1, g2, ⟨a0, a3, a8, a9, a10⟩, g4, g5⟩ := h
  have n : ∀ i, (i < 1878 ∨ 1880 < i) → tMor T j i = T i := fun i hi => tMor_ne (by omega)
  refine ⟨by rw [n _ (by omega)]; exact g1, by rw [n _ (by omega)]; exact g2, ⟨by rw [n _ (by omega), gS_neI (by omega)]; exact a0, by rw [n _ (by omega), gS_neI (by omega)]; exact a3, ?_, ?_, ?_⟩, fun k k0 k1 => ?_, fun k k0 k1 => ?_⟩
  · rcases hc with ⟨rfl, rfl⟩ | ⟨rfl, rfl⟩ | ⟨rfl, rfl⟩
    · rw [gS_same]; exact tS_same.symm
    · rw [gS_neI (by omega), tMor_ne (by omega)]; exact a8
    · rw [gS_neI (by omega), tMor_ne (by omega)]; exact a8
  · rcases hc with ⟨rfl, rfl⟩ | ⟨rfl, rfl⟩ | ⟨rfl, rfl⟩
    · rw [gS_neI (by omega), tMor_ne (by omega)]; exact a9
    · rw [gS_same]; exact tS_same.symm
    · rw [gS_neI (by omega), tMor_ne (by omega)]; exact a9
  · rcases hc with ⟨rfl, rfl⟩ | ⟨rfl, rfl⟩ | ⟨rfl, rfl⟩
    · rw [gS_neI (by omega), tMor_ne (by omega)]; exact a10
    · rw [gS_neI (by omega), tMor_ne (by omega)]; exact a10
    · rw [gS_same]; exact tS_same.symm
  · rw [n _ (by omega)] at k1
    rw [n _ (by omega), n _ (by omega), gS_neK (by omega), gS_neK (by omega)]
    exact g4 k k0 k1
  · rw [n _ (by omega)] at k1
    rw [n _ (by omega), n _ (by omega), n _ (by omega), n _ (by omega), gS_neK (by omega), gS_neK (by omega), gS_neK (by omega), gS_neK (by omega)]
    exact g5 k k0 k1
theorem k_because {c a : Int} (h : rLg x T μ) (hc : T 1918 < 3) : ∃ μ', gFr x (x + 7) μ μ' ∧ rLg x (tBec T c a) μ' ∧ ∀ Q : Int → gM → Prop, gE 166 0 [gO 2 x, gI c, gI a] [] μ Q = Q (-2) μ' := by
  obtain ⟨g1, g2, ⟨a0, a3, a8, a9, a10⟩, g4, g5⟩ := h
  have c0 := g1.1
  refine ⟨gS (gS (gS μ (x + 1) (T 1918) c) (x + 2) (T 1918) a) x 0 (T 1918 + 1), gFr_gS (gFr_gS (gFr_gS gFr_refl (by omega) (by omega)) (by omega) (by omega)) (by omega) (by omega), ?_, fun Q => ?_⟩
  · have q1 : tBec T c a 1918 = T 1918 + 1 := tS_same
    have q2 : ∀ j, j < 1918 ∨ 1926 ≤ j → tBec T c a j = T j := fun j hj => by unfold tBec; rw [tS_ne (by omega), tS_ne (by omega), tS_ne (by omega)]
    refine ⟨by rw [q1]; omega, by rw [q2 _ (by omega)]; exact g2, ⟨by rw [q1, gS_same], ?_, ?_, ?_, ?_⟩, fun k k0 k1 => ?_, fun k k0 k1 => ?_⟩
    · rw [q2 _ (by omega)]; simp (disch := first | assumption | omega) only [gS_neI, gS_neK, a3]
    · rw [q2 _ (by omega)]; simp (disch := first | assumption | omega) only [gS_neI, gS_neK, a8]
    · rw [q2 _ (by omega)]; simp (disch := first | assumption | omega) only [gS_neI, gS_neK, a9]
    · rw [q2 _ (by omega)]; simp (disch := first | assumption | omega) only [gS_neI, gS_neK, a10]
    · rw [q1] at k1
      by_cases e : k = T 1918
      · subst e
        simp (disch := first | assumption | omega) only [tBec, tS_ne, tS_same, gS_neK, gS_neI, gS_same, and_self]
      · obtain ⟨b1, b2⟩ := g4 k k0 (by omega)
        simp (disch := first | assumption | omega) only [tBec, tS_ne, gS_neK, gS_neI, b1, b2, and_self]
    · rw [q2 _ (by omega)] at k1
      obtain ⟨b1, b2, b3, b4⟩ := g5 k k0 k1
      rw [q2 _ (by omega), q2 _ (by omega), q2 _ (by omega), q2 _ (by omega)]
      simp (disch := first | assumption | omega) only [gS_neK, b1, b2, b3, b4, and_self]
  · simp (disch := first | assumption | omega) only [e166_0, e166_1, e166_4, e166_5, e166_8, e166_9, e166_12, e166_13, e166_16, e166_17, e166_20, e166_21, e166_24, e166_25, e166_28, e166_29, e166_32, e166_33, e166_34, e166_37, e166_38, e166_39, e166_42, e166_44, gK0_eq, gK1_eq, gK3_eq, w32_id, bI_eq0, bI_eq1, Bool.false_eq_true, not_true_eq_false, not_false_eq_true, ne_eq, ite_not, ↓reduceIte, if_true, if_false, Int.reduceToNat, Nat.reduceAdd, Int.reduceEq, Int.reduceLT, Int.reduceLE, Int.reduceNeg, bI_T, bI_F, ↓if_pos, ↓if_neg, s_put', putv_in, a0, hc, gS_neK, gS_neI, gS_same]
theorem rLg_zero (h : rLg x T μ) : rLg x (tS T 1918 0) (gS μ x 0 0) := by
  obtain ⟨g1, g2, ⟨a0, a3, a8, a9, a10⟩, g4, g5⟩ := h
  refine ⟨by rw [tS_same]; omega, by rw [tS_ne (by omega)]; exact g2, ⟨by rw [tS_same, gS_same], ?_, ?_, ?_, ?_⟩, fun k k0 k1 => by rw [tS_same] at k1; omega, fun k k0 k1 => ?_⟩
  · rw [tS_ne (by omega), gS_neI (by omega)]; exact a3
  · rw [tS_ne (by omega), gS_neI (by omega)]; exact a8
  · rw [tS_ne (by omega), gS_neI (by omega)]; exact a9
  · rw [tS_ne (by omega), gS_neI (by omega)]; exact a10
  · rw [tS_ne (by omega)] at k1
    rw [tS_ne (by omega), tS_ne (by omega), tS_ne (by omega), tS_ne (by omega), gS_neK (by omega), gS_neK (by omega), gS_neK (by omega), gS_neK (by omega)]
    exact g5 k k0 k1
theorem k_refuse {c a : Int} (h : rLg x T μ) : ∃ μ', gFr x (x + 7) μ μ' ∧ rLg x (tRef T c a) μ' ∧ ∀ Q : Int → gM → Prop, gE 165 0 [gO 2 x, gI c, gI a] [] μ Q = Q (-2) μ' := by
  obtain ⟨μ1, f1, r1, run1⟩ := k_because (c := c) (a := a) (rLg_zero h) (by rw [tS_same]; omega)
  refine ⟨μ1, gFr_trans (gFr_gS gFr_refl (by omega) (by omega)) f1, r1, fun Q => ?_⟩
  simp (disch := first | assumption | omega) only [e165_0, e165_1, e165_2, e165_5, e165_6, e165_7, e165_8, e165_11, gK0_eq, gK1_eq, gK3_eq, w32_id, bI_eq0, bI_eq1, Bool.false_eq_true, not_true_eq_false, not_false_eq_true, ne_eq, ite_not, ↓reduceIte, if_true, if_false, Int.reduceToNat, Nat.reduceAdd, Int.reduceEq, Int.reduceLT, Int.reduceLE, Int.reduceNeg, bI_T, bI_F, ↓if_pos, ↓if_neg, run1]
theorem k_causeAt {k : Int} (h : rLg x T μ) : gE 167 0 [gO 2 x, gI k] [] μ Q = Q (if 0 ≤ k ∧ k < T 1918 then T (1919 + k) else -2) μ := by
  obtain ⟨g1, g2, ⟨a0, a3, a8, a9, a10⟩, g4, g5⟩ := h
  by_cases c : k < 0
  · rw [if_neg (by omega)]
    simp (disch := first | assumption | omega) only [e167_0, e167_1, e167_4, e167_5, e167_6, e167_9, e167_12, e167_14, e167_17, e167_18, e167_21, e167_22, e167_25, gK0_eq, gK1_eq, gK3_eq, w32_id, bI_eq0, bI_eq1, Bool.false_eq_true, not_true_eq_false, not_false_eq_true, ne_eq, ite_not, ↓reduceIte, if_true, if_false, Int.reduceToNat, Nat.reduceAdd, Int.reduceEq, Int.reduceLT, Int.reduceLE, Int.reduceNeg, bI_T, bI_F, ↓if_pos, ↓if_neg, c]
  · by_cases c2 : k < T 1918
    · have c0 : 0 ≤ k := by omega
      have c3 : k < ((3 : Nat) : Int) := by omega
      have b := (g4 k c0 c2).1
      rw [if_pos ⟨c0, c2⟩]
      simp (disch := first | assumption | omega) only [e167_0, e167_1, e167_4, e167_5, e167_6, e167_9, e167_12, e167_14, e167_17, e167_18, e167_21, e167_22, e167_25, gK0_eq, gK1_eq, gK3_eq, w32_id, bI_eq0, bI_eq1, Bool.false_eq_true, not_true_eq_false, not_false_eq_true, ne_eq, ite_not, ↓reduceIte, if_true, if_false, Int.reduceToNat, Nat.reduceAdd, Int.reduceEq, Int.reduceLT, Int.reduceLE, Int.reduceNeg, bI_T, bI_F, ↓if_pos, ↓if_neg, c, c2, a0, s_at, atv_in, b]
    · rw [if_neg (by omega)]
      simp (disch := first | assumption | omega) only [e167_0, e167_1, e167_4, e167_5, e167_6, e167_9, e167_12, e167_14, e167_17, e167_18, e167_21, e167_22, e167_25, gK0_eq, gK1_eq, gK3_eq, w32_id, bI_eq0, bI_eq1, Bool.false_eq_true, not_true_eq_false, not_false_eq_true, ne_eq, ite_not, ↓reduceIte, if_true, if_false, Int.reduceToNat, Nat.reduceAdd, Int.reduceEq, Int.reduceLT, Int.reduceLE, Int.reduceNeg, bI_T, bI_F, ↓if_pos, ↓if_neg, c, c2, a0]
theorem k_aboutAt {k : Int} (h : rLg x T μ) : gE 168 0 [gO 2 x, gI k] [] μ Q = Q (if 0 ≤ k ∧ k < T 1918 then T (1923 + k) else -2) μ := by
  obtain ⟨g1, g2, ⟨a0, a3, a8, a9, a10⟩, g4, g5⟩ := h
  by_cases c : k < 0
  · rw [if_neg (by omega)]
    simp (disch := first | assumption | omega) only [e168_0, e168_1, e168_4, e168_5, e168_6, e168_9, e168_12, e168_14, e168_17, e168_18, e168_21, e168_22, e168_25, gK0_eq, gK1_eq, gK3_eq, w32_id, bI_eq0, bI_eq1, Bool.false_eq_true, not_true_eq_false, not_false_eq_true, ne_eq, ite_not, ↓reduceIte, if_true, if_false, Int.reduceToNat, Nat.reduceAdd, Int.reduceEq, Int.reduceLT, Int.reduceLE, Int.reduceNeg, bI_T, bI_F, ↓if_pos, ↓if_neg, c]
  · by_cases c2 : k < T 1918
    · have c0 : 0 ≤ k := by omega
      have c3 : k < ((3 : Nat) : Int) := by omega
      have b := (g4 k c0 c2).2
      rw [if_pos ⟨c0, c2⟩]
      simp (disch := first | assumption | omega) only [e168_0, e168_1, e168_4, e168_5, e168_6, e168_9, e168_12, e168_14, e168_17, e168_18, e168_21, e168_22, e168_25, gK0_eq, gK1_eq, gK3_eq, w32_id, bI_eq0, bI_eq1, Bool.false_eq_true, not_true_eq_false, not_false_eq_true, ne_eq, ite_not, ↓reduceIte, if_true, if_false, Int.reduceToNat, Nat.reduceAdd, Int.reduceEq, Int.reduceLT, Int.reduceLE, Int.reduceNeg, bI_T, bI_F, ↓if_pos, ↓if_neg, c, c2, a0, s_at, atv_in, b]
    · rw [if_neg (by omega)]
      simp (disch := first | assumption | omega) only [e168_0, e168_1, e168_4, e168_5, e168_6, e168_9, e168_12, e168_14, e168_17, e168_18, e168_21, e168_22, e168_25, gK0_eq, gK1_eq, gK3_eq, w32_id, bI_eq0, bI_eq1, Bool.false_eq_true, not_true_eq_false, not_false_eq_true, ne_eq, ite_not, ↓reduceIte, if_true, if_false, Int.reduceToNat, Nat.reduceAdd, Int.reduceEq, Int.reduceLT, Int.reduceLE, Int.reduceNeg, bI_T, bI_F, ↓if_pos, ↓if_neg, c, c2, a0]
theorem k_putFirst_loop {a : Nat} {v : Int} : ∀ (n : Nat) (μ : gM), n ≤ 7 →
    gE 170 5 [gA 8 a, gI v, gI n] [] μ Q = Q 0 (mrow μ a (fun j => if j = 0 then v else if 1 ≤ j ∧ j ≤ n then μ a (j - 1) else μ a j)) := by
  intro n
  induction n with
  | zero =>
    intro μ hn
    rw [e170_5]
    simp (disch := first | assumption | omega) only [e170_0, e170_1, e170_2, e170_3, e170_4, e170_6, e170_9, e170_10, e170_11, e170_12, e170_13, e170_14, e170_15, e170_16, e170_17, e170_20, e170_23, e170_24, e170_25, e170_26, e170_29, gK0_eq, gK1_eq, gK3_eq, w32_id, bI_eq0, bI_eq1, Bool.false_eq_true, not_true_eq_false, not_false_eq_true, ne_eq, ite_not, ↓reduceIte, if_true, if_false, Int.reduceToNat, Nat.reduceAdd, Int.reduceEq, Int.reduceLT, Int.reduceLE, Int.reduceNeg, bI_T, bI_F, ↓if_pos, ↓if_neg, Int.natCast_zero, Int.le_refl, s_put', putv_in, gS_mrow]
  | succ n ih =>
    intro μ hn
    have c : ¬ ((n + 1 : Nat) : Int) ≤ 0 := by omega
    have c0 : (0 : Int) ≤ (n + 1 : Nat) := by omega
    have c1 : ((n + 1 : Nat) : Int) < ((8 : Nat) : Int) := by omega
    have e1 : ((n + 1 : Nat) : Int) - 1 = n := by omega
    have e2 : ((n + 1 : Nat) : Int) + -1 = n := by omega
    have c3 : (0 : Int) ≤ n := by omega
    have c4 : (n : Int) < ((8 : Nat) : Int) := by omega
    rw [e170_5]
    simp (disch := first | assumption | omega) only [e170_0, e170_1, e170_2, e170_3, e170_4, e170_6, e170_9, e170_10, e170_11, e170_12, e170_13, e170_14, e170_15, e170_16, e170_17, e170_20, e170_23, e170_24, e170_25, e170_26, e170_29, gK0_eq, gK1_eq, gK3_eq, w32_id, bI_eq0, bI_eq1, Bool.false_eq_true, not_true_eq_false, not_false_eq_true, ne_eq, ite_not, ↓reduceIte, if_true, if_false, Int.reduceToNat, Nat.reduceAdd, Int.reduceEq, Int.reduceLT, Int.reduceLE, Int.reduceNeg, bI_T, bI_F, ↓if_pos, ↓if_neg, c, e1, e2]
    rw [ih _ (by omega), gS_mrow, mrow_mrow]
    congr 2
    funext j
    simp only [mrow_same]
    by_cases z : j = 0
    · rw [if_pos z, if_pos z]
    · rw [if_neg z, if_neg z]
      by_cases q : 1 ≤ j ∧ j ≤ n
      · rw [if_pos q, if_pos (show 1 ≤ j ∧ j ≤ ((n + 1 : Nat) : Int) by omega), if_neg (show ¬ j - 1 = ((n + 1 : Nat) : Int) by omega)]
      · rw [if_neg q]
        by_cases w : j = ((n + 1 : Nat) : Int)
        · rw [if_pos w, if_pos (show 1 ≤ j ∧ j ≤ ((n + 1 : Nat) : Int) by omega)]
          congr 1
          omega
        · rw [if_neg w, if_neg (show ¬ (1 ≤ j ∧ j ≤ ((n + 1 : Nat) : Int)) by omega)]
theorem k_putFirst {a : Nat} {v : Int} {μ : gM} : gE 170 0 [gA 8 a, gI v, gX] [] μ Q = Q 0 (mrow μ a (fun j => if j = 0 then v else if 1 ≤ j ∧ j ≤ 7 then μ a (j - 1) else μ a j)) := by
  have h := k_putFirst_loop (Q := Q) (a := a) (v := v) 7 μ (by omega)
  have e : (((7 : Nat) : Int)) = 7 := rfl
  rw [e] at h
  have e8 : ((8 : Nat) : Int) - 1 = 7 := rfl
  simp (disch := first | assumption | omega) only [e170_0, e170_1, e170_2, e170_3, e170_4, e170_6, e170_9, e170_10, e170_11, e170_12, e170_13, e170_14, e170_15, e170_16, e170_17, e170_20, e170_23, e170_24, e170_25, e170_26, e170_29, gK0_eq, gK1_eq, gK3_eq, w32_id, bI_eq0, bI_eq1, Bool.false_eq_true, not_true_eq_false, not_false_eq_true, ne_eq, ite_not, ↓reduceIte, if_true, if_false, Int.reduceToNat, Nat.reduceAdd, Int.reduceEq, Int.reduceLT, Int.reduceLE, Int.reduceNeg, bI_T, bI_F, ↓if_pos, ↓if_neg, e8]
  exact h
theorem tRcd_at {sg p r w : Int} (hr : 0 ≤ T 1927 ∧ T 1927 ≤ 8) : (∀ j, j < 1927 → tRcd T sg p r w j = T j) ∧ tRcd T sg p r w 1927 = tRcn T + 1 ∧ tRcd T sg p r w 1928 = sg ∧ tRcd T sg p r w 1929 = p ∧ tRcd T sg p r w 1930 = r ∧ tRcd T sg p r w 1931 = w ∧ (∀ j, 1932 ≤ j → j < 1932 + 4 * tRcn T → tRcd T sg p r w j = T (j - 4)) := by
  have hn : 0 ≤ tRcn T ∧ tRcn T ≤ 7 := by unfold tRcn; split <;> omega
  unfold tRcd
  refine ⟨fun j hj => ?_, tS_same, ?_, ?_, ?_, ?_, fun j h0 h1 => ?_⟩
  · rw [tS_ne (by omega), tS_ne (by omega), tS_ne (by omega), tS_ne (by omega), tS_ne (by omega)]
    exact if_neg (by omega)
  · simp (disch := first | assumption | omega) only [tS_ne, tS_same]
  · simp (disch := first | assumption | omega) only [tS_ne, tS_same]
  · simp (disch := first | assumption | omega) only [tS_ne, tS_same]
  · simp (disch := first | assumption | omega) only [tS_ne, tS_same]
  · rw [tS_ne (by omega), tS_ne (by omega), tS_ne (by omega), tS_ne (by omega), tS_ne (by omega)]
    exact if_pos (by omega)
theorem k_addRecord {sg p r w : Int} (h : rLg x T μ) : ∃ μ', gFr x (x + 7) μ μ' ∧ rLg x (tRcd T sg p r w) μ' ∧ ∀ Q : Int → gM → Prop, gE 169 0 [gO 2 x, gI sg, gI p, gI r, gI w] [] μ Q = Q 0 μ' := by
  obtain ⟨g1, g2, ⟨a0, a3, a8, a9, a10⟩, g4, g5⟩ := h
  obtain ⟨q1, q2, q3, q4, q5, q6, q7⟩ := tRcd_at (T := T) (sg := sg) (p := p) (r := r) (w := w) g2
  have hn : tRcn T + 1 = imin (T 1927 + 1) 8 := by unfold tRcn imin; split <;> split <;> omega
  refine ⟨?m, ?f, ?r, fun Q => ?run⟩
  case run =>
    simp (disch := first | assumption | omega) only [e169_0, e169_1, e169_4, e169_5, e169_8, e169_9, e169_12, e169_13, e169_16, e169_17, e169_20, e169_21, e169_24, e169_25, e169_28, e169_30, e169_33, e169_34, e169_35, e169_38, e169_39, e169_40, e169_42, e169_45, e169_48, gK0_eq, gK1_eq, gK3_eq, w32_id, bI_eq0, bI_eq1, Bool.false_eq_true, not_true_eq_false, not_false_eq_true, ne_eq, ite_not, ↓reduceIte, if_true, if_false, Int.reduceToNat, Nat.reduceAdd, Int.reduceEq, Int.reduceLT, Int.reduceLE, Int.reduceNeg, bI_T, bI_F, ↓if_pos, ↓if_neg, k_putFirst, mrow_ne, a3]
    exact rfl
  case f => intro k i hk; simp (disch := first | assumption | omega) only [gS_neK, mrow_ne]
  case r =>
    refine ⟨by rw [q1 _ (by omega)]; exact g1, by rw [q2]; unfold tRcn; split <;> omega, ⟨?_, ?_, ?_, ?_, ?_⟩, fun k k0 k1 => ?_, fun k k0 k1 => ?_⟩
    · rw [q1 _ (by omega)]; simp (disch := first | assumption | omega) only [gS_neI, mrow_ne, a0]
    · rw [q2, hn]; simp (disch := first | assumption | omega) only [gS_same]
    · rw [q1 _ (by omega)]; simp (disch := first | assumption | omega) only [gS_neI, mrow_ne, a8]
    · rw [q1 _ (by omega)]; simp (disch := first | assumption | omega) only [gS_neI, mrow_ne, a9]
    · rw [q1 _ (by omega)]; simp (disch := first | assumption | omega) only [gS_neI, mrow_ne, a10]
    · rw [q1 _ (by omega)] at k1
      obtain ⟨b1, b2⟩ := g4 k k0 k1
      rw [q1 _ (by omega), q1 _ (by omega)]
      simp (disch := first | assumption | omega) only [gS_neK, mrow_ne, b1, b2, and_self]
    · rw [q2] at k1
      by_cases c : k = 0
      · subst c
        rw [Int.mul_zero, Int.add_zero, q3]
        simp only [Int.reduceAdd]
        rw [q4, q5, q6]
        simp (disch := first | assumption | omega) only [gS_neK, mrow_ne, mrow_same, if_true, and_self]
      · have n7 : tRcn T ≤ T 1927 ∧ tRcn T ≤ 7 := by unfold tRcn; split <;> omega
        obtain ⟨b1, b2, b3, b4⟩ := g5 (k - 1) (by omega) (by omega)
        have c7 : 1 ≤ k ∧ k ≤ 7 := by omega
        rw [q7 _ (by omega) (by omega), q7 _ (by omega) (by omega), q7 _ (by omega) (by omega), q7 _ (by omega) (by omega)]
        rw [show 1928 + 4 * k - 4 = 1928 + 4 * (k - 1) by omega, show 1928 + 4 * k + 1 - 4 = 1928 + 4 * (k - 1) + 1 by omega, show 1928 + 4 * k + 2 - 4 = 1928 + 4 * (k - 1) + 2 by omega, show 1928 + 4 * k + 3 - 4 = 1928 + 4 * (k - 1) + 3 by omega]
        simp (disch := first | assumption | omega) only [gS_neK, mrow_ne, mrow_same, if_neg c, if_pos c7, b1, b2, b3, b4, and_self]
theorem k_tellRecord {k w : Int} (h : rLg x T μ) : gE 171 0 [gO 2 x, gI k, gI w] [] μ Q = Q (tTel T 1927 1928 3 k w) μ := by
  obtain ⟨g1, g2, ⟨a0, a3, a8, a9, a10⟩, g4, g5⟩ := h
  unfold tTel
  by_cases c0 : k < 0
  · rw [if_neg (by omega)]
    simp (disch := first | assumption | omega) only [e171_0, e171_1, e171_4, e171_5, e171_6, e171_9, e171_12, e171_13, e171_14, e171_15_c0, e171_15_c1, e171_15_c2, e171_15_c3, e171_15_d, e171_44, e171_45, e171_48, e171_49, e171_52, e171_53, e171_54, e171_57, e171_58, e171_61, e171_62, e171_63, e171_66, e171_67, e171_70, e171_71, e171_72, e171_75, e171_76, e171_79, e171_80, e171_81, gK0_eq, gK1_eq, gK3_eq, w32_id, bI_eq0, bI_eq1, Bool.false_eq_true, not_true_eq_false, not_false_eq_true, ne_eq, ite_not, ↓reduceIte, if_true, if_false, Int.reduceToNat, Nat.reduceAdd, Int.reduceEq, Int.reduceLT, Int.reduceLE, Int.reduceNeg, bI_T, bI_F, ↓if_pos, ↓if_neg, c0]
  · by_cases c1 : k < T 1927
    · obtain ⟨b1, b2, b3, b4⟩ := g5 k (by omega) c1
      have c32 : k < ((8 : Nat) : Int) := by omega
      have c00 : 0 ≤ k := by omega
      by_cases w0 : w = 0
      · subst w0
        rw [if_pos (by omega), Int.add_zero]
        simp (disch := first | assumption | omega) only [e171_0, e171_1, e171_4, e171_5, e171_6, e171_9, e171_12, e171_13, e171_14, e171_15_c0, e171_15_c1, e171_15_c2, e171_15_c3, e171_15_d, e171_44, e171_45, e171_48, e171_49, e171_52, e171_53, e171_54, e171_57, e171_58, e171_61, e171_62, e171_63, e171_66, e171_67, e171_70, e171_71, e171_72, e171_75, e171_76, e171_79, e171_80, e171_81, gK0_eq, gK1_eq, gK3_eq, w32_id, bI_eq0, bI_eq1, Bool.false_eq_true, not_true_eq_false, not_false_eq_true, ne_eq, ite_not, ↓reduceIte, if_true, if_false, Int.reduceToNat, Nat.reduceAdd, Int.reduceEq, Int.reduceLT, Int.reduceLE, Int.reduceNeg, bI_T, bI_F, ↓if_pos, ↓if_neg, c0, c1, a3, s_at, atv_in, b1]
      · by_cases w1 : w = 1
        · subst w1
          rw [if_pos (by omega)]
          simp (disch := first | assumption | omega) only [e171_0, e171_1, e171_4, e171_5, e171_6, e171_9, e171_12, e171_13, e171_14, e171_15_c0, e171_15_c1, e171_15_c2, e171_15_c3, e171_15_d, e171_44, e171_45, e171_48, e171_49, e171_52, e171_53, e171_54, e171_57, e171_58, e171_61, e171_62, e171_63, e171_66, e171_67, e171_70, e171_71, e171_72, e171_75, e171_76, e171_79, e171_80, e171_81, gK0_eq, gK1_eq, gK3_eq, w32_id, bI_eq0, bI_eq1, Bool.false_eq_true, not_true_eq_false, not_false_eq_true, ne_eq, ite_not, ↓reduceIte, if_true, if_false, Int.reduceToNat, Nat.reduceAdd, Int.reduceEq, Int.reduceLT, Int.reduceLE, Int.reduceNeg, bI_T, bI_F, ↓if_pos, ↓if_neg, c0, c1, a3, s_at, atv_in, b2]
        · by_cases w2 : w = 2
          · subst w2
            rw [if_pos (by omega)]
            simp (disch := first | assumption | omega) only [e171_0, e171_1, e171_4, e171_5, e171_6, e171_9, e171_12, e171_13, e171_14, e171_15_c0, e171_15_c1, e171_15_c2, e171_15_c3, e171_15_d, e171_44, e171_45, e171_48, e171_49, e171_52, e171_53, e171_54, e171_57, e171_58, e171_61, e171_62, e171_63, e171_66, e171_67, e171_70, e171_71, e171_72, e171_75, e171_76, e171_79, e171_80, e171_81, gK0_eq, gK1_eq, gK3_eq, w32_id, bI_eq0, bI_eq1, Bool.false_eq_true, not_true_eq_false, not_false_eq_true, ne_eq, ite_not, ↓reduceIte, if_true, if_false, Int.reduceToNat, Nat.reduceAdd, Int.reduceEq, Int.reduceLT, Int.reduceLE, Int.reduceNeg, bI_T, bI_F, ↓if_pos, ↓if_neg, c0, c1, a3, s_at, atv_in, b3]
          · by_cases w3 : w = 3
            · subst w3
              rw [if_pos (by omega)]
              simp (disch := first | assumption | omega) only [e171_0, e171_1, e171_4, e171_5, e171_6, e171_9, e171_12, e171_13, e171_14, e171_15_c0, e171_15_c1, e171_15_c2, e171_15_c3, e171_15_d, e171_44, e171_45, e171_48, e171_49, e171_52, e171_53, e171_54, e171_57, e171_58, e171_61, e171_62, e171_63, e171_66, e171_67, e171_70, e171_71, e171_72, e171_75, e171_76, e171_79, e171_80, e171_81, gK0_eq, gK1_eq, gK3_eq, w32_id, bI_eq0, bI_eq1, Bool.false_eq_true, not_true_eq_false, not_false_eq_true, ne_eq, ite_not, ↓reduceIte, if_true, if_false, Int.reduceToNat, Nat.reduceAdd, Int.reduceEq, Int.reduceLT, Int.reduceLE, Int.reduceNeg, bI_T, bI_F, ↓if_pos, ↓if_neg, c0, c1, a3, s_at, atv_in, b4]
            · rw [if_neg (by omega)]
              simp (disch := first | assumption | omega) only [e171_0, e171_1, e171_4, e171_5, e171_6, e171_9, e171_12, e171_13, e171_14, e171_15_c0, e171_15_c1, e171_15_c2, e171_15_c3, e171_15_d, e171_44, e171_45, e171_48, e171_49, e171_52, e171_53, e171_54, e171_57, e171_58, e171_61, e171_62, e171_63, e171_66, e171_67, e171_70, e171_71, e171_72, e171_75, e171_76, e171_79, e171_80, e171_81, gK0_eq, gK1_eq, gK3_eq, w32_id, bI_eq0, bI_eq1, Bool.false_eq_true, not_true_eq_false, not_false_eq_true, ne_eq, ite_not, ↓reduceIte, if_true, if_false, Int.reduceToNat, Nat.reduceAdd, Int.reduceEq, Int.reduceLT, Int.reduceLE, Int.reduceNeg, bI_T, bI_F, ↓if_pos, ↓if_neg, c0, c1, a3, w0, w1, w2, w3]
    · rw [if_neg (by omega)]
      simp (disch := first | assumption | omega) only [e171_0, e171_1, e171_4, e171_5, e171_6, e171_9, e171_12, e171_13, e171_14, e171_15_c0, e171_15_c1, e171_15_c2, e171_15_c3, e171_15_d, e171_44, e171_45, e171_48, e171_49, e171_52, e171_53, e171_54, e171_57, e171_58, e171_61, e171_62, e171_63, e171_66, e171_67, e171_70, e171_71, e171_72, e171_75, e171_76, e171_79, e171_80, e171_81, gK0_eq, gK1_eq, gK3_eq, w32_id, bI_eq0, bI_eq1, Bool.false_eq_true, not_true_eq_false, not_false_eq_true, ne_eq, ite_not, ↓reduceIte, if_true, if_false, Int.reduceToNat, Nat.reduceAdd, Int.reduceEq, Int.reduceLT, Int.reduceLE, Int.reduceNeg, bI_T, bI_F, ↓if_pos, ↓if_neg, c0, c1, a3]
theorem k_Lclear (ht : T 1918 = 0 ∧ T 1927 = 0 ∧ T 1878 = 0 ∧ T 1879 = 0 ∧ T 1880 = 0) : ∃ μ', gFr x (x + 7) μ μ' ∧ rLg x T μ' ∧ ∀ Q : Int → gM → Prop, gE 163 0 [gO 2 x] [] μ Q = Q 0 μ' := by
  refine ⟨?m, ?f, ?r, fun Q => ?run⟩
  case run =>
    simp (disch := first | assumption | omega) only [e163_0, e163_1, e163_2, e163_5, e163_6, e163_7, e163_10, e163_11, e163_12, e163_15, e163_16, e163_17, e163_20, e163_21, e163_22, e163_25, gK0_eq, gK1_eq, gK3_eq, w32_id, bI_eq0, bI_eq1, Bool.false_eq_true, not_true_eq_false, not_false_eq_true, ne_eq, ite_not, ↓reduceIte, if_true, if_false, Int.reduceToNat, Nat.reduceAdd, Int.reduceEq, Int.reduceLT, Int.reduceLE, Int.reduceNeg, bI_T, bI_F, ↓if_pos, ↓if_neg]
    exact rfl
  case f => intro k i hk; simp (disch := first | assumption | omega) only [gS_neK]
  case r =>
    obtain ⟨t1, t2, t3, t4, t5⟩ := ht
    refine ⟨by omega, by omega, ⟨?_, ?_, ?_, ?_, ?_⟩, fun k k0 k1 => by omega, fun k k0 k1 => by omega⟩
    · simp (disch := first | assumption | omega) only [gS_same, gS_neI, t1]
    · simp (disch := first | assumption | omega) only [gS_same, gS_neI, t2]
    · simp (disch := first | assumption | omega) only [gS_same, gS_neI, t3]
    · simp (disch := first | assumption | omega) only [gS_same, gS_neI, t4]
    · simp (disch := first | assumption | omega) only [gS_same, gS_neI, t5]
theorem k_Lcopy (h : rLg y T μ) (hxy : x + 7 ≤ y ∨ y + 7 ≤ x) : ∃ μ', gFr x (x + 7) μ μ' ∧ rLg x T μ' ∧ ∀ Q : Int → gM → Prop, gE 164 0 [gO 2 x, gO 2 y] [] μ Q = Q 0 μ' := by
  refine ⟨?m, ?f, ?r, fun Q => ?run⟩
  case run =>
    simp (disch := first | assumption | omega) only [e164_0, e164_1, e164_2, e164_5, e164_8, e164_9, e164_12, e164_13, e164_16, e164_19, e164_20, e164_23, e164_24, e164_27, e164_30, e164_31, e164_32, e164_35, e164_38, e164_39, e164_42, e164_43, e164_46, e164_49, e164_50, e164_53, e164_54, e164_57, e164_60, e164_61, e164_64, e164_65, e164_68, e164_71, e164_72, e164_75, e164_76, e164_79, e164_82, e164_83, e164_84, e164_87, e164_90, e164_91, e164_92, e164_95, e164_98, e164_99, e164_100, e164_103, e164_106, gK0_eq, gK1_eq, gK3_eq, w32_id, bI_eq0, bI_eq1, Bool.false_eq_true, not_true_eq_false, not_false_eq_true, ne_eq, ite_not, ↓reduceIte, if_true, if_false, Int.reduceToNat, Nat.reduceAdd, Int.reduceEq, Int.reduceLT, Int.reduceLE, Int.reduceNeg, bI_T, bI_F, ↓if_pos, ↓if_neg, s_copyRow, gS_neK, mrow_ne]
    exact rfl
  case f => intro k i hk; simp (disch := first | assumption | omega) only [gS_neK, mrow_ne]
  case r =>
    refine rLg_tr h ?_ (fun i i0 i1 => ?_) (fun i i0 i1 => ?_) (fun j _ => rfl)
    · simp (disch := first | assumption | omega) only [gS_same, gS_neI, gS_neK, mrow_ne, and_self]
    · have c : 0 ≤ i ∧ i < ((3 : Nat) : Int) := by omega
      simp (disch := first | assumption | omega) only [gS_neK, gS_neI, mrow_ne, mrow_same, if_pos c, and_self]
    · have c : 0 ≤ i ∧ i < ((8 : Nat) : Int) := by omega
      simp (disch := first | assumption | omega) only [gS_neK, gS_neI, mrow_ne, mrow_same, if_pos c, and_self]
end LOG
