/-! the class: its tree, looked at -/
def rTd (x : Nat) (X μ : gM) : Prop := (μ x 0 = X 167 11 ∧ μ x 4 = X 167 12 ∧ μ x 8 = X 167 13 ∧ μ x 11 = X 167 14 ∧ μ x 15 = X 178 0 ∧ μ x 16 = X 178 1) ∧
  (∀ b, 0 ≤ b → b < X 167 11 → μ (x + 1) b = X 170 b ∧ μ (x + 2) b = X 172 b ∧ μ (x + 3) b = xAb X 7 b 0) ∧
  (∀ d, 0 ≤ d → d < X 167 12 → μ (x + 4) d = X 173 d ∧ μ (x + 5) d = xAbo X d ∧ μ (x + 6) d = X 175 d) ∧
  (∀ k, 0 ≤ k → k < X 167 13 → μ (x + 7) k = X 176 (2 * k) ∧ μ (x + 8) k = X 176 (2 * k + 1)) ∧
  (∀ k, 0 ≤ k → k < X 167 14 → μ (x + 9) k = X 177 (3 * k) ∧ μ (x + 10) k = X 177 (3 * k + 1) ∧ μ (x + 11) k = X 177 (3 * k + 2))
def rTr (x : Nat) (X μ : gM) : Prop := rTd x X μ ∧ ∀ d, 0 ≤ d → d < X 167 12 → μ (x + 12) d = X 179 d
def cBc4 (i : Int) : Int := iand32 (w32 (i + iushr32 i 4)) 252645135
section TREE
variable {x y : Nat} {X μ μ' : gM} {Q : Int → gM → Prop}
theorem rTd_tr (hI : gIX X) (h : rTd x X μ) (h0 : ∀ i, i = 0 ∨ i = 4 ∨ i = 8 ∨ i = 11 ∨ i = 15 ∨ i = 16 → μ' y i = μ x i) (h1 : ∀ k : Nat, 1 ≤ k → k ≤ 11 → ∀ i, 0 ≤ i → i < (if k ≤ 3 ∨ 9 ≤ k then 6 else 8) → μ' (y + k) i = μ (x + k) i) : rTd y X μ' := by
  obtain ⟨n1, n2, n3, n4, -⟩ := hI
  obtain ⟨⟨a1, a2, a3, a4, a5, a6⟩, g2, g3, g4, g5⟩ := h
  refine ⟨⟨by rw [h0 _ (by omega)]; exact a1, by rw [h0 _ (by omega)]; exact a2, by rw [h0 _ (by omega)]; exact a3, by rw [h0 _ (by omega)]; exact a4, by rw [h0 _ (by omega)]; exact a5, by rw [h0 _ (by omega)]; exact a6⟩, fun b b0 b1 => ?_, fun b b0 b1 => ?_, fun b b0 b1 => ?_, fun b b0 b1 => ?_⟩
  · rw [h1 1 (by omega) (by omega) b b0 (by simp; omega), h1 2 (by omega) (by omega) b b0 (by simp; omega), h1 3 (by omega) (by omega) b b0 (by simp; omega)]
    exact g2 b b0 b1
  · rw [h1 4 (by omega) (by omega) b b0 (by simp; omega), h1 5 (by omega) (by omega) b b0 (by simp; omega), h1 6 (by omega) (by omega) b b0 (by simp; omega)]
    exact g3 b b0 b1
  · rw [h1 7 (by omega) (by omega) b b0 (by simp; omega), h1 8 (by omega) (by omega) b b0 (by simp; omega)]
    exact g4 b b0 b1
  · rw [h1 9 (by omega) (by omega) b b0 (by simp; omega), h1 10 (by omega) (by omega) b b0 (by simp; omega), h1 11 (by omega) (by omega) b b0 (by simp; omega)]
    exact g5 b b0 b1
theorem rTr_fr {lo hi : Nat} (hI : gIX X) (h : rTr x X μ) (hf : gFr lo hi μ μ') (hd : x + 13 ≤ lo ∨ hi ≤ x) : rTr x X μ' :=
  ⟨rTd_tr hI h.1 (fun i _ => hf _ _ (by omega)) (fun k k0 k1 i _ _ => hf _ _ (by omega)), fun d d0 d1 => by rw [hf _ _ (by omega)]; exact h.2 d d0 d1⟩
theorem rTd_X {X' : gM} (h : rTd x X μ) (e : ∀ (k : Nat) (i : Int), (170 ≤ k ∧ k < 179) ∨ (k = 167 ∧ 11 ≤ i ∧ i ≤ 14) → X' k i = X k i) : rTd x X' μ := by
  have r4 : xAb X' = xAb X := funext (fun n => funext (fun b => funext (fun s => xAb_congr (fun i => e _ _ (by omega)) n b s)))
  have r5 : xAbo X' = xAbo X := by
    have r3 : X' 174 = X 174 := funext (fun i => e _ _ (by omega))
    funext d; unfold xAbo; rw [r3, r4]
  obtain ⟨⟨a1, a2, a3, a4, a5, a6⟩, g2, g3, g4, g5⟩ := h
  have t1 := e 167 11 (by omega)
  have t2 := e 167 12 (by omega)
  have t3 := e 167 13 (by omega)
  have t4 := e 167 14 (by omega)
  refine ⟨⟨by rw [t1]; exact a1, by rw [t2]; exact a2, by rw [t3]; exact a3, by rw [t4]; exact a4, by rw [e 178 0 (by omega)]; exact a5, by rw [e 178 1 (by omega)]; exact a6⟩, fun b b0 b1 => ?_, fun b b0 b1 => ?_, fun b b0 b1 => ?_, fun b b0 b1 => ?_⟩
  · rw [t1] at b1
    rw [e 170 b (by omega), e 172 b (by omega), r4]
    exact g2 b b0 b1
  · rw [t2] at b1
    rw [e 173 b (by omega), e 175 b (by omega), r5]
    exact g3 b b0 b1
  · rw [t3] at b1
    rw [e 176 _ (by omega), e 176 _ (by omega)]
    exact g4 b b0 b1
  · rw [t4] at b1
    rw [e 177 _ (by omega), e 177 _ (by omega), e 177 _ (by omega)]
    exact g5 b b0 b1
theorem rTr_X {X' : gM} (h : rTr x X μ) (e : ∀ (k : Nat) (i : Int), (170 ≤ k ∧ k < 180) ∨ (k = 167 ∧ 11 ≤ i ∧ i ≤ 14) → X' k i = X k i) : rTr x X' μ :=
  ⟨rTd_X h.1 (fun k i hk => e k i (by omega)), fun d d0 d1 => by rw [e 167 12 (by omega)] at d1; rw [e 179 d (by omega)]; exact h.2 d d0 d1⟩
theorem k_placeOf_loop {n k : Nat} {m l : Int} (hm : m ≤ n) (hn : n < 65536) : ∀ (j : Nat) (i : Int), 0 ≤ i → i + j = m →
    gE 57 2 [gA n k, gI m, gI l, gI i] [] μ Q = Q (findF (fun i => decide (μ k i = l)) i j) μ := by
  intro j
  induction j with
  | zero =>
    intro i i0 i1
    have c : m ≤ i := by omega
    rw [e57_2]
    simp (disch := first | assumption | omega) only [e57_0, e57_1, e57_3, e57_4, e57_7, e57_8, e57_9, e57_12, e57_13, e57_16, e57_17, e57_18, e57_21, e57_24, e57_25, gK0_eq, gK1_eq, gK3_eq, w32_id, bI_eq0, bI_eq1, Bool.false_eq_true, not_true_eq_false, not_false_eq_true, ne_eq, ite_not, ↓reduceIte, if_true, if_false, Int.reduceToNat, Nat.reduceAdd, Int.reduceEq, Int.reduceLT, Int.reduceLE, Int.reduceNeg, bI_T, bI_F, ↓if_pos, ↓if_neg, c, findF]
  | succ j ih =>
    intro i i0 i1
    have c : ¬ m ≤ i := by omega
    have c1 : i < (n : Int) := by omega
    rw [e57_2, findF]
    by_cases q : μ k i = l
    · simp (disch := first | assumption | omega) only [e57_0, e57_1, e57_3, e57_4, e57_7, e57_8, e57_9, e57_12, e57_13, e57_16, e57_17, e57_18, e57_21, e57_24, e57_25, gK0_eq, gK1_eq, gK3_eq, w32_id, bI_eq0, bI_eq1, Bool.false_eq_true, not_true_eq_false, not_false_eq_true, ne_eq, ite_not, ↓reduceIte, if_true, if_false, Int.reduceToNat, Nat.reduceAdd, Int.reduceEq, Int.reduceLT, Int.reduceLE, Int.reduceNeg, bI_T, bI_F, ↓if_pos, ↓if_neg, c, s_at, atv_in, q, decide_true]
    · simp (disch := first | assumption | omega) only [e57_0, e57_1, e57_3, e57_4, e57_7, e57_8, e57_9, e57_12, e57_13, e57_16, e57_17, e57_18, e57_21, e57_24, e57_25, gK0_eq, gK1_eq, gK3_eq, w32_id, bI_eq0, bI_eq1, Bool.false_eq_true, not_true_eq_false, not_false_eq_true, ne_eq, ite_not, ↓reduceIte, if_true, if_false, Int.reduceToNat, Nat.reduceAdd, Int.reduceEq, Int.reduceLT, Int.reduceLE, Int.reduceNeg, bI_T, bI_F, ↓if_pos, ↓if_neg, c, s_at, atv_in, q, decide_false]
      rw [ih _ (by omega) (by omega)]
theorem k_placeOf {n k : Nat} {m l : Int} (hm0 : 0 ≤ m) (hm : m ≤ n) (hn : n < 65536) : gE 57 0 [gA n k, gI m, gI l, gX] [] μ Q = Q (findF (fun i => decide (μ k i = l)) 0 m.toNat) μ := by
  simp (disch := first | assumption | omega) only [e57_0, e57_1, e57_3, e57_4, e57_7, e57_8, e57_9, e57_12, e57_13, e57_16, e57_17, e57_18, e57_21, e57_24, e57_25, gK0_eq, gK1_eq, gK3_eq, w32_id, bI_eq0, bI_eq1, Bool.false_eq_true, not_true_eq_false, not_false_eq_true, ne_eq, ite_not, ↓reduceIte, if_true, if_false, Int.reduceToNat, Nat.reduceAdd, Int.reduceEq, Int.reduceLT, Int.reduceLE, Int.reduceNeg, bI_T, bI_F]
  exact k_placeOf_loop hm hn m.toNat 0 (by omega) (by omega)
theorem k_bridgeNamed {l : Int} (hI : gIX X) (h : rTd x X μ) : gE 55 0 [gO 8 x, gI l] [] μ Q = Q (findF (fun i => decide (X 170 i = l)) 0 (X 167 11).toNat) μ := by
  obtain ⟨n1, n2, n3, n4, -⟩ := hI
  obtain ⟨⟨a1, -⟩, g2, -⟩ := h
  have n6 : X 167 11 ≤ ((6 : Nat) : Int) := n1.2
  simp (disch := first | assumption | omega) only [e55_0, e55_1, e55_4, e55_5, e55_8, e55_9, e55_12, gK0_eq, gK1_eq, gK3_eq, w32_id, bI_eq0, bI_eq1, Bool.false_eq_true, not_true_eq_false, not_false_eq_true, ne_eq, ite_not, ↓reduceIte, if_true, if_false, Int.reduceToNat, Nat.reduceAdd, Int.reduceEq, Int.reduceLT, Int.reduceLE, Int.reduceNeg, bI_T, bI_F, a1]
  rw [k_placeOf n1.1 n6 (by omega), findF_congr _ _ (fun i i0 i1 => by rw [(g2 i i0 (by omega)).1])]
  simp only [e55_0, e55_1, e55_4, e55_5, e55_8, e55_9, e55_12, gK0_eq, gK1_eq, gK3_eq]
theorem k_deviceNamed {l : Int} (hI : gIX X) (h : rTd x X μ) : gE 56 0 [gO 8 x, gI l] [] μ Q = Q (findF (fun i => decide (X 173 i = l)) 0 (X 167 12).toNat) μ := by
  obtain ⟨n1, n2, n3, n4, -⟩ := hI
  obtain ⟨⟨a1, a2, -⟩, g2, g3, -⟩ := h
  have n6 : X 167 12 ≤ ((8 : Nat) : Int) := n2.2
  simp (disch := first | assumption | omega) only [e56_0, e56_1, e56_4, e56_5, e56_8, e56_9, e56_12, gK0_eq, gK1_eq, gK3_eq, w32_id, bI_eq0, bI_eq1, Bool.false_eq_true, not_true_eq_false, not_false_eq_true, ne_eq, ite_not, ↓reduceIte, if_true, if_false, Int.reduceToNat, Nat.reduceAdd, Int.reduceEq, Int.reduceLT, Int.reduceLE, Int.reduceNeg, bI_T, bI_F, a2]
  rw [k_placeOf n2.1 n6 (by omega), findF_congr _ _ (fun i i0 i1 => by rw [(g3 i i0 (by omega)).1])]
  simp only [e56_0, e56_1, e56_4, e56_5, e56_8, e56_9, e56_12, gK0_eq, gK1_eq, gK3_eq]
theorem k_bitsUp {b : Int} (hI : gIX X) (h : rTd x X μ) (hb : -1 ≤ b ∧ b < X 167 11) : gE 52 0 [gO 8 x, gI b] [] μ Q = Q (xAb X 7 b 0) μ := by
  obtain ⟨n1, n2, n3, n4, -⟩ := hI
  by_cases c : b = -1
  · have e : xAb X 7 (-1) 0 = 0 := rfl
    simp (disch := first | assumption | omega) only [e52_0, e52_1, e52_2, e52_5, e52_6, e52_9, e52_10, e52_13, e52_14, e52_17, gK0_eq, gK1_eq, gK3_eq, w32_id, bI_eq0, bI_eq1, Bool.false_eq_true, not_true_eq_false, not_false_eq_true, ne_eq, ite_not, ↓reduceIte, if_true, if_false, Int.reduceToNat, Nat.reduceAdd, Int.reduceEq, Int.reduceLT, Int.reduceLE, Int.reduceNeg, bI_T, bI_F, ↓if_pos, ↓if_neg, c, e]
  · have q := (h.2.1 b (by omega) hb.2).2.2
    have b0 : 0 ≤ b := by omega
    have b6 : b < ((6 : Nat) : Int) := by omega
    simp (disch := first | assumption | omega) only [e52_0, e52_1, e52_2, e52_5, e52_6, e52_9, e52_10, e52_13, e52_14, e52_17, gK0_eq, gK1_eq, gK3_eq, w32_id, bI_eq0, bI_eq1, Bool.false_eq_true, not_true_eq_false, not_false_eq_true, ne_eq, ite_not, ↓reduceIte, if_true, if_false, Int.reduceToNat, Nat.reduceAdd, Int.reduceEq, Int.reduceLT, Int.reduceLE, Int.reduceNeg, bI_T, bI_F, ↓if_pos, ↓if_neg, c, s_at, atv_in, q]
theorem k_areOne {d e : Int} (hI : gIX X) (h : rTr x X μ) (hd : 0 ≤ d ∧ d < X 167 12) (he : 0 ≤ e ∧ e < X 167 12) : gE 62 0 [gO 8 x, gI d, gI e] [] μ Q = Q (bI (X 179 d = X 179 e)) μ := by
  have a := h.2 d hd.1 hd.2
  have b := h.2 e he.1 he.2
  have d0 := hd.1
  have e0 := he.1
  have n2 := hI.2.1
  have d1 : d < ((8 : Nat) : Int) := by omega
  have e1 : e < ((8 : Nat) : Int) := by omega
  by_cases c : X 179 d = X 179 e
  · simp (disch := first | assumption | omega) only [e62_0, e62_1, e62_4, e62_5, e62_8, e62_9, e62_12, e62_13, e62_16, e62_19, e62_20, e62_23, e62_24, gK0_eq, gK1_eq, gK3_eq, w32_id, bI_eq0, bI_eq1, Bool.false_eq_true, not_true_eq_false, not_false_eq_true, ne_eq, ite_not, ↓reduceIte, if_true, if_false, Int.reduceToNat, Nat.reduceAdd, Int.reduceEq, Int.reduceLT, Int.reduceLE, Int.reduceNeg, bI_T, bI_F, ↓if_pos, ↓if_neg, s_at, atv_in, a, b, c]
  · simp (disch := first | assumption | omega) only [e62_0, e62_1, e62_4, e62_5, e62_8, e62_9, e62_12, e62_13, e62_16, e62_19, e62_20, e62_23, e62_24, gK0_eq, gK1_eq, gK3_eq, w32_id, bI_eq0, bI_eq1, Bool.false_eq_true, not_true_eq_false, not_false_eq_true, ne_eq, ite_not, ↓reduceIte, if_true, if_false, Int.reduceToNat, Nat.reduceAdd, Int.reduceEq, Int.reduceLT, Int.reduceLE, Int.reduceNeg, bI_T, bI_F, ↓if_pos, ↓if_neg, s_at, atv_in, a, b, c]
theorem ior32_0 {s : Int} (h : in32 s) : ior32 s 0 = s := bt_ext in32_or h (fun k _ => by rw [bt_or, bt_zero, Bool.or_false])
theorem k_groupBits_loop {e : Int} (hI : gIX X) (h : rTr x X μ) (he : 0 ≤ e ∧ e < X 167 12) : ∀ (m : Nat) (k s : Int), 0 ≤ k → k + m = X 167 12 → in32 s →
    gE 61 4 [gO 8 x, gI e, gI s, gI k] [] μ Q = Q (itF (fun m s => ior32 s (if X 179 m = X 179 e then ishl32 1 m else 0)) k m s) μ := by
  obtain ⟨n1, n2, n3, n4, -⟩ := id hI
  have a2 := h.1.1.2.1
  intro m
  induction m with
  | zero =>
    intro k s k0 k1 hs
    have c : X 167 12 ≤ k := by omega
    rw [e61_4]
    simp (disch := first | assumption | omega) only [e61_0, e61_1, e61_2, e61_3, e61_5, e61_6, e61_9, e61_12, e61_13, e61_14, e61_15, e61_18, e61_21, e61_22, e61_23, e61_24, e61_25, e61_26, e61_27, e61_30, e61_33, e61_34, gK0_eq, gK1_eq, gK3_eq, w32_id, bI_eq0, bI_eq1, Bool.false_eq_true, not_true_eq_false, not_false_eq_true, ne_eq, ite_not, ↓reduceIte, if_true, if_false, Int.reduceToNat, Nat.reduceAdd, Int.reduceEq, Int.reduceLT, Int.reduceLE, Int.reduceNeg, bI_T, bI_F, ↓if_pos, ↓if_neg, a2, c, itF]
  | succ m ih =>
    intro k s k0 k1 hs
    have c : ¬ X 167 12 ≤ k := by omega
    have hk : 0 ≤ k ∧ k < X 167 12 := by omega
    rw [e61_4, itF]
    by_cases q : X 179 e = X 179 k
    · rw [if_pos q.symm]
      simp (disch := first | assumption | omega) only [e61_0, e61_1, e61_2, e61_3, e61_5, e61_6, e61_9, e61_12, e61_13, e61_14, e61_15, e61_18, e61_21, e61_22, e61_23, e61_24, e61_25, e61_26, e61_27, e61_30, e61_33, e61_34, gK0_eq, gK1_eq, gK3_eq, w32_id, bI_eq0, bI_eq1, Bool.false_eq_true, not_true_eq_false, not_false_eq_true, ne_eq, ite_not, ↓reduceIte, if_true, if_false, Int.reduceToNat, Nat.reduceAdd, Int.reduceEq, Int.reduceLT, Int.reduceLE, Int.reduceNeg, bI_T, bI_F, ↓if_pos, ↓if_neg, a2, c, k_areOne hI h he hk, q]
      rw [ih _ _ (by omega) (by omega) in32_or]
      simp only [q]
    · rw [if_neg (fun z => q z.symm), ior32_0 hs]
      simp (disch := first | assumption | omega) only [e61_0, e61_1, e61_2, e61_3, e61_5, e61_6, e61_9, e61_12, e61_13, e61_14, e61_15, e61_18, e61_21, e61_22, e61_23, e61_24, e61_25, e61_26, e61_27, e61_30, e61_33, e61_34, gK0_eq, gK1_eq, gK3_eq, w32_id, bI_eq0, bI_eq1, Bool.false_eq_true, not_true_eq_false, not_false_eq_true, ne_eq, ite_not, ↓reduceIte, if_true, if_false, Int.reduceToNat, Nat.reduceAdd, Int.reduceEq, Int.reduceLT, Int.reduceLE, Int.reduceNeg, bI_T, bI_F, ↓if_pos, ↓if_neg, a2, c, k_areOne hI h he hk, q]
      rw [ih _ _ (by omega) (by omega) hs]
theorem k_groupBits {e : Int} (hI : gIX X) (h : rTr x X μ) (he : 0 ≤ e ∧ e < X 167 12) : gE 61 0 [gO 8 x, gI e, gX, gX] [] μ Q = Q (xGb X e) μ := by
  have n2 := hI.2.1
  simp (disch := first | assumption | omega) only [e61_0, e61_1, e61_2, e61_3, e61_5, e61_6, e61_9, e61_12, e61_13, e61_14, e61_15, e61_18, e61_21, e61_22, e61_23, e61_24, e61_25, e61_26, e61_27, e61_30, e61_33, e61_34, gK0_eq, gK1_eq, gK3_eq, w32_id, bI_eq0, bI_eq1, Bool.false_eq_true, not_true_eq_false, not_false_eq_true, ne_eq, ite_not, ↓reduceIte, if_true, if_false, Int.reduceToNat, Nat.reduceAdd, Int.reduceEq, Int.reduceLT, Int.reduceLE, Int.reduceNeg, bI_T, bI_F]
  exact k_groupBits_loop hI h he (X 167 12).toNat 0 0 (by omega) (by omega) (by unfold in32; omega)
theorem k_groups_loop (hI : gIX X) (h : rTr x X μ) : ∀ (m : Nat) (k n : Int), 0 ≤ k → k + m = X 167 12 → 0 ≤ n → n ≤ k →
    gE 63 4 [gO 8 x, gI n, gI k] [] μ Q = Q (n + cntF (fun e => decide (X 179 e = e)) k m) μ := by
  obtain ⟨n1, n2, n3, n4, -⟩ := hI
  have a2 := h.1.1.2.1
  intro m
  induction m with
  | zero =>
    intro k n k0 k1 _ _
    have c : X 167 12 ≤ k := by omega
    rw [e63_4]
    simp (disch := first | assumption | omega) only [e63_0, e63_1, e63_2, e63_3, e63_5, e63_6, e63_9, e63_12, e63_13, e63_16, e63_17, e63_20, e63_21, e63_24, e63_27, e63_30, e63_33, e63_34, gK0_eq, gK1_eq, gK3_eq, w32_id, bI_eq0, bI_eq1, Bool.false_eq_true, not_true_eq_false, not_false_eq_true, ne_eq, ite_not, ↓reduceIte, if_true, if_false, Int.reduceToNat, Nat.reduceAdd, Int.reduceEq, Int.reduceLT, Int.reduceLE, Int.reduceNeg, bI_T, bI_F, ↓if_pos, ↓if_neg, a2, c, cntF, Int.add_zero]
  | succ m ih =>
    intro k n k0 k1 n0 n1
    have c : ¬ X 167 12 ≤ k := by omega
    have a := h.2 k k0 (by omega)
    have c1 : k < ((8 : Nat) : Int) := by omega
    rw [e63_4]
    by_cases q : X 179 k = k
    · simp (disch := first | assumption | omega) only [e63_0, e63_1, e63_2, e63_3, e63_5, e63_6, e63_9, e63_12, e63_13, e63_16, e63_17, e63_20, e63_21, e63_24, e63_27, e63_30, e63_33, e63_34, gK0_eq, gK1_eq, gK3_eq, w32_id, bI_eq0, bI_eq1, Bool.false_eq_true, not_true_eq_false, not_false_eq_true, ne_eq, ite_not, ↓reduceIte, if_true, if_false, Int.reduceToNat, Nat.reduceAdd, Int.reduceEq, Int.reduceLT, Int.reduceLE, Int.reduceNeg, bI_T, bI_F, ↓if_pos, ↓if_neg, a2, c, s_at, atv_in, a, q]
      rw [ih _ _ (by omega) (by omega) (by omega) (by omega), cntF_t (by simp [q]), Int.add_assoc]
    · simp (disch := first | assumption | omega) only [e63_0, e63_1, e63_2, e63_3, e63_5, e63_6, e63_9, e63_12, e63_13, e63_16, e63_17, e63_20, e63_21, e63_24, e63_27, e63_30, e63_33, e63_34, gK0_eq, gK1_eq, gK3_eq, w32_id, bI_eq0, bI_eq1, Bool.false_eq_true, not_true_eq_false, not_false_eq_true, ne_eq, ite_not, ↓reduceIte, if_true, if_false, Int.reduceToNat, Nat.reduceAdd, Int.reduceEq, Int.reduceLT, Int.reduceLE, Int.reduceNeg, bI_T, bI_F, ↓if_pos, ↓if_neg, a2, c, s_at, atv_in, a, q]
      rw [ih _ _ (by omega) (by omega) (by omega) (by omega), cntF_f (by simp [q])]
theorem k_groups (hI : gIX X) (h : rTr x X μ) : gE 63 0 [gO 8 x, gX, gX] [] μ Q = Q (xGrN X) μ := by
  have n2 := hI.2.1
  simp (disch := first | assumption | omega) only [e63_0, e63_1, e63_2, e63_3, e63_5, e63_6, e63_9, e63_12, e63_13, e63_16, e63_17, e63_20, e63_21, e63_24, e63_27, e63_30, e63_33, e63_34, gK0_eq, gK1_eq, gK3_eq, w32_id, bI_eq0, bI_eq1, Bool.false_eq_true, not_true_eq_false, not_false_eq_true, ne_eq, ite_not, ↓reduceIte, if_true, if_false, Int.reduceToNat, Nat.reduceAdd, Int.reduceEq, Int.reduceLT, Int.reduceLE, Int.reduceNeg, bI_T, bI_F]
  rw [k_groups_loop hI h (X 167 12).toNat 0 0 (by omega) (by omega) (by omega) (by omega), Int.zero_add]
  rfl
theorem xAb_or : ∀ (n : Nat) (b s : Int) (k : Nat), bt (xAb X n b s) k = (bt s k || bt (xAb X n b 0) k) := by
  intro n
  induction n with
  | zero => intro b s k; rw [xAb, xAb, bt_zero, Bool.or_false]
  | succ n ih =>
    intro b s k
    rw [xAb, xAb]
    by_cases c : b < 0
    · rw [if_pos c, if_pos c, bt_zero, Bool.or_false]
    · rw [if_neg c, if_neg c, ih (X 171 b), ih (X 171 b) (ior32 0 (ishl32 1 b)), bt_or, bt_or, bt_zero, Bool.false_or, Bool.or_assoc]
theorem xAb_bit (hI : gIX X) {n : Nat} {b : Int} {k : Nat} (hk : k < 32) (hb : 0 ≤ b ∧ b < X 167 11) : bt (xAb X (n + 1) b 0) k = (decide ((k : Int) = b) || bt (xAb X n (X 171 b) 0) k) := by
  have n1 := hI.1
  rw [xAb, if_neg (by omega), xAb_or, bt_or, bt_zero, Bool.false_or, bt_shl (by omega) hk]
theorem xAb_le (hI : gIX X) : ∀ (n : Nat) (b : Int) (k : Nat), -1 ≤ b → b < X 167 11 → k < 32 → bt (xAb X n b 0) k = true → (k : Int) ≤ b := by
  have n1 := hI.1
  intro n
  induction n with
  | zero => intro b k _ _ _ h; rw [xAb, bt_zero] at h; exact Bool.noConfusion h
  | succ n ih =>
    intro b k b0 b1 hk h
    by_cases c : b < 0
    · rw [xAb, if_pos c, bt_zero] at h; exact Bool.noConfusion h
    · rw [xAb_bit hI hk ⟨by omega, b1⟩, Bool.or_eq_true, decide_eq_true_eq] at h
      obtain ⟨g1, g2, -⟩ := hI.2.2.2.2.1 b (by omega) b1
      rcases h with h | h
      · omega
      · have := ih (X 171 b) k g1 (by omega) hk h
        omega
theorem findF_is {P : Int → Bool} {r : Int} : ∀ (n : Nat) (k : Int), k ≤ r → r < k + n → P r = true → (∀ i, k ≤ i → i < r → P i = false) → findF P k n = r := by
  intro n
  induction n with
  | zero => intro k _ _; omega
  | succ n ih =>
    intro k h0 h1 hP h
    rw [findF]
    by_cases c : k = r
    · rw [c, hP, if_pos rfl]
    · rw [h k (by omega) (by omega), if_neg Bool.noConfusion]
      exact ih (k + 1) (by omega) (by omega) hP (fun i i0 i1 => h i (by omega) i1)
theorem findF_no {P : Int → Bool} : ∀ (n : Nat) (k : Int), (∀ i, k ≤ i → i < k + n → P i = false) → findF P k n = -1 := by
  intro n
  induction n with
  | zero => intro k _; rfl
  | succ n ih =>
    intro k h
    rw [findF, h k (by omega) (by omega), if_neg Bool.noConfusion]
    exact ih (k + 1) (fun i i0 i1 => h i (by omega) (by omega))
theorem xSg_find (hI : gIX X) : ∀ (n : Nat) (b s : Int), -1 ≤ b → b < X 167 11 → xSg X n b s = if 0 ≤ findF (fun c => bt (xAb X n b 0) c.toNat && decide (X 172 c = 2)) 0 (X 167 11).toNat then 8 + findF (fun c => bt (xAb X n b 0) c.toNat && decide (X 172 c = 2)) 0 (X 167 11).toNat else s := by
  have n1 := hI.1
  intro n
  induction n with
  | zero =>
    intro b s b0 b1
    rw [findF_no _ _ (fun i i0 i1 => by rw [xAb, bt_zero, Bool.false_and]), if_neg (by omega), xSg]
  | succ n ih =>
    intro b s b0 b1
    rw [xSg]
    by_cases c : b < 0
    · rw [if_pos c, findF_no _ _ (fun i i0 i1 => by rw [xAb, if_pos c, bt_zero, Bool.false_and]), if_neg (by omega)]
    · rw [if_neg c]
      obtain ⟨g1, g2, -⟩ := hI.2.2.2.2.1 b (by omega) b1
      rw [ih (X 171 b) _ g1 (by omega)]
      have hb : 0 ≤ b ∧ b < X 167 11 := ⟨by omega, b1⟩
      have bit : ∀ i, 0 ≤ i → i < X 167 11 → (bt (xAb X (n + 1) b 0) i.toNat && decide (X 172 i = 2)) = ((decide (i = b) || bt (xAb X n (X 171 b) 0) i.toNat) && decide (X 172 i = 2)) := fun i i0 i1 => by
        rw [xAb_bit hI (by omega) hb, show ((i.toNat : Nat) : Int) = i by omega]
      rcases findF_in (P := fun c => bt (xAb X n (X 171 b) 0) c.toNat && decide (X 172 c = 2)) (X 167 11).toNat 0 (by omega) with ⟨h1, h2⟩ | ⟨h1, h2, h3, h4⟩
      · rw [h1, if_neg (by omega)]
        by_cases q : X 172 b = 2
        · rw [if_pos q, findF_is (r := b) _ _ hb.1 (by omega) (by rw [bit b hb.1 hb.2, decide_eq_true rfl, decide_eq_true q]; rfl) (fun i i0 i1 => by
            rw [bit i i0 (by omega), decide_eq_false (show ¬ i = b by omega), Bool.false_or]
            exact h2 i i0 (by omega)), if_pos hb.1]
        · rw [if_neg q, findF_no _ _ (fun i i0 i1 => by
            rw [bit i i0 (by omega)]
            by_cases z : i = b
            · rw [z, decide_eq_false q, Bool.and_false]
            · rw [decide_eq_false z, Bool.false_or]
              exact h2 i i0 (by omega)), if_neg (by omega)]
      · generalize hr : findF (fun c => bt (xAb X n (X 171 b) 0) c.toNat && decide (X 172 c = 2)) 0 (X 167 11).toNat = r at *
        have h3' := h3
        rw [Bool.and_eq_true] at h3'
        have rb := xAb_le hI n (X 171 b) r.toNat g1 (by omega) (by omega) h3'.1
        rw [if_pos h1, findF_is (r := r) _ _ h1 h2 (by rw [bit r h1 (by omega), h3'.1, h3'.2, Bool.or_true]; rfl) (fun i i0 i1 => by
          rw [bit i i0 (by omega), decide_eq_false (show ¬ i = b by omega), Bool.false_or]
          exact h4 i i0 i1), if_pos h1]
theorem k_signOf_loop {e bits : Int} (hI : gIX X) (h : rTd x X μ) : ∀ (m : Nat) (b : Int), 0 ≤ b → b + m = X 167 11 →
    gE 64 11 [gO 8 x, gI e, gI bits, gI b] [] μ Q = Q (if 0 ≤ findF (fun c => bt bits c.toNat && decide (X 172 c = 2)) b m then 8 + findF (fun c => bt bits c.toNat && decide (X 172 c = 2)) b m else e) μ := by
  have n1 := hI.1
  have a1 := h.1.1
  intro m
  induction m with
  | zero =>
    intro b b0 b1
    have c : X 167 11 ≤ b := by omega
    rw [e64_11, findF, if_neg (by omega)]
    simp (disch := first | assumption | omega) only [e64_0, e64_1, e64_4, e64_5, e64_8, e64_9, e64_10, e64_12, e64_13, e64_16, e64_19, e64_20, e64_21, e64_22, e64_23, e64_24, e64_27, e64_28, e64_31, e64_32, e64_35, e64_36, e64_39, e64_41, e64_42, e64_43, e64_44, e64_47, e64_50, e64_51, gK0_eq, gK1_eq, gK3_eq, w32_id, bI_eq0, bI_eq1, Bool.false_eq_true, not_true_eq_false, not_false_eq_true, ne_eq, ite_not, ↓reduceIte, if_true, if_false, Int.reduceToNat, Nat.reduceAdd, Int.reduceEq, Int.reduceLT, Int.reduceLE, Int.reduceNeg, bI_T, bI_F, ↓if_pos, ↓if_neg, a1, c]
  | succ m ih =>
    intro b b0 b1
    have c : ¬ X 167 11 ≤ b := by omega
    have a := (h.2.1 b b0 (by omega)).2.1
    have c1 : b < ((6 : Nat) : Int) := by omega
    have t := bt_test (a := bits) (s := b) (by omega)
    rw [e64_11, findF]
    cases q : bt bits b.toNat with
    | false =>
      rw [q, if_neg Bool.noConfusion] at t
      rw [Bool.false_and, if_neg (c := false = true) Bool.noConfusion]
      simp (disch := first | assumption | omega) only [e64_0, e64_1, e64_4, e64_5, e64_8, e64_9, e64_10, e64_12, e64_13, e64_16, e64_19, e64_20, e64_21, e64_22, e64_23, e64_24, e64_27, e64_28, e64_31, e64_32, e64_35, e64_36, e64_39, e64_41, e64_42, e64_43, e64_44, e64_47, e64_50, e64_51, gK0_eq, gK1_eq, gK3_eq, w32_id, bI_eq0, bI_eq1, Bool.false_eq_true, not_true_eq_false, not_false_eq_true, ne_eq, ite_not, ↓reduceIte, if_true, if_false, Int.reduceToNat, Nat.reduceAdd, Int.reduceEq, Int.reduceLT, Int.reduceLE, Int.reduceNeg, bI_T, bI_F, ↓if_pos, ↓if_neg, a1, c, t]
      exact ih _ (by omega) (by omega)
    | true =>
      rw [q, if_pos rfl] at t
      by_cases z : X 172 b = 2
      · rw [decide_eq_true z, Bool.and_self, if_pos rfl, if_pos b0]
        simp (disch := first | assumption | omega) only [e64_0, e64_1, e64_4, e64_5, e64_8, e64_9, e64_10, e64_12, e64_13, e64_16, e64_19, e64_20, e64_21, e64_22, e64_23, e64_24, e64_27, e64_28, e64_31, e64_32, e64_35, e64_36, e64_39, e64_41, e64_42, e64_43, e64_44, e64_47, e64_50, e64_51, gK0_eq, gK1_eq, gK3_eq, w32_id, bI_eq0, bI_eq1, Bool.false_eq_true, not_true_eq_false, not_false_eq_true, ne_eq, ite_not, ↓reduceIte, if_true, if_false, Int.reduceToNat, Nat.reduceAdd, Int.reduceEq, Int.reduceLT, Int.reduceLE, Int.reduceNeg, bI_T, bI_F, ↓if_pos, ↓if_neg, a1, c, t, s_at, atv_in, a, z]
      · rw [decide_eq_false z, Bool.and_false, if_neg (c := false = true) Bool.noConfusion]
        simp (disch := first | assumption | omega) only [e64_0, e64_1, e64_4, e64_5, e64_8, e64_9, e64_10, e64_12, e64_13, e64_16, e64_19, e64_20, e64_21, e64_22, e64_23, e64_24, e64_27, e64_28, e64_31, e64_32, e64_35, e64_36, e64_39, e64_41, e64_42, e64_43, e64_44, e64_47, e64_50, e64_51, gK0_eq, gK1_eq, gK3_eq, w32_id, bI_eq0, bI_eq1, Bool.false_eq_true, not_true_eq_false, not_false_eq_true, ne_eq, ite_not, ↓reduceIte, if_true, if_false, Int.reduceToNat, Nat.reduceAdd, Int.reduceEq, Int.reduceLT, Int.reduceLE, Int.reduceNeg, bI_T, bI_F, ↓if_pos, ↓if_neg, a1, c, t, s_at, atv_in, a, z]
        exact ih _ (by omega) (by omega)
theorem k_signOf {d : Int} (hI : gIX X) (h : rTd x X μ) (hd : 0 ≤ d ∧ d < X 167 12) : gE 64 0 [gO 8 x, gI d, gX, gX] [] μ Q = Q (xSign X d) μ := by
  have n1 := hI.1
  have n2 := hI.2.1
  have a := (h.2.2.1 d hd.1 hd.2).2.1
  have c0 := hd.1
  have c1 : d < ((8 : Nat) : Int) := by omega
  obtain ⟨g1, g2, -⟩ := hI.2.2.2.2.2.1 d hd.1 hd.2
  unfold xSign
  rw [xSg_find hI 7 _ d g1 g2]
  simp (disch := first | assumption | omega) only [e64_0, e64_1, e64_4, e64_5, e64_8, e64_9, e64_10, e64_12, e64_13, e64_16, e64_19, e64_20, e64_21, e64_22, e64_23, e64_24, e64_27, e64_28, e64_31, e64_32, e64_35, e64_36, e64_39, e64_41, e64_42, e64_43, e64_44, e64_47, e64_50, e64_51, gK0_eq, gK1_eq, gK3_eq, w32_id, bI_eq0, bI_eq1, Bool.false_eq_true, not_true_eq_false, not_false_eq_true, ne_eq, ite_not, ↓reduceIte, if_true, if_false, Int.reduceToNat, Nat.reduceAdd, Int.reduceEq, Int.reduceLT, Int.reduceLE, Int.reduceNeg, bI_T, bI_F, s_at, atv_in, a]
  exact k_signOf_loop hI h (X 167 11).toNat 0 (by omega) (by omega)
theorem k_inSpan {k p : Int} (hI : gIX X) (h : rTd x X μ) (hk : 0 ≤ k ∧ k < X 167 14) : gE 66 0 [gO 8 x, gI k, gI p] [] μ Q = Q (bI (X 177 (3 * k + 1) ≤ p ∧ p ≤ X 177 (3 * k + 2))) μ := by
  have n4 := hI.2.2.2.1
  obtain ⟨b1, b2, b3⟩ := h.2.2.2.2 k hk.1 hk.2
  have c0 := hk.1
  have c1 : k < ((6 : Nat) : Int) := by omega
  by_cases q : X 177 (3 * k + 1) ≤ p
  · have q' : ¬ p < X 177 (3 * k + 1) := by omega
    by_cases z : p ≤ X 177 (3 * k + 2)
    · have z' : ¬ X 177 (3 * k + 2) < p := by omega
      rw [bI_t ⟨q, z⟩]
      simp (disch := first | assumption | omega) only [e66_0, e66_1, e66_2, e66_5, e66_6, e66_9, e66_12, e66_13, e66_14, e66_17, e66_18, e66_21, e66_24, e66_25, e66_28, e66_29, gK0_eq, gK1_eq, gK3_eq, w32_id, bI_eq0, bI_eq1, Bool.false_eq_true, not_true_eq_false, not_false_eq_true, ne_eq, ite_not, ↓reduceIte, if_true, if_false, Int.reduceToNat, Nat.reduceAdd, Int.reduceEq, Int.reduceLT, Int.reduceLE, Int.reduceNeg, bI_T, bI_F, ↓if_pos, ↓if_neg, s_at, atv_in, b2, b3, q', z']
    · have z' : X 177 (3 * k + 2) < p := by omega
      rw [bI_f (fun w => z w.2)]
      simp (disch := first | assumption | omega) only [e66_0, e66_1, e66_2, e66_5, e66_6, e66_9, e66_12, e66_13, e66_14, e66_17, e66_18, e66_21, e66_24, e66_25, e66_28, e66_29, gK0_eq, gK1_eq, gK3_eq, w32_id, bI_eq0, bI_eq1, Bool.false_eq_true, not_true_eq_false, not_false_eq_true, ne_eq, ite_not, ↓reduceIte, if_true, if_false, Int.reduceToNat, Nat.reduceAdd, Int.reduceEq, Int.reduceLT, Int.reduceLE, Int.reduceNeg, bI_T, bI_F, ↓if_pos, ↓if_neg, s_at, atv_in, b2, b3, q', z']
  · have q' : p < X 177 (3 * k + 1) := by omega
    rw [bI_f (fun w => q w.1)]
    simp (disch := first | assumption | omega) only [e66_0, e66_1, e66_2, e66_5, e66_6, e66_9, e66_12, e66_13, e66_14, e66_17, e66_18, e66_21, e66_24, e66_25, e66_28, e66_29, gK0_eq, gK1_eq, gK3_eq, w32_id, bI_eq0, bI_eq1, Bool.false_eq_true, not_true_eq_false, not_false_eq_true, ne_eq, ite_not, ↓reduceIte, if_true, if_false, Int.reduceToNat, Nat.reduceAdd, Int.reduceEq, Int.reduceLT, Int.reduceLE, Int.reduceNeg, bI_T, bI_F, ↓if_pos, ↓if_neg, s_at, atv_in, b2, q']
theorem k_spansPage_loop {e p : Int} (hI : gIX X) (h : rTr x X μ) (he : 0 ≤ e ∧ e < X 167 12) : ∀ (m : Nat) (k : Int), 0 ≤ k → k + m = X 167 14 →
    gE 67 2 [gO 8 x, gI e, gI p, gI k] [] μ Q = Q (bI (anyF (fun k => decide (X 179 (X 177 (3 * k)) = X 179 e) && (decide (X 177 (3 * k + 1) ≤ p) && decide (p ≤ X 177 (3 * k + 2)))) k m = true)) μ := by
  have n2 := hI.2.1
  have n4 := hI.2.2.2.1
  have a4 := h.1.1.2.2.2.1
  intro m
  induction m with
  | zero =>
    intro k k0 k1
    have c : X 167 14 ≤ k := by omega
    rw [e67_2, bI_f (by rw [anyF]; exact Bool.noConfusion)]
    simp (disch := first | assumption | omega) only [e67_0, e67_1, e67_3, e67_4, e67_7, e67_10, e67_11, e67_12, e67_13, e67_16, e67_17, e67_20, e67_23, e67_26, e67_27, e67_28, e67_29, e67_32, e67_35, e67_36, e67_37, e67_40, e67_43, e67_44, gK0_eq, gK1_eq, gK3_eq, w32_id, bI_eq0, bI_eq1, Bool.false_eq_true, not_true_eq_false, not_false_eq_true, ne_eq, ite_not, ↓reduceIte, if_true, if_false, Int.reduceToNat, Nat.reduceAdd, Int.reduceEq, Int.reduceLT, Int.reduceLE, Int.reduceNeg, bI_T, bI_F, ↓if_pos, ↓if_neg, a4, c]
  | succ m ih =>
    intro k k0 k1
    have c : ¬ X 167 14 ≤ k := by omega
    have hk : 0 ≤ k ∧ k < X 167 14 := by omega
    obtain ⟨b1, b2, b3⟩ := h.1.2.2.2.2 k k0 hk.2
    obtain ⟨s1, s2, -⟩ := hI.2.2.2.2.2.2.2.2.1 k k0 hk.2
    have hs : 0 ≤ X 177 (3 * k) ∧ X 177 (3 * k) < X 167 12 := ⟨s1, s2⟩
    have c1 : k < ((6 : Nat) : Int) := by omega
    rw [e67_2, anyF]
    by_cases q : X 179 e = X 179 (X 177 (3 * k))
    · by_cases z : X 177 (3 * k + 1) ≤ p ∧ p ≤ X 177 (3 * k + 2)
      · have f : (decide (X 179 (X 177 (3 * k)) = X 179 e) && (decide (X 177 (3 * k + 1) ≤ p) && decide (p ≤ X 177 (3 * k + 2)))) = true := by
          rw [decide_eq_true q.symm, decide_eq_true z.1, decide_eq_true z.2]; rfl
        rw [f, Bool.true_or, bI_t rfl]
        simp (disch := first | assumption | omega) only [e67_0, e67_1, e67_3, e67_4, e67_7, e67_10, e67_11, e67_12, e67_13, e67_16, e67_17, e67_20, e67_23, e67_26, e67_27, e67_28, e67_29, e67_32, e67_35, e67_36, e67_37, e67_40, e67_43, e67_44, gK0_eq, gK1_eq, gK3_eq, w32_id, bI_eq0, bI_eq1, Bool.false_eq_true, not_true_eq_false, not_false_eq_true, ne_eq, ite_not, ↓reduceIte, if_true, if_false, Int.reduceToNat, Nat.reduceAdd, Int.reduceEq, Int.reduceLT, Int.reduceLE, Int.reduceNeg, bI_T, bI_F, ↓if_pos, ↓if_neg, a4, c, s_at, atv_in, b1, k_areOne hI h he hs, bI_t q, k_inSpan hI h.1 hk, bI_t z]
      · have f : (decide (X 179 (X 177 (3 * k)) = X 179 e) && (decide (X 177 (3 * k + 1) ≤ p) && decide (p ≤ X 177 (3 * k + 2)))) = false := by
          by_cases z1 : X 177 (3 * k + 1) ≤ p
          · rw [decide_eq_false (show ¬ p ≤ X 177 (3 * k + 2) from fun w => z ⟨z1, w⟩), Bool.and_false, Bool.and_false]
          · rw [decide_eq_false z1, Bool.false_and, Bool.and_false]
        rw [f, Bool.false_or]
        simp (disch := first | assumption | omega) only [e67_0, e67_1, e67_3, e67_4, e67_7, e67_10, e67_11, e67_12, e67_13, e67_16, e67_17, e67_20, e67_23, e67_26, e67_27, e67_28, e67_29, e67_32, e67_35, e67_36, e67_37, e67_40, e67_43, e67_44, gK0_eq, gK1_eq, gK3_eq, w32_id, bI_eq0, bI_eq1, Bool.false_eq_true, not_true_eq_false, not_false_eq_true, ne_eq, ite_not, ↓reduceIte, if_true, if_false, Int.reduceToNat, Nat.reduceAdd, Int.reduceEq, Int.reduceLT, Int.reduceLE, Int.reduceNeg, bI_T, bI_F, ↓if_pos, ↓if_neg, a4, c, s_at, atv_in, b1, k_areOne hI h he hs, bI_t q, k_inSpan hI h.1 hk, bI_f z]
        exact ih _ (by omega) (by omega)
    · rw [decide_eq_false (fun z => q z.symm), Bool.false_and, Bool.false_or]
      simp (disch := first | assumption | omega) only [e67_0, e67_1, e67_3, e67_4, e67_7, e67_10, e67_11, e67_12, e67_13, e67_16, e67_17, e67_20, e67_23, e67_26, e67_27, e67_28, e67_29, e67_32, e67_35, e67_36, e67_37, e67_40, e67_43, e67_44, gK0_eq, gK1_eq, gK3_eq, w32_id, bI_eq0, bI_eq1, Bool.false_eq_true, not_true_eq_false, not_false_eq_true, ne_eq, ite_not, ↓reduceIte, if_true, if_false, Int.reduceToNat, Nat.reduceAdd, Int.reduceEq, Int.reduceLT, Int.reduceLE, Int.reduceNeg, bI_T, bI_F, ↓if_pos, ↓if_neg, a4, c, s_at, atv_in, b1, k_areOne hI h he hs, bI_f q]
      exact ih _ (by omega) (by omega)
theorem k_spansPage {e p : Int} (hI : gIX X) (h : rTr x X μ) (he : 0 ≤ e ∧ e < X 167 12) : gE 67 0 [gO 8 x, gI e, gI p, gX] [] μ Q = Q (bI (xGp X e p = true)) μ := by
  have n4 := hI.2.2.2.1
  simp (disch := first | assumption | omega) only [e67_0, e67_1, e67_3, e67_4, e67_7, e67_10, e67_11, e67_12, e67_13, e67_16, e67_17, e67_20, e67_23, e67_26, e67_27, e67_28, e67_29, e67_32, e67_35, e67_36, e67_37, e67_40, e67_43, e67_44, gK0_eq, gK1_eq, gK3_eq, w32_id, bI_eq0, bI_eq1, Bool.false_eq_true, not_true_eq_false, not_false_eq_true, ne_eq, ite_not, ↓reduceIte, if_true, if_false, Int.reduceToNat, Nat.reduceAdd, Int.reduceEq, Int.reduceLT, Int.reduceLE, Int.reduceNeg, bI_T, bI_F]
  exact k_spansPage_loop hI h he (X 167 14).toNat 0 (by omega) (by omega)
end TREE
