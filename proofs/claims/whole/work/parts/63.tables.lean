/-! the class: its tables, looked at -/
def rTi (x : Nat) (T : Int → Int) (μ : gM) (i : Int) : Prop := μ (x + 3) i = T i ∧ (-1 ≤ T i ∧ T i < 64) ∧ μ (x + 5) i = T (512 + i) ∧ (T (512 + i) = 0 ∨ T (512 + i) = 1) ∧ μ (x + 6) (i / 4) = T (768 + i) ∧ (T (768 + i) = 0 ∨ T (768 + i) = 1) ∧
  (T i < 0 → μ (x + 4) i = 0 ∧ T (512 + i) = 0 ∧ T (768 + i) = 0) ∧ (0 ≤ T i → μ (x + 4) i = T (256 + i) ∧ (1 ≤ T (256 + i) ∧ T (256 + i) ≤ 3) ∧ i < 64 * T 1672)
def rTb (x : Nat) (T : Int → Int) (μ : gM) : Prop := (0 ≤ T 1672 ∧ T 1672 ≤ 4) ∧ μ x 0 = T 1672 ∧
  (∀ d, 0 ≤ d → d < 4 → (0 ≤ T (1668 + d) ∧ T (1668 + d) ≤ 4) ∧ (d < T 1672 → μ (x + 1) d = T (1664 + d) ∧ μ (x + 2) d = T (1668 + d) ∧ (T (1664 + d) = 0 ∨ T (1664 + d) = 1)) ∧ (T 1672 ≤ d → T (1668 + d) = 0)) ∧
  ∀ i, 0 ≤ i → i < 256 → rTi x T μ i
def tRg (T : Int → Int) (d p : Int) : Int := if T (64 * d + p) < 0 then 0 else T (256 + (64 * d + p))
section TABLES
variable {x y : Nat} {T T' : Int → Int} {μ μ' : gM} {Q : Int → gM → Prop}
theorem rTb_tr (h : rTb x T μ) (h0 : μ' y 0 = μ x 0) (h1 : ∀ d, 0 ≤ d → d < 4 → μ' (y + 1) d = μ (x + 1) d ∧ μ' (y + 2) d = μ (x + 2) d) (hr : ∀ i, 0 ≤ i → i < 256 → μ' (y + 3) i = μ (x + 3) i ∧ μ' (y + 4) i = μ (x + 4) i ∧ μ' (y + 5) i = μ (x + 5) i) (h6 : ∀ i, 0 ≤ i → i < 64 → μ' (y + 6) i = μ (x + 6) i) (hT : ∀ j, (0 ≤ j ∧ j < 1024) ∨ (1664 ≤ j ∧ j ≤ 1672) → T' j = T j) : rTb y T' μ' := by
  obtain ⟨g1, g2, g3, g4⟩ := h
  have t1 := hT 1672 (by omega)
  refine ⟨by rw [t1]; exact g1, by rw [h0, t1]; exact g2, fun d d0 d1 => ?_, fun i i0 i1 => ?_⟩
  · rw [t1, hT _ (by omega), hT _ (by omega), (h1 d d0 d1).1, (h1 d d0 d1).2]
    exact g3 d d0 d1
  · obtain ⟨a3, a4, a5⟩ := hr i i0 i1
    have a6 := h6 (i / 4) (by omega) (by omega)
    unfold rTi
    rw [a3, a4, a5, a6, hT i (by omega), hT (256 + i) (by omega), hT (512 + i) (by omega), hT (768 + i) (by omega), t1]
    exact g4 i i0 i1
theorem rTb_fr {lo hi : Nat} (h : rTb x T μ) (hf : gFr lo hi μ μ') (hd : x + 7 ≤ lo ∨ hi ≤ x) (hT : ∀ j, (0 ≤ j ∧ j < 1024) ∨ (1664 ≤ j ∧ j ≤ 1672) → T' j = T j) : rTb x T' μ' :=
  rTb_tr h (hf _ _ (by omega)) (fun i _ _ => ⟨hf _ _ (by omega), hf _ _ (by omega)⟩) (fun i _ _ => ⟨hf _ _ (by omega), hf _ _ (by omega), hf _ _ (by omega)⟩) (fun i _ _ => hf _ _ (by omega)) hT
theorem k_slot {d p : Int} {μ : gM} (hd : 0 ≤ d ∧ d < 4) (hp : 0 ≤ p ∧ p < 64) : gE 95 0 [gI d, gI p] [] μ Q = Q (64 * d + p) μ := by
  have e : d * 64 + p = 64 * d + p := by omega
  simp (disch := first | assumption | omega) only [e95_0, e95_1, e95_3, e95_4, e95_5, e95_6, gK0_eq, gK1_eq, gK3_eq, w32_id, bI_eq0, bI_eq1, Bool.false_eq_true, not_true_eq_false, not_false_eq_true, ne_eq, ite_not, ↓reduceIte, if_true, if_false, Int.reduceToNat, Nat.reduceAdd, Int.reduceEq, Int.reduceLT, Int.reduceLE, Int.reduceNeg, bI_T, bI_F, e]
theorem k_blockSlot {d p : Int} {μ : gM} (hd : 0 ≤ d ∧ d < 4) (hp : 0 ≤ p ∧ p < 64) : gE 96 0 [gI d, gI p] [] μ Q = Q ((64 * d + p) / 4) μ := by
  have e : d * 16 + p / 4 = (64 * d + p) / 4 := by omega
  simp (disch := first | assumption | omega) only [e96_0, e96_1, e96_3, e96_4, e96_5, e96_6, e96_7, e96_8, gK0_eq, gK1_eq, gK3_eq, w32_id, bI_eq0, bI_eq1, Bool.false_eq_true, not_true_eq_false, not_false_eq_true, ne_eq, ite_not, ↓reduceIte, if_true, if_false, Int.reduceToNat, Nat.reduceAdd, Int.reduceEq, Int.reduceLT, Int.reduceLE, Int.reduceNeg, bI_T, bI_F, idiv32_id, e]
theorem k_frameOf {d p : Int} (h : rTb x T μ) (hd : 0 ≤ d ∧ d < 4) (hp : 0 ≤ p ∧ p < 64) : gE 97 0 [gO 7 x, gI d, gI p] [] μ Q = Q (T (64 * d + p)) μ := by
  have b := (h.2.2.2 (64 * d + p) (by omega) (by omega)).1
  have c0 : 0 ≤ 64 * d + p := by omega
  have c1 : 64 * d + p < ((256 : Nat) : Int) := by omega
  simp (disch := first | assumption | omega) only [e97_0, e97_1, e97_4, e97_5, e97_6, e97_9, e97_12, gK0_eq, gK1_eq, gK3_eq, w32_id, bI_eq0, bI_eq1, Bool.false_eq_true, not_true_eq_false, not_false_eq_true, ne_eq, ite_not, ↓reduceIte, if_true, if_false, Int.reduceToNat, Nat.reduceAdd, Int.reduceEq, Int.reduceLT, Int.reduceLE, Int.reduceNeg, bI_T, bI_F, k_slot hd hp, s_at, atv_in, b]
theorem k_rightsOf {d p : Int} (h : rTb x T μ) (hd : 0 ≤ d ∧ d < 4) (hp : 0 ≤ p ∧ p < 64) : gE 98 0 [gO 7 x, gI d, gI p] [] μ Q = Q (tRg T d p) μ := by
  obtain ⟨-, -, -, -, -, -, b1, b2⟩ := h.2.2.2 (64 * d + p) (by omega) (by omega)
  have c0 : 0 ≤ 64 * d + p := by omega
  have c1 : 64 * d + p < ((256 : Nat) : Int) := by omega
  have b : μ (x + 4) (64 * d + p) = tRg T d p := by
    unfold tRg
    by_cases c : T (64 * d + p) < 0
    · rw [if_pos c]; exact (b1 c).1
    · rw [if_neg c]; exact (b2 (by omega)).1
  simp (disch := first | assumption | omega) only [e98_0, e98_1, e98_4, e98_5, e98_6, e98_9, e98_12, gK0_eq, gK1_eq, gK3_eq, w32_id, bI_eq0, bI_eq1, Bool.false_eq_true, not_true_eq_false, not_false_eq_true, ne_eq, ite_not, ↓reduceIte, if_true, if_false, Int.reduceToNat, Nat.reduceAdd, Int.reduceEq, Int.reduceLT, Int.reduceLE, Int.reduceNeg, bI_T, bI_F, k_slot hd hp, s_at, atv_in, b]
theorem k_isMapped {d p : Int} (h : rTb x T μ) (hd : 0 ≤ d ∧ d < 4) (hp : 0 ≤ p ∧ p < 64) : gE 99 0 [gO 7 x, gI d, gI p] [] μ Q = Q (bI (tMp T d p = true)) μ := by
  have b := (h.2.2.2 (64 * d + p) (by omega) (by omega)).2.1
  unfold tMp
  by_cases c : T (64 * d + p) = -1
  · rw [bI_f (by simp [c])]
    simp (disch := first | assumption | omega) only [e99_0, e99_1, e99_2, e99_3, e99_6, e99_7, e99_10, e99_11, e99_14, e99_15, gK0_eq, gK1_eq, gK3_eq, w32_id, bI_eq0, bI_eq1, Bool.false_eq_true, not_true_eq_false, not_false_eq_true, ne_eq, ite_not, ↓reduceIte, if_true, if_false, Int.reduceToNat, Nat.reduceAdd, Int.reduceEq, Int.reduceLT, Int.reduceLE, Int.reduceNeg, bI_T, bI_F, ↓if_pos, ↓if_neg, k_frameOf h hd hp, c]
  · rw [bI_t (by simp; omega)]
    simp (disch := first | assumption | omega) only [e99_0, e99_1, e99_2, e99_3, e99_6, e99_7, e99_10, e99_11, e99_14, e99_15, gK0_eq, gK1_eq, gK3_eq, w32_id, bI_eq0, bI_eq1, Bool.false_eq_true, not_true_eq_false, not_false_eq_true, ne_eq, ite_not, ↓reduceIte, if_true, if_false, Int.reduceToNat, Nat.reduceAdd, Int.reduceEq, Int.reduceLT, Int.reduceLE, Int.reduceNeg, bI_T, bI_F, ↓if_pos, ↓if_neg, k_frameOf h hd hp, c]
theorem k_isReserved {d p : Int} (h : rTb x T μ) (hd : 0 ≤ d ∧ d < 4) (hp : 0 ≤ p ∧ p < 64) : gE 100 0 [gO 7 x, gI d, gI p] [] μ Q = Q (bI (T (512 + (64 * d + p)) = 1)) μ := by
  have b := (h.2.2.2 (64 * d + p) (by omega) (by omega)).2.2.1
  have c0 : 0 ≤ 64 * d + p := by omega
  have c1 : 64 * d + p < ((256 : Nat) : Int) := by omega
  by_cases c : T (512 + (64 * d + p)) = 1
  · simp (disch := first | assumption | omega) only [e100_0, e100_1, e100_4, e100_5, e100_6, e100_9, e100_12, e100_13, e100_16, e100_17, e100_20, e100_21, gK0_eq, gK1_eq, gK3_eq, w32_id, bI_eq0, bI_eq1, Bool.false_eq_true, not_true_eq_false, not_false_eq_true, ne_eq, ite_not, ↓reduceIte, if_true, if_false, Int.reduceToNat, Nat.reduceAdd, Int.reduceEq, Int.reduceLT, Int.reduceLE, Int.reduceNeg, bI_T, bI_F, ↓if_pos, ↓if_neg, k_slot hd hp, s_at, atv_in, b, c]
  · simp (disch := first | assumption | omega) only [e100_0, e100_1, e100_4, e100_5, e100_6, e100_9, e100_12, e100_13, e100_16, e100_17, e100_20, e100_21, gK0_eq, gK1_eq, gK3_eq, w32_id, bI_eq0, bI_eq1, Bool.false_eq_true, not_true_eq_false, not_false_eq_true, ne_eq, ite_not, ↓reduceIte, if_true, if_false, Int.reduceToNat, Nat.reduceAdd, Int.reduceEq, Int.reduceLT, Int.reduceLE, Int.reduceNeg, bI_T, bI_F, ↓if_pos, ↓if_neg, k_slot hd hp, s_at, atv_in, b, c]
theorem k_inBlock {d p : Int} (h : rTb x T μ) (hd : 0 ≤ d ∧ d < 4) (hp : 0 ≤ p ∧ p < 64) : gE 101 0 [gO 7 x, gI d, gI p] [] μ Q = Q (bI (T (768 + (64 * d + p)) = 1)) μ := by
  have b := (h.2.2.2 (64 * d + p) (by omega) (by omega)).2.2.2.2.1
  have c0 : 0 ≤ (64 * d + p) / 4 := by omega
  have c1 : (64 * d + p) / 4 < ((64 : Nat) : Int) := by omega
  by_cases c : T (768 + (64 * d + p)) = 1
  · simp (disch := first | assumption | omega) only [e101_0, e101_1, e101_4, e101_5, e101_6, e101_9, e101_12, e101_13, e101_16, e101_17, e101_20, e101_21, gK0_eq, gK1_eq, gK3_eq, w32_id, bI_eq0, bI_eq1, Bool.false_eq_true, not_true_eq_false, not_false_eq_true, ne_eq, ite_not, ↓reduceIte, if_true, if_false, Int.reduceToNat, Nat.reduceAdd, Int.reduceEq, Int.reduceLT, Int.reduceLE, Int.reduceNeg, bI_T, bI_F, ↓if_pos, ↓if_neg, k_blockSlot hd hp, s_at, atv_in, b, c]
  · simp (disch := first | assumption | omega) only [e101_0, e101_1, e101_4, e101_5, e101_6, e101_9, e101_12, e101_13, e101_16, e101_17, e101_20, e101_21, gK0_eq, gK1_eq, gK3_eq, w32_id, bI_eq0, bI_eq1, Bool.false_eq_true, not_true_eq_false, not_false_eq_true, ne_eq, ite_not, ↓reduceIte, if_true, if_false, Int.reduceToNat, Nat.reduceAdd, Int.reduceEq, Int.reduceLT, Int.reduceLE, Int.reduceNeg, bI_T, bI_F, ↓if_pos, ↓if_neg, k_blockSlot hd hp, s_at, atv_in, b, c]
theorem cntF_shift {P : Int → Bool} {a : Int} : ∀ (n : Nat) (k : Int), cntF (fun k => P (a + k)) k n = cntF P (a + k) n := by
  intro n
  induction n with
  | zero => intro k; rfl
  | succ n ih => intro k; rw [cntF, cntF, ih (k + 1), Int.add_assoc]
theorem k_mappedFrom_loop {d f n : Int} (h : rTb x T μ) (hd : 0 ≤ d ∧ d < 4) (hf : 0 ≤ f) (hn : f + n ≤ 64) : ∀ (m : Nat) (k s : Int), 0 ≤ k → k + m = n → 0 ≤ s → s ≤ k →
    gE 106 6 [gO 7 x, gI d, gI f, gI n, gI s, gI k] [] μ Q = Q (s + cntF (fun k => tMp T d (f + k)) k m) μ := by
  intro m
  induction m with
  | zero =>
    intro k s k0 k1 s0 s1
    have c : n ≤ k := by omega
    rw [e106_6]
    simp (disch := first | assumption | omega) only [e106_0, e106_1, e106_3, e106_4, e106_8, e106_9, e106_12, e106_13, e106_14, e106_15, e106_17, e106_18, e106_21, e106_22, e106_25, e106_28, e106_31, e106_34, e106_36, gK0_eq, gK1_eq, gK3_eq, w32_id, bI_eq0, bI_eq1, Bool.false_eq_true, not_true_eq_false, not_false_eq_true, ne_eq, ite_not, ↓reduceIte, if_true, if_false, Int.reduceToNat, Nat.reduceAdd, Int.reduceEq, Int.reduceLT, Int.reduceLE, Int.reduceNeg, bI_T, bI_F, ↓if_pos, ↓if_neg, c, cntF, Int.add_zero]
  | succ m ih =>
    intro k s k0 k1 s0 s1
    have c : ¬ n ≤ k := by omega
    have hp : 0 ≤ f + k ∧ f + k < 64 := by omega
    have b := (h.2.2.2 (64 * d + (f + k)) (by omega) (by omega)).2.1
    rw [e106_6]
    by_cases cm : T (64 * d + (f + k)) = -1
    · simp (disch := first | assumption | omega) only [e106_0, e106_1, e106_3, e106_4, e106_8, e106_9, e106_12, e106_13, e106_14, e106_15, e106_17, e106_18, e106_21, e106_22, e106_25, e106_28, e106_31, e106_34, e106_36, gK0_eq, gK1_eq, gK3_eq, w32_id, bI_eq0, bI_eq1, Bool.false_eq_true, not_true_eq_false, not_false_eq_true, ne_eq, ite_not, ↓reduceIte, if_true, if_false, Int.reduceToNat, Nat.reduceAdd, Int.reduceEq, Int.reduceLT, Int.reduceLE, Int.reduceNeg, bI_T, bI_F, ↓if_pos, ↓if_neg, c, k_frameOf h hd hp, cm]
      rw [ih _ _ (by omega) (by omega) (by omega) (by omega), cntF_f (by unfold tMp; simp [cm])]
    · simp (disch := first | assumption | omega) only [e106_0, e106_1, e106_3, e106_4, e106_8, e106_9, e106_12, e106_13, e106_14, e106_15, e106_17, e106_18, e106_21, e106_22, e106_25, e106_28, e106_31, e106_34, e106_36, gK0_eq, gK1_eq, gK3_eq, w32_id, bI_eq0, bI_eq1, Bool.false_eq_true, not_true_eq_false, not_false_eq_true, ne_eq, ite_not, ↓reduceIte, if_true, if_false, Int.reduceToNat, Nat.reduceAdd, Int.reduceEq, Int.reduceLT, Int.reduceLE, Int.reduceNeg, bI_T, bI_F, ↓if_pos, ↓if_neg, c, k_frameOf h hd hp, cm]
      rw [ih _ _ (by omega) (by omega) (by omega) (by omega), cntF_t (by unfold tMp; simp; omega), Int.add_assoc]
theorem k_mappedFrom {d f n : Int} (h : rTb x T μ) (hd : 0 ≤ d ∧ d < 4) (hf : 0 ≤ f) (hn : f + n ≤ 64) (hn0 : 0 ≤ n) : gE 106 0 [gO 7 x, gI d, gI f, gI n, gX, gX] [] μ Q = Q (cntF (tMp T d) f n.toNat) μ := by
  simp (disch := first | assumption | omega) only [e106_0, e106_1, e106_3, e106_4, e106_8, e106_9, e106_12, e106_13, e106_14, e106_15, e106_17, e106_18, e106_21, e106_22, e106_25, e106_28, e106_31, e106_34, e106_36, gK0_eq, gK1_eq, gK3_eq, w32_id, bI_eq0, bI_eq1, Bool.false_eq_true, not_true_eq_false, not_false_eq_true, ne_eq, ite_not, ↓reduceIte, if_true, if_false, Int.reduceToNat, Nat.reduceAdd, Int.reduceEq, Int.reduceLT, Int.reduceLE, Int.reduceNeg, bI_T, bI_F]
  rw [k_mappedFrom_loop h hd hf hn n.toNat 0 0 (by omega) (by omega) (by omega) (by omega), Int.zero_add, cntF_shift, Int.add_zero]
def tLow (T : Int → Int) (d p : Int) : Bool := anyF (tMp T d) (p - p % 4) 4 && !decide (T (768 + (64 * d + p)) = 1)
theorem k_hasLow {d p : Int} (h : rTb x T μ) (hd : 0 ≤ d ∧ d < 4) (hp : 0 ≤ p ∧ p < 64) : gE 107 0 [gO 7 x, gI d, gI p, gX] [] μ Q = Q (bI (tLow T d p = true)) μ := by
  unfold tLow
  have hm := @k_mappedFrom x T μ
  have f0 : 0 ≤ p - p % 4 := by omega
  have f1 : p - p % 4 + 4 ≤ 64 := by omega
  have key := cntF_any (tMp T d) 4 (p - p % 4)
  by_cases c : T (768 + (64 * d + p)) = 1
  · rw [bI_f (by simp [c])]
    simp (disch := first | assumption | omega) only [e107_0, e107_1, e107_2, e107_3, e107_4, e107_5, e107_6, e107_7, e107_8, e107_9, e107_12, e107_15, e107_16, e107_17, e107_18, e107_19, e107_22, e107_25, e107_26, e107_29, e107_30, gK0_eq, gK1_eq, gK3_eq, w32_id, bI_eq0, bI_eq1, Bool.false_eq_true, not_true_eq_false, not_false_eq_true, ne_eq, ite_not, ↓reduceIte, if_true, if_false, Int.reduceToNat, Nat.reduceAdd, Int.reduceEq, Int.reduceLT, Int.reduceLE, Int.reduceNeg, bI_T, bI_F, ↓if_pos, ↓if_neg, irem32_id, k_inBlock h hd hp, c]
  · cases ha : anyF (tMp T d) (p - p % 4) 4 with
    | true =>
      have c2 : ¬ cntF (tMp T d) (p - p % 4) 4 ≤ 0 := by rw [ha] at key; have := key.mpr rfl; omega
      rw [bI_t (by simp [c])]
      simp (disch := first | assumption | omega) only [e107_0, e107_1, e107_2, e107_3, e107_4, e107_5, e107_6, e107_7, e107_8, e107_9, e107_12, e107_15, e107_16, e107_17, e107_18, e107_19, e107_22, e107_25, e107_26, e107_29, e107_30, gK0_eq, gK1_eq, gK3_eq, w32_id, bI_eq0, bI_eq1, Bool.false_eq_true, not_true_eq_false, not_false_eq_true, ne_eq, ite_not, ↓reduceIte, if_true, if_false, Int.reduceToNat, Nat.reduceAdd, Int.reduceEq, Int.reduceLT, Int.reduceLE, Int.reduceNeg, bI_T, bI_F, ↓if_pos, ↓if_neg, irem32_id, k_inBlock h hd hp, c, k_mappedFrom h hd, c2]
    | false =>
      have c2 : cntF (tMp T d) (p - p % 4) 4 ≤ 0 := by
        rw [ha] at key
        have : ¬ 0 < cntF (tMp T d) (p - p % 4) 4 := fun q => Bool.noConfusion (key.mp q)
        omega
      rw [bI_f (by simp)]
      simp (disch := first | assumption | omega) only [e107_0, e107_1, e107_2, e107_3, e107_4, e107_5, e107_6, e107_7, e107_8, e107_9, e107_12, e107_15, e107_16, e107_17, e107_18, e107_19, e107_22, e107_25, e107_26, e107_29, e107_30, gK0_eq, gK1_eq, gK3_eq, w32_id, bI_eq0, bI_eq1, Bool.false_eq_true, not_true_eq_false, not_false_eq_true, ne_eq, ite_not, ↓reduceIte, if_true, if_false, Int.reduceToNat, Nat.reduceAdd, Int.reduceEq, Int.reduceLT, Int.reduceLE, Int.reduceNeg, bI_T, bI_F, ↓if_pos, ↓if_neg, irem32_id, k_inBlock h hd hp, c, k_mappedFrom h hd, c2]
theorem k_levelOf {d p : Int} (h : rTb x T μ) (hd : 0 ≤ d ∧ d < 4) (hp : 0 ≤ p ∧ p < 64) : gE 108 0 [gO 7 x, gI d, gI p] [] μ Q = Q (tLvl T d p) μ := by
  have a4 : T (768 + 64 * d + p) = T (768 + (64 * d + p)) := by rw [Int.add_assoc]
  have key := cntF_any (tMp T d) 16 (p - p % 16)
  have f0 : 0 ≤ p - p % 16 := by omega
  have f1 : p - p % 16 + 16 ≤ 64 := by omega
  unfold tLvl
  rw [a4]
  cases hl : tLow T d p with
  | true =>
    have hl' := hl
    unfold tLow at hl'
    rw [Bool.and_eq_true, Bool.not_eq_true', decide_eq_false_iff_not] at hl'
    have h16 : anyF (tMp T d) (p - p % 16) 16 = true := by
      rw [anyF_iff] at hl' ⊢
      obtain ⟨⟨i, i0, i1, i2⟩, -⟩ := hl'
      exact ⟨i, by omega, by omega, i2⟩
    rw [if_pos h16, if_pos hl']
    simp (disch := first | assumption | omega) only [e108_0, e108_1, e108_2, e108_3, e108_6, e108_9, e108_10, e108_11, e108_12, e108_13, e108_14, e108_15, e108_17, e108_18, e108_19, e108_21, e108_24, e108_27, e108_28, e108_31, e108_32, gK0_eq, gK1_eq, gK3_eq, w32_id, bI_eq0, bI_eq1, Bool.false_eq_true, not_true_eq_false, not_false_eq_true, ne_eq, ite_not, ↓reduceIte, if_true, if_false, Int.reduceToNat, Nat.reduceAdd, Int.reduceEq, Int.reduceLT, Int.reduceLE, Int.reduceNeg, bI_T, bI_F, ↓if_pos, ↓if_neg, k_hasLow h hd hp, hl]
  | false =>
    have hl' : ¬ (anyF (tMp T d) (p - p % 4) 4 = true ∧ T (768 + (64 * d + p)) ≠ 1) := by
      rintro ⟨q1, q2⟩
      unfold tLow at hl
      rw [q1, decide_eq_false q2] at hl
      exact Bool.noConfusion hl
    rw [if_neg hl']
    cases ha : anyF (tMp T d) (p - p % 16) 16 with
    | true =>
      have c2 : ¬ cntF (tMp T d) (p - p % 16) 16 ≤ 0 := by rw [ha] at key; have := key.mpr rfl; omega
      simp (disch := first | assumption | omega) only [e108_0, e108_1, e108_2, e108_3, e108_6, e108_9, e108_10, e108_11, e108_12, e108_13, e108_14, e108_15, e108_17, e108_18, e108_19, e108_21, e108_24, e108_27, e108_28, e108_31, e108_32, gK0_eq, gK1_eq, gK3_eq, w32_id, bI_eq0, bI_eq1, Bool.false_eq_true, not_true_eq_false, not_false_eq_true, ne_eq, ite_not, ↓reduceIte, if_true, if_false, Int.reduceToNat, Nat.reduceAdd, Int.reduceEq, Int.reduceLT, Int.reduceLE, Int.reduceNeg, bI_T, bI_F, ↓if_pos, ↓if_neg, irem32_id, k_hasLow h hd hp, hl, k_mappedFrom h hd, c2]
    | false =>
      have c2 : cntF (tMp T d) (p - p % 16) 16 ≤ 0 := by
        rw [ha] at key
        have : ¬ 0 < cntF (tMp T d) (p - p % 16) 16 := fun q => Bool.noConfusion (key.mp q)
        omega
      simp (disch := first | assumption | omega) only [e108_0, e108_1, e108_2, e108_3, e108_6, e108_9, e108_10, e108_11, e108_12, e108_13, e108_14, e108_15, e108_17, e108_18, e108_19, e108_21, e108_24, e108_27, e108_28, e108_31, e108_32, gK0_eq, gK1_eq, gK3_eq, w32_id, bI_eq0, bI_eq1, Bool.false_eq_true, not_true_eq_false, not_false_eq_true, ne_eq, ite_not, ↓reduceIte, if_true, if_false, Int.reduceToNat, Nat.reduceAdd, Int.reduceEq, Int.reduceLT, Int.reduceLE, Int.reduceNeg, bI_T, bI_F, ↓if_pos, ↓if_neg, irem32_id, k_hasLow h hd hp, hl, k_mappedFrom h hd, c2]
theorem k_tablesOf_l1 {d : Int} (h : rTb x T μ) (hd : 0 ≤ d ∧ d < 4) : ∀ (m : Nat) (i n : Int), 0 ≤ i → i + m = 4 → 0 ≤ n → n ≤ 100 + i →
    gE 109 4 [gO 7 x, gI d, gI n, gI (16 * i)] [] μ Q = gE 109 30 [gO 7 x, gI d, gI (n + cntF (fun i => anyF (tMp T d) (16 * i) 16) i m), gI 64] [] μ Q := by
  intro m
  induction m with
  | zero =>
    intro i n i0 i1 n0 n1
    have e : i = 4 := by omega
    subst e
    rw [e109_4]
    simp (disch := first | assumption | omega) only [e109_0, e109_1, e109_2, e109_3, e109_5, e109_7, e109_10, e109_11, e109_12, e109_13, e109_15, e109_18, e109_21, e109_24, e109_27, e109_31, e109_32, e109_33, e109_35, e109_38, e109_39, e109_40, e109_41, e109_44, e109_47, e109_50, e109_53, e109_56, e109_57, gK0_eq, gK1_eq, gK3_eq, w32_id, bI_eq0, bI_eq1, Bool.false_eq_true, not_true_eq_false, not_false_eq_true, ne_eq, ite_not, ↓reduceIte, if_true, if_false, Int.reduceToNat, Nat.reduceAdd, Int.reduceEq, Int.reduceLT, Int.reduceLE, Int.reduceNeg, bI_T, bI_F, ↓if_pos, ↓if_neg, cntF, Int.add_zero, Int.reduceMul]
  | succ m ih =>
    intro i n i0 i1 n0 n1
    have c : ¬ 64 ≤ 16 * i := by omega
    have e : 16 * i + 16 = 16 * (i + 1) := by omega
    have key := cntF_any (tMp T d) 16 (16 * i)
    rw [e109_4]
    cases ha : anyF (tMp T d) (16 * i) 16 with
    | true =>
      have c2 : ¬ cntF (tMp T d) (16 * i) 16 ≤ 0 := by rw [ha] at key; have := key.mpr rfl; omega
      simp (disch := first | assumption | omega) only [e109_0, e109_1, e109_2, e109_3, e109_5, e109_7, e109_10, e109_11, e109_12, e109_13, e109_15, e109_18, e109_21, e109_24, e109_27, e109_31, e109_32, e109_33, e109_35, e109_38, e109_39, e109_40, e109_41, e109_44, e109_47, e109_50, e109_53, e109_56, e109_57, gK0_eq, gK1_eq, gK3_eq, w32_id, bI_eq0, bI_eq1, Bool.false_eq_true, not_true_eq_false, not_false_eq_true, ne_eq, ite_not, ↓reduceIte, if_true, if_false, Int.reduceToNat, Nat.reduceAdd, Int.reduceEq, Int.reduceLT, Int.reduceLE, Int.reduceNeg, bI_T, bI_F, ↓if_pos, ↓if_neg, c, k_mappedFrom h hd, c2]
      rw [e, ih (i + 1) (n + 1) (by omega) (by omega) (by omega) (by omega), cntF_t ha, Int.add_assoc]
    | false =>
      have c2 : cntF (tMp T d) (16 * i) 16 ≤ 0 := by
        rw [ha] at key
        have : ¬ 0 < cntF (tMp T d) (16 * i) 16 := fun q => Bool.noConfusion (key.mp q)
        omega
      simp (disch := first | assumption | omega) only [e109_0, e109_1, e109_2, e109_3, e109_5, e109_7, e109_10, e109_11, e109_12, e109_13, e109_15, e109_18, e109_21, e109_24, e109_27, e109_31, e109_32, e109_33, e109_35, e109_38, e109_39, e109_40, e109_41, e109_44, e109_47, e109_50, e109_53, e109_56, e109_57, gK0_eq, gK1_eq, gK3_eq, w32_id, bI_eq0, bI_eq1, Bool.false_eq_true, not_true_eq_false, not_false_eq_true, ne_eq, ite_not, ↓reduceIte, if_true, if_false, Int.reduceToNat, Nat.reduceAdd, Int.reduceEq, Int.reduceLT, Int.reduceLE, Int.reduceNeg, bI_T, bI_F, ↓if_pos, ↓if_neg, c, k_mappedFrom h hd, c2]
      rw [e, ih (i + 1) n (by omega) (by omega) (by omega) (by omega), cntF_f ha]
theorem k_tablesOf_l2 {d : Int} (h : rTb x T μ) (hd : 0 ≤ d ∧ d < 4) : ∀ (m : Nat) (i n : Int), 0 ≤ i → i + m = 16 → 0 ≤ n → n ≤ 200 + i →
    gE 109 32 [gO 7 x, gI d, gI n, gI (4 * i)] [] μ Q = Q (n + cntF (fun i => anyF (tMp T d) (4 * i) 4 && decide (T (768 + 64 * d + 4 * i) = 0)) i m) μ := by
  intro m
  induction m with
  | zero =>
    intro i n i0 i1 n0 n1
    have e : i = 16 := by omega
    subst e
    rw [e109_32]
    simp (disch := first | assumption | omega) only [e109_0, e109_1, e109_2, e109_3, e109_4, e109_5, e109_7, e109_10, e109_11, e109_12, e109_13, e109_15, e109_18, e109_21, e109_24, e109_27, e109_30, e109_31, e109_33, e109_35, e109_38, e109_39, e109_40, e109_41, e109_44, e109_47, e109_50, e109_53, e109_56, e109_57, gK0_eq, gK1_eq, gK3_eq, w32_id, bI_eq0, bI_eq1, Bool.false_eq_true, not_true_eq_false, not_false_eq_true, ne_eq, ite_not, ↓reduceIte, if_true, if_false, Int.reduceToNat, Nat.reduceAdd, Int.reduceEq, Int.reduceLT, Int.reduceLE, Int.reduceNeg, bI_T, bI_F, ↓if_pos, ↓if_neg, cntF, Int.add_zero, Int.reduceMul]
  | succ m ih =>
    intro i n i0 i1 n0 n1
    have c : ¬ 64 ≤ 4 * i := by omega
    have hp : 0 ≤ 4 * i ∧ 4 * i < 64 := by omega
    have e : 4 * i + 4 = 4 * (i + 1) := by omega
    have e4 : 4 * i - 4 * i % 4 = 4 * i := by omega
    have a4 : T (768 + 64 * d + 4 * i) = T (768 + (64 * d + 4 * i)) := by rw [Int.add_assoc]
    have b := (h.2.2.2 (64 * d + 4 * i) (by omega) (by omega)).2.2.2.2.2.1
    have eq : tLow T d (4 * i) = (anyF (tMp T d) (4 * i) 4 && decide (T (768 + 64 * d + 4 * i) = 0)) := by
      unfold tLow
      rw [e4, a4]
      congr 1
      rcases b with b | b <;> rw [b] <;> rfl
    rw [e109_32]
    cases ha : tLow T d (4 * i) with
    | true =>
      simp (disch := first | assumption | omega) only [e109_0, e109_1, e109_2, e109_3, e109_4, e109_5, e109_7, e109_10, e109_11, e109_12, e109_13, e109_15, e109_18, e109_21, e109_24, e109_27, e109_30, e109_31, e109_33, e109_35, e109_38, e109_39, e109_40, e109_41, e109_44, e109_47, e109_50, e109_53, e109_56, e109_57, gK0_eq, gK1_eq, gK3_eq, w32_id, bI_eq0, bI_eq1, Bool.false_eq_true, not_true_eq_false, not_false_eq_true, ne_eq, ite_not, ↓reduceIte, if_true, if_false, Int.reduceToNat, Nat.reduceAdd, Int.reduceEq, Int.reduceLT, Int.reduceLE, Int.reduceNeg, bI_T, bI_F, ↓if_pos, ↓if_neg, c, k_hasLow h hd hp, ha]
      rw [e, ih (i + 1) (n + 1) (by omega) (by omega) (by omega) (by omega), cntF_t (by rw [← eq]; exact ha), Int.add_assoc]
    | false =>
      simp (disch := first | assumption | omega) only [e109_0, e109_1, e109_2, e109_3, e109_4, e109_5, e109_7, e109_10, e109_11, e109_12, e109_13, e109_15, e109_18, e109_21, e109_24, e109_27, e109_30, e109_31, e109_33, e109_35, e109_38, e109_39, e109_40, e109_41, e109_44, e109_47, e109_50, e109_53, e109_56, e109_57, gK0_eq, gK1_eq, gK3_eq, w32_id, bI_eq0, bI_eq1, Bool.false_eq_true, not_true_eq_false, not_false_eq_true, ne_eq, ite_not, ↓reduceIte, if_true, if_false, Int.reduceToNat, Nat.reduceAdd, Int.reduceEq, Int.reduceLT, Int.reduceLE, Int.reduceNeg, bI_T, bI_F, ↓if_pos, ↓if_neg, c, k_hasLow h hd hp, ha]
      rw [e, ih (i + 1) n (by omega) (by omega) (by omega) (by omega), cntF_f (by rw [← eq]; exact ha)]
theorem k_tablesOf {d : Int} (h : rTb x T μ) (hd : 0 ≤ d ∧ d < 4) : gE 109 0 [gO 7 x, gI d, gX, gX] [] μ Q = Q (tTab T d) μ := by
  have h1 := k_tablesOf_l1 (Q := Q) h hd 4 0 1 (by omega) (by omega) (by omega) (by omega)
  rw [Int.mul_zero] at h1
  have hn := cntF_nn (fun i => anyF (tMp T d) (16 * i) 16) 4 0
  have h2 := k_tablesOf_l2 (Q := Q) h hd 16 0 (1 + cntF (fun i => anyF (tMp T d) (16 * i) 16) 0 4) (by omega) (by omega) (by omega) (by omega)
  rw [Int.mul_zero] at h2
  simp (disch := first | assumption | omega) only [e109_0, e109_1, e109_2, e109_3, e109_5, e109_7, e109_10, e109_11, e109_12, e109_13, e109_15, e109_18, e109_21, e109_24, e109_27, e109_30, e109_31, e109_33, e109_35, e109_38, e109_39, e109_40, e109_41, e109_44, e109_47, e109_50, e109_53, e109_56, e109_57, gK0_eq, gK1_eq, gK3_eq, w32_id, bI_eq0, bI_eq1, Bool.false_eq_true, not_true_eq_false, not_false_eq_true, ne_eq, ite_not, ↓reduceIte, if_true, if_false, Int.reduceToNat, Nat.reduceAdd, Int.reduceEq, Int.reduceLT, Int.reduceLE, Int.reduceNeg, bI_T, bI_F]
  rw [h1, e109_30]
  simp (disch := first | assumption | omega) only [e109_0, e109_1, e109_2, e109_3, e109_4, e109_5, e109_7, e109_10, e109_11, e109_12, e109_13, e109_15, e109_18, e109_21, e109_24, e109_27, e109_30, e109_31, e109_33, e109_35, e109_38, e109_39, e109_40, e109_41, e109_44, e109_47, e109_50, e109_53, e109_56, e109_57, gK0_eq, gK1_eq, gK3_eq, w32_id, bI_eq0, bI_eq1, Bool.false_eq_true, not_true_eq_false, not_false_eq_true, ne_eq, ite_not, ↓reduceIte, if_true, if_false, Int.reduceToNat, Nat.reduceAdd, Int.reduceEq, Int.reduceLT, Int.reduceLE, Int.reduceNeg, bI_T, bI_F]
  rw [h2]
  rfl
theorem k_tablesOfAll_loop (h : rTb x T μ) : ∀ (m : Nat) (d n : Int), 0 ≤ d → d + m = T 1672 → 0 ≤ n → n ≤ 21 * d →
    gE 110 4 [gO 7 x, gI n, gI d] [] μ Q = Q (itF (fun d s => s + tTab T d) d m n) μ := by
  have hD := h.1
  have h0 := h.2.1
  intro m
  induction m with
  | zero =>
    intro d n d0 d1 n0 n1
    have c : T 1672 ≤ d := by omega
    rw [e110_4]
    simp (disch := first | assumption | omega) only [e110_0, e110_1, e110_2, e110_3, e110_5, e110_6, e110_9, e110_12, e110_13, e110_14, e110_15, e110_18, e110_19, e110_20, e110_23, e110_26, e110_27, gK0_eq, gK1_eq, gK3_eq, w32_id, bI_eq0, bI_eq1, Bool.false_eq_true, not_true_eq_false, not_false_eq_true, ne_eq, ite_not, ↓reduceIte, if_true, if_false, Int.reduceToNat, Nat.reduceAdd, Int.reduceEq, Int.reduceLT, Int.reduceLE, Int.reduceNeg, bI_T, bI_F, ↓if_pos, ↓if_neg, h0, c, itF]
  | succ m ih =>
    intro d n d0 d1 n0 n1
    have c : ¬ T 1672 ≤ d := by omega
    have hd : 0 ≤ d ∧ d < 4 := by omega
    have b := tTab_in (T := T) (d := d)
    rw [e110_4]
    simp (disch := first | assumption | omega) only [e110_0, e110_1, e110_2, e110_3, e110_5, e110_6, e110_9, e110_12, e110_13, e110_14, e110_15, e110_18, e110_19, e110_20, e110_23, e110_26, e110_27, gK0_eq, gK1_eq, gK3_eq, w32_id, bI_eq0, bI_eq1, Bool.false_eq_true, not_true_eq_false, not_false_eq_true, ne_eq, ite_not, ↓reduceIte, if_true, if_false, Int.reduceToNat, Nat.reduceAdd, Int.reduceEq, Int.reduceLT, Int.reduceLE, Int.reduceNeg, bI_T, bI_F, ↓if_pos, ↓if_neg, h0, c, k_tablesOf h hd]
    rw [ih (d + 1) _ (by omega) (by omega) (by omega) (by omega), itF]
theorem k_tablesOfAll (h : rTb x T μ) : gE 110 0 [gO 7 x, gX, gX] [] μ Q = Q (tTbA T) μ := by
  have hD := h.1
  simp (disch := first | assumption | omega) only [e110_0, e110_1, e110_2, e110_3, e110_5, e110_6, e110_9, e110_12, e110_13, e110_14, e110_15, e110_18, e110_19, e110_20, e110_23, e110_26, e110_27, gK0_eq, gK1_eq, gK3_eq, w32_id, bI_eq0, bI_eq1, Bool.false_eq_true, not_true_eq_false, not_false_eq_true, ne_eq, ite_not, ↓reduceIte, if_true, if_false, Int.reduceToNat, Nat.reduceAdd, Int.reduceEq, Int.reduceLT, Int.reduceLE, Int.reduceNeg, bI_T, bI_F]
  rw [k_tablesOfAll_loop h (T 1672).toNat 0 0 (by omega) (by omega) (by omega) (by omega)]
  rfl
theorem k_mappedOf {d : Int} (h : rTb x T μ) (hd : 0 ≤ d ∧ d < 4) : gE 111 0 [gO 7 x, gI d] [] μ Q = Q (tPgB T d 0) μ := by
  have e : tPgB T d 0 = cntF (tMp T d) 0 64 := by
    unfold tPgB
    exact cntF_congr _ _ (fun i _ _ => by simp)
  rw [e]
  simp (disch := first | assumption | omega) only [e111_0, e111_1, e111_2, e111_3, e111_5, e111_8, gK0_eq, gK1_eq, gK3_eq, w32_id, bI_eq0, bI_eq1, Bool.false_eq_true, not_true_eq_false, not_false_eq_true, ne_eq, ite_not, ↓reduceIte, if_true, if_false, Int.reduceToNat, Nat.reduceAdd, Int.reduceEq, Int.reduceLT, Int.reduceLE, Int.reduceNeg, bI_T, bI_F, k_mappedFrom h hd]
theorem cntF_quad {P P' : Int → Bool} : ∀ (n : Nat) (k : Int), (∀ i, k ≤ i → i < k + n → ∀ j, 0 ≤ j → j < 4 → P (4 * i + j) = P' i) → cntF P (4 * k) (4 * n) = 4 * cntF P' k n := by
  intro n
  induction n with
  | zero => intro k _; rfl
  | succ n ih =>
    intro k h
    have e : 4 * (n + 1) = 4 * n + 1 + 1 + 1 + 1 := by omega
    have h0 := h k (by omega) (by omega) 0 (by omega) (by omega)
    have h1 := h k (by omega) (by omega) 1 (by omega) (by omega)
    have h2 := h k (by omega) (by omega) 2 (by omega) (by omega)
    have h3 := h k (by omega) (by omega) 3 (by omega) (by omega)
    have ih' := ih (k + 1) (fun i i0 i1 => h i (by omega) (by omega))
    rw [e, cntF, cntF, cntF, cntF, cntF]
    rw [show 4 * k + 1 + 1 + 1 + 1 = 4 * (k + 1) by omega, show 4 * k + 1 + 1 + 1 = 4 * k + 3 by omega, show 4 * k + 1 + 1 = 4 * k + 2 by omega, ih', h1, h2, h3]
    rw [Int.add_zero] at h0
    rw [h0]
    cases P' k <;> simp <;> omega
theorem tPgB_blk {d : Int} (h : rTb x T μ) (hd : 0 ≤ d ∧ d < 4) : tPgB T d 768 / 4 = cntF (fun i => decide (T (768 + (64 * d + 4 * i)) = 1)) 0 16 := by
  have e := cntF_quad (P := fun p => tMp T d p && (decide ((768 : Int) = 0) || decide (T (768 + 64 * d + p) = 1))) (P' := fun i => decide (T (768 + (64 * d + 4 * i)) = 1)) 16 0 (fun i i0 i1 j j0 j1 => by
    obtain ⟨-, -, -, -, q1, -, -, -⟩ := h.2.2.2 (64 * d + 4 * i) (by omega) (by omega)
    obtain ⟨-, -, -, -, r1, -, r2, -⟩ := h.2.2.2 (64 * d + (4 * i + j)) (by omega) (by omega)
    rw [show (64 * d + (4 * i + j)) / 4 = (64 * d + 4 * i) / 4 by omega] at r1
    have e1 : T (768 + 64 * d + (4 * i + j)) = T (768 + (64 * d + (4 * i + j))) := by rw [Int.add_assoc]
    have e2 : T (768 + (64 * d + (4 * i + j))) = T (768 + (64 * d + 4 * i)) := by rw [← r1, q1]
    rw [e1, e2]
    unfold tMp
    by_cases c : T (64 * d + (4 * i + j)) < 0
    · have z := (r2 c).2.2
      rw [e2] at z
      rw [z]
      simp
    · rw [decide_eq_true (show 0 ≤ T (64 * d + (4 * i + j)) by omega)]
      simp)
  unfold tPgB
  rw [Int.mul_zero] at e
  rw [e]
  omega
theorem k_blocksOf_loop {d : Int} (h : rTb x T μ) (hd : 0 ≤ d ∧ d < 4) : ∀ (m : Nat) (i n : Int), 0 ≤ i → i + m = 16 → 0 ≤ n → n ≤ i →
    gE 112 4 [gO 7 x, gI d, gI n, gI (4 * i)] [] μ Q = Q (n + cntF (fun i => decide (T (768 + (64 * d + 4 * i)) = 1)) i m) μ := by
  intro m
  induction m with
  | zero =>
    intro i n i0 i1 n0 n1
    have e : i = 16 := by omega
    subst e
    rw [e112_4]
    simp (disch := first | assumption | omega) only [e112_0, e112_1, e112_2, e112_3, e112_5, e112_7, e112_10, e112_11, e112_12, e112_13, e112_16, e112_19, e112_22, e112_25, e112_28, e112_29, gK0_eq, gK1_eq, gK3_eq, w32_id, bI_eq0, bI_eq1, Bool.false_eq_true, not_true_eq_false, not_false_eq_true, ne_eq, ite_not, ↓reduceIte, if_true, if_false, Int.reduceToNat, Nat.reduceAdd, Int.reduceEq, Int.reduceLT, Int.reduceLE, Int.reduceNeg, bI_T, bI_F, ↓if_pos, ↓if_neg, cntF, Int.add_zero, Int.reduceMul]
  | succ m ih =>
    intro i n i0 i1 n0 n1
    have c : ¬ 64 ≤ 4 * i := by omega
    have hp : 0 ≤ 4 * i ∧ 4 * i < 64 := by omega
    have e : 4 * i + 4 = 4 * (i + 1) := by omega
    rw [e112_4]
    by_cases ha : T (768 + (64 * d + 4 * i)) = 1
    · simp (disch := first | assumption | omega) only [e112_0, e112_1, e112_2, e112_3, e112_5, e112_7, e112_10, e112_11, e112_12, e112_13, e112_16, e112_19, e112_22, e112_25, e112_28, e112_29, gK0_eq, gK1_eq, gK3_eq, w32_id, bI_eq0, bI_eq1, Bool.false_eq_true, not_true_eq_false, not_false_eq_true, ne_eq, ite_not, ↓reduceIte, if_true, if_false, Int.reduceToNat, Nat.reduceAdd, Int.reduceEq, Int.reduceLT, Int.reduceLE, Int.reduceNeg, bI_T, bI_F, ↓if_pos, ↓if_neg, c, k_inBlock h hd hp, ha]
      rw [e, ih (i + 1) (n + 1) (by omega) (by omega) (by omega) (by omega), cntF_t (by simp [ha]), Int.add_assoc]
    · simp (disch := first | assumption | omega) only [e112_0, e112_1, e112_2, e112_3, e112_5, e112_7, e112_10, e112_11, e112_12, e112_13, e112_16, e112_19, e112_22, e112_25, e112_28, e112_29, gK0_eq, gK1_eq, gK3_eq, w32_id, bI_eq0, bI_eq1, Bool.false_eq_true, not_true_eq_false, not_false_eq_true, ne_eq, ite_not, ↓reduceIte, if_true, if_false, Int.reduceToNat, Nat.reduceAdd, Int.reduceEq, Int.reduceLT, Int.reduceLE, Int.reduceNeg, bI_T, bI_F, ↓if_pos, ↓if_neg, c, k_inBlock h hd hp, ha]
      rw [e, ih (i + 1) n (by omega) (by omega) (by omega) (by omega), cntF_f (by simp [ha])]
theorem k_blocksOf {d : Int} (h : rTb x T μ) (hd : 0 ≤ d ∧ d < 4) : gE 112 0 [gO 7 x, gI d, gX, gX] [] μ Q = Q (tPgB T d 768 / 4) μ := by
  have h2 := k_blocksOf_loop (Q := Q) h hd 16 0 0 (by omega) (by omega) (by omega) (by omega)
  rw [Int.mul_zero, Int.zero_add] at h2
  rw [tPgB_blk h hd]
  simp (disch := first | assumption | omega) only [e112_0, e112_1, e112_2, e112_3, e112_5, e112_7, e112_10, e112_11, e112_12, e112_13, e112_16, e112_19, e112_22, e112_25, e112_28, e112_29, gK0_eq, gK1_eq, gK3_eq, w32_id, bI_eq0, bI_eq1, Bool.false_eq_true, not_true_eq_false, not_false_eq_true, ne_eq, ite_not, ↓reduceIte, if_true, if_false, Int.reduceToNat, Nat.reduceAdd, Int.reduceEq, Int.reduceLT, Int.reduceLE, Int.reduceNeg, bI_T, bI_F]
  exact h2
theorem k_reservedOf_loop {d : Int} (h : rTb x T μ) (hd : 0 ≤ d ∧ d < 4) : ∀ (m : Nat) (p n : Int), 0 ≤ p → p + m = 64 → 0 ≤ n → n ≤ p →
    gE 113 4 [gO 7 x, gI d, gI n, gI p] [] μ Q = Q (n + cntF (fun p => tMp T d p && decide (T (512 + 64 * d + p) = 1)) p m) μ := by
  intro m
  induction m with
  | zero =>
    intro i n i0 i1 n0 n1
    have c : 64 ≤ i := by omega
    rw [e113_4]
    simp (disch := first | assumption | omega) only [e113_0, e113_1, e113_2, e113_3, e113_5, e113_7, e113_10, e113_11, e113_12, e113_13, e113_16, e113_19, e113_22, e113_25, e113_28, e113_29, gK0_eq, gK1_eq, gK3_eq, w32_id, bI_eq0, bI_eq1, Bool.false_eq_true, not_true_eq_false, not_false_eq_true, ne_eq, ite_not, ↓reduceIte, if_true, if_false, Int.reduceToNat, Nat.reduceAdd, Int.reduceEq, Int.reduceLT, Int.reduceLE, Int.reduceNeg, bI_T, bI_F, ↓if_pos, ↓if_neg, c, cntF, Int.add_zero]
  | succ m ih =>
    intro i n i0 i1 n0 n1
    have c : ¬ 64 ≤ i := by omega
    have hp : 0 ≤ i ∧ i < 64 := by omega
    obtain ⟨-, r0, -, -, -, -, r2, -⟩ := h.2.2.2 (64 * d + i) (by omega) (by omega)
    have a4 : T (512 + 64 * d + i) = T (512 + (64 * d + i)) := by rw [Int.add_assoc]
    rw [e113_4]
    by_cases ha : T (512 + (64 * d + i)) = 1
    · have hm : tMp T d i = true := by
        unfold tMp
        rw [decide_eq_true_eq]
        apply Classical.byContradiction
        intro q
        have := (r2 (by omega)).2.1
        omega
      simp (disch := first | assumption | omega) only [e113_0, e113_1, e113_2, e113_3, e113_5, e113_7, e113_10, e113_11, e113_12, e113_13, e113_16, e113_19, e113_22, e113_25, e113_28, e113_29, gK0_eq, gK1_eq, gK3_eq, w32_id, bI_eq0, bI_eq1, Bool.false_eq_true, not_true_eq_false, not_false_eq_true, ne_eq, ite_not, ↓reduceIte, if_true, if_false, Int.reduceToNat, Nat.reduceAdd, Int.reduceEq, Int.reduceLT, Int.reduceLE, Int.reduceNeg, bI_T, bI_F, ↓if_pos, ↓if_neg, c, k_isReserved h hd hp, ha]
      rw [ih (i + 1) (n + 1) (by omega) (by omega) (by omega) (by omega), cntF_t (by simp [hm, a4, ha]), Int.add_assoc]
    · simp (disch := first | assumption | omega) only [e113_0, e113_1, e113_2, e113_3, e113_5, e113_7, e113_10, e113_11, e113_12, e113_13, e113_16, e113_19, e113_22, e113_25, e113_28, e113_29, gK0_eq, gK1_eq, gK3_eq, w32_id, bI_eq0, bI_eq1, Bool.false_eq_true, not_true_eq_false, not_false_eq_true, ne_eq, ite_not, ↓reduceIte, if_true, if_false, Int.reduceToNat, Nat.reduceAdd, Int.reduceEq, Int.reduceLT, Int.reduceLE, Int.reduceNeg, bI_T, bI_F, ↓if_pos, ↓if_neg, c, k_isReserved h hd hp, ha]
      rw [ih (i + 1) n (by omega) (by omega) (by omega) (by omega), cntF_f (by simp [a4, ha])]
theorem k_reservedOf {d : Int} (h : rTb x T μ) (hd : 0 ≤ d ∧ d < 4) : gE 113 0 [gO 7 x, gI d, gX, gX] [] μ Q = Q (tPgB T d 512) μ := by
  have h2 := k_reservedOf_loop (Q := Q) h hd 64 0 0 (by omega) (by omega) (by omega) (by omega)
  rw [Int.zero_add] at h2
  have e : tPgB T d 512 = cntF (fun p => tMp T d p && decide (T (512 + 64 * d + p) = 1)) 0 64 := by
    unfold tPgB
    exact cntF_congr _ _ (fun i _ _ => by simp)
  rw [e]
  simp (disch := first | assumption | omega) only [e113_0, e113_1, e113_2, e113_3, e113_5, e113_7, e113_10, e113_11, e113_12, e113_13, e113_16, e113_19, e113_22, e113_25, e113_28, e113_29, gK0_eq, gK1_eq, gK3_eq, w32_id, bI_eq0, bI_eq1, Bool.false_eq_true, not_true_eq_false, not_false_eq_true, ne_eq, ite_not, ↓reduceIte, if_true, if_false, Int.reduceToNat, Nat.reduceAdd, Int.reduceEq, Int.reduceLT, Int.reduceLE, Int.reduceNeg, bI_T, bI_F]
  exact h2
theorem k_tellPage {d p w : Int} (h : rTb x T μ) (hd : 0 ≤ d ∧ d < 4) (hp : 0 ≤ p ∧ p < 64) (hw : 0 ≤ w ∧ w ≤ 4) : gE 114 0 [gO 7 x, gI d, gI p, gI w] [] μ Q = Q (if w = 4 then tLvl T d p else if tMp T d p = true then T (256 * w + (64 * d + p)) else -2) μ := by
  obtain ⟨-, r0, -, r1, -, r2, -, r3⟩ := h.2.2.2 (64 * d + p) (by omega) (by omega)
  by_cases c4 : w = 4
  · rw [if_pos c4]
    simp (disch := first | assumption | omega) only [e114_0, e114_1, e114_2, e114_5, e114_6, e114_7, e114_8, e114_11, e114_12, e114_13, e114_14, e114_15, e114_18, e114_21, e114_23, e114_24, e114_25_c0, e114_25_c1, e114_25_c2, e114_25_d, e114_52, e114_53, e114_54, e114_55, e114_58, e114_59, e114_60, e114_61, e114_62, e114_65, e114_66, e114_67, e114_68, e114_69, e114_72, e114_75, e114_76, e114_79, e114_80, e114_81, e114_82, e114_83, e114_84, e114_87, e114_90, e114_91, e114_94, e114_95, gK0_eq, gK1_eq, gK3_eq, w32_id, bI_eq0, bI_eq1, Bool.false_eq_true, not_true_eq_false, not_false_eq_true, ne_eq, ite_not, ↓reduceIte, if_true, if_false, Int.reduceToNat, Nat.reduceAdd, Int.reduceEq, Int.reduceLT, Int.reduceLE, Int.reduceNeg, bI_T, bI_F, ↓if_pos, ↓if_neg, c4, k_levelOf h hd hp]
  · rw [if_neg c4]
    cases hm : tMp T d p with
    | false => simp (disch := first | assumption | omega) only [e114_0, e114_1, e114_2, e114_5, e114_6, e114_7, e114_8, e114_11, e114_12, e114_13, e114_14, e114_15, e114_18, e114_21, e114_23, e114_24, e114_25_c0, e114_25_c1, e114_25_c2, e114_25_d, e114_52, e114_53, e114_54, e114_55, e114_58, e114_59, e114_60, e114_61, e114_62, e114_65, e114_66, e114_67, e114_68, e114_69, e114_72, e114_75, e114_76, e114_79, e114_80, e114_81, e114_82, e114_83, e114_84, e114_87, e114_90, e114_91, e114_94, e114_95, gK0_eq, gK1_eq, gK3_eq, w32_id, bI_eq0, bI_eq1, Bool.false_eq_true, not_true_eq_false, not_false_eq_true, ne_eq, ite_not, ↓reduceIte, if_true, if_false, Int.reduceToNat, Nat.reduceAdd, Int.reduceEq, Int.reduceLT, Int.reduceLE, Int.reduceNeg, bI_T, bI_F, ↓if_pos, ↓if_neg, c4, k_isMapped h hd hp, hm]
    | true =>
      have hm0 : ¬ T (64 * d + p) < 0 := by unfold tMp at hm; rw [decide_eq_true_eq] at hm; omega
      have w4 : w = 0 ∨ w = 1 ∨ w = 2 ∨ w = 3 := by omega
      rcases w4 with rfl | rfl | rfl | rfl
      · simp (disch := first | assumption | omega) only [e114_0, e114_1, e114_2, e114_5, e114_6, e114_7, e114_8, e114_11, e114_12, e114_13, e114_14, e114_15, e114_18, e114_21, e114_23, e114_24, e114_25_c0, e114_25_c1, e114_25_c2, e114_25_d, e114_52, e114_53, e114_54, e114_55, e114_58, e114_59, e114_60, e114_61, e114_62, e114_65, e114_66, e114_67, e114_68, e114_69, e114_72, e114_75, e114_76, e114_79, e114_80, e114_81, e114_82, e114_83, e114_84, e114_87, e114_90, e114_91, e114_94, e114_95, gK0_eq, gK1_eq, gK3_eq, w32_id, bI_eq0, bI_eq1, Bool.false_eq_true, not_true_eq_false, not_false_eq_true, ne_eq, ite_not, ↓reduceIte, if_true, if_false, Int.reduceToNat, Nat.reduceAdd, Int.reduceEq, Int.reduceLT, Int.reduceLE, Int.reduceNeg, bI_T, bI_F, ↓if_pos, ↓if_neg, k_isMapped h hd hp, hm, k_frameOf h hd hp, Int.mul_zero, Int.zero_add]
      · have e : tRg T d p = T (256 + (64 * d + p)) := if_neg hm0
        simp (disch := first | assumption | omega) only [e114_0, e114_1, e114_2, e114_5, e114_6, e114_7, e114_8, e114_11, e114_12, e114_13, e114_14, e114_15, e114_18, e114_21, e114_23, e114_24, e114_25_c0, e114_25_c1, e114_25_c2, e114_25_d, e114_52, e114_53, e114_54, e114_55, e114_58, e114_59, e114_60, e114_61, e114_62, e114_65, e114_66, e114_67, e114_68, e114_69, e114_72, e114_75, e114_76, e114_79, e114_80, e114_81, e114_82, e114_83, e114_84, e114_87, e114_90, e114_91, e114_94, e114_95, gK0_eq, gK1_eq, gK3_eq, w32_id, bI_eq0, bI_eq1, Bool.false_eq_true, not_true_eq_false, not_false_eq_true, ne_eq, ite_not, ↓reduceIte, if_true, if_false, Int.reduceToNat, Nat.reduceAdd, Int.reduceEq, Int.reduceLT, Int.reduceLE, Int.reduceNeg, bI_T, bI_F, ↓if_pos, ↓if_neg, k_isMapped h hd hp, hm, k_rightsOf h hd hp, e, Int.mul_one]
      · rcases r1 with r1 | r1
        · simp (disch := first | assumption | omega) only [e114_0, e114_1, e114_2, e114_5, e114_6, e114_7, e114_8, e114_11, e114_12, e114_13, e114_14, e114_15, e114_18, e114_21, e114_23, e114_24, e114_25_c0, e114_25_c1, e114_25_c2, e114_25_d, e114_52, e114_53, e114_54, e114_55, e114_58, e114_59, e114_60, e114_61, e114_62, e114_65, e114_66, e114_67, e114_68, e114_69, e114_72, e114_75, e114_76, e114_79, e114_80, e114_81, e114_82, e114_83, e114_84, e114_87, e114_90, e114_91, e114_94, e114_95, gK0_eq, gK1_eq, gK3_eq, w32_id, bI_eq0, bI_eq1, Bool.false_eq_true, not_true_eq_false, not_false_eq_true, ne_eq, ite_not, ↓reduceIte, if_true, if_false, Int.reduceToNat, Nat.reduceAdd, Int.reduceEq, Int.reduceLT, Int.reduceLE, Int.reduceNeg, bI_T, bI_F, ↓if_pos, ↓if_neg, k_isMapped h hd hp, hm, k_isReserved h hd hp, r1, Int.reduceMul]
        · simp (disch := first | assumption | omega) only [e114_0, e114_1, e114_2, e114_5, e114_6, e114_7, e114_8, e114_11, e114_12, e114_13, e114_14, e114_15, e114_18, e114_21, e114_23, e114_24, e114_25_c0, e114_25_c1, e114_25_c2, e114_25_d, e114_52, e114_53, e114_54, e114_55, e114_58, e114_59, e114_60, e114_61, e114_62, e114_65, e114_66, e114_67, e114_68, e114_69, e114_72, e114_75, e114_76, e114_79, e114_80, e114_81, e114_82, e114_83, e114_84, e114_87, e114_90, e114_91, e114_94, e114_95, gK0_eq, gK1_eq, gK3_eq, w32_id, bI_eq0, bI_eq1, Bool.false_eq_true, not_true_eq_false, not_false_eq_true, ne_eq, ite_not, ↓reduceIte, if_true, if_false, Int.reduceToNat, Nat.reduceAdd, Int.reduceEq, Int.reduceLT, Int.reduceLE, Int.reduceNeg, bI_T, bI_F, ↓if_pos, ↓if_neg, k_isMapped h hd hp, hm, k_isReserved h hd hp, r1, Int.reduceMul]
      · rcases r2 with r2 | r2
        · simp (disch := first | assumption | omega) only [e114_0, e114_1, e114_2, e114_5, e114_6, e114_7, e114_8, e114_11, e114_12, e114_13, e114_14, e114_15, e114_18, e114_21, e114_23, e114_24, e114_25_c0, e114_25_c1, e114_25_c2, e114_25_d, e114_52, e114_53, e114_54, e114_55, e114_58, e114_59, e114_60, e114_61, e114_62, e114_65, e114_66, e114_67, e114_68, e114_69, e114_72, e114_75, e114_76, e114_79, e114_80, e114_81, e114_82, e114_83, e114_84, e114_87, e114_90, e114_91, e114_94, e114_95, gK0_eq, gK1_eq, gK3_eq, w32_id, bI_eq0, bI_eq1, Bool.false_eq_true, not_true_eq_false, not_false_eq_true, ne_eq, ite_not, ↓reduceIte, if_true, if_false, Int.reduceToNat, Nat.reduceAdd, Int.reduceEq, Int.reduceLT, Int.reduceLE, Int.reduceNeg, bI_T, bI_F, ↓if_pos, ↓if_neg, k_isMapped h hd hp, hm, k_inBlock h hd hp, r2, Int.reduceMul]
        · simp (disch := first | assumption | omega) only [e114_0, e114_1, e114_2, e114_5, e114_6, e114_7, e114_8, e114_11, e114_12, e114_13, e114_14, e114_15, e114_18, e114_21, e114_23, e114_24, e114_25_c0, e114_25_c1, e114_25_c2, e114_25_d, e114_52, e114_53, e114_54, e114_55, e114_58, e114_59, e114_60, e114_61, e114_62, e114_65, e114_66, e114_67, e114_68, e114_69, e114_72, e114_75, e114_76, e114_79, e114_80, e114_81, e114_82, e114_83, e114_84, e114_87, e114_90, e114_91, e114_94, e114_95, gK0_eq, gK1_eq, gK3_eq, w32_id, bI_eq0, bI_eq1, Bool.false_eq_true, not_true_eq_false, not_false_eq_true, ne_eq, ite_not, ↓reduceIte, if_true, if_false, Int.reduceToNat, Nat.reduceAdd, Int.reduceEq, Int.reduceLT, Int.reduceLE, Int.reduceNeg, bI_T, bI_F, ↓if_pos, ↓if_neg, k_isMapped h hd hp, hm, k_inBlock h hd hp, r2, Int.reduceMul]
end TABLES
