/-! calls, side by side, first part -/
def tOk (X : gM) (T : Int → Int) : Prop := (0 ≤ T 1672 ∧ T 1672 ≤ 4) ∧ (0 ≤ T 1681 ∧ T 1681 ≤ 24) ∧ (0 ≤ T 1813 ∧ T 1813 ≤ X 178 0) ∧ (1 ≤ X 178 0 ∧ X 178 0 ≤ 16) ∧ (∀ j, 0 ≤ j → j < 256 → -1 ≤ T j ∧ T j < 64) ∧ tOin T ∧ tRqO (fun e => X 179 e) (X 167 12) T ∧ (0 ≤ T 1918 ∧ T 1918 ≤ 3) ∧ (0 ≤ T 1927 ∧ T 1927 ≤ 8) ∧ (∀ g, 0 ≤ g → g < 8 → -1 ≤ T (1673 + g) ∧ T (1673 + g) < 4 ∧ T (1673 + g) < T 1672) ∧ (∀ d, 0 ≤ d → d < 4 → 0 ≤ T (1668 + d) ∧ T (1668 + d) ≤ 3) ∧ tCaO 16 T ∧ tQuO T ∧ 0 ≤ T 1881 ∧ T 1881 ≤ 8
section CALLS
variable {B : Nat} {N : Int} {X X' μ μ' μ1 ν : gM} {T T' : Int → Int} {Q : Int → gM → Prop} {a v : Int} {G M : gM → (Int → gM → Prop) → Prop}
theorem gInv_T (h : gInv N μ) : ∃ T, mK μ 0 T = μ ∧ (gIX μ ∧ gBk μ 0 ∧ rSt 17 μ T μ ∧ tInv μ N T) ∧ tOk μ T := by
  obtain ⟨⟨hI, hW, hB⟩, hR, hM, T, hk, hr, ht⟩ := h
  refine ⟨T, hk, ⟨hI, ⟨hB, by omega, by omega⟩, hr, ht⟩, ?_⟩
  obtain ⟨t1, t2, t3, t4, t5, t6⟩ := ht
  have c := hr.2.2.2.2.1.1
  obtain ⟨c1, c2, c3⟩ := id c
  have c4 := c1.2.1
  refine ⟨t6, t4.2, ⟨c1.1, c1.2.1⟩, ⟨c2, c3⟩, fun j j0 j1 => (hr.2.1.2.2.2 j j0 j1).2.1, hr.2.2.1.1.2, t3, hr.2.2.2.2.2.2.1.1, hr.2.2.2.2.2.2.1.2.1, fun g g0 g1 => ?_, t2, ⟨c1.1, by omega, c1.2.2.1, c1.2.2.2⟩, t4.1, t3.1, t3.2.1⟩
  have := t1 g g0 g1
  omega
theorem cEq_s (h : gInv N μ) (hk : mK μ 0 T = μ) (f : gFr 17 67 μ μ1) (r : rSt 17 μ T' μ1) (t : tInv μ (N + 1) T') (hν : cFm μ1 ν) (run1 : ∀ Q : Int → gM → Prop, G μ Q = Q a μ1) (run2 : ∀ Q : Int → gM → Prop, M (mK μ1 0 T) Q = Q a (mK ν 0 T')) : cEq N μ G M :=
  ⟨a, μ1, mK ν 0 T', gInv_step h (Or.inl f) (cFm_mK hν) mK_keep r t, run1, fun Q => by rw [← run2 Q, mK_fr hk (gFr_mono f (by omega) (by omega))]⟩
theorem cEq_q (h : gInv N μ) (hk : mK μ 0 T = μ) (r : rSt 17 μ T μ) (t : tInv μ N T) (hν : cFm μ ν) (run1 : ∀ Q : Int → gM → Prop, G μ Q = Q a μ) (run2 : ∀ Q : Int → gM → Prop, M (mK μ 0 T) Q = Q a (mK ν 0 T)) : cEq N μ G M :=
  cEq_s h hk gFr_refl r (tInv_mono t) hν run1 run2
theorem gIX_fr (hI : gIX μ) (f : gFr 17 167 μ μ1) : gIX μ1 := gIX_congr (fun k i q => f k i (by omega)) hI
theorem gXe_fr (f : gFr 17 167 μ μ1) : gXe μ μ1 := fun k i q => f k i (by omega)
theorem gBk_fr (h : gBk μ 0) (f : gFr 17 167 μ μ1) : gBk μ1 0 := ⟨by rw [f _ _ (by omega)]; exact h.1, by omega⟩
theorem cFm2 {v : Int} : cFm μ (gS μ 167 2 v) := cFm_gS (Or.inl rfl)
theorem k_isDevice {e : Int} (h : rSt 17 X T μ) : gE 38 0 [gO 9 0, gI e] [] μ Q = Q (bI (0 ≤ e ∧ e < X 167 12)) μ := by
  have a2 := h.1.1.1.2.1
  by_cases c1 : 0 ≤ e
  · by_cases c2 : e < X 167 12
    · simp (disch := first | assumption | omega) only [e38_0, e38_1, e38_4, e38_5, e38_6, e38_9, e38_12, e38_15, e38_18, e38_19, e38_22, e38_23, gK0_eq, gK1_eq, gK3_eq, w32_id, bI_eq0, bI_eq1, Bool.false_eq_true, not_true_eq_false, not_false_eq_true, ne_eq, ite_not, ↓reduceIte, if_true, if_false, Int.reduceToNat, Nat.reduceAdd, Int.reduceEq, Int.reduceLT, Int.reduceLE, Int.reduceNeg, bI_T, bI_F, ↓if_pos, ↓if_neg, a2, c1, c2, and_self, show ¬ e < 0 by omega, show ¬ X 167 12 ≤ e by omega]
    · simp (disch := first | assumption | omega) only [e38_0, e38_1, e38_4, e38_5, e38_6, e38_9, e38_12, e38_15, e38_18, e38_19, e38_22, e38_23, gK0_eq, gK1_eq, gK3_eq, w32_id, bI_eq0, bI_eq1, Bool.false_eq_true, not_true_eq_false, not_false_eq_true, ne_eq, ite_not, ↓reduceIte, if_true, if_false, Int.reduceToNat, Nat.reduceAdd, Int.reduceEq, Int.reduceLT, Int.reduceLE, Int.reduceNeg, bI_T, bI_F, ↓if_pos, ↓if_neg, a2, c1, c2, and_false, show ¬ e < 0 by omega, show X 167 12 ≤ e by omega]
  · simp (disch := first | assumption | omega) only [e38_0, e38_1, e38_4, e38_5, e38_6, e38_9, e38_12, e38_15, e38_18, e38_19, e38_22, e38_23, gK0_eq, gK1_eq, gK3_eq, w32_id, bI_eq0, bI_eq1, Bool.false_eq_true, not_true_eq_false, not_false_eq_true, ne_eq, ite_not, ↓reduceIte, if_true, if_false, Int.reduceToNat, Nat.reduceAdd, Int.reduceEq, Int.reduceLT, Int.reduceLE, Int.reduceNeg, bI_T, bI_F, ↓if_pos, ↓if_neg, c1, false_and, show e < 0 by omega]
theorem k_isDomain {e : Int} (h : rSt 17 X T μ) : gE 39 0 [gO 9 0, gI e] [] μ Q = Q (bI (0 ≤ e ∧ e < T 1672)) μ := by
  have a2 := h.2.1.2.1
  by_cases c1 : 0 ≤ e
  · by_cases c2 : e < T 1672
    · simp (disch := first | assumption | omega) only [e39_0, e39_1, e39_4, e39_5, e39_6, e39_9, e39_12, e39_15, e39_18, e39_19, e39_22, e39_23, gK0_eq, gK1_eq, gK3_eq, w32_id, bI_eq0, bI_eq1, Bool.false_eq_true, not_true_eq_false, not_false_eq_true, ne_eq, ite_not, ↓reduceIte, if_true, if_false, Int.reduceToNat, Nat.reduceAdd, Int.reduceEq, Int.reduceLT, Int.reduceLE, Int.reduceNeg, bI_T, bI_F, ↓if_pos, ↓if_neg, a2, c1, c2, and_self, show ¬ e < 0 by omega, show ¬ T 1672 ≤ e by omega]
    · simp (disch := first | assumption | omega) only [e39_0, e39_1, e39_4, e39_5, e39_6, e39_9, e39_12, e39_15, e39_18, e39_19, e39_22, e39_23, gK0_eq, gK1_eq, gK3_eq, w32_id, bI_eq0, bI_eq1, Bool.false_eq_true, not_true_eq_false, not_false_eq_true, ne_eq, ite_not, ↓reduceIte, if_true, if_false, Int.reduceToNat, Nat.reduceAdd, Int.reduceEq, Int.reduceLT, Int.reduceLE, Int.reduceNeg, bI_T, bI_F, ↓if_pos, ↓if_neg, a2, c1, c2, and_false, show ¬ e < 0 by omega, show T 1672 ≤ e by omega]
  · simp (disch := first | assumption | omega) only [e39_0, e39_1, e39_4, e39_5, e39_6, e39_9, e39_12, e39_15, e39_18, e39_19, e39_22, e39_23, gK0_eq, gK1_eq, gK3_eq, w32_id, bI_eq0, bI_eq1, Bool.false_eq_true, not_true_eq_false, not_false_eq_true, ne_eq, ite_not, ↓reduceIte, if_true, if_false, Int.reduceToNat, Nat.reduceAdd, Int.reduceEq, Int.reduceLT, Int.reduceLE, Int.reduceNeg, bI_T, bI_F, ↓if_pos, ↓if_neg, c1, false_and, show e < 0 by omega]
theorem k_isPage {e : Int} {μ : gM} : gE 40 0 [gI e] [] μ Q = Q (bI (0 ≤ e ∧ e < 64)) μ := by
  by_cases c1 : 0 ≤ e
  · by_cases c2 : e < 64
    · simp (disch := first | assumption | omega) only [e40_0, e40_1, e40_4, e40_5, e40_7, e40_10, e40_11, e40_14, e40_15, gK0_eq, gK1_eq, gK3_eq, w32_id, bI_eq0, bI_eq1, Bool.false_eq_true, not_true_eq_false, not_false_eq_true, ne_eq, ite_not, ↓reduceIte, if_true, if_false, Int.reduceToNat, Nat.reduceAdd, Int.reduceEq, Int.reduceLT, Int.reduceLE, Int.reduceNeg, bI_T, bI_F, ↓if_pos, ↓if_neg, c1, c2, and_self, show ¬ e < 0 by omega, show ¬ 64 ≤ e by omega]
    · simp (disch := first | assumption | omega) only [e40_0, e40_1, e40_4, e40_5, e40_7, e40_10, e40_11, e40_14, e40_15, gK0_eq, gK1_eq, gK3_eq, w32_id, bI_eq0, bI_eq1, Bool.false_eq_true, not_true_eq_false, not_false_eq_true, ne_eq, ite_not, ↓reduceIte, if_true, if_false, Int.reduceToNat, Nat.reduceAdd, Int.reduceEq, Int.reduceLT, Int.reduceLE, Int.reduceNeg, bI_T, bI_F, ↓if_pos, ↓if_neg, c1, c2, and_false, show ¬ e < 0 by omega, show 64 ≤ e by omega]
  · simp (disch := first | assumption | omega) only [e40_0, e40_1, e40_4, e40_5, e40_7, e40_10, e40_11, e40_14, e40_15, gK0_eq, gK1_eq, gK3_eq, w32_id, bI_eq0, bI_eq1, Bool.false_eq_true, not_true_eq_false, not_false_eq_true, ne_eq, ite_not, ↓reduceIte, if_true, if_false, Int.reduceToNat, Nat.reduceAdd, Int.reduceEq, Int.reduceLT, Int.reduceLE, Int.reduceNeg, bI_T, bI_F, ↓if_pos, ↓if_neg, c1, false_and, show e < 0 by omega]
theorem k_isFrame {e : Int} {μ : gM} : gE 41 0 [gI e] [] μ Q = Q (bI (0 ≤ e ∧ e < 64)) μ := by
  by_cases c1 : 0 ≤ e
  · by_cases c2 : e < 64
    · simp (disch := first | assumption | omega) only [e41_0, e41_1, e41_4, e41_5, e41_7, e41_10, e41_11, e41_14, e41_15, gK0_eq, gK1_eq, gK3_eq, w32_id, bI_eq0, bI_eq1, Bool.false_eq_true, not_true_eq_false, not_false_eq_true, ne_eq, ite_not, ↓reduceIte, if_true, if_false, Int.reduceToNat, Nat.reduceAdd, Int.reduceEq, Int.reduceLT, Int.reduceLE, Int.reduceNeg, bI_T, bI_F, ↓if_pos, ↓if_neg, c1, c2, and_self, show ¬ e < 0 by omega, show ¬ 64 ≤ e by omega]
    · simp (disch := first | assumption | omega) only [e41_0, e41_1, e41_4, e41_5, e41_7, e41_10, e41_11, e41_14, e41_15, gK0_eq, gK1_eq, gK3_eq, w32_id, bI_eq0, bI_eq1, Bool.false_eq_true, not_true_eq_false, not_false_eq_true, ne_eq, ite_not, ↓reduceIte, if_true, if_false, Int.reduceToNat, Nat.reduceAdd, Int.reduceEq, Int.reduceLT, Int.reduceLE, Int.reduceNeg, bI_T, bI_F, ↓if_pos, ↓if_neg, c1, c2, and_false, show ¬ e < 0 by omega, show 64 ≤ e by omega]
  · simp (disch := first | assumption | omega) only [e41_0, e41_1, e41_4, e41_5, e41_7, e41_10, e41_11, e41_14, e41_15, gK0_eq, gK1_eq, gK3_eq, w32_id, bI_eq0, bI_eq1, Bool.false_eq_true, not_true_eq_false, not_false_eq_true, ne_eq, ite_not, ↓reduceIte, if_true, if_false, Int.reduceToNat, Nat.reduceAdd, Int.reduceEq, Int.reduceLT, Int.reduceLE, Int.reduceNeg, bI_T, bI_F, ↓if_pos, ↓if_neg, c1, false_and, show e < 0 by omega]
theorem k_isRight {e : Int} {μ : gM} : gE 42 0 [gI e] [] μ Q = Q (bI (1 ≤ e ∧ e ≤ 2)) μ := by
  by_cases c1 : e = 1
  · simp (disch := first | assumption | omega) only [e42_0, e42_1, e42_2, e42_5, e42_6, e42_7, e42_10, e42_11, e42_14, e42_15, gK0_eq, gK1_eq, gK3_eq, w32_id, bI_eq0, bI_eq1, Bool.false_eq_true, not_true_eq_false, not_false_eq_true, ne_eq, ite_not, ↓reduceIte, if_true, if_false, Int.reduceToNat, Nat.reduceAdd, Int.reduceEq, Int.reduceLT, Int.reduceLE, Int.reduceNeg, bI_T, bI_F, ↓if_pos, ↓if_neg, c1, and_self]
  · by_cases c2 : e = 2
    · simp (disch := first | assumption | omega) only [e42_0, e42_1, e42_2, e42_5, e42_6, e42_7, e42_10, e42_11, e42_14, e42_15, gK0_eq, gK1_eq, gK3_eq, w32_id, bI_eq0, bI_eq1, Bool.false_eq_true, not_true_eq_false, not_false_eq_true, ne_eq, ite_not, ↓reduceIte, if_true, if_false, Int.reduceToNat, Nat.reduceAdd, Int.reduceEq, Int.reduceLT, Int.reduceLE, Int.reduceNeg, bI_T, bI_F, ↓if_pos, ↓if_neg, c2, and_self]
    · simp (disch := first | assumption | omega) only [e42_0, e42_1, e42_2, e42_5, e42_6, e42_7, e42_10, e42_11, e42_14, e42_15, gK0_eq, gK1_eq, gK3_eq, w32_id, bI_eq0, bI_eq1, Bool.false_eq_true, not_true_eq_false, not_false_eq_true, ne_eq, ite_not, ↓reduceIte, if_true, if_false, Int.reduceToNat, Nat.reduceAdd, Int.reduceEq, Int.reduceLT, Int.reduceLE, Int.reduceNeg, bI_T, bI_F, ↓if_pos, ↓if_neg, c1, c2, show ¬ (1 ≤ e ∧ e ≤ 2) by omega]
theorem cntF_add {P : Int → Bool} : ∀ (n m : Nat) (k : Int), cntF P k (n + m) = cntF P k n + cntF P (k + n) m := by
  intro n
  induction n with
  | zero => intro m k; rw [Nat.zero_add, cntF, Int.natCast_zero, Int.add_zero, Int.zero_add]
  | succ n ih =>
    intro m k
    rw [show n + 1 + m = (n + m) + 1 by omega, cntF, cntF, ih m (k + 1), show k + 1 + (n : Int) = k + ((n + 1 : Nat) : Int) by omega]
    omega
theorem rFr_dom {x : Nat} (h : rFr x T μ) (c : T 1672 ≠ 4) {w : Int} : rFr x (tS (tS T (1664 + T 1672) w) 1672 (T 1672 + 1)) μ := by
  obtain ⟨⟨⟨⟨g0, g1⟩, g2⟩, g3⟩, g4, g5⟩ := h
  have lo : ∀ j, j < 1664 → tS (tS T (1664 + T 1672) w) 1672 (T 1672 + 1) j = T j := fun j hj => by rw [tS_ne (by omega), tS_ne (by omega)]
  have e72 : tS (tS T (1664 + T 1672) w) 1672 (T 1672 + 1) 1672 = T 1672 + 1 := tS_same
  refine ⟨⟨⟨by rw [e72]; omega, fun k k0 k1 k2 => by rw [e72] at k2; rw [lo k (by omega)]; exact g2 k k0 k1 (by omega)⟩, fun f w f0 f1 w0 w1 => by rw [lo _ (by omega)]; exact g3 f w f0 f1 w0 w1⟩, fun f f0 f1 => ?_, fun f d f0 f1 d0 d1 => ?_⟩
  · have e : tUses (tS (tS T (1664 + T 1672) w) 1672 (T 1672 + 1)) f = tUses T f := by
      unfold tUses
      rw [e72, show (64 * (T 1672 + 1)).toNat = (64 * T 1672).toNat + 64 by omega, cntF_add, cntF_congr (P' := fun k => decide (T k = f)) (64 * T 1672).toNat 0 (fun i i0 i1 => by rw [lo i (by omega)]), cntF_congr (P' := fun _ => false) 64 _ (fun i i0 i1 => by
        rw [lo i (by omega)]
        have := g2 i (by omega) (by omega) (by omega)
        exact decide_eq_false (by omega)), cntF_none, Int.add_zero]
    rw [e, lo _ (by omega), lo _ (by omega)]
    exact g4 f f0 f1
  · obtain ⟨b1, b2⟩ := g5 f d f0 f1 d0 d1
    refine ⟨b1, fun p hp => ?_⟩
    rw [b2 p hp]
    unfold tOb
    rw [lo _ (by omega)]
theorem c_domain (h : gInv N μ) : cEq N μ (gE 5 0 [gO 9 0, gI v] []) (gE 257 0 [gO 10 167, gI v] []) := by
  obtain ⟨T, hk, ⟨hI, hb, hr, ht⟩, ok⟩ := gInv_T h
  obtain ⟨μ1, f, r, run⟩ := k_addDomain (v := v) hr.2.1
  have ff : gFr 17 67 μ μ1 := gFr_mono f (by omega) (by omega)
  refine cEq_s (T := T) (T' := tDomT T v) h hk ff ?_ (tInv_dom hI ht) cFm2 (fun Q => by simp (disch := first | assumption | omega) only [e5_0, e5_1, e5_4, e5_7, e5_8, e5_11, gK0_eq, gK1_eq, gK3_eq, w32_id, bI_eq0, bI_eq1, Bool.false_eq_true, not_true_eq_false, not_false_eq_true, ne_eq, ite_not, ↓reduceIte, if_true, if_false, Int.reduceToNat, Nat.reduceAdd, Int.reduceEq, Int.reduceLT, Int.reduceLE, Int.reduceNeg, bI_T, bI_F, ↓if_pos, ↓if_neg, run]) (fun Q => s_domain (gBk_fr hb (gFr_mono ff (by omega) (by omega))) ok.1)
  have hi : ∀ j, 1673 ≤ j → tDomT T v j = T j := fun j hj => by
    unfold tDomT
    split
    · rfl
    · rw [tS_ne (by omega), tS_ne (by have := ok.1; omega)]
  have r3 : rFr 39 (tDomT T v) μ := by
    unfold tDomT
    split
    · exact hr.2.2.1
    · rename_i c; exact rFr_dom hr.2.2.1 c
  exact ⟨rTr_fr hI hr.1 f (by omega), r, rFr_fr r3 f (by omega) (fun j hj => rfl), rQu_fr hr.2.2.2.1 f (by omega) (fun j j1 j2 => by exact hi j (by omega)), rCa_fr hr.2.2.2.2.1 f (by omega) (fun j j1 j2 => by exact hi j (by omega)), rRq_fr hr.2.2.2.2.2.1 f (by omega) (fun j j1 j2 => by exact hi j (by omega)), rLg_fr hr.2.2.2.2.2.2.1 f (by omega) (fun j hj => by exact hi j (by omega)), rDm_fr hI hr.2.2.2.2.2.2.2 f (by omega) (fun j j1 j2 => by exact hi j (by omega))⟩
theorem c_map {d p f r : Int} (h : gInv N μ) (hv : v = 0 ∨ v = 1) : cEq N μ (gE 6 0 [gO 9 0, gI d, gI p, gI f, gI r, gI v] []) (gE 272 0 [gO 10 167, gI d, gI p, gI f, gI r, gI v, gX, gX] []) := by
  obtain ⟨T, hk, ⟨hI, hb, hr, ht⟩, ok⟩ := gInv_T h
  obtain ⟨n, hn⟩ : ∃ n : Int, n = if v = 0 then 1 else 4 := ⟨_, rfl⟩
  have n14 : n = 1 ∨ n = 4 := by rcases hv with rfl | rfl <;> simp at hn <;> omega
  by_cases c : 0 ≤ d ∧ d < T 1672 ∧ 0 ≤ p ∧ p < 64 ∧ 0 ≤ f ∧ f < 64 ∧ 1 ≤ r ∧ r ≤ 3 ∧ p % n = 0 ∧ f % n = 0
  · obtain ⟨μ1, ff, rr, run⟩ := k_mapPages (v := v) hI hr hn rfl c
    refine cEq_s (T := T) h hk ff rr (tInv_map hI ht n14) cFm2 (fun Q => ?_) (fun Q => s_map (gBk_fr hb (gFr_mono ff (by omega) (by omega))) ok.1 n hn)
    obtain ⟨c1, c2, c3, c4, c5, c6, c7, c8, c9, c10⟩ := c
    rcases hv with rfl | rfl
    · simp (disch := first | assumption | omega) only [e6_0, e6_1, e6_2, e6_5, e6_8, e6_9, e6_12, e6_15, e6_16, e6_19, e6_22, e6_24, e6_25, e6_28, e6_30, e6_31, e6_34, e6_35, e6_36, e6_38, e6_41, e6_42, e6_43, e6_44, e6_47, e6_48, e6_49, e6_50, e6_53, e6_54, e6_55, e6_56, e6_59, e6_60, e6_61, e6_62, e6_64, e6_66, e6_69, gK0_eq, gK1_eq, gK3_eq, w32_id, bI_eq0, bI_eq1, Bool.false_eq_true, not_true_eq_false, not_false_eq_true, ne_eq, ite_not, ↓reduceIte, if_true, if_false, Int.reduceToNat, Nat.reduceAdd, Int.reduceEq, Int.reduceLT, Int.reduceLE, Int.reduceNeg, bI_T, bI_F, ↓if_pos, ↓if_neg, k_isDomain hr, k_isPage, k_isFrame, c1, c2, c3, c4, c5, c6, c7, c8, and_self, run, show ¬ r < 1 by omega]
    · have n4 : n = 4 := by simpa using hn
      subst n4
      simp (disch := first | assumption | omega) only [e6_0, e6_1, e6_2, e6_5, e6_8, e6_9, e6_12, e6_15, e6_16, e6_19, e6_22, e6_24, e6_25, e6_28, e6_30, e6_31, e6_34, e6_35, e6_36, e6_38, e6_41, e6_42, e6_43, e6_44, e6_47, e6_48, e6_49, e6_50, e6_53, e6_54, e6_55, e6_56, e6_59, e6_60, e6_61, e6_62, e6_64, e6_66, e6_69, gK0_eq, gK1_eq, gK3_eq, w32_id, bI_eq0, bI_eq1, Bool.false_eq_true, not_true_eq_false, not_false_eq_true, ne_eq, ite_not, ↓reduceIte, if_true, if_false, Int.reduceToNat, Nat.reduceAdd, Int.reduceEq, Int.reduceLT, Int.reduceLE, Int.reduceNeg, bI_T, bI_F, ↓if_pos, ↓if_neg, k_isDomain hr, k_isPage, k_isFrame, c1, c2, c3, c4, c5, c6, c7, c8, c9, c10, and_self, run, show ¬ r < 1 by omega, irem32_id]
  · have eT : tMapT T d p f r n (if v = 0 then 0 else 2) = T := by unfold tMapT; rw [if_neg c]
    have eA : tMapA T (tMapT T d p f r n (if v = 0 then 0 else 2)) d p f r n = -1 := by unfold tMapA; rw [if_neg c]
    refine cEq_q (T := T) (a := -1) h hk hr ht cFm2 (fun Q => ?_) (fun Q => by rw [s_map hb ok.1 n hn, eA, eT])
    by_cases g1 : 0 ≤ d ∧ d < T 1672
    · by_cases g2 : 0 ≤ p ∧ p < 64
      · by_cases g3 : 0 ≤ f ∧ f < 64
        · by_cases g4 : r < 1
          · simp (disch := first | assumption | omega) only [e6_0, e6_1, e6_2, e6_5, e6_8, e6_9, e6_12, e6_15, e6_16, e6_19, e6_22, e6_24, e6_25, e6_28, e6_30, e6_31, e6_34, e6_35, e6_36, e6_38, e6_41, e6_42, e6_43, e6_44, e6_47, e6_48, e6_49, e6_50, e6_53, e6_54, e6_55, e6_56, e6_59, e6_60, e6_61, e6_62, e6_64, e6_66, e6_69, gK0_eq, gK1_eq, gK3_eq, w32_id, bI_eq0, bI_eq1, Bool.false_eq_true, not_true_eq_false, not_false_eq_true, ne_eq, ite_not, ↓reduceIte, if_true, if_false, Int.reduceToNat, Nat.reduceAdd, Int.reduceEq, Int.reduceLT, Int.reduceLE, Int.reduceNeg, bI_T, bI_F, ↓if_pos, ↓if_neg, k_isDomain hr, k_isPage, k_isFrame, g1, g2, g3, g4, and_self]
          · by_cases g5 : r ≤ 3
            · rcases hv with rfl | rfl
              · have n1 : n = 1 := by simpa using hn
                subst n1
                exact absurd ⟨g1.1, g1.2, g2.1, g2.2, g3.1, g3.2, by omega, g5, by omega, by omega⟩ c
              · have n4 : n = 4 := by simpa using hn
                subst n4
                have p0 := g2.1
                have f0 := g3.1
                by_cases g6 : p % 4 = 0
                · have g7 : ¬ f % 4 = 0 := fun z => c ⟨g1.1, g1.2, g2.1, g2.2, g3.1, g3.2, by omega, g5, g6, z⟩
                  simp (disch := first | assumption | omega) only [e6_0, e6_1, e6_2, e6_5, e6_8, e6_9, e6_12, e6_15, e6_16, e6_19, e6_22, e6_24, e6_25, e6_28, e6_30, e6_31, e6_34, e6_35, e6_36, e6_38, e6_41, e6_42, e6_43, e6_44, e6_47, e6_48, e6_49, e6_50, e6_53, e6_54, e6_55, e6_56, e6_59, e6_60, e6_61, e6_62, e6_64, e6_66, e6_69, gK0_eq, gK1_eq, gK3_eq, w32_id, bI_eq0, bI_eq1, Bool.false_eq_true, not_true_eq_false, not_false_eq_true, ne_eq, ite_not, ↓reduceIte, if_true, if_false, Int.reduceToNat, Nat.reduceAdd, Int.reduceEq, Int.reduceLT, Int.reduceLE, Int.reduceNeg, bI_T, bI_F, ↓if_pos, ↓if_neg, k_isDomain hr, k_isPage, k_isFrame, g1, g2, g3, g4, g5, g6, g7, and_self, irem32_id]
                · simp (disch := first | assumption | omega) only [e6_0, e6_1, e6_2, e6_5, e6_8, e6_9, e6_12, e6_15, e6_16, e6_19, e6_22, e6_24, e6_25, e6_28, e6_30, e6_31, e6_34, e6_35, e6_36, e6_38, e6_41, e6_42, e6_43, e6_44, e6_47, e6_48, e6_49, e6_50, e6_53, e6_54, e6_55, e6_56, e6_59, e6_60, e6_61, e6_62, e6_64, e6_66, e6_69, gK0_eq, gK1_eq, gK3_eq, w32_id, bI_eq0, bI_eq1, Bool.false_eq_true, not_true_eq_false, not_false_eq_true, ne_eq, ite_not, ↓reduceIte, if_true, if_false, Int.reduceToNat, Nat.reduceAdd, Int.reduceEq, Int.reduceLT, Int.reduceLE, Int.reduceNeg, bI_T, bI_F, ↓if_pos, ↓if_neg, k_isDomain hr, k_isPage, k_isFrame, g1, g2, g3, g4, g5, g6, and_self, irem32_id]
            · simp (disch := first | assumption | omega) only [e6_0, e6_1, e6_2, e6_5, e6_8, e6_9, e6_12, e6_15, e6_16, e6_19, e6_22, e6_24, e6_25, e6_28, e6_30, e6_31, e6_34, e6_35, e6_36, e6_38, e6_41, e6_42, e6_43, e6_44, e6_47, e6_48, e6_49, e6_50, e6_53, e6_54, e6_55, e6_56, e6_59, e6_60, e6_61, e6_62, e6_64, e6_66, e6_69, gK0_eq, gK1_eq, gK3_eq, w32_id, bI_eq0, bI_eq1, Bool.false_eq_true, not_true_eq_false, not_false_eq_true, ne_eq, ite_not, ↓reduceIte, if_true, if_false, Int.reduceToNat, Nat.reduceAdd, Int.reduceEq, Int.reduceLT, Int.reduceLE, Int.reduceNeg, bI_T, bI_F, ↓if_pos, ↓if_neg, k_isDomain hr, k_isPage, k_isFrame, g1, g2, g3, g4, g5, and_self]
        · simp (disch := first | assumption | omega) only [e6_0, e6_1, e6_2, e6_5, e6_8, e6_9, e6_12, e6_15, e6_16, e6_19, e6_22, e6_24, e6_25, e6_28, e6_30, e6_31, e6_34, e6_35, e6_36, e6_38, e6_41, e6_42, e6_43, e6_44, e6_47, e6_48, e6_49, e6_50, e6_53, e6_54, e6_55, e6_56, e6_59, e6_60, e6_61, e6_62, e6_64, e6_66, e6_69, gK0_eq, gK1_eq, gK3_eq, w32_id, bI_eq0, bI_eq1, Bool.false_eq_true, not_true_eq_false, not_false_eq_true, ne_eq, ite_not, ↓reduceIte, if_true, if_false, Int.reduceToNat, Nat.reduceAdd, Int.reduceEq, Int.reduceLT, Int.reduceLE, Int.reduceNeg, bI_T, bI_F, ↓if_pos, ↓if_neg, k_isDomain hr, k_isPage, k_isFrame, g1, g2, g3, and_self]
      · simp (disch := first | assumption | omega) only [e6_0, e6_1, e6_2, e6_5, e6_8, e6_9, e6_12, e6_15, e6_16, e6_19, e6_22, e6_24, e6_25, e6_28, e6_30, e6_31, e6_34, e6_35, e6_36, e6_38, e6_41, e6_42, e6_43, e6_44, e6_47, e6_48, e6_49, e6_50, e6_53, e6_54, e6_55, e6_56, e6_59, e6_60, e6_61, e6_62, e6_64, e6_66, e6_69, gK0_eq, gK1_eq, gK3_eq, w32_id, bI_eq0, bI_eq1, Bool.false_eq_true, not_true_eq_false, not_false_eq_true, ne_eq, ite_not, ↓reduceIte, if_true, if_false, Int.reduceToNat, Nat.reduceAdd, Int.reduceEq, Int.reduceLT, Int.reduceLE, Int.reduceNeg, bI_T, bI_F, ↓if_pos, ↓if_neg, k_isDomain hr, k_isPage, g1, g2, and_self]
    · simp (disch := first | assumption | omega) only [e6_0, e6_1, e6_2, e6_5, e6_8, e6_9, e6_12, e6_15, e6_16, e6_19, e6_22, e6_24, e6_25, e6_28, e6_30, e6_31, e6_34, e6_35, e6_36, e6_38, e6_41, e6_42, e6_43, e6_44, e6_47, e6_48, e6_49, e6_50, e6_53, e6_54, e6_55, e6_56, e6_59, e6_60, e6_61, e6_62, e6_64, e6_66, e6_69, gK0_eq, gK1_eq, gK3_eq, w32_id, bI_eq0, bI_eq1, Bool.false_eq_true, not_true_eq_false, not_false_eq_true, ne_eq, ite_not, ↓reduceIte, if_true, if_false, Int.reduceToNat, Nat.reduceAdd, Int.reduceEq, Int.reduceLT, Int.reduceLE, Int.reduceNeg, bI_T, bI_F, ↓if_pos, ↓if_neg, k_isDomain hr, g1]
theorem c_unmap {d p : Int} (h : gInv N μ) : cEq N μ (gE 7 0 [gO 9 0, gI d, gI p] []) (gE 279 0 [gO 10 167, gI d, gI p] []) := by
  obtain ⟨T, hk, ⟨hI, hb, hr, ht⟩, ok⟩ := gInv_T h
  obtain ⟨o1, o2, o3, o4, o5, o6, o7, o8, o9, o10, o11, o12⟩ := id ok
  by_cases g1 : 0 ≤ d ∧ d < T 1672
  · by_cases g2 : 0 ≤ p ∧ p < 64
    · obtain ⟨μ1, ff, rr, run⟩ := k_unmapPage hI hr g1 g2 (fun d d0 d1 => (o11 d d0 d1).2)
      exact cEq_s (T := T) h hk ff rr (tInv_unm hI ht o5 o6) cFm2 (fun Q => by simp (disch := first | assumption | omega) only [e7_0, e7_1, e7_2, e7_5, e7_8, e7_9, e7_12, e7_15, e7_16, e7_19, e7_20, e7_21, e7_24, e7_27, e7_28, gK0_eq, gK1_eq, gK3_eq, w32_id, bI_eq0, bI_eq1, Bool.false_eq_true, not_true_eq_false, not_false_eq_true, ne_eq, ite_not, ↓reduceIte, if_true, if_false, Int.reduceToNat, Nat.reduceAdd, Int.reduceEq, Int.reduceLT, Int.reduceLE, Int.reduceNeg, bI_T, bI_F, ↓if_pos, ↓if_neg, k_isDomain hr, k_isPage, g1, g2, and_self, run]) (fun Q => s_unmap (gBk_fr hb (gFr_mono ff (by omega) (by omega))) o1 o2 o5 o11)
    · refine cEq_q (T := T) (a := -1) h hk hr ht cFm2 (fun Q => by simp (disch := first | assumption | omega) only [e7_0, e7_1, e7_2, e7_5, e7_8, e7_9, e7_12, e7_15, e7_16, e7_19, e7_20, e7_21, e7_24, e7_27, e7_28, gK0_eq, gK1_eq, gK3_eq, w32_id, bI_eq0, bI_eq1, Bool.false_eq_true, not_true_eq_false, not_false_eq_true, ne_eq, ite_not, ↓reduceIte, if_true, if_false, Int.reduceToNat, Nat.reduceAdd, Int.reduceEq, Int.reduceLT, Int.reduceLE, Int.reduceNeg, bI_T, bI_F, ↓if_pos, ↓if_neg, k_isDomain hr, k_isPage, g1, g2, and_self]) (fun Q => by
        rw [s_unmap hb o1 o2 o5 o11]
        unfold tUnmA tUnmT
        rw [if_neg (by omega), if_neg (by omega)])
  · refine cEq_q (T := T) (a := -1) h hk hr ht cFm2 (fun Q => by simp (disch := first | assumption | omega) only [e7_0, e7_1, e7_2, e7_5, e7_8, e7_9, e7_12, e7_15, e7_16, e7_19, e7_20, e7_21, e7_24, e7_27, e7_28, gK0_eq, gK1_eq, gK3_eq, w32_id, bI_eq0, bI_eq1, Bool.false_eq_true, not_true_eq_false, not_false_eq_true, ne_eq, ite_not, ↓reduceIte, if_true, if_false, Int.reduceToNat, Nat.reduceAdd, Int.reduceEq, Int.reduceLT, Int.reduceLE, Int.reduceNeg, bI_T, bI_F, ↓if_pos, ↓if_neg, k_isDomain hr, k_isPage, g1]) (fun Q => by
      rw [s_unmap hb o1 o2 o5 o11]
      unfold tUnmA tUnmT
      rw [if_neg (by omega), if_neg (by omega)])
theorem c_attach {e d : Int} (h : gInv N μ) : cEq N μ (gE 8 0 [gO 9 0, gI e, gI d] []) (gE 306 0 [gO 10 167, gI e, gI d, gX, gX, gX] []) := by
  obtain ⟨T, hk, ⟨hI, hb, hr, ht⟩, ok⟩ := gInv_T h
  by_cases g1 : 0 ≤ e ∧ e < μ 167 12
  · by_cases g2 : 0 ≤ d ∧ d < T 1672
    · obtain ⟨μ1, ff, rr, run⟩ := k_attach hI hr g1 g2 (fun g g0 g1 => (ok.2.2.2.2.2.2.2.2.2.1 g g0 g1).1)
      have fw : gFr 17 167 μ μ1 := gFr_mono ff (by omega) (by omega)
      obtain ⟨x1, x2⟩ := tAt_X (gXe_fr fw)
      exact cEq_s (T := T) (a := tAtA μ T e d) h hk ff rr (tInv_att hI ht) cFm2 (fun Q => by simp (disch := first | assumption | omega) only [e8_0, e8_1, e8_2, e8_5, e8_8, e8_9, e8_10, e8_13, e8_16, e8_17, e8_20, e8_21, e8_22, e8_25, e8_28, e8_29, gK0_eq, gK1_eq, gK3_eq, w32_id, bI_eq0, bI_eq1, Bool.false_eq_true, not_true_eq_false, not_false_eq_true, ne_eq, ite_not, ↓reduceIte, if_true, if_false, Int.reduceToNat, Nat.reduceAdd, Int.reduceEq, Int.reduceLT, Int.reduceLE, Int.reduceNeg, bI_T, bI_F, ↓if_pos, ↓if_neg, k_isDevice hr, k_isDomain hr, g1, g2, and_self, run]) (fun Q => by rw [s_attach (gBk_fr hb fw) (gIX_fr hI fw) ok.1, x1, x2])
    · refine cEq_q (T := T) (a := -1) h hk hr ht cFm2 (fun Q => by simp (disch := first | assumption | omega) only [e8_0, e8_1, e8_2, e8_5, e8_8, e8_9, e8_10, e8_13, e8_16, e8_17, e8_20, e8_21, e8_22, e8_25, e8_28, e8_29, gK0_eq, gK1_eq, gK3_eq, w32_id, bI_eq0, bI_eq1, Bool.false_eq_true, not_true_eq_false, not_false_eq_true, ne_eq, ite_not, ↓reduceIte, if_true, if_false, Int.reduceToNat, Nat.reduceAdd, Int.reduceEq, Int.reduceLT, Int.reduceLE, Int.reduceNeg, bI_T, bI_F, ↓if_pos, ↓if_neg, k_isDevice hr, k_isDomain hr, g1, g2, and_self]) (fun Q => by
        rw [s_attach hb hI ok.1]
        unfold tAtA tAtT
        rw [if_neg (by omega), if_neg (by omega)])
  · refine cEq_q (T := T) (a := -1) h hk hr ht cFm2 (fun Q => by simp (disch := first | assumption | omega) only [e8_0, e8_1, e8_2, e8_5, e8_8, e8_9, e8_10, e8_13, e8_16, e8_17, e8_20, e8_21, e8_22, e8_25, e8_28, e8_29, gK0_eq, gK1_eq, gK3_eq, w32_id, bI_eq0, bI_eq1, Bool.false_eq_true, not_true_eq_false, not_false_eq_true, ne_eq, ite_not, ↓reduceIte, if_true, if_false, Int.reduceToNat, Nat.reduceAdd, Int.reduceEq, Int.reduceLT, Int.reduceLE, Int.reduceNeg, bI_T, bI_F, ↓if_pos, ↓if_neg, k_isDevice hr, g1]) (fun Q => by
      rw [s_attach hb hI ok.1]
      unfold tAtA tAtT
      rw [if_neg (by omega), if_neg (by omega)])
theorem c_detach {e : Int} (h : gInv N μ) : cEq N μ (gE 9 0 [gO 9 0, gI e] []) (gE 308 0 [gO 10 167, gI e, gX, gX, gX] []) := by
  obtain ⟨T, hk, ⟨hI, hb, hr, ht⟩, ok⟩ := gInv_T h
  obtain ⟨o1, o2, o3, o4, o5, o6, o7, o8, o9, o10, o11, o12⟩ := id ok
  have n2 := hI.2.1
  by_cases g1 : 0 ≤ e ∧ e < μ 167 12
  · have g := gX8 hI (d := e) (by omega)
    have og := o10 _ g.1 g.2.1
    by_cases g2 : T (1673 + μ 179 e) < 0 ∨ 22 < T 1681
    · obtain ⟨μ1, ff, rr, run⟩ := k_detach_no hI hr g1 (fun g g0 g1 => (o10 g g0 g1).1) g2
      have fw : gFr 17 167 μ μ1 := gFr_mono ff (by omega) (by omega)
      have x9 : μ1 179 e = μ 179 e := fw _ _ (by omega)
      have x2 : μ1 167 12 = μ 167 12 := fw _ _ (by omega)
      exact cEq_s (T := T) (a := -2) h hk ff rr (by split <;> exact tInv_ref hI ht) cFm2 (fun Q => by simp (disch := first | assumption | omega) only [e9_0, e9_1, e9_2, e9_5, e9_8, e9_9, e9_12, e9_13, e9_16, e9_19, e9_20, gK0_eq, gK1_eq, gK3_eq, w32_id, bI_eq0, bI_eq1, Bool.false_eq_true, not_true_eq_false, not_false_eq_true, ne_eq, ite_not, ↓reduceIte, if_true, if_false, Int.reduceToNat, Nat.reduceAdd, Int.reduceEq, Int.reduceLT, Int.reduceLE, Int.reduceNeg, bI_T, bI_F, ↓if_pos, ↓if_neg, k_isDevice hr, g1, and_self, run]) (fun Q => by rw [s_detach_no (gBk_fr hb fw) (gIX_fr hI fw) (by rw [x2]; exact g1) (by rw [x9]; exact g2), x9])
    · obtain ⟨T2, d2, μ1, ff, rr, run⟩ := k_detach hI hr g1 (by omega) (by omega) o7
      have fw : gFr 17 167 μ μ1 := gFr_mono ff (by omega) (by omega)
      have x9 : μ1 179 = μ 179 := funext fun i => fw _ _ (by omega)
      have x2 : μ1 167 12 = μ 167 12 := fw _ _ (by omega)
      obtain ⟨y1, y2⟩ := tDt_X (gXe_fr fw)
      obtain ⟨T3, d3, run3⟩ := s_detach (gBk_fr hb fw) (gIX_fr hI fw) (e := e) (by rw [x2]; exact g1) (by rw [x9]; omega) (by omega) (by rw [x9, x2]; exact o7) o5 o6
      rw [y1, y2, x9] at d3
      have e23 := tDe_uniq d2 d3
      subst e23
      rw [x9] at run3
      exact cEq_s (T := T) h hk ff rr (tInv_det hI ht g1 (by omega) (by omega) d2) cFm2 (fun Q => by simp (disch := first | assumption | omega) only [e9_0, e9_1, e9_2, e9_5, e9_8, e9_9, e9_12, e9_13, e9_16, e9_19, e9_20, gK0_eq, gK1_eq, gK3_eq, w32_id, bI_eq0, bI_eq1, Bool.false_eq_true, not_true_eq_false, not_false_eq_true, ne_eq, ite_not, ↓reduceIte, if_true, if_false, Int.reduceToNat, Nat.reduceAdd, Int.reduceEq, Int.reduceLT, Int.reduceLE, Int.reduceNeg, bI_T, bI_F, ↓if_pos, ↓if_neg, k_isDevice hr, g1, and_self, run]) run3
  · exact cEq_q (T := T) (a := -1) h hk hr ht cFm2 (fun Q => by simp (disch := first | assumption | omega) only [e9_0, e9_1, e9_2, e9_5, e9_8, e9_9, e9_12, e9_13, e9_16, e9_19, e9_20, gK0_eq, gK1_eq, gK3_eq, w32_id, bI_eq0, bI_eq1, Bool.false_eq_true, not_true_eq_false, not_false_eq_true, ne_eq, ite_not, ↓reduceIte, if_true, if_false, Int.reduceToNat, Nat.reduceAdd, Int.reduceEq, Int.reduceLT, Int.reduceLE, Int.reduceNeg, bI_T, bI_F, ↓if_pos, ↓if_neg, k_isDevice hr, g1]) (fun Q => s_detach_bad hb g1)
theorem c_flush {d : Int} (h : gInv N μ) : cEq N μ (gE 10 0 [gO 9 0, gI d] []) (gE 280 0 [gO 10 167, gI d] []) := by
  obtain ⟨T, hk, ⟨hI, hb, hr, ht⟩, ok⟩ := gInv_T h
  by_cases g1 : 0 ≤ d ∧ d < T 1672
  · obtain ⟨μ1, ff, rr, run⟩ := k_flushByCall hI hr g1
    exact cEq_s (T := T) h hk ff rr (tInv_fluT hI ht) cFm2 (fun Q => by simp (disch := first | assumption | omega) only [e10_0, e10_1, e10_2, e10_5, e10_8, e10_9, e10_12, e10_13, e10_16, e10_19, e10_20, gK0_eq, gK1_eq, gK3_eq, w32_id, bI_eq0, bI_eq1, Bool.false_eq_true, not_true_eq_false, not_false_eq_true, ne_eq, ite_not, ↓reduceIte, if_true, if_false, Int.reduceToNat, Nat.reduceAdd, Int.reduceEq, Int.reduceLT, Int.reduceLE, Int.reduceNeg, bI_T, bI_F, ↓if_pos, ↓if_neg, k_isDomain hr, g1, and_self, run]) (fun Q => s_flush (gBk_fr hb (gFr_mono ff (by omega) (by omega))) ok.1 ok.2.1)
  · exact cEq_q (T := T) (a := -1) h hk hr ht cFm2 (fun Q => by simp (disch := first | assumption | omega) only [e10_0, e10_1, e10_2, e10_5, e10_8, e10_9, e10_12, e10_13, e10_16, e10_19, e10_20, gK0_eq, gK1_eq, gK3_eq, w32_id, bI_eq0, bI_eq1, Bool.false_eq_true, not_true_eq_false, not_false_eq_true, ne_eq, ite_not, ↓reduceIte, if_true, if_false, Int.reduceToNat, Nat.reduceAdd, Int.reduceEq, Int.reduceLT, Int.reduceLE, Int.reduceNeg, bI_T, bI_F, ↓if_pos, ↓if_neg, k_isDomain hr, g1]) (fun Q => by
      rw [s_flush hb ok.1 ok.2.1]
      unfold tFluA tFluT
      rw [if_neg g1, if_neg g1])
theorem c_fence (h : gInv N μ) : cEq N μ (gE 11 0 [gO 9 0] []) (gE 281 0 [gO 10 167] []) := by
  obtain ⟨T, hk, ⟨hI, hb, hr, ht⟩, ok⟩ := gInv_T h
  have o2 := ok.2.1
  have q0 := hr.2.2.2.1.2.1
  by_cases c : T 1681 = 24
  · exact cEq_q (T := T) (a := -1) h hk hr ht cFm2 (fun Q => by simp (disch := first | assumption | omega) only [e11_0, e11_1, e11_4, e11_7, e11_10, e11_12, e11_15, e11_16, e11_19, e11_22, e11_25, e11_28, e11_29, gK0_eq, gK1_eq, gK3_eq, w32_id, bI_eq0, bI_eq1, Bool.false_eq_true, not_true_eq_false, not_false_eq_true, ne_eq, ite_not, ↓reduceIte, if_true, if_false, Int.reduceToNat, Nat.reduceAdd, Int.reduceEq, Int.reduceLT, Int.reduceLE, Int.reduceNeg, bI_T, bI_F, ↓if_pos, ↓if_neg, q0, c]) (fun Q => by
      rw [s_fence hb o2]
      unfold tFncA tFncT
      rw [if_pos c, if_pos c])
  · obtain ⟨μ1, f, r, run⟩ := k_QaddFence hr.2.2.2.1 (by omega)
    have ff : gFr 17 67 μ μ1 := gFr_mono f (by omega) (by omega)
    have eT : tFncT T = tFen T := by unfold tFncT; rw [if_neg c]
    have eA : tFncA T = w32 (T 1811 + 1) := by unfold tFncA; rw [if_neg c]
    have lo : ∀ j, j < 1681 ∨ 1812 < j → tFen T j = T j := fun j hj => by
      by_cases z : j < 1681
      · exact tFen_lo z (by omega)
      · exact tFen_hi (by omega) (by omega)
    refine cEq_s (T := T) (T' := tFncT T) (a := w32 (T 1811 + 1)) h hk ff ?_ (tInv_fnc hI ht) cFm2 (fun Q => by simp (disch := first | assumption | omega) only [e11_0, e11_1, e11_4, e11_7, e11_10, e11_12, e11_15, e11_16, e11_19, e11_22, e11_25, e11_28, e11_29, gK0_eq, gK1_eq, gK3_eq, w32_id, bI_eq0, bI_eq1, Bool.false_eq_true, not_true_eq_false, not_false_eq_true, ne_eq, ite_not, ↓reduceIte, if_true, if_false, Int.reduceToNat, Nat.reduceAdd, Int.reduceEq, Int.reduceLT, Int.reduceLE, Int.reduceNeg, bI_T, bI_F, ↓if_pos, ↓if_neg, q0, c, show ¬ 24 ≤ T 1681 by omega, show T 1681 < 24 by omega, run]) (fun Q => by rw [s_fence (gBk_fr hb (gFr_mono ff (by omega) (by omega))) o2, eA])
    rw [eT]
    exact ⟨rTr_fr hI hr.1 f (by omega), rTb_fr hr.2.1 f (by omega) (fun j hj => by exact lo j (by omega)), rFr_fr hr.2.2.1 f (by omega) (fun j hj => by exact lo j (by omega)), r, rCa_fr hr.2.2.2.2.1 f (by omega) (fun j j1 j2 => by exact lo j (by omega)), rRq_fr hr.2.2.2.2.2.1 f (by omega) (fun j j1 j2 => by exact lo j (by omega)), rLg_fr hr.2.2.2.2.2.2.1 f (by omega) (fun j hj => by exact lo j (by omega)), rDm_fr hI hr.2.2.2.2.2.2.2 f (by omega) (fun j j1 j2 => by exact lo j (by omega))⟩
theorem c_work {n : Int} (h : gInv N μ) : cEq N μ (gE 12 0 [gO 9 0, gI n] []) (gE 287 0 [gO 10 167, gI n, gX] []) := by
  obtain ⟨T, hk, ⟨hI, hb, hr, ht⟩, ok⟩ := gInv_T h
  obtain ⟨o1, o2, o3, o4, o5, o6, o7, o8, o9, o10, o11, o12, o13, o14⟩ := id ok
  by_cases c : 0 ≤ n ∧ n ≤ 24
  · obtain ⟨μ1, ff, rr, -, run⟩ := k_work hI hr o13 c
    obtain ⟨c1, c2⟩ := c
    exact cEq_s (T := T) h hk ff rr (tInv_wk hI ht (by omega)) cFm2 (fun Q => by simp (disch := first | assumption | omega) only [e12_0, e12_1, e12_4, e12_5, e12_7, e12_10, e12_11, e12_14, e12_15, e12_18, e12_19, e12_22, gK0_eq, gK1_eq, gK3_eq, w32_id, bI_eq0, bI_eq1, Bool.false_eq_true, not_true_eq_false, not_false_eq_true, ne_eq, ite_not, ↓reduceIte, if_true, if_false, Int.reduceToNat, Nat.reduceAdd, Int.reduceEq, Int.reduceLT, Int.reduceLE, Int.reduceNeg, bI_T, bI_F, ↓if_pos, ↓if_neg, show ¬ n < 0 by omega, c1, c2, run]) (fun Q => s_work (gBk_fr hb (gFr_mono ff (by omega) (by omega))) o1 (by omega) (by omega))
  · refine cEq_q (T := T) (a := -1) h hk hr ht cFm2 (fun Q => ?_) (fun Q => by
      rw [s_work hb o1 (by omega) (by omega)]
      unfold tWkA tWkT
      rw [if_neg c, if_neg c])
    by_cases c1 : n < 0
    · simp (disch := first | assumption | omega) only [e12_0, e12_1, e12_4, e12_5, e12_7, e12_10, e12_11, e12_14, e12_15, e12_18, e12_19, e12_22, gK0_eq, gK1_eq, gK3_eq, w32_id, bI_eq0, bI_eq1, Bool.false_eq_true, not_true_eq_false, not_false_eq_true, ne_eq, ite_not, ↓reduceIte, if_true, if_false, Int.reduceToNat, Nat.reduceAdd, Int.reduceEq, Int.reduceLT, Int.reduceLE, Int.reduceNeg, bI_T, bI_F, ↓if_pos, ↓if_neg, c1]
    · simp (disch := first | assumption | omega) only [e12_0, e12_1, e12_4, e12_5, e12_7, e12_10, e12_11, e12_14, e12_15, e12_18, e12_19, e12_22, gK0_eq, gK1_eq, gK3_eq, w32_id, bI_eq0, bI_eq1, Bool.false_eq_true, not_true_eq_false, not_false_eq_true, ne_eq, ite_not, ↓reduceIte, if_true, if_false, Int.reduceToNat, Nat.reduceAdd, Int.reduceEq, Int.reduceLT, Int.reduceLE, Int.reduceNeg, bI_T, bI_F, ↓if_pos, ↓if_neg, c1, show ¬ n ≤ 24 by omega]
theorem tClo_lo {e j : Int} (hW : 0 ≤ T 1881 ∧ T 1881 ≤ 8) (hj : j ≤ 1881 ∨ 1914 < j) : tClo T e j = T j := by
  unfold tClo
  rw [itF_lo (P := fun j => j ≤ 1881 ∨ 1914 < j) (lo := 0) (hi := 8) (fun k T j k0 k1 hj => by
    unfold tCl1
    split
    · rw [tS_ne (by omega)]
    · rfl) (T 1881).toNat 0 (tMor T 1914) j (by omega) (by omega) hj, tMor_ne (by omega)]
theorem c_close {e : Int} (h : gInv N μ) (hN : N < 1000000) : cEq N μ (gE 14 0 [gO 9 0, gI e] []) (gE 300 0 [gO 10 167, gI e, gX, gX] []) := by
  obtain ⟨T, hk, ⟨hI, hb, hr, ht⟩, ok⟩ := gInv_T h
  obtain ⟨o1, o2, o3, o4, o5, o6, o7, o8, o9, o10, o11, o12, o13, o14⟩ := id ok
  by_cases g1 : 0 ≤ e ∧ e < μ 167 12
  · obtain ⟨μ1, f, r, run⟩ := k_Rclose (e := e) hr.2.2.2.2.2.1
    have ff : gFr 17 67 μ μ1 := gFr_mono f (by omega) (by omega)
    have fw : gFr 17 167 μ μ1 := gFr_mono ff (by omega) (by omega)
    have x2 : μ1 167 12 = μ 167 12 := fw _ _ (by omega)
    by_cases c : tWai T e 0 = 0
    · rw [if_pos c] at r
      simp only [if_pos c] at run
      refine cEq_s (T := T) (T' := T) (a := -2) h hk ff ?_ (tInv_mono ht) cFm2 (fun Q => by simp (disch := first | assumption | omega) only [e14_0, e14_1, e14_2, e14_5, e14_8, e14_9, e14_12, e14_15, e14_16, e14_19, e14_22, e14_23, gK0_eq, gK1_eq, gK3_eq, w32_id, bI_eq0, bI_eq1, Bool.false_eq_true, not_true_eq_false, not_false_eq_true, ne_eq, ite_not, ↓reduceIte, if_true, if_false, Int.reduceToNat, Nat.reduceAdd, Int.reduceEq, Int.reduceLT, Int.reduceLE, Int.reduceNeg, bI_T, bI_F, ↓if_pos, ↓if_neg, k_isDevice hr, g1, and_self, run]) (fun Q => by rw [s_close (gBk_fr hb fw) o14, x2, if_pos g1, if_pos c])
      exact ⟨rTr_fr hI hr.1 f (by omega), rTb_fr hr.2.1 f (by omega) (fun j hj => by exact rfl), rFr_fr hr.2.2.1 f (by omega) (fun j hj => by exact rfl), rQu_fr hr.2.2.2.1 f (by omega) (fun j j1 j2 => by exact rfl), rCa_fr hr.2.2.2.2.1 f (by omega) (fun j j1 j2 => by exact rfl), r, rLg_fr hr.2.2.2.2.2.2.1 f (by omega) (fun j hj => by exact rfl), rDm_fr hI hr.2.2.2.2.2.2.2 f (by omega) (fun j j1 j2 => by exact rfl)⟩
    · rw [if_neg c] at r
      simp only [if_neg c] at run
      refine cEq_s (T := T) (T' := tClo T e) (a := tWai T e 0) h hk ff ?_ (tInv_clo hI ht hN) cFm2 (fun Q => by simp (disch := first | assumption | omega) only [e14_0, e14_1, e14_2, e14_5, e14_8, e14_9, e14_12, e14_15, e14_16, e14_19, e14_22, e14_23, gK0_eq, gK1_eq, gK3_eq, w32_id, bI_eq0, bI_eq1, Bool.false_eq_true, not_true_eq_false, not_false_eq_true, ne_eq, ite_not, ↓reduceIte, if_true, if_false, Int.reduceToNat, Nat.reduceAdd, Int.reduceEq, Int.reduceLT, Int.reduceLE, Int.reduceNeg, bI_T, bI_F, ↓if_pos, ↓if_neg, k_isDevice hr, g1, and_self, run]) (fun Q => by rw [s_close (gBk_fr hb fw) o14, x2, if_pos g1, if_neg c])
      have lo : ∀ j, j < 1881 ∨ 1914 < j → tClo T e j = T j := fun j hj => tClo_lo o14 (by omega)
      exact ⟨rTr_fr hI hr.1 f (by omega), rTb_fr hr.2.1 f (by omega) (fun j hj => by exact lo j (by omega)), rFr_fr hr.2.2.1 f (by omega) (fun j hj => by exact lo j (by omega)), rQu_fr hr.2.2.2.1 f (by omega) (fun j j1 j2 => by exact lo j (by omega)), rCa_fr hr.2.2.2.2.1 f (by omega) (fun j j1 j2 => by exact lo j (by omega)), r, rLg_fr hr.2.2.2.2.2.2.1 f (by omega) (fun j hj => by exact lo j (by omega)), rDm_fr hI hr.2.2.2.2.2.2.2 f (by omega) (fun j j1 j2 => by exact lo j (by omega))⟩
  · exact cEq_q (T := T) (a := -1) h hk hr ht cFm2 (fun Q => by simp (disch := first | assumption | omega) only [e14_0, e14_1, e14_2, e14_5, e14_8, e14_9, e14_12, e14_15, e14_16, e14_19, e14_22, e14_23, gK0_eq, gK1_eq, gK3_eq, w32_id, bI_eq0, bI_eq1, Bool.false_eq_true, not_true_eq_false, not_false_eq_true, ne_eq, ite_not, ↓reduceIte, if_true, if_false, Int.reduceToNat, Nat.reduceAdd, Int.reduceEq, Int.reduceLT, Int.reduceLE, Int.reduceNeg, bI_T, bI_F, ↓if_pos, ↓if_neg, k_isDevice hr, g1]) (fun Q => by rw [s_close hb o14, if_neg g1])
theorem c_serve {well : Bool} (h : gInv N μ) : cEq N μ (gE 15 0 [gO 9 0, gI (bI (well = true))] []) (gE 303 0 [gO 10 167, gI (bI (well = true))] []) := by
  obtain ⟨T, hk, ⟨hI, hb, hr, ht⟩, ok⟩ := gInv_T h
  obtain ⟨o1, o2, o3, o4, o5, o6, o7, o8, o9, o10, o11, o12, o13, o14⟩ := id ok
  obtain ⟨μ1, ff, rr, -, run⟩ := k_serve (well := well) hI hr o7
  have fw : gFr 17 167 μ μ1 := gFr_mono ff (by omega) (by omega)
  have x9 : μ1 179 = μ 179 := funext fun i => fw _ _ (by omega)
  have x8 : μ1 178 0 = μ 178 0 := fw _ _ (by omega)
  have x2 : μ1 167 12 = μ 167 12 := fw _ _ (by omega)
  have y9 : gS μ1 167 2 0 179 = μ 179 := funext fun i => by rw [gS_neK (by omega), x9]
  have y8 : gS μ1 167 2 0 178 0 = μ 178 0 := by rw [gS_neK (by omega), x8]
  have y2 : gS μ1 167 2 0 167 12 = μ 167 12 := by rw [gS_neI (by omega), x2]
  obtain ⟨w, a, run2⟩ := s_serves (μ := gS μ1 167 2 0) (b := 0) (T := T) (well := well) (gBk_gS (gBk_fr hb fw) (by decide)) (gIX_thr (gIX_fr hI fw)) (by rw [y8]; exact o3) (by rw [y9, y2]; exact o7)
  rw [y8, y9] at run2
  refine cEq_s (T := T) (a := tSvA (μ 178 0) (fun e => μ 179 e) well T) h hk ff rr (tInv_srv hI ht o3 o4) (ν := mW (gS μ1 167 2 0) w a) ?_ (fun Q => by simp (disch := first | assumption | omega) only [e15_0, e15_1, e15_4, e15_5, e15_8, gK0_eq, gK1_eq, gK3_eq, w32_id, bI_eq0, bI_eq1, Bool.false_eq_true, not_true_eq_false, not_false_eq_true, ne_eq, ite_not, ↓reduceIte, if_true, if_false, Int.reduceToNat, Nat.reduceAdd, Int.reduceEq, Int.reduceLT, Int.reduceLE, Int.reduceNeg, bI_T, bI_F, ↓if_pos, ↓if_neg, run]) (fun Q => by simp (disch := first | assumption | omega) only [e303_0, e303_1, e303_2, e303_5, e303_6, e303_7, e303_10, gK0_eq, gK1_eq, gK3_eq, w32_id, bI_eq0, bI_eq1, Bool.false_eq_true, not_true_eq_false, not_false_eq_true, ne_eq, ite_not, ↓reduceIte, if_true, if_false, Int.reduceToNat, Nat.reduceAdd, Int.reduceEq, Int.reduceLT, Int.reduceLE, Int.reduceNeg, bI_T, bI_F, ↓if_pos, ↓if_neg, gS_mK, run2])
  unfold mW
  exact cFm_trans (cFm_trans cFm2 (cFm_gS (by omega))) (cFm_gS (by omega))
theorem c_tidy {d : Int} (h : gInv N μ) : cEq N μ (gE 16 0 [gO 9 0, gI d] []) (gE 311 0 [gO 10 167, gI d] []) := by
  obtain ⟨T, hk, ⟨hI, hb, hr, ht⟩, ok⟩ := gInv_T h
  obtain ⟨o1, o2, o3, o4, o5, o6, o7, o8, o9, o10, o11, o12, o13, o14⟩ := id ok
  by_cases g1 : 0 ≤ d ∧ d < T 1672
  · have hd : 0 ≤ d ∧ d < 4 := by omega
    obtain ⟨μ1, f, r, run⟩ := k_tidy hr.2.1 hd
    have ff : gFr 17 67 μ μ1 := gFr_mono f (by omega) (by omega)
    have lo : ∀ j, j < 768 ∨ 1024 ≤ j → (tTid d 16 0 0 T).2 j = T j := fun j hj => tTid_lo hd 16 0 0 T (by omega) (by omega) j (by omega)
    refine cEq_s (T := T) (T' := (tTid d 16 0 0 T).2) (a := (tTid d 16 0 0 T).1) h hk ff ?_ (tInv_tid hI ht hd) cFm2 (fun Q => by simp (disch := first | assumption | omega) only [e16_0, e16_1, e16_2, e16_5, e16_8, e16_9, e16_12, e16_15, e16_16, e16_19, e16_22, e16_23, gK0_eq, gK1_eq, gK3_eq, w32_id, bI_eq0, bI_eq1, Bool.false_eq_true, not_true_eq_false, not_false_eq_true, ne_eq, ite_not, ↓reduceIte, if_true, if_false, Int.reduceToNat, Nat.reduceAdd, Int.reduceEq, Int.reduceLT, Int.reduceLE, Int.reduceNeg, bI_T, bI_F, ↓if_pos, ↓if_neg, k_isDomain hr, g1, and_self, run]) (fun Q => by rw [s_tidy (gBk_fr hb (gFr_mono ff (by omega) (by omega))) o1 o5, if_pos g1])
    exact ⟨rTr_fr hI hr.1 f (by omega), r, rFr_fr hr.2.2.1 f (by omega) (fun j hj => by exact lo j (by omega)), rQu_fr hr.2.2.2.1 f (by omega) (fun j j1 j2 => by exact lo j (by omega)), rCa_fr hr.2.2.2.2.1 f (by omega) (fun j j1 j2 => by exact lo j (by omega)), rRq_fr hr.2.2.2.2.2.1 f (by omega) (fun j j1 j2 => by exact lo j (by omega)), rLg_fr hr.2.2.2.2.2.2.1 f (by omega) (fun j hj => by exact lo j (by omega)), rDm_fr hI hr.2.2.2.2.2.2.2 f (by omega) (fun j j1 j2 => by exact lo j (by omega))⟩
  · exact cEq_q (T := T) (a := -1) h hk hr ht cFm2 (fun Q => by simp (disch := first | assumption | omega) only [e16_0, e16_1, e16_2, e16_5, e16_8, e16_9, e16_12, e16_15, e16_16, e16_19, e16_22, e16_23, gK0_eq, gK1_eq, gK3_eq, w32_id, bI_eq0, bI_eq1, Bool.false_eq_true, not_true_eq_false, not_false_eq_true, ne_eq, ite_not, ↓reduceIte, if_true, if_false, Int.reduceToNat, Nat.reduceAdd, Int.reduceEq, Int.reduceLT, Int.reduceLE, Int.reduceNeg, bI_T, bI_F, ↓if_pos, ↓if_neg, k_isDomain hr, g1]) (fun Q => by rw [s_tidy hb o1 o5, if_neg g1])
theorem c_cause {k : Int} (h : gInv N μ) : cEq N μ (gE 17 0 [gO 9 0, gI k] []) (gE 269 0 [gO 10 167, gI k] []) := by
  obtain ⟨T, hk, ⟨hI, hb, hr, ht⟩, ok⟩ := gInv_T h
  refine cEq_q (T := T) (a := tCau T 1919 k) h hk hr ht cFm2 (fun Q => ?_) (fun Q => s_cause hb ok.2.2.2.2.2.2.2.1)
  unfold tCau
  by_cases c : k < 0
  · rw [if_pos c]
    simp (disch := first | assumption | omega) only [e17_0, e17_1, e17_4, e17_5, e17_8, e17_9, e17_12, e17_15, e17_16, e17_19, gK0_eq, gK1_eq, gK3_eq, w32_id, bI_eq0, bI_eq1, Bool.false_eq_true, not_true_eq_false, not_false_eq_true, ne_eq, ite_not, ↓reduceIte, if_true, if_false, Int.reduceToNat, Nat.reduceAdd, Int.reduceEq, Int.reduceLT, Int.reduceLE, Int.reduceNeg, bI_T, bI_F, ↓if_pos, ↓if_neg, c, show ¬ 0 ≤ k by omega]
  · rw [if_neg c]
    have c' : 0 ≤ k := by omega
    simp (disch := first | assumption | omega) only [e17_0, e17_1, e17_4, e17_5, e17_8, e17_9, e17_12, e17_15, e17_16, e17_19, gK0_eq, gK1_eq, gK3_eq, w32_id, bI_eq0, bI_eq1, Bool.false_eq_true, not_true_eq_false, not_false_eq_true, ne_eq, ite_not, ↓reduceIte, if_true, if_false, Int.reduceToNat, Nat.reduceAdd, Int.reduceEq, Int.reduceLT, Int.reduceLE, Int.reduceNeg, bI_T, bI_F, ↓if_pos, ↓if_neg, c, c', k_causeAt hr.2.2.2.2.2.2.1, true_and]
theorem c_about {k : Int} (h : gInv N μ) : cEq N μ (gE 18 0 [gO 9 0, gI k] []) (gE 270 0 [gO 10 167, gI k] []) := by
  obtain ⟨T, hk, ⟨hI, hb, hr, ht⟩, ok⟩ := gInv_T h
  refine cEq_q (T := T) (a := tCau T 1923 k) h hk hr ht cFm2 (fun Q => ?_) (fun Q => s_about hb ok.2.2.2.2.2.2.2.1)
  unfold tCau
  by_cases c : k < 0
  · rw [if_pos c]
    simp (disch := first | assumption | omega) only [e18_0, e18_1, e18_4, e18_5, e18_8, e18_9, e18_12, e18_15, e18_16, e18_19, gK0_eq, gK1_eq, gK3_eq, w32_id, bI_eq0, bI_eq1, Bool.false_eq_true, not_true_eq_false, not_false_eq_true, ne_eq, ite_not, ↓reduceIte, if_true, if_false, Int.reduceToNat, Nat.reduceAdd, Int.reduceEq, Int.reduceLT, Int.reduceLE, Int.reduceNeg, bI_T, bI_F, ↓if_pos, ↓if_neg, c, show ¬ 0 ≤ k by omega]
  · rw [if_neg c]
    have c' : 0 ≤ k := by omega
    simp (disch := first | assumption | omega) only [e18_0, e18_1, e18_4, e18_5, e18_8, e18_9, e18_12, e18_15, e18_16, e18_19, gK0_eq, gK1_eq, gK3_eq, w32_id, bI_eq0, bI_eq1, Bool.false_eq_true, not_true_eq_false, not_false_eq_true, ne_eq, ite_not, ↓reduceIte, if_true, if_false, Int.reduceToNat, Nat.reduceAdd, Int.reduceEq, Int.reduceLT, Int.reduceLE, Int.reduceNeg, bI_T, bI_F, ↓if_pos, ↓if_neg, c, c', k_aboutAt hr.2.2.2.2.2.2.1, true_and]
end CALLS
