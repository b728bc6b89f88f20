/-! the class: its state: detach -/
section DETACH
variable {B C : Nat} {X μ μ' : gM} {T T' : Int → Int} {Q : Int → gM → Prop}
theorem k_isSpannedIn_loop {d p : Int} (hI : gIX X) (h : rSt B X T μ) : ∀ (m : Nat) (k : Int), 0 ≤ k → k + m = X 167 12 →
    gE 188 2 [gO 6 B, gI d, gI p, gI k] [] μ Q = Q (bI (anyF (fun e => decide (T (1673 + X 179 e) = d) && xGp X e p) k m = true)) μ := by
  have n2 := hI.2.1
  have a2 := h.1.1.1.2.1
  intro m
  induction m with
  | zero =>
    intro k k0 k1
    have c : X 167 12 ≤ k := by omega
    rw [e188_2, bI_f (by rw [anyF]; exact Bool.noConfusion)]
    simp (disch := first | assumption | omega) only [e188_0, e188_1, e188_3, e188_4, e188_7, e188_10, e188_13, e188_14, e188_17, e188_18, e188_21, e188_22, e188_25, e188_26, e188_29, e188_30, e188_31, e188_34, e188_37, e188_38, e188_39, e188_42, e188_45, e188_46, gK0_eq, gK1_eq, gK3_eq, w32_id, bI_eq0, bI_eq1, Bool.false_eq_true, not_true_eq_false, not_false_eq_true, ne_eq, ite_not, ↓reduceIte, if_true, if_false, Int.reduceToNat, Nat.reduceAdd, Int.reduceEq, Int.reduceLT, Int.reduceLE, Int.reduceNeg, bI_T, bI_F, ↓if_pos, ↓if_neg, a2, c]
  | succ m ih =>
    intro k k0 k1
    have c : ¬ X 167 12 ≤ k := by omega
    have c8 : k < ((8 : Nat) : Int) := by omega
    have hk : 0 ≤ k ∧ k < X 167 12 := by omega
    have b1 := h.2.2.2.2.2.2.2 k k0 (by omega)
    rw [e188_2, anyF]
    by_cases q : T (1673 + X 179 k) = d
    · cases z : xGp X k p with
      | true =>
        rw [decide_eq_true q, Bool.and_self, Bool.true_or, bI_t rfl]
        simp (disch := first | assumption | omega) only [e188_0, e188_1, e188_3, e188_4, e188_7, e188_10, e188_13, e188_14, e188_17, e188_18, e188_21, e188_22, e188_25, e188_26, e188_29, e188_30, e188_31, e188_34, e188_37, e188_38, e188_39, e188_42, e188_45, e188_46, gK0_eq, gK1_eq, gK3_eq, w32_id, bI_eq0, bI_eq1, Bool.false_eq_true, not_true_eq_false, not_false_eq_true, ne_eq, ite_not, ↓reduceIte, if_true, if_false, Int.reduceToNat, Nat.reduceAdd, Int.reduceEq, Int.reduceLT, Int.reduceLE, Int.reduceNeg, bI_T, bI_F, ↓if_pos, ↓if_neg, a2, c, s_at, atv_in, b1, q, k_spansPage hI h.1 hk, z]
      | false =>
        rw [Bool.and_false, Bool.false_or]
        simp (disch := first | assumption | omega) only [e188_0, e188_1, e188_3, e188_4, e188_7, e188_10, e188_13, e188_14, e188_17, e188_18, e188_21, e188_22, e188_25, e188_26, e188_29, e188_30, e188_31, e188_34, e188_37, e188_38, e188_39, e188_42, e188_45, e188_46, gK0_eq, gK1_eq, gK3_eq, w32_id, bI_eq0, bI_eq1, Bool.false_eq_true, not_true_eq_false, not_false_eq_true, ne_eq, ite_not, ↓reduceIte, if_true, if_false, Int.reduceToNat, Nat.reduceAdd, Int.reduceEq, Int.reduceLT, Int.reduceLE, Int.reduceNeg, bI_T, bI_F, ↓if_pos, ↓if_neg, a2, c, s_at, atv_in, b1, q, k_spansPage hI h.1 hk, z]
        exact ih (k + 1) (by omega) (by omega)
    · rw [decide_eq_false q, Bool.false_and, Bool.false_or]
      simp (disch := first | assumption | omega) only [e188_0, e188_1, e188_3, e188_4, e188_7, e188_10, e188_13, e188_14, e188_17, e188_18, e188_21, e188_22, e188_25, e188_26, e188_29, e188_30, e188_31, e188_34, e188_37, e188_38, e188_39, e188_42, e188_45, e188_46, gK0_eq, gK1_eq, gK3_eq, w32_id, bI_eq0, bI_eq1, Bool.false_eq_true, not_true_eq_false, not_false_eq_true, ne_eq, ite_not, ↓reduceIte, if_true, if_false, Int.reduceToNat, Nat.reduceAdd, Int.reduceEq, Int.reduceLT, Int.reduceLE, Int.reduceNeg, bI_T, bI_F, ↓if_pos, ↓if_neg, a2, c, s_at, atv_in, b1, q]
      exact ih _ (by omega) (by omega)
theorem k_isSpannedIn {d p : Int} (hI : gIX X) (h : rSt B X T μ) : gE 188 0 [gO 6 B, gI d, gI p, gX] [] μ Q = Q (bI (tSpd X T d p = true)) μ := by
  have n2 := hI.2.1
  have n4 := hI.2.2.2.1
  simp (disch := first | assumption | omega) only [e188_0, e188_1, e188_3, e188_4, e188_7, e188_10, e188_13, e188_14, e188_17, e188_18, e188_21, e188_22, e188_25, e188_26, e188_29, e188_30, e188_31, e188_34, e188_37, e188_38, e188_39, e188_42, e188_45, e188_46, gK0_eq, gK1_eq, gK3_eq, w32_id, bI_eq0, bI_eq1, Bool.false_eq_true, not_true_eq_false, not_false_eq_true, ne_eq, ite_not, ↓reduceIte, if_true, if_false, Int.reduceToNat, Nat.reduceAdd, Int.reduceEq, Int.reduceLT, Int.reduceLE, Int.reduceNeg, bI_T, bI_F]
  rw [k_isSpannedIn_loop hI h (X 167 12).toNat 0 (by omega) (by omega)]
  congr 1
  apply bI_congr
  unfold tSpd
  rw [anyF_iff, anyF_iff]
  constructor
  · rintro ⟨e, e0, e1, e2⟩
    rw [Bool.and_eq_true, decide_eq_true_eq] at e2
    unfold xGp at e2
    obtain ⟨k, k0, k1, k2⟩ := (anyF_iff _ _ _).mp e2.2
    rw [Bool.and_eq_true, decide_eq_true_eq] at k2
    exact ⟨k, k0, k1, by rw [k2.2, k2.1, decide_eq_true e2.1]; rfl⟩
  · rintro ⟨k, k0, k1, k2⟩
    rw [Bool.and_eq_true, decide_eq_true_eq] at k2
    obtain ⟨s1, s2, -⟩ := hI.2.2.2.2.2.2.2.2.1 k k0 (by omega)
    refine ⟨X 177 (3 * k), s1, by omega, ?_⟩
    rw [Bool.and_eq_true, decide_eq_true_eq]
    refine ⟨k2.2, ?_⟩
    unfold xGp
    exact (anyF_iff _ _ _).mpr ⟨k, k0, k1, by rw [decide_eq_true rfl, Bool.true_and]; exact k2.1⟩
theorem k_failAll_loop {e d : Int} (hI : gIX X) (he : 0 ≤ e ∧ e < X 167 12) (T0 : Int → Int) : ∀ (m : Nat) (k : Int) (T : Int → Int) (μ : gM), rSt B X T μ → 0 ≤ k → k + m = X 167 12 → (tL T = (tL T0).filter (fun r => !(decide (0 ≤ r.1 ∧ r.1 < k) && decide (X 179 r.1 = X 179 e))) ∧ (∀ j, (j < 1881 ∨ 1914 ≤ j) → j ≠ 1917 → T j = T0 j) ∧ T 1881 ≤ T0 1881 ∧ T 1917 = wN (T0 1881 - T 1881).toNat (T0 1917)) →
    ∃ T' μ', gFr B (B + 50) μ μ' ∧ rSt B X T' μ' ∧ (tL T' = (tL T0).filter (fun r => !(decide (0 ≤ r.1 ∧ r.1 < X 167 12) && decide (X 179 r.1 = X 179 e))) ∧ (∀ j, (j < 1881 ∨ 1914 ≤ j) → j ≠ 1917 → T' j = T0 j) ∧ T' 1881 ≤ T0 1881 ∧ T' 1917 = wN (T0 1881 - T' 1881).toNat (T0 1917)) ∧ ∀ Q : Int → gM → Prop, gE 187 64 [gO 6 B, gI e, gI d, gI k] [] μ Q = gE 187 101 [gO 6 B, gI e, gI d, gI (X 167 12)] [] μ' Q := by
  have n2 := hI.2.1
  intro m
  induction m with
  | zero =>
    intro k T μ h k0 k1 hT
    have a2 := h.1.1.1.2.1
    have c : X 167 12 ≤ k := by omega
    have ek : k = X 167 12 := by omega
    rw [ek] at hT
    refine ⟨T, μ, gFr_refl, h, hT, fun Q => ?_⟩
    rw [e187_64]
    simp (disch := first | assumption | omega) only [e187_0, e187_1, e187_4, e187_5, e187_8, e187_9, e187_10, e187_11, e187_14, e187_15, e187_18, e187_20, e187_21, e187_24, e187_27, e187_28, e187_31, e187_34, e187_35, e187_36, e187_39, e187_42, e187_45, e187_46, e187_49, e187_51, e187_52, e187_55, e187_58, e187_61, e187_62, e187_63, e187_65, e187_66, e187_69, e187_72, e187_75, e187_76, e187_79, e187_80, e187_81, e187_84, e187_87, e187_88, e187_91, e187_92, e187_95, e187_98, e187_102, e187_103, e187_104, e187_107, e187_108, e187_109, e187_110, e187_112, e187_115, e187_116, e187_119, e187_120, e187_121, e187_124, e187_127, e187_128, e187_131, e187_132, e187_133, e187_136, e187_139, e187_140, e187_141, e187_142, e187_145, e187_148, e187_149, e187_150, e187_151, e187_154, e187_157, e187_160, e187_161, e187_162, e187_165, gK0_eq, gK1_eq, gK3_eq, w32_id, bI_eq0, bI_eq1, Bool.false_eq_true, not_true_eq_false, not_false_eq_true, ne_eq, ite_not, ↓reduceIte, if_true, if_false, Int.reduceToNat, Nat.reduceAdd, Int.reduceEq, Int.reduceLT, Int.reduceLE, Int.reduceNeg, bI_T, bI_F, ↓if_pos, ↓if_neg, a2, c]
    rw [ek]
  | succ m ih =>
    intro k T μ h k0 k1 hT
    have a2 := h.1.1.1.2.1
    have c : ¬ X 167 12 ≤ k := by omega
    have hk : 0 ≤ k ∧ k < X 167 12 := by omega
    obtain ⟨t1, t2, t3, t4⟩ := hT
    by_cases q : X 179 e = X 179 k
    · have hW := h.2.2.2.2.2.1.1
      obtain ⟨μ1, f1, r1, run1⟩ := k_RfailAll (e := k) h.2.2.2.2.2.1
      obtain ⟨g1, g2, g3, g4⟩ := tRmG_all (P := fun r => decide (r.1 = k)) (c := true) (T 1881).toNat T (by omega) hW.2
      have gf := tRmG_full (P := fun r => decide (r.1 = k)) (c := true) hW.1 hW.2
      rw [← tFaA_G] at g2 g3 g4 gf
      have lo : ∀ j, (j < 1881 ∨ 1914 ≤ j) → j ≠ 1917 → tFaA k (T 1881).toNat T j = T j := fun j hj hc => g2 j hj (Or.inl hc)
      have h1 : rSt B X (tFaA k (T 1881).toNat T) μ1 := ⟨rTr_fr hI h.1 f1 (by omega), rTb_fr h.2.1 f1 (by omega) (fun j hj => by exact lo j (by omega) (by omega)), rFr_fr h.2.2.1 f1 (by omega) (fun j hj => by exact lo j (by omega) (by omega)), rQu_fr h.2.2.2.1 f1 (by omega) (fun j j1 j2 => by exact lo j (by omega) (by omega)), rCa_fr h.2.2.2.2.1 f1 (by omega) (fun j j1 j2 => by exact lo j (by omega) (by omega)), r1, rLg_fr h.2.2.2.2.2.2.1 f1 (by omega) (fun j hj => by exact lo j (by omega) (by omega)), rDm_fr hI h.2.2.2.2.2.2.2 f1 (by omega) (fun j j1 j2 => by exact lo j (by omega) (by omega))⟩
      obtain ⟨T', μ', f2, r2, e2, run2⟩ := ih (k + 1) _ μ1 h1 (by omega) (by omega) ⟨by
        rw [gf, t1, List.filter_filter]
        congr 1
        funext r
        by_cases z : r.1 = k
        · rw [decide_eq_true z, decide_eq_true (show 0 ≤ r.1 ∧ r.1 < k + 1 by omega), decide_eq_true (show X 179 r.1 = X 179 e by rw [z, q])]
          rfl
        · rw [decide_eq_false z, Bool.not_false, Bool.true_and]
          congr 2
          exact decide_eq_decide.mpr (by omega), fun j hj hc => by rw [lo j hj hc, t2 j hj hc], by omega, by
        rw [g4 rfl, t4, wN_add]
        congr 1
        omega⟩
      refine ⟨T', μ', gFr_trans (gFr_mono f1 (by omega) (by omega)) f2, r2, e2, fun Q => ?_⟩
      rw [← run2, e187_64]
      simp (disch := first | assumption | omega) only [e187_0, e187_1, e187_4, e187_5, e187_8, e187_9, e187_10, e187_11, e187_14, e187_15, e187_18, e187_20, e187_21, e187_24, e187_27, e187_28, e187_31, e187_34, e187_35, e187_36, e187_39, e187_42, e187_45, e187_46, e187_49, e187_51, e187_52, e187_55, e187_58, e187_61, e187_62, e187_63, e187_65, e187_66, e187_69, e187_72, e187_75, e187_76, e187_79, e187_80, e187_81, e187_84, e187_87, e187_88, e187_91, e187_92, e187_95, e187_98, e187_102, e187_103, e187_104, e187_107, e187_108, e187_109, e187_110, e187_112, e187_115, e187_116, e187_119, e187_120, e187_121, e187_124, e187_127, e187_128, e187_131, e187_132, e187_133, e187_136, e187_139, e187_140, e187_141, e187_142, e187_145, e187_148, e187_149, e187_150, e187_151, e187_154, e187_157, e187_160, e187_161, e187_162, e187_165, gK0_eq, gK1_eq, gK3_eq, w32_id, bI_eq0, bI_eq1, Bool.false_eq_true, not_true_eq_false, not_false_eq_true, ne_eq, ite_not, ↓reduceIte, if_true, if_false, Int.reduceToNat, Nat.reduceAdd, Int.reduceEq, Int.reduceLT, Int.reduceLE, Int.reduceNeg, bI_T, bI_F, ↓if_pos, ↓if_neg, a2, c, k_areOne hI h.1 he hk, bI_t q, run1]
    · obtain ⟨T', μ', f2, r2, e2, run2⟩ := ih (k + 1) T μ h (by omega) (by omega) ⟨by
        rw [t1]
        congr 1
        funext r
        by_cases z : r.1 = k
        · rw [decide_eq_false (show ¬ X 179 r.1 = X 179 e from fun w => q (by rw [← w, z])), Bool.and_false, Bool.and_false]
        · congr 2
          exact decide_eq_decide.mpr (by omega), t2, t3, t4⟩
      refine ⟨T', μ', f2, r2, e2, fun Q => ?_⟩
      rw [← run2, e187_64]
      simp (disch := first | assumption | omega) only [e187_0, e187_1, e187_4, e187_5, e187_8, e187_9, e187_10, e187_11, e187_14, e187_15, e187_18, e187_20, e187_21, e187_24, e187_27, e187_28, e187_31, e187_34, e187_35, e187_36, e187_39, e187_42, e187_45, e187_46, e187_49, e187_51, e187_52, e187_55, e187_58, e187_61, e187_62, e187_63, e187_65, e187_66, e187_69, e187_72, e187_75, e187_76, e187_79, e187_80, e187_81, e187_84, e187_87, e187_88, e187_91, e187_92, e187_95, e187_98, e187_102, e187_103, e187_104, e187_107, e187_108, e187_109, e187_110, e187_112, e187_115, e187_116, e187_119, e187_120, e187_121, e187_124, e187_127, e187_128, e187_131, e187_132, e187_133, e187_136, e187_139, e187_140, e187_141, e187_142, e187_145, e187_148, e187_149, e187_150, e187_151, e187_154, e187_157, e187_160, e187_161, e187_162, e187_165, gK0_eq, gK1_eq, gK3_eq, w32_id, bI_eq0, bI_eq1, Bool.false_eq_true, not_true_eq_false, not_false_eq_true, ne_eq, ite_not, ↓reduceIte, if_true, if_false, Int.reduceToNat, Nat.reduceAdd, Int.reduceEq, Int.reduceLT, Int.reduceLE, Int.reduceNeg, bI_T, bI_F, ↓if_pos, ↓if_neg, a2, c, k_areOne hI h.1 he hk, bI_f q]
theorem k_det_p {e d : Int} {T0 : Int → Int} (hI : gIX X) (he : 0 ≤ e ∧ e < X 167 12) (hd : 0 ≤ d ∧ d < T0 1672) (hF : ∀ j, 0 ≤ j → j < 256 → -1 ≤ T0 j ∧ T0 j < 64) : ∀ (n : Nat) (p : Int) (T1 : Int → Int) (μ : gM), rSt B X T1 μ → tDe T0 (cMp T0 d (fun x => (xGp X e x && decide (x < p)) && !tSpd X T0 d x)) T1 → 0 ≤ p → p + n = 64 →
    ∃ T2 μ', gFr B (B + 50) μ μ' ∧ rSt B X T2 μ' ∧ tDe T0 (cMp T0 d (fun x => xGp X e x && !tSpd X T0 d x)) T2 ∧ ∀ Q : Int → gM → Prop, gE 187 109 [gO 6 B, gI e, gI d, gI p] [] μ Q = gE 187 160 [gO 6 B, gI e, gI d, gI 64] [] μ' Q := by
  intro n
  induction n with
  | zero =>
    intro p T1 μ h hD p0 p1
    have c : p = 64 := by omega
    subst c
    have eP : cMp T0 d (fun x => (xGp X e x && decide (x < 64)) && !tSpd X T0 d x) = cMp T0 d (fun x => xGp X e x && !tSpd X T0 d x) := by
      funext i
      unfold cMp
      by_cases q : 64 * d ≤ i ∧ i < 64 * d + 64
      · dsimp only
        rw [decide_eq_true (show i - 64 * d < 64 by omega), Bool.and_true]
      · rw [decide_eq_false q, Bool.false_and, Bool.false_and]
    rw [eP] at hD
    refine ⟨T1, μ, gFr_refl, h, hD, fun Q => ?_⟩
    rw [e187_109]
    simp (disch := first | assumption | omega) only [e187_0, e187_1, e187_4, e187_5, e187_8, e187_9, e187_10, e187_11, e187_14, e187_15, e187_18, e187_20, e187_21, e187_24, e187_27, e187_28, e187_31, e187_34, e187_35, e187_36, e187_39, e187_42, e187_45, e187_46, e187_49, e187_51, e187_52, e187_55, e187_58, e187_61, e187_62, e187_63, e187_64, e187_65, e187_66, e187_69, e187_72, e187_75, e187_76, e187_79, e187_80, e187_81, e187_84, e187_87, e187_88, e187_91, e187_92, e187_95, e187_98, e187_101, e187_102, e187_103, e187_104, e187_107, e187_108, e187_110, e187_112, e187_115, e187_116, e187_119, e187_120, e187_121, e187_124, e187_127, e187_128, e187_131, e187_132, e187_133, e187_136, e187_139, e187_140, e187_141, e187_142, e187_145, e187_148, e187_149, e187_150, e187_151, e187_154, e187_157, e187_161, e187_162, e187_165, gK0_eq, gK1_eq, gK3_eq, w32_id, bI_eq0, bI_eq1, Bool.false_eq_true, not_true_eq_false, not_false_eq_true, ne_eq, ite_not, ↓reduceIte, if_true, if_false, Int.reduceToNat, Nat.reduceAdd, Int.reduceEq, Int.reduceLT, Int.reduceLE, Int.reduceNeg, bI_T, bI_F, ↓if_pos, ↓if_neg]
  | succ n ih =>
    intro p T1 μ h hD p0 p1
    have c : ¬ 64 ≤ p := by omega
    have hp : 0 ≤ p ∧ p < 64 := by omega
    have hi : ∀ j, 1664 ≤ j → T1 j = T0 j := fun j hj => hD.2.2.2 j (by omega)
    have hDm := h.2.1.1
    have e1672 := hi 1672 (by omega)
    have hd4 : 0 ≤ d ∧ d < 4 := by omega
    have nD : cMp T0 d (fun x => (xGp X e x && decide (x < p)) && !tSpd X T0 d x) (64 * d + p) = false := by
      unfold cMp
      rw [show 64 * d + p - 64 * d = p by omega]
      dsimp only
      rw [decide_eq_false (show ¬ p < p by omega), Bool.and_false, Bool.false_and, Bool.false_and, Bool.and_false]
    have hv : T1 (64 * d + p) = T0 (64 * d + p) := by rw [(hD.1 (64 * d + p) (by omega) (by omega)).1, nD]; rfl
    have hmv : tMp T1 d p = tMp T0 d p := tMp_congr hv
    have hsp : tSpd X T1 d p = tSpd X T0 d p := tSpd_congr hI hi
    have stay : cMp T0 d (fun x => (xGp X e x && decide (x < p)) && !tSpd X T0 d x) = cMp T0 d (fun x => (xGp X e x && decide (x < p + 1)) && !tSpd X T0 d x) → (∀ Q : Int → gM → Prop, gE 187 109 [gO 6 B, gI e, gI d, gI p] [] μ Q = gE 187 109 [gO 6 B, gI e, gI d, gI (p + 1)] [] μ Q) → ∃ T2 μ', gFr B (B + 50) μ μ' ∧ rSt B X T2 μ' ∧ tDe T0 (cMp T0 d (fun x => xGp X e x && !tSpd X T0 d x)) T2 ∧ ∀ Q : Int → gM → Prop, gE 187 109 [gO 6 B, gI e, gI d, gI p] [] μ Q = gE 187 160 [gO 6 B, gI e, gI d, gI 64] [] μ' Q := fun eq st => by
      rw [eq] at hD
      obtain ⟨T2, μ1, f1, r1, d1, run1⟩ := ih (p + 1) T1 μ h hD (by omega) (by omega)
      exact ⟨T2, μ1, f1, r1, d1, fun Q => by rw [st Q]; exact run1 Q⟩
    cases q : xGp X e p with
    | false =>
      refine stay ?_ (fun Q => ?_)
      · congr 1
        funext x
        by_cases z : x = p
        · rw [z, q]; simp
        · congr 2
          exact decide_eq_decide.mpr (by omega)
      · rw [e187_109]
        simp (disch := first | assumption | omega) only [e187_0, e187_1, e187_4, e187_5, e187_8, e187_9, e187_10, e187_11, e187_14, e187_15, e187_18, e187_20, e187_21, e187_24, e187_27, e187_28, e187_31, e187_34, e187_35, e187_36, e187_39, e187_42, e187_45, e187_46, e187_49, e187_51, e187_52, e187_55, e187_58, e187_61, e187_62, e187_63, e187_64, e187_65, e187_66, e187_69, e187_72, e187_75, e187_76, e187_79, e187_80, e187_81, e187_84, e187_87, e187_88, e187_91, e187_92, e187_95, e187_98, e187_101, e187_102, e187_103, e187_104, e187_107, e187_108, e187_110, e187_112, e187_115, e187_116, e187_119, e187_120, e187_121, e187_124, e187_127, e187_128, e187_131, e187_132, e187_133, e187_136, e187_139, e187_140, e187_141, e187_142, e187_145, e187_148, e187_149, e187_150, e187_151, e187_154, e187_157, e187_161, e187_162, e187_165, gK0_eq, gK1_eq, gK3_eq, w32_id, bI_eq0, bI_eq1, Bool.false_eq_true, not_true_eq_false, not_false_eq_true, ne_eq, ite_not, ↓reduceIte, if_true, if_false, Int.reduceToNat, Nat.reduceAdd, Int.reduceEq, Int.reduceLT, Int.reduceLE, Int.reduceNeg, bI_T, bI_F, ↓if_pos, ↓if_neg, c, k_spansPage hI h.1 he, q]
    | true =>
      have eP : bOr (fun x => xGp X e x && decide (x < p)) p = (fun x => xGp X e x && decide (x < p + 1)) := by
        funext x
        unfold bOr
        dsimp only
        by_cases z : x = p
        · rw [z, q, decide_eq_true rfl, Bool.or_true, decide_eq_true (show p < p + 1 by omega)]; rfl
        · rw [decide_eq_false z, Bool.or_false]
          congr 1
          exact decide_eq_decide.mpr (by omega)
      have eQ : ∀ x, (fun x => xGp X e x && decide (x < p + 1)) x = bOr (fun x => xGp X e x && decide (x < p)) p x := fun x => by rw [eP]
      cases hm : tMp T0 d p with
      | false =>
        have hm0 : T0 (64 * d + p) < 0 := by unfold tMp at hm; rw [decide_eq_false_iff_not] at hm; omega
        rw [hm] at hmv
        refine stay ?_ (fun Q => ?_)
        · funext i
          unfold cMp
          dsimp only
          by_cases z : i = 64 * d + p
          · rw [z, decide_eq_false (show ¬ 0 ≤ T0 (64 * d + p) by omega)]; simp
          · rw [show decide (i - 64 * d < p) = decide (i - 64 * d < p + 1) from decide_eq_decide.mpr (by omega)]
        · rw [e187_109]
          simp (disch := first | assumption | omega) only [e187_0, e187_1, e187_4, e187_5, e187_8, e187_9, e187_10, e187_11, e187_14, e187_15, e187_18, e187_20, e187_21, e187_24, e187_27, e187_28, e187_31, e187_34, e187_35, e187_36, e187_39, e187_42, e187_45, e187_46, e187_49, e187_51, e187_52, e187_55, e187_58, e187_61, e187_62, e187_63, e187_64, e187_65, e187_66, e187_69, e187_72, e187_75, e187_76, e187_79, e187_80, e187_81, e187_84, e187_87, e187_88, e187_91, e187_92, e187_95, e187_98, e187_101, e187_102, e187_103, e187_104, e187_107, e187_108, e187_110, e187_112, e187_115, e187_116, e187_119, e187_120, e187_121, e187_124, e187_127, e187_128, e187_131, e187_132, e187_133, e187_136, e187_139, e187_140, e187_141, e187_142, e187_145, e187_148, e187_149, e187_150, e187_151, e187_154, e187_157, e187_161, e187_162, e187_165, gK0_eq, gK1_eq, gK3_eq, w32_id, bI_eq0, bI_eq1, Bool.false_eq_true, not_true_eq_false, not_false_eq_true, ne_eq, ite_not, ↓reduceIte, if_true, if_false, Int.reduceToNat, Nat.reduceAdd, Int.reduceEq, Int.reduceLT, Int.reduceLE, Int.reduceNeg, bI_T, bI_F, ↓if_pos, ↓if_neg, c, k_spansPage hI h.1 he, q, k_isMapped h.2.1 hd4 hp, hmv]
      | true =>
        have hm0 : 0 ≤ T0 (64 * d + p) := by unfold tMp at hm; rw [decide_eq_true_eq] at hm; exact hm
        rw [hm] at hmv
        cases s : tSpd X T0 d p with
        | true =>
          rw [s] at hsp
          refine stay ?_ (fun Q => ?_)
          · congr 1
            funext x
            by_cases z : x = p
            · rw [z, s]; simp
            · congr 2
              exact decide_eq_decide.mpr (by omega)
          · rw [e187_109]
            simp (disch := first | assumption | omega) only [e187_0, e187_1, e187_4, e187_5, e187_8, e187_9, e187_10, e187_11, e187_14, e187_15, e187_18, e187_20, e187_21, e187_24, e187_27, e187_28, e187_31, e187_34, e187_35, e187_36, e187_39, e187_42, e187_45, e187_46, e187_49, e187_51, e187_52, e187_55, e187_58, e187_61, e187_62, e187_63, e187_64, e187_65, e187_66, e187_69, e187_72, e187_75, e187_76, e187_79, e187_80, e187_81, e187_84, e187_87, e187_88, e187_91, e187_92, e187_95, e187_98, e187_101, e187_102, e187_103, e187_104, e187_107, e187_108, e187_110, e187_112, e187_115, e187_116, e187_119, e187_120, e187_121, e187_124, e187_127, e187_128, e187_131, e187_132, e187_133, e187_136, e187_139, e187_140, e187_141, e187_142, e187_145, e187_148, e187_149, e187_150, e187_151, e187_154, e187_157, e187_161, e187_162, e187_165, gK0_eq, gK1_eq, gK3_eq, w32_id, bI_eq0, bI_eq1, Bool.false_eq_true, not_true_eq_false, not_false_eq_true, ne_eq, ite_not, ↓reduceIte, if_true, if_false, Int.reduceToNat, Nat.reduceAdd, Int.reduceEq, Int.reduceLT, Int.reduceLE, Int.reduceNeg, bI_T, bI_F, ↓if_pos, ↓if_neg, c, k_spansPage hI h.1 he, q, k_isMapped h.2.1 hd4 hp, hmv, k_isSpannedIn hI h, hsp]
        | false =>
          rw [s] at hsp
          have hm2 : 0 ≤ T0 (64 * d + p) ∧ T0 (64 * d + p) < 64 := ⟨hm0, (hF _ (by omega) (by omega)).2⟩
          obtain ⟨μ1, f1, r1, run1⟩ := k_Sleave (p := p) hI h (by rw [e1672]; exact hd) hp (by rw [hv]; exact hm0)
          have d1 := tDe_step rfl hd4 hp hD nD hm2
          have e1 : bOr (cMp T0 d (fun x => (xGp X e x && decide (x < p)) && !tSpd X T0 d x)) (64 * d + p) = cMp T0 d (fun x => (xGp X e x && decide (x < p + 1)) && !tSpd X T0 d x) := by
            rw [← cMp_add hp hm0, ← bOr_and_t (S := fun x => !tSpd X T0 d x) (by rw [s]; rfl), eP]
          rw [e1] at d1
          obtain ⟨T2, μ2, f2, r2, d2, run2⟩ := ih (p + 1) _ μ1 r1 d1 (by omega) (by omega)
          refine ⟨T2, μ2, gFr_trans f1 f2, r2, d2, fun Q => ?_⟩
          rw [← run2, e187_109]
          simp (disch := first | assumption | omega) only [e187_0, e187_1, e187_4, e187_5, e187_8, e187_9, e187_10, e187_11, e187_14, e187_15, e187_18, e187_20, e187_21, e187_24, e187_27, e187_28, e187_31, e187_34, e187_35, e187_36, e187_39, e187_42, e187_45, e187_46, e187_49, e187_51, e187_52, e187_55, e187_58, e187_61, e187_62, e187_63, e187_64, e187_65, e187_66, e187_69, e187_72, e187_75, e187_76, e187_79, e187_80, e187_81, e187_84, e187_87, e187_88, e187_91, e187_92, e187_95, e187_98, e187_101, e187_102, e187_103, e187_104, e187_107, e187_108, e187_110, e187_112, e187_115, e187_116, e187_119, e187_120, e187_121, e187_124, e187_127, e187_128, e187_131, e187_132, e187_133, e187_136, e187_139, e187_140, e187_141, e187_142, e187_145, e187_148, e187_149, e187_150, e187_151, e187_154, e187_157, e187_161, e187_162, e187_165, gK0_eq, gK1_eq, gK3_eq, w32_id, bI_eq0, bI_eq1, Bool.false_eq_true, not_true_eq_false, not_false_eq_true, ne_eq, ite_not, ↓reduceIte, if_true, if_false, Int.reduceToNat, Nat.reduceAdd, Int.reduceEq, Int.reduceLT, Int.reduceLE, Int.reduceNeg, bI_T, bI_F, ↓if_pos, ↓if_neg, c, k_spansPage hI h.1 he, q, k_isMapped h.2.1 hd4 hp, hmv, k_isSpannedIn hI h, hsp, run1]
theorem k_detach_no {e : Int} (hI : gIX X) (h : rSt B X T μ) (he : 0 ≤ e ∧ e < X 167 12) (hH : ∀ g, 0 ≤ g → g < 8 → -1 ≤ T (1673 + g)) (hn : T (1673 + X 179 e) < 0 ∨ 22 < T 1681) : ∃ μ', gFr B (B + 50) μ μ' ∧ rSt B X (if T (1673 + X 179 e) < 0 then tRef T 9 (X 179 e) else tRef T 6 (T 1681)) μ' ∧ ∀ Q : Int → gM → Prop, gE 187 0 [gO 6 B, gI e, gX, gX] [] μ Q = Q (-2) μ' := by
  have n2 := hI.2.1
  have he8 : 0 ≤ e ∧ e < 8 := by omega
  have g := gX8 hI he8
  have hh := hH (X 179 e) g.1 g.2.1
  have b1 := h.2.2.2.2.2.2.2 e he.1 he.2
  have b2 := h.1.2 e he.1 he.2
  have e0 := he.1
  have e1 : e < ((8 : Nat) : Int) := he8.2
  have h0 := h.2.2.2.1.2.1
  by_cases c : T (1673 + X 179 e) < 0
  · have c' : T (1673 + X 179 e) = -1 := by omega
    obtain ⟨μ1, f1, r1, run1⟩ := k_Srefuse (c := 9) (a := X 179 e) hI h
    rw [if_pos c]
    refine ⟨μ1, f1, r1, fun Q => ?_⟩
    simp (disch := first | assumption | omega) only [e187_0, e187_1, e187_4, e187_5, e187_8, e187_9, e187_10, e187_11, e187_14, e187_15, e187_18, e187_20, e187_21, e187_24, e187_27, e187_28, e187_31, e187_34, e187_35, e187_36, e187_39, e187_42, e187_45, e187_46, e187_49, e187_51, e187_52, e187_55, e187_58, e187_61, e187_62, e187_63, e187_65, e187_66, e187_69, e187_72, e187_75, e187_76, e187_79, e187_80, e187_81, e187_84, e187_87, e187_88, e187_91, e187_92, e187_95, e187_98, e187_101, e187_102, e187_103, e187_104, e187_107, e187_108, e187_110, e187_112, e187_115, e187_116, e187_119, e187_120, e187_121, e187_124, e187_127, e187_128, e187_131, e187_132, e187_133, e187_136, e187_139, e187_140, e187_141, e187_142, e187_145, e187_148, e187_149, e187_150, e187_151, e187_154, e187_157, e187_160, e187_161, e187_162, e187_165, gK0_eq, gK1_eq, gK3_eq, w32_id, bI_eq0, bI_eq1, Bool.false_eq_true, not_true_eq_false, not_false_eq_true, ne_eq, ite_not, ↓reduceIte, if_true, if_false, Int.reduceToNat, Nat.reduceAdd, Int.reduceEq, Int.reduceLT, Int.reduceLE, Int.reduceNeg, bI_T, bI_F, ↓if_pos, ↓if_neg, s_at, atv_in, b1, b2, c', run1]
  · have c' : ¬ T (1673 + X 179 e) = -1 := by omega
    have c2 : ¬ T 1681 ≤ 22 := by omega
    obtain ⟨μ1, f1, r1, run1⟩ := k_Srefuse (c := 6) (a := T 1681) hI h
    rw [if_neg c]
    refine ⟨μ1, f1, r1, fun Q => ?_⟩
    simp (disch := first | assumption | omega) only [e187_0, e187_1, e187_4, e187_5, e187_8, e187_9, e187_10, e187_11, e187_14, e187_15, e187_18, e187_20, e187_21, e187_24, e187_27, e187_28, e187_31, e187_34, e187_35, e187_36, e187_39, e187_42, e187_45, e187_46, e187_49, e187_51, e187_52, e187_55, e187_58, e187_61, e187_62, e187_63, e187_65, e187_66, e187_69, e187_72, e187_75, e187_76, e187_79, e187_80, e187_81, e187_84, e187_87, e187_88, e187_91, e187_92, e187_95, e187_98, e187_101, e187_102, e187_103, e187_104, e187_107, e187_108, e187_110, e187_112, e187_115, e187_116, e187_119, e187_120, e187_121, e187_124, e187_127, e187_128, e187_131, e187_132, e187_133, e187_136, e187_139, e187_140, e187_141, e187_142, e187_145, e187_148, e187_149, e187_150, e187_151, e187_154, e187_157, e187_160, e187_161, e187_162, e187_165, gK0_eq, gK1_eq, gK3_eq, w32_id, bI_eq0, bI_eq1, Bool.false_eq_true, not_true_eq_false, not_false_eq_true, ne_eq, ite_not, ↓reduceIte, if_true, if_false, Int.reduceToNat, Nat.reduceAdd, Int.reduceEq, Int.reduceLT, Int.reduceLE, Int.reduceNeg, bI_T, bI_F, ↓if_pos, ↓if_neg, s_at, atv_in, b1, b2, c', k_QtakesTwo h.2.2.2.1, bI_f c2, h0, run1]
theorem k_detach {e : Int} (hI : gIX X) (h : rSt B X T μ) (he : 0 ≤ e ∧ e < X 167 12) (hd : 0 ≤ T (1673 + X 179 e) ∧ T (1673 + X 179 e) < T 1672) (hq : T 1681 ≤ 22) (hO : tRqO (fun e => X 179 e) (X 167 12) T) :
    ∃ T2, tDe (tDt0 X T e) (tDtD X (tDt0 X T e) e (T (1673 + X 179 e))) T2 ∧ ∃ μ', gFr B (B + 50) μ μ' ∧ rSt B X (tFlu T2 (T (1673 + X 179 e))) μ' ∧ ∀ Q : Int → gM → Prop, gE 187 0 [gO 6 B, gI e, gX, gX] [] μ Q = Q (w32 (T2 1811 + 1)) μ' := by
  have n2 := hI.2.1
  have he8 : 0 ≤ e ∧ e < 8 := by omega
  have g := gX8 hI he8
  have hD := h.2.1.1
  have b1 := h.2.2.2.2.2.2.2 e he.1 he.2
  have e0 := he.1
  have e1 : e < ((8 : Nat) : Int) := he8.2
  have c' : ¬ T (1673 + X 179 e) = -1 := by omega
  have hW := h.2.2.2.2.2.1.1
  obtain ⟨Tc, μ1, f1, r1, ⟨t1, t2, t3, t4⟩, run1⟩ := k_failAll_loop (e := e) (d := T (1673 + X 179 e)) hI he T (X 167 12).toNat 0 T μ h (by omega) (by omega) ⟨by
    rw [List.filter_eq_self.mpr]
    intro r _
    rw [decide_eq_false (show ¬ (0 ≤ r.1 ∧ r.1 < 0) by omega)]
    rfl, fun _ _ _ => rfl, Int.le_refl _, by rw [show (T 1881 - T 1881).toNat = 0 by omega]; rfl⟩
  obtain ⟨g1, g2, g3, g4⟩ := tRmG_all (P := fun r => decide (X 179 r.1 = X 179 e)) (c := true) (T 1881).toNat T (by omega) hW.2
  have gf := tRmG_full (P := fun r => decide (X 179 r.1 = X 179 e)) (c := true) hW.1 hW.2
  have u : tDtR (fun e => X 179 e) (X 179 e) (T 1881).toNat T = tRmG (fun r => decide (X 179 r.1 = X 179 e)) true (T 1881).toNat T := tDtR_G _ _
  rw [← u] at g2 g3 g4 gf
  have lists : tL Tc = tL (tDtR (fun e => X 179 e) (X 179 e) (T 1881).toNat T) := by
    rw [t1, gf]
    apply List.filter_congr
    intro r hr
    unfold tL at hr
    rw [List.mem_map] at hr
    obtain ⟨k, hk, rfl⟩ := hr
    rw [List.mem_range] at hk
    obtain ⟨o1, -⟩ := hO.2.2 k (by omega) (by omega)
    rw [decide_eq_true (show 0 ≤ (tRw4 T k).1 ∧ (tRw4 T k).1 < X 167 12 from o1), Bool.true_and]
  have hW1 := r1.2.2.2.2.2.1.1
  have len : Tc 1881 = tDtR (fun e => X 179 e) (X 179 e) (T 1881).toNat T 1881 := by
    have : (tL Tc).length = (tL (tDtR (fun e => X 179 e) (X 179 e) (T 1881).toNat T)).length := by rw [lists]
    rw [tL_len, tL_len] at this
    omega
  have r2 : rSt B X (tDtR (fun e => X 179 e) (X 179 e) (T 1881).toNat T) μ1 := rSt_eq hI r1 ⟨lists, ⟨hW1.1, g3.1⟩, fun j hj => by
    by_cases z : j = 1917
    · rw [z, t4, g4 rfl, len]
    · rw [t2 j hj z, g2 j hj (Or.inl z)]⟩
  obtain ⟨μ2, f2, r3, run2⟩ := k_giveGroup (v := -1) hI r2 he
  have r3' : rSt B X (tDt0 X T e) μ2 := r3
  have lo : ∀ j, j < 1673 → tDt0 X T e j = T j := fun j hj => by
    unfold tDt0
    rw [tS_ne (by omega), g2 j (by omega) (Or.inl (by omega))]
  have lo1681 : tDt0 X T e 1681 = T 1681 := by
    unfold tDt0
    rw [tS_ne (by omega), g2 _ (by omega) (Or.inl (by omega))]
  have hF : ∀ j, 0 ≤ j → j < 256 → -1 ≤ tDt0 X T e j ∧ tDt0 X T e j < 64 := fun j j0 j1 => (r3'.2.1.2.2.2 j j0 j1).2.1
  have eP : cMp (tDt0 X T e) (T (1673 + X 179 e)) (fun x => (xGp X e x && decide (x < 0)) && !tSpd X (tDt0 X T e) (T (1673 + X 179 e)) x) = fun _ => false := by
    funext i
    unfold cMp
    by_cases z : 64 * T (1673 + X 179 e) ≤ i ∧ i < 64 * T (1673 + X 179 e) + 64
    · dsimp only
      rw [decide_eq_false (show ¬ i - 64 * T (1673 + X 179 e) < 0 by omega), Bool.and_false, Bool.false_and, Bool.false_and, Bool.and_false]
    · rw [decide_eq_false z, Bool.false_and]
  obtain ⟨T2, μ3, f3, r4, d2, run3⟩ := k_det_p (e := e) (d := T (1673 + X 179 e)) hI he (by rw [lo _ (by omega)]; exact hd) hF 64 0 (tDt0 X T e) μ2 r3' (by rw [eP]; exact tDe_none r3'.2.2.1.1.2) (by omega) (by omega)
  have hi2 : ∀ j, 1664 ≤ j → T2 j = tDt0 X T e j := fun j hj => d2.2.2.2 j (by omega)
  obtain ⟨μ4, f4, r5, run4⟩ := k_flushOf (d := T (1673 + X 179 e)) hI r4 (by rw [hi2 _ (by omega), lo _ (by omega)]; exact hd) (by rw [hi2 _ (by omega), lo1681]; omega)
  refine ⟨T2, d2, μ4, gFr_trans f1 (gFr_trans f2 (gFr_trans f3 f4)), r5, fun Q => ?_⟩
  simp (disch := first | assumption | omega) only [e187_0, e187_1, e187_4, e187_5, e187_8, e187_9, e187_10, e187_11, e187_14, e187_15, e187_18, e187_20, e187_21, e187_24, e187_27, e187_28, e187_31, e187_34, e187_35, e187_36, e187_39, e187_42, e187_45, e187_46, e187_49, e187_51, e187_52, e187_55, e187_58, e187_61, e187_62, e187_63, e187_65, e187_66, e187_69, e187_72, e187_75, e187_76, e187_79, e187_80, e187_81, e187_84, e187_87, e187_88, e187_91, e187_92, e187_95, e187_98, e187_101, e187_102, e187_103, e187_104, e187_107, e187_108, e187_110, e187_112, e187_115, e187_116, e187_119, e187_120, e187_121, e187_124, e187_127, e187_128, e187_131, e187_132, e187_133, e187_136, e187_139, e187_140, e187_141, e187_142, e187_145, e187_148, e187_149, e187_150, e187_151, e187_154, e187_157, e187_160, e187_161, e187_162, e187_165, gK0_eq, gK1_eq, gK3_eq, w32_id, bI_eq0, bI_eq1, Bool.false_eq_true, not_true_eq_false, not_false_eq_true, ne_eq, ite_not, ↓reduceIte, if_true, if_false, Int.reduceToNat, Nat.reduceAdd, Int.reduceEq, Int.reduceLT, Int.reduceLE, Int.reduceNeg, bI_T, bI_F, ↓if_pos, ↓if_neg, s_at, atv_in, b1, c', k_QtakesTwo h.2.2.2.1, bI_t hq, run1, run2, run3, run4]
end DETACH
