/-! the class: its state: the queue worked -/
def tQuO (T : Int → Int) : Prop := ∀ k, 0 ≤ k → k < T 1681 → (T (1682 + 4 * k) = 0 ∨ T (1682 + 4 * k) = 1 ∨ T (1682 + 4 * k) = 2) ∧ (T (1682 + 4 * k) = 0 → 0 ≤ T (1682 + 4 * k + 2))
def tFrd (T : Int → Int) (f st : Int) : Prop := tState T f = 2 ∧ tOpn T f = false ∧ T (1088 + f) < st
section WORK
variable {B C : Nat} {X μ μ' : gM} {T T' : Int → Int} {Q : Int → gM → Prop}
theorem tPas_1812 {st : Int} : tPas T st 1812 = w32 (T 1812 + 1) := by
  unfold tPas
  rw [itF_lo (P := fun j => j = 1812) (lo := 0) (hi := 64) (fun k T j h0 h1 h2 => by
    unfold tPa1
    split
    · exact tS_ne (by omega)
    · rfl) 64 0 _ 1812 (by omega) (by omega) rfl, tS_same]
theorem tWrk_lo {j : Int} (h : 0 ≤ T 1813 ∧ T 1813 ≤ 16) (hq : 0 ≤ T 1681 ∧ T 1681 ≤ 32) (hj : (j < 1024 ∨ (1088 ≤ j ∧ j < 1681) ∨ 1878 ≤ j) ∨ (1024 ≤ j ∧ j < 1088 ∧ T 1682 ≠ 2)) : tWrk T j = T j := by
  have h16 := h.2
  unfold tWrk
  split
  · rw [tPas_lo (by omega), tQGo_lo (by omega) hq]
  · have e : tQGo T 1813 = T 1813 := tQGo_lo (by omega) hq
    have l0 := h.1
    rw [(tFor_lo (T 1813).toNat (tQGo T) (by omega) (by omega)).1 j (by omega), tQGo_lo (by omega) hq]
theorem tWrk_q {j : Int} (h : 0 ≤ T 1813 ∧ T 1813 ≤ 16) (hq : 0 ≤ T 1681 ∧ T 1681 ≤ 32) (hj : 1681 ≤ j ∧ j < 1812) : tWrk T j = tQGo T j := by
  have h16 := h.2
  unfold tWrk
  split
  · rw [tPas_lo (by omega)]
  · have e : tQGo T 1813 = T 1813 := tQGo_lo (by omega) hq
    have l0 := h.1
    rw [(tFor_lo (T 1813).toNat (tQGo T) (by omega) (by omega)).1 j (by omega)]
theorem tQuO_wrk (h : 0 ≤ T 1813 ∧ T 1813 ≤ 16) (hq : 0 ≤ T 1681 ∧ T 1681 ≤ 32) (hO : tQuO T) : tQuO (tWrk T) := by
  intro k k0 k1
  rw [tWrk_q h hq (by omega), tQGo_1681] at k1
  rw [tWrk_q h hq (by omega), tWrk_q h hq (by omega)]
  obtain ⟨a1, a2, a3, a4⟩ := tQGo_at k0 k1 hq.2
  rw [a1, a3]
  exact hO (k + 1) (by omega) (by omega)
theorem k_workOne (hI : gIX X) (h : rSt B X T μ) (hO : tQuO T) (hq : 0 < T 1681) : ∃ μ', gFr B (B + 50) μ μ' ∧ rSt B X (tWrk T) μ' ∧ ∀ Q : Int → gM → Prop, gE 190 0 [gO 6 B, gX] [] μ Q = Q 0 μ' := by
  have hq2 := h.2.2.2.1.1
  have hC : 0 ≤ T 1813 ∧ T 1813 ≤ 16 := ⟨h.2.2.2.2.1.1.1.1, by have := h.2.2.2.2.1.1.1.2.1; have := h.2.2.2.2.1.1.2.2; omega⟩
  have e13 : tQGo T 1813 = T 1813 := tQGo_lo (by omega) hq2
  have b := h.2.2.2.1.2.2.2.2.2 0 (by omega) hq
  have o := hO 0 (by omega) hq
  simp only [Int.mul_zero, Int.add_zero, Int.reduceAdd] at b o
  obtain ⟨b1, b2, b3, b4⟩ := b
  have rc : rCa (B + 32) (X 178 0) (tQGo T) μ := rCa_tr h.2.2.2.2.1 rfl (fun _ _ _ => ⟨rfl, rfl, rfl, rfl⟩) (fun j j0 j1 => tQGo_lo (by omega) hq2)
  have z0 : (0 : Int) < ((32 : Nat) : Int) := by omega
  have lo : ∀ j, (j < 1024 ∨ (1088 ≤ j ∧ j < 1681) ∨ 1878 ≤ j) ∨ (1024 ≤ j ∧ j < 1088 ∧ T 1682 ≠ 2) → tWrk T j = T j := fun j hj => tWrk_lo hC hq2 hj
  have key : ∀ μ1, gFr (B + 32) (B + 37) μ μ1 → rCa (B + 32) (X 178 0) (tWrk T) μ1 → T 1682 ≠ 2 → ∃ μ', gFr B (B + 50) μ μ' ∧ rSt B X (tWrk T) μ' ∧ ∀ Q : Int → gM → Prop, gE 136 0 [gO 3 (B + 27)] [] μ1 Q = Q 0 μ' := by
    intro μ1 f1 r1 n2
    have q1 : rQu (B + 27) T μ1 := rQu_fr h.2.2.2.1 f1 (by omega) (fun j _ _ => rfl)
    obtain ⟨μ2, f2, r2, run2⟩ := k_QtakeFirst q1 hq
    have ff : gFr (B + 27) (B + 37) μ μ2 := gFr_trans (gFr_mono f1 (by omega) (by omega)) (gFr_mono f2 (by omega) (by omega))
    have r2' : rQu (B + 27) (tWrk T) μ2 := rQu_tr r2 (fun i => Or.inl rfl) (fun _ _ _ => ⟨rfl, rfl, rfl, rfl⟩) (fun j j0 j1 => by
      by_cases z : j = 1812
      · have e : tWrk T 1812 = tQGo T 1812 := by
          unfold tWrk
          rw [if_neg n2, (tFor_lo (T 1813).toNat (tQGo T) (by omega) (by omega)).1 1812 (by omega)]
        rw [z, e]
      · exact tWrk_q hC hq2 (by omega))
    exact ⟨μ2, gFr_mono ff (by omega) (by omega), ⟨rTr_fr hI h.1 ff (by omega), rTb_fr h.2.1 ff (by omega) (fun j hj => by exact lo j (by omega)), rFr_fr h.2.2.1 ff (by omega) (fun j hj => by exact lo j (by omega)), r2', rCa_fr r1 f2 (by omega) (fun j _ _ => rfl), rRq_fr h.2.2.2.2.2.1 ff (by omega) (fun j j1 j2 => by exact lo j (by omega)), rLg_fr h.2.2.2.2.2.2.1 ff (by omega) (fun j hj => by exact lo j (by omega)), rDm_fr hI h.2.2.2.2.2.2.2 ff (by omega) (fun j j1 j2 => by exact lo j (by omega))⟩, run2⟩
  rcases o.1 with s | s | s
  · have w : tWrk T = tFor (T 1683) (T 1684) (tQGo T 1813).toNat (tQGo T) := by unfold tWrk; rw [if_neg (by omega), if_pos s, e13]
    obtain ⟨μ1, f1, r1, run1⟩ := k_CdropPage (d := T 1683) (p := T 1684) rc (o.2 s)
    rw [← w] at r1
    obtain ⟨μ2, f2, r2, run2⟩ := key μ1 f1 r1 (by omega)
    refine ⟨μ2, f2, r2, fun Q => ?_⟩
    simp (disch := first | assumption | omega) only [e190_0, e190_1, e190_4, e190_7, e190_8, e190_11, e190_12, e190_13, e190_16, e190_17, e190_20, e190_21, e190_24, e190_27, e190_28, e190_31, e190_32, e190_35, e190_38, e190_39, e190_42, e190_45, e190_48, e190_49, e190_50, e190_53, e190_54, e190_57, e190_58, e190_61, e190_64, e190_65, e190_68, e190_71, e190_74, e190_75, e190_78, e190_79, e190_82, e190_85, e190_86, e190_89, e190_92, e190_93, e190_96, e190_97, e190_100, e190_101, e190_102, e190_105, e190_106, e190_109, e190_112, gK0_eq, gK1_eq, gK3_eq, w32_id, bI_eq0, bI_eq1, Bool.false_eq_true, not_true_eq_false, not_false_eq_true, ne_eq, ite_not, ↓reduceIte, if_true, if_false, Int.reduceToNat, Nat.reduceAdd, Int.reduceEq, Int.reduceLT, Int.reduceLE, Int.reduceNeg, bI_T, bI_F, ↓if_pos, ↓if_neg, s_at, atv_in, Int.le_refl, b1, b2, b3, s, run1, run2]
  · have w : tWrk T = tFor (T 1683) (-1) (tQGo T 1813).toNat (tQGo T) := by unfold tWrk; rw [if_neg (by omega), if_neg (by omega), e13]
    obtain ⟨μ1, f1, r1, run1⟩ := k_CdropAll (d := T 1683) rc
    rw [← w] at r1
    obtain ⟨μ2, f2, r2, run2⟩ := key μ1 f1 r1 (by omega)
    refine ⟨μ2, f2, r2, fun Q => ?_⟩
    simp (disch := first | assumption | omega) only [e190_0, e190_1, e190_4, e190_7, e190_8, e190_11, e190_12, e190_13, e190_16, e190_17, e190_20, e190_21, e190_24, e190_27, e190_28, e190_31, e190_32, e190_35, e190_38, e190_39, e190_42, e190_45, e190_48, e190_49, e190_50, e190_53, e190_54, e190_57, e190_58, e190_61, e190_64, e190_65, e190_68, e190_71, e190_74, e190_75, e190_78, e190_79, e190_82, e190_85, e190_86, e190_89, e190_92, e190_93, e190_96, e190_97, e190_100, e190_101, e190_102, e190_105, e190_106, e190_109, e190_112, gK0_eq, gK1_eq, gK3_eq, w32_id, bI_eq0, bI_eq1, Bool.false_eq_true, not_true_eq_false, not_false_eq_true, ne_eq, ite_not, ↓reduceIte, if_true, if_false, Int.reduceToNat, Nat.reduceAdd, Int.reduceEq, Int.reduceLT, Int.reduceLE, Int.reduceNeg, bI_T, bI_F, ↓if_pos, ↓if_neg, s_at, atv_in, Int.le_refl, b1, b2, s, run1, run2]
  · have w : tWrk T = tPas (tQGo T) (T 1685) := by unfold tWrk; rw [if_pos s]
    have rf : rFr (B + 22) (tQGo T) μ := rFr_tr h.2.2.1 (fun _ _ _ => ⟨rfl, rfl, rfl⟩) (fun _ _ _ => rfl) (fun j hj => tQGo_lo (by omega) hq2)
    obtain ⟨μ1, f1, r1, run1⟩ := k_pass (st := T 1685) rf
    have q1 : rQu (B + 27) T μ1 := rQu_fr h.2.2.2.1 f1 (by omega) (fun j _ _ => rfl)
    have q7 := q1.2.2.2.2.1
    have q2 : rQu (B + 27) (tS T 1812 (w32 (T 1812 + 1))) (gS μ1 (B + 27) 7 (w32 (T 1812 + 1))) := by
      obtain ⟨g1, g2, g3, g4, g5, g6⟩ := q1
      refine ⟨by rw [tS_ne (by omega)]; exact g1, by rw [tS_ne (by omega), gS_neI (by omega)]; exact g2, by rw [tS_ne (by omega), gS_neI (by omega)]; exact g3, by rw [tS_ne (by omega), gS_neI (by omega)]; exact g4, by rw [tS_same, gS_same], fun k k0 k1 => ?_⟩
      rw [tS_ne (by omega)] at k1
      rw [tS_ne (by omega), tS_ne (by omega), tS_ne (by omega), tS_ne (by omega), gS_neK (by omega), gS_neK (by omega), gS_neK (by omega), gS_neK (by omega)]
      exact g6 k k0 k1
    obtain ⟨μ2, f2, r2, run2⟩ := k_QtakeFirst q2 (by rw [tS_ne (by omega)]; exact hq)
    have e1681 : tS T 1812 (w32 (T 1812 + 1)) 1681 = T 1681 := tS_ne (by omega)
    have r2' : rQu (B + 27) (tWrk T) μ2 := rQu_tr r2 (fun i => Or.inl rfl) (fun _ _ _ => ⟨rfl, rfl, rfl, rfl⟩) (fun j j0 j1 => by
      by_cases z : j = 1812
      · rw [z, w, tPas_1812, tQGo_lo (by omega) hq2, tQGo_lo (by omega) (by rw [e1681]; exact hq2), tS_same]
      · rw [w, tPas_lo (by omega)]
        unfold tQGo
        rw [e1681]
        by_cases y : j = 1681
        · rw [y, tS_same, tS_same]
        · rw [tS_ne y, tS_ne y]
          unfold tShL
          split
          · rw [tS_ne (by omega)]
          · rw [tS_ne z])
    have ff : gFr (B + 22) (B + 32) μ μ2 := gFr_trans (gFr_mono f1 (by omega) (by omega)) (gFr_trans (gFr_gS gFr_refl (by omega) (by omega)) (gFr_mono f2 (by omega) (by omega)))
    have r1' : rFr (B + 22) (tWrk T) μ2 := by
      rw [w]
      exact rFr_fr (rFr_fr r1 (gFr_gS (i := 7) (v := w32 (T 1812 + 1)) gFr_refl (show B + 27 ≤ B + 27 by omega) (show B + 27 < B + 28 by omega)) (by omega) (fun j _ => rfl)) f2 (by omega) (fun j _ => rfl)
    have cc : rCa (B + 32) (X 178 0) (tWrk T) μ2 := rCa_fr h.2.2.2.2.1 ff (by omega) (fun j j0 j1 => by rw [w, tPas_lo (by omega), tQGo_lo (by omega) hq2])
    refine ⟨μ2, gFr_mono ff (by omega) (by omega), ⟨rTr_fr hI h.1 ff (by omega), rTb_fr h.2.1 ff (by omega) (fun j hj => by exact lo j (by omega)), r1', r2', cc, rRq_fr h.2.2.2.2.2.1 ff (by omega) (fun j j1 j2 => by exact lo j (by omega)), rLg_fr h.2.2.2.2.2.2.1 ff (by omega) (fun j hj => by exact lo j (by omega)), rDm_fr hI h.2.2.2.2.2.2.2 ff (by omega) (fun j j1 j2 => by exact lo j (by omega))⟩, fun Q => ?_⟩
    simp (disch := first | assumption | omega) only [e190_0, e190_1, e190_4, e190_7, e190_8, e190_11, e190_12, e190_13, e190_16, e190_17, e190_20, e190_21, e190_24, e190_27, e190_28, e190_31, e190_32, e190_35, e190_38, e190_39, e190_42, e190_45, e190_48, e190_49, e190_50, e190_53, e190_54, e190_57, e190_58, e190_61, e190_64, e190_65, e190_68, e190_71, e190_74, e190_75, e190_78, e190_79, e190_82, e190_85, e190_86, e190_89, e190_92, e190_93, e190_96, e190_97, e190_100, e190_101, e190_102, e190_105, e190_106, e190_109, e190_112, gK0_eq, gK1_eq, gK3_eq, w32_id, bI_eq0, bI_eq1, Bool.false_eq_true, not_true_eq_false, not_false_eq_true, ne_eq, ite_not, ↓reduceIte, if_true, if_false, Int.reduceToNat, Nat.reduceAdd, Int.reduceEq, Int.reduceLT, Int.reduceLE, Int.reduceNeg, bI_T, bI_F, ↓if_pos, ↓if_neg, s_at, atv_in, Int.le_refl, b1, b4, s, run1, q7, run2]
theorem k_work_loop {n : Int} (hI : gIX X) (hn : 0 ≤ n ∧ n ≤ 32) : ∀ (m : Nat) (k : Int) (T : Int → Int) (μ : gM) (l1 : gv), rSt B X T μ → tQuO T → 0 ≤ k → k + m = n → m ≤ T 1681 →
    ∃ μ', gFr B (B + 50) μ μ' ∧ rSt B X (tWks m T) μ' ∧ tQuO (tWks m T) ∧ tWks m T 1681 = T 1681 - m ∧ ∀ Q : Int → gM → Prop, gE 189 14 [gO 6 B, l1, gI n, gI k] [] μ Q = Q n μ' := by
  intro m
  induction m with
  | zero =>
    intro k T μ l1 h hO k0 k1 hm
    have c : n ≤ k := by omega
    refine ⟨μ, gFr_refl, h, hO, by rw [tWks]; omega, fun Q => ?_⟩
    rw [e189_14]
    simp (disch := first | assumption | omega) only [e189_0, e189_1, e189_2, e189_5, e189_8, e189_11, e189_12, e189_13, e189_15, e189_16, e189_19, e189_20, e189_23, e189_26, e189_29, e189_30, gK0_eq, gK1_eq, gK3_eq, w32_id, bI_eq0, bI_eq1, Bool.false_eq_true, not_true_eq_false, not_false_eq_true, ne_eq, ite_not, ↓reduceIte, if_true, if_false, Int.reduceToNat, Nat.reduceAdd, Int.reduceEq, Int.reduceLT, Int.reduceLE, Int.reduceNeg, bI_T, bI_F, ↓if_pos, ↓if_neg, c]
  | succ m ih =>
    intro k T μ l1 h hO k0 k1 hm
    have c : ¬ n ≤ k := by omega
    have hC : 0 ≤ T 1813 ∧ T 1813 ≤ 16 := ⟨h.2.2.2.2.1.1.1.1, by have := h.2.2.2.2.1.1.1.2.1; have := h.2.2.2.2.1.1.2.2; omega⟩
    have hq2 := h.2.2.2.1.1
    obtain ⟨μ1, f1, r1, run1⟩ := k_workOne hI h hO (by omega)
    have e1 : tWrk T 1681 = T 1681 - 1 := by rw [tWrk_q hC hq2 (by omega), tQGo_1681]
    obtain ⟨μ2, f2, r2, o2, e2, run2⟩ := ih (k + 1) (tWrk T) μ1 l1 r1 (tQuO_wrk hC hq2 hO) (by omega) (by omega) (by omega)
    rw [tWks, if_neg (by omega)]
    refine ⟨μ2, gFr_trans f1 f2, r2, o2, by rw [e2, e1]; omega, fun Q => ?_⟩
    rw [← run2 Q, e189_14]
    simp (disch := first | assumption | omega) only [e189_0, e189_1, e189_2, e189_5, e189_8, e189_11, e189_12, e189_13, e189_15, e189_16, e189_19, e189_20, e189_23, e189_26, e189_29, e189_30, gK0_eq, gK1_eq, gK3_eq, w32_id, bI_eq0, bI_eq1, Bool.false_eq_true, not_true_eq_false, not_false_eq_true, ne_eq, ite_not, ↓reduceIte, if_true, if_false, Int.reduceToNat, Nat.reduceAdd, Int.reduceEq, Int.reduceLT, Int.reduceLE, Int.reduceNeg, bI_T, bI_F, ↓if_pos, ↓if_neg, c, run1]
theorem k_workSteps {n : Int} (hI : gIX X) (h : rSt B X T μ) (hO : tQuO T) (hn : 0 ≤ n ∧ n ≤ 32) : ∃ μ', gFr B (B + 50) μ μ' ∧ rSt B X (tWks (imin n (T 1681)).toNat T) μ' ∧ tQuO (tWks (imin n (T 1681)).toNat T) ∧ ∀ Q : Int → gM → Prop, gE 189 0 [gO 6 B, gI n, gX, gX] [] μ Q = Q (imin n (T 1681)) μ' := by
  have hq2 := h.2.2.2.1.1
  have h0 := h.2.2.2.1.2.1
  have im : 0 ≤ imin n (T 1681) ∧ imin n (T 1681) ≤ n ∧ imin n (T 1681) ≤ T 1681 := by unfold imin; split <;> omega
  obtain ⟨μ1, f1, r1, o1, -, run1⟩ := k_work_loop (n := imin n (T 1681)) hI (by omega) (imin n (T 1681)).toNat 0 T μ (gI n) h hO (by omega) (by omega) (by omega)
  refine ⟨μ1, f1, r1, o1, fun Q => ?_⟩
  simp (disch := first | assumption | omega) only [e189_0, e189_1, e189_2, e189_5, e189_8, e189_11, e189_12, e189_13, e189_15, e189_16, e189_19, e189_20, e189_23, e189_26, e189_29, e189_30, gK0_eq, gK1_eq, gK3_eq, w32_id, bI_eq0, bI_eq1, Bool.false_eq_true, not_true_eq_false, not_false_eq_true, ne_eq, ite_not, ↓reduceIte, if_true, if_false, Int.reduceToNat, Nat.reduceAdd, Int.reduceEq, Int.reduceLT, Int.reduceLE, Int.reduceNeg, bI_T, bI_F, ↓if_pos, ↓if_neg, h0, run1]
theorem tWks_more : ∀ (m : Nat) (a : Nat) (T : Int → Int), (0 ≤ T 1672 ∧ T 1672 ≤ 4) → (0 ≤ T 1813 ∧ T 1813 ≤ 16) → (0 ≤ T 1681 ∧ T 1681 ≤ 32) → T 1681 ≤ m → tWks (m + a) T = tWks m T := by
  intro m
  induction m with
  | zero =>
    intro a T hD hC hq hm
    have z : T 1681 = 0 := by omega
    rw [Nat.zero_add]
    cases a with
    | zero => rfl
    | succ a =>
      have : tWks (a + 1) T = T := by rw [tWks, if_pos z]
      rw [this]; rfl
  | succ m ih =>
    intro a T hD hC hq hm
    rw [show m + 1 + a = (m + a) + 1 by omega, tWks, tWks]
    by_cases z : T 1681 = 0
    · rw [if_pos z, if_pos z]
    · rw [if_neg z, if_neg z]
      obtain ⟨f1, f2, f3, f4⟩ := tWrk_facts hD (by omega) hC
      exact ih a (tWrk T) (by omega) (by omega) (by omega) (by omega)
theorem k_work {n : Int} (hI : gIX X) (h : rSt B X T μ) (hO : tQuO T) (hn : 0 ≤ n ∧ n ≤ 24) : ∃ μ', gFr B (B + 50) μ μ' ∧ rSt B X (tWkT T n) μ' ∧ tQuO (tWkT T n) ∧ ∀ Q : Int → gM → Prop, gE 189 0 [gO 6 B, gI n, gX, gX] [] μ Q = Q (tWkA T n) μ' := by
  have hD := h.2.1.1
  have hC : 0 ≤ T 1813 ∧ T 1813 ≤ 16 := ⟨h.2.2.2.2.1.1.1.1, by have := h.2.2.2.2.1.1.1.2.1; have := h.2.2.2.2.1.1.2.2; omega⟩
  have hq2 := h.2.2.2.1.1
  obtain ⟨μ1, f1, r1, o1, run1⟩ := k_workSteps (n := n) hI h hO (by omega)
  have e : tWkT T n = tWks (imin n (T 1681)).toNat T := by
    unfold tWkT imin
    rw [if_pos hn]
    by_cases c : T 1681 < n
    · rw [if_pos c, show n.toNat = (T 1681).toNat + (n.toNat - (T 1681).toNat) by omega, tWks_more _ _ T hD hC hq2 (by omega)]
    · rw [if_neg c]
  have e2 : tWkA T n = imin n (T 1681) := by
    unfold tWkA imin
    rw [if_pos hn]
    by_cases c : T 1681 < n
    · rw [if_neg (by omega), if_pos c]
    · rw [if_pos (by omega), if_neg c]
  rw [e, e2]
  exact ⟨μ1, f1, r1, o1, run1⟩
theorem k_workAll (hI : gIX X) (h : rSt B X T μ) (hO : tQuO T) : ∃ μ', gFr B (B + 50) μ μ' ∧ rSt B X (tWks (T 1681).toNat T) μ' ∧ ∀ Q : Int → gM → Prop, gE 189 0 [gO 6 B, gI (T 1681), gX, gX] [] μ Q = Q (T 1681) μ' := by
  have hq2 := h.2.2.2.1.1
  obtain ⟨μ1, f1, r1, o1, run1⟩ := k_workSteps (n := T 1681) hI h hO hq2
  have e : imin (T 1681) (T 1681) = T 1681 := by unfold imin; rw [if_neg (by omega)]
  rw [e] at r1 run1
  exact ⟨μ1, f1, r1, run1⟩
/-- a pass frees just the frames that it can -/
theorem tState_congr {f : Int} (h1 : ∀ j, 0 ≤ j ∧ j < 256 → T' j = T j) (h2 : T' 1672 = T 1672) (h3 : T' (1024 + f) = T (1024 + f)) (hD : 0 ≤ T 1672 ∧ T 1672 ≤ 4) : tState T' f = tState T f := by
  unfold tState
  rw [tUses_congr h1 h2 hD, h3]
theorem tOpn_congr {f : Int} (hf : 0 ≤ f ∧ f < 64) (h : ∀ j, 1152 ≤ j ∧ j < 1664 → T' j = T j) : tOpn T' f = tOpn T f := by
  unfold tOpn
  apply anyF_congr
  intro i i0 i1
  rw [h _ (by omega)]
theorem tFrd_congr {f st : Int} (hf : 0 ≤ f ∧ f < 64) (h : ∀ j, (0 ≤ j ∧ j < 256) ∨ (1088 ≤ j ∧ j < 1664) ∨ j = 1672 → T' j = T j) (h3 : T' (1024 + f) = T (1024 + f)) (hD : 0 ≤ T 1672 ∧ T 1672 ≤ 4) : tFrd T' f st ↔ tFrd T f st := by
  unfold tFrd
  rw [tState_congr (fun j hj => h j (by omega)) (h _ (by omega)) h3 hD, tOpn_congr hf (fun j hj => h j (by omega)), h _ (by omega)]
theorem tPa_at {f st : Int} (hf : 0 ≤ f ∧ f < 64) : ∀ (n : Nat) (k : Int) (T : Int → Int), 0 ≤ T 1672 ∧ T 1672 ≤ 4 → 0 ≤ k → k + n ≤ 64 → (k ≤ f ∧ f < k + n → (tFrd T f st → itF (fun f T => tPa1 st f T) k n T (1024 + f) = 0) ∧ (¬ tFrd T f st → itF (fun f T => tPa1 st f T) k n T (1024 + f) = T (1024 + f))) ∧ (¬ (k ≤ f ∧ f < k + n) → itF (fun f T => tPa1 st f T) k n T (1024 + f) = T (1024 + f)) := by
  intro n
  induction n with
  | zero => intro k T hD k0 k1; exact ⟨fun z => by omega, fun _ => rfl⟩
  | succ n ih =>
    intro k T hD k0 k1
    have lo : ∀ j, j ≠ 1024 + k → tPa1 st k T j = T j := fun j hj => by
      unfold tPa1
      split
      · exact tS_ne hj
      · rfl
    obtain ⟨i1, i2⟩ := ih (k + 1) (tPa1 st k T) (by rw [lo _ (by omega)]; exact hD) (by omega) (by omega)
    rw [itF]
    by_cases c : f = k
    · subst c
      have e := i2 (by omega)
      refine ⟨fun _ => ⟨fun q => ?_, fun q => ?_⟩, fun z => by omega⟩
      · rw [e]
        unfold tPa1
        rw [if_pos (show tState T f = 2 ∧ tOpn T f = false ∧ T (1088 + f) < st from q), tS_same]
      · rw [e]
        unfold tPa1
        rw [if_neg (show ¬ (tState T f = 2 ∧ tOpn T f = false ∧ T (1088 + f) < st) from q)]
    · have cg : tFrd (tPa1 st k T) f st ↔ tFrd T f st := tFrd_congr hf (fun j hj => lo j (by omega)) (lo _ (by omega)) hD
      refine ⟨fun z => ?_, fun z => ?_⟩
      · obtain ⟨a1, a2⟩ := i1 (by omega)
        exact ⟨fun q => a1 (cg.mpr q), fun q => by rw [a2 (fun w => q (cg.mp w)), lo _ (by omega)]⟩
      · rw [i2 (by omega), lo _ (by omega)]
theorem tPas_at {f st : Int} (hf : 0 ≤ f ∧ f < 64) (hD : 0 ≤ T 1672 ∧ T 1672 ≤ 4) : (tFrd T f st → tPas T st (1024 + f) = 0) ∧ (¬ tFrd T f st → tPas T st (1024 + f) = T (1024 + f)) := by
  have cg : tFrd (tS T 1812 (w32 (T 1812 + 1))) f st ↔ tFrd T f st := tFrd_congr hf (fun j hj => tS_ne (by omega)) (tS_ne (by omega)) hD
  obtain ⟨a1, -⟩ := tPa_at (st := st) hf 64 0 (tS T 1812 (w32 (T 1812 + 1))) (by rw [tS_ne (by omega)]; exact hD) (by omega) (by omega)
  obtain ⟨b1, b2⟩ := a1 (by omega)
  exact ⟨fun q => b1 (cg.mpr q), fun q => by unfold tPas; rw [b2 (fun w => q (cg.mp w)), tS_ne (by omega)]⟩
theorem k_steps_loop {f : Int} (h : rSt B X T μ) (hf : 0 ≤ f ∧ f < 64) (hs : tState T f ≠ 0) : ∀ (m : Nat) (k : Int) (Tk : Int → Int), 0 ≤ k → k + m = T 1681 → ((0 ≤ Tk 1681 ∧ Tk 1681 = m) ∧ (0 ≤ Tk 1813 ∧ Tk 1813 ≤ 16)) → (∀ j, (0 ≤ j ∧ j < 256) ∨ (1088 ≤ j ∧ j < 1664) ∨ j = 1672 → Tk j = T j) → Tk (1024 + f) = T (1024 + f) → (∀ i : Int, 0 ≤ i → i < m → Tk (1682 + 4 * i) = T (1682 + 4 * (i + k)) ∧ Tk (1682 + 4 * i + 3) = T (1682 + 4 * (i + k) + 3)) →
    gE 191 15 [gO 6 B, gI f, gI k] [] μ Q = Q (if tState (tFre f m k Tk).2 f = 0 then (tFre f m k Tk).1 else -2) μ := by
  have hD := h.2.1.1
  have hq2 := h.2.2.2.1.1
  have h0 := h.2.2.2.1.2.1
  intro m
  induction m with
  | zero =>
    intro k Tk k0 k1 hk hc h3 hr
    have c : T 1681 ≤ k := by omega
    have e : tState Tk f = tState T f := tState_congr (fun j hj => hc j (by omega)) (hc _ (by omega)) h3 hD
    rw [e191_15, tFre, e, if_neg hs]
    simp (disch := first | assumption | omega) only [e191_0, e191_1, e191_4, e191_5, e191_8, e191_11, e191_12, e191_13, e191_14, e191_16, e191_17, e191_20, e191_23, e191_26, e191_27, e191_30, e191_33, e191_34, e191_37, e191_38, e191_41, e191_42, e191_45, e191_46, e191_47, e191_50, e191_53, e191_54, e191_57, e191_60, e191_63, e191_64, e191_65, e191_66, e191_67, e191_70, e191_73, e191_75, gK0_eq, gK1_eq, gK3_eq, w32_id, bI_eq0, bI_eq1, Bool.false_eq_true, not_true_eq_false, not_false_eq_true, ne_eq, ite_not, ↓reduceIte, if_true, if_false, Int.reduceToNat, Nat.reduceAdd, Int.reduceEq, Int.reduceLT, Int.reduceLE, Int.reduceNeg, bI_T, bI_F, ↓if_pos, ↓if_neg, h0, c]
  | succ m ih =>
    intro k Tk k0 k1 hk hc h3 hr
    have c : ¬ T 1681 ≤ k := by omega
    have e : tState Tk f = tState T f := tState_congr (fun j hj => hc j (by omega)) (hc _ (by omega)) h3 hD
    have eD : Tk 1672 = T 1672 := hc _ (by omega)
    have b := h.2.2.2.1.2.2.2.2.2 k k0 (by omega)
    have r0 := hr 0 (by omega) (by omega)
    simp only [Int.mul_zero, Int.add_zero, Int.zero_add, Int.reduceAdd] at r0
    have c32 : k < ((32 : Nat) : Int) := by omega
    have hqk : 0 ≤ Tk 1681 ∧ Tk 1681 ≤ 32 := by omega
    have go : ∀ R : Int, (∀ Q : Int → gM → Prop, gE 191 15 [gO 6 B, gI f, gI k] [] μ Q = gE 191 15 [gO 6 B, gI f, gI (k + 1)] [] μ Q) → tState T f = 2 → tWrk Tk (1024 + f) = T (1024 + f) → gE 191 15 [gO 6 B, gI f, gI k] [] μ Q = Q (if tState (tFre f (m + 1) k Tk).2 f = 0 then (tFre f (m + 1) k Tk).1 else -2) μ := by
      intro R st s2 hw
      obtain ⟨w1, w2, w3, w4⟩ := tWrk_facts (T := Tk) (by omega) (by omega) hk.2
      have step : tFre f (m + 1) k Tk = tFre f m (k + 1) (tWrk Tk) := by rw [tFre, if_pos ⟨by rw [e, s2], by omega⟩]
      rw [st Q, step]
      exact ih (k + 1) (tWrk Tk) (by omega) (by omega) ⟨by omega, by omega⟩ (fun j hj => by rw [tWrk_lo hk.2 hqk (by omega), hc j hj]) hw (fun i i0 i1 => by
        obtain ⟨a1, a2, a3, a4⟩ := tQGo_at (T := Tk) (i := i) i0 (by omega) (by omega)
        rw [tWrk_q hk.2 hqk (by omega), tWrk_q hk.2 hqk (by omega), a1, a4]
        have := hr (i + 1) (by omega) (by omega)
        rw [show i + 1 + k = i + (k + 1) by omega] at this
        exact this)
    by_cases s2 : tState T f = 2
    · by_cases q1 : T (1682 + 4 * k) = 2
      · have w : tWrk Tk = tPas (tQGo Tk) (Tk 1685) := by unfold tWrk; rw [if_pos (by rw [r0.1]; exact q1)]
        have qD : 0 ≤ tQGo Tk 1672 ∧ tQGo Tk 1672 ≤ 4 := by rw [tQGo_lo (by omega) hqk]; omega
        have cg : tFrd (tQGo Tk) f (Tk 1685) ↔ tFrd T f (T (1682 + 4 * k + 3)) := by
          rw [r0.2]
          exact tFrd_congr hf (fun j hj => by rw [tQGo_lo (by omega) hqk, hc j (by omega)]) (by rw [tQGo_lo (by omega) hqk, h3]) hD
        by_cases q2 : tFrd T f (T (1682 + 4 * k + 3))
        · have p0 := (tPas_at hf qD).1 (cg.mpr q2)
          rw [← w] at p0
          obtain ⟨w1, w2, w3, w4⟩ := tWrk_facts (T := Tk) (by omega) (by omega) hk.2
          have u0 : ¬ 0 < tUses T f := fun z => by
            have := q2.1
            unfold tState at this
            rw [if_pos z] at this
            omega
          have z : tState (tWrk Tk) f = 0 := by
            unfold tState
            rw [tUses_congr (T := T) (fun j hj => by rw [tWrk_lo hk.2 hqk (by omega), hc j (by omega)]) (by rw [w1]; exact eD) hD, if_neg u0, p0, if_neg (by omega)]
          have fin : tFre f (m + 1) k Tk = (k + 1, tWrk Tk) := by
            rw [tFre, if_pos ⟨by rw [e, s2], by omega⟩]
            cases m with
            | zero => rfl
            | succ m => rw [tFre, if_neg (fun y => by rw [z] at y; omega)]
          have q2' : tState T f = 2 ∧ tOpn T f = false ∧ T (1088 + f) < T (1682 + 4 * k + 3) := q2
          rw [fin, if_pos z, e191_15]
          simp (disch := first | assumption | omega) only [e191_0, e191_1, e191_4, e191_5, e191_8, e191_11, e191_12, e191_13, e191_14, e191_16, e191_17, e191_20, e191_23, e191_26, e191_27, e191_30, e191_33, e191_34, e191_37, e191_38, e191_41, e191_42, e191_45, e191_46, e191_47, e191_50, e191_53, e191_54, e191_57, e191_60, e191_63, e191_64, e191_65, e191_66, e191_67, e191_70, e191_73, e191_75, gK0_eq, gK1_eq, gK3_eq, w32_id, bI_eq0, bI_eq1, Bool.false_eq_true, not_true_eq_false, not_false_eq_true, ne_eq, ite_not, ↓reduceIte, if_true, if_false, Int.reduceToNat, Nat.reduceAdd, Int.reduceEq, Int.reduceLT, Int.reduceLE, Int.reduceNeg, bI_T, bI_F, ↓if_pos, ↓if_neg, h0, c, s_at, atv_in, b, q1, k_freedBy h.2.2.1 hf, bI_t q2']
        · have p0 := (tPas_at hf qD).2 (fun z => q2 (cg.mp z))
          rw [← w, tQGo_lo (by omega) hqk, h3] at p0
          have q2' : ¬ (tState T f = 2 ∧ tOpn T f = false ∧ T (1088 + f) < T (1682 + 4 * k + 3)) := q2
          refine go 0 (fun Q => ?_) s2 p0
          rw [e191_15]
          simp (disch := first | assumption | omega) only [e191_0, e191_1, e191_4, e191_5, e191_8, e191_11, e191_12, e191_13, e191_14, e191_16, e191_17, e191_20, e191_23, e191_26, e191_27, e191_30, e191_33, e191_34, e191_37, e191_38, e191_41, e191_42, e191_45, e191_46, e191_47, e191_50, e191_53, e191_54, e191_57, e191_60, e191_63, e191_64, e191_65, e191_66, e191_67, e191_70, e191_73, e191_75, gK0_eq, gK1_eq, gK3_eq, w32_id, bI_eq0, bI_eq1, Bool.false_eq_true, not_true_eq_false, not_false_eq_true, ne_eq, ite_not, ↓reduceIte, if_true, if_false, Int.reduceToNat, Nat.reduceAdd, Int.reduceEq, Int.reduceLT, Int.reduceLE, Int.reduceNeg, bI_T, bI_F, ↓if_pos, ↓if_neg, h0, c, s_at, atv_in, b, q1, k_freedBy h.2.2.1 hf, bI_f q2']
      · refine go 0 (fun Q => ?_) s2 (by rw [tWrk_lo hk.2 hqk (Or.inr ⟨by omega, by omega, by rw [r0.1]; exact q1⟩), h3])
        rw [e191_15]
        simp (disch := first | assumption | omega) only [e191_0, e191_1, e191_4, e191_5, e191_8, e191_11, e191_12, e191_13, e191_14, e191_16, e191_17, e191_20, e191_23, e191_26, e191_27, e191_30, e191_33, e191_34, e191_37, e191_38, e191_41, e191_42, e191_45, e191_46, e191_47, e191_50, e191_53, e191_54, e191_57, e191_60, e191_63, e191_64, e191_65, e191_66, e191_67, e191_70, e191_73, e191_75, gK0_eq, gK1_eq, gK3_eq, w32_id, bI_eq0, bI_eq1, Bool.false_eq_true, not_true_eq_false, not_false_eq_true, ne_eq, ite_not, ↓reduceIte, if_true, if_false, Int.reduceToNat, Nat.reduceAdd, Int.reduceEq, Int.reduceLT, Int.reduceLE, Int.reduceNeg, bI_T, bI_F, ↓if_pos, ↓if_neg, h0, c, s_at, atv_in, b, q1]
    · have fin : ∀ m, tFre f m k Tk = (k, Tk) := fun m => by
        cases m with
        | zero => rfl
        | succ m => rw [tFre, if_neg (fun y => s2 (by rw [← e]; exact y.1))]
      rw [fin, e, if_neg hs]
      have all : ∀ (m : Nat) (k : Int), 0 ≤ k → k + m = T 1681 → gE 191 15 [gO 6 B, gI f, gI k] [] μ Q = Q (-2) μ := by
        intro m
        induction m with
        | zero =>
          intro k k0 k1
          have c : T 1681 ≤ k := by omega
          rw [e191_15]
          simp (disch := first | assumption | omega) only [e191_0, e191_1, e191_4, e191_5, e191_8, e191_11, e191_12, e191_13, e191_14, e191_16, e191_17, e191_20, e191_23, e191_26, e191_27, e191_30, e191_33, e191_34, e191_37, e191_38, e191_41, e191_42, e191_45, e191_46, e191_47, e191_50, e191_53, e191_54, e191_57, e191_60, e191_63, e191_64, e191_65, e191_66, e191_67, e191_70, e191_73, e191_75, gK0_eq, gK1_eq, gK3_eq, w32_id, bI_eq0, bI_eq1, Bool.false_eq_true, not_true_eq_false, not_false_eq_true, ne_eq, ite_not, ↓reduceIte, if_true, if_false, Int.reduceToNat, Nat.reduceAdd, Int.reduceEq, Int.reduceLT, Int.reduceLE, Int.reduceNeg, bI_T, bI_F, ↓if_pos, ↓if_neg, h0, c]
        | succ m ih =>
          intro k k0 k1
          have c : ¬ T 1681 ≤ k := by omega
          have b := h.2.2.2.1.2.2.2.2.2 k k0 (by omega)
          have c32 : k < ((32 : Nat) : Int) := by omega
          rw [← ih (k + 1) (by omega) (by omega), e191_15]
          by_cases q1 : T (1682 + 4 * k) = 2
          · have q2' : ¬ (tState T f = 2 ∧ tOpn T f = false ∧ T (1088 + f) < T (1682 + 4 * k + 3)) := fun y => s2 y.1
            simp (disch := first | assumption | omega) only [e191_0, e191_1, e191_4, e191_5, e191_8, e191_11, e191_12, e191_13, e191_14, e191_16, e191_17, e191_20, e191_23, e191_26, e191_27, e191_30, e191_33, e191_34, e191_37, e191_38, e191_41, e191_42, e191_45, e191_46, e191_47, e191_50, e191_53, e191_54, e191_57, e191_60, e191_63, e191_64, e191_65, e191_66, e191_67, e191_70, e191_73, e191_75, gK0_eq, gK1_eq, gK3_eq, w32_id, bI_eq0, bI_eq1, Bool.false_eq_true, not_true_eq_false, not_false_eq_true, ne_eq, ite_not, ↓reduceIte, if_true, if_false, Int.reduceToNat, Nat.reduceAdd, Int.reduceEq, Int.reduceLT, Int.reduceLE, Int.reduceNeg, bI_T, bI_F, ↓if_pos, ↓if_neg, h0, c, s_at, atv_in, b, q1, k_freedBy h.2.2.1 hf, bI_f q2']
          · simp (disch := first | assumption | omega) only [e191_0, e191_1, e191_4, e191_5, e191_8, e191_11, e191_12, e191_13, e191_14, e191_16, e191_17, e191_20, e191_23, e191_26, e191_27, e191_30, e191_33, e191_34, e191_37, e191_38, e191_41, e191_42, e191_45, e191_46, e191_47, e191_50, e191_53, e191_54, e191_57, e191_60, e191_63, e191_64, e191_65, e191_66, e191_67, e191_70, e191_73, e191_75, gK0_eq, gK1_eq, gK3_eq, w32_id, bI_eq0, bI_eq1, Bool.false_eq_true, not_true_eq_false, not_false_eq_true, ne_eq, ite_not, ↓reduceIte, if_true, if_false, Int.reduceToNat, Nat.reduceAdd, Int.reduceEq, Int.reduceLT, Int.reduceLE, Int.reduceNeg, bI_T, bI_F, ↓if_pos, ↓if_neg, h0, c, s_at, atv_in, b, q1]
      exact all (m + 1) k k0 k1
theorem k_stepsTillFree {f : Int} (h : rSt B X T μ) (hf : 0 ≤ f ∧ f < 64) : gE 191 0 [gO 6 B, gI f, gX] [] μ Q = Q (tFreA T f) μ := by
  have hq2 := h.2.2.2.1.1
  have hC : 0 ≤ T 1813 ∧ T 1813 ≤ 16 := ⟨h.2.2.2.2.1.1.1.1, by have := h.2.2.2.2.1.1.1.2.1; have := h.2.2.2.2.1.1.2.2; omega⟩
  unfold tFreA
  rw [if_pos hf]
  by_cases s : tState T f = 0
  · have fin : ∀ m, tFre f m 0 T = (0, T) := fun m => by
      cases m with
      | zero => rfl
      | succ m => rw [tFre, if_neg (fun y => by rw [s] at y; omega)]
    rw [fin, if_pos s]
    simp (disch := first | assumption | omega) only [e191_0, e191_1, e191_4, e191_5, e191_8, e191_11, e191_12, e191_13, e191_14, e191_16, e191_17, e191_20, e191_23, e191_26, e191_27, e191_30, e191_33, e191_34, e191_37, e191_38, e191_41, e191_42, e191_45, e191_46, e191_47, e191_50, e191_53, e191_54, e191_57, e191_60, e191_63, e191_64, e191_65, e191_66, e191_67, e191_70, e191_73, e191_75, gK0_eq, gK1_eq, gK3_eq, w32_id, bI_eq0, bI_eq1, Bool.false_eq_true, not_true_eq_false, not_false_eq_true, ne_eq, ite_not, ↓reduceIte, if_true, if_false, Int.reduceToNat, Nat.reduceAdd, Int.reduceEq, Int.reduceLT, Int.reduceLE, Int.reduceNeg, bI_T, bI_F, ↓if_pos, ↓if_neg, k_stateOf h.2.2.1 hf, s]
  · simp (disch := first | assumption | omega) only [e191_0, e191_1, e191_4, e191_5, e191_8, e191_11, e191_12, e191_13, e191_14, e191_16, e191_17, e191_20, e191_23, e191_26, e191_27, e191_30, e191_33, e191_34, e191_37, e191_38, e191_41, e191_42, e191_45, e191_46, e191_47, e191_50, e191_53, e191_54, e191_57, e191_60, e191_63, e191_64, e191_65, e191_66, e191_67, e191_70, e191_73, e191_75, gK0_eq, gK1_eq, gK3_eq, w32_id, bI_eq0, bI_eq1, Bool.false_eq_true, not_true_eq_false, not_false_eq_true, ne_eq, ite_not, ↓reduceIte, if_true, if_false, Int.reduceToNat, Nat.reduceAdd, Int.reduceEq, Int.reduceLT, Int.reduceLE, Int.reduceNeg, bI_T, bI_F, ↓if_pos, ↓if_neg, k_stateOf h.2.2.1 hf, s]
    exact k_steps_loop h hf s (T 1681).toNat 0 T (by omega) (by omega) ⟨by omega, hC⟩ (fun _ _ => rfl) rfl (fun i _ _ => by rw [Int.add_zero]; exact ⟨rfl, rfl⟩)
end WORK
