/-! the class: its state, first part -/
def rDm (y : Nat) (X : gM) (T : Int → Int) (μ : gM) : Prop := ∀ d, 0 ≤ d → d < X 167 12 → μ y d = T (1673 + X 179 d)
def rSt (B : Nat) (X : gM) (T : Int → Int) (μ : gM) : Prop := rTr (B + 1) X μ ∧ rTb (B + 15) T μ ∧ rFr (B + 22) T μ ∧ rQu (B + 27) T μ ∧ rCa (B + 32) (X 178 0) T μ ∧ rRq (B + 37) T μ ∧ rLg (B + 42) T μ ∧ rDm (B + 49) X T μ
section STATE
variable {B C : Nat} {X μ μ' : gM} {T T' : Int → Int} {Q : Int → gM → Prop}
theorem gX8 (hI : gIX X) {d : Int} (hd : 0 ≤ d ∧ d < 8) : 0 ≤ X 179 d ∧ X 179 d < 8 ∧ X 179 d ≤ d := by
  obtain ⟨a, b, c⟩ := hI.2.2.2.2.2.2.1 d hd.1 hd.2
  omega
theorem rDm_fr (hI : gIX X) {y : Nat} {lo hi : Nat} (h : rDm y X T μ) (hf : gFr lo hi μ μ') (hd : y < lo ∨ hi ≤ y) (hT : ∀ j, 1673 ≤ j → j < 1681 → T' j = T j) : rDm y X T' μ' := by
  intro d d0 d1
  have n2 := hI.2.1
  have g := gX8 hI (d := d) ⟨d0, by omega⟩
  rw [hf _ _ hd, hT _ (by omega) (by omega)]
  exact h d d0 d1
theorem rTb_owed {x : Nat} {d v : Int} (h : rTb x T μ) (hd : 0 ≤ d ∧ d < T 1672) (hv : 0 ≤ v ∧ v ≤ 4) : rTb x (tS T (1668 + d) v) (gS μ (x + 2) d v) := by
  obtain ⟨g1, g2, g3, g4⟩ := h
  refine ⟨by rw [tS_ne (by omega)]; exact g1, by rw [tS_ne (by omega), gS_neK (by omega)]; exact g2, fun e e0 e1 => ?_, fun i i0 i1 => ?_⟩
  · obtain ⟨q1, q2, q3⟩ := g3 e e0 e1
    rw [tS_ne (show (1672 : Int) ≠ 1668 + d by omega), tS_ne (show 1664 + e ≠ 1668 + d by omega), gS_neK (show x + 1 ≠ x + 2 by omega)]
    by_cases c : e = d
    · rw [c, tS_same, gS_same, ← c]
      exact ⟨hv, fun z => ⟨(q2 z).1, rfl, (q2 z).2.2⟩, fun z => by omega⟩
    · rw [tS_ne (by omega), gS_neI c]
      exact ⟨q1, q2, q3⟩
  · exact rTi_congr (g4 i i0 i1) (gS_neK (by omega)) (gS_neK (by omega)) (gS_neK (by omega)) (gS_neK (by omega)) (tS_ne (by omega)) (tS_ne (by omega)) (tS_ne (by omega)) (tS_ne (by omega)) (tS_ne (by omega))
theorem k_Senter {d p f r : Int} (hI : gIX X) (h : rSt B X T μ) (hd : 0 ≤ d ∧ d < T 1672) (hp : 0 ≤ p ∧ p < 64) (hu : T (64 * d + p) < 0) (hf : 0 ≤ f ∧ f < 64) (hr : 1 ≤ r ∧ r ≤ 3) : ∃ μ', gFr B (B + 50) μ μ' ∧ rSt B X (tMaps T d p f r 0) μ' ∧ ∀ Q : Int → gM → Prop, gE 177 0 [gO 6 B, gI d, gI p, gI f, gI r] [] μ Q = Q 0 μ' := by
  have hD := h.2.1.1
  obtain ⟨μ1, f1, r1, run1⟩ := k_Tenter h.2.1 hd hp hu hf hr
  have q1 : rFr (B + 22) T μ1 := rFr_fr h.2.2.1 f1 (by omega) (fun j hj => rfl)
  obtain ⟨μ2, f2, r2, run2⟩ := k_Fenter (r := r) q1 hd hp hu hf
  have ff : gFr (B + 15) (B + 27) μ μ2 := gFr_trans (gFr_mono f1 (by omega) (by omega)) (gFr_mono f2 (by omega) (by omega))
  refine ⟨μ2, gFr_mono ff (by omega) (by omega), ⟨rTr_fr hI h.1 ff (by omega), rTb_fr r1 f2 (by omega) (fun j hj => rfl), r2, rQu_fr h.2.2.2.1 ff (by omega) (fun j j1 j2 => by exact tMaps_lo (by omega)), rCa_fr h.2.2.2.2.1 ff (by omega) (fun j j1 j2 => by exact tMaps_lo (by omega)), rRq_fr h.2.2.2.2.2.1 ff (by omega) (fun j j1 j2 => by exact tMaps_lo (by omega)), rLg_fr h.2.2.2.2.2.2.1 ff (by omega) (fun j hj => by exact tMaps_lo (by omega)), rDm_fr hI h.2.2.2.2.2.2.2 ff (by omega) (fun j j1 j2 => by exact tMaps_lo (by omega))⟩, fun Q => ?_⟩
  simp (disch := first | assumption | omega) only [e177_0, e177_1, e177_4, e177_5, e177_6, e177_7, e177_9, e177_12, e177_13, e177_16, e177_17, e177_20, gK0_eq, gK1_eq, gK3_eq, w32_id, bI_eq0, bI_eq1, Bool.false_eq_true, not_true_eq_false, not_false_eq_true, ne_eq, ite_not, ↓reduceIte, if_true, if_false, Int.reduceToNat, Nat.reduceAdd, Int.reduceEq, Int.reduceLT, Int.reduceLE, Int.reduceNeg, bI_T, bI_F, ↓if_pos, ↓if_neg, run1, run2]
theorem k_Sleave {d p : Int} (hI : gIX X) (h : rSt B X T μ) (hd : 0 ≤ d ∧ d < T 1672) (hp : 0 ≤ p ∧ p < 64) (hm : 0 ≤ T (64 * d + p)) : ∃ μ', gFr B (B + 50) μ μ' ∧ rSt B X (tUn T d p) μ' ∧ ∀ Q : Int → gM → Prop, gE 178 0 [gO 6 B, gI d, gI p] [] μ Q = Q 0 μ' := by
  have hD := h.2.1.1
  have hd4 : 0 ≤ d ∧ d < 4 := by omega
  have hm2 : 0 ≤ T (64 * d + p) ∧ T (64 * d + p) < 64 := ⟨hm, (h.2.1.2.2.2 (64 * d + p) (by omega) (by omega)).2.1.2⟩
  obtain ⟨μ1, f1, r1, run1⟩ := k_Fleave h.2.2.1 hd hp hm2
  have q1 : rTb (B + 15) T μ1 := rTb_fr h.2.1 f1 (by omega) (fun j hj => rfl)
  obtain ⟨μ2, f2, r2, run2⟩ := k_Tleave q1 hd4 hp
  have ff : gFr (B + 15) (B + 27) μ μ2 := gFr_trans (gFr_mono f1 (by omega) (by omega)) (gFr_mono f2 (by omega) (by omega))
  have lo : ∀ j, (0 ≤ j ∧ j < 1024) ∨ 1664 ≤ j → tUn T d p j = tLv T d p j := fun j hj => by rw [tUn_eq, tS_ne (by omega), tS_ne (by omega)]
  have hi : ∀ j, 1664 ≤ j → tUn T d p j = T j := fun j hj => by rw [lo j (by omega), tLv_hi hd4 hp (by omega)]
  refine ⟨μ2, gFr_mono ff (by omega) (by omega), ⟨rTr_fr hI h.1 ff (by omega), rTb_tr r2 rfl (fun _ _ _ => ⟨rfl, rfl⟩) (fun _ _ _ => ⟨rfl, rfl, rfl⟩) (fun _ _ _ => rfl) (fun j hj => lo j (by omega)), rFr_fr r1 f2 (by omega) (fun j hj => rfl), rQu_fr h.2.2.2.1 ff (by omega) (fun j j1 j2 => by exact hi j (by omega)), rCa_fr h.2.2.2.2.1 ff (by omega) (fun j j1 j2 => by exact hi j (by omega)), rRq_fr h.2.2.2.2.2.1 ff (by omega) (fun j j1 j2 => by exact hi j (by omega)), rLg_fr h.2.2.2.2.2.2.1 ff (by omega) (fun j hj => by exact hi j (by omega)), rDm_fr hI h.2.2.2.2.2.2.2 ff (by omega) (fun j j1 j2 => by exact hi j (by omega))⟩, fun Q => ?_⟩
  simp (disch := first | assumption | omega) only [e178_0, e178_1, e178_4, e178_5, e178_8, e178_9, e178_10, e178_13, e178_14, e178_15, e178_18, e178_19, e178_22, e178_23, e178_24, e178_27, gK0_eq, gK1_eq, gK3_eq, w32_id, bI_eq0, bI_eq1, Bool.false_eq_true, not_true_eq_false, not_false_eq_true, ne_eq, ite_not, ↓reduceIte, if_true, if_false, Int.reduceToNat, Nat.reduceAdd, Int.reduceEq, Int.reduceLT, Int.reduceLE, Int.reduceNeg, bI_T, bI_F, ↓if_pos, ↓if_neg, k_frameOf h.2.1 hd4 hp, run1, run2]
theorem tFen_lo {j : Int} (h : j < 1681) (hq : 0 ≤ T 1681 ∧ T 1681 < 32) : tFen T j = T j := by
  unfold tFen
  rw [tCom_lo (by omega) (by rw [tS_ne (by omega)]; exact hq), tS_ne (by omega)]
theorem tFen_hi {j : Int} (h : 1812 ≤ j) (hq : 0 ≤ T 1681 ∧ T 1681 < 32) : tFen T j = T j := by
  unfold tFen
  rw [tCom_lo (by omega) (by rw [tS_ne (by omega)]; exact hq), tS_ne (by omega)]
theorem k_flushOf {d : Int} (hI : gIX X) (h : rSt B X T μ) (hd : 0 ≤ d ∧ d < T 1672) (hq : T 1681 ≤ 30) : ∃ μ', gFr B (B + 50) μ μ' ∧ rSt B X (tFlu T d) μ' ∧ ∀ Q : Int → gM → Prop, gE 182 0 [gO 6 B, gI d] [] μ Q = Q (w32 (T 1811 + 1)) μ' := by
  have hD := h.2.1.1
  have hq0 := h.2.2.2.1.1
  have hd4 : 0 ≤ d ∧ d < 4 := by omega
  have hq1 : 0 ≤ T 1681 ∧ T 1681 < 32 := by omega
  obtain ⟨μ1, f1, r1, run1⟩ := k_QaddAll (d := d) h.2.2.2.1 (by omega)
  have q1 : rFr (B + 22) (tCom T 1 d (-2)) μ1 := rFr_fr h.2.2.1 f1 (by omega) (fun j hj => tCom_lo (by omega) hq1)
  obtain ⟨μ2, f2, r2, run2⟩ := k_Fcover q1 hd4 (tCv_all hd4 q1.1.2 (tCom_1810 (s := 1) (d := d) (a := -2) hq1.1 hq1.2))
  have e1 : ∀ j, 1664 ≤ j ∨ j < 1088 → itF (fun p T => tAns d p T) 0 64 (tCom T 1 d (-2)) j = tCom T 1 d (-2) j := fun j hj => tFlu_loop (by omega) hd4 hj
  have ff : gFr (B + 22) (B + 32) μ μ2 := gFr_trans (gFr_mono f1 (by omega) (by omega)) (gFr_mono f2 (by omega) (by omega))
  have t1 : rTb (B + 15) (itF (fun p T => tAns d p T) 0 64 (tCom T 1 d (-2))) μ2 := rTb_fr h.2.1 ff (by omega) (fun j hj => by rw [e1 j (by omega), tCom_lo (by omega) hq1])
  have e1672 : itF (fun p T => tAns d p T) 0 64 (tCom T 1 d (-2)) 1672 = T 1672 := by rw [e1 _ (by omega), tCom_lo (by omega) hq1]
  have t2 := rTb_owed (v := 0) t1 (d := d) (by rw [e1672]; exact hd) (by omega)
  have qu1 : rQu (B + 27) (tS (itF (fun p T => tAns d p T) 0 64 (tCom T 1 d (-2))) (1668 + d) 0) (gS μ2 (B + 15 + 2) d 0) := rQu_fr r1 (gFr_trans (gFr_mono f2 (show B + 15 ≤ B + 22 by omega) (show B + 22 + 5 ≤ B + 27 by omega)) (gFr_gS gFr_refl (by omega) (by omega))) (by omega) (fun j j1 j2 => by rw [tS_ne (by omega), e1 j (by omega)])
  have q1681 : tS (itF (fun p T => tAns d p T) 0 64 (tCom T 1 d (-2))) (1668 + d) 0 1681 = T 1681 + 1 := by rw [tS_ne (by omega), e1 _ (by omega), tCom_1681]
  have q1811 : tS (itF (fun p T => tAns d p T) 0 64 (tCom T 1 d (-2))) (1668 + d) 0 1811 = T 1811 := by rw [tS_ne (by omega), e1 _ (by omega), tCom_lo (by omega) hq1]
  obtain ⟨μ3, f3, r3, run3⟩ := k_QaddFence qu1 (by rw [q1681]; omega)
  rw [q1811] at run3
  have f4 : gFr (B + 15) (B + 32) μ μ3 := gFr_trans (gFr_mono ff (by omega) (by omega)) (gFr_trans (gFr_gS gFr_refl (by omega) (by omega)) (gFr_mono f3 (by omega) (by omega)))
  have hq2 : 0 ≤ tS (itF (fun p T => tAns d p T) 0 64 (tCom T 1 d (-2))) (1668 + d) 0 1681 ∧ tS (itF (fun p T => tAns d p T) 0 64 (tCom T 1 d (-2))) (1668 + d) 0 1681 < 32 := by rw [q1681]; omega
  have d0 := hd.1
  have d1 : d < ((4 : Nat) : Int) := by omega
  refine ⟨μ3, gFr_mono f4 (by omega) (by omega), ⟨rTr_fr hI h.1 f4 (by omega), rTb_fr t2 f3 (by omega) (fun j hj => tFen_lo (by omega) hq2), rFr_fr (T := tS (itF (fun p T => tAns d p T) 0 64 (tCom T 1 d (-2))) (1668 + d) 0) (rFr_fr r2 (gFr_gS gFr_refl (show B + 15 ≤ B + 15 + 2 by omega) (show B + 15 + 2 < B + 22 by omega)) (by omega) (fun j hj => tS_ne (by omega))) f3 (by omega) (fun j hj => tFen_lo (by omega) hq2), r3, rCa_fr h.2.2.2.2.1 f4 (by omega) (fun j j1 j2 => by exact tFlu_lo hd4 (by omega) (by omega)), rRq_fr h.2.2.2.2.2.1 f4 (by omega) (fun j j1 j2 => by exact tFlu_lo hd4 (by omega) (by omega)), rLg_fr h.2.2.2.2.2.2.1 f4 (by omega) (fun j hj => by exact tFlu_lo hd4 (by omega) (by omega)), rDm_fr hI h.2.2.2.2.2.2.2 f4 (by omega) (fun j j1 j2 => by exact tFlu_lo hd4 (by omega) (by omega))⟩, fun Q => ?_⟩
  simp (disch := first | assumption | omega) only [e182_0, e182_1, e182_4, e182_5, e182_8, e182_9, e182_12, e182_13, e182_16, e182_19, e182_20, e182_23, e182_26, e182_27, e182_28, e182_31, e182_32, e182_35, e182_38, gK0_eq, gK1_eq, gK3_eq, w32_id, bI_eq0, bI_eq1, Bool.false_eq_true, not_true_eq_false, not_false_eq_true, ne_eq, ite_not, ↓reduceIte, if_true, if_false, Int.reduceToNat, Nat.reduceAdd, Int.reduceEq, Int.reduceLT, Int.reduceLE, Int.reduceNeg, bI_T, bI_F, ↓if_pos, ↓if_neg, run1, run2, s_put', putv_in, run3]
end STATE
