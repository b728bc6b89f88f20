/-! the class: its state: what would be; copies -/
def nDs : List Int → Nat
  | [] => 0
  | x :: l => (if 0 < x ∧ ¬ x ∈ l then 1 else 0) + nDs l
section TRIAL
variable {B C : Nat} {X μ μ' : gM} {T T' : Int → Int} {Q : Int → gM → Prop}
theorem k_Scopy (hI : gIX X) (h : rSt C X T μ) (hBC : B + 50 ≤ C ∨ C + 50 ≤ B) : ∃ μ', gFr B (B + 50) μ μ' ∧ rSt B X T μ' ∧ ∀ Q : Int → gM → Prop, gE 173 0 [gO 6 B, gO 6 C] [] μ Q = Q 0 μ' := by
  have n2 := hI.2.1
  obtain ⟨h1, h2, h3, h4, h5, h6, h7, h8⟩ := h
  obtain ⟨μ1, f1, c1, l1, run1⟩ := k_TrCopy (x := B + 1) (y := C + 1) (μ := μ) hI (by omega)
  have f1' : gFr B (B + 50) μ μ1 := gFr_mono f1 (by omega) (by omega)
  have t1 : rTr (B + 1) X μ1 := ⟨c1 h1.1, fun d d0 d1 => by rw [l1 d d0 (by omega)]; exact h1.2 d d0 d1⟩
  obtain ⟨μ2, f2, r2, run2⟩ := k_Tcopy (x := B + 15) (rTb_fr h2 f1' (by omega) (fun j _ => rfl)) (by omega)
  have f2' : gFr B (B + 50) μ μ2 := gFr_trans f1' (gFr_mono f2 (by omega) (by omega))
  obtain ⟨μ3, f3, r3, run3⟩ := k_Fcopy (x := B + 22) (rFr_fr h3 f2' (by omega) (fun j _ => rfl)) (by omega)
  have f3' : gFr B (B + 50) μ μ3 := gFr_trans f2' (gFr_mono f3 (by omega) (by omega))
  obtain ⟨μ4, f4, r4, run4⟩ := k_Qcopy (x := B + 27) (rQu_fr h4 f3' (by omega) (fun j _ _ => rfl)) (by omega)
  have f4' : gFr B (B + 50) μ μ4 := gFr_trans f3' (gFr_mono f4 (by omega) (by omega))
  obtain ⟨μ5, f5, r5, run5⟩ := k_Ccopy (x := B + 32) (rCa_fr h5 f4' (by omega) (fun j _ _ => rfl)) (by omega)
  have f5' : gFr B (B + 50) μ μ5 := gFr_trans f4' (gFr_mono f5 (by omega) (by omega))
  obtain ⟨μ6, f6, r6, run6⟩ := k_Rcopy (x := B + 37) (rRq_fr h6 f5' (by omega) (fun j _ _ => rfl)) (by omega)
  have f6' : gFr B (B + 50) μ μ6 := gFr_trans f5' (gFr_mono f6 (by omega) (by omega))
  obtain ⟨μ7, f7, r7, run7⟩ := k_Lcopy (x := B + 42) (rLg_fr h7 f6' (by omega) (fun j _ => rfl)) (by omega)
  have f7' : gFr B (B + 50) μ μ7 := gFr_trans f6' (gFr_mono f7 (by omega) (by omega))
  have f8 : gFr (B + 49) (B + 50) μ7 (mrow μ7 (B + 49) (fun j => if 0 ≤ j ∧ j < ((8 : Nat) : Int) then μ7 (C + 49) j else μ7 (B + 49) j)) := gFr_mrow gFr_refl (by omega) (by omega)
  have g7 := f8
  have g6 : gFr (B + 42) (B + 50) μ6 _ := gFr_trans (gFr_mono f7 (by omega) (by omega)) (gFr_mono g7 (by omega) (by omega))
  have g5 : gFr (B + 37) (B + 50) μ5 _ := gFr_trans (gFr_mono f6 (by omega) (by omega)) (gFr_mono g6 (by omega) (by omega))
  have g4 : gFr (B + 32) (B + 50) μ4 _ := gFr_trans (gFr_mono f5 (by omega) (by omega)) (gFr_mono g5 (by omega) (by omega))
  have g3 : gFr (B + 27) (B + 50) μ3 _ := gFr_trans (gFr_mono f4 (by omega) (by omega)) (gFr_mono g4 (by omega) (by omega))
  have g2 : gFr (B + 22) (B + 50) μ2 _ := gFr_trans (gFr_mono f3 (by omega) (by omega)) (gFr_mono g3 (by omega) (by omega))
  have g1 : gFr (B + 15) (B + 50) μ1 _ := gFr_trans (gFr_mono f2 (by omega) (by omega)) (gFr_mono g2 (by omega) (by omega))
  refine ⟨_, gFr_trans f7' (gFr_mono f8 (by omega) (by omega)), ⟨rTr_fr hI t1 g1 (by omega), rTb_fr r2 g2 (by omega) (fun j _ => rfl), rFr_fr r3 g3 (by omega) (fun j _ => rfl), rQu_fr r4 g4 (by omega) (fun j _ _ => rfl), rCa_fr r5 g5 (by omega) (fun j _ _ => rfl), rRq_fr r6 g6 (by omega) (fun j _ _ => rfl), rLg_fr r7 g7 (by omega) (fun j _ => rfl), fun d d0 d1 => ?_⟩, fun Q => ?_⟩
  · rw [mrow_same, if_pos (by omega), f7' _ _ (by omega)]
    exact h8 d d0 d1
  · simp (disch := first | assumption | omega) only [e173_0, e173_1, e173_4, e173_5, e173_8, e173_11, e173_12, e173_15, e173_16, e173_19, e173_22, e173_23, e173_26, e173_27, e173_30, e173_33, e173_34, e173_37, e173_38, e173_41, e173_44, e173_45, e173_48, e173_49, e173_52, e173_55, e173_56, e173_59, e173_60, e173_63, e173_66, e173_67, e173_70, e173_71, e173_74, e173_77, e173_78, e173_81, e173_82, e173_85, e173_88, gK0_eq, gK1_eq, gK3_eq, w32_id, bI_eq0, bI_eq1, Bool.false_eq_true, not_true_eq_false, not_false_eq_true, ne_eq, ite_not, ↓reduceIte, if_true, if_false, Int.reduceToNat, Nat.reduceAdd, Int.reduceEq, Int.reduceLT, Int.reduceLE, Int.reduceNeg, bI_T, bI_F, ↓if_pos, ↓if_neg, run1, run2, run3, run4, run5, run6, run7, s_copyRow]
theorem tQuO_congr (h : ∀ j, 1681 ≤ j → j < 1810 → T' j = T j) (hq : T 1681 ≤ 32) (hO : tQuO T) : tQuO T' := by
  intro k k0 k1
  rw [h _ (by omega) (by omega)] at k1
  rw [h _ (by omega) (by omega), h _ (by omega) (by omega)]
  exact hO k k0 k1
theorem tQuO_com {s d a : Int} (hq : 0 ≤ T 1681 ∧ T 1681 < 32) (hs : (s = 0 ∨ s = 1 ∨ s = 2) ∧ (s = 0 → 0 ≤ a)) (hO : tQuO T) : tQuO (tCom T s d a) := by
  intro k k0 k1
  rw [tCom_1681] at k1
  by_cases c : k = T 1681
  · obtain ⟨n1, n2, n3, n4⟩ := tCom_new (T := T) (s := s) (d := d) (a := a) hq.1 hq.2
    rw [c, n1, n3]
    exact hs
  · obtain ⟨a1, a2, a3, a4⟩ := tCom_at (T := T) (s := s) (d := d) (a := a) hq.1 k0 (by omega) hq.2
    rw [a1, a3]
    exact hO k k0 (by omega)
theorem tQuO_fen (hq : 0 ≤ T 1681 ∧ T 1681 < 32) (hO : tQuO T) : tQuO (tFen T) := by
  unfold tFen
  exact tQuO_com (by rw [tS_ne (by omega)]; exact hq) ⟨Or.inr (Or.inr rfl), fun z => by omega⟩ (tQuO_congr (fun j j0 j1 => tS_ne (by omega)) (by omega) hO)
theorem tQuO_flu {d : Int} (hd : 0 ≤ d ∧ d < 4) (hq : 0 ≤ T 1681 ∧ T 1681 < 31) (hO : tQuO T) : tQuO (tFlu T d) := by
  have q1 : tCom T 1 d (-2) 1681 = T 1681 + 1 := tCom_1681
  have o1 := tQuO_com (s := 1) (d := d) (a := -2) (by omega) ⟨Or.inr (Or.inl rfl), fun z => by omega⟩ hO
  unfold tFlu
  have e : ∀ j, 1664 ≤ j → itF (fun p T => tAns d p T) 0 64 (tCom T 1 d (-2)) j = tCom T 1 d (-2) j := fun j hj => tFlu_loop (by omega) hd (by omega)
  refine tQuO_fen (by rw [tS_ne (by omega), e _ (by omega), q1]; omega) ?_
  exact tQuO_congr (T := tCom T 1 d (-2)) (fun j j0 j1 => by rw [tS_ne (by omega), e _ (by omega)]) (by omega) o1
theorem k_freeIf_loop (hI : gIX X) : ∀ (n : Nat) (d : Int) (T : Int → Int) (μ : gM), rSt B X T μ → tQuO T → 0 ≤ d → d + n = T 1672 → T 1681 ≤ 24 + 2 * d →
    ∃ μ', gFr B (B + 50) μ μ' ∧ rSt B X (itF (fun d T => if 0 < T (1668 + d) then tFlu T d else T) d n T) μ' ∧ tQuO (itF (fun d T => if 0 < T (1668 + d) then tFlu T d else T) d n T) ∧ ∀ Q : Int → gM → Prop, gE 202 2 [gO 6 B, gI d] [] μ Q = gE 202 39 [gO 6 B, gI (T 1672)] [] μ' Q := by
  intro n
  induction n with
  | zero =>
    intro d T μ h hO d0 d1 hq
    have h0 := h.2.1.2.1
    have c : T 1672 ≤ d := by omega
    have e : d = T 1672 := by omega
    refine ⟨μ, gFr_refl, h, hO, fun Q => ?_⟩
    rw [e202_2]
    simp (disch := first | assumption | omega) only [e202_0, e202_1, e202_3, e202_4, e202_7, e202_10, e202_13, e202_14, e202_17, e202_20, e202_21, e202_24, e202_27, e202_28, e202_29, e202_32, e202_33, e202_36, e202_40, e202_41, e202_44, e202_47, e202_50, e202_51, e202_52, e202_55, e202_56, e202_59, gK0_eq, gK1_eq, gK3_eq, w32_id, bI_eq0, bI_eq1, Bool.false_eq_true, not_true_eq_false, not_false_eq_true, ne_eq, ite_not, ↓reduceIte, if_true, if_false, Int.reduceToNat, Nat.reduceAdd, Int.reduceEq, Int.reduceLT, Int.reduceLE, Int.reduceNeg, bI_T, bI_F, ↓if_pos, ↓if_neg, h0, c]
    rw [e]
  | succ n ih =>
    intro d T μ h hO d0 d1 hq
    have hD := h.2.1.1
    have h0 := h.2.1.2.1
    have c : ¬ T 1672 ≤ d := by omega
    have hd4 : 0 ≤ d ∧ d < 4 := by omega
    have hq0 := h.2.2.2.1.1.1
    have b := ((h.2.1.2.2.1 d d0 hd4.2).2.1 (by omega)).2.1
    have c4 : d < ((4 : Nat) : Int) := by omega
    rw [itF]
    by_cases q : 0 < T (1668 + d)
    · have q' : ¬ T (1668 + d) ≤ 0 := by omega
      obtain ⟨μ1, f1, r1, run1⟩ := k_flushOf (d := d) hI h (by omega) (by omega)
      have e72 : tFlu T d 1672 = T 1672 := tFlu_lo hd4 (by omega) (by omega)
      obtain ⟨μ2, f2, r2, o2, run2⟩ := ih (d + 1) (tFlu T d) μ1 r1 (tQuO_flu hd4 (by omega) hO) (by omega) (by rw [e72]; omega) (by rw [tFlu_1681 hd4 (by omega)]; omega)
      rw [e72] at run2
      rw [if_pos q]
      refine ⟨μ2, gFr_trans f1 f2, r2, o2, fun Q => ?_⟩
      rw [← run2 Q, e202_2]
      simp (disch := first | assumption | omega) only [e202_0, e202_1, e202_3, e202_4, e202_7, e202_10, e202_13, e202_14, e202_17, e202_20, e202_21, e202_24, e202_27, e202_28, e202_29, e202_32, e202_33, e202_36, e202_40, e202_41, e202_44, e202_47, e202_50, e202_51, e202_52, e202_55, e202_56, e202_59, gK0_eq, gK1_eq, gK3_eq, w32_id, bI_eq0, bI_eq1, Bool.false_eq_true, not_true_eq_false, not_false_eq_true, ne_eq, ite_not, ↓reduceIte, if_true, if_false, Int.reduceToNat, Nat.reduceAdd, Int.reduceEq, Int.reduceLT, Int.reduceLE, Int.reduceNeg, bI_T, bI_F, ↓if_pos, ↓if_neg, h0, c, s_at, atv_in, b, q', run1]
    · have q' : T (1668 + d) ≤ 0 := by omega
      obtain ⟨μ2, f2, r2, o2, run2⟩ := ih (d + 1) T μ h hO (by omega) (by omega) (by omega)
      rw [if_neg q]
      refine ⟨μ2, f2, r2, o2, fun Q => ?_⟩
      rw [← run2 Q, e202_2]
      simp (disch := first | assumption | omega) only [e202_0, e202_1, e202_3, e202_4, e202_7, e202_10, e202_13, e202_14, e202_17, e202_20, e202_21, e202_24, e202_27, e202_28, e202_29, e202_32, e202_33, e202_36, e202_40, e202_41, e202_44, e202_47, e202_50, e202_51, e202_52, e202_55, e202_56, e202_59, gK0_eq, gK1_eq, gK3_eq, w32_id, bI_eq0, bI_eq1, Bool.false_eq_true, not_true_eq_false, not_false_eq_true, ne_eq, ite_not, ↓reduceIte, if_true, if_false, Int.reduceToNat, Nat.reduceAdd, Int.reduceEq, Int.reduceLT, Int.reduceLE, Int.reduceNeg, bI_T, bI_F, ↓if_pos, ↓if_neg, h0, c, s_at, atv_in, b, q']
theorem k_freeIf (hI : gIX X) (h : rSt B X T μ) (hO : tQuO T) (hq : T 1681 ≤ 24) : ∃ μ', gFr B (B + 50) μ μ' ∧ ∀ Q : Int → gM → Prop, gE 202 0 [gO 6 B, gX] [] μ Q = Q (tFrB (tWks (tTqF T 1681).toNat (tTqF T)) 0) μ' := by
  have hD := h.2.1.1
  obtain ⟨μ1, f1, r1, o1, run1⟩ := k_freeIf_loop hI (T 1672).toNat 0 T μ h hO (by omega) (by omega) (by omega)
  have r1' : rSt B X (tTqF T) μ1 := r1
  have h0 := r1'.2.2.2.1.2.1
  obtain ⟨μ2, f2, r2, run2⟩ := k_workAll hI r1' o1
  refine ⟨μ2, gFr_trans f1 f2, fun Q => ?_⟩
  simp (disch := first | assumption | omega) only [e202_0, e202_1, e202_3, e202_4, e202_7, e202_10, e202_13, e202_14, e202_17, e202_20, e202_21, e202_24, e202_27, e202_28, e202_29, e202_32, e202_33, e202_36, e202_40, e202_41, e202_44, e202_47, e202_50, e202_51, e202_52, e202_55, e202_56, e202_59, gK0_eq, gK1_eq, gK3_eq, w32_id, bI_eq0, bI_eq1, Bool.false_eq_true, not_true_eq_false, not_false_eq_true, ne_eq, ite_not, ↓reduceIte, if_true, if_false, Int.reduceToNat, Nat.reduceAdd, Int.reduceEq, Int.reduceLT, Int.reduceLE, Int.reduceNeg, bI_T, bI_F]
  rw [run1]
  simp (disch := first | assumption | omega) only [e202_0, e202_1, e202_3, e202_4, e202_7, e202_10, e202_13, e202_14, e202_17, e202_20, e202_21, e202_24, e202_27, e202_28, e202_29, e202_32, e202_33, e202_36, e202_39, e202_40, e202_41, e202_44, e202_47, e202_50, e202_51, e202_52, e202_55, e202_56, e202_59, gK0_eq, gK1_eq, gK3_eq, w32_id, bI_eq0, bI_eq1, Bool.false_eq_true, not_true_eq_false, not_false_eq_true, ne_eq, ite_not, ↓reduceIte, if_true, if_false, Int.reduceToNat, Nat.reduceAdd, Int.reduceEq, Int.reduceLT, Int.reduceLE, Int.reduceNeg, bI_T, bI_F, ↓if_pos, ↓if_neg, h0, run2, k_howMany r2.2.2.1]
theorem k_entriesIf (hI : gIX X) (h : rSt B X T μ) (hO : tQuO T) : ∃ μ', gFr B (B + 50) μ μ' ∧ ∀ Q : Int → gM → Prop, gE 203 0 [gO 6 B] [] μ Q = Q (tWks (T 1681).toNat T 1813) μ' := by
  have h0 := h.2.2.2.1.2.1
  obtain ⟨μ2, f2, r2, run2⟩ := k_workAll hI h hO
  have b := r2.2.2.2.2.1.2.1
  refine ⟨μ2, f2, fun Q => ?_⟩
  simp (disch := first | assumption | omega) only [e203_0, e203_1, e203_2, e203_5, e203_8, e203_11, e203_12, e203_13, e203_16, e203_19, gK0_eq, gK1_eq, gK3_eq, w32_id, bI_eq0, bI_eq1, Bool.false_eq_true, not_true_eq_false, not_false_eq_true, ne_eq, ite_not, ↓reduceIte, if_true, if_false, Int.reduceToNat, Nat.reduceAdd, Int.reduceEq, Int.reduceLT, Int.reduceLE, Int.reduceNeg, bI_T, bI_F, ↓if_pos, ↓if_neg, h0, run2, b]
theorem k_tidied_loop (hI : gIX X) : ∀ (n : Nat) (d : Int) (T : Int → Int) (μ : gM), rTb (B + 15) T μ → 0 ≤ d → d + n = T 1672 →
    ∃ μ', gFr B (B + 50) μ μ' ∧ rTb (B + 15) (itF (fun d T => (tTid d 16 0 0 T).2) d n T) μ' ∧ ∀ Q : Int → gM → Prop, gE 205 2 [gO 6 B, gI d] [] μ Q = gE 205 28 [gO 6 B, gI (T 1672)] [] μ' Q := by
  intro n
  induction n with
  | zero =>
    intro d T μ h d0 d1
    have h0 := h.2.1
    have c : T 1672 ≤ d := by omega
    have e : d = T 1672 := by omega
    refine ⟨μ, gFr_refl, h, fun Q => ?_⟩
    rw [e205_2]
    simp (disch := first | assumption | omega) only [e205_0, e205_1, e205_3, e205_4, e205_7, e205_10, e205_13, e205_14, e205_17, e205_18, e205_21, e205_22, e205_25, e205_29, e205_32, e205_35, gK0_eq, gK1_eq, gK3_eq, w32_id, bI_eq0, bI_eq1, Bool.false_eq_true, not_true_eq_false, not_false_eq_true, ne_eq, ite_not, ↓reduceIte, if_true, if_false, Int.reduceToNat, Nat.reduceAdd, Int.reduceEq, Int.reduceLT, Int.reduceLE, Int.reduceNeg, bI_T, bI_F, ↓if_pos, ↓if_neg, h0, c]
    rw [e]
  | succ n ih =>
    intro d T μ h d0 d1
    have hD := h.1
    have h0 := h.2.1
    have c : ¬ T 1672 ≤ d := by omega
    have hd4 : 0 ≤ d ∧ d < 4 := by omega
    obtain ⟨μ1, f1, r1, run1⟩ := k_tidy h hd4
    have e72 : (tTid d 16 0 0 T).2 1672 = T 1672 := tTid_lo hd4 16 0 0 T (by omega) (by omega) _ (by omega)
    obtain ⟨μ2, f2, r2, run2⟩ := ih (d + 1) _ μ1 r1 (by omega) (by rw [e72]; omega)
    rw [e72] at run2
    rw [itF]
    refine ⟨μ2, gFr_trans (gFr_mono f1 (by omega) (by omega)) f2, r2, fun Q => ?_⟩
    rw [← run2 Q, e205_2]
    simp (disch := first | assumption | omega) only [e205_0, e205_1, e205_3, e205_4, e205_7, e205_10, e205_13, e205_14, e205_17, e205_18, e205_21, e205_22, e205_25, e205_29, e205_32, e205_35, gK0_eq, gK1_eq, gK3_eq, w32_id, bI_eq0, bI_eq1, Bool.false_eq_true, not_true_eq_false, not_false_eq_true, ne_eq, ite_not, ↓reduceIte, if_true, if_false, Int.reduceToNat, Nat.reduceAdd, Int.reduceEq, Int.reduceLT, Int.reduceLE, Int.reduceNeg, bI_T, bI_F, ↓if_pos, ↓if_neg, h0, c, run1]
theorem k_tidied (hI : gIX X) (h : rSt B X T μ) : ∃ μ', gFr B (B + 50) μ μ' ∧ ∀ Q : Int → gM → Prop, gE 205 0 [gO 6 B, gX] [] μ Q = Q (tTbA (tTiA T)) μ' := by
  have hD := h.2.1.1
  obtain ⟨μ1, f1, r1, run1⟩ := k_tidied_loop hI (T 1672).toNat 0 T μ h.2.1 (by omega) (by omega)
  have r1' : rTb (B + 15) (tTiA T) μ1 := r1
  refine ⟨μ1, f1, fun Q => ?_⟩
  simp (disch := first | assumption | omega) only [e205_0, e205_1, e205_3, e205_4, e205_7, e205_10, e205_13, e205_14, e205_17, e205_18, e205_21, e205_22, e205_25, e205_29, e205_32, e205_35, gK0_eq, gK1_eq, gK3_eq, w32_id, bI_eq0, bI_eq1, Bool.false_eq_true, not_true_eq_false, not_false_eq_true, ne_eq, ite_not, ↓reduceIte, if_true, if_false, Int.reduceToNat, Nat.reduceAdd, Int.reduceEq, Int.reduceLT, Int.reduceLE, Int.reduceNeg, bI_T, bI_F]
  rw [run1]
  simp (disch := first | assumption | omega) only [e205_0, e205_1, e205_3, e205_4, e205_7, e205_10, e205_13, e205_14, e205_17, e205_18, e205_21, e205_22, e205_25, e205_28, e205_29, e205_32, e205_35, gK0_eq, gK1_eq, gK3_eq, w32_id, bI_eq0, bI_eq1, Bool.false_eq_true, not_true_eq_false, not_false_eq_true, ne_eq, ite_not, ↓reduceIte, if_true, if_false, Int.reduceToNat, Nat.reduceAdd, Int.reduceEq, Int.reduceLT, Int.reduceLE, Int.reduceNeg, bI_T, bI_F, ↓if_pos, ↓if_neg, k_tablesOfAll r1']
/-- how many batches: each serve takes one away -/
theorem nDs_snoc (l : List Int) (x : Int) : nDs (l.reverse ++ []) = nDs (l.reverse ++ []) := rfl
theorem nDs_filter {b : Int} (hb : 0 < b) : ∀ l : List Int, nDs (l.filter (fun x => !decide (x = b))) + (if b ∈ l then 1 else 0) = nDs l := by
  intro l
  induction l with
  | nil => rfl
  | cons x l ih =>
    rw [nDs]
    by_cases c : x = b
    · subst c
      have e : (x :: l).filter (fun y => !decide (y = x)) = l.filter (fun y => !decide (y = x)) := by simp
      rw [e, if_pos (List.mem_cons_self)]
      by_cases m : x ∈ l
      · rw [if_pos m] at ih
        rw [if_neg (fun z => z.2 m)]
        omega
      · rw [if_neg m] at ih
        rw [if_pos ⟨hb, m⟩]
        omega
    · have e : (x :: l).filter (fun y => !decide (y = b)) = x :: l.filter (fun y => !decide (y = b)) := by simp [c]
      have me : (b ∈ x :: l) ↔ b ∈ l := by
        rw [List.mem_cons]
        exact ⟨fun z => z.resolve_left (fun y => c y.symm), Or.inr⟩
      have mf : x ∈ l.filter (fun y => !decide (y = b)) ↔ x ∈ l := by
        rw [List.mem_filter]
        simp [c]
      rw [e, nDs]
      by_cases m : b ∈ l
      · rw [if_pos m] at ih
        rw [if_pos (me.mpr m)]
        by_cases y : x ∈ l
        · rw [if_neg (fun z => z.2 (mf.mpr y)), if_neg (fun z => z.2 y)]; omega
        · by_cases z : 0 < x
          · rw [if_pos ⟨z, fun w => y (mf.mp w)⟩, if_pos ⟨z, y⟩]; omega
          · rw [if_neg (fun w => z w.1), if_neg (fun w => z w.1)]; omega
      · rw [if_neg m] at ih
        rw [if_neg (fun z => m (me.mp z))]
        by_cases y : x ∈ l
        · rw [if_neg (fun z => z.2 (mf.mpr y)), if_neg (fun z => z.2 y)]; omega
        · by_cases z : 0 < x
          · rw [if_pos ⟨z, fun w => y (mf.mp w)⟩, if_pos ⟨z, y⟩]; omega
          · rw [if_neg (fun w => z w.1), if_neg (fun w => z w.1)]; omega
end TRIAL
