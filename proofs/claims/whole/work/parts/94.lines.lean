/-! the reader and the check's text in step: lines, first part -/
def wC (C C' : gM) : Prop := ∀ (k : Nat) (i : Int), (k = 0 ∨ k = 2 ∨ 17 ≤ k ∨ (k = 1 ∧ (i = 1 ∨ i = 3 ∨ i = 10))) → C' k i = C k i
def wM (M M' : gM) : Prop := ∀ (k : Nat) (i : Int), (k < 167 ∨ k = 168 ∨ k = 169 ∨ 179 ≤ k ∨ (k = 167 ∧ (i ≤ 3 ∨ i = 6 ∨ (11 ≤ i ∧ i ≤ 14) ∨ 31 ≤ i)) ∨ ((k = 170 ∨ k = 171 ∨ k = 172) ∧ i < 6) ∨ ((k = 173 ∨ k = 174 ∨ k = 175) ∧ i < 8) ∨ (k = 176 ∧ i < 16) ∨ (k = 177 ∧ i < 18) ∨ (k = 178 ∧ i < 2)) → M' k i = M k i
def eqF (C M : gM) : Prop := C 1 8 = M 167 28 ∧ C 1 9 = M 167 29
def xL (C M : gM) (G K : gM → (Int → gM → Prop) → Prop) : Prop := ∃ (b : Int) (C' M' : gM), (∀ Q : Int → gM → Prop, G C Q = Q b C') ∧ (∀ Q : Int → gM → Prop, K M Q = Q b M') ∧ wC C C' ∧ wM M M' ∧ ((b = 0 ∧ fl C' M') ∨ (b = 1 ∧ tP C' M' ∧ C 1 4 + 1 ≤ C' 1 4 ∧ eqF C' M'))
section LINES
variable {C C' C'' M M' M'' X X' : gM} {Q : Int → gM → Prop}
theorem wC_of (h : fC C C') : wC C C' := fun k i q => h k i (by omega)
theorem wM_of (h : fM M M') : wM M M' := fun k i q => h k i (by omega)
theorem wC_trans (h : wC C C') (h' : wC C' C'') : wC C C'' := fun k i q => by rw [h' k i q, h k i q]
theorem wM_trans (h : wM M M') (h' : wM M' M'') : wM M M'' := fun k i q => by rw [h' k i q, h k i q]
theorem gS_out {a k : Nat} {i j v : Int} (h : ¬ (a = k ∧ i = j)) : gS M k j v a i = M a i := if_neg h
theorem wC_gS {k : Nat} {i v : Int} (h : wC C C') (hk : (3 ≤ k ∧ k ≤ 16) ∨ (k = 1 ∧ i ≠ 1 ∧ i ≠ 3 ∧ i ≠ 10)) : wC C (gS C' k i v) := fun a j q => by rw [gS_out (by omega), h a j q]
theorem wM_gS {k : Nat} {i v : Int} (h : wM M M') (hk : (k = 167 ∧ 15 ≤ i ∧ i ≤ 30) ∨ ((k = 170 ∨ k = 171 ∨ k = 172) ∧ 6 ≤ i) ∨ ((k = 173 ∨ k = 174 ∨ k = 175) ∧ 8 ≤ i) ∨ (k = 176 ∧ 16 ≤ i) ∨ (k = 177 ∧ 18 ≤ i) ∨ (k = 178 ∧ 2 ≤ i)) : wM M (gS M' k i v) := fun a j q => by rw [gS_out (by omega), h a j q]
theorem adv_eq (e2 : ∀ i, C' 2 i = C 2 i) (e3 : C' 1 3 = C 1 3) (e4 : C' 1 4 = C 1 4) (e7 : ∀ i, i = 7 ∨ i = 11 ∨ i = 12 → C' 1 i = C 1 i) : ∀ i, 3 ≤ i → (i ≤ 7 ∨ i = 11 ∨ i = 12) → cAdv C' 1 i = cAdv C 1 i := by
  have r2 : C' 2 = C 2 := funext e2
  intro i i0 i1
  unfold cAdv
  rw [r2, e3, e4, e7 7 (by omega)]
  have c : i = 3 ∨ i = 4 ∨ i = 5 ∨ i = 6 ∨ i = 7 ∨ i = 11 ∨ i = 12 := by omega
  rcases c with rfl | rfl | rfl | rfl | rfl | rfl | rfl
  · rw [mAd_ne (by omega), mAd_ne (by omega)]; exact e3
  · rw [mAd_4, mAd_4]
  · rw [mAd_5, mAd_5]
  · rw [mAd_6, mAd_6]
  · rw [mAd_7, mAd_7]
  · rw [mAd_ne (by omega), mAd_ne (by omega)]; exact e7 11 (by omega)
  · rw [mAd_ne (by omega), mAd_ne (by omega)]; exact e7 12 (by omega)
theorem tP_w (h : tP C M) (e2 : ∀ i, C' 2 i = C 2 i) (e3 : C' 1 3 = C 1 3) (e4 : C' 1 4 = C 1 4) (e7 : ∀ i, i = 7 ∨ i = 11 ∨ i = 12 → C' 1 i = C 1 i) (m1 : ∀ i, M' 168 i = M 168 i) (m2 : ∀ i, M' 169 i = M 169 i) (m3 : ∀ i, 4 ≤ i → i ≤ 10 → M' 167 i = M 167 i) (d : dR C' M') : tP C' M' := by
  obtain ⟨h1, h2, h3⟩ := h
  refine ⟨sR_of h1 (fun i => ?_) (adv_eq e2 e3 e4 e7) m1 m2 m3, d, by rw [e3, e4]; exact h3⟩
  have z1 : cAdv C' 2 i = C' 2 i := cAdv_ne (by omega)
  have z2 : cAdv C 2 i = C 2 i := cAdv_ne (by omega)
  rw [z1, z2, e2]
theorem nearM_gS {k : Nat} {i v : Int} (hk : ((k = 170 ∨ k = 171 ∨ k = 172) ∧ i = 6 + M 167 15) ∨ ((k = 173 ∨ k = 174 ∨ k = 175) ∧ i = 8 + M 167 16) ∨ (k = 176 ∧ (i = 16 + 2 * M 167 17 ∨ i = 17 + 2 * M 167 17)) ∨ (k = 177 ∧ 18 + 3 * M 167 18 ≤ i)) : nearM M (gS M k i v) := by
  refine ⟨⟨fun j j0 j1 => gS_out (by omega), gS_out (by omega), gS_out (by omega), fun j => gS_out (by omega), fun j => gS_out (by omega)⟩, fun j j0 j1 => ⟨gS_out (by omega), gS_out (by omega), gS_out (by omega)⟩, fun j j0 j1 => ⟨gS_out (by omega), gS_out (by omega), gS_out (by omega)⟩, fun j j0 j1 => gS_out (by omega), fun j j0 j1 => gS_out (by omega)⟩
theorem tP_far {k : Nat} {i v : Int} (h : tP C M) (hk : ((k = 170 ∨ k = 171 ∨ k = 172) ∧ i = 6 + M 167 15) ∨ ((k = 173 ∨ k = 174 ∨ k = 175) ∧ i = 8 + M 167 16) ∨ (k = 176 ∧ (i = 16 + 2 * M 167 17 ∨ i = 17 + 2 * M 167 17)) ∨ (k = 177 ∧ 18 + 3 * M 167 18 ≤ i)) : tP C (gS M k i v) :=
  tP_w h (fun _ => rfl) rfl rfl (fun _ _ => rfl) (fun i => gS_out (by omega)) (fun i => gS_out (by omega)) (fun i i0 i1 => gS_out (by omega)) (dR_far h.2.1 (nearM_gS hk))
theorem k_bits {r : Int} {μ : gM} : gE 52 0 [gO 8 3, gI r] [] μ Q = Q (if r = -1 then 0 else atv μ 6 6 r) μ := by
  by_cases c : r = -1
  · simp (disch := first | assumption | omega) only [e52_0, e52_1, e52_2, e52_5, e52_6, e52_9, e52_10, e52_13, e52_14, e52_17, gK0_eq, gK1_eq, gK3_eq, w32_id, bI_eq0, bI_eq1, Bool.false_eq_true, not_true_eq_false, not_false_eq_true, ne_eq, ite_not, ↓reduceIte, if_true, if_false, Int.reduceToNat, Nat.reduceAdd, Int.reduceEq, Int.reduceLT, Int.reduceLE, Int.reduceNeg, bI_T, bI_F, ↓if_pos, ↓if_neg, c]
  · simp (disch := first | assumption | omega) only [e52_0, e52_1, e52_2, e52_5, e52_6, e52_9, e52_10, e52_13, e52_14, e52_17, gK0_eq, gK1_eq, gK3_eq, w32_id, bI_eq0, bI_eq1, Bool.false_eq_true, not_true_eq_false, not_false_eq_true, ne_eq, ite_not, ↓reduceIte, if_true, if_false, Int.reduceToNat, Nat.reduceAdd, Int.reduceEq, Int.reduceLT, Int.reduceLE, Int.reduceNeg, bI_T, bI_F, ↓if_pos, ↓if_neg, c, s_at]
theorem bits_val {r : Int} {μ : gM} (h : rTd 3 X μ) (hr : -1 ≤ r ∧ r < X 167 11) (h6 : X 167 11 ≤ 6) : (if r = -1 then 0 else atv μ 6 6 r) = xAb X 7 r 0 := by
  by_cases c : r = -1
  · rw [if_pos c, c, xAb, if_pos (by omega)]
  · rw [if_neg c, atv_in (by omega) (by omega)]
    exact (h.2.1 r (by omega) hr.2).2.2
theorem x_bridge (hs : sR C M) (hd : dR C M) (he : eqF C M) : xL C M (gE 71 0 [gO 4 1, gX, gX] []) (gE 234 60 [gO 10 167, gX] []) := by
  have hI := hd.1
  have t := hd.2.1
  have n1 := hI.1
  have p0 : xR M 167 11 = M 167 15 := rfl
  have c30 : C 3 0 = M 167 15 := t.1.1
  by_cases c : M 167 15 = 6
  · have rb : ∀ Q : Int → gM → Prop, gE 227 0 [gO 10 167] [] M Q = Q 0 (mWr M 2) := fun Q => by simp (disch := first | assumption | omega) only [e227_0, e227_1, e227_4, e227_6, e227_9, e227_10, e227_11, e227_14, e227_15, e227_16, e227_19, e227_20, e227_23, e227_26, e227_27, e227_28, e227_29, e227_32, e227_34, e227_35, e227_38, e227_39, e227_40, e227_43, e227_44, e227_45, e227_48, e227_51, e227_52, e227_53, e227_54, e227_57, e227_59, e227_60, e227_63, e227_64, e227_65, e227_68, e227_69, e227_70, e227_71, e227_72, e227_75, e227_78, e227_79, e227_80, e227_81, e227_84, e227_86, e227_87, e227_90, e227_91, e227_92, e227_95, e227_96, e227_97, e227_98, e227_101, e227_102, e227_103, e227_106, e227_107, gK0_eq, gK1_eq, gK3_eq, w32_id, bI_eq0, bI_eq1, Bool.false_eq_true, not_true_eq_false, not_false_eq_true, ne_eq, ite_not, ↓reduceIte, if_true, if_false, Int.reduceToNat, Nat.reduceAdd, Int.reduceEq, Int.reduceLT, Int.reduceLE, Int.reduceNeg, bI_T, bI_F, ↓if_pos, ↓if_neg, c, s_wrong]
    refine ⟨0, cRef C 2, mWr M 2, fun Q => ?_, fun Q => ?_, wC_of (fC_ref fC_refl), wM_of (fM_wr fM_refl), Or.inl ⟨rfl, fl_ref hs.2.2.2.1⟩⟩
    · simp (disch := first | assumption | omega) only [e71_0, e71_1, e71_4, e71_7, e71_9, e71_12, e71_13, e71_14, e71_17, e71_18, e71_19, e71_22, e71_25, e71_26, e71_27, e71_28, e71_31, e71_32, e71_33, e71_36, e71_37, e71_38, e71_40, e71_43, e71_44, e71_45, e71_46, e71_49, e71_52, e71_53, e71_54, e71_55, e71_58, e71_59, e71_60, e71_61, e71_64, e71_67, e71_68, e71_71, gK0_eq, gK1_eq, gK3_eq, w32_id, bI_eq0, bI_eq1, Bool.false_eq_true, not_true_eq_false, not_false_eq_true, ne_eq, ite_not, ↓reduceIte, if_true, if_false, Int.reduceToNat, Nat.reduceAdd, Int.reduceEq, Int.reduceLT, Int.reduceLE, Int.reduceNeg, bI_T, bI_F, ↓if_pos, ↓if_neg, c30, c, k_refuseR]
    · simp (disch := first | assumption | omega) only [e234_0, e234_1, e234_4, e234_5, e234_8, e234_9, e234_10, e234_13, e234_14, e234_15, e234_18_c0, e234_18_c1, e234_18_c2, e234_18_c3, e234_18_c4, e234_18_c5, e234_18_c6, e234_18_d, e234_60, e234_61, e234_64, e234_65, e234_68, e234_69, e234_72, e234_73, e234_76, e234_77, e234_80, e234_81, e234_84, e234_85, e234_88, e234_89, e234_92, e234_93, e234_96, e234_97, e234_100, e234_101, e234_104, e234_105, e234_108, e234_109, e234_112, e234_113, e234_116, e234_117, e234_118, e234_121, e234_122, e234_123, e234_126, e234_127, e234_128, e234_129, e234_132, e234_133, e234_136, e234_137, e234_138, e234_141, e234_142, e234_143, e234_146, e234_147, gK0_eq, gK1_eq, gK3_eq, w32_id, bI_eq0, bI_eq1, Bool.false_eq_true, not_true_eq_false, not_false_eq_true, ne_eq, ite_not, ↓reduceIte, if_true, if_false, Int.reduceToNat, Nat.reduceAdd, Int.reduceEq, Int.reduceLT, Int.reduceLE, Int.reduceNeg, bI_T, bI_F, ↓if_pos, ↓if_neg, rb]
  · obtain ⟨n, hn⟩ : ∃ n, n = M 167 15 := ⟨_, rfl⟩
    rw [← hn] at c30
    have n0 : 0 ≤ n := by omega
    have n6 : n < 6 := by omega
    have c' : ¬ n = 6 := by omega
    have i0 : 0 ≤ 6 + n := by omega
    have i1 : 6 + n < ((12 : Nat) : Int) := by omega
    have j1 : n < ((6 : Nat) : Int) := by omega
    have rt := fun (Q : Int → gM → Prop) => run_tokS (Q := Q) hs
    have m15 : mTok M 167 15 = n := by rw [mTok_ne (by omega), hn]
    obtain ⟨b1, C1, M2, k1, s1, f1, g1, o1⟩ := x_newName (tP_of hs hd)
    have q15 : M2 167 15 = n := by rw [g1 _ _ (by omega), m15]
    rcases o1 with ⟨rfl, fl1⟩ | ⟨rfl, tp1, got1, pos1⟩
    · have rb : ∀ Q : Int → gM → Prop, gE 227 0 [gO 10 167] [] M Q = Q 0 M2 := fun Q => by simp (disch := first | assumption | omega) only [e227_0, e227_1, e227_4, e227_6, e227_9, e227_10, e227_11, e227_14, e227_15, e227_16, e227_19, e227_20, e227_23, e227_26, e227_27, e227_28, e227_29, e227_32, e227_34, e227_35, e227_38, e227_39, e227_40, e227_43, e227_44, e227_45, e227_48, e227_51, e227_52, e227_53, e227_54, e227_57, e227_59, e227_60, e227_63, e227_64, e227_65, e227_68, e227_69, e227_70, e227_71, e227_72, e227_75, e227_78, e227_79, e227_80, e227_81, e227_84, e227_86, e227_87, e227_90, e227_91, e227_92, e227_95, e227_96, e227_97, e227_98, e227_101, e227_102, e227_103, e227_106, e227_107, gK0_eq, gK1_eq, gK3_eq, w32_id, bI_eq0, bI_eq1, Bool.false_eq_true, not_true_eq_false, not_false_eq_true, ne_eq, ite_not, ↓reduceIte, if_true, if_false, Int.reduceToNat, Nat.reduceAdd, Int.reduceEq, Int.reduceLT, Int.reduceLE, Int.reduceNeg, bI_T, bI_F, ↓if_pos, ↓if_neg, ← hn, c', rt, s1]
      exact ⟨0, C1, M2, fun Q => by simp (disch := first | assumption | omega) only [e71_0, e71_1, e71_4, e71_7, e71_9, e71_12, e71_13, e71_14, e71_17, e71_18, e71_19, e71_22, e71_25, e71_26, e71_27, e71_28, e71_31, e71_32, e71_33, e71_36, e71_37, e71_38, e71_40, e71_43, e71_44, e71_45, e71_46, e71_49, e71_52, e71_53, e71_54, e71_55, e71_58, e71_59, e71_60, e71_61, e71_64, e71_67, e71_68, e71_71, gK0_eq, gK1_eq, gK3_eq, w32_id, bI_eq0, bI_eq1, Bool.false_eq_true, not_true_eq_false, not_false_eq_true, ne_eq, ite_not, ↓reduceIte, if_true, if_false, Int.reduceToNat, Nat.reduceAdd, Int.reduceEq, Int.reduceLT, Int.reduceLE, Int.reduceNeg, bI_T, bI_F, ↓if_pos, ↓if_neg, c30, show ¬ 6 ≤ n by omega, n6, k1], fun Q => by simp (disch := first | assumption | omega) only [e234_0, e234_1, e234_4, e234_5, e234_8, e234_9, e234_10, e234_13, e234_14, e234_15, e234_18_c0, e234_18_c1, e234_18_c2, e234_18_c3, e234_18_c4, e234_18_c5, e234_18_c6, e234_18_d, e234_60, e234_61, e234_64, e234_65, e234_68, e234_69, e234_72, e234_73, e234_76, e234_77, e234_80, e234_81, e234_84, e234_85, e234_88, e234_89, e234_92, e234_93, e234_96, e234_97, e234_100, e234_101, e234_104, e234_105, e234_108, e234_109, e234_112, e234_113, e234_116, e234_117, e234_118, e234_121, e234_122, e234_123, e234_126, e234_127, e234_128, e234_129, e234_132, e234_133, e234_136, e234_137, e234_138, e234_141, e234_142, e234_143, e234_146, e234_147, gK0_eq, gK1_eq, gK3_eq, w32_id, bI_eq0, bI_eq1, Bool.false_eq_true, not_true_eq_false, not_false_eq_true, ne_eq, ite_not, ↓reduceIte, if_true, if_false, Int.reduceToNat, Nat.reduceAdd, Int.reduceEq, Int.reduceLT, Int.reduceLE, Int.reduceNeg, bI_T, bI_F, ↓if_pos, ↓if_neg, rb], wC_of f1, wM_of (fM_trans fM_tok g1), Or.inl ⟨rfl, fl1⟩⟩
    · have tp1' := tP_far (k := 170) (i := 6 + n) (v := C1 1 7) tp1 (Or.inl ⟨by omega, by omega⟩)
      obtain ⟨b2, r, C2, M4, k2, s2, f2, g2, o2⟩ := x_beneath tp1'
      have r15 : M4 167 15 = n := by rw [g2 _ _ (by omega), gS_out (by omega), q15]
      have y1 : M2 167 30 = C1 1 7 := got1
      rcases o2 with ⟨rfl, rfl, fl2⟩ | ⟨rfl, tp2, rr, got2, pos2⟩
      · have rb : ∀ Q : Int → gM → Prop, gE 227 0 [gO 10 167] [] M Q = Q 0 M4 := fun Q => by simp (disch := first | assumption | omega) only [e227_0, e227_1, e227_4, e227_6, e227_9, e227_10, e227_11, e227_14, e227_15, e227_16, e227_19, e227_20, e227_23, e227_26, e227_27, e227_28, e227_29, e227_32, e227_34, e227_35, e227_38, e227_39, e227_40, e227_43, e227_44, e227_45, e227_48, e227_51, e227_52, e227_53, e227_54, e227_57, e227_59, e227_60, e227_63, e227_64, e227_65, e227_68, e227_69, e227_70, e227_71, e227_72, e227_75, e227_78, e227_79, e227_80, e227_81, e227_84, e227_86, e227_87, e227_90, e227_91, e227_92, e227_95, e227_96, e227_97, e227_98, e227_101, e227_102, e227_103, e227_106, e227_107, gK0_eq, gK1_eq, gK3_eq, w32_id, bI_eq0, bI_eq1, Bool.false_eq_true, not_true_eq_false, not_false_eq_true, ne_eq, ite_not, ↓reduceIte, if_true, if_false, Int.reduceToNat, Nat.reduceAdd, Int.reduceEq, Int.reduceLT, Int.reduceLE, Int.reduceNeg, bI_T, bI_F, ↓if_pos, ↓if_neg, ← hn, c', rt, s1, q15, y1, s2]
        exact ⟨0, C2, M4, fun Q => by simp (disch := first | assumption | omega) only [e71_0, e71_1, e71_4, e71_7, e71_9, e71_12, e71_13, e71_14, e71_17, e71_18, e71_19, e71_22, e71_25, e71_26, e71_27, e71_28, e71_31, e71_32, e71_33, e71_36, e71_37, e71_38, e71_40, e71_43, e71_44, e71_45, e71_46, e71_49, e71_52, e71_53, e71_54, e71_55, e71_58, e71_59, e71_60, e71_61, e71_64, e71_67, e71_68, e71_71, gK0_eq, gK1_eq, gK3_eq, w32_id, bI_eq0, bI_eq1, Bool.false_eq_true, not_true_eq_false, not_false_eq_true, ne_eq, ite_not, ↓reduceIte, if_true, if_false, Int.reduceToNat, Nat.reduceAdd, Int.reduceEq, Int.reduceLT, Int.reduceLE, Int.reduceNeg, bI_T, bI_F, ↓if_pos, ↓if_neg, c30, show ¬ 6 ≤ n by omega, n6, k1, k2], fun Q => by simp (disch := first | assumption | omega) only [e234_0, e234_1, e234_4, e234_5, e234_8, e234_9, e234_10, e234_13, e234_14, e234_15, e234_18_c0, e234_18_c1, e234_18_c2, e234_18_c3, e234_18_c4, e234_18_c5, e234_18_c6, e234_18_d, e234_60, e234_61, e234_64, e234_65, e234_68, e234_69, e234_72, e234_73, e234_76, e234_77, e234_80, e234_81, e234_84, e234_85, e234_88, e234_89, e234_92, e234_93, e234_96, e234_97, e234_100, e234_101, e234_104, e234_105, e234_108, e234_109, e234_112, e234_113, e234_116, e234_117, e234_118, e234_121, e234_122, e234_123, e234_126, e234_127, e234_128, e234_129, e234_132, e234_133, e234_136, e234_137, e234_138, e234_141, e234_142, e234_143, e234_146, e234_147, gK0_eq, gK1_eq, gK3_eq, w32_id, bI_eq0, bI_eq1, Bool.false_eq_true, not_true_eq_false, not_false_eq_true, ne_eq, ite_not, ↓reduceIte, if_true, if_false, Int.reduceToNat, Nat.reduceAdd, Int.reduceEq, Int.reduceLT, Int.reduceLE, Int.reduceNeg, bI_T, bI_F, ↓if_pos, ↓if_neg, rb], wC_of (fC_trans f1 f2), wM_trans (wM_gS (wM_of (fM_trans fM_tok g1)) (by omega)) (wM_of g2), Or.inl ⟨rfl, fl2⟩⟩
      · have r' : -1 ≤ r ∧ r < n := by
          have : xR (gS M2 170 (6 + n) (C1 1 7)) 167 11 = gS M2 170 (6 + n) (C1 1 7) 167 15 := rfl
          rw [this, gS_out (by omega), q15] at rr
          exact rr
        have rn : ¬ r = -2 := by omega
        have tp2' := tP_far (k := 171) (i := 6 + n) (v := r) tp2 (Or.inl ⟨by omega, by omega⟩)
        obtain ⟨b3, C3, M6, k3, s3, f3, g3, o3⟩ := x_number (lo := 0) (hi := 2) (by omega) tp2'
        have u15 : M6 167 15 = n := by rw [g3 _ _ (by omega), gS_out (by omega), r15]
        have y2 : M4 167 30 = r := got2
        have w1 : wM M M6 := wM_trans (wM_gS (wM_trans (wM_gS (wM_of (fM_trans fM_tok g1)) (by omega)) (wM_of g2)) (by omega)) (wM_of g3)
        have fc : fC C C3 := fC_trans f1 (fC_trans f2 f3)
        rcases o3 with ⟨rfl, fl3, -⟩ | ⟨rfl, tp3, vr, got3, pos3, -⟩
        · have rb : ∀ Q : Int → gM → Prop, gE 227 0 [gO 10 167] [] M Q = Q 0 M6 := fun Q => by simp (disch := first | assumption | omega) only [e227_0, e227_1, e227_4, e227_6, e227_9, e227_10, e227_11, e227_14, e227_15, e227_16, e227_19, e227_20, e227_23, e227_26, e227_27, e227_28, e227_29, e227_32, e227_34, e227_35, e227_38, e227_39, e227_40, e227_43, e227_44, e227_45, e227_48, e227_51, e227_52, e227_53, e227_54, e227_57, e227_59, e227_60, e227_63, e227_64, e227_65, e227_68, e227_69, e227_70, e227_71, e227_72, e227_75, e227_78, e227_79, e227_80, e227_81, e227_84, e227_86, e227_87, e227_90, e227_91, e227_92, e227_95, e227_96, e227_97, e227_98, e227_101, e227_102, e227_103, e227_106, e227_107, gK0_eq, gK1_eq, gK3_eq, w32_id, bI_eq0, bI_eq1, Bool.false_eq_true, not_true_eq_false, not_false_eq_true, ne_eq, ite_not, ↓reduceIte, if_true, if_false, Int.reduceToNat, Nat.reduceAdd, Int.reduceEq, Int.reduceLT, Int.reduceLE, Int.reduceNeg, bI_T, bI_F, ↓if_pos, ↓if_neg, ← hn, c', rt, s1, q15, y1, s2, r15, y2, s3]
          exact ⟨0, C3, M6, fun Q => by simp (disch := first | assumption | omega) only [e71_0, e71_1, e71_4, e71_7, e71_9, e71_12, e71_13, e71_14, e71_17, e71_18, e71_19, e71_22, e71_25, e71_26, e71_27, e71_28, e71_31, e71_32, e71_33, e71_36, e71_37, e71_38, e71_40, e71_43, e71_44, e71_45, e71_46, e71_49, e71_52, e71_53, e71_54, e71_55, e71_58, e71_59, e71_60, e71_61, e71_64, e71_67, e71_68, e71_71, gK0_eq, gK1_eq, gK3_eq, w32_id, bI_eq0, bI_eq1, Bool.false_eq_true, not_true_eq_false, not_false_eq_true, ne_eq, ite_not, ↓reduceIte, if_true, if_false, Int.reduceToNat, Nat.reduceAdd, Int.reduceEq, Int.reduceLT, Int.reduceLE, Int.reduceNeg, bI_T, bI_F, ↓if_pos, ↓if_neg, c30, show ¬ 6 ≤ n by omega, n6, k1, k2, rn, k3], fun Q => by simp (disch := first | assumption | omega) only [e234_0, e234_1, e234_4, e234_5, e234_8, e234_9, e234_10, e234_13, e234_14, e234_15, e234_18_c0, e234_18_c1, e234_18_c2, e234_18_c3, e234_18_c4, e234_18_c5, e234_18_c6, e234_18_d, e234_60, e234_61, e234_64, e234_65, e234_68, e234_69, e234_72, e234_73, e234_76, e234_77, e234_80, e234_81, e234_84, e234_85, e234_88, e234_89, e234_92, e234_93, e234_96, e234_97, e234_100, e234_101, e234_104, e234_105, e234_108, e234_109, e234_112, e234_113, e234_116, e234_117, e234_118, e234_121, e234_122, e234_123, e234_126, e234_127, e234_128, e234_129, e234_132, e234_133, e234_136, e234_137, e234_138, e234_141, e234_142, e234_143, e234_146, e234_147, gK0_eq, gK1_eq, gK3_eq, w32_id, bI_eq0, bI_eq1, Bool.false_eq_true, not_true_eq_false, not_false_eq_true, ne_eq, ite_not, ↓reduceIte, if_true, if_false, Int.reduceToNat, Nat.reduceAdd, Int.reduceEq, Int.reduceLT, Int.reduceLE, Int.reduceNeg, bI_T, bI_F, ↓if_pos, ↓if_neg, rb], wC_of fc, w1, Or.inl ⟨rfl, fl3⟩⟩
        · have y3 : M6 167 30 = C3 1 7 := got3
          have d30 : C3 3 0 = n := by rw [fc _ _ (by omega), c30]
          obtain ⟨up, eup⟩ : ∃ up, up = ior32 (ishl32 1 n) (xAb (xR M) 7 r 0) := ⟨_, rfl⟩
          have bv : (if r = -1 then 0 else atv (gS (gS C3 4 n (C1 1 7)) 5 n (C3 1 7)) 6 6 r) = xAb (xR M) 7 r 0 := by
            rw [← bits_val t (by omega) (by omega)]
            by_cases q : r = -1
            · rw [if_pos q, if_pos q]
            · rw [if_neg q, if_neg q, atv_in (by omega) (by omega), atv_in (by omega) (by omega), gS_out (by omega), gS_out (by omega), fc _ _ (by omega)]
          obtain ⟨C4, e4⟩ : ∃ C4, C4 = gS (gS (gS (gS C3 4 n (C1 1 7)) 5 n (C3 1 7)) 6 n up) 3 0 (n + 1) := ⟨_, rfl⟩
          obtain ⟨M7, e7⟩ : ∃ M7, M7 = gS (gS M6 172 (6 + n) (C3 1 7)) 167 15 (n + 1) := ⟨_, rfl⟩
          have mm : ∀ (k : Nat) i, (k ≠ 167 ∨ (i ≠ 4 ∧ i ≠ 5 ∧ (i < 7 ∨ 10 < i) ∧ i ≠ 30 ∧ i ≠ 15)) → ¬ (k = 170 ∧ i = 6 + n) → ¬ (k = 171 ∧ i = 6 + n) → ¬ (k = 172 ∧ i = 6 + n) → M7 k i = M k i := fun k i q1 q2 q3 q4 => by
            rw [e7, gS_out (by omega), gS_out q4, g3 _ _ (by omega), gS_out q3, g2 _ _ (by omega), gS_out q2, g1 _ _ (by omega), mTok_ne (by omega)]
          have cm : ∀ (k : Nat) i, (k ≠ 1 ∨ ((i < 4 ∨ 7 < i) ∧ i ≠ 11 ∧ i ≠ 12)) → ¬ (k = 4 ∧ i = n) → ¬ (k = 5 ∧ i = n) → ¬ (k = 6 ∧ i = n) → ¬ (k = 3 ∧ i = 0) → C4 k i = C k i := fun k i q1 q2 q3 q4 q5 => by
            rw [e4, gS_out q5, gS_out q4, gS_out q3, gS_out q2, fc k i q1]
          have d4 : dR C4 M7 := by
            refine dR_bridge (n := n) (r := r) (nm := C1 1 7) (kd := C3 1 7) hd hn n6 r' vr ?_ ?_ ?_ ?_ (fun k i k0 k1 hq => mm k i (by omega) (fun z => hq (by omega) z.2) (fun z => hq (by omega) z.2) (fun z => hq (by omega) z.2)) (fun i i0 i1 => mm 167 i (by omega) (by omega) (by omega) (by omega)) ?_ ?_ ?_ ?_ (fun k i k0 k1 hq h3 => cm k i (by omega) (fun z => hq (by omega) z.2) (fun z => hq (by omega) z.2) (fun z => hq (by omega) z.2) (fun z => h3 z.1 z.2)) (cm 1 8 (by omega) (by omega) (by omega) (by omega) (by omega)) (cm 1 9 (by omega) (by omega) (by omega) (by omega) (by omega))
            · rw [e7, gS_out (by omega), gS_out (by omega), g3 _ _ (by omega), gS_out (by omega), g2 _ _ (by omega), gS_same]
            · rw [e7, gS_out (by omega), gS_out (by omega), g3 _ _ (by omega), gS_same]
            · rw [e7, gS_out (by omega), gS_same]
            · rw [e7, gS_same]
            · rw [e4, gS_out (by omega), gS_out (by omega), gS_out (by omega), gS_same]
            · rw [e4, gS_out (by omega), gS_out (by omega), gS_same]
            · rw [e4, gS_out (by omega), gS_same, eup]
            · rw [e4, gS_same]
          have tp4 : tP C4 M7 := tP_w tp3 (fun i => by rw [e4, gS_out (by omega), gS_out (by omega), gS_out (by omega), gS_out (by omega)]) (by rw [e4, gS_out (by omega), gS_out (by omega), gS_out (by omega), gS_out (by omega)]) (by rw [e4, gS_out (by omega), gS_out (by omega), gS_out (by omega), gS_out (by omega)]) (fun i hi => by rw [e4, gS_out (by omega), gS_out (by omega), gS_out (by omega), gS_out (by omega)]) (fun i => by rw [e7, gS_out (by omega), gS_out (by omega)]) (fun i => by rw [e7, gS_out (by omega), gS_out (by omega)]) (fun i i0 i1 => by rw [e7, gS_out (by omega), gS_out (by omega)]) d4
          obtain ⟨b5, C5, M8, k5, s5, f5, g5, o5⟩ := x_stop tp4
          have rb : ∀ Q : Int → gM → Prop, gE 227 0 [gO 10 167] [] M Q = Q 1 M7 := fun Q => by
            rw [e7]
            simp (disch := first | assumption | omega) only [e227_0, e227_1, e227_4, e227_6, e227_9, e227_10, e227_11, e227_14, e227_15, e227_16, e227_19, e227_20, e227_23, e227_26, e227_27, e227_28, e227_29, e227_32, e227_34, e227_35, e227_38, e227_39, e227_40, e227_43, e227_44, e227_45, e227_48, e227_51, e227_52, e227_53, e227_54, e227_57, e227_59, e227_60, e227_63, e227_64, e227_65, e227_68, e227_69, e227_70, e227_71, e227_72, e227_75, e227_78, e227_79, e227_80, e227_81, e227_84, e227_86, e227_87, e227_90, e227_91, e227_92, e227_95, e227_96, e227_97, e227_98, e227_101, e227_102, e227_103, e227_106, e227_107, gK0_eq, gK1_eq, gK3_eq, w32_id, bI_eq0, bI_eq1, Bool.false_eq_true, not_true_eq_false, not_false_eq_true, ne_eq, ite_not, ↓reduceIte, if_true, if_false, Int.reduceToNat, Nat.reduceAdd, Int.reduceEq, Int.reduceLT, Int.reduceLE, Int.reduceNeg, bI_T, bI_F, ↓if_pos, ↓if_neg, ← hn, c', rt, s1, q15, y1, s2, r15, y2, s3, u15, y3, gS_neK]
          have w7 : wM M M7 := by rw [e7]; exact wM_gS (wM_gS w1 (by omega)) (by omega)
          have w4 : wC C C4 := by rw [e4]; exact wC_gS (wC_gS (wC_gS (wC_gS (wC_of fc) (by omega)) (by omega)) (by omega)) (by omega)
          refine ⟨b5, C5, M8, fun Q => ?_, fun Q => ?_, wC_trans w4 (wC_of f5), wM_trans w7 (wM_of g5), ?_⟩
          · have k5' := k5
            rw [e4, eup] at k5'
            simp (disch := first | assumption | omega) only [e71_0, e71_1, e71_4, e71_7, e71_9, e71_12, e71_13, e71_14, e71_17, e71_18, e71_19, e71_22, e71_25, e71_26, e71_27, e71_28, e71_31, e71_32, e71_33, e71_36, e71_37, e71_38, e71_40, e71_43, e71_44, e71_45, e71_46, e71_49, e71_52, e71_53, e71_54, e71_55, e71_58, e71_59, e71_60, e71_61, e71_64, e71_67, e71_68, e71_71, gK0_eq, gK1_eq, gK3_eq, e50_0, e50_1, e50_4, e50_5, e50_8, e50_9, e50_12, e50_13, e50_16, e50_17, e50_20, e50_21, e50_24, e50_25, e50_28, e50_29, e50_32, e50_33, e50_34, e50_37, e50_38, e50_39, e50_40, e50_43, e50_44, e50_47, e50_48, e50_49, e50_52, e50_53, e50_54, e50_57, gK0_eq, gK1_eq, gK3_eq, w32_id, bI_eq0, bI_eq1, Bool.false_eq_true, not_true_eq_false, not_false_eq_true, ne_eq, ite_not, ↓reduceIte, if_true, if_false, Int.reduceToNat, Nat.reduceAdd, Int.reduceEq, Int.reduceLT, Int.reduceLE, Int.reduceNeg, bI_T, bI_F, ↓if_pos, ↓if_neg, c30, show ¬ 6 ≤ n by omega, n6, k1, k2, rn, k3, s_put', putv_in, d30, gS_neK, k_bits, bv, k5']
          · simp (disch := first | assumption | omega) only [e234_0, e234_1, e234_4, e234_5, e234_8, e234_9, e234_10, e234_13, e234_14, e234_15, e234_18_c0, e234_18_c1, e234_18_c2, e234_18_c3, e234_18_c4, e234_18_c5, e234_18_c6, e234_18_d, e234_60, e234_61, e234_64, e234_65, e234_68, e234_69, e234_72, e234_73, e234_76, e234_77, e234_80, e234_81, e234_84, e234_85, e234_88, e234_89, e234_92, e234_93, e234_96, e234_97, e234_100, e234_101, e234_104, e234_105, e234_108, e234_109, e234_112, e234_113, e234_116, e234_117, e234_118, e234_121, e234_123, e234_126, e234_127, e234_128, e234_129, e234_132, e234_133, e234_136, e234_137, e234_138, e234_141, e234_142, e234_143, e234_146, e234_147, gK0_eq, gK1_eq, gK3_eq, w32_id, bI_eq0, bI_eq1, Bool.false_eq_true, not_true_eq_false, not_false_eq_true, ne_eq, ite_not, ↓reduceIte, if_true, if_false, Int.reduceToNat, Nat.reduceAdd, Int.reduceEq, Int.reduceLT, Int.reduceLE, Int.reduceNeg, bI_T, bI_F, ↓if_pos, ↓if_neg, rb, s5]
          · have c44 : C4 1 4 = C3 1 4 := by rw [e4, gS_out (by omega), gS_out (by omega), gS_out (by omega), gS_out (by omega)]
            rcases o5 with ⟨rfl, fl5⟩ | ⟨rfl, tp5, pos5⟩
            · exact Or.inl ⟨rfl, fl5⟩
            · exact Or.inr ⟨rfl, tp5, by omega, by rw [f5 _ _ (by omega), g5 _ _ (by omega), cm _ _ (by omega) (by omega) (by omega) (by omega) (by omega), mm _ _ (by omega) (by omega) (by omega) (by omega)]; exact he.1, by rw [f5 _ _ (by omega), g5 _ _ (by omega), cm _ _ (by omega) (by omega) (by omega) (by omega) (by omega), mm _ _ (by omega) (by omega) (by omega) (by omega)]; exact he.2⟩
end LINES
