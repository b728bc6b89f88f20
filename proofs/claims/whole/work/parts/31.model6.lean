/-! the check: use, close, serve -/
def tFaN (T : Int → Int) (e sg p r w a : Int) : Int → Int := tRcd (tBec (tBec (tS T 1918 0) 10 e) w a) sg p r w
def tFaM (T : Int → Int) (e sg p r w a : Int) : Int → Int := tRcd (tBec (tBec (tBec (tS T 1918 0) 11 e) 10 e) w a) sg p r w
def mW (μ : gM) (w a : Int) : gM := gS (gS μ 167 36 w) 167 37 a
theorem mW_ne {μ : gM} {w a : Int} {k : Nat} {i : Int} (h : k ≠ 167 ∨ (i ≠ 36 ∧ i ≠ 37)) : mW μ w a k i = μ k i := by
  unfold mW gS
  rw [if_neg (by omega), if_neg (by omega)]
theorem mW_id {μ : gM} : mW μ (μ 167 36) (μ 167 37) = μ := by
  funext k i
  unfold mW gS
  split
  · rename_i h; rw [h.1, h.2]
  · split
    · rename_i h; rw [h.1, h.2]
    · rfl
theorem mW_mW {μ : gM} {w a w' a' : Int} : mW (mW μ w a) w' a' = mW μ w' a' := by
  funext k i
  unfold mW gS
  by_cases h1 : k = 167 ∧ i = 37
  · rw [if_pos h1, if_pos h1]
  · rw [if_neg h1, if_neg h1]
    by_cases h2 : k = 167 ∧ i = 36
    · rw [if_pos h2, if_neg h1, if_pos h2]
    · rw [if_neg h2, if_neg h2, if_neg h1, if_neg h2]
theorem gBk_mW {μ : gM} {b w a : Int} (h : gBk μ b) : gBk (mW μ w a) b := gBk_gS (gBk_gS h (by decide)) (by decide)
theorem gIX_congr {μ μ' : gM} (h : ∀ (k : Nat) (i : Int), 170 ≤ k ∧ k < 180 ∨ (k = 167 ∧ 11 ≤ i ∧ i ≤ 14) → μ' k i = μ k i) (hI : gIX μ) : gIX μ' := by
  have e1 : ∀ i, 11 ≤ i → i ≤ 14 → μ' 167 i = μ 167 i := fun i h1 h2 => h 167 i (Or.inr ⟨rfl, h1, h2⟩)
  have e2 : ∀ (k : Nat), 170 ≤ k → k < 180 → ∀ i, μ' k i = μ k i := fun k h1 h2 i => h k i (Or.inl ⟨h1, h2⟩)
  have a1 := e1 11 (by omega) (by omega)
  have a2 := e1 12 (by omega) (by omega)
  have a3 := e1 13 (by omega) (by omega)
  have a4 := e1 14 (by omega) (by omega)
  have b1 := e2 171 (by omega) (by omega)
  have b2 := e2 172 (by omega) (by omega)
  have b4 := e2 174 (by omega) (by omega)
  have b5 := e2 175 (by omega) (by omega)
  have b6 := e2 176 (by omega) (by omega)
  have b7 := e2 177 (by omega) (by omega)
  have b8 := e2 178 (by omega) (by omega)
  have b9 := e2 179 (by omega) (by omega)
  unfold gIX at hI ⊢
  simp only [a1, a2, a3, a4, b1, b2, b4, b5, b6, b7, b8, b9]
  exact hI
theorem gIX_mW {μ : gM} {w a : Int} (h : gIX μ) : gIX (mW μ w a) := gIX_congr (fun k i hk => mW_ne (by omega)) h
theorem gIX_thr {μ : gM} {v : Int} (h : gIX μ) : gIX (gS μ 167 2 v) := gIX_congr (fun k i hk => if_neg (by omega)) h
section MODEL6
variable {μ : gM} {b : Int} {T : Int → Int} {Q : Int → gM → Prop}
theorem s_isDevice {d : Int} : gE 238 0 [gO 10 167, gI d] [] (mK μ b T) Q = Q (bI (0 ≤ d ∧ d < μ 167 12)) (mK μ b T) := by
  by_cases h1 : d < 0
  · rw [bI_f (by omega)]
    simp (disch := first | assumption | omega) only [e238_0, e238_1, e238_4, e238_5, e238_6, e238_9, e238_12, e238_13, e238_16, e238_17, gK0_eq, gK1_eq, gK3_eq, w32_id, bI_eq0, bI_eq1, Bool.false_eq_true, not_true_eq_false, not_false_eq_true, ne_eq, ite_not, ↓reduceIte, if_true, if_false, Int.reduceToNat, Nat.reduceAdd, h1]
  · by_cases h2 : μ 167 12 ≤ d
    · rw [bI_f (by omega)]
      simp (disch := first | assumption | omega) only [e238_0, e238_1, e238_4, e238_5, e238_6, e238_9, e238_12, e238_13, e238_16, e238_17, gK0_eq, gK1_eq, gK3_eq, w32_id, bI_eq0, bI_eq1, Bool.false_eq_true, not_true_eq_false, not_false_eq_true, ne_eq, ite_not, ↓reduceIte, if_true, if_false, Int.reduceToNat, Nat.reduceAdd, mK_ne, h1, h2]
    · rw [bI_t (by omega)]
      simp (disch := first | assumption | omega) only [e238_0, e238_1, e238_4, e238_5, e238_6, e238_9, e238_12, e238_13, e238_16, e238_17, gK0_eq, gK1_eq, gK3_eq, w32_id, bI_eq0, bI_eq1, Bool.false_eq_true, not_true_eq_false, not_false_eq_true, ne_eq, ite_not, ↓reduceIte, if_true, if_false, Int.reduceToNat, Nat.reduceAdd, mK_ne, h1, h2]
theorem tBec_lo {c a j : Int} (h : j < 1918 ∨ 1927 ≤ j) (hC : 0 ≤ T 1918 ∧ T 1918 ≤ 3) : tBec T c a j = T j := by
  unfold tBec
  rw [tS_ne (by omega), tS_ne (by omega), tS_ne (by omega)]
theorem tBec_1918 {c a : Int} : tBec T c a 1918 = T 1918 + 1 := tS_same
theorem s_faults_N {e p r : Int} (hb : gBk μ b) (hI : gIX μ) (he : 0 ≤ e ∧ e < μ 167 12) (hR : 0 ≤ T 1927 ∧ T 1927 ≤ 8) (hs : μ 175 e = 0) : gE 298 0 [gO 10 167, gI e, gI p, gI r, gX, gX] [] (mK μ b T) Q = Q (-2) (mK μ b (tFaN T e (xSign μ e) p r (μ 167 36) (μ 167 37))) := by
  have hd8 := hI.2.1
  have c1 : 0 ≤ tS T 1918 0 1918 ∧ tS T 1918 0 1918 ≤ 3 := by rw [tS_same]; omega
  have c2 : 0 ≤ tBec (tS T 1918 0) 10 e 1918 ∧ tBec (tS T 1918 0) 10 e 1918 ≤ 3 := by rw [tBec_1918, tS_same]; omega
  have c3 : 0 ≤ tBec (tBec (tS T 1918 0) 10 e) (μ 167 36) (μ 167 37) 1927 ∧ tBec (tBec (tS T 1918 0) 10 e) (μ 167 36) (μ 167 37) 1927 ≤ 8 := by
    rw [tBec_lo (by omega) c2, tBec_lo (by omega) c1, tS_ne (by omega)]; exact hR
  have e0 : ¬ (0 : Int) = 1 := by omega
  simp (disch := first | assumption | omega) only [e298_0, e298_1, e298_4, e298_5, e298_8, e298_9, e298_10, e298_11, e298_14, e298_15, e298_18, e298_21, e298_23, e298_26, e298_27, e298_30, e298_31, e298_33, e298_34, e298_37, e298_38, e298_39, e298_40, e298_43, e298_45, e298_48, e298_49, e298_52, e298_53, e298_55, e298_57, e298_60, e298_61, e298_63, e298_64, e298_67, e298_68, e298_70, e298_71, e298_74, e298_75, e298_76, e298_79, e298_80, e298_83, e298_86, e298_87, e298_88, e298_89, e298_90, e298_91, e298_94, e298_97, e298_99, e298_102, e298_103, e298_104, e298_105, e298_106, e298_109, e298_111, e298_114, e298_115, e298_116, e298_119, e298_121, e298_124, e298_126, e298_129, e298_131, e298_134, e298_136, e298_139, e298_141, gK0_eq, gK1_eq, gK3_eq, w32_id, bI_eq0, bI_eq1, Bool.false_eq_true, not_true_eq_false, not_false_eq_true, ne_eq, ite_not, ↓reduceIte, if_true, if_false, Int.reduceToNat, Nat.reduceAdd, s_causes0, s_because, s_records, mK_ne, hs, e0, tFaN]
theorem s_faults_W {e p r : Int} (hb : gBk μ b) (hI : gIX μ) (he : 0 ≤ e ∧ e < μ 167 12) (hR : 0 ≤ T 1927 ∧ T 1927 ≤ 8) (hW : 0 ≤ T 1881 ∧ T 1881 < 8) (hs : μ 175 e = 1) : gE 298 0 [gO 10 167, gI e, gI p, gI r, gX, gX] [] (mK μ b T) Q = Q (-3) (mK μ b (tReq (tFaN T e (xSign μ e) p r (μ 167 36) (μ 167 37)) e p r)) := by
  have hd8 := hI.2.1
  have c1 : 0 ≤ tS T 1918 0 1918 ∧ tS T 1918 0 1918 ≤ 3 := by rw [tS_same]; omega
  have c2 : 0 ≤ tBec (tS T 1918 0) 10 e 1918 ∧ tBec (tS T 1918 0) 10 e 1918 ≤ 3 := by rw [tBec_1918, tS_same]; omega
  have c3 : 0 ≤ tBec (tBec (tS T 1918 0) 10 e) (μ 167 36) (μ 167 37) 1927 ∧ tBec (tBec (tS T 1918 0) 10 e) (μ 167 36) (μ 167 37) 1927 ≤ 8 := by
    rw [tBec_lo (by omega) c2, tBec_lo (by omega) c1, tS_ne (by omega)]; exact hR
  have c4 : 0 ≤ tFaN T e (xSign μ e) p r (μ 167 36) (μ 167 37) 1881 ∧ tFaN T e (xSign μ e) p r (μ 167 36) (μ 167 37) 1881 < 8 := by
    unfold tFaN tRcd
    rw [tS_ne (by omega), tS_ne (by omega), tS_ne (by omega), tS_ne (by omega), tS_ne (by omega), tShR_lo (by omega), tBec_lo (by omega) c2, tBec_lo (by omega) c1, tS_ne (by omega)]
    exact hW
  have e0 : ¬ (8 : Int) ≤ tS T 1918 0 1881 := by rw [tS_ne (by omega)]; omega
  simp (disch := first | assumption | omega) only [e298_0, e298_1, e298_4, e298_5, e298_8, e298_9, e298_10, e298_11, e298_14, e298_15, e298_18, e298_21, e298_23, e298_26, e298_27, e298_30, e298_31, e298_33, e298_34, e298_37, e298_38, e298_39, e298_40, e298_43, e298_45, e298_48, e298_49, e298_52, e298_53, e298_55, e298_57, e298_60, e298_61, e298_63, e298_64, e298_67, e298_68, e298_70, e298_71, e298_74, e298_75, e298_76, e298_79, e298_80, e298_83, e298_86, e298_87, e298_88, e298_89, e298_90, e298_91, e298_94, e298_97, e298_99, e298_102, e298_103, e298_104, e298_105, e298_106, e298_109, e298_111, e298_114, e298_115, e298_116, e298_119, e298_121, e298_124, e298_126, e298_129, e298_131, e298_134, e298_136, e298_139, e298_141, gK0_eq, gK1_eq, gK3_eq, w32_id, bI_eq0, bI_eq1, Bool.false_eq_true, not_true_eq_false, not_false_eq_true, ne_eq, ite_not, ↓reduceIte, if_true, if_false, Int.reduceToNat, Nat.reduceAdd, s_causes0, s_because, s_records, s_of, s_requests, mK_ne, hs, e0, tFaN, Int.reduceEq, Int.reduceLT, Int.reduceLE, Int.reduceNeg] at c4 ⊢
theorem s_faults_M {e p r : Int} (hb : gBk μ b) (hI : gIX μ) (he : 0 ≤ e ∧ e < μ 167 12) (hR : 0 ≤ T 1927 ∧ T 1927 ≤ 8) (hW : T 1881 = 8) (hs : μ 175 e = 1) : gE 298 0 [gO 10 167, gI e, gI p, gI r, gX, gX] [] (mK μ b T) Q = Q (-4) (mK μ b (tOpF e 8 (tFaM T e (xSign μ e) p r (μ 167 36) (μ 167 37)))) := by
  have hd8 := hI.2.1
  have c1 : 0 ≤ tS T 1918 0 1918 ∧ tS T 1918 0 1918 ≤ 3 := by rw [tS_same]; omega
  have c2 : 0 ≤ tBec (tS T 1918 0) 11 e 1918 ∧ tBec (tS T 1918 0) 11 e 1918 ≤ 3 := by rw [tBec_1918, tS_same]; omega
  have c2' : 0 ≤ tBec (tBec (tS T 1918 0) 11 e) 10 e 1918 ∧ tBec (tBec (tS T 1918 0) 11 e) 10 e 1918 ≤ 3 := by rw [tBec_1918, tBec_1918, tS_same]; omega
  have c3 : 0 ≤ tBec (tBec (tBec (tS T 1918 0) 11 e) 10 e) (μ 167 36) (μ 167 37) 1927 ∧ tBec (tBec (tBec (tS T 1918 0) 11 e) 10 e) (μ 167 36) (μ 167 37) 1927 ≤ 8 := by
    rw [tBec_lo (by omega) c2', tBec_lo (by omega) c2, tBec_lo (by omega) c1, tS_ne (by omega)]; exact hR
  have c5 : tFaM T e (xSign μ e) p r (μ 167 36) (μ 167 37) 1881 = 8 := by
    unfold tFaM tRcd
    rw [tS_ne (by omega), tS_ne (by omega), tS_ne (by omega), tS_ne (by omega), tS_ne (by omega), tShR_lo (by omega), tBec_lo (by omega) c2', tBec_lo (by omega) c2, tBec_lo (by omega) c1, tS_ne (by omega)]
    exact hW
  have c4 : 0 ≤ tFaM T e (xSign μ e) p r (μ 167 36) (μ 167 37) 1881 ∧ tFaM T e (xSign μ e) p r (μ 167 36) (μ 167 37) 1881 ≤ 8 := by omega
  have e0 : (8 : Int) ≤ tS T 1918 0 1881 := by rw [tS_ne (by omega)]; omega
  have e1 : tRcd (tBec (tBec (tBec (tS T 1918 0) 11 e) 10 e) (μ 167 36) (μ 167 37)) (xSign μ e) p r (μ 167 36) = tFaM T e (xSign μ e) p r (μ 167 36) (μ 167 37) := rfl
  simp (disch := first | assumption | omega) only [e298_0, e298_1, e298_4, e298_5, e298_8, e298_9, e298_10, e298_11, e298_14, e298_15, e298_18, e298_21, e298_23, e298_26, e298_27, e298_30, e298_31, e298_33, e298_34, e298_37, e298_38, e298_39, e298_40, e298_43, e298_45, e298_48, e298_49, e298_52, e298_53, e298_55, e298_57, e298_60, e298_61, e298_63, e298_64, e298_67, e298_68, e298_70, e298_71, e298_74, e298_75, e298_76, e298_79, e298_80, e298_83, e298_86, e298_87, e298_88, e298_89, e298_90, e298_91, e298_94, e298_97, e298_99, e298_102, e298_103, e298_104, e298_105, e298_106, e298_109, e298_111, e298_114, e298_115, e298_116, e298_119, e298_121, e298_124, e298_126, e298_129, e298_131, e298_134, e298_136, e298_139, e298_141, gK0_eq, gK1_eq, gK3_eq, w32_id, bI_eq0, bI_eq1, Bool.false_eq_true, not_true_eq_false, not_false_eq_true, ne_eq, ite_not, ↓reduceIte, if_true, if_false, Int.reduceToNat, Nat.reduceAdd, s_causes0, s_because, s_records, s_of, s_openFails, mK_ne, hs, e0, e1, c5, Int.reduceEq, Int.reduceLT, Int.reduceLE, Int.reduceNeg]
theorem s_looks {d p r : Int} (hb : gBk μ b) (hd : 0 ≤ d ∧ d < 4) (hp : 0 ≤ p ∧ p < 64) (hC : 0 ≤ T 1813 ∧ T 1813 ≤ μ 178 0) (hR : 1 ≤ μ 178 0 ∧ μ 178 0 ≤ 16) : ∃ w a : Int, (∀ Q : Int → gM → Prop, gE 291 0 [gO 10 167, gI d, gI p, gI r, gX, gX, gX] [] (mK μ b T) Q = Q (tLkF T d p r) (mK (mW μ w a) b (tLkT T (μ 178 0) d p r))) ∧ (tHit T d p r = false → tWok T d p r = false → w = (if tMp T d p = true then 8 else 7) ∧ a = (if tMp T d p = true then p else tLvl T d p)) := by
  have hC0 : 0 ≤ T 1813 ∧ T 1813 ≤ 16 := by omega
  cases hh : tHit T d p r with
  | true => exact ⟨_, _, fun Q => by rw [mW_id]; exact s_looks_hit hb hd hp hC0 hh, fun q => Bool.noConfusion q⟩
  | false =>
    cases hw : tWok T d p r with
    | true => exact ⟨_, _, fun Q => by rw [mW_id]; exact s_looks_walk hb hd hp hC hR hh hw, fun _ q => Bool.noConfusion q⟩
    | false =>
      refine ⟨_, _, fun Q => ?_, fun _ _ => ⟨rfl, rfl⟩⟩
      have e1 : tLkF T d p r = -1 := by simp [tLkF, hh, hw]
      have e2 : tLkT T (μ 178 0) d p r = tMor T 1879 := by simp [tLkT, hh, hw]
      rw [e1, e2]
      exact s_looks_fault hb hd hp hC0 hh hw
theorem s_use_bad {e p r : Int} (h : ¬ (0 ≤ e ∧ e < μ 167 12 ∧ 0 ≤ p ∧ p < 64 ∧ 1 ≤ r ∧ r ≤ 2)) : gE 299 0 [gO 10 167, gI e, gI p, gI r, gX, gX] [] (mK μ b T) Q = Q (-1) (mK (gS μ 167 2 0) b T) := by
  have e1 : gS μ 167 2 0 167 12 = μ 167 12 := gS_neI (by omega)
  by_cases h1 : 0 ≤ e ∧ e < μ 167 12
  · by_cases h2 : 0 ≤ p ∧ p < 64
    · have h3 : ¬ (1 ≤ r ∧ r ≤ 2) := fun q => h ⟨h1.1, h1.2, h2.1, h2.2, q.1, q.2⟩
      simp (disch := first | assumption | omega) only [e299_0, e299_1, e299_2, e299_5, e299_6, e299_7, e299_10, e299_13, e299_14, e299_17, e299_20, e299_21, e299_22, e299_23, e299_26, e299_29, e299_30, e299_31, e299_32, e299_33, e299_36, e299_38, e299_40, e299_43, e299_44, e299_47, e299_48, e299_50, e299_51, e299_54, e299_55, e299_57, e299_58, e299_61, e299_62, e299_63, e299_66, e299_67, e299_68, e299_69, e299_70, e299_72, e299_75, e299_77, e299_78, e299_79, e299_81, e299_82, e299_83, e299_86, e299_88, e299_90, e299_93, e299_95, e299_98, e299_99, e299_100, e299_101, e299_102, e299_105, gK0_eq, gK1_eq, gK3_eq, w32_id, bI_eq0, bI_eq1, Bool.false_eq_true, not_true_eq_false, not_false_eq_true, ne_eq, ite_not, ↓reduceIte, if_true, if_false, Int.reduceToNat, Nat.reduceAdd, gS_mK, s_isDevice, s_isPage, s_isIn, e1, h1, h2, h3, and_self]
    · simp (disch := first | assumption | omega) only [e299_0, e299_1, e299_2, e299_5, e299_6, e299_7, e299_10, e299_13, e299_14, e299_17, e299_20, e299_21, e299_22, e299_23, e299_26, e299_29, e299_30, e299_31, e299_32, e299_33, e299_36, e299_38, e299_40, e299_43, e299_44, e299_47, e299_48, e299_50, e299_51, e299_54, e299_55, e299_57, e299_58, e299_61, e299_62, e299_63, e299_66, e299_67, e299_68, e299_69, e299_70, e299_72, e299_75, e299_77, e299_78, e299_79, e299_81, e299_82, e299_83, e299_86, e299_88, e299_90, e299_93, e299_95, e299_98, e299_99, e299_100, e299_101, e299_102, e299_105, gK0_eq, gK1_eq, gK3_eq, w32_id, bI_eq0, bI_eq1, Bool.false_eq_true, not_true_eq_false, not_false_eq_true, ne_eq, ite_not, ↓reduceIte, if_true, if_false, Int.reduceToNat, Nat.reduceAdd, gS_mK, s_isDevice, s_isPage, s_isIn, e1, h1, h2, and_self]
  · simp (disch := first | assumption | omega) only [e299_0, e299_1, e299_2, e299_5, e299_6, e299_7, e299_10, e299_13, e299_14, e299_17, e299_20, e299_21, e299_22, e299_23, e299_26, e299_29, e299_30, e299_31, e299_32, e299_33, e299_36, e299_38, e299_40, e299_43, e299_44, e299_47, e299_48, e299_50, e299_51, e299_54, e299_55, e299_57, e299_58, e299_61, e299_62, e299_63, e299_66, e299_67, e299_68, e299_69, e299_70, e299_72, e299_75, e299_77, e299_78, e299_79, e299_81, e299_82, e299_83, e299_86, e299_88, e299_90, e299_93, e299_95, e299_98, e299_99, e299_100, e299_101, e299_102, e299_105, gK0_eq, gK1_eq, gK3_eq, w32_id, bI_eq0, bI_eq1, Bool.false_eq_true, not_true_eq_false, not_false_eq_true, ne_eq, ite_not, ↓reduceIte, if_true, if_false, Int.reduceToNat, Nat.reduceAdd, gS_mK, s_isDevice, s_isPage, s_isIn, e1, h1, and_self]
theorem xSign_congr {X X' : gM} {d : Int} (h1 : ∀ i, X' 171 i = X 171 i) (h2 : ∀ i, X' 172 i = X 172 i) (h3 : ∀ i, X' 174 i = X 174 i) : xSign X' d = xSign X d := by
  have key : ∀ (n : Nat) (b s : Int), xSg X' n b s = xSg X n b s := by
    intro n
    induction n with
    | zero => intro b s; rfl
    | succ n ih =>
      intro b s
      simp only [xSg, h1, h2, ih]
  unfold xSign
  rw [h3, key]
theorem s_use_nodom {e p r : Int} (hb : gBk μ b) (hI : gIX μ) (h : 0 ≤ e ∧ e < μ 167 12) (hp : 0 ≤ p ∧ p < 64) (hr : 1 ≤ r ∧ r ≤ 2) (hR : 0 ≤ T 1927 ∧ T 1927 ≤ 8) (hd : T (1673 + μ 179 e) < 0) : gE 299 0 [gO 10 167, gI e, gI p, gI r, gX, gX] [] (mK μ b T) Q = Q (-2) (mK (gS μ 167 2 0) b (tFaN T e (xSign μ e) p r 9 (μ 179 e))) := by
  have hd8 := hI.2.1
  have e1 : gS μ 167 2 0 167 12 = μ 167 12 := gS_neI (by omega)
  have e2 : gS μ 167 2 0 179 e = μ 179 e := gS_neK (by omega)
  have hb' : gBk (gS μ 167 2 0) b := gBk_gS hb (by decide)
  have hI' := gIX_thr (v := 0) hI
  have h' : 0 ≤ e ∧ e < gS μ 167 2 0 167 12 := by rw [e1]; exact h
  have hs : xSign (gS μ 167 2 0) e = xSign μ e := xSign_congr (fun i => gS_neK (by omega)) (fun i => gS_neK (by omega)) (fun i => gS_neK (by omega))
  have c1 : 0 ≤ tS T 1918 0 1918 ∧ tS T 1918 0 1918 ≤ 3 := by rw [tS_same]; omega
  have c2 : 0 ≤ tBec (tS T 1918 0) 10 e 1918 ∧ tBec (tS T 1918 0) 10 e 1918 ≤ 3 := by rw [tBec_1918, tS_same]; omega
  have c3 : 0 ≤ tBec (tBec (tS T 1918 0) 10 e) 9 (μ 179 e) 1927 ∧ tBec (tBec (tS T 1918 0) 10 e) 9 (μ 179 e) 1927 ≤ 8 := by
    rw [tBec_lo (by omega) c2, tBec_lo (by omega) c1, tS_ne (by omega)]; exact hR
  have hd' : ¬ 0 ≤ T (1673 + μ 179 e) := by omega
  simp (disch := first | assumption | omega) only [e299_0, e299_1, e299_2, e299_5, e299_6, e299_7, e299_10, e299_13, e299_14, e299_17, e299_20, e299_21, e299_22, e299_23, e299_26, e299_29, e299_30, e299_31, e299_32, e299_33, e299_36, e299_38, e299_40, e299_43, e299_44, e299_47, e299_48, e299_50, e299_51, e299_54, e299_55, e299_57, e299_58, e299_61, e299_62, e299_63, e299_66, e299_67, e299_68, e299_69, e299_70, e299_72, e299_75, e299_77, e299_78, e299_79, e299_81, e299_82, e299_83, e299_86, e299_88, e299_90, e299_93, e299_95, e299_98, e299_99, e299_100, e299_101, e299_102, e299_105, gK0_eq, gK1_eq, gK3_eq, w32_id, bI_eq0, bI_eq1, Bool.false_eq_true, not_true_eq_false, not_false_eq_true, ne_eq, ite_not, ↓reduceIte, if_true, if_false, Int.reduceToNat, Nat.reduceAdd, gS_mK, s_isDevice, s_isPage, s_isIn, e1, h, hp, hr, and_self, s_domainOfDevice, e2, hd', s_causes0, s_because, s_records, mK_ne, hs, tFaN]
end MODEL6
