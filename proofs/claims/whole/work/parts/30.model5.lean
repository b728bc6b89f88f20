/-! the check: looks that walk or fault; requests -/
theorem tMp_congr {T T' : Int → Int} {d p : Int} (h : T' (64 * d + p) = T (64 * d + p)) : tMp T' d p = tMp T d p := by
  unfold tMp
  rw [h]
theorem tLvl_congr {T T' : Int → Int} {d p : Int} (hd : 0 ≤ d ∧ d < 4) (hp : 0 ≤ p ∧ p < 64) (h : ∀ j, 0 ≤ j → j < 1024 → T' j = T j) : tLvl T' d p = tLvl T d p := by
  have e1 : ∀ (n : Nat) (k : Int), 0 ≤ k → k + n ≤ 64 → anyF (tMp T' d) k n = anyF (tMp T d) k n := fun n k h0 h1 => anyF_congr n k (fun i h2 h3 => tMp_congr (h _ (by omega) (by omega)))
  unfold tLvl
  rw [e1 16 _ (by omega) (by omega), e1 4 _ (by omega) (by omega), h (768 + 64 * d + p) (by omega) (by omega)]
section MODEL5
variable {μ : gM} {b : Int} {T : Int → Int} {Q : Int → gM → Prop}
theorem tHit_f {d p r : Int} (hh : tHit T d p r = false) : tEnt T d p < 0 ∨ (0 ≤ tEnt T d p ∧ iand32 (T (1814 + 4 * tEnt T d p + 3)) r = 0) := by
  unfold tHit at hh
  by_cases h : 0 ≤ tEnt T d p
  · refine Or.inr ⟨h, ?_⟩
    simpa [h] using hh
  · exact Or.inl (by omega)
theorem tLkV_lo {room d p j : Int} (h : j < 1813 ∨ 1878 ≤ j) (hC : 0 ≤ T 1813 ∧ T 1813 ≤ 16) : tLkV T room d p j = T j := by
  unfold tLkV
  split
  · rename_i h0
    exact tDrop_lo h h0 hC.2
  · split
    · exact tDrop_lo h (by omega) hC.2
    · rfl
theorem tLkV_1813 {room d p : Int} (hC : 0 ≤ T 1813 ∧ T 1813 ≤ room) (hr : 1 ≤ room ∧ room ≤ 16) : 0 ≤ tLkV T room d p 1813 ∧ tLkV T room d p 1813 < room := by
  have h := tEnt_lt (T := T) (d := d) (p := p) hC.1
  unfold tLkV
  split
  · rw [tDrop_1813]; omega
  · split
    · rw [tDrop_1813]; omega
    · omega
theorem s_looks_walk {d p r : Int} (hb : gBk μ b) (hd : 0 ≤ d ∧ d < 4) (hp : 0 ≤ p ∧ p < 64) (hC : 0 ≤ T 1813 ∧ T 1813 ≤ μ 178 0) (hR : 1 ≤ μ 178 0 ∧ μ 178 0 ≤ 16) (hh : tHit T d p r = false) (hw : tWok T d p r = true) : gE 291 0 [gO 10 167, gI d, gI p, gI r, gX, gX, gX] [] (mK μ b T) Q = Q (tLkF T d p r) (mK μ b (tLkT T (μ 178 0) d p r)) := by
  have hw' := hw
  unfold tWok at hw'
  rw [Bool.and_eq_true, decide_eq_true_eq] at hw'
  obtain ⟨w1, w2⟩ := hw'
  have hC0 : 0 ≤ T 1813 ∧ T 1813 ≤ 16 := by omega
  have hC1 : 0 ≤ tMor T 1879 1813 ∧ tMor T 1879 1813 ≤ μ 178 0 := by rw [tMor_ne (by omega)]; exact hC
  have hC2 : tMor T 1879 1813 ≤ 16 := by omega
  have e5 : tEnt (tMor T 1879) d p = tEnt T d p := tMor_ent (by omega) hC0
  have hV := tLkV_1813 (T := tMor T 1879) (d := d) (p := p) hC1 hR
  have hV2 : 0 ≤ tLkV (tMor T 1879) (μ 178 0) d p 1813 ∧ tLkV (tMor T 1879) (μ 178 0) d p 1813 < 16 := by omega
  have em : tMp (tMor T 1879) d p = true := by rw [tMp_congr (tMor_ne (by omega))]; exact w1
  have f1 : tLkV (tMor T 1879) (μ 178 0) d p (64 * d + p) = T (64 * d + p) := by rw [tLkV_lo (by omega) (by omega), tMor_ne (by omega)]
  have f2 : tLkV (tMor T 1879) (μ 178 0) d p (256 + 64 * d + p) = T (256 + 64 * d + p) := by rw [tLkV_lo (by omega) (by omega), tMor_ne (by omega)]
  have f3 : ∀ f q, tCch (tLkV (tMor T 1879) (μ 178 0) d p) d p f q (64 * d + p) = T (64 * d + p) := fun f q => by rw [tCch_lo (by omega) hV2, f1]
  have hnf : ¬ tHit T d p r = true := by rw [hh]; exact fun q => Bool.noConfusion q
  unfold tLkF tLkT
  rw [if_neg hnf, if_neg hnf, if_pos hw, if_pos hw]
  rcases tHit_f hh with h1 | ⟨h1, h2⟩
  · by_cases hr : T 1813 = μ 178 0
    · have eV : tLkV (tMor T 1879) (μ 178 0) d p = tDrop (tMor T 1879) 0 := by
        unfold tLkV
        rw [e5, if_neg (by omega), if_pos (by rw [tMor_ne (by omega)]; exact hr)]
      have hk0 : (0 : Int) ≤ 0 ∧ 0 < tMor T 1879 1813 := by rw [tMor_ne (by omega)]; omega
      rw [eV] at f1 f2 f3 hV2 ⊢
      simp (disch := first | assumption | omega) only [e291_0, e291_1, e291_2, e291_3, e291_6, e291_8, e291_10, e291_13, e291_14, e291_17, e291_18, e291_20, e291_21, e291_22, e291_23, e291_24, e291_27, e291_28, e291_29, e291_32, e291_33, e291_36, e291_37, e291_39, e291_40, e291_41, e291_42, e291_43, e291_46, e291_48, e291_49, e291_52, e291_53, e291_55, e291_56, e291_57, e291_58, e291_59, e291_62, e291_64, e291_65, e291_67, e291_70, e291_71, e291_72, e291_73, e291_75, e291_77, e291_80, e291_81, e291_84, e291_87, e291_88, e291_89, e291_90, e291_92, e291_93, e291_96, e291_99, e291_100, e291_103, e291_106, e291_108, e291_109, e291_110, e291_113, e291_116, e291_117, e291_118, e291_119, e291_122, e291_124, e291_126, e291_129, e291_130, e291_133, e291_135, e291_136, e291_137, e291_138, e291_139, e291_140, e291_143, e291_144, e291_145, e291_148, e291_149, e291_151, e291_154, e291_156, e291_159, e291_161, e291_164, e291_165, e291_167, e291_170, e291_171, e291_174, e291_175, e291_176, e291_177, e291_180, e291_183, e291_184, e291_185, e291_187, e291_190, e291_191, e291_193, e291_196, e291_199, e291_200, e291_203, e291_206, e291_207, e291_210, e291_211, e291_212, e291_215, e291_216, e291_217, e291_220, e291_221, e291_222, e291_223, e291_224, e291_225, e291_226, e291_229, e291_230, e291_233, e291_235, e291_236, e291_237, e291_238, e291_239, e291_240, e291_243, e291_246, e291_247, e291_248, e291_249, e291_252, gK0_eq, gK1_eq, gK3_eq, w32_id, bI_eq0, bI_eq1, Bool.false_eq_true, not_true_eq_false, not_false_eq_true, ne_eq, ite_not, ↓reduceIte, if_true, if_false, Int.reduceToNat, Nat.reduceAdd, s_entryOf, s_of, s_drops, s_caches, s_moreM, s_isMapped, s_frameAt, mK_ne, tMor_ne, h1, hr, em, w2, f1, f2, f3]
    · have eV : tLkV (tMor T 1879) (μ 178 0) d p = tMor T 1879 := by
        unfold tLkV
        rw [e5, if_neg (by omega), if_neg (by rw [tMor_ne (by omega)]; exact hr)]
      rw [eV] at f1 f2 f3 hV2 ⊢
      simp (disch := first | assumption | omega) only [e291_0, e291_1, e291_2, e291_3, e291_6, e291_8, e291_10, e291_13, e291_14, e291_17, e291_18, e291_20, e291_21, e291_22, e291_23, e291_24, e291_27, e291_28, e291_29, e291_32, e291_33, e291_36, e291_37, e291_39, e291_40, e291_41, e291_42, e291_43, e291_46, e291_48, e291_49, e291_52, e291_53, e291_55, e291_56, e291_57, e291_58, e291_59, e291_62, e291_64, e291_65, e291_67, e291_70, e291_71, e291_72, e291_73, e291_75, e291_77, e291_80, e291_81, e291_84, e291_87, e291_88, e291_89, e291_90, e291_92, e291_93, e291_96, e291_99, e291_100, e291_103, e291_106, e291_108, e291_109, e291_110, e291_113, e291_116, e291_117, e291_118, e291_119, e291_122, e291_124, e291_126, e291_129, e291_130, e291_133, e291_135, e291_136, e291_137, e291_138, e291_139, e291_140, e291_143, e291_144, e291_145, e291_148, e291_149, e291_151, e291_154, e291_156, e291_159, e291_161, e291_164, e291_165, e291_167, e291_170, e291_171, e291_174, e291_175, e291_176, e291_177, e291_180, e291_183, e291_184, e291_185, e291_187, e291_190, e291_191, e291_193, e291_196, e291_199, e291_200, e291_203, e291_206, e291_207, e291_210, e291_211, e291_212, e291_215, e291_216, e291_217, e291_220, e291_221, e291_222, e291_223, e291_224, e291_225, e291_226, e291_229, e291_230, e291_233, e291_235, e291_236, e291_237, e291_238, e291_239, e291_240, e291_243, e291_246, e291_247, e291_248, e291_249, e291_252, gK0_eq, gK1_eq, gK3_eq, w32_id, bI_eq0, bI_eq1, Bool.false_eq_true, not_true_eq_false, not_false_eq_true, ne_eq, ite_not, ↓reduceIte, if_true, if_false, Int.reduceToNat, Nat.reduceAdd, s_entryOf, s_of, s_drops, s_caches, s_moreM, s_isMapped, s_frameAt, mK_ne, tMor_ne, h1, hr, em, w2, f1, f2, f3]
  · have h4 : ¬ tEnt T d p < 0 := by omega
    have hk : 0 ≤ tEnt T d p ∧ tEnt T d p < tMor T 1879 1813 := by
      rw [tMor_ne (by omega)]
      exact ⟨h1, (tEnt_lt hC.1).1⟩
    have eV : tLkV (tMor T 1879) (μ 178 0) d p = tDrop (tMor T 1879) (tEnt T d p) := by
      unfold tLkV
      rw [e5, if_pos h1]
    rw [eV] at f1 f2 f3 hV2 ⊢
    simp (disch := first | assumption | omega) only [e291_0, e291_1, e291_2, e291_3, e291_6, e291_8, e291_10, e291_13, e291_14, e291_17, e291_18, e291_20, e291_21, e291_22, e291_23, e291_24, e291_27, e291_28, e291_29, e291_32, e291_33, e291_36, e291_37, e291_39, e291_40, e291_41, e291_42, e291_43, e291_46, e291_48, e291_49, e291_52, e291_53, e291_55, e291_56, e291_57, e291_58, e291_59, e291_62, e291_64, e291_65, e291_67, e291_70, e291_71, e291_72, e291_73, e291_75, e291_77, e291_80, e291_81, e291_84, e291_87, e291_88, e291_89, e291_90, e291_92, e291_93, e291_96, e291_99, e291_100, e291_103, e291_106, e291_108, e291_109, e291_110, e291_113, e291_116, e291_117, e291_118, e291_119, e291_122, e291_124, e291_126, e291_129, e291_130, e291_133, e291_135, e291_136, e291_137, e291_138, e291_139, e291_140, e291_143, e291_144, e291_145, e291_148, e291_149, e291_151, e291_154, e291_156, e291_159, e291_161, e291_164, e291_165, e291_167, e291_170, e291_171, e291_174, e291_175, e291_176, e291_177, e291_180, e291_183, e291_184, e291_185, e291_187, e291_190, e291_191, e291_193, e291_196, e291_199, e291_200, e291_203, e291_206, e291_207, e291_210, e291_211, e291_212, e291_215, e291_216, e291_217, e291_220, e291_221, e291_222, e291_223, e291_224, e291_225, e291_226, e291_229, e291_230, e291_233, e291_235, e291_236, e291_237, e291_238, e291_239, e291_240, e291_243, e291_246, e291_247, e291_248, e291_249, e291_252, gK0_eq, gK1_eq, gK3_eq, w32_id, bI_eq0, bI_eq1, Bool.false_eq_true, not_true_eq_false, not_false_eq_true, ne_eq, ite_not, ↓reduceIte, if_true, if_false, Int.reduceToNat, Nat.reduceAdd, s_entryOf, s_of, s_drops, s_caches, s_moreM, s_isMapped, s_frameAt, mK_ne, tMor_ne, h4, h2, em, w2, f1, f2, f3]
theorem s_looks_fault {d p r : Int} (hb : gBk μ b) (hd : 0 ≤ d ∧ d < 4) (hp : 0 ≤ p ∧ p < 64) (hC : 0 ≤ T 1813 ∧ T 1813 ≤ 16) (hh : tHit T d p r = false) (hw : tWok T d p r = false) : gE 291 0 [gO 10 167, gI d, gI p, gI r, gX, gX, gX] [] (mK μ b T) Q = Q (-1) (mK (gS (gS μ 167 36 (if tMp T d p = true then 8 else 7)) 167 37 (if tMp T d p = true then p else tLvl T d p)) b (tMor T 1879)) := by
  have em : tMp (tMor T 1879) d p = tMp T d p := tMp_congr (tMor_ne (by omega))
  have el : tLvl (tMor T 1879) d p = tLvl T d p := tLvl_congr hd hp (fun j _ h => tMor_ne (by omega))
  have hw2 : tMp T d p = true → iand32 (T (256 + 64 * d + p)) r = 0 := by
    intro q
    unfold tWok at hw
    simpa [q] using hw
  have hb2 : gBk (gS μ 167 36 7) b := gBk_gS hb (by decide)
  have hb3 : gBk (gS μ 167 36 8) b := gBk_gS hb (by decide)
  rcases tHit_f hh with h1 | ⟨h1, h2⟩
  · cases hm : tMp T d p with
    | true =>
      have w2 := hw2 hm
      rw [hm] at em
      simp (disch := first | assumption | omega) only [e291_0, e291_1, e291_2, e291_3, e291_6, e291_8, e291_10, e291_13, e291_14, e291_17, e291_18, e291_20, e291_21, e291_22, e291_23, e291_24, e291_27, e291_28, e291_29, e291_32, e291_33, e291_36, e291_37, e291_39, e291_40, e291_41, e291_42, e291_43, e291_46, e291_48, e291_49, e291_52, e291_53, e291_55, e291_56, e291_57, e291_58, e291_59, e291_62, e291_64, e291_65, e291_67, e291_70, e291_71, e291_72, e291_73, e291_75, e291_77, e291_80, e291_81, e291_84, e291_87, e291_88, e291_89, e291_90, e291_92, e291_93, e291_96, e291_99, e291_100, e291_103, e291_106, e291_108, e291_109, e291_110, e291_113, e291_116, e291_117, e291_118, e291_119, e291_122, e291_124, e291_126, e291_129, e291_130, e291_133, e291_135, e291_136, e291_137, e291_138, e291_139, e291_140, e291_143, e291_144, e291_145, e291_148, e291_149, e291_151, e291_154, e291_156, e291_159, e291_161, e291_164, e291_165, e291_167, e291_170, e291_171, e291_174, e291_175, e291_176, e291_177, e291_180, e291_183, e291_184, e291_185, e291_187, e291_190, e291_191, e291_193, e291_196, e291_199, e291_200, e291_203, e291_206, e291_207, e291_210, e291_211, e291_212, e291_215, e291_216, e291_217, e291_220, e291_221, e291_222, e291_223, e291_224, e291_225, e291_226, e291_229, e291_230, e291_233, e291_235, e291_236, e291_237, e291_238, e291_239, e291_240, e291_243, e291_246, e291_247, e291_248, e291_249, e291_252, gK0_eq, gK1_eq, gK3_eq, w32_id, bI_eq0, bI_eq1, Bool.false_eq_true, not_true_eq_false, not_false_eq_true, ne_eq, ite_not, ↓reduceIte, if_true, if_false, Int.reduceToNat, Nat.reduceAdd, s_entryOf, s_of, s_moreM, s_isMapped, tMor_ne, gS_mK, h1, em, w2]
    | false =>
      rw [hm] at em
      simp (disch := first | assumption | omega) only [e291_0, e291_1, e291_2, e291_3, e291_6, e291_8, e291_10, e291_13, e291_14, e291_17, e291_18, e291_20, e291_21, e291_22, e291_23, e291_24, e291_27, e291_28, e291_29, e291_32, e291_33, e291_36, e291_37, e291_39, e291_40, e291_41, e291_42, e291_43, e291_46, e291_48, e291_49, e291_52, e291_53, e291_55, e291_56, e291_57, e291_58, e291_59, e291_62, e291_64, e291_65, e291_67, e291_70, e291_71, e291_72, e291_73, e291_75, e291_77, e291_80, e291_81, e291_84, e291_87, e291_88, e291_89, e291_90, e291_92, e291_93, e291_96, e291_99, e291_100, e291_103, e291_106, e291_108, e291_109, e291_110, e291_113, e291_116, e291_117, e291_118, e291_119, e291_122, e291_124, e291_126, e291_129, e291_130, e291_133, e291_135, e291_136, e291_137, e291_138, e291_139, e291_140, e291_143, e291_144, e291_145, e291_148, e291_149, e291_151, e291_154, e291_156, e291_159, e291_161, e291_164, e291_165, e291_167, e291_170, e291_171, e291_174, e291_175, e291_176, e291_177, e291_180, e291_183, e291_184, e291_185, e291_187, e291_190, e291_191, e291_193, e291_196, e291_199, e291_200, e291_203, e291_206, e291_207, e291_210, e291_211, e291_212, e291_215, e291_216, e291_217, e291_220, e291_221, e291_222, e291_223, e291_224, e291_225, e291_226, e291_229, e291_230, e291_233, e291_235, e291_236, e291_237, e291_238, e291_239, e291_240, e291_243, e291_246, e291_247, e291_248, e291_249, e291_252, gK0_eq, gK1_eq, gK3_eq, w32_id, bI_eq0, bI_eq1, Bool.false_eq_true, not_true_eq_false, not_false_eq_true, ne_eq, ite_not, ↓reduceIte, if_true, if_false, Int.reduceToNat, Nat.reduceAdd, s_entryOf, s_of, s_moreM, s_isMapped, s_levelOf, tMor_ne, gS_mK, h1, em, el]
  · have h4 : ¬ tEnt T d p < 0 := by omega
    have h3 := (tEnt_lt (d := d) (p := p) hC.1).1
    cases hm : tMp T d p with
    | true =>
      have w2 := hw2 hm
      rw [hm] at em
      simp (disch := first | assumption | omega) only [e291_0, e291_1, e291_2, e291_3, e291_6, e291_8, e291_10, e291_13, e291_14, e291_17, e291_18, e291_20, e291_21, e291_22, e291_23, e291_24, e291_27, e291_28, e291_29, e291_32, e291_33, e291_36, e291_37, e291_39, e291_40, e291_41, e291_42, e291_43, e291_46, e291_48, e291_49, e291_52, e291_53, e291_55, e291_56, e291_57, e291_58, e291_59, e291_62, e291_64, e291_65, e291_67, e291_70, e291_71, e291_72, e291_73, e291_75, e291_77, e291_80, e291_81, e291_84, e291_87, e291_88, e291_89, e291_90, e291_92, e291_93, e291_96, e291_99, e291_100, e291_103, e291_106, e291_108, e291_109, e291_110, e291_113, e291_116, e291_117, e291_118, e291_119, e291_122, e291_124, e291_126, e291_129, e291_130, e291_133, e291_135, e291_136, e291_137, e291_138, e291_139, e291_140, e291_143, e291_144, e291_145, e291_148, e291_149, e291_151, e291_154, e291_156, e291_159, e291_161, e291_164, e291_165, e291_167, e291_170, e291_171, e291_174, e291_175, e291_176, e291_177, e291_180, e291_183, e291_184, e291_185, e291_187, e291_190, e291_191, e291_193, e291_196, e291_199, e291_200, e291_203, e291_206, e291_207, e291_210, e291_211, e291_212, e291_215, e291_216, e291_217, e291_220, e291_221, e291_222, e291_223, e291_224, e291_225, e291_226, e291_229, e291_230, e291_233, e291_235, e291_236, e291_237, e291_238, e291_239, e291_240, e291_243, e291_246, e291_247, e291_248, e291_249, e291_252, gK0_eq, gK1_eq, gK3_eq, w32_id, bI_eq0, bI_eq1, Bool.false_eq_true, not_true_eq_false, not_false_eq_true, ne_eq, ite_not, ↓reduceIte, if_true, if_false, Int.reduceToNat, Nat.reduceAdd, s_entryOf, s_of, s_moreM, s_isMapped, tMor_ne, gS_mK, h4, h2, em, w2]
    | false =>
      rw [hm] at em
      simp (disch := first | assumption | omega) only [e291_0, e291_1, e291_2, e291_3, e291_6, e291_8, e291_10, e291_13, e291_14, e291_17, e291_18, e291_20, e291_21, e291_22, e291_23, e291_24, e291_27, e291_28, e291_29, e291_32, e291_33, e291_36, e291_37, e291_39, e291_40, e291_41, e291_42, e291_43, e291_46, e291_48, e291_49, e291_52, e291_53, e291_55, e291_56, e291_57, e291_58, e291_59, e291_62, e291_64, e291_65, e291_67, e291_70, e291_71, e291_72, e291_73, e291_75, e291_77, e291_80, e291_81, e291_84, e291_87, e291_88, e291_89, e291_90, e291_92, e291_93, e291_96, e291_99, e291_100, e291_103, e291_106, e291_108, e291_109, e291_110, e291_113, e291_116, e291_117, e291_118, e291_119, e291_122, e291_124, e291_126, e291_129, e291_130, e291_133, e291_135, e291_136, e291_137, e291_138, e291_139, e291_140, e291_143, e291_144, e291_145, e291_148, e291_149, e291_151, e291_154, e291_156, e291_159, e291_161, e291_164, e291_165, e291_167, e291_170, e291_171, e291_174, e291_175, e291_176, e291_177, e291_180, e291_183, e291_184, e291_185, e291_187, e291_190, e291_191, e291_193, e291_196, e291_199, e291_200, e291_203, e291_206, e291_207, e291_210, e291_211, e291_212, e291_215, e291_216, e291_217, e291_220, e291_221, e291_222, e291_223, e291_224, e291_225, e291_226, e291_229, e291_230, e291_233, e291_235, e291_236, e291_237, e291_238, e291_239, e291_240, e291_243, e291_246, e291_247, e291_248, e291_249, e291_252, gK0_eq, gK1_eq, gK3_eq, w32_id, bI_eq0, bI_eq1, Bool.false_eq_true, not_true_eq_false, not_false_eq_true, ne_eq, ite_not, ↓reduceIte, if_true, if_false, Int.reduceToNat, Nat.reduceAdd, s_entryOf, s_of, s_moreM, s_isMapped, s_levelOf, tMor_ne, gS_mK, h4, h2, em, el]
theorem s_waitingOf_loop {e bt : Int} (hb : gBk μ b) (he : 0 ≤ e) (hbt : 0 ≤ bt) (hW : 0 ≤ T 1881 ∧ T 1881 ≤ 8) : ∀ (m : Nat) (k n : Int) (l5 : gv), 0 ≤ k → k + m = T 1881 → 0 ≤ n → n ≤ k →
    gE 294 5 [gO 10 167, gI e, gI bt, gI n, gI k, l5] [] (mK μ b T) Q = Q (n + cntF (fun k => decide (T (1882 + 4 * k) = e) && decide (T (1882 + 4 * k + 3) = bt)) k m) (mK μ b T) := by
  intro m
  induction m with
  | zero =>
    intro k n l5 h0 h1 h2 h3
    have h : T 1881 ≤ k := by omega
    rw [e294_5]
    simp (disch := first | assumption | omega) only [e294_0, e294_1, e294_2, e294_3, e294_7, e294_8, e294_11, e294_14, e294_17, e294_18, e294_21, e294_22, e294_25, e294_26, e294_28, e294_29, e294_30, e294_33, e294_34, e294_37, e294_38, e294_41, e294_42, e294_44, e294_45, e294_47, e294_50, e294_51, e294_54, e294_55, e294_58, e294_59, e294_61, e294_62, e294_63, e294_64, e294_65, e294_68, e294_69, e294_72, e294_73, e294_76, e294_77, e294_78, e294_79, e294_82, e294_85, e294_86, gK0_eq, gK1_eq, gK3_eq, w32_id, bI_eq0, bI_eq1, Bool.false_eq_true, not_true_eq_false, not_false_eq_true, ne_eq, ite_not, ↓reduceIte, if_true, if_false, Int.reduceToNat, Nat.reduceAdd, s_of, h, cntF, Int.add_zero]
  | succ m ih =>
    intro k n l5 h0 h1 h2 h3
    have h : ¬ T 1881 ≤ k := by omega
    have he' : ¬ e < 0 := by omega
    have hbt' : ¬ bt < 0 := by omega
    rw [e294_5]
    by_cases h5 : T (1882 + 4 * k) = e
    · by_cases h6 : T (1882 + 4 * k + 3) = bt
      · simp (disch := first | assumption | omega) only [e294_0, e294_1, e294_2, e294_3, e294_7, e294_8, e294_11, e294_14, e294_17, e294_18, e294_21, e294_22, e294_25, e294_26, e294_28, e294_29, e294_30, e294_33, e294_34, e294_37, e294_38, e294_41, e294_42, e294_44, e294_45, e294_47, e294_50, e294_51, e294_54, e294_55, e294_58, e294_59, e294_61, e294_62, e294_63, e294_64, e294_65, e294_68, e294_69, e294_72, e294_73, e294_76, e294_77, e294_78, e294_79, e294_82, e294_85, e294_86, gK0_eq, gK1_eq, gK3_eq, w32_id, bI_eq0, bI_eq1, Bool.false_eq_true, not_true_eq_false, not_false_eq_true, ne_eq, ite_not, ↓reduceIte, if_true, if_false, Int.reduceToNat, Nat.reduceAdd, s_of, h, he', hbt', h5, h6]
        rw [ih (k + 1) (n + 1) _ (by omega) (by omega) (by omega) (by omega), cntF_t, Int.add_assoc]
        all_goals simp [h5, h6]
      · simp (disch := first | assumption | omega) only [e294_0, e294_1, e294_2, e294_3, e294_7, e294_8, e294_11, e294_14, e294_17, e294_18, e294_21, e294_22, e294_25, e294_26, e294_28, e294_29, e294_30, e294_33, e294_34, e294_37, e294_38, e294_41, e294_42, e294_44, e294_45, e294_47, e294_50, e294_51, e294_54, e294_55, e294_58, e294_59, e294_61, e294_62, e294_63, e294_64, e294_65, e294_68, e294_69, e294_72, e294_73, e294_76, e294_77, e294_78, e294_79, e294_82, e294_85, e294_86, gK0_eq, gK1_eq, gK3_eq, w32_id, bI_eq0, bI_eq1, Bool.false_eq_true, not_true_eq_false, not_false_eq_true, ne_eq, ite_not, ↓reduceIte, if_true, if_false, Int.reduceToNat, Nat.reduceAdd, s_of, h, he', hbt', h5, h6, Int.add_zero]
        rw [ih (k + 1) n _ (by omega) (by omega) (by omega) (by omega), cntF_f]
        all_goals simp [h6]
    · simp (disch := first | assumption | omega) only [e294_0, e294_1, e294_2, e294_3, e294_7, e294_8, e294_11, e294_14, e294_17, e294_18, e294_21, e294_22, e294_25, e294_26, e294_28, e294_29, e294_30, e294_33, e294_34, e294_37, e294_38, e294_41, e294_42, e294_44, e294_45, e294_47, e294_50, e294_51, e294_54, e294_55, e294_58, e294_59, e294_61, e294_62, e294_63, e294_64, e294_65, e294_68, e294_69, e294_72, e294_73, e294_76, e294_77, e294_78, e294_79, e294_82, e294_85, e294_86, gK0_eq, gK1_eq, gK3_eq, w32_id, bI_eq0, bI_eq1, Bool.false_eq_true, not_true_eq_false, not_false_eq_true, ne_eq, ite_not, ↓reduceIte, if_true, if_false, Int.reduceToNat, Nat.reduceAdd, s_of, h, he', hbt', h5, Int.add_zero]
      rw [ih (k + 1) n _ (by omega) (by omega) (by omega) (by omega), cntF_f]
      all_goals simp [h5]
theorem s_waitingOf {e bt : Int} (hb : gBk μ b) (he : 0 ≤ e) (hbt : 0 ≤ bt) (hW : 0 ≤ T 1881 ∧ T 1881 ≤ 8) : gE 294 0 [gO 10 167, gI e, gI bt, gX, gX, gX] [] (mK μ b T) Q = Q (tWai T e bt) (mK μ b T) := by
  simp (disch := first | assumption | omega) only [e294_0, e294_1, e294_2, e294_3, e294_7, e294_8, e294_11, e294_14, e294_17, e294_18, e294_21, e294_22, e294_25, e294_26, e294_28, e294_29, e294_30, e294_33, e294_34, e294_37, e294_38, e294_41, e294_42, e294_44, e294_45, e294_47, e294_50, e294_51, e294_54, e294_55, e294_58, e294_59, e294_61, e294_62, e294_63, e294_64, e294_65, e294_68, e294_69, e294_72, e294_73, e294_76, e294_77, e294_78, e294_79, e294_82, e294_85, e294_86, gK0_eq, gK1_eq, gK3_eq, w32_id, bI_eq0, bI_eq1, Bool.false_eq_true, not_true_eq_false, not_false_eq_true, ne_eq, ite_not, ↓reduceIte, if_true, if_false, Int.reduceToNat, Nat.reduceAdd]
  rw [s_waitingOf_loop hb he hbt hW (T 1881).toNat 0 0 gX (by omega) (by omega) (by omega) (by omega), Int.zero_add]
  rfl
theorem s_reqGoes_loop {k : Int} (hb : gBk μ b) {e : Int} (he : 0 ≤ e ∧ e ≤ 28) : ∀ (m : Nat) (i : Int) (T : Int → Int), 0 ≤ i → (i + m = e ∨ (m = 0 ∧ e ≤ i ∧ i < 100)) → 4 * T 1881 - 4 = e →
    gE 295 4 [gO 10 167, gI k, gI i] [] (mK μ b T) Q = gE 295 45 [gO 10 167, gI k, gI (i + m)] [] (mK μ b (tShL T (1882 + i) (1882 + e))) Q := by
  intro m
  induction m with
  | zero =>
    intro i T h0 h1 h2
    have h : 4 * T 1881 - 4 ≤ i := by omega
    rw [e295_4, tShL_id (by omega)]
    simp (disch := first | assumption | omega) only [e295_0, e295_1, e295_2, e295_3, e295_5, e295_6, e295_7, e295_10, e295_13, e295_14, e295_15, e295_16, e295_19, e295_20, e295_23, e295_24, e295_25, e295_26, e295_29, e295_30, e295_31, e295_32, e295_33, e295_36, e295_39, e295_42, e295_46, e295_49, e295_50, e295_53, e295_56, e295_57, e295_58, e295_61, gK0_eq, gK1_eq, gK3_eq, w32_id, bI_eq0, bI_eq1, Bool.false_eq_true, not_true_eq_false, not_false_eq_true, ne_eq, ite_not, ↓reduceIte, if_true, if_false, Int.reduceToNat, Nat.reduceAdd, s_of, h, Int.natCast_zero, Int.add_zero]
  | succ m ih =>
    intro i T h0 h1 h2
    have h : ¬ 4 * T 1881 - 4 ≤ i := by omega
    rw [e295_4]
    have hx : (tS T (1882 + i) (T (1882 + i + 4))) 1881 = T 1881 := tS_ne (by omega)
    simp (disch := first | assumption | omega) only [e295_0, e295_1, e295_2, e295_3, e295_5, e295_6, e295_7, e295_10, e295_13, e295_14, e295_15, e295_16, e295_19, e295_20, e295_23, e295_24, e295_25, e295_26, e295_29, e295_30, e295_31, e295_32, e295_33, e295_36, e295_39, e295_42, e295_46, e295_49, e295_50, e295_53, e295_56, e295_57, e295_58, e295_61, gK0_eq, gK1_eq, gK3_eq, w32_id, bI_eq0, bI_eq1, Bool.false_eq_true, not_true_eq_false, not_false_eq_true, ne_eq, ite_not, ↓reduceIte, if_true, if_false, Int.reduceToNat, Nat.reduceAdd, s_of, s_lay, h]
    rw [ih (i + 1) _ (by omega) (by omega) (by rw [hx]; exact h2)]
    have := tShL_step (T := T) (a := 1882 + i) (e := 1882 + e) (by omega)
    rw [show 1882 + (i + 1) = 1882 + i + 1 by omega, this, show i + 1 + (m : Int) = i + ((m + 1 : Nat) : Int) by omega]
theorem s_requestGoes {k : Int} (hb : gBk μ b) (hW : T 1881 ≤ 8) (hk : 0 ≤ k ∧ k < T 1881) : gE 295 0 [gO 10 167, gI k, gX] [] (mK μ b T) Q = Q 0 (mK μ b (tReqG T k)) := by
  simp (disch := first | assumption | omega) only [e295_0, e295_1, e295_2, e295_3, e295_5, e295_6, e295_7, e295_10, e295_13, e295_14, e295_15, e295_16, e295_19, e295_20, e295_23, e295_24, e295_25, e295_26, e295_29, e295_30, e295_31, e295_32, e295_33, e295_36, e295_39, e295_42, e295_45, e295_46, e295_49, e295_50, e295_53, e295_56, e295_57, e295_58, e295_61, gK0_eq, gK1_eq, gK3_eq, w32_id, bI_eq0, bI_eq1, Bool.false_eq_true, not_true_eq_false, not_false_eq_true, ne_eq, ite_not, ↓reduceIte, if_true, if_false, Int.reduceToNat, Nat.reduceAdd]
  rw [s_reqGoes_loop (k := k) (e := 4 * T 1881 - 4) hb (by omega) (4 * T 1881 - 4 - 4 * k).toNat (4 * k) T (by omega) (by omega) rfl]
  have e1 : tShL T (1882 + 4 * k) (1882 + (4 * T 1881 - 4)) 1881 = T 1881 := tShL_lo (by omega)
  simp (disch := first | assumption | omega) only [e295_0, e295_1, e295_2, e295_3, e295_5, e295_6, e295_7, e295_10, e295_13, e295_14, e295_15, e295_16, e295_19, e295_20, e295_23, e295_24, e295_25, e295_26, e295_29, e295_30, e295_31, e295_32, e295_33, e295_36, e295_39, e295_42, e295_45, e295_46, e295_49, e295_50, e295_53, e295_56, e295_57, e295_58, e295_61, gK0_eq, gK1_eq, gK3_eq, w32_id, bI_eq0, bI_eq1, Bool.false_eq_true, not_true_eq_false, not_false_eq_true, ne_eq, ite_not, ↓reduceIte, if_true, if_false, Int.reduceToNat, Nat.reduceAdd, s_of, s_lay, e1, tReqG, Int.add_sub_assoc]
theorem tReqG_1881 {k : Int} : tReqG T k 1881 = T 1881 - 1 := tS_same
theorem s_openFails_loop {e : Int} (hb : gBk μ b) : ∀ (n : Nat) (T : Int → Int), (n : Int) ≤ T 1881 → T 1881 ≤ 8 →
    gE 296 10 [gO 10 167, gI e, gI ((n : Int) - 1)] [] (mK μ b T) Q = Q 0 (mK μ b (tOpF e n T)) := by
  intro n
  induction n with
  | zero =>
    intro T h0 h1
    have h : ((0 : Nat) : Int) - 1 < 0 := by omega
    rw [e296_10]
    simp (disch := first | assumption | omega) only [e296_0, e296_1, e296_4, e296_7, e296_8, e296_9, e296_11, e296_14, e296_15, e296_18, e296_19, e296_20, e296_21, e296_22, e296_25, e296_26, e296_29, e296_30, e296_33, e296_34, e296_35, e296_36, e296_37, e296_38, e296_39, e296_42, e296_45, e296_48, e296_49, e296_50, e296_53, e296_54, e296_57, e296_60, e296_63, e296_66, gK0_eq, gK1_eq, gK3_eq, w32_id, bI_eq0, bI_eq1, Bool.false_eq_true, not_true_eq_false, not_false_eq_true, ne_eq, ite_not, ↓reduceIte, if_true, if_false, Int.reduceToNat, Nat.reduceAdd, h, tOpF]
  | succ n ih =>
    intro T h0 h1
    have e0 : ((n + 1 : Nat) : Int) - 1 = n := by omega
    have e1 : (n : Int) + -1 = (n : Int) - 1 := by omega
    rw [e0, e296_10]
    have h : ¬ (n : Int) < 0 := by omega
    by_cases hc : T (1882 + 4 * n) = e
    · by_cases hq : T (1882 + 4 * n + 3) = 0
      · simp (disch := first | assumption | omega) only [e296_0, e296_1, e296_4, e296_7, e296_8, e296_9, e296_11, e296_14, e296_15, e296_18, e296_19, e296_20, e296_21, e296_22, e296_25, e296_26, e296_29, e296_30, e296_33, e296_34, e296_35, e296_36, e296_37, e296_38, e296_39, e296_42, e296_45, e296_48, e296_49, e296_50, e296_53, e296_54, e296_57, e296_60, e296_63, e296_66, gK0_eq, gK1_eq, gK3_eq, w32_id, bI_eq0, bI_eq1, Bool.false_eq_true, not_true_eq_false, not_false_eq_true, ne_eq, ite_not, ↓reduceIte, if_true, if_false, Int.reduceToNat, Nat.reduceAdd, h, s_of, hc, hq, s_requestGoes, s_moreM]
        rw [e1, ih _ (by rw [tMor_ne (by omega), tReqG_1881]; omega) (by rw [tMor_ne (by omega), tReqG_1881]; omega)]
        simp only [tOpF, hc, hq, and_self, if_true]
      · simp (disch := first | assumption | omega) only [e296_0, e296_1, e296_4, e296_7, e296_8, e296_9, e296_11, e296_14, e296_15, e296_18, e296_19, e296_20, e296_21, e296_22, e296_25, e296_26, e296_29, e296_30, e296_33, e296_34, e296_35, e296_36, e296_37, e296_38, e296_39, e296_42, e296_45, e296_48, e296_49, e296_50, e296_53, e296_54, e296_57, e296_60, e296_63, e296_66, gK0_eq, gK1_eq, gK3_eq, w32_id, bI_eq0, bI_eq1, Bool.false_eq_true, not_true_eq_false, not_false_eq_true, ne_eq, ite_not, ↓reduceIte, if_true, if_false, Int.reduceToNat, Nat.reduceAdd, h, s_of, hc, hq]
        rw [e1, ih _ (by omega) h1]
        simp only [tOpF, hq, and_false, if_false]
    · simp (disch := first | assumption | omega) only [e296_0, e296_1, e296_4, e296_7, e296_8, e296_9, e296_11, e296_14, e296_15, e296_18, e296_19, e296_20, e296_21, e296_22, e296_25, e296_26, e296_29, e296_30, e296_33, e296_34, e296_35, e296_36, e296_37, e296_38, e296_39, e296_42, e296_45, e296_48, e296_49, e296_50, e296_53, e296_54, e296_57, e296_60, e296_63, e296_66, gK0_eq, gK1_eq, gK3_eq, w32_id, bI_eq0, bI_eq1, Bool.false_eq_true, not_true_eq_false, not_false_eq_true, ne_eq, ite_not, ↓reduceIte, if_true, if_false, Int.reduceToNat, Nat.reduceAdd, h, s_of, hc]
      rw [e1, ih _ (by omega) h1]
      simp only [tOpF, hc, false_and, if_false]
theorem s_openFails {e : Int} (hb : gBk μ b) (hW : 0 ≤ T 1881 ∧ T 1881 ≤ 8) : gE 296 0 [gO 10 167, gI e, gX] [] (mK μ b T) Q = Q 0 (mK μ b (tOpF e (T 1881).toNat T)) := by
  simp (disch := first | assumption | omega) only [e296_0, e296_1, e296_4, e296_7, e296_8, e296_9, e296_11, e296_14, e296_15, e296_18, e296_19, e296_20, e296_21, e296_22, e296_25, e296_26, e296_29, e296_30, e296_33, e296_34, e296_35, e296_36, e296_37, e296_38, e296_39, e296_42, e296_45, e296_48, e296_49, e296_50, e296_53, e296_54, e296_57, e296_60, e296_63, e296_66, gK0_eq, gK1_eq, gK3_eq, w32_id, bI_eq0, bI_eq1, Bool.false_eq_true, not_true_eq_false, not_false_eq_true, ne_eq, ite_not, ↓reduceIte, if_true, if_false, Int.reduceToNat, Nat.reduceAdd, s_of]
  have h := s_openFails_loop (e := e) (Q := Q) hb (T 1881).toNat T (by omega) (by omega)
  rw [show ((T 1881).toNat : Int) = T 1881 by omega] at h
  exact h
theorem s_requests {e p r : Int} (hb : gBk μ b) (hW : 0 ≤ T 1881 ∧ T 1881 < 8) : gE 297 0 [gO 10 167, gI e, gI p, gI r, gX] [] (mK μ b T) Q = Q 0 (mK μ b (tReq T e p r)) := by
  have h1 : w32 (T 1881 + 1) = T 1881 + 1 := w32_id (by omega) (by omega)
  simp (disch := first | assumption | omega) only [e297_0, e297_3, e297_4, e297_5, e297_8, e297_11, e297_12, e297_13, e297_15, e297_16, e297_18, e297_19, e297_22, e297_23, e297_25, e297_26, e297_27, e297_28, e297_31, e297_32, e297_34, e297_35, e297_36, e297_37, e297_40, e297_41, e297_43, e297_44, e297_45, e297_46, e297_49, e297_50, e297_53, e297_56, e297_57, e297_60, e297_63, gK0_eq, gK1_eq, gK3_eq, w32_id, bI_eq0, bI_eq1, Bool.false_eq_true, not_true_eq_false, not_false_eq_true, ne_eq, ite_not, ↓reduceIte, if_true, if_false, Int.reduceToNat, Nat.reduceAdd, s_of, s_lay, s_more, tS_ne, h1, tReq, tMor]
theorem s_records_loop {l1 l2 l3 l4 l5 : gv} (hb : gBk μ b) : ∀ (n : Nat) (T : Int → Int), n ≤ 28 →
    gE 293 34 [gO 10 167, l1, l2, l3, l4, l5, gI ((n : Int) - 1)] [] (mK μ b T) Q = gE 293 67 [gO 10 167, l1, l2, l3, l4, l5, gI (-1)] [] (mK μ b (tShR T 1928 n)) Q := by
  intro n
  induction n with
  | zero =>
    intro T h0
    have h : ((0 : Nat) : Int) - 1 < 0 := by omega
    have e : tShR T 1928 ((0 : Nat) : Int) = T := by
      funext j
      exact if_neg (by omega)
    rw [e293_34, e]
    simp (disch := first | assumption | omega) only [e293_0, e293_1, e293_4, e293_7, e293_9, e293_12, e293_13, e293_16, e293_19, e293_22, e293_24, e293_26, e293_27, e293_29, e293_30, e293_31, e293_32, e293_36, e293_39, e293_40, e293_43, e293_45, e293_46, e293_47, e293_48, e293_49, e293_52, e293_54, e293_55, e293_58, e293_61, e293_64, e293_68, e293_71, e293_72, e293_73, e293_76, e293_79, e293_80, e293_83, e293_84, e293_87, e293_88, e293_91, e293_92, e293_95, e293_96, e293_99, e293_101, e293_104, e293_105, e293_108, e293_110, e293_111, e293_112, e293_115, gK0_eq, gK1_eq, gK3_eq, w32_id, bI_eq0, bI_eq1, Bool.false_eq_true, not_true_eq_false, not_false_eq_true, ne_eq, ite_not, ↓reduceIte, if_true, if_false, Int.reduceToNat, Nat.reduceAdd, h]
    rfl
  | succ n ih =>
    intro T h0
    have e0 : ((n + 1 : Nat) : Int) - 1 = n := by omega
    have e1 : (n : Int) + -1 = (n : Int) - 1 := by omega
    have h : ¬ (n : Int) < 0 := by omega
    rw [e0, e293_34]
    simp (disch := first | assumption | omega) only [e293_0, e293_1, e293_4, e293_7, e293_9, e293_12, e293_13, e293_16, e293_19, e293_22, e293_24, e293_26, e293_27, e293_29, e293_30, e293_31, e293_32, e293_36, e293_39, e293_40, e293_43, e293_45, e293_46, e293_47, e293_48, e293_49, e293_52, e293_54, e293_55, e293_58, e293_61, e293_64, e293_68, e293_71, e293_72, e293_73, e293_76, e293_79, e293_80, e293_83, e293_84, e293_87, e293_88, e293_91, e293_92, e293_95, e293_96, e293_99, e293_101, e293_104, e293_105, e293_108, e293_110, e293_111, e293_112, e293_115, gK0_eq, gK1_eq, gK3_eq, w32_id, bI_eq0, bI_eq1, Bool.false_eq_true, not_true_eq_false, not_false_eq_true, ne_eq, ite_not, ↓reduceIte, if_true, if_false, Int.reduceToNat, Nat.reduceAdd, h, s_of, s_lay]
    rw [e1, ih _ (by omega)]
    congr 2
    funext j
    unfold tShR
    by_cases hj : j = 1928 + n + 4
    · subst hj
      rw [if_neg (by omega), tS_same, if_pos (by omega)]
      congr 1
      omega
    · by_cases hq : 1928 + 4 ≤ j ∧ j < 1928 + 4 + n
      · rw [if_pos hq, if_pos (by omega), tS_ne (by omega)]
      · rw [if_neg hq, if_neg (by omega), tS_ne hj]
theorem tShR_lo {a m j : Int} (h : j < a + 4 ∨ a + 4 + m ≤ j) : tShR T a m j = T j := if_neg (by omega)
theorem s_records {e p r w : Int} (hb : gBk μ b) (hI : gIX μ) (he : 0 ≤ e ∧ e < μ 167 12) (hR : 0 ≤ T 1927 ∧ T 1927 ≤ 8) : gE 293 0 [gO 10 167, gI e, gI p, gI r, gI w, gX, gX] [] (mK μ b T) Q = Q 0 (mK μ b (tRcd T (xSign μ e) p r w)) := by
  unfold tRcd tRcn
  by_cases h8 : 8 ≤ T 1927
  · have h := s_records_loop (l1 := gI e) (l2 := gI p) (l3 := gI r) (l4 := gI w) (l5 := gI 7) (Q := Q) (μ := μ) (b := b) hb 28 T (by omega)
    rw [if_neg (by omega)]
    simp (disch := first | assumption | omega) only [e293_0, e293_1, e293_4, e293_7, e293_9, e293_12, e293_13, e293_16, e293_19, e293_22, e293_24, e293_26, e293_27, e293_29, e293_30, e293_31, e293_32, e293_36, e293_39, e293_40, e293_43, e293_45, e293_46, e293_47, e293_48, e293_49, e293_52, e293_54, e293_55, e293_58, e293_61, e293_64, e293_67, e293_68, e293_71, e293_72, e293_73, e293_76, e293_79, e293_80, e293_83, e293_84, e293_87, e293_88, e293_91, e293_92, e293_95, e293_96, e293_99, e293_101, e293_104, e293_105, e293_108, e293_110, e293_111, e293_112, e293_115, gK0_eq, gK1_eq, gK3_eq, w32_id, bI_eq0, bI_eq1, Bool.false_eq_true, not_true_eq_false, not_false_eq_true, ne_eq, ite_not, ↓reduceIte, if_true, if_false, Int.reduceToNat, Nat.reduceAdd, s_of, h8]
    have h' : gE 293 34 [gO 10 167, gI e, gI p, gI r, gI w, gI 7, gI (4 * 7 - 1)] [] (mK μ b T) Q = _ := h
    rw [h']
    simp (disch := first | assumption | omega) only [e293_0, e293_1, e293_4, e293_7, e293_9, e293_12, e293_13, e293_16, e293_19, e293_22, e293_24, e293_26, e293_27, e293_29, e293_30, e293_31, e293_32, e293_36, e293_39, e293_40, e293_43, e293_45, e293_46, e293_47, e293_48, e293_49, e293_52, e293_54, e293_55, e293_58, e293_61, e293_64, e293_67, e293_68, e293_71, e293_72, e293_73, e293_76, e293_79, e293_80, e293_83, e293_84, e293_87, e293_88, e293_91, e293_92, e293_95, e293_96, e293_99, e293_101, e293_104, e293_105, e293_108, e293_110, e293_111, e293_112, e293_115, gK0_eq, gK1_eq, gK3_eq, w32_id, bI_eq0, bI_eq1, Bool.false_eq_true, not_true_eq_false, not_false_eq_true, ne_eq, ite_not, ↓reduceIte, if_true, if_false, Int.reduceToNat, Nat.reduceAdd, s_lay, s_signOf]
    rfl
  · rw [if_pos (by omega)]
    simp (disch := first | assumption | omega) only [e293_0, e293_1, e293_4, e293_7, e293_9, e293_12, e293_13, e293_16, e293_19, e293_22, e293_24, e293_26, e293_27, e293_29, e293_30, e293_31, e293_32, e293_36, e293_39, e293_40, e293_43, e293_45, e293_46, e293_47, e293_48, e293_49, e293_52, e293_54, e293_55, e293_58, e293_61, e293_64, e293_67, e293_68, e293_71, e293_72, e293_73, e293_76, e293_79, e293_80, e293_83, e293_84, e293_87, e293_88, e293_91, e293_92, e293_95, e293_96, e293_99, e293_101, e293_104, e293_105, e293_108, e293_110, e293_111, e293_112, e293_115, gK0_eq, gK1_eq, gK3_eq, w32_id, bI_eq0, bI_eq1, Bool.false_eq_true, not_true_eq_false, not_false_eq_true, ne_eq, ite_not, ↓reduceIte, if_true, if_false, Int.reduceToNat, Nat.reduceAdd, s_of, h8]
    have h := s_records_loop (l1 := gI e) (l2 := gI p) (l3 := gI r) (l4 := gI w) (l5 := gI (T 1927)) (Q := Q) (μ := μ) (b := b) hb (4 * T 1927).toNat T (by omega)
    rw [show ((4 * T 1927).toNat : Int) = 4 * T 1927 by omega] at h
    rw [h]
    simp (disch := first | assumption | omega) only [e293_0, e293_1, e293_4, e293_7, e293_9, e293_12, e293_13, e293_16, e293_19, e293_22, e293_24, e293_26, e293_27, e293_29, e293_30, e293_31, e293_32, e293_36, e293_39, e293_40, e293_43, e293_45, e293_46, e293_47, e293_48, e293_49, e293_52, e293_54, e293_55, e293_58, e293_61, e293_64, e293_67, e293_68, e293_71, e293_72, e293_73, e293_76, e293_79, e293_80, e293_83, e293_84, e293_87, e293_88, e293_91, e293_92, e293_95, e293_96, e293_99, e293_101, e293_104, e293_105, e293_108, e293_110, e293_111, e293_112, e293_115, gK0_eq, gK1_eq, gK3_eq, w32_id, bI_eq0, bI_eq1, Bool.false_eq_true, not_true_eq_false, not_false_eq_true, ne_eq, ite_not, ↓reduceIte, if_true, if_false, Int.reduceToNat, Nat.reduceAdd, s_lay, s_signOf]
end MODEL5
