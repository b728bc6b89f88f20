/-! the check: detach, second half; device -/
section MODEL14
variable {μ : gM} {b : Int} {T : Int → Int} {Q : Int → gM → Prop}
theorem cMp_nop {P : Int → Bool} {d p : Int} (h : P p = true ∨ T (64 * d + p) < 0) : cMp T d (bOr P p) = cMp T d P := by
  funext i
  unfold cMp bOr
  by_cases hi : i - 64 * d = p
  · have e : i = 64 * d + p := by omega
    subst e
    rcases h with h | h
    · rw [hi, h, Bool.true_or]
    · rw [decide_eq_false (show ¬ 0 ≤ T (64 * d + p) by omega)]; simp
  · rw [decide_eq_false hi, Bool.or_false]
theorem cMp_add {P : Int → Bool} {d p : Int} (hp : 0 ≤ p ∧ p < 64) (h : 0 ≤ T (64 * d + p)) : cMp T d (bOr P p) = bOr (cMp T d P) (64 * d + p) := by
  funext i
  unfold cMp bOr
  by_cases hi : i = 64 * d + p
  · subst hi
    rw [decide_eq_true h, decide_eq_true (show 64 * d ≤ 64 * d + p ∧ 64 * d + p < 64 * d + 64 by omega), decide_eq_true (show 64 * d + p - 64 * d = p by omega)]
    simp
  · rw [decide_eq_false hi, decide_eq_false (show ¬ i - 64 * d = p by omega)]
    simp only [Bool.or_false]
theorem bOr_and_t {P S : Int → Bool} {p : Int} (h : S p = true) : (fun x => bOr P p x && S x) = bOr (fun x => P x && S x) p := by
  funext x
  unfold bOr
  by_cases c : x = p
  · subst c; rw [decide_eq_true rfl, h]; simp
  · rw [decide_eq_false c, Bool.or_false, Bool.or_false]
theorem bOr_and_f {P S : Int → Bool} {p : Int} (h : S p = false) : (fun x => bOr P p x && S x) = (fun x => P x && S x) := by
  funext x
  unfold bOr
  by_cases c : x = p
  · subst c; rw [h]; simp
  · rw [decide_eq_false c, Bool.or_false]
theorem tSpd_congr {X : gM} {T' : Int → Int} {d p : Int} (hI : gIX X) (h : ∀ j, 1664 ≤ j → T' j = T j) : tSpd X T' d p = tSpd X T d p := by
  unfold tSpd
  have hs6 := hI.2.2.2.1
  have hd8 := hI.2.1
  refine anyF_congr _ _ (fun k h0 h1 => ?_)
  have hsp := hI.2.2.2.2.2.2.2.2.1 k h0 (by omega)
  have hgr := hI.2.2.2.2.2.2.1 (X 177 (3 * k)) hsp.1 (by omega)
  rw [h _ (by omega)]
theorem s_det_p {e d k : Int} {T0 : Int → Int} (hb : gBk μ b) (hI : gIX μ) (hd : 0 ≤ d ∧ d < 4) (hk : 0 ≤ k ∧ k < μ 167 14) (hF : ∀ j, 0 ≤ j → j < 256 → -1 ≤ T0 j ∧ T0 j < 64) : ∀ (n : Nat) (p : Int) (P : Int → Bool) (T1 : Int → Int), 0 ≤ p → p + n = μ 177 (3 * k + 2) + 1 → tDe T0 (cMp T0 d (fun x => P x && !tSpd μ T0 d x)) T1 →
    ∃ (l4' : gv) (T2 : Int → Int), tDe T0 (cMp T0 d (fun x => (P x || (decide (p ≤ x) && decide (x ≤ μ 177 (3 * k + 2)))) && !tSpd μ T0 d x)) T2 ∧ ∀ Q : Int → gM → Prop, gE 308 181 [gO 10 167, gI e, gI d, gI k, gI p] [] (mK μ b T1) Q = gE 308 229 [gO 10 167, gI e, gI d, gI k, l4'] [] (mK μ b T2) Q := by
  have hsp := hI.2.2.2.2.2.2.2.2.1 k hk.1 hk.2
  have hs6 := hI.2.2.2.1
  have h3 : 0 ≤ 3 * k + 2 ∧ 3 * k + 2 < 36 := by omega
  intro n
  induction n with
  | zero =>
    intro p P T1 h0 h1 hDe
    have h : μ 177 (3 * k + 2) < p := by omega
    have eP : (fun x => (P x || (decide (p ≤ x) && decide (x ≤ μ 177 (3 * k + 2)))) && !tSpd μ T0 d x) = (fun x => P x && !tSpd μ T0 d x) := by
      funext x
      congr 1
      by_cases q : p ≤ x
      · rw [decide_eq_false (show ¬ x ≤ μ 177 (3 * k + 2) by omega), Bool.and_false, Bool.or_false]
      · rw [decide_eq_false q, Bool.false_and, Bool.or_false]
    refine ⟨gI p, T1, by rw [eP]; exact hDe, fun Q => ?_⟩
    rw [e308_181]
    simp (disch := first | assumption | omega) only [e308_0, e308_1, e308_2, e308_5, e308_6, e308_7, e308_10, e308_13, e308_14, e308_15, e308_16, e308_17, e308_20, e308_21, e308_22, e308_25, e308_26, e308_28, e308_29, e308_32, e308_33, e308_34, e308_37, e308_38, e308_39, e308_42, e308_45, e308_46, e308_48, e308_49, e308_52, e308_55, e308_58, e308_59, e308_60, e308_63, e308_66, e308_67, e308_68, e308_69, e308_70, e308_73, e308_74, e308_77, e308_78, e308_81, e308_82, e308_83, e308_84, e308_85, e308_88, e308_89, e308_90, e308_93, e308_94, e308_95, e308_98, e308_101, e308_102, e308_103, e308_106, e308_107, e308_110, e308_113, e308_116, e308_119, e308_120, e308_123, e308_124, e308_127, e308_128, e308_129, e308_130, e308_131, e308_134, e308_135, e308_136, e308_137, e308_138, e308_141, e308_144, e308_145, e308_148, e308_149, e308_152, e308_153, e308_154, e308_155, e308_156, e308_157, e308_158, e308_161, e308_162, e308_163, e308_166, e308_169, e308_170, e308_173, e308_174, e308_175, e308_176, e308_177, e308_178, e308_179, e308_183, e308_184, e308_187, e308_188, e308_189, e308_190, e308_191, e308_192, e308_193, e308_196, e308_197, e308_198, e308_200, e308_203, e308_206, e308_207, e308_208, e308_210, e308_213, e308_216, e308_217, e308_218, e308_220, e308_223, e308_226, e308_232, e308_235, e308_236, e308_237, e308_240, gK0_eq, gK1_eq, gK3_eq, w32_id, bI_eq0, bI_eq1, Bool.false_eq_true, not_true_eq_false, not_false_eq_true, ne_eq, ite_not, ↓reduceIte, if_true, if_false, Int.reduceToNat, Nat.reduceAdd, Int.reduceEq, Int.reduceLT, Int.reduceLE, Int.reduceNeg, bI_T, bI_F, ↓if_pos, ↓if_neg, h, mK_ne]
  | succ n ih =>
    intro p P T1 h0 h1 hDe
    have h : ¬ μ 177 (3 * k + 2) < p := by omega
    have hp : 0 ≤ p ∧ p < 64 := by omega
    have eP : (fun x => (bOr P p x || (decide (p + 1 ≤ x) && decide (x ≤ μ 177 (3 * k + 2)))) && !tSpd μ T0 d x) = (fun x => (P x || (decide (p ≤ x) && decide (x ≤ μ 177 (3 * k + 2)))) && !tSpd μ T0 d x) := by
      funext x
      congr 1
      unfold bOr
      by_cases q : x = p
      · subst q
        rw [decide_eq_true rfl, decide_eq_true (Int.le_refl x), decide_eq_true (show x ≤ μ 177 (3 * k + 2) by omega)]
        simp
      · rw [decide_eq_false q, Bool.or_false]
        congr 2
        exact decide_eq_decide.mpr (by omega)
    have nx : ∀ T2, tDe T0 (cMp T0 d (fun x => bOr P p x && !tSpd μ T0 d x)) T2 → (∀ Q : Int → gM → Prop, gE 308 181 [gO 10 167, gI e, gI d, gI k, gI p] [] (mK μ b T1) Q = gE 308 181 [gO 10 167, gI e, gI d, gI k, gI (p + 1)] [] (mK μ b T2) Q) → ∃ (l4' : gv) (T2 : Int → Int), tDe T0 (cMp T0 d (fun x => (P x || (decide (p ≤ x) && decide (x ≤ μ 177 (3 * k + 2)))) && !tSpd μ T0 d x)) T2 ∧ ∀ Q : Int → gM → Prop, gE 308 181 [gO 10 167, gI e, gI d, gI k, gI p] [] (mK μ b T1) Q = gE 308 229 [gO 10 167, gI e, gI d, gI k, l4'] [] (mK μ b T2) Q := by
      intro T2 hd2 hs
      obtain ⟨l4', T3, x1, x2⟩ := ih (p + 1) (bOr P p) T2 (by omega) (by omega) hd2
      rw [eP] at x1
      exact ⟨l4', T3, x1, fun Q => by rw [hs, x2]⟩
    have hv := (hDe.1 (64 * d + p) (by omega) (by omega)).1
    have hq : 64 * d + p - 64 * d = p := by omega
    have hr := hF (64 * d + p) (by omega) (by omega)
    have hs : tSpd μ T1 d p = tSpd μ T0 d p := tSpd_congr hI (fun j hj => hDe.2.2.2 j (by omega))
    cases hm : tMp T1 d p with
    | false =>
      have hor : (fun x => P x && !tSpd μ T0 d x) p = true ∨ T0 (64 * d + p) < 0 := by
        unfold tMp at hm
        have hm' := of_decide_eq_false hm
        rw [hv] at hm'
        by_cases c : cMp T0 d (fun x => P x && !tSpd μ T0 d x) (64 * d + p) = true
        · unfold cMp at c
          rw [hq] at c
          rw [Bool.and_eq_true, Bool.and_eq_true] at c
          exact Or.inl c.2.1
        · rw [if_neg c] at hm'
          exact Or.inr (by omega)
      refine nx T1 ?_ (fun Q => ?_)
      · cases hS : tSpd μ T0 d p with
        | true => rw [bOr_and_f (by rw [hS]; rfl)]; exact hDe
        | false => rw [bOr_and_t (by rw [hS]; rfl), cMp_nop hor]; exact hDe
      · rw [e308_181]
        simp (disch := first | assumption | omega) only [e308_0, e308_1, e308_2, e308_5, e308_6, e308_7, e308_10, e308_13, e308_14, e308_15, e308_16, e308_17, e308_20, e308_21, e308_22, e308_25, e308_26, e308_28, e308_29, e308_32, e308_33, e308_34, e308_37, e308_38, e308_39, e308_42, e308_45, e308_46, e308_48, e308_49, e308_52, e308_55, e308_58, e308_59, e308_60, e308_63, e308_66, e308_67, e308_68, e308_69, e308_70, e308_73, e308_74, e308_77, e308_78, e308_81, e308_82, e308_83, e308_84, e308_85, e308_88, e308_89, e308_90, e308_93, e308_94, e308_95, e308_98, e308_101, e308_102, e308_103, e308_106, e308_107, e308_110, e308_113, e308_116, e308_119, e308_120, e308_123, e308_124, e308_127, e308_128, e308_129, e308_130, e308_131, e308_134, e308_135, e308_136, e308_137, e308_138, e308_141, e308_144, e308_145, e308_148, e308_149, e308_152, e308_153, e308_154, e308_155, e308_156, e308_157, e308_158, e308_161, e308_162, e308_163, e308_166, e308_169, e308_170, e308_173, e308_174, e308_175, e308_176, e308_177, e308_178, e308_179, e308_183, e308_184, e308_187, e308_188, e308_189, e308_190, e308_191, e308_192, e308_193, e308_196, e308_197, e308_198, e308_200, e308_203, e308_206, e308_207, e308_208, e308_210, e308_213, e308_216, e308_217, e308_218, e308_220, e308_223, e308_226, e308_232, e308_235, e308_236, e308_237, e308_240, gK0_eq, gK1_eq, gK3_eq, w32_id, bI_eq0, bI_eq1, Bool.false_eq_true, not_true_eq_false, not_false_eq_true, ne_eq, ite_not, ↓reduceIte, if_true, if_false, Int.reduceToNat, Nat.reduceAdd, Int.reduceEq, Int.reduceLT, Int.reduceLE, Int.reduceNeg, bI_T, bI_F, ↓if_pos, ↓if_neg, h, mK_ne, s_isMapped, hd, hp, hm]
    | true =>
      have hlt : 0 ≤ T0 (64 * d + p) ∧ cMp T0 d (fun x => P x && !tSpd μ T0 d x) (64 * d + p) = false := by
        unfold tMp at hm
        have hm' := of_decide_eq_true hm
        rw [hv] at hm'
        by_cases c : cMp T0 d (fun x => P x && !tSpd μ T0 d x) (64 * d + p) = true
        · rw [if_pos c] at hm'
          exact absurd hm' (by decide)
        · rw [if_neg c] at hm'
          exact ⟨hm', by simpa using c⟩
      have hv2 : T1 (64 * d + p) = T0 (64 * d + p) := by rw [hv, hlt.2]; rfl
      have hff : 0 ≤ T1 (64 * d + p) ∧ T1 (64 * d + p) < 64 := by rw [hv2]; exact ⟨hlt.1, hr.2⟩
      cases hS : tSpd μ T0 d p with
      | true =>
        refine nx T1 ?_ (fun Q => ?_)
        · rw [bOr_and_f (by rw [hS]; rfl)]; exact hDe
        · rw [hS] at hs
          rw [e308_181]
          simp (disch := first | assumption | omega) only [e308_0, e308_1, e308_2, e308_5, e308_6, e308_7, e308_10, e308_13, e308_14, e308_15, e308_16, e308_17, e308_20, e308_21, e308_22, e308_25, e308_26, e308_28, e308_29, e308_32, e308_33, e308_34, e308_37, e308_38, e308_39, e308_42, e308_45, e308_46, e308_48, e308_49, e308_52, e308_55, e308_58, e308_59, e308_60, e308_63, e308_66, e308_67, e308_68, e308_69, e308_70, e308_73, e308_74, e308_77, e308_78, e308_81, e308_82, e308_83, e308_84, e308_85, e308_88, e308_89, e308_90, e308_93, e308_94, e308_95, e308_98, e308_101, e308_102, e308_103, e308_106, e308_107, e308_110, e308_113, e308_116, e308_119, e308_120, e308_123, e308_124, e308_127, e308_128, e308_129, e308_130, e308_131, e308_134, e308_135, e308_136, e308_137, e308_138, e308_141, e308_144, e308_145, e308_148, e308_149, e308_152, e308_153, e308_154, e308_155, e308_156, e308_157, e308_158, e308_161, e308_162, e308_163, e308_166, e308_169, e308_170, e308_173, e308_174, e308_175, e308_176, e308_177, e308_178, e308_179, e308_183, e308_184, e308_187, e308_188, e308_189, e308_190, e308_191, e308_192, e308_193, e308_196, e308_197, e308_198, e308_200, e308_203, e308_206, e308_207, e308_208, e308_210, e308_213, e308_216, e308_217, e308_218, e308_220, e308_223, e308_226, e308_232, e308_235, e308_236, e308_237, e308_240, gK0_eq, gK1_eq, gK3_eq, w32_id, bI_eq0, bI_eq1, Bool.false_eq_true, not_true_eq_false, not_false_eq_true, ne_eq, ite_not, ↓reduceIte, if_true, if_false, Int.reduceToNat, Nat.reduceAdd, Int.reduceEq, Int.reduceLT, Int.reduceLE, Int.reduceNeg, bI_T, bI_F, ↓if_pos, ↓if_neg, h, mK_ne, s_isMapped, hd, hp, hm, s_isSpanned, hs]
      | false =>
        refine nx (tUn T1 d p) ?_ (fun Q => ?_)
        · rw [bOr_and_t (by rw [hS]; rfl), cMp_add hp hlt.1]
          exact tDe_step rfl hd hp hDe hlt.2 ⟨hlt.1, hr.2⟩
        · rw [hS] at hs
          rw [e308_181]
          simp (disch := first | assumption | omega) only [e308_0, e308_1, e308_2, e308_5, e308_6, e308_7, e308_10, e308_13, e308_14, e308_15, e308_16, e308_17, e308_20, e308_21, e308_22, e308_25, e308_26, e308_28, e308_29, e308_32, e308_33, e308_34, e308_37, e308_38, e308_39, e308_42, e308_45, e308_46, e308_48, e308_49, e308_52, e308_55, e308_58, e308_59, e308_60, e308_63, e308_66, e308_67, e308_68, e308_69, e308_70, e308_73, e308_74, e308_77, e308_78, e308_81, e308_82, e308_83, e308_84, e308_85, e308_88, e308_89, e308_90, e308_93, e308_94, e308_95, e308_98, e308_101, e308_102, e308_103, e308_106, e308_107, e308_110, e308_113, e308_116, e308_119, e308_120, e308_123, e308_124, e308_127, e308_128, e308_129, e308_130, e308_131, e308_134, e308_135, e308_136, e308_137, e308_138, e308_141, e308_144, e308_145, e308_148, e308_149, e308_152, e308_153, e308_154, e308_155, e308_156, e308_157, e308_158, e308_161, e308_162, e308_163, e308_166, e308_169, e308_170, e308_173, e308_174, e308_175, e308_176, e308_177, e308_178, e308_179, e308_183, e308_184, e308_187, e308_188, e308_189, e308_190, e308_191, e308_192, e308_193, e308_196, e308_197, e308_198, e308_200, e308_203, e308_206, e308_207, e308_208, e308_210, e308_213, e308_216, e308_217, e308_218, e308_220, e308_223, e308_226, e308_232, e308_235, e308_236, e308_237, e308_240, gK0_eq, gK1_eq, gK3_eq, w32_id, bI_eq0, bI_eq1, Bool.false_eq_true, not_true_eq_false, not_false_eq_true, ne_eq, ite_not, ↓reduceIte, if_true, if_false, Int.reduceToNat, Nat.reduceAdd, Int.reduceEq, Int.reduceLT, Int.reduceLE, Int.reduceNeg, bI_T, bI_F, ↓if_pos, ↓if_neg, h, mK_ne, s_isMapped, hd, hp, hm, s_isSpanned, hs, s_unmaps, hff]
theorem s_det_k {e d : Int} {T0 : Int → Int} (hb : gBk μ b) (hI : gIX μ) (hd : 0 ≤ d ∧ d < 4) (he : 0 ≤ e ∧ e < 8) (hF : ∀ j, 0 ≤ j → j < 256 → -1 ≤ T0 j ∧ T0 j < 64) : ∀ (n : Nat) (k : Int) (l4 : gv) (P : Int → Bool) (T1 : Int → Int), 0 ≤ k → k + n = μ 167 14 → tDe T0 (cMp T0 d (fun x => P x && !tSpd μ T0 d x)) T1 →
    ∃ (l3' l4' : gv) (T2 : Int → Int), tDe T0 (cMp T0 d (fun x => (P x || anyF (fun k => decide (μ 179 (μ 177 (3 * k)) = μ 179 e) && (decide (μ 177 (3 * k + 1) ≤ x) && decide (x ≤ μ 177 (3 * k + 2)))) k n) && !tSpd μ T0 d x)) T2 ∧ ∀ Q : Int → gM → Prop, gE 308 136 [gO 10 167, gI e, gI d, gI k, l4] [] (mK μ b T1) Q = gE 308 235 [gO 10 167, gI e, gI d, l3', l4'] [] (mK μ b T2) Q := by
  have hs6 := hI.2.2.2.1
  have hd8 := hI.2.1
  intro n
  induction n with
  | zero =>
    intro k l4 P T1 h0 h1 hDe
    have h : μ 167 14 ≤ k := by omega
    refine ⟨gI k, l4, T1, ?_, fun Q => ?_⟩
    · simpa only [anyF, Bool.or_false] using hDe
    · rw [e308_136]
      simp (disch := first | assumption | omega) only [e308_0, e308_1, e308_2, e308_5, e308_6, e308_7, e308_10, e308_13, e308_14, e308_15, e308_16, e308_17, e308_20, e308_21, e308_22, e308_25, e308_26, e308_28, e308_29, e308_32, e308_33, e308_34, e308_37, e308_38, e308_39, e308_42, e308_45, e308_46, e308_48, e308_49, e308_52, e308_55, e308_58, e308_59, e308_60, e308_63, e308_66, e308_67, e308_68, e308_69, e308_70, e308_73, e308_74, e308_77, e308_78, e308_81, e308_82, e308_83, e308_84, e308_85, e308_88, e308_89, e308_90, e308_93, e308_94, e308_95, e308_98, e308_101, e308_102, e308_103, e308_106, e308_107, e308_110, e308_113, e308_116, e308_119, e308_120, e308_123, e308_124, e308_127, e308_128, e308_129, e308_130, e308_131, e308_134, e308_135, e308_137, e308_138, e308_141, e308_144, e308_145, e308_148, e308_149, e308_152, e308_153, e308_154, e308_155, e308_156, e308_157, e308_158, e308_161, e308_162, e308_163, e308_166, e308_169, e308_170, e308_173, e308_174, e308_175, e308_176, e308_177, e308_178, e308_179, e308_181, e308_183, e308_184, e308_187, e308_188, e308_189, e308_190, e308_191, e308_192, e308_193, e308_196, e308_197, e308_198, e308_200, e308_203, e308_206, e308_207, e308_208, e308_210, e308_213, e308_216, e308_217, e308_218, e308_220, e308_223, e308_226, e308_229, e308_232, e308_236, e308_237, e308_240, gK0_eq, gK1_eq, gK3_eq, w32_id, bI_eq0, bI_eq1, Bool.false_eq_true, not_true_eq_false, not_false_eq_true, ne_eq, ite_not, ↓reduceIte, if_true, if_false, Int.reduceToNat, Nat.reduceAdd, Int.reduceEq, Int.reduceLT, Int.reduceLE, Int.reduceNeg, bI_T, bI_F, ↓if_pos, ↓if_neg, h, mK_ne]
  | succ n ih =>
    intro k l4 P T1 h0 h1 hDe
    have h : ¬ μ 167 14 ≤ k := by omega
    have hsp := hI.2.2.2.2.2.2.2.2.1 k h0 (by omega)
    have h3 : 0 ≤ 3 * k + 2 ∧ 3 * k + 2 < 36 := by omega
    have h8 : 0 ≤ μ 177 (3 * k) ∧ μ 177 (3 * k) < 8 := by omega
    have back : ∀ (l4 : gv) (T1 : Int → Int) (Q : Int → gM → Prop), gE 308 229 [gO 10 167, gI e, gI d, gI k, l4] [] (mK μ b T1) Q = gE 308 136 [gO 10 167, gI e, gI d, gI (k + 1), l4] [] (mK μ b T1) Q := by
      intro l4 T1 Q
      rw [e308_229]
      simp (disch := first | assumption | omega) only [e308_0, e308_1, e308_2, e308_5, e308_6, e308_7, e308_10, e308_13, e308_14, e308_15, e308_16, e308_17, e308_20, e308_21, e308_22, e308_25, e308_26, e308_28, e308_29, e308_32, e308_33, e308_34, e308_37, e308_38, e308_39, e308_42, e308_45, e308_46, e308_48, e308_49, e308_52, e308_55, e308_58, e308_59, e308_60, e308_63, e308_66, e308_67, e308_68, e308_69, e308_70, e308_73, e308_74, e308_77, e308_78, e308_81, e308_82, e308_83, e308_84, e308_85, e308_88, e308_89, e308_90, e308_93, e308_94, e308_95, e308_98, e308_101, e308_102, e308_103, e308_106, e308_107, e308_110, e308_113, e308_116, e308_119, e308_120, e308_123, e308_124, e308_127, e308_128, e308_129, e308_130, e308_131, e308_134, e308_135, e308_137, e308_138, e308_141, e308_144, e308_145, e308_148, e308_149, e308_152, e308_153, e308_154, e308_155, e308_156, e308_157, e308_158, e308_161, e308_162, e308_163, e308_166, e308_169, e308_170, e308_173, e308_174, e308_175, e308_176, e308_177, e308_178, e308_179, e308_181, e308_183, e308_184, e308_187, e308_188, e308_189, e308_190, e308_191, e308_192, e308_193, e308_196, e308_197, e308_198, e308_200, e308_203, e308_206, e308_207, e308_208, e308_210, e308_213, e308_216, e308_217, e308_218, e308_220, e308_223, e308_226, e308_232, e308_235, e308_236, e308_237, e308_240, gK0_eq, gK1_eq, gK3_eq, w32_id, bI_eq0, bI_eq1, Bool.false_eq_true, not_true_eq_false, not_false_eq_true, ne_eq, ite_not, ↓reduceIte, if_true, if_false, Int.reduceToNat, Nat.reduceAdd, Int.reduceEq, Int.reduceLT, Int.reduceLE, Int.reduceNeg, bI_T, bI_F]
    by_cases c : μ 179 (μ 177 (3 * k)) = μ 179 e
    · obtain ⟨l4', T2, hd2, hl⟩ := s_det_p (e := e) hb hI hd ⟨h0, by omega⟩ hF (μ 177 (3 * k + 2) + 1 - μ 177 (3 * k + 1)).toNat (μ 177 (3 * k + 1)) P T1 (by omega) (by omega) hDe
      obtain ⟨l3'', l4'', T3, hd3, hl3⟩ := ih (k + 1) l4' _ T2 (by omega) (by omega) hd2
      refine ⟨l3'', l4'', T3, ?_, fun Q => ?_⟩
      · have eP : (fun x => (P x || anyF (fun k => decide (μ 179 (μ 177 (3 * k)) = μ 179 e) && (decide (μ 177 (3 * k + 1) ≤ x) && decide (x ≤ μ 177 (3 * k + 2)))) k (n + 1)) && !tSpd μ T0 d x) = (fun x => ((P x || (decide (μ 177 (3 * k + 1) ≤ x) && decide (x ≤ μ 177 (3 * k + 2)))) || anyF (fun k => decide (μ 179 (μ 177 (3 * k)) = μ 179 e) && (decide (μ 177 (3 * k + 1) ≤ x) && decide (x ≤ μ 177 (3 * k + 2)))) (k + 1) n) && !tSpd μ T0 d x) := by
          funext x
          rw [anyF, decide_eq_true c, Bool.true_and, Bool.or_assoc]
        rw [eP]
        exact hd3
      · rw [← hl3, ← back, ← hl, e308_136]
        simp (disch := first | assumption | omega) only [e308_0, e308_1, e308_2, e308_5, e308_6, e308_7, e308_10, e308_13, e308_14, e308_15, e308_16, e308_17, e308_20, e308_21, e308_22, e308_25, e308_26, e308_28, e308_29, e308_32, e308_33, e308_34, e308_37, e308_38, e308_39, e308_42, e308_45, e308_46, e308_48, e308_49, e308_52, e308_55, e308_58, e308_59, e308_60, e308_63, e308_66, e308_67, e308_68, e308_69, e308_70, e308_73, e308_74, e308_77, e308_78, e308_81, e308_82, e308_83, e308_84, e308_85, e308_88, e308_89, e308_90, e308_93, e308_94, e308_95, e308_98, e308_101, e308_102, e308_103, e308_106, e308_107, e308_110, e308_113, e308_116, e308_119, e308_120, e308_123, e308_124, e308_127, e308_128, e308_129, e308_130, e308_131, e308_134, e308_135, e308_137, e308_138, e308_141, e308_144, e308_145, e308_148, e308_149, e308_152, e308_153, e308_154, e308_155, e308_156, e308_157, e308_158, e308_161, e308_162, e308_163, e308_166, e308_169, e308_170, e308_173, e308_174, e308_175, e308_176, e308_177, e308_178, e308_179, e308_183, e308_184, e308_187, e308_188, e308_189, e308_190, e308_191, e308_192, e308_193, e308_196, e308_197, e308_198, e308_200, e308_203, e308_206, e308_207, e308_208, e308_210, e308_213, e308_216, e308_217, e308_218, e308_220, e308_223, e308_226, e308_229, e308_232, e308_235, e308_236, e308_237, e308_240, gK0_eq, gK1_eq, gK3_eq, w32_id, bI_eq0, bI_eq1, Bool.false_eq_true, not_true_eq_false, not_false_eq_true, ne_eq, ite_not, ↓reduceIte, if_true, if_false, Int.reduceToNat, Nat.reduceAdd, Int.reduceEq, Int.reduceLT, Int.reduceLE, Int.reduceNeg, bI_T, bI_F, ↓if_pos, ↓if_neg, h, mK_ne, c]
    · obtain ⟨l3'', l4'', T3, hd3, hl3⟩ := ih (k + 1) l4 P T1 (by omega) (by omega) hDe
      refine ⟨l3'', l4'', T3, ?_, fun Q => ?_⟩
      · have eP : (fun x => (P x || anyF (fun k => decide (μ 179 (μ 177 (3 * k)) = μ 179 e) && (decide (μ 177 (3 * k + 1) ≤ x) && decide (x ≤ μ 177 (3 * k + 2)))) k (n + 1)) && !tSpd μ T0 d x) = (fun x => (P x || anyF (fun k => decide (μ 179 (μ 177 (3 * k)) = μ 179 e) && (decide (μ 177 (3 * k + 1) ≤ x) && decide (x ≤ μ 177 (3 * k + 2)))) (k + 1) n) && !tSpd μ T0 d x) := by
          funext x
          rw [anyF, decide_eq_false c, Bool.false_and, Bool.false_or]
        rw [eP]
        exact hd3
      · rw [← hl3, ← back, e308_136]
        simp (disch := first | assumption | omega) only [e308_0, e308_1, e308_2, e308_5, e308_6, e308_7, e308_10, e308_13, e308_14, e308_15, e308_16, e308_17, e308_20, e308_21, e308_22, e308_25, e308_26, e308_28, e308_29, e308_32, e308_33, e308_34, e308_37, e308_38, e308_39, e308_42, e308_45, e308_46, e308_48, e308_49, e308_52, e308_55, e308_58, e308_59, e308_60, e308_63, e308_66, e308_67, e308_68, e308_69, e308_70, e308_73, e308_74, e308_77, e308_78, e308_81, e308_82, e308_83, e308_84, e308_85, e308_88, e308_89, e308_90, e308_93, e308_94, e308_95, e308_98, e308_101, e308_102, e308_103, e308_106, e308_107, e308_110, e308_113, e308_116, e308_119, e308_120, e308_123, e308_124, e308_127, e308_128, e308_129, e308_130, e308_131, e308_134, e308_135, e308_137, e308_138, e308_141, e308_144, e308_145, e308_148, e308_149, e308_152, e308_153, e308_154, e308_155, e308_156, e308_157, e308_158, e308_161, e308_162, e308_163, e308_166, e308_169, e308_170, e308_173, e308_174, e308_175, e308_176, e308_177, e308_178, e308_179, e308_181, e308_183, e308_184, e308_187, e308_188, e308_189, e308_190, e308_191, e308_192, e308_193, e308_196, e308_197, e308_198, e308_200, e308_203, e308_206, e308_207, e308_208, e308_210, e308_213, e308_216, e308_217, e308_218, e308_220, e308_223, e308_226, e308_232, e308_235, e308_236, e308_237, e308_240, gK0_eq, gK1_eq, gK3_eq, w32_id, bI_eq0, bI_eq1, Bool.false_eq_true, not_true_eq_false, not_false_eq_true, ne_eq, ite_not, ↓reduceIte, if_true, if_false, Int.reduceToNat, Nat.reduceAdd, Int.reduceEq, Int.reduceLT, Int.reduceLE, Int.reduceNeg, bI_T, bI_F, ↓if_pos, ↓if_neg, h, mK_ne, c]
theorem s_detach_bad {e : Int} (hb : gBk μ b) (h : ¬ (0 ≤ e ∧ e < μ 167 12)) : gE 308 0 [gO 10 167, gI e, gX, gX, gX] [] (mK μ b T) Q = Q (-1) (mK (gS μ 167 2 0) b T) := by
  have e1 : gS μ 167 2 0 167 12 = μ 167 12 := gS_neI (by omega)
  simp (disch := first | assumption | omega) only [e308_0, e308_1, e308_2, e308_5, e308_6, e308_7, e308_10, e308_13, e308_14, e308_15, e308_16, e308_17, e308_20, e308_21, e308_22, e308_25, e308_26, e308_28, e308_29, e308_32, e308_33, e308_34, e308_37, e308_38, e308_39, e308_42, e308_45, e308_46, e308_48, e308_49, e308_52, e308_55, e308_58, e308_59, e308_60, e308_63, e308_66, e308_67, e308_68, e308_70, e308_73, e308_74, e308_77, e308_78, e308_81, e308_82, e308_83, e308_84, e308_85, e308_88, e308_89, e308_90, e308_93, e308_94, e308_95, e308_98, e308_101, e308_102, e308_103, e308_106, e308_107, e308_110, e308_113, e308_116, e308_119, e308_120, e308_123, e308_124, e308_127, e308_128, e308_129, e308_130, e308_131, e308_134, e308_135, e308_136, e308_137, e308_138, e308_141, e308_144, e308_145, e308_148, e308_149, e308_152, e308_153, e308_154, e308_155, e308_156, e308_157, e308_158, e308_161, e308_162, e308_163, e308_166, e308_169, e308_170, e308_173, e308_174, e308_175, e308_176, e308_177, e308_178, e308_179, e308_181, e308_183, e308_184, e308_187, e308_188, e308_189, e308_190, e308_191, e308_192, e308_193, e308_196, e308_197, e308_198, e308_200, e308_203, e308_206, e308_207, e308_208, e308_210, e308_213, e308_216, e308_217, e308_218, e308_220, e308_223, e308_226, e308_229, e308_232, e308_235, e308_236, e308_237, e308_240, gK0_eq, gK1_eq, gK3_eq, w32_id, bI_eq0, bI_eq1, Bool.false_eq_true, not_true_eq_false, not_false_eq_true, ne_eq, ite_not, ↓reduceIte, if_true, if_false, Int.reduceToNat, Nat.reduceAdd, Int.reduceEq, Int.reduceLT, Int.reduceLE, Int.reduceNeg, bI_T, bI_F, ↓if_pos, ↓if_neg, gS_mK, s_isDevice, e1, h]
theorem s_detach_no {e : Int} (hb : gBk μ b) (hI : gIX μ) (h : 0 ≤ e ∧ e < μ 167 12) (hn : T (1673 + μ 179 e) < 0 ∨ 22 < T 1681) : gE 308 0 [gO 10 167, gI e, gX, gX, gX] [] (mK μ b T) Q = Q (-2) (mK (gS μ 167 2 0) b (if T (1673 + μ 179 e) < 0 then tRef T 9 (μ 179 e) else tRef T 6 (T 1681))) := by
  have hb' : gBk (gS μ 167 2 0) b := gBk_gS hb (by decide)
  have hI' := gIX_thr (v := 0) hI
  have hd8 := hI.2.1
  have e1 : gS μ 167 2 0 167 12 = μ 167 12 := gS_neI (by omega)
  have e2 : gS μ 167 2 0 179 e = μ 179 e := gS_neK (by omega)
  have he8 : 0 ≤ e ∧ e < 8 := by omega
  by_cases c : T (1673 + μ 179 e) < 0
  · simp (disch := first | assumption | omega) only [e308_0, e308_1, e308_2, e308_5, e308_6, e308_7, e308_10, e308_13, e308_14, e308_15, e308_16, e308_17, e308_20, e308_21, e308_22, e308_25, e308_26, e308_28, e308_29, e308_32, e308_33, e308_34, e308_37, e308_38, e308_39, e308_42, e308_45, e308_46, e308_48, e308_49, e308_52, e308_55, e308_58, e308_59, e308_60, e308_63, e308_66, e308_67, e308_68, e308_70, e308_73, e308_74, e308_77, e308_78, e308_81, e308_82, e308_83, e308_84, e308_85, e308_88, e308_89, e308_90, e308_93, e308_94, e308_95, e308_98, e308_101, e308_102, e308_103, e308_106, e308_107, e308_110, e308_113, e308_116, e308_119, e308_120, e308_123, e308_124, e308_127, e308_128, e308_129, e308_130, e308_131, e308_134, e308_135, e308_136, e308_137, e308_138, e308_141, e308_144, e308_145, e308_148, e308_149, e308_152, e308_153, e308_154, e308_155, e308_156, e308_157, e308_158, e308_161, e308_162, e308_163, e308_166, e308_169, e308_170, e308_173, e308_174, e308_175, e308_176, e308_177, e308_178, e308_179, e308_181, e308_183, e308_184, e308_187, e308_188, e308_189, e308_190, e308_191, e308_192, e308_193, e308_196, e308_197, e308_198, e308_200, e308_203, e308_206, e308_207, e308_208, e308_210, e308_213, e308_216, e308_217, e308_218, e308_220, e308_223, e308_226, e308_229, e308_232, e308_235, e308_236, e308_237, e308_240, gK0_eq, gK1_eq, gK3_eq, w32_id, bI_eq0, bI_eq1, Bool.false_eq_true, not_true_eq_false, not_false_eq_true, ne_eq, ite_not, ↓reduceIte, if_true, if_false, Int.reduceToNat, Nat.reduceAdd, Int.reduceEq, Int.reduceLT, Int.reduceLE, Int.reduceNeg, bI_T, bI_F, ↓if_pos, ↓if_neg, gS_mK, s_isDevice, e1, h, and_self, s_domainOfDevice, e2, he8, c, mK_ne, s_refused]
  · have c2 : 22 < T 1681 := by omega
    simp (disch := first | assumption | omega) only [e308_0, e308_1, e308_2, e308_5, e308_6, e308_7, e308_10, e308_13, e308_14, e308_15, e308_16, e308_17, e308_20, e308_21, e308_22, e308_25, e308_26, e308_28, e308_29, e308_32, e308_33, e308_34, e308_37, e308_38, e308_39, e308_42, e308_45, e308_46, e308_48, e308_49, e308_52, e308_55, e308_58, e308_59, e308_60, e308_63, e308_66, e308_67, e308_68, e308_70, e308_73, e308_74, e308_77, e308_78, e308_81, e308_82, e308_83, e308_84, e308_85, e308_88, e308_89, e308_90, e308_93, e308_94, e308_95, e308_98, e308_101, e308_102, e308_103, e308_106, e308_107, e308_110, e308_113, e308_116, e308_119, e308_120, e308_123, e308_124, e308_127, e308_128, e308_129, e308_130, e308_131, e308_134, e308_135, e308_136, e308_137, e308_138, e308_141, e308_144, e308_145, e308_148, e308_149, e308_152, e308_153, e308_154, e308_155, e308_156, e308_157, e308_158, e308_161, e308_162, e308_163, e308_166, e308_169, e308_170, e308_173, e308_174, e308_175, e308_176, e308_177, e308_178, e308_179, e308_181, e308_183, e308_184, e308_187, e308_188, e308_189, e308_190, e308_191, e308_192, e308_193, e308_196, e308_197, e308_198, e308_200, e308_203, e308_206, e308_207, e308_208, e308_210, e308_213, e308_216, e308_217, e308_218, e308_220, e308_223, e308_226, e308_229, e308_232, e308_235, e308_236, e308_237, e308_240, gK0_eq, gK1_eq, gK3_eq, w32_id, bI_eq0, bI_eq1, Bool.false_eq_true, not_true_eq_false, not_false_eq_true, ne_eq, ite_not, ↓reduceIte, if_true, if_false, Int.reduceToNat, Nat.reduceAdd, Int.reduceEq, Int.reduceLT, Int.reduceLE, Int.reduceNeg, bI_T, bI_F, ↓if_pos, ↓if_neg, gS_mK, s_isDevice, e1, h, and_self, s_domainOfDevice, e2, he8, c, mK_ne, s_isTight, c2, s_of, s_refused]
theorem s_detach {e : Int} (hb : gBk μ b) (hI : gIX μ) (h : 0 ≤ e ∧ e < μ 167 12) (hd : 0 ≤ T (1673 + μ 179 e) ∧ T (1673 + μ 179 e) < 4) (hq : 0 ≤ T 1681 ∧ T 1681 ≤ 22) (hO : tRqO (fun e => μ 179 e) (μ 167 12) T) (hF : ∀ j, 0 ≤ j → j < 256 → -1 ≤ T j ∧ T j < 64) (hW : tOin T) :
    ∃ T2, tDe (tDt0 μ T e) (tDtD μ (tDt0 μ T e) e (T (1673 + μ 179 e))) T2 ∧ ∀ Q : Int → gM → Prop, gE 308 0 [gO 10 167, gI e, gX, gX, gX] [] (mK μ b T) Q = Q (w32 (T2 1811 + 1)) (mK (gS μ 167 2 0) b (tFlu T2 (T (1673 + μ 179 e)))) := by
  have hb' : gBk (gS μ 167 2 0) b := gBk_gS hb (by decide)
  have hI' := gIX_thr (v := 0) hI
  have hd8 := hI.2.1
  have hs6 := hI.2.2.2.1
  have hgr := hI.2.2.2.2.2.2.1 e h.1 (by omega)
  have e1 : gS μ 167 2 0 167 12 = μ 167 12 := gS_neI (by omega)
  have e4 : gS μ 167 2 0 167 14 = μ 167 14 := gS_neI (by omega)
  have e2 : ∀ i, gS μ 167 2 0 179 i = μ 179 i := fun i => gS_neK (by omega)
  have e3 : ∀ i, gS μ 167 2 0 177 i = μ 177 i := fun i => gS_neK (by omega)
  have eS : ∀ T0 d x, tSpd (gS μ 167 2 0) T0 d x = tSpd μ T0 d x := fun T0 d x => by unfold tSpd; simp only [e2, e3, e4]
  have he8 : 0 ≤ e ∧ e < 8 := by omega
  generalize hdd : T (1673 + μ 179 e) = d at hd ⊢
  have hlo : ∀ j, j < 1673 → tDt0 μ T e j = T j := by
    intro j hj
    unfold tDt0
    rw [tS_ne (by omega)]
    exact tDtR_lo _ _ (by have := hO.1; omega) hO.2.1 j (by omega)
  have hF0 : ∀ j, 0 ≤ j → j < 256 → -1 ≤ tDt0 μ T e j ∧ tDt0 μ T e j < 64 := fun j j0 j1 => by rw [hlo j (by omega)]; exact hF j j0 j1
  have hW0 : tOin (tDt0 μ T e) := fun f w a1 a2 a3 a4 => by rw [hlo _ (by omega)]; exact hW f w a1 a2 a3 a4
  have e5 : (fun x => (fun _ => false) x && !tSpd (gS μ 167 2 0) (tDt0 μ T e) d x) = fun _ => false := by funext x; rfl
  have e6 : cMp (tDt0 μ T e) d (fun _ => false) = fun _ => false := by funext i; unfold cMp; simp
  obtain ⟨l3', l4', T2, hde, hl⟩ := s_det_k (e := e) (d := d) hb' hI' hd he8 hF0 (μ 167 14).toNat 0 gX (fun _ => false) (tDt0 μ T e) (by omega) (by rw [e4]; omega) (by rw [e5, e6]; exact tDe_none hW0)
  simp only [Bool.false_or, e2, e3, eS] at hde
  have hq2 : T2 1681 = T 1681 := by
    rw [hde.2.2.2 1681 (by omega)]
    unfold tDt0
    rw [tS_ne (by omega)]
    exact tDtR_lo _ _ (by have := hO.1; omega) hO.2.1 1681 (by omega)
  refine ⟨T2, hde, fun Q => ?_⟩
  have w8 := hO.2.1
  have w0 := hO.1
  have hr := s_det_r (Q := Q) (e := e) (d := d) (l4 := gX) hb' hI' he8 (T 1881).toNat T (by omega) (by simp only [e1, e2]; exact hO)
  have e7 : (((T 1881).toNat : Nat) : Int) - 1 = T 1881 - 1 := by omega
  rw [e7] at hr
  simp only [e2] at hr
  have nt : ¬ 22 < T 1681 := by omega
  have nd : ¬ d < 0 := by omega
  simp (disch := first | assumption | omega) only [e308_0, e308_1, e308_2, e308_5, e308_6, e308_7, e308_10, e308_13, e308_14, e308_15, e308_16, e308_17, e308_20, e308_21, e308_22, e308_25, e308_26, e308_28, e308_29, e308_32, e308_33, e308_34, e308_37, e308_38, e308_39, e308_42, e308_45, e308_46, e308_48, e308_49, e308_52, e308_55, e308_58, e308_59, e308_60, e308_63, e308_66, e308_67, e308_68, e308_70, e308_73, e308_74, e308_77, e308_78, e308_81, e308_82, e308_83, e308_84, e308_85, e308_88, e308_89, e308_90, e308_93, e308_94, e308_95, e308_98, e308_101, e308_102, e308_103, e308_106, e308_107, e308_110, e308_113, e308_116, e308_119, e308_120, e308_123, e308_124, e308_127, e308_128, e308_129, e308_130, e308_131, e308_134, e308_135, e308_136, e308_137, e308_138, e308_141, e308_144, e308_145, e308_148, e308_149, e308_152, e308_153, e308_154, e308_155, e308_156, e308_157, e308_158, e308_161, e308_162, e308_163, e308_166, e308_169, e308_170, e308_173, e308_174, e308_175, e308_176, e308_177, e308_178, e308_179, e308_181, e308_183, e308_184, e308_187, e308_188, e308_189, e308_190, e308_191, e308_192, e308_193, e308_196, e308_197, e308_198, e308_200, e308_203, e308_206, e308_207, e308_208, e308_210, e308_213, e308_216, e308_217, e308_218, e308_220, e308_223, e308_226, e308_229, e308_232, e308_235, e308_236, e308_237, e308_240, gK0_eq, gK1_eq, gK3_eq, w32_id, bI_eq0, bI_eq1, Bool.false_eq_true, not_true_eq_false, not_false_eq_true, ne_eq, ite_not, ↓reduceIte, if_true, if_false, Int.reduceToNat, Nat.reduceAdd, Int.reduceEq, Int.reduceLT, Int.reduceLE, Int.reduceNeg, bI_T, bI_F, ↓if_pos, ↓if_neg, gS_mK, s_isDevice, e1, h, and_self, s_domainOfDevice, e2, he8, hdd, nd, s_isTight, nt, s_of]
  rw [hr, e308_119]
  simp (disch := first | assumption | omega) only [e308_0, e308_1, e308_2, e308_5, e308_6, e308_7, e308_10, e308_13, e308_14, e308_15, e308_16, e308_17, e308_20, e308_21, e308_22, e308_25, e308_26, e308_28, e308_29, e308_32, e308_33, e308_34, e308_37, e308_38, e308_39, e308_42, e308_45, e308_46, e308_48, e308_49, e308_52, e308_55, e308_58, e308_59, e308_60, e308_63, e308_66, e308_67, e308_68, e308_70, e308_73, e308_74, e308_77, e308_78, e308_81, e308_82, e308_83, e308_84, e308_85, e308_88, e308_89, e308_90, e308_93, e308_94, e308_95, e308_98, e308_101, e308_102, e308_103, e308_106, e308_107, e308_110, e308_113, e308_116, e308_119, e308_120, e308_123, e308_124, e308_127, e308_128, e308_129, e308_130, e308_131, e308_134, e308_135, e308_137, e308_138, e308_141, e308_144, e308_145, e308_148, e308_149, e308_152, e308_153, e308_154, e308_155, e308_156, e308_157, e308_158, e308_161, e308_162, e308_163, e308_166, e308_169, e308_170, e308_173, e308_174, e308_175, e308_176, e308_177, e308_178, e308_179, e308_181, e308_183, e308_184, e308_187, e308_188, e308_189, e308_190, e308_191, e308_192, e308_193, e308_196, e308_197, e308_198, e308_200, e308_203, e308_206, e308_207, e308_208, e308_210, e308_213, e308_216, e308_217, e308_218, e308_220, e308_223, e308_226, e308_229, e308_232, e308_235, e308_236, e308_237, e308_240, gK0_eq, gK1_eq, gK3_eq, w32_id, bI_eq0, bI_eq1, Bool.false_eq_true, not_true_eq_false, not_false_eq_true, ne_eq, ite_not, ↓reduceIte, if_true, if_false, Int.reduceToNat, Nat.reduceAdd, Int.reduceEq, Int.reduceLT, Int.reduceLE, Int.reduceNeg, bI_T, bI_F, ↓if_pos, ↓if_neg, mK_ne, e2, s_lay]
  have hl' := hl Q
  unfold tDt0 at hl'
  rw [hl', e308_235]
  have q3 : 0 ≤ T2 1681 ∧ T2 1681 < 31 := by omega
  simp (disch := first | assumption | omega) only [e308_0, e308_1, e308_2, e308_5, e308_6, e308_7, e308_10, e308_13, e308_14, e308_15, e308_16, e308_17, e308_20, e308_21, e308_22, e308_25, e308_26, e308_28, e308_29, e308_32, e308_33, e308_34, e308_37, e308_38, e308_39, e308_42, e308_45, e308_46, e308_48, e308_49, e308_52, e308_55, e308_58, e308_59, e308_60, e308_63, e308_66, e308_67, e308_68, e308_69, e308_70, e308_73, e308_74, e308_77, e308_78, e308_81, e308_82, e308_83, e308_84, e308_85, e308_88, e308_89, e308_90, e308_93, e308_94, e308_95, e308_98, e308_101, e308_102, e308_103, e308_106, e308_107, e308_110, e308_113, e308_116, e308_119, e308_120, e308_123, e308_124, e308_127, e308_128, e308_129, e308_130, e308_131, e308_134, e308_135, e308_136, e308_137, e308_138, e308_141, e308_144, e308_145, e308_148, e308_149, e308_152, e308_153, e308_154, e308_155, e308_156, e308_157, e308_158, e308_161, e308_162, e308_163, e308_166, e308_169, e308_170, e308_173, e308_174, e308_175, e308_176, e308_177, e308_178, e308_179, e308_181, e308_183, e308_184, e308_187, e308_188, e308_189, e308_190, e308_191, e308_192, e308_193, e308_196, e308_197, e308_198, e308_200, e308_203, e308_206, e308_207, e308_208, e308_210, e308_213, e308_216, e308_217, e308_218, e308_220, e308_223, e308_226, e308_229, e308_232, e308_236, e308_237, e308_240, gK0_eq, gK1_eq, gK3_eq, w32_id, bI_eq0, bI_eq1, Bool.false_eq_true, not_true_eq_false, not_false_eq_true, ne_eq, ite_not, ↓reduceIte, if_true, if_false, Int.reduceToNat, Nat.reduceAdd, Int.reduceEq, Int.reduceLT, Int.reduceLE, Int.reduceNeg, bI_T, bI_F, s_flushes', hd, q3]
end MODEL14
