/-! text, side by side -/
def stC (k : Nat) (n : Int) (A A' : gM) : Prop := A' = mrow A k (fun j => if 0 ≤ j ∧ j < n then A k (n + j) else A k j)
section TEXT7
variable {N : Int} {C C' M M' X X' μ A A' : gM} {T : Int → Int} {Q : Int → gM → Prop}
theorem stC_ne {k k' : Nat} {n i : Int} (h : stC k n A A') (q : k' ≠ k) : A' k' i = A k' i := by rw [h, mrow_ne q]
theorem stC_at {k : Nat} {n i : Int} (h : stC k n A A') (h0 : 0 ≤ i) (h1 : i < n) : A' k i = A k (n + i) := by rw [h, mrow_same, if_pos ⟨h0, h1⟩]
theorem gE_det {n pc : Nat} {ls st : List gv} {a a' : Int} {ν ν' : gM} (h : ∀ Q : Int → gM → Prop, gE n pc ls st μ Q = Q a ν) (h' : ∀ Q : Int → gM → Prop, gE n pc ls st μ Q = Q a' ν') : a' = a ∧ ν' = ν := by
  have e := (h' (fun r m => r = a ∧ m = ν)).symm.trans (h (fun r m => r = a ∧ m = ν))
  exact cast e.symm ⟨rfl, rfl⟩
theorem s_keepText (hI : gIX (xR M)) : ∃ ν A : gM, (∀ Q : Int → gM → Prop, gE 219 0 [gO 10 167, gX] [] M Q = Q 0 ν) ∧ nrX (xR M) A ∧ gIX A ∧ (∀ (k : Nat) i, 170 ≤ k → k ≤ 178 → ν k i = A k i) ∧ (∀ i, 11 ≤ i → i ≤ 14 → ν 167 i = A 167 i) ∧ (∀ d, 0 ≤ d → d < 8 → ν 179 d = xLay A 0 d) ∧ (∀ k, 0 ≤ k → k < 1960 → ν 181 k = tZ k) ∧ ν 167 34 = 0 ∧ ν 167 35 = 0 ∧ (∀ (k : Nat) i, (k < 167 ∨ k = 168 ∨ k = 169 ∨ 182 ≤ k ∨ (k = 167 ∧ (i = 1 ∨ i = 4 ∨ i = 5))) → ν k i = M k i) := by
  obtain ⟨n1, n2, n3, n4, g1, g2, g3, -⟩ := id hI
  obtain ⟨A0, e0⟩ : ∃ A0, A0 = gS (gS (gS (gS M 167 11 (M 167 15)) 167 12 (M 167 16)) 167 13 (M 167 17)) 167 14 (M 167 18) := ⟨_, rfl⟩
  obtain ⟨A1, e1⟩ : ∃ A', stC 170 6 A0 A' := ⟨_, rfl⟩
  have run1 : ∀ Q : Int → gM → Prop, gE 218 0 [gA 12 170, gI 6, gX] [] A0 Q = Q 0 A1 := fun Q => by rw [e1]; exact s_copies (by omega) (by omega)
  obtain ⟨A2, e2⟩ : ∃ A', stC 171 6 A1 A' := ⟨_, rfl⟩
  have run2 : ∀ Q : Int → gM → Prop, gE 218 0 [gA 12 171, gI 6, gX] [] A1 Q = Q 0 A2 := fun Q => by rw [e2]; exact s_copies (by omega) (by omega)
  obtain ⟨A3, e3⟩ : ∃ A', stC 172 6 A2 A' := ⟨_, rfl⟩
  have run3 : ∀ Q : Int → gM → Prop, gE 218 0 [gA 12 172, gI 6, gX] [] A2 Q = Q 0 A3 := fun Q => by rw [e3]; exact s_copies (by omega) (by omega)
  obtain ⟨A4, e4⟩ : ∃ A', stC 173 8 A3 A' := ⟨_, rfl⟩
  have run4 : ∀ Q : Int → gM → Prop, gE 218 0 [gA 16 173, gI 8, gX] [] A3 Q = Q 0 A4 := fun Q => by rw [e4]; exact s_copies (by omega) (by omega)
  obtain ⟨A5, e5⟩ : ∃ A', stC 174 8 A4 A' := ⟨_, rfl⟩
  have run5 : ∀ Q : Int → gM → Prop, gE 218 0 [gA 16 174, gI 8, gX] [] A4 Q = Q 0 A5 := fun Q => by rw [e5]; exact s_copies (by omega) (by omega)
  obtain ⟨A6, e6⟩ : ∃ A', stC 175 8 A5 A' := ⟨_, rfl⟩
  have run6 : ∀ Q : Int → gM → Prop, gE 218 0 [gA 16 175, gI 8, gX] [] A5 Q = Q 0 A6 := fun Q => by rw [e6]; exact s_copies (by omega) (by omega)
  obtain ⟨A7, e7⟩ : ∃ A', stC 176 16 A6 A' := ⟨_, rfl⟩
  have run7 : ∀ Q : Int → gM → Prop, gE 218 0 [gA 32 176, gI 16, gX] [] A6 Q = Q 0 A7 := fun Q => by rw [e7]; exact s_copies (by omega) (by omega)
  obtain ⟨A8, e8⟩ : ∃ A', stC 177 18 A7 A' := ⟨_, rfl⟩
  have run8 : ∀ Q : Int → gM → Prop, gE 218 0 [gA 36 177, gI 18, gX] [] A7 Q = Q 0 A8 := fun Q => by rw [e8]; exact s_copies (by omega) (by omega)
  obtain ⟨A9, e9⟩ : ∃ A', stC 178 2 A8 A' := ⟨_, rfl⟩
  have run9 : ∀ Q : Int → gM → Prop, gE 218 0 [gA 4 178, gI 2, gX] [] A8 Q = Q 0 A9 := fun Q => by rw [e9]; exact s_copies (by omega) (by omega)
  have a0 : ∀ (k : Nat) i, (k ≠ 167 ∨ i < 11 ∨ 14 < i) → A0 k i = M k i := fun k i q => by
    rw [e0, gS_out (by omega), gS_out (by omega), gS_out (by omega), gS_out (by omega)]
  have a9 : ∀ (k : Nat) i, (k < 170 ∨ 178 < k) → A9 k i = A0 k i := fun k i q => by
    rw [stC_ne e9 (by omega), stC_ne e8 (by omega), stC_ne e7 (by omega), stC_ne e6 (by omega), stC_ne e5 (by omega), stC_ne e4 (by omega), stC_ne e3 (by omega), stC_ne e2 (by omega), stC_ne e1 (by omega)]
  have v170 : ∀ i, 0 ≤ i → i < 6 → A9 170 i = xR M 170 i := fun i i0 i1 => by
    rw [stC_ne e9 (by omega), stC_ne e8 (by omega), stC_ne e7 (by omega), stC_ne e6 (by omega), stC_ne e5 (by omega), stC_ne e4 (by omega), stC_ne e3 (by omega), stC_ne e2 (by omega), stC_at e1 (by omega) (by omega), a0 _ _ (by omega)]
    rfl
  have v171 : ∀ i, 0 ≤ i → i < 6 → A9 171 i = xR M 171 i := fun i i0 i1 => by
    rw [stC_ne e9 (by omega), stC_ne e8 (by omega), stC_ne e7 (by omega), stC_ne e6 (by omega), stC_ne e5 (by omega), stC_ne e4 (by omega), stC_ne e3 (by omega), stC_at e2 (by omega) (by omega), stC_ne e1 (by omega), a0 _ _ (by omega)]
    rfl
  have v172 : ∀ i, 0 ≤ i → i < 6 → A9 172 i = xR M 172 i := fun i i0 i1 => by
    rw [stC_ne e9 (by omega), stC_ne e8 (by omega), stC_ne e7 (by omega), stC_ne e6 (by omega), stC_ne e5 (by omega), stC_ne e4 (by omega), stC_at e3 (by omega) (by omega), stC_ne e2 (by omega), stC_ne e1 (by omega), a0 _ _ (by omega)]
    rfl
  have v173 : ∀ i, 0 ≤ i → i < 8 → A9 173 i = xR M 173 i := fun i i0 i1 => by
    rw [stC_ne e9 (by omega), stC_ne e8 (by omega), stC_ne e7 (by omega), stC_ne e6 (by omega), stC_ne e5 (by omega), stC_at e4 (by omega) (by omega), stC_ne e3 (by omega), stC_ne e2 (by omega), stC_ne e1 (by omega), a0 _ _ (by omega)]
    rfl
  have v174 : ∀ i, 0 ≤ i → i < 8 → A9 174 i = xR M 174 i := fun i i0 i1 => by
    rw [stC_ne e9 (by omega), stC_ne e8 (by omega), stC_ne e7 (by omega), stC_ne e6 (by omega), stC_at e5 (by omega) (by omega), stC_ne e4 (by omega), stC_ne e3 (by omega), stC_ne e2 (by omega), stC_ne e1 (by omega), a0 _ _ (by omega)]
    rfl
  have v175 : ∀ i, 0 ≤ i → i < 8 → A9 175 i = xR M 175 i := fun i i0 i1 => by
    rw [stC_ne e9 (by omega), stC_ne e8 (by omega), stC_ne e7 (by omega), stC_at e6 (by omega) (by omega), stC_ne e5 (by omega), stC_ne e4 (by omega), stC_ne e3 (by omega), stC_ne e2 (by omega), stC_ne e1 (by omega), a0 _ _ (by omega)]
    rfl
  have v176 : ∀ i, 0 ≤ i → i < 16 → A9 176 i = xR M 176 i := fun i i0 i1 => by
    rw [stC_ne e9 (by omega), stC_ne e8 (by omega), stC_at e7 (by omega) (by omega), stC_ne e6 (by omega), stC_ne e5 (by omega), stC_ne e4 (by omega), stC_ne e3 (by omega), stC_ne e2 (by omega), stC_ne e1 (by omega), a0 _ _ (by omega)]
    rfl
  have v177 : ∀ i, 0 ≤ i → i < 18 → A9 177 i = xR M 177 i := fun i i0 i1 => by
    rw [stC_ne e9 (by omega), stC_at e8 (by omega) (by omega), stC_ne e7 (by omega), stC_ne e6 (by omega), stC_ne e5 (by omega), stC_ne e4 (by omega), stC_ne e3 (by omega), stC_ne e2 (by omega), stC_ne e1 (by omega), a0 _ _ (by omega)]
    rfl
  have v178 : ∀ i, 0 ≤ i → i < 2 → A9 178 i = xR M 178 i := fun i i0 i1 => by
    rw [stC_at e9 (by omega) (by omega), stC_ne e8 (by omega), stC_ne e7 (by omega), stC_ne e6 (by omega), stC_ne e5 (by omega), stC_ne e4 (by omega), stC_ne e3 (by omega), stC_ne e2 (by omega), stC_ne e1 (by omega), a0 _ _ (by omega)]
    rfl
  have c11 : A9 167 11 = xR M 167 11 := by
    rw [a9 _ _ (by omega), e0, gS_out (by omega), gS_out (by omega), gS_out (by omega), gS_same]
    rfl
  have c12 : A9 167 12 = xR M 167 12 := by
    rw [a9 _ _ (by omega), e0, gS_out (by omega), gS_out (by omega), gS_same]
    rfl
  have c13 : A9 167 13 = xR M 167 13 := by
    rw [a9 _ _ (by omega), e0, gS_out (by omega), gS_same]
    rfl
  have c14 : A9 167 14 = xR M 167 14 := by
    rw [a9 _ _ (by omega), e0, gS_same]
    rfl
  have nr : nrX (xR M) A9 := by
    refine ⟨fun i i0 i1 => ?_, fun i i0 i1 => ⟨v170 i i0 (by omega), v171 i i0 (by omega), v172 i i0 (by omega)⟩, fun i i0 i1 => ⟨v173 i i0 (by omega), v174 i i0 (by omega), v175 i i0 (by omega)⟩, fun i i0 i1 => v176 i i0 (by omega), fun i i0 i1 => v177 i i0 (by omega), v178 0 (by omega) (by omega), v178 1 (by omega) (by omega)⟩
    have c : i = 11 ∨ i = 12 ∨ i = 13 ∨ i = 14 := by omega
    rcases c with rfl | rfl | rfl | rfl
    · exact c11
    · exact c12
    · exact c13
    · exact c14
  have n9 : ∀ d, A9 179 d = xR M 179 d := fun d => by
    rw [a9 _ _ (by omega), a0 _ _ (by omega)]
    rfl
  have hA : gIX A9 := gIX_nr hI nr (fun d d0 d1 => by rw [n9, n9]; exact g3 d d0 d1)
  obtain ⟨B1, b1⟩ : ∃ B, B = mH A9 (xLay A9 0) := ⟨_, rfl⟩
  have runL : ∀ Q : Int → gM → Prop, gE 241 0 [gO 10 167, gI 0, gX, gX, gX] [] A9 Q = Q 0 B1 := fun Q => by rw [b1]; exact s_layGroups hA
  obtain ⟨B2, b2⟩ : ∃ B, B = mrow B1 179 (fun j => if 0 ≤ j ∧ j < 8 then B1 180 j else B1 179 j) := ⟨_, rfl⟩
  have runG := fun (Q : Int → gM → Prop) => s_groupOf_loop (Q := Q) 8 0 B1 (by omega) (by omega)
  rw [← b2] at runG
  obtain ⟨B3, b3⟩ : ∃ B, B = gS B2 167 34 0 := ⟨_, rfl⟩
  have hb : gBk B3 0 := ⟨by rw [b3, gS_same], by omega, by omega⟩
  have k3 : mK B3 0 (B3 181) = B3 := mK_self (fun k k0 k1 => rfl)
  have run1' := fun (Q : Int → gM → Prop) => s_zero_loop (Q := Q) hb 1960 0 (B3 181) (by omega) (by omega)
  rw [k3] at run1'
  have run2' := fun (Q : Int → gM → Prop) => s_fra_loop (Q := Q) hb 256 0 (fun j => if 0 ≤ j ∧ j < 1960 then 0 else B3 181 j) (by omega) (by omega)
  have run3' := fun (Q : Int → gM → Prop) => s_has_loop (Q := Q) hb 8 0 (fun j => if 0 ≤ j ∧ j < 256 then -1 else (fun j => if 0 ≤ j ∧ j < 1960 then 0 else B3 181 j) j) (by omega) (by omega)
  have kz : mK B3 0 (fun j => if 1673 + 0 ≤ j ∧ j < 1681 then -1 else (fun j => if 0 ≤ j ∧ j < 256 then -1 else (fun j => if 0 ≤ j ∧ j < 1960 then 0 else B3 181 j) j) j) = mK B3 0 tZ := mK_congr (fun j j0 j1 => by
    dsimp only
    unfold tZ
    by_cases c1 : 0 ≤ j ∧ j < 256
    · rw [if_neg (by omega), if_pos c1, if_pos c1]
    · rw [if_neg c1, if_neg c1]
      by_cases c2 : 1673 ≤ j ∧ j < 1681
      · rw [if_pos (by omega), if_pos c2]
      · rw [if_neg (by omega), if_neg c2, if_pos (by omega)])
  rw [kz] at run3'
  have bo : ∀ (k : Nat) i, k ≠ 179 → k ≠ 180 → k ≠ 181 → (k ≠ 167 ∨ (i ≠ 34 ∧ i ≠ 35)) → gS (mK B3 0 tZ) 167 35 0 k i = A9 k i := fun k i q1 q2 q3 q4 => by
    rw [gS_out (by omega), mK_ne q3, b3, gS_out (by omega), b2, mrow_ne q1, b1, mH_ne q2]
  refine ⟨gS (mK B3 0 tZ) 167 35 0, A9, fun Q => ?_, nr, hA, fun k i k0 k1 => bo k i (by omega) (by omega) (by omega) (by omega), fun i i0 i1 => bo 167 i (by omega) (by omega) (by omega) (by omega), fun d d0 d1 => ?_, fun k k0 k1 => ?_, ?_, gS_same, fun k i q => ?_⟩
  · rw [e0] at run1
    rw [b3] at run1' run2' run3'
    simp (disch := first | assumption | omega) only [e219_0, e219_1, e219_2, e219_5, e219_8, e219_9, e219_10, e219_13, e219_16, e219_17, e219_18, e219_21, e219_24, e219_25, e219_26, e219_29, e219_32, e219_33, e219_36, e219_38, e219_41, e219_42, e219_45, e219_47, e219_50, e219_51, e219_54, e219_56, e219_59, e219_60, e219_63, e219_65, e219_68, e219_69, e219_72, e219_74, e219_77, e219_78, e219_81, e219_83, e219_86, e219_87, e219_90, e219_92, e219_95, e219_96, e219_99, e219_101, e219_104, e219_105, e219_108, e219_109, e219_112, e219_113, e219_114, e219_117, e219_118, e219_120, e219_122, e219_125, e219_126, e219_129, e219_130, e219_131, e219_134, e219_135, e219_136, e219_137, e219_140, e219_144, e219_145, e219_148, e219_149, e219_151, e219_154, e219_157, e219_158, e219_159, e219_160, e219_163, e219_166, e219_170, e219_172, e219_175, e219_178, e219_179, e219_180, e219_181, e219_182, e219_183, e219_186, e219_189, e219_193, e219_195, e219_197, e219_200, e219_201, e219_204, e219_205, e219_206, e219_207, e219_210, e219_213, e219_217, e219_218, e219_221, gK0_eq, gK1_eq, gK3_eq, w32_id, bI_eq0, bI_eq1, Bool.false_eq_true, not_true_eq_false, not_false_eq_true, ne_eq, ite_not, ↓reduceIte, if_true, if_false, Int.reduceToNat, Nat.reduceAdd, Int.reduceEq, Int.reduceLT, Int.reduceLE, Int.reduceNeg, bI_T, bI_F, ↓if_pos, ↓if_neg, gS_neI, run1, run2, run3, run4, run5, run6, run7, run8, run9, runL, runG]
    simp (disch := first | assumption | omega) only [e219_0, e219_1, e219_2, e219_5, e219_8, e219_9, e219_10, e219_13, e219_16, e219_17, e219_18, e219_21, e219_24, e219_25, e219_26, e219_29, e219_32, e219_33, e219_36, e219_38, e219_41, e219_42, e219_45, e219_47, e219_50, e219_51, e219_54, e219_56, e219_59, e219_60, e219_63, e219_65, e219_68, e219_69, e219_72, e219_74, e219_77, e219_78, e219_81, e219_83, e219_86, e219_87, e219_90, e219_92, e219_95, e219_96, e219_99, e219_101, e219_104, e219_105, e219_108, e219_109, e219_112, e219_113, e219_114, e219_117, e219_118, e219_120, e219_122, e219_125, e219_126, e219_129, e219_130, e219_131, e219_134, e219_135, e219_136, e219_137, e219_140, e219_143, e219_144, e219_145, e219_148, e219_149, e219_151, e219_154, e219_157, e219_158, e219_159, e219_160, e219_163, e219_166, e219_170, e219_172, e219_175, e219_178, e219_179, e219_180, e219_181, e219_182, e219_183, e219_186, e219_189, e219_193, e219_195, e219_197, e219_200, e219_201, e219_204, e219_205, e219_206, e219_207, e219_210, e219_213, e219_217, e219_218, e219_221, gK0_eq, gK1_eq, gK3_eq, w32_id, bI_eq0, bI_eq1, Bool.false_eq_true, not_true_eq_false, not_false_eq_true, ne_eq, ite_not, ↓reduceIte, if_true, if_false, Int.reduceToNat, Nat.reduceAdd, Int.reduceEq, Int.reduceLT, Int.reduceLE, Int.reduceNeg, bI_T, bI_F, ↓if_pos, ↓if_neg, run1']
    simp (disch := first | assumption | omega) only [e219_0, e219_1, e219_2, e219_5, e219_8, e219_9, e219_10, e219_13, e219_16, e219_17, e219_18, e219_21, e219_24, e219_25, e219_26, e219_29, e219_32, e219_33, e219_36, e219_38, e219_41, e219_42, e219_45, e219_47, e219_50, e219_51, e219_54, e219_56, e219_59, e219_60, e219_63, e219_65, e219_68, e219_69, e219_72, e219_74, e219_77, e219_78, e219_81, e219_83, e219_86, e219_87, e219_90, e219_92, e219_95, e219_96, e219_99, e219_101, e219_104, e219_105, e219_108, e219_109, e219_112, e219_113, e219_114, e219_117, e219_118, e219_120, e219_122, e219_125, e219_126, e219_129, e219_130, e219_131, e219_134, e219_135, e219_136, e219_137, e219_140, e219_143, e219_144, e219_145, e219_148, e219_149, e219_151, e219_154, e219_157, e219_158, e219_159, e219_160, e219_163, e219_166, e219_169, e219_170, e219_172, e219_175, e219_178, e219_179, e219_180, e219_181, e219_182, e219_183, e219_186, e219_189, e219_193, e219_195, e219_197, e219_200, e219_201, e219_204, e219_205, e219_206, e219_207, e219_210, e219_213, e219_217, e219_218, e219_221, gK0_eq, gK1_eq, gK3_eq, w32_id, bI_eq0, bI_eq1, Bool.false_eq_true, not_true_eq_false, not_false_eq_true, ne_eq, ite_not, ↓reduceIte, if_true, if_false, Int.reduceToNat, Nat.reduceAdd, Int.reduceEq, Int.reduceLT, Int.reduceLE, Int.reduceNeg, bI_T, bI_F, ↓if_pos, ↓if_neg, run2']
    simp (disch := first | assumption | omega) only [e219_0, e219_1, e219_2, e219_5, e219_8, e219_9, e219_10, e219_13, e219_16, e219_17, e219_18, e219_21, e219_24, e219_25, e219_26, e219_29, e219_32, e219_33, e219_36, e219_38, e219_41, e219_42, e219_45, e219_47, e219_50, e219_51, e219_54, e219_56, e219_59, e219_60, e219_63, e219_65, e219_68, e219_69, e219_72, e219_74, e219_77, e219_78, e219_81, e219_83, e219_86, e219_87, e219_90, e219_92, e219_95, e219_96, e219_99, e219_101, e219_104, e219_105, e219_108, e219_109, e219_112, e219_113, e219_114, e219_117, e219_118, e219_120, e219_122, e219_125, e219_126, e219_129, e219_130, e219_131, e219_134, e219_135, e219_136, e219_137, e219_140, e219_143, e219_144, e219_145, e219_148, e219_149, e219_151, e219_154, e219_157, e219_158, e219_159, e219_160, e219_163, e219_166, e219_169, e219_170, e219_172, e219_175, e219_178, e219_179, e219_180, e219_181, e219_182, e219_183, e219_186, e219_189, e219_192, e219_193, e219_195, e219_197, e219_200, e219_201, e219_204, e219_205, e219_206, e219_207, e219_210, e219_213, e219_217, e219_218, e219_221, gK0_eq, gK1_eq, gK3_eq, w32_id, bI_eq0, bI_eq1, Bool.false_eq_true, not_true_eq_false, not_false_eq_true, ne_eq, ite_not, ↓reduceIte, if_true, if_false, Int.reduceToNat, Nat.reduceAdd, Int.reduceEq, Int.reduceLT, Int.reduceLE, Int.reduceNeg, bI_T, bI_F, ↓if_pos, ↓if_neg, run3']
    simp (disch := first | assumption | omega) only [e219_0, e219_1, e219_2, e219_5, e219_8, e219_9, e219_10, e219_13, e219_16, e219_17, e219_18, e219_21, e219_24, e219_25, e219_26, e219_29, e219_32, e219_33, e219_36, e219_38, e219_41, e219_42, e219_45, e219_47, e219_50, e219_51, e219_54, e219_56, e219_59, e219_60, e219_63, e219_65, e219_68, e219_69, e219_72, e219_74, e219_77, e219_78, e219_81, e219_83, e219_86, e219_87, e219_90, e219_92, e219_95, e219_96, e219_99, e219_101, e219_104, e219_105, e219_108, e219_109, e219_112, e219_113, e219_114, e219_117, e219_118, e219_120, e219_122, e219_125, e219_126, e219_129, e219_130, e219_131, e219_134, e219_135, e219_136, e219_137, e219_140, e219_143, e219_144, e219_145, e219_148, e219_149, e219_151, e219_154, e219_157, e219_158, e219_159, e219_160, e219_163, e219_166, e219_169, e219_170, e219_172, e219_175, e219_178, e219_179, e219_180, e219_181, e219_182, e219_183, e219_186, e219_189, e219_192, e219_193, e219_195, e219_197, e219_200, e219_201, e219_204, e219_205, e219_206, e219_207, e219_210, e219_213, e219_216, e219_217, e219_218, e219_221, gK0_eq, gK1_eq, gK3_eq, w32_id, bI_eq0, bI_eq1, Bool.false_eq_true, not_true_eq_false, not_false_eq_true, ne_eq, ite_not, ↓reduceIte, if_true, if_false, Int.reduceToNat, Nat.reduceAdd, Int.reduceEq, Int.reduceLT, Int.reduceLE, Int.reduceNeg, bI_T, bI_F, ↓if_pos, ↓if_neg]
    rw [b3]
  · rw [gS_out (by omega), mK_ne (by omega), b3, gS_out (by omega), b2, mrow_same, if_pos ⟨d0, d1⟩, b1, mH_at d0 d1]
  · rw [gS_out (by omega)]
    have z := mK_at (μ := B3) (b := 0) (T := tZ) k0 k1
    rw [show 1960 * 0 + k = k by omega] at z
    exact z
  · rw [gS_out (by omega), mK_ne (by omega), b3, gS_same]
  · rw [bo k i (by omega) (by omega) (by omega) (by omega), a9 _ _ (by omega), a0 _ _ (by omega)]
end TEXT7
