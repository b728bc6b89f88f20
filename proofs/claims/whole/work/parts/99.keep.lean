/-! text that holds: the class's start, the check's keeping -/
def tZ : Int → Int := fun j => if 0 ≤ j ∧ j < 256 then -1 else if 1673 ≤ j ∧ j < 1681 then -1 else 0
section KEEP
variable {C C' M M' X X' μ : gM} {T : Int → Int} {Q : Int → gM → Prop}
theorem tZ_0 {j : Int} (h : 256 ≤ j) (h2 : j < 1673 ∨ 1681 ≤ j) : tZ j = 0 := by
  unfold tZ
  rw [if_neg (by omega), if_neg (by omega)]
theorem tZ_m {j : Int} (h : (0 ≤ j ∧ j < 256) ∨ (1673 ≤ j ∧ j < 1681)) : tZ j = -1 := by
  unfold tZ
  by_cases c : 0 ≤ j ∧ j < 256
  · rw [if_pos c]
  · rw [if_neg c, if_pos (by omega)]
theorem rTd_fr {x lo hi : Nat} {μ' : gM} (hI : gIX X) (h : rTd x X μ) (hf : gFr lo hi μ μ') (hd : x + 12 ≤ lo ∨ hi ≤ x) : rTd x X μ' :=
  rTd_tr hI h (fun i _ => hf _ _ (by omega)) (fun k k0 k1 i _ _ => hf _ _ (by omega))
theorem xLay_grp (hI : gIX X) {ps : Int} : ∀ d, 0 ≤ d → d < 8 → 0 ≤ xLay X ps d ∧ xLay X ps d ≤ d ∧ xLay X ps (xLay X ps d) = xLay X ps d := by
  have hv := hI.2.1
  have hA := hI.2.2.2.2.2.2.2.1
  have pt : tPt (X 167 12) (cLay X ps) := by
    unfold cLay xLy3
    refine itF_inv (I := tPt (X 167 12)) _ _ _ (cJ2s_pt hI) (fun k s k0 k1 hs => ?_)
    obtain ⟨q1, q2, q3, q4⟩ := hA k k0 (by omega)
    exact tMee_pt hs hv.2 ⟨q1, q2⟩ ⟨q3, q4⟩
  intro d d0 d1
  obtain ⟨a, b, c, -⟩ := pt d d0 d1
  have e := cLay_eq hI (ps := ps) d d0 d1
  rw [cLay_eq hI _ (by omega) (by omega), e] at c
  rw [e] at a b
  exact ⟨a, b, c⟩
theorem k_startWith (hI : gIX X) (t : rTd 3 X C) : ∃ C', gFr 17 67 C C' ∧ rTd 18 X C' ∧ (∀ d, 0 ≤ d → d < 8 → C' 30 d = xLay X 0 d) ∧ rTb 32 tZ C' ∧ rFr 39 tZ C' ∧ rQu 44 tZ C' ∧ rCa 49 (X 178 0) tZ C' ∧ rRq 54 tZ C' ∧ rLg 59 tZ C' ∧ (∀ d, 0 ≤ d → d < 8 → C' 66 d = -1) ∧ ∀ Q : Int → gM → Prop, gE 172 0 [gO 6 17, gO 8 3] [] C Q = Q 0 C' := by
  have room := hI.2.2.2.2.2.2.2.2.2.1
  obtain ⟨μ1, f1, t1, -, run1⟩ := k_TrCopy (x := 18) (y := 3) (μ := C) hI (by omega)
  have t18 := t1 t
  have run2 := fun (Q : Int → gM → Prop) => k_join (Q := Q) (a := 30) (ps := 0) hI t18 (Or.inl rfl)
  have f2 : gFr 30 31 μ1 (gL μ1 30 (xLay X 0)) := fun k i q => gL_ne (by omega)
  have l2 : ∀ d, 0 ≤ d → d < 8 → gL μ1 30 (xLay X 0) 30 d = xLay X 0 d := fun d d0 d1 => gL_at d0 d1
  generalize gL μ1 30 (xLay X 0) = μ2 at *
  obtain ⟨μ3, f3, r3, run3⟩ := k_Tclear (x := 32) (T := tZ) (μ := μ2) (tZ_0 (by omega) (by omega)) (fun d d0 d1 => tZ_0 (by omega) (by omega)) (fun i i0 i1 => ⟨tZ_m (by omega), tZ_0 (by omega) (by omega), tZ_0 (by omega) (by omega)⟩)
  obtain ⟨μ4, f4, r4, run4⟩ := k_Fclear (x := 39) (T := tZ) (μ := μ3) ⟨by rw [tZ_0 (by omega) (by omega)]; omega, fun k k0 k1 _ => by rw [tZ_m (by omega)]; omega⟩ (fun i i0 i1 => tZ_m (by omega)) (fun f f0 f1 => ⟨tZ_0 (by omega) (by omega), tZ_0 (by omega) (by omega)⟩) (fun j j0 j1 => tZ_0 (by omega) (by omega))
  obtain ⟨μ5, f5, r5, run5⟩ := k_Qclear (x := 44) (T := tZ) (μ := μ4) (by rw [tZ_0 (by omega) (by omega)]; omega) ⟨tZ_0 (by omega) (by omega), tZ_0 (by omega) (by omega), tZ_0 (by omega) (by omega), tZ_0 (by omega) (by omega)⟩
  obtain ⟨μ6, f6, r6, run6⟩ := k_Cclear (x := 49) (T := tZ) (μ := μ5) room (tZ_0 (by omega) (by omega))
  obtain ⟨μ7, f7, r7, run7⟩ := k_Rclear (x := 54) (T := tZ) (μ := μ6) ⟨tZ_0 (by omega) (by omega), tZ_0 (by omega) (by omega), tZ_0 (by omega) (by omega), tZ_0 (by omega) (by omega), tZ_0 (by omega) (by omega)⟩
  obtain ⟨μ8, f8, r8, run8⟩ := k_Lclear (x := 59) (T := tZ) (μ := μ7) ⟨tZ_0 (by omega) (by omega), tZ_0 (by omega) (by omega), tZ_0 (by omega) (by omega), tZ_0 (by omega) (by omega), tZ_0 (by omega) (by omega)⟩
  have f9 : gFr 66 67 μ8 (mrow μ8 66 (fun j => if 0 ≤ j ∧ j < ((8 : Nat) : Int) then -1 else μ8 66 j)) := gFr_mrow gFr_refl (by omega) (by omega)
  have v9 : ∀ d, 0 ≤ d → d < 8 → mrow μ8 66 (fun j => if 0 ≤ j ∧ j < ((8 : Nat) : Int) then -1 else μ8 66 j) 66 d = -1 := fun d d0 d1 => by
    rw [mrow_same]
    exact if_pos ⟨d0, by omega⟩
  have run9 : ∀ Q : Int → gM → Prop, gE 46 0 [gA 8 66, gI (-1), gX] [] μ8 Q = Q 0 (mrow μ8 66 (fun j => if 0 ≤ j ∧ j < ((8 : Nat) : Int) then -1 else μ8 66 j)) := fun Q => s_fillRow (by omega)
  generalize mrow μ8 66 (fun j => if 0 ≤ j ∧ j < ((8 : Nat) : Int) then -1 else μ8 66 j) = μ9 at *
  have g12 : gFr 17 67 C μ2 := gFr_trans (gFr_mono f1 (by omega) (by omega)) (gFr_mono f2 (by omega) (by omega))
  have g29 : gFr 32 67 μ2 μ9 := gFr_trans (gFr_mono f3 (by omega) (by omega)) (gFr_trans (gFr_mono f4 (by omega) (by omega)) (gFr_trans (gFr_mono f5 (by omega) (by omega)) (gFr_trans (gFr_mono f6 (by omega) (by omega)) (gFr_trans (gFr_mono f7 (by omega) (by omega)) (gFr_trans (gFr_mono f8 (by omega) (by omega)) (gFr_mono f9 (by omega) (by omega)))))))
  have g39 : gFr 39 67 μ3 μ9 := gFr_trans (gFr_mono f4 (by omega) (by omega)) (gFr_trans (gFr_mono f5 (by omega) (by omega)) (gFr_trans (gFr_mono f6 (by omega) (by omega)) (gFr_trans (gFr_mono f7 (by omega) (by omega)) (gFr_trans (gFr_mono f8 (by omega) (by omega)) (gFr_mono f9 (by omega) (by omega))))))
  have g49 : gFr 44 67 μ4 μ9 := gFr_trans (gFr_mono f5 (by omega) (by omega)) (gFr_trans (gFr_mono f6 (by omega) (by omega)) (gFr_trans (gFr_mono f7 (by omega) (by omega)) (gFr_trans (gFr_mono f8 (by omega) (by omega)) (gFr_mono f9 (by omega) (by omega)))))
  have g59 : gFr 49 67 μ5 μ9 := gFr_trans (gFr_mono f6 (by omega) (by omega)) (gFr_trans (gFr_mono f7 (by omega) (by omega)) (gFr_trans (gFr_mono f8 (by omega) (by omega)) (gFr_mono f9 (by omega) (by omega))))
  have g69 : gFr 54 67 μ6 μ9 := gFr_trans (gFr_mono f7 (by omega) (by omega)) (gFr_trans (gFr_mono f8 (by omega) (by omega)) (gFr_mono f9 (by omega) (by omega)))
  have g79 : gFr 59 67 μ7 μ9 := gFr_trans (gFr_mono f8 (by omega) (by omega)) (gFr_mono f9 (by omega) (by omega))
  refine ⟨μ9, gFr_trans g12 (gFr_mono g29 (by omega) (by omega)), rTd_fr hI (rTd_fr hI t18 f2 (by omega)) g29 (by omega), fun d d0 d1 => by rw [g29 _ _ (by omega)]; exact l2 d d0 d1, rTb_fr r3 g39 (by omega) (fun _ _ => rfl), rFr_fr r4 g49 (by omega) (fun _ _ => rfl), rQu_fr r5 g59 (by omega) (fun _ _ _ => rfl), rCa_fr r6 g69 (by omega) (fun _ _ _ => rfl), rRq_fr r7 g79 (by omega) (fun _ _ _ => rfl), rLg_fr r8 f9 (by omega) (fun _ _ => rfl), v9, fun Q => ?_⟩
  simp (disch := first | assumption | omega) only [e172_0, e172_1, e172_4, e172_5, e172_8, e172_9, e172_12, e172_13, e172_14, e172_17, e172_20, e172_23, e172_24, e172_27, e172_30, e172_31, e172_34, e172_37, e172_38, e172_41, e172_44, e172_45, e172_48, e172_51, e172_52, e172_55, e172_58, e172_59, e172_62, e172_65, e172_66, e172_69, e172_70, e172_73, gK0_eq, gK1_eq, gK3_eq, w32_id, bI_eq0, bI_eq1, Bool.false_eq_true, not_true_eq_false, not_false_eq_true, ne_eq, ite_not, ↓reduceIte, if_true, if_false, Int.reduceToNat, Nat.reduceAdd, Int.reduceEq, Int.reduceLT, Int.reduceLE, Int.reduceNeg, bI_T, bI_F, ↓if_pos, ↓if_neg, run1, run2, run3, run4, run5, run6, run7, run8, run9]
theorem s_copies_loop {n : Int} {N k : Nat} (hn : 0 ≤ n ∧ n + n ≤ N) (hN : N < 100) : ∀ (m : Nat) (i : Int) (M : gM), 0 ≤ i → i + m = n → gE 218 2 [gA N k, gI n, gI i] [] M Q = Q 0 (mrow M k (fun j => if i ≤ j ∧ j < n then M k (n + j) else M k j)) := by
  intro m
  induction m with
  | zero =>
    intro i M i0 i1
    have h : n ≤ i := by omega
    rw [mrow_id (fun j => if_neg (by omega)), e218_2]
    simp (disch := first | assumption | omega) only [e218_0, e218_1, e218_3, e218_4, e218_7, e218_8, e218_9, e218_10, e218_11, e218_12, e218_13, e218_14, e218_15, e218_18, e218_21, gK0_eq, gK1_eq, gK3_eq, w32_id, bI_eq0, bI_eq1, Bool.false_eq_true, not_true_eq_false, not_false_eq_true, ne_eq, ite_not, ↓reduceIte, if_true, if_false, Int.reduceToNat, Nat.reduceAdd, Int.reduceEq, Int.reduceLT, Int.reduceLE, Int.reduceNeg, bI_T, bI_F, ↓if_pos, ↓if_neg, h]
  | succ m ih =>
    intro i M i0 i1
    have h : ¬ n ≤ i := by omega
    have a1 : 0 ≤ n + i := by omega
    have a2 : n + i < N := by omega
    have a3 : i < N := by omega
    rw [e218_2]
    simp (disch := first | assumption | omega) only [e218_0, e218_1, e218_3, e218_4, e218_7, e218_8, e218_9, e218_10, e218_11, e218_12, e218_13, e218_14, e218_15, e218_18, e218_21, gK0_eq, gK1_eq, gK3_eq, w32_id, bI_eq0, bI_eq1, Bool.false_eq_true, not_true_eq_false, not_false_eq_true, ne_eq, ite_not, ↓reduceIte, if_true, if_false, Int.reduceToNat, Nat.reduceAdd, Int.reduceEq, Int.reduceLT, Int.reduceLE, Int.reduceNeg, bI_T, bI_F, ↓if_pos, ↓if_neg, h]
    rw [ih (i + 1) _ (by omega) (by omega), gS_mrow, mrow_mrow]
    congr 2
    funext j
    simp only [mrow_same]
    by_cases hj : j = i
    · subst hj
      rw [if_neg (by omega), if_pos rfl, if_pos (by omega)]
    · rw [if_neg hj]
      by_cases hq : i ≤ j ∧ j < n
      · rw [if_pos hq, if_pos (by omega), if_neg (by omega)]
      · rw [if_neg hq, if_neg (by omega)]
theorem s_copies {n : Int} {N k : Nat} (hn : 0 ≤ n ∧ n + n ≤ N) (hN : N < 100) : gE 218 0 [gA N k, gI n, gX] [] M Q = Q 0 (mrow M k (fun j => if 0 ≤ j ∧ j < n then M k (n + j) else M k j)) := by
  simp (disch := first | assumption | omega) only [e218_0, e218_1, e218_3, e218_4, e218_7, e218_8, e218_9, e218_10, e218_11, e218_12, e218_13, e218_14, e218_15, e218_18, e218_21, gK0_eq, gK1_eq, gK3_eq, w32_id, bI_eq0, bI_eq1, Bool.false_eq_true, not_true_eq_false, not_false_eq_true, ne_eq, ite_not, ↓reduceIte, if_true, if_false, Int.reduceToNat, Nat.reduceAdd, Int.reduceEq, Int.reduceLT, Int.reduceLE, Int.reduceNeg, bI_T, bI_F]
  exact s_copies_loop hn hN n.toNat 0 M (by omega) (by omega)
theorem s_groupOf_loop : ∀ (m : Nat) (i : Int) (M : gM), 0 ≤ i → i + m = 8 → gE 219 119 [gO 10 167, gI i] [] M Q = gE 219 143 [gO 10 167, gI 8] [] (mrow M 179 (fun j => if i ≤ j ∧ j < 8 then M 180 j else M 179 j)) Q := by
  intro m
  induction m with
  | zero =>
    intro i M i0 i1
    have h : i = 8 := by omega
    subst h
    rw [mrow_id (fun j => if_neg (by omega)), e219_119]
    simp (disch := first | assumption | omega) only [e219_0, e219_1, e219_2, e219_5, e219_8, e219_9, e219_10, e219_13, e219_16, e219_17, e219_18, e219_21, e219_24, e219_25, e219_26, e219_29, e219_32, e219_33, e219_36, e219_38, e219_41, e219_42, e219_45, e219_47, e219_50, e219_51, e219_54, e219_56, e219_59, e219_60, e219_63, e219_65, e219_68, e219_69, e219_72, e219_74, e219_77, e219_78, e219_81, e219_83, e219_86, e219_87, e219_90, e219_92, e219_95, e219_96, e219_99, e219_101, e219_104, e219_105, e219_108, e219_109, e219_112, e219_113, e219_114, e219_117, e219_118, e219_120, e219_122, e219_125, e219_126, e219_129, e219_130, e219_131, e219_134, e219_135, e219_136, e219_137, e219_140, e219_144, e219_145, e219_148, e219_149, e219_150, e219_151, e219_154, e219_157, e219_158, e219_159, e219_160, e219_163, e219_166, e219_169, e219_170, e219_171, e219_172, e219_175, e219_178, e219_179, e219_180, e219_181, e219_182, e219_183, e219_186, e219_189, e219_192, e219_193, e219_194, e219_195, e219_197, e219_200, e219_201, e219_204, e219_205, e219_206, e219_207, e219_210, e219_213, e219_216, e219_217, e219_218, e219_221, gK0_eq, gK1_eq, gK3_eq, w32_id, bI_eq0, bI_eq1, Bool.false_eq_true, not_true_eq_false, not_false_eq_true, ne_eq, ite_not, ↓reduceIte, if_true, if_false, Int.reduceToNat, Nat.reduceAdd, Int.reduceEq, Int.reduceLT, Int.reduceLE, Int.reduceNeg, bI_T, bI_F, ↓if_pos, ↓if_neg]
  | succ m ih =>
    intro i M i0 i1
    have h : ¬ 8 ≤ i := by omega
    have a3 : i < ((8 : Nat) : Int) := by omega
    rw [e219_119]
    simp (disch := first | assumption | omega) only [e219_0, e219_1, e219_2, e219_5, e219_8, e219_9, e219_10, e219_13, e219_16, e219_17, e219_18, e219_21, e219_24, e219_25, e219_26, e219_29, e219_32, e219_33, e219_36, e219_38, e219_41, e219_42, e219_45, e219_47, e219_50, e219_51, e219_54, e219_56, e219_59, e219_60, e219_63, e219_65, e219_68, e219_69, e219_72, e219_74, e219_77, e219_78, e219_81, e219_83, e219_86, e219_87, e219_90, e219_92, e219_95, e219_96, e219_99, e219_101, e219_104, e219_105, e219_108, e219_109, e219_112, e219_113, e219_114, e219_117, e219_118, e219_120, e219_122, e219_125, e219_126, e219_129, e219_130, e219_131, e219_134, e219_135, e219_136, e219_137, e219_140, e219_144, e219_145, e219_148, e219_149, e219_150, e219_151, e219_154, e219_157, e219_158, e219_159, e219_160, e219_163, e219_166, e219_169, e219_170, e219_171, e219_172, e219_175, e219_178, e219_179, e219_180, e219_181, e219_182, e219_183, e219_186, e219_189, e219_192, e219_193, e219_194, e219_195, e219_197, e219_200, e219_201, e219_204, e219_205, e219_206, e219_207, e219_210, e219_213, e219_216, e219_217, e219_218, e219_221, gK0_eq, gK1_eq, gK3_eq, w32_id, bI_eq0, bI_eq1, Bool.false_eq_true, not_true_eq_false, not_false_eq_true, ne_eq, ite_not, ↓reduceIte, if_true, if_false, Int.reduceToNat, Nat.reduceAdd, Int.reduceEq, Int.reduceLT, Int.reduceLE, Int.reduceNeg, bI_T, bI_F, ↓if_pos, ↓if_neg, h]
    rw [ih (i + 1) _ (by omega) (by omega), gS_mrow, mrow_mrow]
    congr 1
    congr 1
    funext j
    simp only [mrow_same]
    by_cases hj : j = i
    · subst hj
      rw [if_neg (by omega), if_pos rfl, if_pos (by omega)]
    · rw [if_neg hj]
      by_cases hq : i ≤ j ∧ j < 8
      · rw [if_pos hq, if_pos (by omega), mrow_ne (by omega)]
      · rw [if_neg hq, if_neg (by omega)]
theorem s_zero_loop (hb : gBk μ 0) : ∀ (m : Nat) (i : Int) (T : Int → Int), 0 ≤ i → i + m = 1960 → gE 219 150 [gO 10 167, gI i] [] (mK μ 0 T) Q = gE 219 169 [gO 10 167, gI 1960] [] (mK μ 0 (fun j => if i ≤ j ∧ j < 1960 then 0 else T j)) Q := by
  intro m
  induction m with
  | zero =>
    intro i T i0 i1
    have h : i = 1960 := by omega
    subst h
    rw [mK_congr (T' := fun j => if 1960 ≤ j ∧ j < 1960 then 0 else T j) (fun k k0 k1 => by rw [if_neg (by omega)]), e219_150]
    simp (disch := first | assumption | omega) only [e219_0, e219_1, e219_2, e219_5, e219_8, e219_9, e219_10, e219_13, e219_16, e219_17, e219_18, e219_21, e219_24, e219_25, e219_26, e219_29, e219_32, e219_33, e219_36, e219_38, e219_41, e219_42, e219_45, e219_47, e219_50, e219_51, e219_54, e219_56, e219_59, e219_60, e219_63, e219_65, e219_68, e219_69, e219_72, e219_74, e219_77, e219_78, e219_81, e219_83, e219_86, e219_87, e219_90, e219_92, e219_95, e219_96, e219_99, e219_101, e219_104, e219_105, e219_108, e219_109, e219_112, e219_113, e219_114, e219_117, e219_118, e219_119, e219_120, e219_122, e219_125, e219_126, e219_129, e219_130, e219_131, e219_134, e219_135, e219_136, e219_137, e219_140, e219_143, e219_144, e219_145, e219_148, e219_149, e219_151, e219_154, e219_157, e219_158, e219_159, e219_160, e219_163, e219_166, e219_170, e219_171, e219_172, e219_175, e219_178, e219_179, e219_180, e219_181, e219_182, e219_183, e219_186, e219_189, e219_192, e219_193, e219_194, e219_195, e219_197, e219_200, e219_201, e219_204, e219_205, e219_206, e219_207, e219_210, e219_213, e219_216, e219_217, e219_218, e219_221, gK0_eq, gK1_eq, gK3_eq, w32_id, bI_eq0, bI_eq1, Bool.false_eq_true, not_true_eq_false, not_false_eq_true, ne_eq, ite_not, ↓reduceIte, if_true, if_false, Int.reduceToNat, Nat.reduceAdd, Int.reduceEq, Int.reduceLT, Int.reduceLE, Int.reduceNeg, bI_T, bI_F, ↓if_pos, ↓if_neg]
  | succ m ih =>
    intro i T i0 i1
    have h : ¬ 1960 ≤ i := by omega
    rw [e219_150]
    simp (disch := first | assumption | omega) only [e219_0, e219_1, e219_2, e219_5, e219_8, e219_9, e219_10, e219_13, e219_16, e219_17, e219_18, e219_21, e219_24, e219_25, e219_26, e219_29, e219_32, e219_33, e219_36, e219_38, e219_41, e219_42, e219_45, e219_47, e219_50, e219_51, e219_54, e219_56, e219_59, e219_60, e219_63, e219_65, e219_68, e219_69, e219_72, e219_74, e219_77, e219_78, e219_81, e219_83, e219_86, e219_87, e219_90, e219_92, e219_95, e219_96, e219_99, e219_101, e219_104, e219_105, e219_108, e219_109, e219_112, e219_113, e219_114, e219_117, e219_118, e219_119, e219_120, e219_122, e219_125, e219_126, e219_129, e219_130, e219_131, e219_134, e219_135, e219_136, e219_137, e219_140, e219_143, e219_144, e219_145, e219_148, e219_149, e219_151, e219_154, e219_157, e219_158, e219_159, e219_160, e219_163, e219_166, e219_170, e219_171, e219_172, e219_175, e219_178, e219_179, e219_180, e219_181, e219_182, e219_183, e219_186, e219_189, e219_192, e219_193, e219_194, e219_195, e219_197, e219_200, e219_201, e219_204, e219_205, e219_206, e219_207, e219_210, e219_213, e219_216, e219_217, e219_218, e219_221, gK0_eq, gK1_eq, gK3_eq, w32_id, bI_eq0, bI_eq1, Bool.false_eq_true, not_true_eq_false, not_false_eq_true, ne_eq, ite_not, ↓reduceIte, if_true, if_false, Int.reduceToNat, Nat.reduceAdd, Int.reduceEq, Int.reduceLT, Int.reduceLE, Int.reduceNeg, bI_T, bI_F, ↓if_pos, ↓if_neg, h, s_lay]
    rw [ih (i + 1) _ (by omega) (by omega)]
    congr 1
    refine mK_congr (fun j j0 j1 => ?_)
    by_cases hj : j = i
    · rw [hj, if_neg (by omega), tS_same, if_pos (by omega)]
    · rw [tS_ne hj]
      by_cases hq : i ≤ j ∧ j < 1960
      · rw [if_pos hq, if_pos (by omega)]
      · rw [if_neg hq, if_neg (by omega)]
theorem s_fra_loop (hb : gBk μ 0) : ∀ (m : Nat) (i : Int) (T : Int → Int), 0 ≤ i → i + m = 256 → gE 219 171 [gO 10 167, gI i] [] (mK μ 0 T) Q = gE 219 192 [gO 10 167, gI 256] [] (mK μ 0 (fun j => if i ≤ j ∧ j < 256 then -1 else T j)) Q := by
  intro m
  induction m with
  | zero =>
    intro i T i0 i1
    have h : i = 256 := by omega
    subst h
    rw [mK_congr (T' := fun j => if 256 ≤ j ∧ j < 256 then -1 else T j) (fun k k0 k1 => by rw [if_neg (by omega)]), e219_171]
    simp (disch := first | assumption | omega) only [e219_0, e219_1, e219_2, e219_5, e219_8, e219_9, e219_10, e219_13, e219_16, e219_17, e219_18, e219_21, e219_24, e219_25, e219_26, e219_29, e219_32, e219_33, e219_36, e219_38, e219_41, e219_42, e219_45, e219_47, e219_50, e219_51, e219_54, e219_56, e219_59, e219_60, e219_63, e219_65, e219_68, e219_69, e219_72, e219_74, e219_77, e219_78, e219_81, e219_83, e219_86, e219_87, e219_90, e219_92, e219_95, e219_96, e219_99, e219_101, e219_104, e219_105, e219_108, e219_109, e219_112, e219_113, e219_114, e219_117, e219_118, e219_119, e219_120, e219_122, e219_125, e219_126, e219_129, e219_130, e219_131, e219_134, e219_135, e219_136, e219_137, e219_140, e219_143, e219_144, e219_145, e219_148, e219_149, e219_150, e219_151, e219_154, e219_157, e219_158, e219_159, e219_160, e219_163, e219_166, e219_169, e219_170, e219_172, e219_175, e219_178, e219_179, e219_180, e219_181, e219_182, e219_183, e219_186, e219_189, e219_193, e219_194, e219_195, e219_197, e219_200, e219_201, e219_204, e219_205, e219_206, e219_207, e219_210, e219_213, e219_216, e219_217, e219_218, e219_221, gK0_eq, gK1_eq, gK3_eq, w32_id, bI_eq0, bI_eq1, Bool.false_eq_true, not_true_eq_false, not_false_eq_true, ne_eq, ite_not, ↓reduceIte, if_true, if_false, Int.reduceToNat, Nat.reduceAdd, Int.reduceEq, Int.reduceLT, Int.reduceLE, Int.reduceNeg, bI_T, bI_F, ↓if_pos, ↓if_neg]
  | succ m ih =>
    intro i T i0 i1
    have h : ¬ 256 ≤ i := by omega
    rw [e219_171]
    simp (disch := first | assumption | omega) only [e219_0, e219_1, e219_2, e219_5, e219_8, e219_9, e219_10, e219_13, e219_16, e219_17, e219_18, e219_21, e219_24, e219_25, e219_26, e219_29, e219_32, e219_33, e219_36, e219_38, e219_41, e219_42, e219_45, e219_47, e219_50, e219_51, e219_54, e219_56, e219_59, e219_60, e219_63, e219_65, e219_68, e219_69, e219_72, e219_74, e219_77, e219_78, e219_81, e219_83, e219_86, e219_87, e219_90, e219_92, e219_95, e219_96, e219_99, e219_101, e219_104, e219_105, e219_108, e219_109, e219_112, e219_113, e219_114, e219_117, e219_118, e219_119, e219_120, e219_122, e219_125, e219_126, e219_129, e219_130, e219_131, e219_134, e219_135, e219_136, e219_137, e219_140, e219_143, e219_144, e219_145, e219_148, e219_149, e219_150, e219_151, e219_154, e219_157, e219_158, e219_159, e219_160, e219_163, e219_166, e219_169, e219_170, e219_172, e219_175, e219_178, e219_179, e219_180, e219_181, e219_182, e219_183, e219_186, e219_189, e219_193, e219_194, e219_195, e219_197, e219_200, e219_201, e219_204, e219_205, e219_206, e219_207, e219_210, e219_213, e219_216, e219_217, e219_218, e219_221, gK0_eq, gK1_eq, gK3_eq, w32_id, bI_eq0, bI_eq1, Bool.false_eq_true, not_true_eq_false, not_false_eq_true, ne_eq, ite_not, ↓reduceIte, if_true, if_false, Int.reduceToNat, Nat.reduceAdd, Int.reduceEq, Int.reduceLT, Int.reduceLE, Int.reduceNeg, bI_T, bI_F, ↓if_pos, ↓if_neg, h, s_lay, Int.zero_add]
    rw [ih (i + 1) _ (by omega) (by omega)]
    congr 1
    refine mK_congr (fun j j0 j1 => ?_)
    by_cases hj : j = i
    · rw [hj, if_neg (by omega), tS_same, if_pos (by omega)]
    · rw [tS_ne hj]
      by_cases hq : i ≤ j ∧ j < 256
      · rw [if_pos hq, if_pos (by omega)]
      · rw [if_neg hq, if_neg (by omega)]
theorem s_has_loop (hb : gBk μ 0) : ∀ (m : Nat) (i : Int) (T : Int → Int), 0 ≤ i → i + m = 8 → gE 219 194 [gO 10 167, gI i] [] (mK μ 0 T) Q = gE 219 216 [gO 10 167, gI 8] [] (mK μ 0 (fun j => if 1673 + i ≤ j ∧ j < 1681 then -1 else T j)) Q := by
  intro m
  induction m with
  | zero =>
    intro i T i0 i1
    have h : i = 8 := by omega
    subst h
    rw [mK_congr (T' := fun j => if 1673 + 8 ≤ j ∧ j < 1681 then -1 else T j) (fun k k0 k1 => by rw [if_neg (by omega)]), e219_194]
    simp (disch := first | assumption | omega) only [e219_0, e219_1, e219_2, e219_5, e219_8, e219_9, e219_10, e219_13, e219_16, e219_17, e219_18, e219_21, e219_24, e219_25, e219_26, e219_29, e219_32, e219_33, e219_36, e219_38, e219_41, e219_42, e219_45, e219_47, e219_50, e219_51, e219_54, e219_56, e219_59, e219_60, e219_63, e219_65, e219_68, e219_69, e219_72, e219_74, e219_77, e219_78, e219_81, e219_83, e219_86, e219_87, e219_90, e219_92, e219_95, e219_96, e219_99, e219_101, e219_104, e219_105, e219_108, e219_109, e219_112, e219_113, e219_114, e219_117, e219_118, e219_119, e219_120, e219_122, e219_125, e219_126, e219_129, e219_130, e219_131, e219_134, e219_135, e219_136, e219_137, e219_140, e219_143, e219_144, e219_145, e219_148, e219_149, e219_150, e219_151, e219_154, e219_157, e219_158, e219_159, e219_160, e219_163, e219_166, e219_169, e219_170, e219_171, e219_172, e219_175, e219_178, e219_179, e219_180, e219_181, e219_182, e219_183, e219_186, e219_189, e219_192, e219_193, e219_195, e219_197, e219_200, e219_201, e219_204, e219_205, e219_206, e219_207, e219_210, e219_213, e219_217, e219_218, e219_221, gK0_eq, gK1_eq, gK3_eq, w32_id, bI_eq0, bI_eq1, Bool.false_eq_true, not_true_eq_false, not_false_eq_true, ne_eq, ite_not, ↓reduceIte, if_true, if_false, Int.reduceToNat, Nat.reduceAdd, Int.reduceEq, Int.reduceLT, Int.reduceLE, Int.reduceNeg, bI_T, bI_F, ↓if_pos, ↓if_neg]
  | succ m ih =>
    intro i T i0 i1
    have h : ¬ 8 ≤ i := by omega
    rw [e219_194]
    simp (disch := first | assumption | omega) only [e219_0, e219_1, e219_2, e219_5, e219_8, e219_9, e219_10, e219_13, e219_16, e219_17, e219_18, e219_21, e219_24, e219_25, e219_26, e219_29, e219_32, e219_33, e219_36, e219_38, e219_41, e219_42, e219_45, e219_47, e219_50, e219_51, e219_54, e219_56, e219_59, e219_60, e219_63, e219_65, e219_68, e219_69, e219_72, e219_74, e219_77, e219_78, e219_81, e219_83, e219_86, e219_87, e219_90, e219_92, e219_95, e219_96, e219_99, e219_101, e219_104, e219_105, e219_108, e219_109, e219_112, e219_113, e219_114, e219_117, e219_118, e219_119, e219_120, e219_122, e219_125, e219_126, e219_129, e219_130, e219_131, e219_134, e219_135, e219_136, e219_137, e219_140, e219_143, e219_144, e219_145, e219_148, e219_149, e219_150, e219_151, e219_154, e219_157, e219_158, e219_159, e219_160, e219_163, e219_166, e219_169, e219_170, e219_171, e219_172, e219_175, e219_178, e219_179, e219_180, e219_181, e219_182, e219_183, e219_186, e219_189, e219_192, e219_193, e219_195, e219_197, e219_200, e219_201, e219_204, e219_205, e219_206, e219_207, e219_210, e219_213, e219_217, e219_218, e219_221, gK0_eq, gK1_eq, gK3_eq, w32_id, bI_eq0, bI_eq1, Bool.false_eq_true, not_true_eq_false, not_false_eq_true, ne_eq, ite_not, ↓reduceIte, if_true, if_false, Int.reduceToNat, Nat.reduceAdd, Int.reduceEq, Int.reduceLT, Int.reduceLE, Int.reduceNeg, bI_T, bI_F, ↓if_pos, ↓if_neg, h, s_lay]
    rw [ih (i + 1) _ (by omega) (by omega)]
    congr 1
    refine mK_congr (fun j j0 j1 => ?_)
    by_cases hj : j = 1673 + i
    · rw [hj, if_neg (by omega), tS_same, if_pos (by omega)]
    · rw [tS_ne hj]
      by_cases hq : 1673 + i ≤ j ∧ j < 1681
      · rw [if_pos hq, if_pos (by omega)]
      · rw [if_neg hq, if_neg (by omega)]
end KEEP
