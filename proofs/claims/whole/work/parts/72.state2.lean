/-! the class: its state: mapping, unmapping, flushes, copies -/
section STATE2
variable {B C : Nat} {X μ μ' : gM} {T T' : Int → Int} {Q : Int → gM → Prop}
theorem tRef_lo {c a j : Int} (h : j < 1918 ∨ 1927 ≤ j) : tRef T c a j = T j := by
  unfold tRef
  rw [tBec_lo h (by rw [tS_same]; omega), tS_ne (by omega)]
theorem k_Srefuse {c a : Int} (hI : gIX X) (h : rSt B X T μ) : ∃ μ', gFr B (B + 50) μ μ' ∧ rSt B X (tRef T c a) μ' ∧ ∀ Q : Int → gM → Prop, gE 165 0 [gO 2 (B + 42), gI c, gI a] [] μ Q = Q (-2) μ' := by
  obtain ⟨μ1, f1, r1, run1⟩ := k_refuse (c := c) (a := a) h.2.2.2.2.2.2.1
  exact ⟨μ1, gFr_mono f1 (by omega) (by omega), ⟨rTr_fr hI h.1 f1 (by omega), rTb_fr h.2.1 f1 (by omega) (fun j hj => by exact tRef_lo (by omega)), rFr_fr h.2.2.1 f1 (by omega) (fun j hj => by exact tRef_lo (by omega)), rQu_fr h.2.2.2.1 f1 (by omega) (fun j j1 j2 => by exact tRef_lo (by omega)), rCa_fr h.2.2.2.2.1 f1 (by omega) (fun j j1 j2 => by exact tRef_lo (by omega)), rRq_fr h.2.2.2.2.2.1 f1 (by omega) (fun j j1 j2 => by exact tRef_lo (by omega)), r1, rDm_fr hI h.2.2.2.2.2.2.2 f1 (by omega) (fun j j1 j2 => by exact tRef_lo (by omega))⟩, run1⟩
theorem k_flushByCall {d : Int} (hI : gIX X) (h : rSt B X T μ) (hd : 0 ≤ d ∧ d < T 1672) : ∃ μ', gFr B (B + 50) μ μ' ∧ rSt B X (tFluT T d) μ' ∧ ∀ Q : Int → gM → Prop, gE 183 0 [gO 6 B, gI d] [] μ Q = Q (tFluA T d) μ' := by
  have h0 := h.2.2.2.1.2.1
  unfold tFluT tFluA
  rw [if_pos hd, if_pos hd]
  by_cases c : 22 < T 1681
  · have c' : ¬ T 1681 ≤ 22 := by omega
    obtain ⟨μ1, f1, r1, run1⟩ := k_Srefuse (c := 6) (a := T 1681) hI h
    rw [if_pos c, if_pos c]
    refine ⟨μ1, f1, r1, fun Q => ?_⟩
    simp (disch := first | assumption | omega) only [e183_0, e183_1, e183_4, e183_7, e183_10, e183_11, e183_12, e183_15, e183_18, e183_19, e183_22, e183_24, e183_25, e183_28, e183_31, e183_34, gK0_eq, gK1_eq, gK3_eq, w32_id, bI_eq0, bI_eq1, Bool.false_eq_true, not_true_eq_false, not_false_eq_true, ne_eq, ite_not, ↓reduceIte, if_true, if_false, Int.reduceToNat, Nat.reduceAdd, Int.reduceEq, Int.reduceLT, Int.reduceLE, Int.reduceNeg, bI_T, bI_F, ↓if_pos, ↓if_neg, k_QtakesTwo h.2.2.2.1, bI_f c', h0, run1]
  · have c' : T 1681 ≤ 22 := by omega
    obtain ⟨μ1, f1, r1, run1⟩ := k_flushOf hI h hd (by omega)
    rw [if_neg c, if_neg c]
    refine ⟨μ1, f1, r1, fun Q => ?_⟩
    simp (disch := first | assumption | omega) only [e183_0, e183_1, e183_4, e183_7, e183_10, e183_11, e183_12, e183_15, e183_18, e183_19, e183_22, e183_24, e183_25, e183_28, e183_31, e183_34, gK0_eq, gK1_eq, gK3_eq, w32_id, bI_eq0, bI_eq1, Bool.false_eq_true, not_true_eq_false, not_false_eq_true, ne_eq, ite_not, ↓reduceIte, if_true, if_false, Int.reduceToNat, Nat.reduceAdd, Int.reduceEq, Int.reduceLT, Int.reduceLE, Int.reduceNeg, bI_T, bI_F, ↓if_pos, ↓if_neg, k_QtakesTwo h.2.2.2.1, bI_t c', run1]
/-- what mapping some pages comes to -/
theorem tMapN_val {d p f r g : Int} (hd : 0 ≤ d ∧ d < 4) (hp : 0 ≤ p) : ∀ (m : Nat) (k : Int) (T : Int → Int) (j : Int), 0 ≤ k → p + k + m ≤ 64 →
    itF (fun k T => tMaps T d (p + k) (f + k) r g) k m T j = if 64 * d + p + k ≤ j ∧ j < 64 * d + p + k + m then f + (j - (64 * d + p)) else if 256 + (64 * d + p) + k ≤ j ∧ j < 256 + (64 * d + p) + k + m then r else if 512 + (64 * d + p) + k ≤ j ∧ j < 512 + (64 * d + p) + k + m then iand32 g 1 else if 768 + (64 * d + p) + k ≤ j ∧ j < 768 + (64 * d + p) + k + m then ishr32 g 1 else T j := by
  intro m
  induction m with
  | zero =>
    intro k T j k0 k1
    rw [itF, if_neg (by omega), if_neg (by omega), if_neg (by omega), if_neg (by omega)]
  | succ m ih =>
    intro k T j k0 k1
    have hpk : 0 ≤ p + k ∧ p + k < 64 := by omega
    obtain ⟨m1, m2, m3, m4⟩ := tMaps_at (T := T) (f := f + k) (r := r) (g := g) hd hpk
    rw [itF, ih (k + 1) _ j (by omega) (by omega)]
    by_cases c1 : 64 * d + p + k ≤ j ∧ j < 64 * d + p + k + (m + 1 : Nat)
    · rw [if_pos c1]
      by_cases z : j = 64 * d + (p + k)
      · rw [if_neg (by omega), if_neg (by omega), if_neg (by omega), if_neg (by omega), z, m1]; omega
      · rw [if_pos (by omega)]
    · rw [if_neg c1, if_neg (show ¬ (64 * d + p + (k + 1) ≤ j ∧ j < 64 * d + p + (k + 1) + m) by omega)]
      by_cases c2 : 256 + (64 * d + p) + k ≤ j ∧ j < 256 + (64 * d + p) + k + (m + 1 : Nat)
      · rw [if_pos c2]
        by_cases z : j = 256 + (64 * d + (p + k))
        · rw [if_neg (by omega), if_neg (by omega), if_neg (by omega), z, m2]
        · rw [if_pos (by omega)]
      · rw [if_neg c2, if_neg (show ¬ (256 + (64 * d + p) + (k + 1) ≤ j ∧ j < 256 + (64 * d + p) + (k + 1) + m) by omega)]
        by_cases c3 : 512 + (64 * d + p) + k ≤ j ∧ j < 512 + (64 * d + p) + k + (m + 1 : Nat)
        · rw [if_pos c3]
          by_cases z : j = 512 + (64 * d + (p + k))
          · rw [if_neg (by omega), if_neg (by omega), z, m3]
          · rw [if_pos (by omega)]
        · rw [if_neg c3, if_neg (show ¬ (512 + (64 * d + p) + (k + 1) ≤ j ∧ j < 512 + (64 * d + p) + (k + 1) + m) by omega)]
          by_cases c4 : 768 + (64 * d + p) + k ≤ j ∧ j < 768 + (64 * d + p) + k + (m + 1 : Nat)
          · rw [if_pos c4]
            by_cases z : j = 768 + (64 * d + (p + k))
            · rw [if_neg (by omega), z, m4]
            · rw [if_pos (by omega)]
          · rw [if_neg c4, if_neg (show ¬ (768 + (64 * d + p) + (k + 1) ≤ j ∧ j < 768 + (64 * d + p) + (k + 1) + m) by omega), tMaps_lo (by omega)]
theorem tMapN_blk {d p f r : Int} (hd : 0 ≤ d ∧ d < 4) (hp : 0 ≤ p ∧ p ≤ 60) : tBl1 (tMapN T d p f r 0 4) (64 * d + p) = tMapN T d p f r 2 4 := by
  have z1 : iand32 0 1 = 0 := by decide
  have z2 : ishr32 0 1 = 0 := by decide
  have z3 : iand32 2 1 = 0 := by decide
  have z4 : ishr32 2 1 = 1 := by decide
  have e4 : (4 : Int).toNat = 4 := rfl
  funext j
  rw [tBl1_at]
  unfold tMapN
  rw [e4, tMapN_val hd hp.1 4 0 T j (by omega) (by omega), tMapN_val hd hp.1 4 0 T j (by omega) (by omega), z1, z2, z3, z4]
  by_cases c : 768 + (64 * d + p) ≤ j ∧ j < 768 + (64 * d + p) + 4
  · rw [if_pos c, if_neg (by omega), if_neg (by omega), if_neg (by omega), if_pos (by omega)]
  · rw [if_neg c, if_neg (show ¬ (768 + (64 * d + p) + 0 ≤ j ∧ j < 768 + (64 * d + p) + 0 + (4 : Nat)) by omega), if_neg (show ¬ (768 + (64 * d + p) + 0 ≤ j ∧ j < 768 + (64 * d + p) + 0 + (4 : Nat)) by omega)]
theorem k_map_l1 {d p f r v n : Int} (hI : gIX X) (h : rSt B X T μ) (hd : 0 ≤ d ∧ d < 4) (hp : 0 ≤ p) (hn : p + n ≤ 64) : ∀ (m : Nat) (k : Int), 0 ≤ k → k + m = n →
    (0 ≤ findF (fun k => tMp T d (p + k)) k m → ∃ μ', gFr B (B + 50) μ μ' ∧ rSt B X (tRef T 1 (p + findF (fun k => tMp T d (p + k)) k m)) μ' ∧ ∀ Q : Int → gM → Prop, gE 179 15 [gO 6 B, gI d, gI p, gI f, gI r, gI v, gI n, gI k] [] μ Q = Q (-2) μ') ∧
    (findF (fun k => tMp T d (p + k)) k m < 0 → ∀ Q : Int → gM → Prop, gE 179 15 [gO 6 B, gI d, gI p, gI f, gI r, gI v, gI n, gI k] [] μ Q = gE 179 56 [gO 6 B, gI d, gI p, gI f, gI r, gI v, gI n, gI n] [] μ Q) := by
  intro m
  induction m with
  | zero =>
    intro k k0 k1
    have c : n ≤ k := by omega
    have e : k = n := by omega
    refine ⟨fun z => by rw [findF] at z; omega, fun _ Q => ?_⟩
    rw [e179_15]
    simp (disch := first | assumption | omega) only [e179_0, e179_2, e179_5, e179_6, e179_9, e179_10, e179_12, e179_13, e179_17, e179_19, e179_22, e179_23, e179_26, e179_27, e179_28, e179_30, e179_31, e179_34, e179_37, e179_38, e179_41, e179_42, e179_43, e179_45, e179_46, e179_49, e179_50, e179_53, e179_57, e179_59, e179_61, e179_63, e179_66, e179_67, e179_70, e179_71, e179_73, e179_74, e179_77, e179_78, e179_81, e179_82, e179_85, e179_86, e179_87, e179_89, e179_90, e179_93, e179_94, e179_97, e179_100, e179_101, e179_103, e179_105, e179_107, e179_110, e179_111, e179_112, e179_113, e179_115, e179_116, e179_117, e179_119, e179_120, e179_122, e179_125, e179_128, e179_131, e179_133, e179_136, e179_137, e179_140, e179_141, e179_142, e179_145, e179_146, e179_149, e179_150, e179_153, gK0_eq, gK1_eq, gK3_eq, w32_id, bI_eq0, bI_eq1, Bool.false_eq_true, not_true_eq_false, not_false_eq_true, ne_eq, ite_not, ↓reduceIte, if_true, if_false, Int.reduceToNat, Nat.reduceAdd, Int.reduceEq, Int.reduceLT, Int.reduceLE, Int.reduceNeg, bI_T, bI_F, ↓if_pos, ↓if_neg, c]
    rw [e]
  | succ m ih =>
    intro k k0 k1
    have c : ¬ n ≤ k := by omega
    have hpk : 0 ≤ p + k ∧ p + k < 64 := by omega
    rw [findF]
    cases hm : tMp T d (p + k) with
    | true =>
      rw [if_pos rfl]
      refine ⟨fun _ => ?_, fun z => by omega⟩
      obtain ⟨μ1, f1, r1, run1⟩ := k_Srefuse (c := 1) (a := p + k) hI h
      refine ⟨μ1, f1, r1, fun Q => ?_⟩
      rw [e179_15]
      simp (disch := first | assumption | omega) only [e179_0, e179_2, e179_5, e179_6, e179_9, e179_10, e179_12, e179_13, e179_17, e179_19, e179_22, e179_23, e179_26, e179_27, e179_28, e179_30, e179_31, e179_34, e179_37, e179_38, e179_41, e179_42, e179_43, e179_45, e179_46, e179_49, e179_50, e179_53, e179_57, e179_59, e179_61, e179_63, e179_66, e179_67, e179_70, e179_71, e179_73, e179_74, e179_77, e179_78, e179_81, e179_82, e179_85, e179_86, e179_87, e179_89, e179_90, e179_93, e179_94, e179_97, e179_100, e179_101, e179_103, e179_105, e179_107, e179_110, e179_111, e179_112, e179_113, e179_115, e179_116, e179_117, e179_119, e179_120, e179_122, e179_125, e179_128, e179_131, e179_133, e179_136, e179_137, e179_140, e179_141, e179_142, e179_145, e179_146, e179_149, e179_150, e179_153, gK0_eq, gK1_eq, gK3_eq, w32_id, bI_eq0, bI_eq1, Bool.false_eq_true, not_true_eq_false, not_false_eq_true, ne_eq, ite_not, ↓reduceIte, if_true, if_false, Int.reduceToNat, Nat.reduceAdd, Int.reduceEq, Int.reduceLT, Int.reduceLE, Int.reduceNeg, bI_T, bI_F, ↓if_pos, ↓if_neg, c, k_isMapped h.2.1 hd hpk, hm, run1]
    | false =>
      rw [if_neg (c := false = true) Bool.noConfusion]
      obtain ⟨i1, i2⟩ := ih (k + 1) (by omega) (by omega)
      have st : ∀ Q : Int → gM → Prop, gE 179 15 [gO 6 B, gI d, gI p, gI f, gI r, gI v, gI n, gI k] [] μ Q = gE 179 15 [gO 6 B, gI d, gI p, gI f, gI r, gI v, gI n, gI (k + 1)] [] μ Q := fun Q => by
        rw [e179_15]
        simp (disch := first | assumption | omega) only [e179_0, e179_2, e179_5, e179_6, e179_9, e179_10, e179_12, e179_13, e179_17, e179_19, e179_22, e179_23, e179_26, e179_27, e179_28, e179_30, e179_31, e179_34, e179_37, e179_38, e179_41, e179_42, e179_43, e179_45, e179_46, e179_49, e179_50, e179_53, e179_57, e179_59, e179_61, e179_63, e179_66, e179_67, e179_70, e179_71, e179_73, e179_74, e179_77, e179_78, e179_81, e179_82, e179_85, e179_86, e179_87, e179_89, e179_90, e179_93, e179_94, e179_97, e179_100, e179_101, e179_103, e179_105, e179_107, e179_110, e179_111, e179_112, e179_113, e179_115, e179_116, e179_117, e179_119, e179_120, e179_122, e179_125, e179_128, e179_131, e179_133, e179_136, e179_137, e179_140, e179_141, e179_142, e179_145, e179_146, e179_149, e179_150, e179_153, gK0_eq, gK1_eq, gK3_eq, w32_id, bI_eq0, bI_eq1, Bool.false_eq_true, not_true_eq_false, not_false_eq_true, ne_eq, ite_not, ↓reduceIte, if_true, if_false, Int.reduceToNat, Nat.reduceAdd, Int.reduceEq, Int.reduceLT, Int.reduceLE, Int.reduceNeg, bI_T, bI_F, ↓if_pos, ↓if_neg, c, k_isMapped h.2.1 hd hpk, hm]
      refine ⟨fun z => ?_, fun z Q => by rw [st Q]; exact i2 z Q⟩
      obtain ⟨μ1, f1, r1, run1⟩ := i1 z
      exact ⟨μ1, f1, r1, fun Q => by rw [st Q]; exact run1 Q⟩
theorem k_map_l2 {d p f r v n : Int} (hI : gIX X) (h : rSt B X T μ) (hf : 0 ≤ f) (hn : f + n ≤ 64) : ∀ (m : Nat) (k : Int), 0 ≤ k → k + m = n →
    (0 ≤ findF (fun k => decide (tState T (f + k) = 2)) k m → ∃ μ', gFr B (B + 50) μ μ' ∧ rSt B X (tRef T 2 (f + findF (fun k => decide (tState T (f + k) = 2)) k m)) μ' ∧ ∀ Q : Int → gM → Prop, gE 179 59 [gO 6 B, gI d, gI p, gI f, gI r, gI v, gI n, gI k] [] μ Q = Q (-2) μ') ∧
    (findF (fun k => decide (tState T (f + k) = 2)) k m < 0 → ∀ Q : Int → gM → Prop, gE 179 59 [gO 6 B, gI d, gI p, gI f, gI r, gI v, gI n, gI k] [] μ Q = gE 179 100 [gO 6 B, gI d, gI p, gI f, gI r, gI v, gI n, gI n] [] μ Q) := by
  intro m
  induction m with
  | zero =>
    intro k k0 k1
    have c : n ≤ k := by omega
    have e : k = n := by omega
    refine ⟨fun z => by rw [findF] at z; omega, fun _ Q => ?_⟩
    rw [e179_59]
    simp (disch := first | assumption | omega) only [e179_0, e179_2, e179_5, e179_6, e179_9, e179_10, e179_12, e179_13, e179_15, e179_17, e179_19, e179_22, e179_23, e179_26, e179_27, e179_28, e179_30, e179_31, e179_34, e179_37, e179_38, e179_41, e179_42, e179_43, e179_45, e179_46, e179_49, e179_50, e179_53, e179_56, e179_57, e179_61, e179_63, e179_66, e179_67, e179_70, e179_71, e179_73, e179_74, e179_77, e179_78, e179_81, e179_82, e179_85, e179_86, e179_87, e179_89, e179_90, e179_93, e179_94, e179_97, e179_101, e179_103, e179_105, e179_107, e179_110, e179_111, e179_112, e179_113, e179_115, e179_116, e179_117, e179_119, e179_120, e179_122, e179_125, e179_128, e179_131, e179_133, e179_136, e179_137, e179_140, e179_141, e179_142, e179_145, e179_146, e179_149, e179_150, e179_153, gK0_eq, gK1_eq, gK3_eq, w32_id, bI_eq0, bI_eq1, Bool.false_eq_true, not_true_eq_false, not_false_eq_true, ne_eq, ite_not, ↓reduceIte, if_true, if_false, Int.reduceToNat, Nat.reduceAdd, Int.reduceEq, Int.reduceLT, Int.reduceLE, Int.reduceNeg, bI_T, bI_F, ↓if_pos, ↓if_neg, c]
    rw [e]
  | succ m ih =>
    intro k k0 k1
    have c : ¬ n ≤ k := by omega
    have hfk : 0 ≤ f + k ∧ f + k < 64 := by omega
    rw [findF]
    by_cases hm : tState T (f + k) = 2
    · rw [if_pos (decide_eq_true hm)]
      refine ⟨fun _ => ?_, fun z => by omega⟩
      obtain ⟨μ1, f1, r1, run1⟩ := k_Srefuse (c := 2) (a := f + k) hI h
      refine ⟨μ1, f1, r1, fun Q => ?_⟩
      rw [e179_59]
      simp (disch := first | assumption | omega) only [e179_0, e179_2, e179_5, e179_6, e179_9, e179_10, e179_12, e179_13, e179_15, e179_17, e179_19, e179_22, e179_23, e179_26, e179_27, e179_28, e179_30, e179_31, e179_34, e179_37, e179_38, e179_41, e179_42, e179_43, e179_45, e179_46, e179_49, e179_50, e179_53, e179_56, e179_57, e179_61, e179_63, e179_66, e179_67, e179_70, e179_71, e179_73, e179_74, e179_77, e179_78, e179_81, e179_82, e179_85, e179_86, e179_87, e179_89, e179_90, e179_93, e179_94, e179_97, e179_101, e179_103, e179_105, e179_107, e179_110, e179_111, e179_112, e179_113, e179_115, e179_116, e179_117, e179_119, e179_120, e179_122, e179_125, e179_128, e179_131, e179_133, e179_136, e179_137, e179_140, e179_141, e179_142, e179_145, e179_146, e179_149, e179_150, e179_153, gK0_eq, gK1_eq, gK3_eq, w32_id, bI_eq0, bI_eq1, Bool.false_eq_true, not_true_eq_false, not_false_eq_true, ne_eq, ite_not, ↓reduceIte, if_true, if_false, Int.reduceToNat, Nat.reduceAdd, Int.reduceEq, Int.reduceLT, Int.reduceLE, Int.reduceNeg, bI_T, bI_F, ↓if_pos, ↓if_neg, c, k_stateOf h.2.2.1 hfk, hm, run1]
    · rw [if_neg (by rw [decide_eq_false hm]; exact Bool.noConfusion)]
      obtain ⟨i1, i2⟩ := ih (k + 1) (by omega) (by omega)
      have st : ∀ Q : Int → gM → Prop, gE 179 59 [gO 6 B, gI d, gI p, gI f, gI r, gI v, gI n, gI k] [] μ Q = gE 179 59 [gO 6 B, gI d, gI p, gI f, gI r, gI v, gI n, gI (k + 1)] [] μ Q := fun Q => by
        rw [e179_59]
        simp (disch := first | assumption | omega) only [e179_0, e179_2, e179_5, e179_6, e179_9, e179_10, e179_12, e179_13, e179_15, e179_17, e179_19, e179_22, e179_23, e179_26, e179_27, e179_28, e179_30, e179_31, e179_34, e179_37, e179_38, e179_41, e179_42, e179_43, e179_45, e179_46, e179_49, e179_50, e179_53, e179_56, e179_57, e179_61, e179_63, e179_66, e179_67, e179_70, e179_71, e179_73, e179_74, e179_77, e179_78, e179_81, e179_82, e179_85, e179_86, e179_87, e179_89, e179_90, e179_93, e179_94, e179_97, e179_101, e179_103, e179_105, e179_107, e179_110, e179_111, e179_112, e179_113, e179_115, e179_116, e179_117, e179_119, e179_120, e179_122, e179_125, e179_128, e179_131, e179_133, e179_136, e179_137, e179_140, e179_141, e179_142, e179_145, e179_146, e179_149, e179_150, e179_153, gK0_eq, gK1_eq, gK3_eq, w32_id, bI_eq0, bI_eq1, Bool.false_eq_true, not_true_eq_false, not_false_eq_true, ne_eq, ite_not, ↓reduceIte, if_true, if_false, Int.reduceToNat, Nat.reduceAdd, Int.reduceEq, Int.reduceLT, Int.reduceLE, Int.reduceNeg, bI_T, bI_F, ↓if_pos, ↓if_neg, c, k_stateOf h.2.2.1 hfk, hm]
      refine ⟨fun z => ?_, fun z Q => by rw [st Q]; exact i2 z Q⟩
      obtain ⟨μ1, f1, r1, run1⟩ := i1 z
      exact ⟨μ1, f1, r1, fun Q => by rw [st Q]; exact run1 Q⟩
theorem k_map_l3 {d p f r v n : Int} (hI : gIX X) (hp : 0 ≤ p) (hn : p + n ≤ 64) (hf : 0 ≤ f) (hfn : f + n ≤ 64) (hr : 1 ≤ r ∧ r ≤ 3) : ∀ (m : Nat) (k : Int) (T : Int → Int) (μ : gM), rSt B X T μ → (0 ≤ d ∧ d < T 1672) → 0 ≤ k → k + m = n → (∀ j, k ≤ j → j < n → T (64 * d + (p + j)) < 0) →
    ∃ μ', gFr B (B + 50) μ μ' ∧ rSt B X (itF (fun k T => tMaps T d (p + k) (f + k) r 0) k m T) μ' ∧ ∀ Q : Int → gM → Prop, gE 179 103 [gO 6 B, gI d, gI p, gI f, gI r, gI v, gI n, gI k] [] μ Q = gE 179 131 [gO 6 B, gI d, gI p, gI f, gI r, gI v, gI n, gI n] [] μ' Q := by
  intro m
  induction m with
  | zero =>
    intro k T μ h hd k0 k1 hu
    have c : n ≤ k := by omega
    have e : k = n := by omega
    refine ⟨μ, gFr_refl, h, fun Q => ?_⟩
    rw [e179_103]
    simp (disch := first | assumption | omega) only [e179_0, e179_2, e179_5, e179_6, e179_9, e179_10, e179_12, e179_13, e179_15, e179_17, e179_19, e179_22, e179_23, e179_26, e179_27, e179_28, e179_30, e179_31, e179_34, e179_37, e179_38, e179_41, e179_42, e179_43, e179_45, e179_46, e179_49, e179_50, e179_53, e179_56, e179_57, e179_59, e179_61, e179_63, e179_66, e179_67, e179_70, e179_71, e179_73, e179_74, e179_77, e179_78, e179_81, e179_82, e179_85, e179_86, e179_87, e179_89, e179_90, e179_93, e179_94, e179_97, e179_100, e179_101, e179_105, e179_107, e179_110, e179_111, e179_112, e179_113, e179_115, e179_116, e179_117, e179_119, e179_120, e179_122, e179_125, e179_128, e179_133, e179_136, e179_137, e179_140, e179_141, e179_142, e179_145, e179_146, e179_149, e179_150, e179_153, gK0_eq, gK1_eq, gK3_eq, w32_id, bI_eq0, bI_eq1, Bool.false_eq_true, not_true_eq_false, not_false_eq_true, ne_eq, ite_not, ↓reduceIte, if_true, if_false, Int.reduceToNat, Nat.reduceAdd, Int.reduceEq, Int.reduceLT, Int.reduceLE, Int.reduceNeg, bI_T, bI_F, ↓if_pos, ↓if_neg, c]
    rw [e]
  | succ m ih =>
    intro k T μ h hd k0 k1 hu
    have c : ¬ n ≤ k := by omega
    have hD := h.2.1.1
    obtain ⟨μ1, f1, r1, run1⟩ := k_Senter (p := p + k) (f := f + k) hI h hd (by omega) (hu k (by omega) (by omega)) (by omega) hr
    obtain ⟨μ2, f2, r2, run2⟩ := ih (k + 1) _ μ1 r1 (by rw [tMaps_lo (by omega)]; exact hd) (by omega) (by omega) (fun j j0 j1 => by rw [tMaps_lo (by omega)]; exact hu j (by omega) j1)
    refine ⟨μ2, gFr_trans f1 f2, r2, fun Q => ?_⟩
    rw [e179_103]
    simp (disch := first | assumption | omega) only [e179_0, e179_2, e179_5, e179_6, e179_9, e179_10, e179_12, e179_13, e179_15, e179_17, e179_19, e179_22, e179_23, e179_26, e179_27, e179_28, e179_30, e179_31, e179_34, e179_37, e179_38, e179_41, e179_42, e179_43, e179_45, e179_46, e179_49, e179_50, e179_53, e179_56, e179_57, e179_59, e179_61, e179_63, e179_66, e179_67, e179_70, e179_71, e179_73, e179_74, e179_77, e179_78, e179_81, e179_82, e179_85, e179_86, e179_87, e179_89, e179_90, e179_93, e179_94, e179_97, e179_100, e179_101, e179_105, e179_107, e179_110, e179_111, e179_112, e179_113, e179_115, e179_116, e179_117, e179_119, e179_120, e179_122, e179_125, e179_128, e179_133, e179_136, e179_137, e179_140, e179_141, e179_142, e179_145, e179_146, e179_149, e179_150, e179_153, gK0_eq, gK1_eq, gK3_eq, w32_id, bI_eq0, bI_eq1, Bool.false_eq_true, not_true_eq_false, not_false_eq_true, ne_eq, ite_not, ↓reduceIte, if_true, if_false, Int.reduceToNat, Nat.reduceAdd, Int.reduceEq, Int.reduceLT, Int.reduceLE, Int.reduceNeg, bI_T, bI_F, ↓if_pos, ↓if_neg, c, run1, run2]
theorem k_mapPages {d p f r v n g : Int} (hI : gIX X) (h : rSt B X T μ) (hn : n = if v = 0 then 1 else 4) (hg : g = if v = 0 then 0 else 2) (hG : 0 ≤ d ∧ d < T 1672 ∧ 0 ≤ p ∧ p < 64 ∧ 0 ≤ f ∧ f < 64 ∧ 1 ≤ r ∧ r ≤ 3 ∧ p % n = 0 ∧ f % n = 0) : ∃ μ', gFr B (B + 50) μ μ' ∧ rSt B X (tMapT T d p f r n g) μ' ∧ ∀ Q : Int → gM → Prop, gE 179 0 [gO 6 B, gI d, gI p, gI f, gI r, gI v, gX, gX] [] μ Q = Q (tMapA T (tMapT T d p f r n g) d p f r n) μ' := by
  have hD := h.2.1.1
  obtain ⟨g1, g2, g3, g4, g5, g6, g7, g8, g9, g10⟩ := hG
  have hd4 : 0 ≤ d ∧ d < 4 := by omega
  have n14 : (v = 0 ∧ n = 1 ∧ g = 0) ∨ (v ≠ 0 ∧ n = 4 ∧ g = 2) := by
    by_cases c : v = 0
    · rw [if_pos c] at hn hg; exact Or.inl ⟨c, hn, hg⟩
    · rw [if_neg c] at hn hg; exact Or.inr ⟨c, hn, hg⟩
  have pn : p + n ≤ 64 := by rcases n14 with ⟨-, e, -⟩ | ⟨-, e, -⟩ <;> subst e <;> omega
  have fn : f + n ≤ 64 := by rcases n14 with ⟨-, e, -⟩ | ⟨-, e, -⟩ <;> subst e <;> omega
  have n0 : 0 ≤ n := by omega
  have st : ∀ Q : Int → gM → Prop, gE 179 0 [gO 6 B, gI d, gI p, gI f, gI r, gI v, gX, gX] [] μ Q = gE 179 15 [gO 6 B, gI d, gI p, gI f, gI r, gI v, gI n, gI 0] [] μ Q := fun Q => by
    rcases n14 with ⟨e1, e2, -⟩ | ⟨e1, e2, -⟩
    · simp (disch := first | assumption | omega) only [e179_0, e179_2, e179_5, e179_6, e179_9, e179_10, e179_12, e179_13, e179_17, e179_19, e179_22, e179_23, e179_26, e179_27, e179_28, e179_30, e179_31, e179_34, e179_37, e179_38, e179_41, e179_42, e179_43, e179_45, e179_46, e179_49, e179_50, e179_53, e179_56, e179_57, e179_59, e179_61, e179_63, e179_66, e179_67, e179_70, e179_71, e179_73, e179_74, e179_77, e179_78, e179_81, e179_82, e179_85, e179_86, e179_87, e179_89, e179_90, e179_93, e179_94, e179_97, e179_100, e179_101, e179_103, e179_105, e179_107, e179_110, e179_111, e179_112, e179_113, e179_115, e179_116, e179_117, e179_119, e179_120, e179_122, e179_125, e179_128, e179_131, e179_133, e179_136, e179_137, e179_140, e179_141, e179_142, e179_145, e179_146, e179_149, e179_150, e179_153, gK0_eq, gK1_eq, gK3_eq, w32_id, bI_eq0, bI_eq1, Bool.false_eq_true, not_true_eq_false, not_false_eq_true, ne_eq, ite_not, ↓reduceIte, if_true, if_false, Int.reduceToNat, Nat.reduceAdd, Int.reduceEq, Int.reduceLT, Int.reduceLE, Int.reduceNeg, bI_T, bI_F, ↓if_pos, ↓if_neg, e1, e2]
    · simp (disch := first | assumption | omega) only [e179_0, e179_2, e179_5, e179_6, e179_9, e179_10, e179_12, e179_13, e179_17, e179_19, e179_22, e179_23, e179_26, e179_27, e179_28, e179_30, e179_31, e179_34, e179_37, e179_38, e179_41, e179_42, e179_43, e179_45, e179_46, e179_49, e179_50, e179_53, e179_56, e179_57, e179_59, e179_61, e179_63, e179_66, e179_67, e179_70, e179_71, e179_73, e179_74, e179_77, e179_78, e179_81, e179_82, e179_85, e179_86, e179_87, e179_89, e179_90, e179_93, e179_94, e179_97, e179_100, e179_101, e179_103, e179_105, e179_107, e179_110, e179_111, e179_112, e179_113, e179_115, e179_116, e179_117, e179_119, e179_120, e179_122, e179_125, e179_128, e179_131, e179_133, e179_136, e179_137, e179_140, e179_141, e179_142, e179_145, e179_146, e179_149, e179_150, e179_153, gK0_eq, gK1_eq, gK3_eq, w32_id, bI_eq0, bI_eq1, Bool.false_eq_true, not_true_eq_false, not_false_eq_true, ne_eq, ite_not, ↓reduceIte, if_true, if_false, Int.reduceToNat, Nat.reduceAdd, Int.reduceEq, Int.reduceLT, Int.reduceLE, Int.reduceNeg, bI_T, bI_F, ↓if_pos, ↓if_neg, e1, e2]
  unfold tMapT tMapA
  have hG' : 0 ≤ d ∧ d < T 1672 ∧ 0 ≤ p ∧ p < 64 ∧ 0 ≤ f ∧ f < 64 ∧ 1 ≤ r ∧ r ≤ 3 ∧ p % n = 0 ∧ f % n = 0 := ⟨g1, g2, g3, g4, g5, g6, g7, g8, g9, g10⟩
  simp only [if_pos hG']
  obtain ⟨l1, l2⟩ := k_map_l1 (f := f) (r := r) (v := v) hI h hd4 g3 pn n.toNat 0 (by omega) (by omega)
  have u1 : tMpF T d p n = findF (fun k => tMp T d (p + k)) 0 n.toNat := rfl
  have u2 : tHeF T f n = findF (fun k => decide (tState T (f + k) = 2)) 0 n.toNat := rfl
  by_cases c1 : 0 ≤ tMpF T d p n
  · obtain ⟨μ1, f1, r1, run1⟩ := l1 c1
    rw [if_pos c1, if_pos c1]
    exact ⟨μ1, f1, r1, fun Q => by rw [st, run1]⟩
  · rw [if_neg c1, if_neg c1]
    have s1 := l2 (by omega)
    obtain ⟨l3, l4⟩ := k_map_l2 (d := d) (p := p) (r := r) (v := v) hI h g5 fn n.toNat 0 (by omega) (by omega)
    have st2 : ∀ Q : Int → gM → Prop, gE 179 0 [gO 6 B, gI d, gI p, gI f, gI r, gI v, gX, gX] [] μ Q = gE 179 59 [gO 6 B, gI d, gI p, gI f, gI r, gI v, gI n, gI 0] [] μ Q := fun Q => by
      rw [st, s1]
      simp (disch := first | assumption | omega) only [e179_0, e179_2, e179_5, e179_6, e179_9, e179_10, e179_12, e179_13, e179_17, e179_19, e179_22, e179_23, e179_26, e179_27, e179_28, e179_30, e179_31, e179_34, e179_37, e179_38, e179_41, e179_42, e179_43, e179_45, e179_46, e179_49, e179_50, e179_53, e179_56, e179_57, e179_61, e179_63, e179_66, e179_67, e179_70, e179_71, e179_73, e179_74, e179_77, e179_78, e179_81, e179_82, e179_85, e179_86, e179_87, e179_89, e179_90, e179_93, e179_94, e179_97, e179_100, e179_101, e179_103, e179_105, e179_107, e179_110, e179_111, e179_112, e179_113, e179_115, e179_116, e179_117, e179_119, e179_120, e179_122, e179_125, e179_128, e179_131, e179_133, e179_136, e179_137, e179_140, e179_141, e179_142, e179_145, e179_146, e179_149, e179_150, e179_153, gK0_eq, gK1_eq, gK3_eq, w32_id, bI_eq0, bI_eq1, Bool.false_eq_true, not_true_eq_false, not_false_eq_true, ne_eq, ite_not, ↓reduceIte, if_true, if_false, Int.reduceToNat, Nat.reduceAdd, Int.reduceEq, Int.reduceLT, Int.reduceLE, Int.reduceNeg, bI_T, bI_F]
    by_cases c2 : 0 ≤ tHeF T f n
    · obtain ⟨μ1, f1, r1, run1⟩ := l3 c2
      rw [if_pos c2, if_pos c2]
      exact ⟨μ1, f1, r1, fun Q => by rw [st2, run1]⟩
    · rw [if_neg c2, if_neg c2]
      have s2 := l4 (by omega)
      have hu : ∀ j, 0 ≤ j → j < n → T (64 * d + (p + j)) < 0 := by
        intro j j0 j1
        rcases findF_in (P := fun k => tMp T d (p + k)) n.toNat 0 (by omega) with ⟨-, q⟩ | ⟨q, -⟩
        · have := q j j0 (by omega)
          unfold tMp at this
          rw [decide_eq_false_iff_not] at this
          omega
        · omega
      obtain ⟨μ1, f1, r1, run1⟩ := k_map_l3 (v := v) hI g3 pn g5 fn ⟨g7, g8⟩ n.toNat 0 T μ h ⟨g1, g2⟩ (by omega) (by omega) hu
      have st3 : ∀ Q : Int → gM → Prop, gE 179 0 [gO 6 B, gI d, gI p, gI f, gI r, gI v, gX, gX] [] μ Q = gE 179 131 [gO 6 B, gI d, gI p, gI f, gI r, gI v, gI n, gI n] [] μ1 Q := fun Q => by
        rw [st2, s2, ← run1]
        simp (disch := first | assumption | omega) only [e179_0, e179_2, e179_5, e179_6, e179_9, e179_10, e179_12, e179_13, e179_17, e179_19, e179_22, e179_23, e179_26, e179_27, e179_28, e179_30, e179_31, e179_34, e179_37, e179_38, e179_41, e179_42, e179_43, e179_45, e179_46, e179_49, e179_50, e179_53, e179_56, e179_57, e179_61, e179_63, e179_66, e179_67, e179_70, e179_71, e179_73, e179_74, e179_77, e179_78, e179_81, e179_82, e179_85, e179_86, e179_87, e179_89, e179_90, e179_93, e179_94, e179_97, e179_100, e179_101, e179_105, e179_107, e179_110, e179_111, e179_112, e179_113, e179_115, e179_116, e179_117, e179_119, e179_120, e179_122, e179_125, e179_128, e179_131, e179_133, e179_136, e179_137, e179_140, e179_141, e179_142, e179_145, e179_146, e179_149, e179_150, e179_153, gK0_eq, gK1_eq, gK3_eq, w32_id, bI_eq0, bI_eq1, Bool.false_eq_true, not_true_eq_false, not_false_eq_true, ne_eq, ite_not, ↓reduceIte, if_true, if_false, Int.reduceToNat, Nat.reduceAdd, Int.reduceEq, Int.reduceLT, Int.reduceLE, Int.reduceNeg, bI_T, bI_F]
      rcases n14 with ⟨e1, e2, e3⟩ | ⟨e1, e2, e3⟩
      · subst e2
        subst e3
        refine ⟨μ1, f1, r1, fun Q => ?_⟩
        rw [st3]
        simp (disch := first | assumption | omega) only [e179_0, e179_2, e179_5, e179_6, e179_9, e179_10, e179_12, e179_13, e179_17, e179_19, e179_22, e179_23, e179_26, e179_27, e179_28, e179_30, e179_31, e179_34, e179_37, e179_38, e179_41, e179_42, e179_43, e179_45, e179_46, e179_49, e179_50, e179_53, e179_56, e179_57, e179_61, e179_63, e179_66, e179_67, e179_70, e179_71, e179_73, e179_74, e179_77, e179_78, e179_81, e179_82, e179_85, e179_86, e179_87, e179_89, e179_90, e179_93, e179_94, e179_97, e179_100, e179_101, e179_105, e179_107, e179_110, e179_111, e179_112, e179_113, e179_115, e179_116, e179_117, e179_119, e179_120, e179_122, e179_125, e179_128, e179_131, e179_133, e179_136, e179_137, e179_140, e179_141, e179_142, e179_145, e179_146, e179_149, e179_150, e179_153, gK0_eq, gK1_eq, gK3_eq, w32_id, bI_eq0, bI_eq1, Bool.false_eq_true, not_true_eq_false, not_false_eq_true, ne_eq, ite_not, ↓reduceIte, if_true, if_false, Int.reduceToNat, Nat.reduceAdd, Int.reduceEq, Int.reduceLT, Int.reduceLE, Int.reduceNeg, bI_T, bI_F, ↓if_pos, ↓if_neg, e1, k_tablesOf r1.2.1 hd4]
        rfl
      · subst e2
        subst e3
        have v0 := fun j => tMapN_val (f := f) (r := r) (g := 0) hd4 g3 4 0 T j (by omega) (by omega)
        have r1' : rSt B X (tMapN T d p f r 0 4) μ1 := r1
        have va : ∀ j, tMapN T d p f r 0 4 j = _ := v0
        obtain ⟨μ2, f2, r2, run2⟩ := k_makeBlock r1'.2.1 hd4 (p := p) (by omega) g9 (fun j j0 j1 => by
          rw [va, if_pos (by omega)]; omega)
        rw [tMapN_blk hd4 (by omega)] at r2
        have z1 : iand32 0 1 = 0 := by decide
        have lo : ∀ j, (j < 768 ∨ 1024 ≤ j) → tMapN T d p f r 2 4 j = tMapN T d p f r 0 4 j := fun j hj => by
          rw [← tMapN_blk hd4 (by omega), tBl1_at, if_neg (by omega)]
        refine ⟨μ2, gFr_trans f1 (gFr_mono f2 (by omega) (by omega)), ⟨rTr_fr hI r1'.1 f2 (by omega), r2, rFr_fr r1'.2.2.1 f2 (by omega) (fun j hj => by exact lo j (by omega)), rQu_fr r1'.2.2.2.1 f2 (by omega) (fun j j1 j2 => by exact lo j (by omega)), rCa_fr r1'.2.2.2.2.1 f2 (by omega) (fun j j1 j2 => by exact lo j (by omega)), rRq_fr r1'.2.2.2.2.2.1 f2 (by omega) (fun j j1 j2 => by exact lo j (by omega)), rLg_fr r1'.2.2.2.2.2.2.1 f2 (by omega) (fun j hj => by exact lo j (by omega)), rDm_fr hI r1'.2.2.2.2.2.2.2 f2 (by omega) (fun j j1 j2 => by exact lo j (by omega))⟩, fun Q => ?_⟩
        rw [st3]
        simp (disch := first | assumption | omega) only [e179_0, e179_2, e179_5, e179_6, e179_9, e179_10, e179_12, e179_13, e179_17, e179_19, e179_22, e179_23, e179_26, e179_27, e179_28, e179_30, e179_31, e179_34, e179_37, e179_38, e179_41, e179_42, e179_43, e179_45, e179_46, e179_49, e179_50, e179_53, e179_56, e179_57, e179_61, e179_63, e179_66, e179_67, e179_70, e179_71, e179_73, e179_74, e179_77, e179_78, e179_81, e179_82, e179_85, e179_86, e179_87, e179_89, e179_90, e179_93, e179_94, e179_97, e179_100, e179_101, e179_105, e179_107, e179_110, e179_111, e179_112, e179_113, e179_115, e179_116, e179_117, e179_119, e179_120, e179_122, e179_125, e179_128, e179_131, e179_133, e179_136, e179_137, e179_140, e179_141, e179_142, e179_145, e179_146, e179_149, e179_150, e179_153, gK0_eq, gK1_eq, gK3_eq, w32_id, bI_eq0, bI_eq1, Bool.false_eq_true, not_true_eq_false, not_false_eq_true, ne_eq, ite_not, ↓reduceIte, if_true, if_false, Int.reduceToNat, Nat.reduceAdd, Int.reduceEq, Int.reduceLT, Int.reduceLE, Int.reduceNeg, bI_T, bI_F, ↓if_pos, ↓if_neg, e1, run2, k_tablesOf r2 hd4]
theorem k_oweOne {d : Int} (hI : gIX X) (h : rSt B X T μ) (hd : 0 ≤ d ∧ d < T 1672) (hq : T 1681 ≤ 22) (ho : 0 ≤ T (1668 + d) ∧ T (1668 + d) ≤ 3) : ∃ μ', gFr B (B + 50) μ μ' ∧ rSt B X (if T (1668 + d) = 3 then tFlu (tMor T (1668 + d)) d else tMor T (1668 + d)) μ' ∧ ∀ Q : Int → gM → Prop, gE 181 0 [gO 6 B, gI d, gX] [] μ Q = Q 0 μ' := by
  have hD := h.2.1.1
  have b := ((h.2.1.2.2.1 d hd.1 (by omega)).2.1 hd.2).2.1
  have d0 := hd.1
  have d1 : d < ((4 : Nat) : Int) := by omega
  have e : tMor T (1668 + d) = tS T (1668 + d) (T (1668 + d) + 1) := by unfold tMor; rw [w32_id (by omega) (by omega)]
  have r1 : rSt B X (tMor T (1668 + d)) (gS μ (B + 15 + 2) d (T (1668 + d) + 1)) := by
    have f1 : gFr (B + 15) (B + 22) μ (gS μ (B + 15 + 2) d (T (1668 + d) + 1)) := gFr_gS gFr_refl (by omega) (by omega)
    rw [e]
    exact ⟨rTr_fr hI h.1 f1 (by omega), rTb_owed h.2.1 hd (by omega), rFr_fr h.2.2.1 f1 (by omega) (fun j hj => by exact tS_ne (by omega)), rQu_fr h.2.2.2.1 f1 (by omega) (fun j j1 j2 => by exact tS_ne (by omega)), rCa_fr h.2.2.2.2.1 f1 (by omega) (fun j j1 j2 => by exact tS_ne (by omega)), rRq_fr h.2.2.2.2.2.1 f1 (by omega) (fun j j1 j2 => by exact tS_ne (by omega)), rLg_fr h.2.2.2.2.2.2.1 f1 (by omega) (fun j hj => by exact tS_ne (by omega)), rDm_fr hI h.2.2.2.2.2.2.2 f1 (by omega) (fun j j1 j2 => by exact tS_ne (by omega))⟩
  have f1 : gFr B (B + 50) μ (gS μ (B + 15 + 2) d (T (1668 + d) + 1)) := gFr_gS gFr_refl (by omega) (by omega)
  by_cases c : T (1668 + d) = 3
  · have c' : ¬ T (1668 + d) + 1 < 4 := by omega
    obtain ⟨μ2, f2, r2, run2⟩ := k_flushOf (d := d) hI r1 (by rw [tMor_ne (by omega)]; exact hd) (by rw [tMor_ne (by omega)]; omega)
    rw [if_pos c]
    refine ⟨μ2, gFr_trans f1 f2, r2, fun Q => ?_⟩
    simp (disch := first | assumption | omega) only [e181_0, e181_1, e181_4, e181_7, e181_8, e181_11, e181_12, e181_13, e181_14, e181_15, e181_18, e181_21, e181_22, e181_23, e181_26, e181_27, e181_28, e181_31, e181_32, e181_33, e181_36, e181_37, gK0_eq, gK1_eq, gK3_eq, w32_id, bI_eq0, bI_eq1, Bool.false_eq_true, not_true_eq_false, not_false_eq_true, ne_eq, ite_not, ↓reduceIte, if_true, if_false, Int.reduceToNat, Nat.reduceAdd, Int.reduceEq, Int.reduceLT, Int.reduceLE, Int.reduceNeg, bI_T, bI_F, ↓if_pos, ↓if_neg, s_at, atv_in, b, s_put', putv_in, c', run2]
  · have c' : T (1668 + d) + 1 < 4 := by omega
    rw [if_neg c]
    refine ⟨_, f1, r1, fun Q => ?_⟩
    simp (disch := first | assumption | omega) only [e181_0, e181_1, e181_4, e181_7, e181_8, e181_11, e181_12, e181_13, e181_14, e181_15, e181_18, e181_21, e181_22, e181_23, e181_26, e181_27, e181_28, e181_31, e181_32, e181_33, e181_36, e181_37, gK0_eq, gK1_eq, gK3_eq, w32_id, bI_eq0, bI_eq1, Bool.false_eq_true, not_true_eq_false, not_false_eq_true, ne_eq, ite_not, ↓reduceIte, if_true, if_false, Int.reduceToNat, Nat.reduceAdd, Int.reduceEq, Int.reduceLT, Int.reduceLE, Int.reduceNeg, bI_T, bI_F, ↓if_pos, ↓if_neg, s_at, atv_in, b, s_put', putv_in, c']
theorem k_unmapPage {d p : Int} (hI : gIX X) (h : rSt B X T μ) (hd : 0 ≤ d ∧ d < T 1672) (hp : 0 ≤ p ∧ p < 64) (ho : ∀ d, 0 ≤ d → d < 4 → T (1668 + d) ≤ 3) : ∃ μ', gFr B (B + 50) μ μ' ∧ rSt B X (tUnmT T d p) μ' ∧ ∀ Q : Int → gM → Prop, gE 180 0 [gO 6 B, gI d, gI p] [] μ Q = Q (tUnmA T (tUnmT T d p) d p) μ' := by
  have hD := h.2.1.1
  have hd4 : 0 ≤ d ∧ d < 4 := by omega
  have hG : 0 ≤ d ∧ d < T 1672 ∧ 0 ≤ p ∧ p < 64 := ⟨hd.1, hd.2, hp.1, hp.2⟩
  have a1 : T (512 + 64 * d + p) = T (512 + (64 * d + p)) := by rw [Int.add_assoc]
  have q0 := h.2.2.2.1.1
  have h0 := h.2.2.2.1.2.1
  unfold tUnmT tUnmA
  simp only [if_pos hG, a1]
  cases hm : tMp T d p with
  | false =>
    obtain ⟨μ1, f1, r1, run1⟩ := k_Srefuse (c := 7) (a := tLvl T d p) hI h
    rw [if_neg (c := false = true) Bool.noConfusion, if_neg (fun z : false = true ∧ _ => Bool.noConfusion z.1)]
    refine ⟨μ1, f1, r1, fun Q => ?_⟩
    simp (disch := first | assumption | omega) only [e180_0, e180_1, e180_4, e180_5, e180_6, e180_9, e180_12, e180_13, e180_16, e180_18, e180_19, e180_22, e180_23, e180_24, e180_27, e180_30, e180_31, e180_32, e180_35, e180_36, e180_37, e180_40, e180_43, e180_44, e180_47, e180_48, e180_49, e180_52, e180_53, e180_54, e180_57, e180_60, e180_63, e180_64, e180_67, e180_69, e180_70, e180_73, e180_76, e180_79, e180_80, e180_81, e180_82, e180_83, e180_86, e180_87, e180_90, e180_93, e180_94, e180_97, e180_98, e180_101, e180_102, e180_103, e180_106, e180_109, e180_110, e180_113, e180_114, e180_115, e180_116, e180_117, e180_118, e180_121, e180_122, e180_123, e180_126, e180_129, e180_130, e180_133, e180_134, e180_137, gK0_eq, gK1_eq, gK3_eq, w32_id, bI_eq0, bI_eq1, Bool.false_eq_true, not_true_eq_false, not_false_eq_true, ne_eq, ite_not, ↓reduceIte, if_true, if_false, Int.reduceToNat, Nat.reduceAdd, Int.reduceEq, Int.reduceLT, Int.reduceLE, Int.reduceNeg, bI_T, bI_F, ↓if_pos, ↓if_neg, k_isMapped h.2.1 hd4 hp, hm, k_levelOf h.2.1 hd4 hp, run1]
  | true =>
    rw [if_pos rfl]
    by_cases c1 : T (512 + (64 * d + p)) = 1
    · obtain ⟨μ1, f1, r1, run1⟩ := k_Srefuse (c := 3) (a := p) hI h
      rw [if_pos c1, if_neg (fun z => z.2.1 c1)]
      refine ⟨μ1, f1, r1, fun Q => ?_⟩
      simp (disch := first | assumption | omega) only [e180_0, e180_1, e180_4, e180_5, e180_6, e180_9, e180_12, e180_13, e180_16, e180_18, e180_19, e180_22, e180_23, e180_24, e180_27, e180_30, e180_31, e180_32, e180_35, e180_36, e180_37, e180_40, e180_43, e180_44, e180_47, e180_48, e180_49, e180_52, e180_53, e180_54, e180_57, e180_60, e180_63, e180_64, e180_67, e180_69, e180_70, e180_73, e180_76, e180_79, e180_80, e180_81, e180_82, e180_83, e180_86, e180_87, e180_90, e180_93, e180_94, e180_97, e180_98, e180_101, e180_102, e180_103, e180_106, e180_109, e180_110, e180_113, e180_114, e180_115, e180_116, e180_117, e180_118, e180_121, e180_122, e180_123, e180_126, e180_129, e180_130, e180_133, e180_134, e180_137, gK0_eq, gK1_eq, gK3_eq, w32_id, bI_eq0, bI_eq1, Bool.false_eq_true, not_true_eq_false, not_false_eq_true, ne_eq, ite_not, ↓reduceIte, if_true, if_false, Int.reduceToNat, Nat.reduceAdd, Int.reduceEq, Int.reduceLT, Int.reduceLE, Int.reduceNeg, bI_T, bI_F, ↓if_pos, ↓if_neg, k_isMapped h.2.1 hd4 hp, hm, k_isReserved h.2.1 hd4 hp, bI_t c1, run1]
    · rw [if_neg c1]
      by_cases c2 : 22 < T 1681
      · have c2' : ¬ T 1681 ≤ 22 := by omega
        obtain ⟨μ1, f1, r1, run1⟩ := k_Srefuse (c := 6) (a := T 1681) hI h
        rw [if_pos c2, if_neg (fun z => c2' z.2.2)]
        refine ⟨μ1, f1, r1, fun Q => ?_⟩
        simp (disch := first | assumption | omega) only [e180_0, e180_1, e180_4, e180_5, e180_6, e180_9, e180_12, e180_13, e180_16, e180_18, e180_19, e180_22, e180_23, e180_24, e180_27, e180_30, e180_31, e180_32, e180_35, e180_36, e180_37, e180_40, e180_43, e180_44, e180_47, e180_48, e180_49, e180_52, e180_53, e180_54, e180_57, e180_60, e180_63, e180_64, e180_67, e180_69, e180_70, e180_73, e180_76, e180_79, e180_80, e180_81, e180_82, e180_83, e180_86, e180_87, e180_90, e180_93, e180_94, e180_97, e180_98, e180_101, e180_102, e180_103, e180_106, e180_109, e180_110, e180_113, e180_114, e180_115, e180_116, e180_117, e180_118, e180_121, e180_122, e180_123, e180_126, e180_129, e180_130, e180_133, e180_134, e180_137, gK0_eq, gK1_eq, gK3_eq, w32_id, bI_eq0, bI_eq1, Bool.false_eq_true, not_true_eq_false, not_false_eq_true, ne_eq, ite_not, ↓reduceIte, if_true, if_false, Int.reduceToNat, Nat.reduceAdd, Int.reduceEq, Int.reduceLT, Int.reduceLE, Int.reduceNeg, bI_T, bI_F, ↓if_pos, ↓if_neg, k_isMapped h.2.1 hd4 hp, hm, k_isReserved h.2.1 hd4 hp, bI_f c1, k_QtakesTwo h.2.2.2.1, bI_f c2', h0, run1]
      · have c2' : T 1681 ≤ 22 := by omega
        have hm0 : 0 ≤ T (64 * d + p) := by unfold tMp at hm; rw [decide_eq_true_eq] at hm; exact hm
        have hm2 : 0 ≤ T (64 * d + p) ∧ T (64 * d + p) < 64 := ⟨hm0, (h.2.1.2.2.2 (64 * d + p) (by omega) (by omega)).2.1.2⟩
        have lo : ∀ j, 1664 ≤ j → tUn T d p j = T j := fun j hj => tUn_lo hd4 hp hm2 hj
        rw [if_neg c2, if_pos (show true = true ∧ T (512 + (64 * d + p)) ≠ 1 ∧ T 1681 ≤ 22 from ⟨rfl, c1, c2'⟩)]
        obtain ⟨μ1, f1, r1, run1⟩ := k_Sleave hI h hd hp hm0
        have lz := ((r1.2.1.2.2.1 d hd.1 hd4.2).2.1 (by rw [lo _ (by omega)]; exact hd.2))
        have lz1 : μ1 (B + 15 + 1) d = T (1664 + d) := by rw [lz.1, lo _ (by omega)]
        have lz2 : T (1664 + d) = 0 ∨ T (1664 + d) = 1 := by have := lz.2.2; rw [lo _ (by omega)] at this; exact this
        have d0 := hd.1
        have d1 : d < ((4 : Nat) : Int) := by omega
        unfold tUnm2
        by_cases c3 : T (1664 + d) = 0
        · have q1 : 0 ≤ tUn T d p 1681 ∧ tUn T d p 1681 < 32 := by rw [lo _ (by omega)]; omega
          obtain ⟨μ2, f2, r2, run2⟩ := k_QaddPage (d := d) (a := p) r1.2.2.2.1 q1.2
          have c810 : tCom (tUn T d p) 0 d p 1810 = w32 (tUn T d p 1810 + 1) := tCom_1810 q1.1 q1.2
          have fr1 : rFr (B + 22) (tCom (tUn T d p) 0 d p) μ2 := rFr_fr r1.2.2.1 f2 (by omega) (fun j hj => tCom_lo (by omega) q1)
          obtain ⟨μ3, f3, r3, run3⟩ := k_Fcover fr1 hd4 (tCv_page hd4 hp fr1.1.2 c810)
          have an : ∀ j, 1664 ≤ j ∨ j < 1088 → tAns d p (tCom (tUn T d p) 0 d p) j = tCom (tUn T d p) 0 d p j := (tAnsA hd4 hp fr1.1.2).2.1
          have ff : gFr (B + 22) (B + 32) μ1 μ3 := gFr_trans (gFr_mono f2 (by omega) (by omega)) (gFr_mono f3 (by omega) (by omega))
          have r4 : rSt B X (tAns d p (tCom (tUn T d p) 0 d p)) μ3 := ⟨rTr_fr hI r1.1 ff (by omega), rTb_fr r1.2.1 ff (by omega) (fun j hj => by rw [an j (by omega), tCom_lo (by omega) q1]), r3, rQu_fr r2 f3 (by omega) (fun j j1 j2 => an j (by omega)), rCa_fr r1.2.2.2.2.1 ff (by omega) (fun j j1 j2 => by rw [an j (by omega), tCom_lo (by omega) q1]), rRq_fr r1.2.2.2.2.2.1 ff (by omega) (fun j j1 j2 => by rw [an j (by omega), tCom_lo (by omega) q1]), rLg_fr r1.2.2.2.2.2.2.1 ff (by omega) (fun j hj => by rw [an j (by omega), tCom_lo (by omega) q1]), rDm_fr hI r1.2.2.2.2.2.2.2 ff (by omega) (fun j j1 j2 => by rw [an j (by omega), tCom_lo (by omega) q1])⟩
          rw [if_pos c3]
          refine ⟨μ3, gFr_trans f1 (gFr_mono ff (by omega) (by omega)), r4, fun Q => ?_⟩
          simp (disch := first | assumption | omega) only [e180_0, e180_1, e180_4, e180_5, e180_6, e180_9, e180_12, e180_13, e180_16, e180_18, e180_19, e180_22, e180_23, e180_24, e180_27, e180_30, e180_31, e180_32, e180_35, e180_36, e180_37, e180_40, e180_43, e180_44, e180_47, e180_48, e180_49, e180_52, e180_53, e180_54, e180_57, e180_60, e180_63, e180_64, e180_67, e180_69, e180_70, e180_73, e180_76, e180_79, e180_80, e180_81, e180_82, e180_83, e180_86, e180_87, e180_90, e180_93, e180_94, e180_97, e180_98, e180_101, e180_102, e180_103, e180_106, e180_109, e180_110, e180_113, e180_114, e180_115, e180_116, e180_117, e180_118, e180_121, e180_122, e180_123, e180_126, e180_129, e180_130, e180_133, e180_134, e180_137, gK0_eq, gK1_eq, gK3_eq, w32_id, bI_eq0, bI_eq1, Bool.false_eq_true, not_true_eq_false, not_false_eq_true, ne_eq, ite_not, ↓reduceIte, if_true, if_false, Int.reduceToNat, Nat.reduceAdd, Int.reduceEq, Int.reduceLT, Int.reduceLE, Int.reduceNeg, bI_T, bI_F, ↓if_pos, ↓if_neg, k_isMapped h.2.1 hd4 hp, hm, k_isReserved h.2.1 hd4 hp, bI_f c1, k_QtakesTwo h.2.2.2.1, bI_t c2', run1, s_at, atv_in, lz1, c3, run2, run3, k_tablesOf r4.2.1 hd4]
        · have c3' : T (1664 + d) = 1 := lz2.resolve_left c3
          have o := ho d hd.1 hd4.2
          have o' := (h.2.1.2.2.1 d hd.1 hd4.2).1
          obtain ⟨μ2, f2, r2, run2⟩ := k_oweOne (d := d) hI r1 (by rw [lo _ (by omega)]; exact hd) (by rw [lo _ (by omega)]; exact c2') (by rw [lo _ (by omega)]; omega)
          rw [if_neg c3]
          rw [lo (1668 + d) (by omega)] at r2
          refine ⟨μ2, gFr_trans f1 f2, r2, fun Q => ?_⟩
          simp (disch := first | assumption | omega) only [e180_0, e180_1, e180_4, e180_5, e180_6, e180_9, e180_12, e180_13, e180_16, e180_18, e180_19, e180_22, e180_23, e180_24, e180_27, e180_30, e180_31, e180_32, e180_35, e180_36, e180_37, e180_40, e180_43, e180_44, e180_47, e180_48, e180_49, e180_52, e180_53, e180_54, e180_57, e180_60, e180_63, e180_64, e180_67, e180_69, e180_70, e180_73, e180_76, e180_79, e180_80, e180_81, e180_82, e180_83, e180_86, e180_87, e180_90, e180_93, e180_94, e180_97, e180_98, e180_101, e180_102, e180_103, e180_106, e180_109, e180_110, e180_113, e180_114, e180_115, e180_116, e180_117, e180_118, e180_121, e180_122, e180_123, e180_126, e180_129, e180_130, e180_133, e180_134, e180_137, gK0_eq, gK1_eq, gK3_eq, w32_id, bI_eq0, bI_eq1, Bool.false_eq_true, not_true_eq_false, not_false_eq_true, ne_eq, ite_not, ↓reduceIte, if_true, if_false, Int.reduceToNat, Nat.reduceAdd, Int.reduceEq, Int.reduceLT, Int.reduceLE, Int.reduceNeg, bI_T, bI_F, ↓if_pos, ↓if_neg, k_isMapped h.2.1 hd4 hp, hm, k_isReserved h.2.1 hd4 hp, bI_f c1, k_QtakesTwo h.2.2.2.1, bI_t c2', run1, s_at, atv_in, lz1, c3', run2, k_tablesOf r2.2.1 hd4]
end STATE2
