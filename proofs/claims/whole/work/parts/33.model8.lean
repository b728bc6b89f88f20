/-! the check: serve, tidy, domain, map, unmap, flush, fence, work -/
section MODEL8
variable {μ : gM} {b : Int} {T : Int → Int} {Q : Int → gM → Prop}
theorem tHit_ent {d p r : Int} (hh : tHit T d p r = true) : 0 ≤ tEnt T d p := by
  unfold tHit at hh
  simp only [Bool.and_eq_true, decide_eq_true_eq] at hh
  exact hh.1
theorem tLkH_lo {d p r j : Int} (h : j < 1813 ∨ 1879 ≤ j) (hC : 0 ≤ T 1813 ∧ T 1813 ≤ 16) (hh : tHit T d p r = true) : tLkH T d p r j = T j := by
  have h1 := tHit_ent hh
  have h2 := tEnt_lt (T := T) (d := d) (p := p) hC.1
  unfold tLkH
  rw [tMor_ne (by omega), tCch_lo (by omega) (by rw [tDrop_1813]; omega), tDrop_lo (by omega) h1 hC.2]
theorem tLkT_lo {room d p r j : Int} (h : j < 1813 ∨ 1881 ≤ j) (hC : 0 ≤ T 1813 ∧ T 1813 ≤ room) (hr : 1 ≤ room ∧ room ≤ 16) : tLkT T room d p r j = T j := by
  unfold tLkT
  split
  · rename_i hh
    split
    · exact tLkH_lo (by omega) (by omega) hh
    · rw [tMor_ne (by omega)]; exact tLkH_lo (by omega) (by omega) hh
  · split
    · have g1 : tMor T 1879 1813 = T 1813 := tMor_ne (by omega)
      have h3 := tLkV_1813 (T := tMor T 1879) (d := d) (p := p) (by rw [g1]; exact hC) hr
      rw [tCch_lo (by omega) (by omega), tLkV_lo (by omega) (by rw [g1]; omega), tMor_ne (by omega)]
    · exact tMor_ne (by omega)
theorem tCch_1813 {d p f r : Int} : tCch T d p f r 1813 = T 1813 + 1 := tS_same
theorem tLkT_1813 {room d p r : Int} (hC : 0 ≤ T 1813 ∧ T 1813 ≤ room) (hr : 1 ≤ room ∧ room ≤ 16) : 0 ≤ tLkT T room d p r 1813 ∧ tLkT T room d p r 1813 ≤ room := by
  unfold tLkT
  split
  · have e : tLkH T d p r 1813 = T 1813 := by unfold tLkH; rw [tMor_ne (by omega), tCch_1813, tDrop_1813]; omega
    split
    · rw [e]; exact hC
    · rw [tMor_ne (by omega), e]; exact hC
  · split
    · have g1 : tMor T 1879 1813 = T 1813 := tMor_ne (by omega)
      have h3 := tLkV_1813 (T := tMor T 1879) (d := d) (p := p) (by rw [g1]; exact hC) hr
      rw [tCch_1813]; omega
    · rw [tMor_ne (by omega)]; exact hC
/-- requests that can be served -/
def tRqO (gr : Int → Int) (dv : Int) (T : Int → Int) : Prop := 0 ≤ T 1881 ∧ T 1881 ≤ 8 ∧ ∀ k, 0 ≤ k → k < T 1881 → (0 ≤ T (1882 + 4 * k) ∧ T (1882 + 4 * k) < dv) ∧ (0 ≤ T (1882 + 4 * k + 1) ∧ T (1882 + 4 * k + 1) < 64) ∧ (1 ≤ T (1882 + 4 * k + 2) ∧ T (1882 + 4 * k + 2) ≤ 2) ∧ 0 ≤ T (1882 + 4 * k + 3) ∧ (0 ≤ T (1673 + gr (T (1882 + 4 * k))) ∧ T (1673 + gr (T (1882 + 4 * k))) < 4)
theorem tReqG_lo {k j : Int} (h : j < 1881 ∨ 1914 ≤ j) (hk : 0 ≤ k) (hW : T 1881 ≤ 8) : tReqG T k j = T j := by
  unfold tReqG
  rw [tS_ne (by omega), tShL_lo (by omega)]
theorem tReqG_at {k i j : Int} (hi : 0 ≤ i ∧ i < T 1881 - 1) (hj : 0 ≤ j ∧ j < 4) : tReqG T k (1882 + 4 * i + j) = if i < k then T (1882 + 4 * i + j) else T (1882 + 4 * (i + 1) + j) := by
  unfold tReqG tShL
  rw [tS_ne (by omega)]
  by_cases h : i < k
  · rw [if_pos h, if_neg (by omega)]
  · rw [if_neg h, if_pos (by omega)]; congr 1; omega
theorem tReqG_at0 {k i : Int} (hi : 0 ≤ i ∧ i < T 1881 - 1) : tReqG T k (1882 + 4 * i) = if i < k then T (1882 + 4 * i) else T (1882 + 4 * (i + 1)) := by
  have := tReqG_at (T := T) (k := k) (i := i) (j := 0) hi (by omega)
  simpa only [Int.add_zero] using this
theorem tRqO_go {gr : Int → Int} {dv k : Int} (hg : ∀ e, 0 ≤ e → e < dv → 0 ≤ gr e ∧ gr e < 8) (h : tRqO gr dv T) (hk : 0 ≤ k ∧ k < T 1881) : tRqO gr dv (tReqG T k) := by
  obtain ⟨h0, h1, h2⟩ := h
  refine ⟨by rw [tReqG_1881]; omega, by rw [tReqG_1881]; omega, fun i hi0 hi1 => ?_⟩
  rw [tReqG_1881] at hi1
  have key : ∀ m, (0 ≤ m ∧ m < T 1881) → (0 ≤ T (1882 + 4 * m) ∧ T (1882 + 4 * m) < dv) ∧ (0 ≤ T (1882 + 4 * m + 1) ∧ T (1882 + 4 * m + 1) < 64) ∧ (1 ≤ T (1882 + 4 * m + 2) ∧ T (1882 + 4 * m + 2) ≤ 2) ∧ 0 ≤ T (1882 + 4 * m + 3) ∧ (0 ≤ tReqG T k (1673 + gr (T (1882 + 4 * m))) ∧ tReqG T k (1673 + gr (T (1882 + 4 * m))) < 4) := by
    intro m hm
    obtain ⟨a1, a2, a3, a4, a5⟩ := h2 m hm.1 hm.2
    have := hg _ a1.1 a1.2
    rw [tReqG_lo (by omega) hk.1 h1]
    exact ⟨a1, a2, a3, a4, a5⟩
  rw [tReqG_at0 ⟨hi0, hi1⟩, tReqG_at ⟨hi0, hi1⟩ (by omega), tReqG_at ⟨hi0, hi1⟩ (by omega), tReqG_at ⟨hi0, hi1⟩ (by omega)]
  by_cases h : i < k
  · simp only [if_pos h]; exact key i (by omega)
  · simp only [if_neg h]; exact key (i + 1) (by omega)
theorem tRqO_congr {gr : Int → Int} {dv : Int} {T' : Int → Int} (hg : ∀ e, 0 ≤ e → e < dv → 0 ≤ gr e ∧ gr e < 8) (h : tRqO gr dv T) (e : ∀ j, (1673 ≤ j ∧ j < 1681) ∨ (1881 ≤ j ∧ j < 1914) → T' j = T j) : tRqO gr dv T' := by
  obtain ⟨h0, h1, h2⟩ := h
  have e1 : T' 1881 = T 1881 := e _ (by omega)
  refine ⟨by rw [e1]; exact h0, by rw [e1]; exact h1, fun k k0 k1 => ?_⟩
  rw [e1] at k1
  have hk := h2 k k0 k1
  rw [e (1882 + 4 * k) (by omega), e (1882 + 4 * k + 1) (by omega), e (1882 + 4 * k + 2) (by omega), e (1882 + 4 * k + 3) (by omega)]
  have := hg _ hk.1.1 hk.1.2
  rw [e (1673 + gr (T (1882 + 4 * k))) (by omega)]
  exact hk
theorem s_serves_loop {well : Bool} {bt : Int} (hD : μ 167 12 ≤ 8) (hg : ∀ e, 0 ≤ e → e < μ 167 12 → 0 ≤ μ 179 e ∧ μ 179 e < 8) (hR : 1 ≤ μ 178 0 ∧ μ 178 0 ≤ 16) : ∀ (n : Nat) (w0 a0 : Int) (T : Int → Int) (k tk : Int) (l5 l6 : gv), gBk μ b → gIX μ → k + n = T 1881 → 0 ≤ k → 0 ≤ tk → tk + n ≤ 8 → (0 ≤ T 1813 ∧ T 1813 ≤ μ 178 0) → tRqO (fun e => μ 179 e) (μ 167 12) T →
    ∃ w a : Int, ∀ Q : Int → gM → Prop, gE 302 17 [gO 10 167, gI (bI (well = true)), gI bt, gI tk, gI k, l5, l6] [] (mK (mW μ w0 a0) b T) Q = Q (tSrv (μ 178 0) (fun e => μ 179 e) well bt n k tk T).1 (mK (mW μ w a) b (tSrv (μ 178 0) (fun e => μ 179 e) well bt n k tk T).2) := by
  intro n
  induction n with
  | zero =>
    intro w0 a0 T k tk l5 l6 hb hI hn hk htk htn hC hO
    have hb' := gBk_mW (w := w0) (a := a0) hb
    refine ⟨w0, a0, fun Q => ?_⟩
    have h : T 1881 ≤ k := by omega
    rw [e302_17]
    simp (disch := first | assumption | omega) only [e302_0, e302_1, e302_4, e302_5, e302_6, e302_9, e302_11, e302_12, e302_13, e302_14, e302_15, e302_19, e302_20, e302_23, e302_26, e302_29, e302_32, e302_33, e302_35, e302_36, e302_37, e302_39, e302_40, e302_42, e302_43, e302_44, e302_47, e302_48, e302_51, e302_54, e302_57, e302_58, e302_61, e302_62, e302_63, e302_64, e302_66, e302_69, e302_72, e302_73, e302_75, e302_76, e302_77, e302_80, e302_81, e302_83, e302_84, e302_85, e302_88, e302_91, e302_94, e302_95, e302_98, e302_99, e302_101, e302_102, e302_104, e302_107, e302_108, e302_110, e302_113, e302_114, e302_117, e302_118, e302_119, e302_120, e302_121, e302_123, e302_126, e302_129, e302_132, e302_135, e302_138, e302_141, e302_142, gK0_eq, gK1_eq, gK3_eq, w32_id, bI_eq0, bI_eq1, Bool.false_eq_true, not_true_eq_false, not_false_eq_true, ne_eq, ite_not, ↓reduceIte, if_true, if_false, Int.reduceToNat, Nat.reduceAdd, s_of, h, tSrv]
  | succ n ih =>
    intro w0 a0 T k tk l5 l6 hb hI hn hk htk htn hC hO
    have hb' := gBk_mW (w := w0) (a := a0) hb
    have hI' := gIX_mW (w := w0) (a := a0) hI
    have h : ¬ T 1881 ≤ k := by omega
    obtain ⟨hW0, hW8, hO2⟩ := hO
    have hok := hO2 k hk (by omega)
    by_cases hc : T (1882 + 4 * k + 3) = bt
    · cases well with
      | false =>
        have hb2 := hb'
        obtain ⟨w, a, hl⟩ := ih w0 a0 (tMor (tReqG T k) 1917) k tk (gI (1882 + 4 * k)) (gI 0) hb hI (by rw [tMor_ne (by omega), tReqG_1881]; omega) hk htk (by omega) (by rw [tMor_ne (by omega), tReqG_lo (by omega) (by omega) (by omega)]; exact hC) (tRqO_congr hg (tRqO_go hg ⟨hW0, hW8, hO2⟩ ⟨hk, by omega⟩) (fun j hj => tMor_ne (by omega)))
        refine ⟨w, a, fun Q => ?_⟩
        have e0 : bI (false = true) = 0 := bI_f (by simp)
        rw [e0] at hl ⊢
        rw [e302_17, tSrv, if_pos hc, if_neg (by simp), ← hl Q]
        have q : 0 ≤ k ∧ k < T 1881 := by omega
        simp (disch := first | assumption | omega) only [e302_0, e302_1, e302_4, e302_5, e302_6, e302_9, e302_11, e302_12, e302_13, e302_14, e302_15, e302_19, e302_20, e302_23, e302_26, e302_29, e302_32, e302_33, e302_35, e302_36, e302_37, e302_39, e302_40, e302_42, e302_43, e302_44, e302_47, e302_48, e302_51, e302_54, e302_57, e302_58, e302_61, e302_62, e302_63, e302_64, e302_66, e302_69, e302_72, e302_73, e302_75, e302_76, e302_77, e302_80, e302_81, e302_83, e302_84, e302_85, e302_88, e302_91, e302_94, e302_95, e302_98, e302_99, e302_101, e302_102, e302_104, e302_107, e302_108, e302_110, e302_113, e302_114, e302_117, e302_118, e302_119, e302_120, e302_121, e302_123, e302_126, e302_129, e302_132, e302_135, e302_138, e302_141, e302_142, gK0_eq, gK1_eq, gK3_eq, w32_id, bI_eq0, bI_eq1, Bool.false_eq_true, not_true_eq_false, not_false_eq_true, ne_eq, ite_not, ↓reduceIte, if_true, if_false, Int.reduceToNat, Nat.reduceAdd, Int.reduceEq, Int.reduceLT, Int.reduceLE, Int.reduceNeg, s_of, h, hc, s_requestGoes, q, s_moreM, and_self, Int.add_zero]
      | true =>
        have e1 : bI (true = true) = 1 := bI_t rfl
        rw [e1] at ih ⊢
        have r1 : mW μ w0 a0 178 0 = μ 178 0 := mW_ne (by omega)
        have r2 : mW μ w0 a0 179 (T (1882 + 4 * k)) = μ 179 (T (1882 + 4 * k)) := mW_ne (by omega)
        obtain ⟨w1, a1, hl1, -⟩ := s_looks (T := T) (r := T (1882 + 4 * k + 2)) (p := T (1882 + 4 * k + 1)) (d := T (1673 + μ 179 (T (1882 + 4 * k)))) hb' hok.2.2.2.2 hok.2.1 (by rw [r1]; exact hC) (by rw [r1]; exact hR)
        rw [r1, mW_mW] at hl1
        have lo : ∀ j, j < 1813 ∨ 1881 ≤ j → tLkT T (μ 178 0) (T (1673 + μ 179 (T (1882 + 4 * k)))) (T (1882 + 4 * k + 1)) (T (1882 + 4 * k + 2)) j = T j := fun j hj => tLkT_lo hj hC hR
        have hC1 := tLkT_1813 (T := T) (d := T (1673 + μ 179 (T (1882 + 4 * k)))) (p := T (1882 + 4 * k + 1)) (r := T (1882 + 4 * k + 2)) hC hR
        have hO1 : tRqO (fun e => μ 179 e) (μ 167 12) (tLkT T (μ 178 0) (T (1673 + μ 179 (T (1882 + 4 * k)))) (T (1882 + 4 * k + 1)) (T (1882 + 4 * k + 2))) := tRqO_congr hg ⟨hW0, hW8, hO2⟩ (fun j hj => lo j (by omega))
        rw [tSrv, if_pos hc, if_pos rfl]
        generalize hF : tLkF T (T (1673 + μ 179 (T (1882 + 4 * k)))) (T (1882 + 4 * k + 1)) (T (1882 + 4 * k + 2)) = F at hl1 ⊢
        generalize hT : tLkT T (μ 178 0) (T (1673 + μ 179 (T (1882 + 4 * k)))) (T (1882 + 4 * k + 1)) (T (1882 + 4 * k + 2)) = T1 at hl1 hC1 hO1 lo ⊢
        have w1881 : T1 1881 = T 1881 := lo _ (by omega)
        have hb1 := gBk_mW (w := w1) (a := a1) hb
        have he8 : 0 ≤ T (1882 + 4 * k) ∧ T (1882 + 4 * k) < 8 := by omega
        have q : 0 ≤ k ∧ k < T1 1881 := by omega
        have q8 : T1 1881 ≤ 8 := by omega
        by_cases hf : 0 ≤ F
        · obtain ⟨w, a, hl⟩ := ih w1 a1 (tMor (tReqG T1 k) 1916) k (tk + 1) (gI (1882 + 4 * k)) (gI 1) hb hI (by rw [tMor_ne (by omega), tReqG_1881]; omega) hk (by omega) (by omega) (by rw [tMor_ne (by omega), tReqG_lo (by omega) (by omega) (by omega)]; exact hC1) (tRqO_congr hg (tRqO_go hg hO1 q) (fun j hj => tMor_ne (by omega)))
          refine ⟨w, a, fun Q => ?_⟩
          rw [e302_17, if_pos hf, ← hl Q]
          have hf' : ¬ F < 0 := by omega
          simp (disch := first | assumption | omega) only [e302_0, e302_1, e302_4, e302_5, e302_6, e302_9, e302_11, e302_12, e302_13, e302_14, e302_15, e302_19, e302_20, e302_23, e302_26, e302_29, e302_32, e302_33, e302_35, e302_36, e302_37, e302_39, e302_40, e302_42, e302_43, e302_44, e302_47, e302_48, e302_51, e302_54, e302_57, e302_58, e302_61, e302_62, e302_63, e302_64, e302_66, e302_69, e302_72, e302_73, e302_75, e302_76, e302_77, e302_80, e302_81, e302_83, e302_84, e302_85, e302_88, e302_91, e302_94, e302_95, e302_98, e302_99, e302_101, e302_102, e302_104, e302_107, e302_108, e302_110, e302_113, e302_114, e302_117, e302_118, e302_119, e302_120, e302_121, e302_123, e302_126, e302_129, e302_132, e302_135, e302_138, e302_141, e302_142, gK0_eq, gK1_eq, gK3_eq, w32_id, bI_eq0, bI_eq1, Bool.false_eq_true, not_true_eq_false, not_false_eq_true, ne_eq, ite_not, ↓reduceIte, if_true, if_false, Int.reduceToNat, Nat.reduceAdd, Int.reduceEq, Int.reduceLT, Int.reduceLE, Int.reduceNeg, s_of, h, hc, s_requestGoes, q, s_moreM, and_self, s_domainOfDevice, r2, hl1, hf', he8, q8]
        · obtain ⟨w, a, hl⟩ := ih w1 a1 (tMor (tReqG T1 k) 1917) k tk (gI (1882 + 4 * k)) (gI 0) hb hI (by rw [tMor_ne (by omega), tReqG_1881]; omega) hk (by omega) (by omega) (by rw [tMor_ne (by omega), tReqG_lo (by omega) (by omega) (by omega)]; exact hC1) (tRqO_congr hg (tRqO_go hg hO1 q) (fun j hj => tMor_ne (by omega)))
          refine ⟨w, a, fun Q => ?_⟩
          rw [e302_17, if_neg hf, ← hl Q]
          have hf' : F < 0 := by omega
          simp (disch := first | assumption | omega) only [e302_0, e302_1, e302_4, e302_5, e302_6, e302_9, e302_11, e302_12, e302_13, e302_14, e302_15, e302_19, e302_20, e302_23, e302_26, e302_29, e302_32, e302_33, e302_35, e302_36, e302_37, e302_39, e302_40, e302_42, e302_43, e302_44, e302_47, e302_48, e302_51, e302_54, e302_57, e302_58, e302_61, e302_62, e302_63, e302_64, e302_66, e302_69, e302_72, e302_73, e302_75, e302_76, e302_77, e302_80, e302_81, e302_83, e302_84, e302_85, e302_88, e302_91, e302_94, e302_95, e302_98, e302_99, e302_101, e302_102, e302_104, e302_107, e302_108, e302_110, e302_113, e302_114, e302_117, e302_118, e302_119, e302_120, e302_121, e302_123, e302_126, e302_129, e302_132, e302_135, e302_138, e302_141, e302_142, gK0_eq, gK1_eq, gK3_eq, w32_id, bI_eq0, bI_eq1, Bool.false_eq_true, not_true_eq_false, not_false_eq_true, ne_eq, ite_not, ↓reduceIte, if_true, if_false, Int.reduceToNat, Nat.reduceAdd, Int.reduceEq, Int.reduceLT, Int.reduceLE, Int.reduceNeg, s_of, h, hc, s_requestGoes, q, s_moreM, and_self, s_domainOfDevice, r2, hl1, hf', he8, q8, Int.add_zero]
    · obtain ⟨w, a, hl⟩ := ih w0 a0 T (k + 1) tk (gI (1882 + 4 * k)) l6 hb hI (by omega) (by omega) htk (by omega) hC ⟨hW0, hW8, hO2⟩
      refine ⟨w, a, fun Q => ?_⟩
      rw [e302_17, tSrv, if_neg hc, ← hl Q]
      simp (disch := first | assumption | omega) only [e302_0, e302_1, e302_4, e302_5, e302_6, e302_9, e302_11, e302_12, e302_13, e302_14, e302_15, e302_19, e302_20, e302_23, e302_26, e302_29, e302_32, e302_33, e302_35, e302_36, e302_37, e302_39, e302_40, e302_42, e302_43, e302_44, e302_47, e302_48, e302_51, e302_54, e302_57, e302_58, e302_61, e302_62, e302_63, e302_64, e302_66, e302_69, e302_72, e302_73, e302_75, e302_76, e302_77, e302_80, e302_81, e302_83, e302_84, e302_85, e302_88, e302_91, e302_94, e302_95, e302_98, e302_99, e302_101, e302_102, e302_104, e302_107, e302_108, e302_110, e302_113, e302_114, e302_117, e302_118, e302_119, e302_120, e302_121, e302_123, e302_126, e302_129, e302_132, e302_135, e302_138, e302_141, e302_142, gK0_eq, gK1_eq, gK3_eq, w32_id, bI_eq0, bI_eq1, Bool.false_eq_true, not_true_eq_false, not_false_eq_true, ne_eq, ite_not, ↓reduceIte, if_true, if_false, Int.reduceToNat, Nat.reduceAdd, Int.reduceEq, Int.reduceLT, Int.reduceLE, Int.reduceNeg, s_of, h, hc]
def tSvA (room : Int) (gr : Int → Int) (well : Bool) (T : Int → Int) : Int := if tFirB T = 0 then -2 else (tSrv room gr well (tFirB T) (T 1881).toNat 0 0 T).1
def tSvT (room : Int) (gr : Int → Int) (well : Bool) (T : Int → Int) : Int → Int := if tFirB T = 0 then T else (tSrv room gr well (tFirB T) (T 1881).toNat 0 0 T).2
theorem s_serves {well : Bool} (hb : gBk μ b) (hI : gIX μ) (hC : 0 ≤ T 1813 ∧ T 1813 ≤ μ 178 0) (hO : tRqO (fun e => μ 179 e) (μ 167 12) T) : ∃ w a : Int, ∀ Q : Int → gM → Prop, gE 302 0 [gO 10 167, gI (bI (well = true)), gX, gX, gX, gX, gX] [] (mK μ b T) Q = Q (tSvA (μ 178 0) (fun e => μ 179 e) well T) (mK (mW μ w a) b (tSvT (μ 178 0) (fun e => μ 179 e) well T)) := by
  have hD8 := hI.2.1
  have hgr := hI.2.2.2.2.2.2.1
  have hroom := hI.2.2.2.2.2.2.2.2.2.1
  have hW : 0 ≤ T 1881 ∧ T 1881 ≤ 8 := ⟨hO.1, hO.2.1⟩
  by_cases h0 : tFirB T = 0
  · refine ⟨μ 167 36, μ 167 37, fun Q => ?_⟩
    rw [mW_id, tSvA, tSvT, if_pos h0, if_pos h0]
    simp (disch := first | assumption | omega) only [e302_0, e302_1, e302_4, e302_5, e302_6, e302_9, e302_11, e302_12, e302_13, e302_14, e302_15, e302_19, e302_20, e302_23, e302_26, e302_29, e302_32, e302_33, e302_35, e302_36, e302_37, e302_39, e302_40, e302_42, e302_43, e302_44, e302_47, e302_48, e302_51, e302_54, e302_57, e302_58, e302_61, e302_62, e302_63, e302_64, e302_66, e302_69, e302_72, e302_73, e302_75, e302_76, e302_77, e302_80, e302_81, e302_83, e302_84, e302_85, e302_88, e302_91, e302_94, e302_95, e302_98, e302_99, e302_101, e302_102, e302_104, e302_107, e302_108, e302_110, e302_113, e302_114, e302_117, e302_118, e302_119, e302_120, e302_121, e302_123, e302_126, e302_129, e302_132, e302_135, e302_138, e302_141, e302_142, gK0_eq, gK1_eq, gK3_eq, w32_id, bI_eq0, bI_eq1, Bool.false_eq_true, not_true_eq_false, not_false_eq_true, ne_eq, ite_not, ↓reduceIte, if_true, if_false, Int.reduceToNat, Nat.reduceAdd, Int.reduceEq, Int.reduceLT, Int.reduceLE, Int.reduceNeg, s_firstBatch, h0, hW, and_self]
  · obtain ⟨w, a, hl⟩ := s_serves_loop (b := b) (well := well) (bt := tFirB T) hD8.2 (fun e q0 q1 => by have := hgr e q0 (by omega); omega) hroom (T 1881).toNat (μ 167 36) (μ 167 37) T 0 0 gX gX hb hI (by omega) (by omega) (by omega) (by omega) hC hO
    rw [mW_id] at hl
    refine ⟨w, a, fun Q => ?_⟩
    rw [tSvA, tSvT, if_neg h0, if_neg h0, ← hl Q]
    simp (disch := first | assumption | omega) only [e302_0, e302_1, e302_4, e302_5, e302_6, e302_9, e302_11, e302_12, e302_13, e302_14, e302_15, e302_19, e302_20, e302_23, e302_26, e302_29, e302_32, e302_33, e302_35, e302_36, e302_37, e302_39, e302_40, e302_42, e302_43, e302_44, e302_47, e302_48, e302_51, e302_54, e302_57, e302_58, e302_61, e302_62, e302_63, e302_64, e302_66, e302_69, e302_72, e302_73, e302_75, e302_76, e302_77, e302_80, e302_81, e302_83, e302_84, e302_85, e302_88, e302_91, e302_94, e302_95, e302_98, e302_99, e302_101, e302_102, e302_104, e302_107, e302_108, e302_110, e302_113, e302_114, e302_117, e302_118, e302_119, e302_120, e302_121, e302_123, e302_126, e302_129, e302_132, e302_135, e302_138, e302_141, e302_142, gK0_eq, gK1_eq, gK3_eq, w32_id, bI_eq0, bI_eq1, Bool.false_eq_true, not_true_eq_false, not_false_eq_true, ne_eq, ite_not, ↓reduceIte, if_true, if_false, Int.reduceToNat, Nat.reduceAdd, Int.reduceEq, Int.reduceLT, Int.reduceLE, Int.reduceNeg, s_firstBatch, h0, hW, and_self]
end MODEL8
