/-! the check: use with a domain, close, serve, batches, tidy -/
def tFb1 (T : Int → Int) (k best : Int) : Int := if 0 < T (1882 + 4 * k + 3) ∧ (best = 0 ∨ T (1882 + 4 * k + 3) < best) then T (1882 + 4 * k + 3) else best
def tFirB (T : Int → Int) : Int := itF (fun k best => tFb1 T k best) 0 (T 1881).toNat 0
def tCl1 (e k : Int) (T : Int → Int) : Int → Int := if T (1882 + 4 * k) = e ∧ T (1882 + 4 * k + 3) = 0 then tS T (1882 + 4 * k + 3) (T 1914) else T
def tClo (T : Int → Int) (e : Int) : Int → Int := itF (fun k T => tCl1 e k T) 0 (T 1881).toNat (tMor T 1914)
/-- a batch served from the k-th request on: taken, the bank -/
def tSrv (room : Int) (gr : Int → Int) (well : Bool) (bt : Int) : Nat → Int → Int → (Int → Int) → Int × (Int → Int)
  | 0, _, tk, T => (tk, T)
  | n + 1, k, tk, T =>
    if T (1882 + 4 * k + 3) = bt then
      (if well = true then
        (if 0 ≤ tLkF T (T (1673 + gr (T (1882 + 4 * k)))) (T (1882 + 4 * k + 1)) (T (1882 + 4 * k + 2)) then
          tSrv room gr well bt n k (tk + 1) (tMor (tReqG (tLkT T room (T (1673 + gr (T (1882 + 4 * k)))) (T (1882 + 4 * k + 1)) (T (1882 + 4 * k + 2))) k) 1916)
        else tSrv room gr well bt n k tk (tMor (tReqG (tLkT T room (T (1673 + gr (T (1882 + 4 * k)))) (T (1882 + 4 * k + 1)) (T (1882 + 4 * k + 2))) k) 1917))
      else tSrv room gr well bt n k tk (tMor (tReqG T k) 1917))
    else tSrv room gr well bt n (k + 1) tk T
def tBt (T : Int → Int) (e k : Int) : Bool := decide (0 < T (1882 + 4 * k + 3)) && (decide (e < 0) || decide (T (1882 + 4 * k) = e)) && !anyF (fun i => decide (T (1882 + 4 * i + 3) = T (1882 + 4 * k + 3))) 0 k.toNat
def tBts (T : Int → Int) (e : Int) : Int := cntF (tBt T e) 0 (T 1881).toNat
def tRwB (T : Int → Int) (d p k : Int) : Bool := decide (T (64 * d + p + k) ≠ T (64 * d + p) + k) || decide (T (512 + (64 * d + p + k)) = 1) || decide (T (256 + (64 * d + p + k)) ≠ T (256 + 64 * d + p))
def tRow (T : Int → Int) (d p : Int) : Bool := decide (0 ≤ T (64 * d + p)) && decide (T (64 * d + p) % 4 = 0) && decide (T (768 + 64 * d + p) ≠ 1) && !anyF (tRwB T d p) 0 4
def tBl1 (T : Int → Int) (k : Int) : Int → Int := fun j => if 768 + k ≤ j ∧ j < 768 + k + 4 then 1 else T j
def tTid (d : Int) : Nat → Int → Int → (Int → Int) → Int × (Int → Int)
  | 0, _, n, T => (n, T)
  | m + 1, i, n, T => if tRow T d (4 * i) = true then tTid d m (i + 1) (n + 1) (tBl1 T (64 * d + 4 * i)) else tTid d m (i + 1) n T
section MODEL7
variable {μ : gM} {b : Int} {T : Int → Int} {Q : Int → gM → Prop}
theorem s_use_ok {e p r : Int} (hb : gBk μ b) (hI : gIX μ) (h : 0 ≤ e ∧ e < μ 167 12) (hp : 0 ≤ p ∧ p < 64) (hr : 1 ≤ r ∧ r ≤ 2) (hC : 0 ≤ T 1813 ∧ T 1813 ≤ μ 178 0) (hd : 0 ≤ T (1673 + μ 179 e) ∧ T (1673 + μ 179 e) < 4) (hf : 0 ≤ tLkF T (T (1673 + μ 179 e)) p r) :
    ∃ w a : Int, ∀ Q : Int → gM → Prop, gE 299 0 [gO 10 167, gI e, gI p, gI r, gX, gX] [] (mK μ b T) Q = Q (tLkF T (T (1673 + μ 179 e)) p r) (mK (mW (gS μ 167 2 0) w a) b (tLkT T (μ 178 0) (T (1673 + μ 179 e)) p r)) := by
  have hd8 := hI.2.1
  have hroom := hI.2.2.2.2.2.2.2.2.2.1
  have e1 : gS μ 167 2 0 167 12 = μ 167 12 := gS_neI (by omega)
  have e2 : gS μ 167 2 0 179 e = μ 179 e := gS_neK (by omega)
  have e3 : gS μ 167 2 0 178 0 = μ 178 0 := gS_neK (by omega)
  have hb' : gBk (gS μ 167 2 0) b := gBk_gS hb (by decide)
  have hI' := gIX_thr (v := 0) hI
  obtain ⟨w, a, hl, -⟩ := s_looks (T := T) (r := r) hb' hd hp (by rw [e3]; exact hC) (by rw [e3]; exact hroom)
  rw [e3] at hl
  have hd' : 0 ≤ T (1673 + μ 179 e) := hd.1
  have hf' : ¬ tLkF T (T (1673 + μ 179 e)) p r < 0 := by omega
  refine ⟨w, a, fun Q => ?_⟩
  simp (disch := first | assumption | omega) only [e299_0, e299_1, e299_2, e299_5, e299_6, e299_7, e299_10, e299_13, e299_14, e299_17, e299_20, e299_21, e299_22, e299_23, e299_26, e299_29, e299_30, e299_31, e299_32, e299_33, e299_36, e299_38, e299_40, e299_43, e299_44, e299_47, e299_48, e299_50, e299_51, e299_54, e299_55, e299_57, e299_58, e299_61, e299_62, e299_63, e299_66, e299_67, e299_68, e299_69, e299_70, e299_72, e299_75, e299_77, e299_78, e299_79, e299_81, e299_82, e299_83, e299_86, e299_88, e299_90, e299_93, e299_95, e299_98, e299_99, e299_100, e299_101, e299_102, e299_105, gK0_eq, gK1_eq, gK3_eq, w32_id, bI_eq0, bI_eq1, Bool.false_eq_true, not_true_eq_false, not_false_eq_true, ne_eq, ite_not, ↓reduceIte, if_true, if_false, Int.reduceToNat, Nat.reduceAdd, gS_mK, s_isDevice, s_isPage, s_isIn, e1, h, hp, hr, and_self, s_domainOfDevice, e2, hd', hl, hf']
theorem s_use_fault {e p r : Int} (hb : gBk μ b) (hI : gIX μ) (h : 0 ≤ e ∧ e < μ 167 12) (hp : 0 ≤ p ∧ p < 64) (hr : 1 ≤ r ∧ r ≤ 2) (hC : 0 ≤ T 1813 ∧ T 1813 ≤ μ 178 0) (hd : 0 ≤ T (1673 + μ 179 e) ∧ T (1673 + μ 179 e) < 4) (hh : tHit T (T (1673 + μ 179 e)) p r = false) (hw : tWok T (T (1673 + μ 179 e)) p r = false) (hR : 0 ≤ T 1927 ∧ T 1927 ≤ 8) (hW : 0 ≤ T 1881 ∧ T 1881 ≤ 8) :
    gE 299 0 [gO 10 167, gI e, gI p, gI r, gX, gX] [] (mK μ b T) Q =
      (let w := if tMp T (T (1673 + μ 179 e)) p = true then 8 else 7
       let a := if tMp T (T (1673 + μ 179 e)) p = true then p else tLvl T (T (1673 + μ 179 e)) p
       let M' := mW (gS μ 167 2 0) w a
       let T1 := tMor T 1879
       if μ 175 e = 0 then Q (-2) (mK M' b (tFaN T1 e (xSign μ e) p r w a))
       else if T 1881 < 8 then Q (-3) (mK M' b (tReq (tFaN T1 e (xSign μ e) p r w a) e p r))
       else Q (-4) (mK M' b (tOpF e 8 (tFaM T1 e (xSign μ e) p r w a)))) := by
  dsimp only
  have hd8 := hI.2.1
  have hroom := hI.2.2.2.2.2.2.2.2.2.1
  have hst := hI.2.2.2.2.2.1 e h.1 h.2
  have e1 : gS μ 167 2 0 167 12 = μ 167 12 := gS_neI (by omega)
  have e2 : gS μ 167 2 0 179 e = μ 179 e := gS_neK (by omega)
  have e3 : gS μ 167 2 0 178 0 = μ 178 0 := gS_neK (by omega)
  have hb' : gBk (gS μ 167 2 0) b := gBk_gS hb (by decide)
  have hI' := gIX_thr (v := 0) hI
  obtain ⟨w, a, hl, hwa⟩ := s_looks (T := T) (r := r) hb' hd hp (by rw [e3]; exact hC) (by rw [e3]; exact hroom)
  rw [e3] at hl
  obtain ⟨rfl, rfl⟩ := hwa hh hw
  have f1 : tLkF T (T (1673 + μ 179 e)) p r = -1 := by simp [tLkF, hh, hw]
  have f2 : tLkT T (μ 178 0) (T (1673 + μ 179 e)) p r = tMor T 1879 := by simp [tLkT, hh, hw]
  rw [f1, f2] at hl
  generalize hw0 : (if tMp T (T (1673 + μ 179 e)) p = true then (8 : Int) else 7) = w at hl ⊢
  generalize ha0 : (if tMp T (T (1673 + μ 179 e)) p = true then p else tLvl T (T (1673 + μ 179 e)) p) = a at hl ⊢
  have hb2 : gBk (mW (gS μ 167 2 0) w a) b := gBk_mW hb'
  have hI2 := gIX_mW (w := w) (a := a) hI'
  have g1 : mW (gS μ 167 2 0) w a 167 36 = w := by unfold mW; rw [gS_neI (by omega), gS_same]
  have g2 : mW (gS μ 167 2 0) w a 167 37 = a := by unfold mW; rw [gS_same]
  have g3 : mW (gS μ 167 2 0) w a 175 e = μ 175 e := by rw [mW_ne (by omega), gS_neK (by omega)]
  have g4 : 0 ≤ e ∧ e < mW (gS μ 167 2 0) w a 167 12 := by rw [mW_ne (by omega), e1]; exact h
  have g5 : xSign (mW (gS μ 167 2 0) w a) e = xSign μ e := xSign_congr (fun i => by rw [mW_ne (by omega), gS_neK (by omega)]) (fun i => by rw [mW_ne (by omega), gS_neK (by omega)]) (fun i => by rw [mW_ne (by omega), gS_neK (by omega)])
  have r1 : 0 ≤ tMor T 1879 1927 ∧ tMor T 1879 1927 ≤ 8 := by rw [tMor_ne (by omega)]; exact hR
  have hd' : 0 ≤ T (1673 + μ 179 e) := hd.1
  rcases hst.2.2 with hs | hs
  · have s1 : ∀ Q' : Int → gM → Prop, gE 298 0 [gO 10 167, gI e, gI p, gI r, gX, gX] [] (mK (mW (gS μ 167 2 0) w a) b (tMor T 1879)) Q' = Q' (-2) (mK (mW (gS μ 167 2 0) w a) b (tFaN (tMor T 1879) e (xSign μ e) p r w a)) := by
      intro Q'
      have := s_faults_N (T := tMor T 1879) (e := e) (p := p) (r := r) (Q := Q') hb2 hI2 g4 r1 (by rw [g3]; exact hs)
      rw [g1, g2, g5] at this
      exact this
    rw [if_pos hs]
    simp (disch := first | assumption | omega) only [e299_0, e299_1, e299_2, e299_5, e299_6, e299_7, e299_10, e299_13, e299_14, e299_17, e299_20, e299_21, e299_22, e299_23, e299_26, e299_29, e299_30, e299_31, e299_32, e299_33, e299_36, e299_38, e299_40, e299_43, e299_44, e299_47, e299_48, e299_50, e299_51, e299_54, e299_55, e299_57, e299_58, e299_61, e299_62, e299_63, e299_66, e299_67, e299_68, e299_69, e299_70, e299_72, e299_75, e299_77, e299_78, e299_79, e299_81, e299_82, e299_83, e299_86, e299_88, e299_90, e299_93, e299_95, e299_98, e299_99, e299_100, e299_101, e299_102, e299_105, gK0_eq, gK1_eq, gK3_eq, w32_id, bI_eq0, bI_eq1, Bool.false_eq_true, not_true_eq_false, not_false_eq_true, ne_eq, ite_not, ↓reduceIte, if_true, if_false, Int.reduceToNat, Nat.reduceAdd, Int.reduceEq, Int.reduceLT, Int.reduceLE, Int.reduceNeg, gS_mK, s_isDevice, s_isPage, s_isIn, e1, h, hp, hr, and_self, s_domainOfDevice, e2, hd', hl, s1]
  · rw [if_neg (by omega)]
    by_cases hw8 : T 1881 < 8
    · have s1 : ∀ Q' : Int → gM → Prop, gE 298 0 [gO 10 167, gI e, gI p, gI r, gX, gX] [] (mK (mW (gS μ 167 2 0) w a) b (tMor T 1879)) Q' = Q' (-3) (mK (mW (gS μ 167 2 0) w a) b (tReq (tFaN (tMor T 1879) e (xSign μ e) p r w a) e p r)) := by
        intro Q'
        have := s_faults_W (T := tMor T 1879) (e := e) (p := p) (r := r) (Q := Q') hb2 hI2 g4 r1 (by rw [tMor_ne (by omega)]; omega) (by rw [g3]; exact hs)
        rw [g1, g2, g5] at this
        exact this
      rw [if_pos hw8]
      simp (disch := first | assumption | omega) only [e299_0, e299_1, e299_2, e299_5, e299_6, e299_7, e299_10, e299_13, e299_14, e299_17, e299_20, e299_21, e299_22, e299_23, e299_26, e299_29, e299_30, e299_31, e299_32, e299_33, e299_36, e299_38, e299_40, e299_43, e299_44, e299_47, e299_48, e299_50, e299_51, e299_54, e299_55, e299_57, e299_58, e299_61, e299_62, e299_63, e299_66, e299_67, e299_68, e299_69, e299_70, e299_72, e299_75, e299_77, e299_78, e299_79, e299_81, e299_82, e299_83, e299_86, e299_88, e299_90, e299_93, e299_95, e299_98, e299_99, e299_100, e299_101, e299_102, e299_105, gK0_eq, gK1_eq, gK3_eq, w32_id, bI_eq0, bI_eq1, Bool.false_eq_true, not_true_eq_false, not_false_eq_true, ne_eq, ite_not, ↓reduceIte, if_true, if_false, Int.reduceToNat, Nat.reduceAdd, Int.reduceEq, Int.reduceLT, Int.reduceLE, Int.reduceNeg, gS_mK, s_isDevice, s_isPage, s_isIn, e1, h, hp, hr, and_self, s_domainOfDevice, e2, hd', hl, s1]
    · have s1 : ∀ Q' : Int → gM → Prop, gE 298 0 [gO 10 167, gI e, gI p, gI r, gX, gX] [] (mK (mW (gS μ 167 2 0) w a) b (tMor T 1879)) Q' = Q' (-4) (mK (mW (gS μ 167 2 0) w a) b (tOpF e 8 (tFaM (tMor T 1879) e (xSign μ e) p r w a))) := by
        intro Q'
        have := s_faults_M (T := tMor T 1879) (e := e) (p := p) (r := r) (Q := Q') hb2 hI2 g4 r1 (by rw [tMor_ne (by omega)]; omega) (by rw [g3]; exact hs)
        rw [g1, g2, g5] at this
        exact this
      rw [if_neg hw8]
      simp (disch := first | assumption | omega) only [e299_0, e299_1, e299_2, e299_5, e299_6, e299_7, e299_10, e299_13, e299_14, e299_17, e299_20, e299_21, e299_22, e299_23, e299_26, e299_29, e299_30, e299_31, e299_32, e299_33, e299_36, e299_38, e299_40, e299_43, e299_44, e299_47, e299_48, e299_50, e299_51, e299_54, e299_55, e299_57, e299_58, e299_61, e299_62, e299_63, e299_66, e299_67, e299_68, e299_69, e299_70, e299_72, e299_75, e299_77, e299_78, e299_79, e299_81, e299_82, e299_83, e299_86, e299_88, e299_90, e299_93, e299_95, e299_98, e299_99, e299_100, e299_101, e299_102, e299_105, gK0_eq, gK1_eq, gK3_eq, w32_id, bI_eq0, bI_eq1, Bool.false_eq_true, not_true_eq_false, not_false_eq_true, ne_eq, ite_not, ↓reduceIte, if_true, if_false, Int.reduceToNat, Nat.reduceAdd, Int.reduceEq, Int.reduceLT, Int.reduceLE, Int.reduceNeg, gS_mK, s_isDevice, s_isPage, s_isIn, e1, h, hp, hr, and_self, s_domainOfDevice, e2, hd', hl, s1]
theorem s_firstBatch_loop (hb : gBk μ b) (hW : 0 ≤ T 1881 ∧ T 1881 ≤ 8) : ∀ (m : Nat) (k best : Int) (l3 : gv), 0 ≤ k → k + m = T 1881 →
    gE 301 4 [gO 10 167, gI best, gI k, l3] [] (mK μ b T) Q = Q (itF (fun k best => tFb1 T k best) k m best) (mK μ b T) := by
  intro m
  induction m with
  | zero =>
    intro k best l3 h0 h1
    have h : T 1881 ≤ k := by omega
    rw [e301_4]
    simp (disch := first | assumption | omega) only [e301_0, e301_1, e301_2, e301_3, e301_5, e301_6, e301_9, e301_12, e301_15, e301_16, e301_19, e301_20, e301_21, e301_22, e301_23, e301_24, e301_25, e301_28, e301_29, e301_30, e301_33, e301_34, e301_37, e301_38, e301_39, e301_42, e301_43, e301_44, e301_47, e301_50, e301_51, gK0_eq, gK1_eq, gK3_eq, w32_id, bI_eq0, bI_eq1, Bool.false_eq_true, not_true_eq_false, not_false_eq_true, ne_eq, ite_not, ↓reduceIte, if_true, if_false, Int.reduceToNat, Nat.reduceAdd, s_of, h, itF]
  | succ m ih =>
    intro k best l3 h0 h1
    have h : ¬ T 1881 ≤ k := by omega
    rw [e301_4, itF]
    by_cases hc : T (1882 + 4 * k + 3) ≤ 0
    · have e1 : tFb1 T k best = best := if_neg (by omega)
      simp (disch := first | assumption | omega) only [e301_0, e301_1, e301_2, e301_3, e301_5, e301_6, e301_9, e301_12, e301_15, e301_16, e301_19, e301_20, e301_21, e301_22, e301_23, e301_24, e301_25, e301_28, e301_29, e301_30, e301_33, e301_34, e301_37, e301_38, e301_39, e301_42, e301_43, e301_44, e301_47, e301_50, e301_51, gK0_eq, gK1_eq, gK3_eq, w32_id, bI_eq0, bI_eq1, Bool.false_eq_true, not_true_eq_false, not_false_eq_true, ne_eq, ite_not, ↓reduceIte, if_true, if_false, Int.reduceToNat, Nat.reduceAdd, s_of, h, hc, e1]
      rw [ih _ _ _ (by omega) (by omega)]
    · by_cases h2 : best = 0
      · have e1 : tFb1 T k best = T (1882 + 4 * k + 3) := if_pos (by omega)
        simp (disch := first | assumption | omega) only [e301_0, e301_1, e301_2, e301_3, e301_5, e301_6, e301_9, e301_12, e301_15, e301_16, e301_19, e301_20, e301_21, e301_22, e301_23, e301_24, e301_25, e301_28, e301_29, e301_30, e301_33, e301_34, e301_37, e301_38, e301_39, e301_42, e301_43, e301_44, e301_47, e301_50, e301_51, gK0_eq, gK1_eq, gK3_eq, w32_id, bI_eq0, bI_eq1, Bool.false_eq_true, not_true_eq_false, not_false_eq_true, ne_eq, ite_not, ↓reduceIte, if_true, if_false, Int.reduceToNat, Nat.reduceAdd, s_of, h, hc, e1, h2]
        rw [ih _ _ _ (by omega) (by omega)]
        simp only [← h2, e1]
      · by_cases h3 : best ≤ T (1882 + 4 * k + 3)
        · have e1 : tFb1 T k best = best := if_neg (by omega)
          simp (disch := first | assumption | omega) only [e301_0, e301_1, e301_2, e301_3, e301_5, e301_6, e301_9, e301_12, e301_15, e301_16, e301_19, e301_20, e301_21, e301_22, e301_23, e301_24, e301_25, e301_28, e301_29, e301_30, e301_33, e301_34, e301_37, e301_38, e301_39, e301_42, e301_43, e301_44, e301_47, e301_50, e301_51, gK0_eq, gK1_eq, gK3_eq, w32_id, bI_eq0, bI_eq1, Bool.false_eq_true, not_true_eq_false, not_false_eq_true, ne_eq, ite_not, ↓reduceIte, if_true, if_false, Int.reduceToNat, Nat.reduceAdd, s_of, h, hc, e1, h2, h3]
          rw [ih _ _ _ (by omega) (by omega)]
        · have e1 : tFb1 T k best = T (1882 + 4 * k + 3) := if_pos (by omega)
          simp (disch := first | assumption | omega) only [e301_0, e301_1, e301_2, e301_3, e301_5, e301_6, e301_9, e301_12, e301_15, e301_16, e301_19, e301_20, e301_21, e301_22, e301_23, e301_24, e301_25, e301_28, e301_29, e301_30, e301_33, e301_34, e301_37, e301_38, e301_39, e301_42, e301_43, e301_44, e301_47, e301_50, e301_51, gK0_eq, gK1_eq, gK3_eq, w32_id, bI_eq0, bI_eq1, Bool.false_eq_true, not_true_eq_false, not_false_eq_true, ne_eq, ite_not, ↓reduceIte, if_true, if_false, Int.reduceToNat, Nat.reduceAdd, s_of, h, hc, e1, h2, h3]
          rw [ih _ _ _ (by omega) (by omega)]
theorem s_firstBatch (hb : gBk μ b) (hW : 0 ≤ T 1881 ∧ T 1881 ≤ 8) : gE 301 0 [gO 10 167, gX, gX, gX] [] (mK μ b T) Q = Q (tFirB T) (mK μ b T) := by
  simp (disch := first | assumption | omega) only [e301_0, e301_1, e301_2, e301_3, e301_5, e301_6, e301_9, e301_12, e301_15, e301_16, e301_19, e301_20, e301_21, e301_22, e301_23, e301_24, e301_25, e301_28, e301_29, e301_30, e301_33, e301_34, e301_37, e301_38, e301_39, e301_42, e301_43, e301_44, e301_47, e301_50, e301_51, gK0_eq, gK1_eq, gK3_eq, w32_id, bI_eq0, bI_eq1, Bool.false_eq_true, not_true_eq_false, not_false_eq_true, ne_eq, ite_not, ↓reduceIte, if_true, if_false, Int.reduceToNat, Nat.reduceAdd]
  rw [s_firstBatch_loop hb hW (T 1881).toNat 0 0 gX (by omega) (by omega)]
  rfl
theorem tCl1_lo {e k j : Int} (h : j < 1882 ∨ 1914 ≤ j) (hk : 0 ≤ k ∧ k < 8) : tCl1 e k T j = T j := by
  unfold tCl1
  split
  · exact tS_ne (by omega)
  · rfl
theorem s_close_loop {e n : Int} (hb : gBk μ b) : ∀ (m : Nat) (k : Int) (T : Int → Int), 0 ≤ T 1881 ∧ T 1881 ≤ 8 → 0 ≤ k → k + m = T 1881 →
    gE 300 38 [gO 10 167, gI e, gI n, gI k] [] (mK μ b T) Q = Q n (mK μ b (itF (fun k T => tCl1 e k T) k m T)) := by
  intro m
  induction m with
  | zero =>
    intro k T hW h0 h1
    have h : T 1881 ≤ k := by omega
    rw [e300_38]
    simp (disch := first | assumption | omega) only [e300_0, e300_1, e300_2, e300_5, e300_6, e300_7, e300_10, e300_13, e300_14, e300_15, e300_16, e300_17, e300_18, e300_21, e300_22, e300_23, e300_26, e300_28, e300_29, e300_30, e300_33, e300_36, e300_37, e300_39, e300_40, e300_43, e300_46, e300_49, e300_50, e300_53, e300_54, e300_55, e300_56, e300_57, e300_60, e300_61, e300_64, e300_65, e300_68, e300_69, e300_70, e300_71, e300_72, e300_73, e300_74, e300_77, e300_80, e300_81, e300_84, e300_85, e300_86, e300_87, e300_88, e300_89, e300_90, e300_91, e300_94, e300_97, e300_100, e300_103, e300_106, e300_107, gK0_eq, gK1_eq, gK3_eq, w32_id, bI_eq0, bI_eq1, Bool.false_eq_true, not_true_eq_false, not_false_eq_true, ne_eq, ite_not, ↓reduceIte, if_true, if_false, Int.reduceToNat, Nat.reduceAdd, s_of, h, itF]
  | succ m ih =>
    intro k T hW h0 h1
    have h : ¬ T 1881 ≤ k := by omega
    have g1 : tCl1 e k T 1881 = T 1881 := tCl1_lo (by omega) (by omega)
    rw [e300_38, itF, ← ih (k + 1) (tCl1 e k T) (by rw [g1]; exact hW) (by omega) (by rw [g1]; omega)]
    by_cases hc : T (1882 + 4 * k) = e
    · by_cases hq : T (1882 + 4 * k + 3) = 0
      · simp (disch := first | assumption | omega) only [e300_0, e300_1, e300_2, e300_5, e300_6, e300_7, e300_10, e300_13, e300_14, e300_15, e300_16, e300_17, e300_18, e300_21, e300_22, e300_23, e300_26, e300_28, e300_29, e300_30, e300_33, e300_36, e300_37, e300_39, e300_40, e300_43, e300_46, e300_49, e300_50, e300_53, e300_54, e300_55, e300_56, e300_57, e300_60, e300_61, e300_64, e300_65, e300_68, e300_69, e300_70, e300_71, e300_72, e300_73, e300_74, e300_77, e300_80, e300_81, e300_84, e300_85, e300_86, e300_87, e300_88, e300_89, e300_90, e300_91, e300_94, e300_97, e300_100, e300_103, e300_106, e300_107, gK0_eq, gK1_eq, gK3_eq, w32_id, bI_eq0, bI_eq1, Bool.false_eq_true, not_true_eq_false, not_false_eq_true, ne_eq, ite_not, ↓reduceIte, if_true, if_false, Int.reduceToNat, Nat.reduceAdd, s_of, s_lay, h, hc, hq, tCl1, and_self]
      · simp (disch := first | assumption | omega) only [e300_0, e300_1, e300_2, e300_5, e300_6, e300_7, e300_10, e300_13, e300_14, e300_15, e300_16, e300_17, e300_18, e300_21, e300_22, e300_23, e300_26, e300_28, e300_29, e300_30, e300_33, e300_36, e300_37, e300_39, e300_40, e300_43, e300_46, e300_49, e300_50, e300_53, e300_54, e300_55, e300_56, e300_57, e300_60, e300_61, e300_64, e300_65, e300_68, e300_69, e300_70, e300_71, e300_72, e300_73, e300_74, e300_77, e300_80, e300_81, e300_84, e300_85, e300_86, e300_87, e300_88, e300_89, e300_90, e300_91, e300_94, e300_97, e300_100, e300_103, e300_106, e300_107, gK0_eq, gK1_eq, gK3_eq, w32_id, bI_eq0, bI_eq1, Bool.false_eq_true, not_true_eq_false, not_false_eq_true, ne_eq, ite_not, ↓reduceIte, if_true, if_false, Int.reduceToNat, Nat.reduceAdd, s_of, s_lay, h, hc, hq, tCl1, and_false]
    · simp (disch := first | assumption | omega) only [e300_0, e300_1, e300_2, e300_5, e300_6, e300_7, e300_10, e300_13, e300_14, e300_15, e300_16, e300_17, e300_18, e300_21, e300_22, e300_23, e300_26, e300_28, e300_29, e300_30, e300_33, e300_36, e300_37, e300_39, e300_40, e300_43, e300_46, e300_49, e300_50, e300_53, e300_54, e300_55, e300_56, e300_57, e300_60, e300_61, e300_64, e300_65, e300_68, e300_69, e300_70, e300_71, e300_72, e300_73, e300_74, e300_77, e300_80, e300_81, e300_84, e300_85, e300_86, e300_87, e300_88, e300_89, e300_90, e300_91, e300_94, e300_97, e300_100, e300_103, e300_106, e300_107, gK0_eq, gK1_eq, gK3_eq, w32_id, bI_eq0, bI_eq1, Bool.false_eq_true, not_true_eq_false, not_false_eq_true, ne_eq, ite_not, ↓reduceIte, if_true, if_false, Int.reduceToNat, Nat.reduceAdd, s_of, s_lay, h, hc, tCl1, false_and]
theorem s_close {e : Int} (hb : gBk μ b) (hW : 0 ≤ T 1881 ∧ T 1881 ≤ 8) : gE 300 0 [gO 10 167, gI e, gX, gX] [] (mK μ b T) Q =
    if 0 ≤ e ∧ e < μ 167 12 then (if tWai T e 0 = 0 then Q (-2) (mK (gS μ 167 2 0) b T) else Q (tWai T e 0) (mK (gS μ 167 2 0) b (tClo T e))) else Q (-1) (mK (gS μ 167 2 0) b T) := by
  have e1 : gS μ 167 2 0 167 12 = μ 167 12 := gS_neI (by omega)
  have hb' : gBk (gS μ 167 2 0) b := gBk_gS hb (by decide)
  by_cases h1 : 0 ≤ e ∧ e < μ 167 12
  · have he : 0 ≤ e := h1.1
    rw [if_pos h1]
    by_cases h2 : tWai T e 0 = 0
    · rw [if_pos h2]
      simp (disch := first | assumption | omega) only [e300_0, e300_1, e300_2, e300_5, e300_6, e300_7, e300_10, e300_13, e300_14, e300_15, e300_16, e300_17, e300_18, e300_21, e300_22, e300_23, e300_26, e300_28, e300_29, e300_30, e300_33, e300_36, e300_37, e300_39, e300_40, e300_43, e300_46, e300_49, e300_50, e300_53, e300_54, e300_55, e300_56, e300_57, e300_60, e300_61, e300_64, e300_65, e300_68, e300_69, e300_70, e300_71, e300_72, e300_73, e300_74, e300_77, e300_80, e300_81, e300_84, e300_85, e300_86, e300_87, e300_88, e300_89, e300_90, e300_91, e300_94, e300_97, e300_100, e300_103, e300_106, e300_107, gK0_eq, gK1_eq, gK3_eq, w32_id, bI_eq0, bI_eq1, Bool.false_eq_true, not_true_eq_false, not_false_eq_true, ne_eq, ite_not, ↓reduceIte, if_true, if_false, Int.reduceToNat, Nat.reduceAdd, Int.reduceEq, Int.reduceLT, Int.reduceLE, Int.reduceNeg, gS_mK, s_isDevice, e1, h1, and_self, s_waitingOf, h2]
    · rw [if_neg h2]
      simp (disch := first | assumption | omega) only [e300_0, e300_1, e300_2, e300_5, e300_6, e300_7, e300_10, e300_13, e300_14, e300_15, e300_16, e300_17, e300_18, e300_21, e300_22, e300_23, e300_26, e300_28, e300_29, e300_30, e300_33, e300_36, e300_37, e300_39, e300_40, e300_43, e300_46, e300_49, e300_50, e300_53, e300_54, e300_55, e300_56, e300_57, e300_60, e300_61, e300_64, e300_65, e300_68, e300_69, e300_70, e300_71, e300_72, e300_73, e300_74, e300_77, e300_80, e300_81, e300_84, e300_85, e300_86, e300_87, e300_88, e300_89, e300_90, e300_91, e300_94, e300_97, e300_100, e300_103, e300_106, e300_107, gK0_eq, gK1_eq, gK3_eq, w32_id, bI_eq0, bI_eq1, Bool.false_eq_true, not_true_eq_false, not_false_eq_true, ne_eq, ite_not, ↓reduceIte, if_true, if_false, Int.reduceToNat, Nat.reduceAdd, Int.reduceEq, Int.reduceLT, Int.reduceLE, Int.reduceNeg, gS_mK, s_isDevice, e1, h1, and_self, s_waitingOf, h2, s_moreM]
      have g1 : tMor T 1914 1881 = T 1881 := tMor_ne (by omega)
      rw [s_close_loop hb' (T 1881).toNat 0 _ (by rw [g1]; exact hW) (by omega) (by rw [g1]; omega)]
      rfl
  · rw [if_neg h1]
    simp (disch := first | assumption | omega) only [e300_0, e300_1, e300_2, e300_5, e300_6, e300_7, e300_10, e300_13, e300_14, e300_15, e300_16, e300_17, e300_18, e300_21, e300_22, e300_23, e300_26, e300_28, e300_29, e300_30, e300_33, e300_36, e300_37, e300_39, e300_40, e300_43, e300_46, e300_49, e300_50, e300_53, e300_54, e300_55, e300_56, e300_57, e300_60, e300_61, e300_64, e300_65, e300_68, e300_69, e300_70, e300_71, e300_72, e300_73, e300_74, e300_77, e300_80, e300_81, e300_84, e300_85, e300_86, e300_87, e300_88, e300_89, e300_90, e300_91, e300_94, e300_97, e300_100, e300_103, e300_106, e300_107, gK0_eq, gK1_eq, gK3_eq, w32_id, bI_eq0, bI_eq1, Bool.false_eq_true, not_true_eq_false, not_false_eq_true, ne_eq, ite_not, ↓reduceIte, if_true, if_false, Int.reduceToNat, Nat.reduceAdd, Int.reduceEq, Int.reduceLT, Int.reduceLE, Int.reduceNeg, gS_mK, s_isDevice, e1, h1]
theorem s_batchesOf_in {e n k bt : Int} (hb : gBk μ b) (hk : k ≤ 8) : ∀ (m : Nat) (i : Int) (is : Bool), 0 ≤ i → i + m = k →
    gE 304 64 [gO 10 167, gI e, gI n, gI k, gI bt, gI (bI (is = true)), gI i] [] (mK μ b T) Q = gE 304 107 [gO 10 167, gI e, gI n, gI k, gI bt, gI (bI ((is && !anyF (fun i => decide (T (1882 + 4 * i + 3) = bt)) i m) = true)), gI k] [] (mK μ b T) Q := by
  intro m
  induction m with
  | zero =>
    intro i is h0 h1
    have h : k ≤ i := by omega
    have hi : i = k := by omega
    rw [e304_64]
    simp (disch := first | assumption | omega) only [e304_0, e304_1, e304_2, e304_3, e304_4, e304_5, e304_6, e304_9, e304_12, e304_15, e304_16, e304_19, e304_20, e304_21, e304_22, e304_23, e304_24, e304_25, e304_28, e304_30, e304_32, e304_35, e304_36, e304_39, e304_40, e304_43, e304_44, e304_45, e304_46, e304_47, e304_50, e304_51, e304_54, e304_55, e304_58, e304_59, e304_61, e304_62, e304_66, e304_67, e304_70, e304_72, e304_75, e304_76, e304_79, e304_80, e304_82, e304_83, e304_84, e304_85, e304_86, e304_89, e304_91, e304_94, e304_95, e304_98, e304_99, e304_101, e304_104, e304_108, e304_110, e304_113, e304_114, e304_117, e304_118, e304_119, e304_120, e304_123, e304_126, e304_127, gK0_eq, gK1_eq, gK3_eq, w32_id, bI_eq0, bI_eq1, Bool.false_eq_true, not_true_eq_false, not_false_eq_true, ne_eq, ite_not, ↓reduceIte, if_true, if_false, Int.reduceToNat, Nat.reduceAdd, h, anyF, Bool.not_false, Bool.and_true]
    rw [hi]
  | succ m ih =>
    intro i is h0 h1
    have h : ¬ k ≤ i := by omega
    rw [e304_64]
    have st : ∀ is' : Bool, is' = (is && !decide (T (1882 + 4 * i + 3) = bt)) → gE 304 64 [gO 10 167, gI e, gI n, gI k, gI bt, gI (bI (is' = true)), gI (i + 1)] [] (mK μ b T) Q = gE 304 107 [gO 10 167, gI e, gI n, gI k, gI bt, gI (bI ((is && !anyF (fun i => decide (T (1882 + 4 * i + 3) = bt)) i (m + 1)) = true)), gI k] [] (mK μ b T) Q := by
      intro is' h'
      rw [ih (i + 1) is' (by omega) (by omega), h', anyF, Bool.not_or, Bool.and_assoc]
    cases is with
    | false =>
      simp (disch := first | assumption | omega) only [e304_0, e304_1, e304_2, e304_3, e304_4, e304_5, e304_6, e304_9, e304_12, e304_15, e304_16, e304_19, e304_20, e304_21, e304_22, e304_23, e304_24, e304_25, e304_28, e304_30, e304_32, e304_35, e304_36, e304_39, e304_40, e304_43, e304_44, e304_45, e304_46, e304_47, e304_50, e304_51, e304_54, e304_55, e304_58, e304_59, e304_61, e304_62, e304_66, e304_67, e304_70, e304_72, e304_75, e304_76, e304_79, e304_80, e304_82, e304_83, e304_84, e304_85, e304_86, e304_89, e304_91, e304_94, e304_95, e304_98, e304_99, e304_101, e304_104, e304_108, e304_110, e304_113, e304_114, e304_117, e304_118, e304_119, e304_120, e304_123, e304_126, e304_127, gK0_eq, gK1_eq, gK3_eq, w32_id, bI_eq0, bI_eq1, Bool.false_eq_true, not_true_eq_false, not_false_eq_true, ne_eq, ite_not, ↓reduceIte, if_true, if_false, Int.reduceToNat, Nat.reduceAdd, Int.reduceEq, Int.reduceLT, Int.reduceLE, Int.reduceNeg, h]
      have := st false (by simp)
      rw [bI_f (by simp)] at this
      exact this
    | true =>
      by_cases hc : T (1882 + 4 * i + 3) = bt
      · simp (disch := first | assumption | omega) only [e304_0, e304_1, e304_2, e304_3, e304_4, e304_5, e304_6, e304_9, e304_12, e304_15, e304_16, e304_19, e304_20, e304_21, e304_22, e304_23, e304_24, e304_25, e304_28, e304_30, e304_32, e304_35, e304_36, e304_39, e304_40, e304_43, e304_44, e304_45, e304_46, e304_47, e304_50, e304_51, e304_54, e304_55, e304_58, e304_59, e304_61, e304_62, e304_66, e304_67, e304_70, e304_72, e304_75, e304_76, e304_79, e304_80, e304_82, e304_83, e304_84, e304_85, e304_86, e304_89, e304_91, e304_94, e304_95, e304_98, e304_99, e304_101, e304_104, e304_108, e304_110, e304_113, e304_114, e304_117, e304_118, e304_119, e304_120, e304_123, e304_126, e304_127, gK0_eq, gK1_eq, gK3_eq, w32_id, bI_eq0, bI_eq1, Bool.false_eq_true, not_true_eq_false, not_false_eq_true, ne_eq, ite_not, ↓reduceIte, if_true, if_false, Int.reduceToNat, Nat.reduceAdd, Int.reduceEq, Int.reduceLT, Int.reduceLE, Int.reduceNeg, h, s_of, hc]
        have := st false (by simp [hc])
        rw [bI_f (by simp)] at this
        exact this
      · simp (disch := first | assumption | omega) only [e304_0, e304_1, e304_2, e304_3, e304_4, e304_5, e304_6, e304_9, e304_12, e304_15, e304_16, e304_19, e304_20, e304_21, e304_22, e304_23, e304_24, e304_25, e304_28, e304_30, e304_32, e304_35, e304_36, e304_39, e304_40, e304_43, e304_44, e304_45, e304_46, e304_47, e304_50, e304_51, e304_54, e304_55, e304_58, e304_59, e304_61, e304_62, e304_66, e304_67, e304_70, e304_72, e304_75, e304_76, e304_79, e304_80, e304_82, e304_83, e304_84, e304_85, e304_86, e304_89, e304_91, e304_94, e304_95, e304_98, e304_99, e304_101, e304_104, e304_108, e304_110, e304_113, e304_114, e304_117, e304_118, e304_119, e304_120, e304_123, e304_126, e304_127, gK0_eq, gK1_eq, gK3_eq, w32_id, bI_eq0, bI_eq1, Bool.false_eq_true, not_true_eq_false, not_false_eq_true, ne_eq, ite_not, ↓reduceIte, if_true, if_false, Int.reduceToNat, Nat.reduceAdd, Int.reduceEq, Int.reduceLT, Int.reduceLE, Int.reduceNeg, h, s_of, hc]
        have := st true (by simp [hc])
        rw [bI_t rfl] at this
        exact this
theorem s_batchesOf_loop {e : Int} (hb : gBk μ b) (hW : 0 ≤ T 1881 ∧ T 1881 ≤ 8) : ∀ (m : Nat) (k n : Int) (l4 l5 l6 : gv), 0 ≤ k → k + m = T 1881 → 0 ≤ n → n ≤ k →
    gE 304 4 [gO 10 167, gI e, gI n, gI k, l4, l5, l6] [] (mK μ b T) Q = Q (n + cntF (tBt T e) k m) (mK μ b T) := by
  intro m
  induction m with
  | zero =>
    intro k n l4 l5 l6 h0 h1 h2 h3
    have h : T 1881 ≤ k := by omega
    rw [e304_4]
    simp (disch := first | assumption | omega) only [e304_0, e304_1, e304_2, e304_3, e304_5, e304_6, e304_9, e304_12, e304_15, e304_16, e304_19, e304_20, e304_21, e304_22, e304_23, e304_24, e304_25, e304_28, e304_30, e304_32, e304_35, e304_36, e304_39, e304_40, e304_43, e304_44, e304_45, e304_46, e304_47, e304_50, e304_51, e304_54, e304_55, e304_58, e304_59, e304_61, e304_62, e304_66, e304_67, e304_70, e304_72, e304_75, e304_76, e304_79, e304_80, e304_82, e304_83, e304_84, e304_85, e304_86, e304_89, e304_91, e304_94, e304_95, e304_98, e304_99, e304_101, e304_104, e304_107, e304_108, e304_110, e304_113, e304_114, e304_117, e304_118, e304_119, e304_120, e304_123, e304_126, e304_127, gK0_eq, gK1_eq, gK3_eq, w32_id, bI_eq0, bI_eq1, Bool.false_eq_true, not_true_eq_false, not_false_eq_true, ne_eq, ite_not, ↓reduceIte, if_true, if_false, Int.reduceToNat, Nat.reduceAdd, s_of, h, cntF, Int.add_zero]
  | succ m ih =>
    intro k n l4 l5 l6 h0 h1 h2 h3
    have h : ¬ T 1881 ≤ k := by omega
    have key : ∀ is : Bool, is = (decide (0 < T (1882 + 4 * k + 3)) && (decide (e < 0) || decide (T (1882 + 4 * k) = e))) → gE 304 64 [gO 10 167, gI e, gI n, gI k, gI (T (1882 + 4 * k + 3)), gI (bI (is = true)), gI 0] [] (mK μ b T) Q = Q (n + cntF (tBt T e) k (m + 1)) (mK μ b T) := by
      intro is his
      rw [s_batchesOf_in hb (by omega) k.toNat 0 is (by omega) (by omega)]
      have e1 : (is && !anyF (fun i => decide (T (1882 + 4 * i + 3) = T (1882 + 4 * k + 3))) 0 k.toNat) = tBt T e k := by rw [his]; rfl
      rw [e1]
      cases ht : tBt T e k with
      | true =>
        simp (disch := first | assumption | omega) only [e304_0, e304_1, e304_2, e304_3, e304_5, e304_6, e304_9, e304_12, e304_15, e304_16, e304_19, e304_20, e304_21, e304_22, e304_23, e304_24, e304_25, e304_28, e304_30, e304_32, e304_35, e304_36, e304_39, e304_40, e304_43, e304_44, e304_45, e304_46, e304_47, e304_50, e304_51, e304_54, e304_55, e304_58, e304_59, e304_61, e304_62, e304_66, e304_67, e304_70, e304_72, e304_75, e304_76, e304_79, e304_80, e304_82, e304_83, e304_84, e304_85, e304_86, e304_89, e304_91, e304_94, e304_95, e304_98, e304_99, e304_101, e304_104, e304_107, e304_108, e304_110, e304_113, e304_114, e304_117, e304_118, e304_119, e304_120, e304_123, e304_126, e304_127, gK0_eq, gK1_eq, gK3_eq, w32_id, bI_eq0, bI_eq1, Bool.false_eq_true, not_true_eq_false, not_false_eq_true, ne_eq, ite_not, ↓reduceIte, if_true, if_false, Int.reduceToNat, Nat.reduceAdd, Int.reduceEq, Int.reduceLT, Int.reduceLE, Int.reduceNeg]
        rw [ih _ _ _ _ _ (by omega) (by omega) (by omega) (by omega), cntF_t ht, Int.add_assoc]
      | false =>
        simp (disch := first | assumption | omega) only [e304_0, e304_1, e304_2, e304_3, e304_5, e304_6, e304_9, e304_12, e304_15, e304_16, e304_19, e304_20, e304_21, e304_22, e304_23, e304_24, e304_25, e304_28, e304_30, e304_32, e304_35, e304_36, e304_39, e304_40, e304_43, e304_44, e304_45, e304_46, e304_47, e304_50, e304_51, e304_54, e304_55, e304_58, e304_59, e304_61, e304_62, e304_66, e304_67, e304_70, e304_72, e304_75, e304_76, e304_79, e304_80, e304_82, e304_83, e304_84, e304_85, e304_86, e304_89, e304_91, e304_94, e304_95, e304_98, e304_99, e304_101, e304_104, e304_107, e304_108, e304_110, e304_113, e304_114, e304_117, e304_118, e304_119, e304_120, e304_123, e304_126, e304_127, gK0_eq, gK1_eq, gK3_eq, w32_id, bI_eq0, bI_eq1, Bool.false_eq_true, not_true_eq_false, not_false_eq_true, ne_eq, ite_not, ↓reduceIte, if_true, if_false, Int.reduceToNat, Nat.reduceAdd, Int.reduceEq, Int.reduceLT, Int.reduceLE, Int.reduceNeg, Int.add_zero]
        rw [ih _ _ _ _ _ (by omega) (by omega) (by omega) (by omega), cntF_f ht]
    rw [e304_4]
    have k1 := key true
    have k0 := key false
    rw [bI_t rfl] at k1
    rw [bI_f (by simp)] at k0
    by_cases hc : T (1882 + 4 * k + 3) ≤ 0
    · simp (disch := first | assumption | omega) only [e304_0, e304_1, e304_2, e304_3, e304_5, e304_6, e304_9, e304_12, e304_15, e304_16, e304_19, e304_20, e304_21, e304_22, e304_23, e304_24, e304_25, e304_28, e304_30, e304_32, e304_35, e304_36, e304_39, e304_40, e304_43, e304_44, e304_45, e304_46, e304_47, e304_50, e304_51, e304_54, e304_55, e304_58, e304_59, e304_61, e304_62, e304_66, e304_67, e304_70, e304_72, e304_75, e304_76, e304_79, e304_80, e304_82, e304_83, e304_84, e304_85, e304_86, e304_89, e304_91, e304_94, e304_95, e304_98, e304_99, e304_101, e304_104, e304_107, e304_108, e304_110, e304_113, e304_114, e304_117, e304_118, e304_119, e304_120, e304_123, e304_126, e304_127, gK0_eq, gK1_eq, gK3_eq, w32_id, bI_eq0, bI_eq1, Bool.false_eq_true, not_true_eq_false, not_false_eq_true, ne_eq, ite_not, ↓reduceIte, if_true, if_false, Int.reduceToNat, Nat.reduceAdd, Int.reduceEq, Int.reduceLT, Int.reduceLE, Int.reduceNeg, h, s_of, hc]
      exact k0 (by simp; omega)
    · by_cases he : e < 0
      · simp (disch := first | assumption | omega) only [e304_0, e304_1, e304_2, e304_3, e304_5, e304_6, e304_9, e304_12, e304_15, e304_16, e304_19, e304_20, e304_21, e304_22, e304_23, e304_24, e304_25, e304_28, e304_30, e304_32, e304_35, e304_36, e304_39, e304_40, e304_43, e304_44, e304_45, e304_46, e304_47, e304_50, e304_51, e304_54, e304_55, e304_58, e304_59, e304_61, e304_62, e304_66, e304_67, e304_70, e304_72, e304_75, e304_76, e304_79, e304_80, e304_82, e304_83, e304_84, e304_85, e304_86, e304_89, e304_91, e304_94, e304_95, e304_98, e304_99, e304_101, e304_104, e304_107, e304_108, e304_110, e304_113, e304_114, e304_117, e304_118, e304_119, e304_120, e304_123, e304_126, e304_127, gK0_eq, gK1_eq, gK3_eq, w32_id, bI_eq0, bI_eq1, Bool.false_eq_true, not_true_eq_false, not_false_eq_true, ne_eq, ite_not, ↓reduceIte, if_true, if_false, Int.reduceToNat, Nat.reduceAdd, Int.reduceEq, Int.reduceLT, Int.reduceLE, Int.reduceNeg, h, s_of, hc, he]
        exact k1 (by simp [he]; omega)
      · by_cases hd : T (1882 + 4 * k) = e
        · simp (disch := first | assumption | omega) only [e304_0, e304_1, e304_2, e304_3, e304_5, e304_6, e304_9, e304_12, e304_15, e304_16, e304_19, e304_20, e304_21, e304_22, e304_23, e304_24, e304_25, e304_28, e304_30, e304_32, e304_35, e304_36, e304_39, e304_40, e304_43, e304_44, e304_45, e304_46, e304_47, e304_50, e304_51, e304_54, e304_55, e304_58, e304_59, e304_61, e304_62, e304_66, e304_67, e304_70, e304_72, e304_75, e304_76, e304_79, e304_80, e304_82, e304_83, e304_84, e304_85, e304_86, e304_89, e304_91, e304_94, e304_95, e304_98, e304_99, e304_101, e304_104, e304_107, e304_108, e304_110, e304_113, e304_114, e304_117, e304_118, e304_119, e304_120, e304_123, e304_126, e304_127, gK0_eq, gK1_eq, gK3_eq, w32_id, bI_eq0, bI_eq1, Bool.false_eq_true, not_true_eq_false, not_false_eq_true, ne_eq, ite_not, ↓reduceIte, if_true, if_false, Int.reduceToNat, Nat.reduceAdd, Int.reduceEq, Int.reduceLT, Int.reduceLE, Int.reduceNeg, h, s_of, hc, he, hd]
          exact k1 (by simp [hd]; omega)
        · simp (disch := first | assumption | omega) only [e304_0, e304_1, e304_2, e304_3, e304_5, e304_6, e304_9, e304_12, e304_15, e304_16, e304_19, e304_20, e304_21, e304_22, e304_23, e304_24, e304_25, e304_28, e304_30, e304_32, e304_35, e304_36, e304_39, e304_40, e304_43, e304_44, e304_45, e304_46, e304_47, e304_50, e304_51, e304_54, e304_55, e304_58, e304_59, e304_61, e304_62, e304_66, e304_67, e304_70, e304_72, e304_75, e304_76, e304_79, e304_80, e304_82, e304_83, e304_84, e304_85, e304_86, e304_89, e304_91, e304_94, e304_95, e304_98, e304_99, e304_101, e304_104, e304_107, e304_108, e304_110, e304_113, e304_114, e304_117, e304_118, e304_119, e304_120, e304_123, e304_126, e304_127, gK0_eq, gK1_eq, gK3_eq, w32_id, bI_eq0, bI_eq1, Bool.false_eq_true, not_true_eq_false, not_false_eq_true, ne_eq, ite_not, ↓reduceIte, if_true, if_false, Int.reduceToNat, Nat.reduceAdd, Int.reduceEq, Int.reduceLT, Int.reduceLE, Int.reduceNeg, h, s_of, hc, he, hd]
          exact k0 (by simp [he, hd])
theorem s_batchesOf {e : Int} (hb : gBk μ b) (hW : 0 ≤ T 1881 ∧ T 1881 ≤ 8) : gE 304 0 [gO 10 167, gI e, gX, gX, gX, gX, gX] [] (mK μ b T) Q = Q (tBts T e) (mK μ b T) := by
  simp (disch := first | assumption | omega) only [e304_0, e304_1, e304_2, e304_3, e304_5, e304_6, e304_9, e304_12, e304_15, e304_16, e304_19, e304_20, e304_21, e304_22, e304_23, e304_24, e304_25, e304_28, e304_30, e304_32, e304_35, e304_36, e304_39, e304_40, e304_43, e304_44, e304_45, e304_46, e304_47, e304_50, e304_51, e304_54, e304_55, e304_58, e304_59, e304_61, e304_62, e304_66, e304_67, e304_70, e304_72, e304_75, e304_76, e304_79, e304_80, e304_82, e304_83, e304_84, e304_85, e304_86, e304_89, e304_91, e304_94, e304_95, e304_98, e304_99, e304_101, e304_104, e304_107, e304_108, e304_110, e304_113, e304_114, e304_117, e304_118, e304_119, e304_120, e304_123, e304_126, e304_127, gK0_eq, gK1_eq, gK3_eq, w32_id, bI_eq0, bI_eq1, Bool.false_eq_true, not_true_eq_false, not_false_eq_true, ne_eq, ite_not, ↓reduceIte, if_true, if_false, Int.reduceToNat, Nat.reduceAdd]
  rw [s_batchesOf_loop hb hW (T 1881).toNat 0 0 gX gX gX (by omega) (by omega) (by omega) (by omega), Int.zero_add]
  rfl
end MODEL7
