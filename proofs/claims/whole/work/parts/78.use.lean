/-! the class: its state: use -/
section USE
variable {B C : Nat} {X μ μ' : gM} {T T' : Int → Int} {Q : Int → gM → Prop}
theorem tRcd_congr {sg p r w : Int} (h : ∀ j, 1927 ≤ j → T' j = T j) {j : Int} (hj : 1927 ≤ j) : tRcd T' sg p r w j = tRcd T sg p r w j := by
  have e : T' 1927 = T 1927 := h _ (by omega)
  have n : tRcn T' = tRcn T := by unfold tRcn; rw [e]
  unfold tRcd
  rw [n]
  unfold tS tShR
  split
  · rfl
  · split
    · rfl
    · split
      · rfl
      · split
        · rfl
        · split
          · rfl
          · split
            · rw [h _ (by omega)]
            · rw [h _ hj]
theorem tRcd_zero {sg p r w : Int} (hR : 0 ≤ T 1927 ∧ T 1927 ≤ 8) : tS (tRcd T sg p r w) 1918 0 = tRcd (tS T 1918 0) sg p r w := by
  have hR' : 0 ≤ tS T 1918 0 1927 ∧ tS T 1918 0 1927 ≤ 8 := by rw [tS_ne (by omega)]; exact hR
  funext j
  by_cases c : j < 1927
  · rw [(tRcd_at hR').1 j c]
    by_cases z : j = 1918
    · rw [z, tS_same, tS_same]
    · rw [tS_ne z, tS_ne z, (tRcd_at hR).1 j c]
  · rw [tS_ne (by omega)]
    exact (tRcd_congr (T := T) (T' := tS T 1918 0) (fun i hi => tS_ne (by omega)) (by omega)).symm
theorem tRcd_bec {sg p r w c a : Int} (hR : 0 ≤ T 1927 ∧ T 1927 ≤ 8) (hC : 0 ≤ T 1918 ∧ T 1918 ≤ 3) : tBec (tRcd T sg p r w) c a = tRcd (tBec T c a) sg p r w := by
  have hR' : 0 ≤ tBec T c a 1927 ∧ tBec T c a 1927 ≤ 8 := by rw [tBec_lo (by omega) hC]; exact hR
  have e1918 : tRcd T sg p r w 1918 = T 1918 := (tRcd_at hR).1 _ (by omega)
  funext j
  by_cases z : j < 1927
  · rw [(tRcd_at hR').1 j z]
    unfold tBec
    rw [e1918]
    unfold tS
    rw [(tRcd_at hR).1 j z]
  · rw [tBec_lo (by omega) (by omega)]
    exact (tRcd_congr (T := T) (T' := tBec T c a) (fun i hi => tBec_lo (by omega) hC) (by omega)).symm
theorem tFaN_log {e sg p r w a : Int} (hR : 0 ≤ T 1927 ∧ T 1927 ≤ 8) : tBec (tRef (tRcd T sg p r w) 10 e) w a = tFaN T e sg p r w a := by
  have z : tS T 1918 0 1918 = 0 := tS_same
  have r1 : 0 ≤ tS T 1918 0 1927 ∧ tS T 1918 0 1927 ≤ 8 := by rw [tS_ne (by omega)]; exact hR
  have r2 : 0 ≤ tBec (tS T 1918 0) 10 e 1927 ∧ tBec (tS T 1918 0) 10 e 1927 ≤ 8 := by rw [tBec_lo (by omega) (by omega)]; exact r1
  unfold tRef tFaN
  rw [tRcd_zero hR, tRcd_bec r1 (by omega), tRcd_bec r2 (by rw [tBec_1918, z]; omega)]
theorem tFaM_log {e sg p r w a : Int} (hR : 0 ≤ T 1927 ∧ T 1927 ≤ 8) : tBec (tBec (tRef (tRcd T sg p r w) 11 e) 10 e) w a = tFaM T e sg p r w a := by
  have z : tS T 1918 0 1918 = 0 := tS_same
  have r1 : 0 ≤ tS T 1918 0 1927 ∧ tS T 1918 0 1927 ≤ 8 := by rw [tS_ne (by omega)]; exact hR
  have r2 : 0 ≤ tBec (tS T 1918 0) 11 e 1927 ∧ tBec (tS T 1918 0) 11 e 1927 ≤ 8 := by rw [tBec_lo (by omega) (by omega)]; exact r1
  have z2 : tBec (tS T 1918 0) 11 e 1918 = 1 := by rw [tBec_1918, z]; rfl
  have r3 : 0 ≤ tBec (tBec (tS T 1918 0) 11 e) 10 e 1927 ∧ tBec (tBec (tS T 1918 0) 11 e) 10 e 1927 ≤ 8 := by rw [tBec_lo (by omega) (by omega)]; exact r2
  unfold tRef tFaM
  rw [tRcd_zero hR, tRcd_bec r1 (by omega), tRcd_bec r2 (by omega), tRcd_bec r3 (by rw [tBec_1918, z2]; omega)]
theorem tFaN_lo' {e sg p r w a j : Int} (hR : 0 ≤ T 1927 ∧ T 1927 ≤ 8) (hj : j < 1918) : tFaN T e sg p r w a j = T j := by
  have z : tS T 1918 0 1918 = 0 := tS_same
  rw [← tFaN_log hR, tBec_lo (by omega) (by unfold tRef; rw [tBec_1918, tS_same]; omega), tRef_lo (by omega), (tRcd_at hR).1 j (by omega)]
theorem tFaM_lo' {e sg p r w a j : Int} (hR : 0 ≤ T 1927 ∧ T 1927 ≤ 8) (hj : j < 1918) : tFaM T e sg p r w a j = T j := by
  have z1 : tRef (tRcd T sg p r w) 11 e 1918 = 1 := by unfold tRef; rw [tBec_1918, tS_same]; rfl
  rw [← tFaM_log hR, tBec_lo (by omega) (by rw [tBec_1918, z1]; omega), tBec_lo (by omega) (by omega), tRef_lo (by omega), (tRcd_at hR).1 j (by omega)]
theorem tReq_congr {e p r : Int} (h : ∀ j, 1881 ≤ j → j ≤ 1917 → T' j = T j) (hW : 0 ≤ T 1881 ∧ T 1881 < 8) {j : Int} (j0 : 1881 ≤ j) (j1 : j ≤ 1917) : tReq T' e p r j = tReq T e p r j := by
  have e1 : T' 1881 = T 1881 := h _ (by omega) (by omega)
  have e2 : T' 1915 = T 1915 := h _ (by omega) (by omega)
  unfold tReq
  rw [e1]
  by_cases z : j = 1915
  · unfold tMor
    rw [z, tS_same, tS_same]
    simp (disch := first | assumption | omega) only [tS_ne, e2]
  · rw [tMor_ne z, tMor_ne z]
    unfold tS
    rw [h j j0 j1]
theorem tReq_lo' {e p r j : Int} (hW : 0 ≤ T 1881 ∧ T 1881 < 8) (hj : j < 1881 ∨ 1916 ≤ j) : tReq T e p r j = T j := by
  unfold tReq
  rw [tMor_ne (by omega), tS_ne (by omega), tS_ne (by omega), tS_ne (by omega), tS_ne (by omega), tS_ne (by omega)]
theorem tReqG_congr {k : Int} (h : ∀ j, 1881 ≤ j → j ≤ 1917 → T' j = T j) (hW : 0 ≤ T 1881 ∧ T 1881 ≤ 8) {j : Int} (j0 : 1881 ≤ j) (j1 : j ≤ 1917) (hk : 0 ≤ k) : tReqG T' k j = tReqG T k j := by
  have e1 : T' 1881 = T 1881 := h _ (by omega) (by omega)
  unfold tReqG tS tShL
  rw [e1]
  split
  · rfl
  · split
    · rw [h _ (by omega) (by omega)]
    · rw [h j j0 j1]
theorem tOpF_congr {e : Int} : ∀ (n : Nat) (T T' : Int → Int), (∀ j, 1881 ≤ j → j ≤ 1917 → T' j = T j) → (n : Int) ≤ T 1881 → T 1881 ≤ 8 → ∀ j, 1881 ≤ j → j ≤ 1917 → tOpF e n T' j = tOpF e n T j := by
  intro n
  induction n with
  | zero => intro T T' h _ _ j j0 j1; exact h j j0 j1
  | succ n ih =>
    intro T T' h h0 h1 j j0 j1
    rw [tOpF, tOpF, h _ (by omega) (by omega), h _ (by omega) (by omega)]
    by_cases c : T (1882 + 4 * n) = e ∧ T (1882 + 4 * n + 3) = 0
    · rw [if_pos c, if_pos c]
      have g1 : tReqG T n 1881 = T 1881 - 1 := tReqG_1881
      refine ih _ _ (fun i i0 i1 => ?_) (by rw [tMor_ne (by omega), g1]; omega) (by rw [tMor_ne (by omega), g1]; omega) j j0 j1
      have q := fun i (i0 : 1881 ≤ i) (i1 : i ≤ 1917) => tReqG_congr (T := T) (T' := T') (k := n) (j := i) h (by omega) i0 i1 (by omega)
      by_cases z : i = 1917
      · unfold tMor
        rw [z, tS_same, tS_same, q _ (by omega) (by omega)]
      · rw [tMor_ne z, tMor_ne z, q i i0 i1]
    · rw [if_neg c, if_neg c]
      exact ih T T' h (by omega) h1 j j0 j1
theorem tOpF_lo' {e : Int} : ∀ (n : Nat) (T : Int → Int), (n : Int) ≤ T 1881 → T 1881 ≤ 8 → ∀ j, (j < 1881 ∨ 1914 ≤ j) → j ≠ 1917 → tOpF e n T j = T j := by
  intro n
  induction n with
  | zero => intro T _ _ j _ _; rfl
  | succ n ih =>
    intro T h0 h1 j hj hn
    have g1 : tReqG T n 1881 = T 1881 - 1 := tReqG_1881
    rw [tOpF]
    split
    · rw [ih _ (by rw [tMor_ne (by omega), g1]; omega) (by rw [tMor_ne (by omega), g1]; omega) j hj hn, tMor_ne hn, tReqG_lo hj (by omega) h1]
    · exact ih T (by omega) h1 j hj hn
theorem k_use_none {e p r : Int} (hI : gIX X) (h : rSt B X T μ) (he : 0 ≤ e ∧ e < X 167 12) (hd : T (1673 + X 179 e) = -1) : ∃ μ', gFr B (B + 50) μ μ' ∧ rSt B X (tFaN T e (xSign X e) p r 9 (X 179 e)) μ' ∧ ∀ Q : Int → gM → Prop, gE 199 0 [gO 6 B, gI e, gI p, gI r, gX, gX, gX, gX, gX] [] μ Q = Q (-2) μ' := by
  have n2 := hI.2.1
  have b1 := h.2.2.2.2.2.2.2 e he.1 he.2
  rw [hd] at b1
  have b2 := h.1.2 e he.1 he.2
  have e0 := he.1
  have e1 : e < ((8 : Nat) : Int) := by omega
  have hR := h.2.2.2.2.2.2.1.2.1
  obtain ⟨μ1, f1, r1, run1⟩ := k_addRecord (sg := xSign X e) (p := p) (r := r) (w := 9) h.2.2.2.2.2.2.1
  obtain ⟨μ2, f2, r2, run2⟩ := k_refuse (c := 10) (a := e) r1
  have c1 : tRef (tRcd T (xSign X e) p r 9) 10 e 1918 = 1 := by unfold tRef; rw [tBec_1918, tS_same]; rfl
  obtain ⟨μ3, f3, r3, run3⟩ := k_because (c := 9) (a := X 179 e) r2 (by omega)
  rw [tFaN_log hR] at r3
  have ff := gFr_trans f1 (gFr_trans f2 f3)
  refine ⟨μ3, gFr_mono ff (by omega) (by omega), ⟨rTr_fr hI h.1 ff (by omega), rTb_fr h.2.1 ff (by omega) (fun j hj => by exact tFaN_lo' hR (by omega)), rFr_fr h.2.2.1 ff (by omega) (fun j hj => by exact tFaN_lo' hR (by omega)), rQu_fr h.2.2.2.1 ff (by omega) (fun j j1 j2 => by exact tFaN_lo' hR (by omega)), rCa_fr h.2.2.2.2.1 ff (by omega) (fun j j1 j2 => by exact tFaN_lo' hR (by omega)), rRq_fr h.2.2.2.2.2.1 ff (by omega) (fun j j1 j2 => by exact tFaN_lo' hR (by omega)), r3, rDm_fr hI h.2.2.2.2.2.2.2 ff (by omega) (fun j j1 j2 => by exact tFaN_lo' hR (by omega))⟩, fun Q => ?_⟩
  simp (disch := first | assumption | omega) only [e199_0, e199_1, e199_4, e199_5, e199_8, e199_10, e199_11, e199_13, e199_14, e199_15, e199_18, e199_20, e199_22, e199_23, e199_26, e199_28, e199_29, e199_31, e199_33, e199_34, e199_36, e199_38, e199_39, e199_42, e199_44, e199_46, e199_47, e199_50, e199_53, e199_54, e199_57, e199_59, e199_62, e199_63, e199_66, e199_68, e199_69, e199_72, e199_75, e199_77, e199_79, e199_80, e199_83, e199_85, e199_86, e199_89, e199_91, e199_92, e199_95, e199_96, e199_99, e199_100, e199_103, e199_104, e199_105, e199_107, e199_110, e199_112, e199_113, e199_116, e199_118, e199_121, e199_122, e199_123, e199_124, e199_125, e199_128, e199_130, e199_132, e199_134, e199_137, e199_138, e199_141, e199_143, e199_144, e199_147, e199_148, e199_149, e199_152, e199_154, e199_155, e199_158, e199_159, e199_162, e199_163, e199_166, e199_168, e199_169, e199_172, e199_173, e199_174, e199_177, e199_179, e199_181, e199_184, e199_185, e199_187, gK0_eq, gK1_eq, gK3_eq, w32_id, bI_eq0, bI_eq1, Bool.false_eq_true, not_true_eq_false, not_false_eq_true, ne_eq, ite_not, ↓reduceIte, if_true, if_false, Int.reduceToNat, Nat.reduceAdd, Int.reduceEq, Int.reduceLT, Int.reduceLE, Int.reduceNeg, bI_T, bI_F, ↓if_pos, ↓if_neg, s_at, atv_in, b1, k_look_none, b2, k_signOf hI h.1.1 he, run1, run2, run3]
theorem k_use_ok {e p r : Int} (hI : gIX X) (h : rSt B X T μ) (he : 0 ≤ e ∧ e < X 167 12) (hp : 0 ≤ p ∧ p < 64) (hd : 0 ≤ T (1673 + X 179 e) ∧ T (1673 + X 179 e) < 4) (hf : 0 ≤ tLkF T (T (1673 + X 179 e)) p r) : ∃ μ', gFr B (B + 50) μ μ' ∧ rSt B X (tLkT T (X 178 0) (T (1673 + X 179 e)) p r) μ' ∧ ∀ Q : Int → gM → Prop, gE 199 0 [gO 6 B, gI e, gI p, gI r, gX, gX, gX, gX, gX] [] μ Q = Q (tLkF T (T (1673 + X 179 e)) p r) μ' := by
  have n2 := hI.2.1
  have b1 := h.2.2.2.2.2.2.2 e he.1 he.2
  have e0 := he.1
  have e1 : e < ((8 : Nat) : Int) := by omega
  obtain ⟨μ1, f1, r1, run1⟩ := k_look (r := r) hI h hd hp
  have c : ¬ tLkF T (T (1673 + X 179 e)) p r = -1 := by omega
  refine ⟨μ1, f1, r1, fun Q => ?_⟩
  simp (disch := first | assumption | omega) only [e199_0, e199_1, e199_4, e199_5, e199_8, e199_10, e199_11, e199_13, e199_14, e199_15, e199_18, e199_20, e199_22, e199_23, e199_26, e199_28, e199_29, e199_31, e199_33, e199_34, e199_36, e199_38, e199_39, e199_42, e199_44, e199_46, e199_47, e199_50, e199_53, e199_54, e199_57, e199_59, e199_62, e199_63, e199_66, e199_68, e199_69, e199_72, e199_75, e199_77, e199_79, e199_80, e199_83, e199_85, e199_86, e199_89, e199_91, e199_92, e199_95, e199_96, e199_99, e199_100, e199_103, e199_104, e199_105, e199_107, e199_110, e199_112, e199_113, e199_116, e199_118, e199_121, e199_122, e199_123, e199_124, e199_125, e199_128, e199_130, e199_132, e199_134, e199_137, e199_138, e199_141, e199_143, e199_144, e199_147, e199_148, e199_149, e199_152, e199_154, e199_155, e199_158, e199_159, e199_162, e199_163, e199_166, e199_168, e199_169, e199_172, e199_173, e199_174, e199_177, e199_179, e199_181, e199_184, e199_185, e199_187, gK0_eq, gK1_eq, gK3_eq, w32_id, bI_eq0, bI_eq1, Bool.false_eq_true, not_true_eq_false, not_false_eq_true, ne_eq, ite_not, ↓reduceIte, if_true, if_false, Int.reduceToNat, Nat.reduceAdd, Int.reduceEq, Int.reduceLT, Int.reduceLE, Int.reduceNeg, bI_T, bI_F, ↓if_pos, ↓if_neg, s_at, atv_in, b1, run1, c]
theorem k_use_fault {e p r : Int} (hI : gIX X) (h : rSt B X T μ) (he : 0 ≤ e ∧ e < X 167 12) (hp : 0 ≤ p ∧ p < 64) (hd : 0 ≤ T (1673 + X 179 e) ∧ T (1673 + X 179 e) < 4) (hh : tHit T (T (1673 + X 179 e)) p r = false) (hw : tWok T (T (1673 + X 179 e)) p r = false) (w a : Int) (ew : w = if tMp T (T (1673 + X 179 e)) p = true then 8 else 7) (ea : a = if tMp T (T (1673 + X 179 e)) p = true then p else tLvl T (T (1673 + X 179 e)) p) :
    ∃ μ', gFr B (B + 50) μ μ' ∧ rSt B X (if X 175 e = 0 then tFaN (tMor T 1879) e (xSign X e) p r w a else if T 1881 < 8 then tReq (tFaN (tMor T 1879) e (xSign X e) p r w a) e p r else tOpF e 8 (tFaM (tMor T 1879) e (xSign X e) p r w a)) μ' ∧
      ∀ Q : Int → gM → Prop, gE 199 0 [gO 6 B, gI e, gI p, gI r, gX, gX, gX, gX, gX] [] μ Q = Q (if X 175 e = 0 then -2 else if T 1881 < 8 then -3 else -4) μ' := by
  have n2 := hI.2.1
  have b1 := h.2.2.2.2.2.2.2 e he.1 he.2
  have e0 := he.1
  have e1 : e < ((8 : Nat) : Int) := by omega
  have dn : ¬ T (1673 + X 179 e) = -1 := by omega
  have fF : tLkF T (T (1673 + X 179 e)) p r = -1 := by unfold tLkF; rw [hh, hw]; rfl
  have fT : tLkT T (X 178 0) (T (1673 + X 179 e)) p r = tMor T 1879 := by unfold tLkT; rw [hh, hw]; rfl
  obtain ⟨μ1, f1, h1, run1⟩ := k_look (r := r) hI h hd hp
  rw [fT] at h1
  rw [fF] at run1
  have hm : tMp (tMor T 1879) (T (1673 + X 179 e)) p = tMp T (T (1673 + X 179 e)) p := tMp_congr (tMor_ne (by omega))
  have hl : tLvl (tMor T 1879) (T (1673 + X 179 e)) p = tLvl T (T (1673 + X 179 e)) p := tLvl_congr hd hp (fun j _ _ => tMor_ne (by omega))
  have hR := h1.2.2.2.2.2.2.1.2.1
  have hW := h1.2.2.2.2.2.1.1
  have w81 : tMor T 1879 1881 = T 1881 := tMor_ne (by omega)
  obtain ⟨μ2, f2, r2, run2⟩ := k_addRecord (sg := xSign X e) (p := p) (r := r) (w := w) h1.2.2.2.2.2.2.1
  have q2 : rRq (B + 37) (tMor T 1879) μ2 := rRq_fr h1.2.2.2.2.2.1 f2 (by omega) (fun j _ _ => rfl)
  have st0 := (h1.1.1.2.2.1 e he.1 he.2).2.2
  have st2 : μ2 (B + 1 + 6) e = X 175 e := by rw [f2 _ _ (by omega)]; exact st0
  have len2 := q2.2.2.1
  rw [w81] at len2 hW
  have sv := hI.2.2.2.2.2.1 e he.1 he.2
  have fr12 : gFr B (B + 50) μ μ2 := gFr_trans f1 (gFr_mono f2 (by omega) (by omega))
  have z1 : ∀ c : Int, tRef (tRcd (tMor T 1879) (xSign X e) p r w) c e 1918 = 1 := fun c => by unfold tRef; rw [tBec_1918, tS_same]; rfl
  have pre : ∀ (ans : Int) (μ3 : gM), ans ≠ -4 → (∀ Q : Int → gM → Prop, gE 200 0 [gO 6 B, gI e, gI p, gI r] [] μ2 Q = Q ans μ3) → ∀ μ4 μ5, (∀ Q : Int → gM → Prop, gE 165 0 [gO 2 (B + 42), gI 10, gI e] [] μ3 Q = Q (-2) μ4) → (∀ Q : Int → gM → Prop, gE 166 0 [gO 2 (B + 42), gI w, gI a] [] μ4 Q = Q (-2) μ5) → ∀ Q : Int → gM → Prop, gE 199 0 [gO 6 B, gI e, gI p, gI r, gX, gX, gX, gX, gX] [] μ Q = Q ans μ5 := by
    intro ans μ3 ha rs μ4 μ5 ra rb Q
    have ha' : ¬ ans = -4 := ha
    cases m : tMp T (T (1673 + X 179 e)) p with
    | true =>
      rw [m] at hm
      rw [m, if_pos rfl] at ew ea
      subst ew
      subst ea
      simp (disch := first | assumption | omega) only [e199_0, e199_1, e199_4, e199_5, e199_8, e199_10, e199_11, e199_13, e199_14, e199_15, e199_18, e199_20, e199_22, e199_23, e199_26, e199_28, e199_29, e199_31, e199_33, e199_34, e199_36, e199_38, e199_39, e199_42, e199_44, e199_46, e199_47, e199_50, e199_53, e199_54, e199_57, e199_59, e199_62, e199_63, e199_66, e199_68, e199_69, e199_72, e199_75, e199_77, e199_79, e199_80, e199_83, e199_85, e199_86, e199_89, e199_91, e199_92, e199_95, e199_96, e199_99, e199_100, e199_103, e199_104, e199_105, e199_107, e199_110, e199_112, e199_113, e199_116, e199_118, e199_121, e199_122, e199_123, e199_124, e199_125, e199_128, e199_130, e199_132, e199_134, e199_137, e199_138, e199_141, e199_143, e199_144, e199_147, e199_148, e199_149, e199_152, e199_154, e199_155, e199_158, e199_159, e199_162, e199_163, e199_166, e199_168, e199_169, e199_172, e199_173, e199_174, e199_177, e199_179, e199_181, e199_184, e199_185, e199_187, gK0_eq, gK1_eq, gK3_eq, w32_id, bI_eq0, bI_eq1, Bool.false_eq_true, not_true_eq_false, not_false_eq_true, ne_eq, ite_not, ↓reduceIte, if_true, if_false, Int.reduceToNat, Nat.reduceAdd, Int.reduceEq, Int.reduceLT, Int.reduceLE, Int.reduceNeg, bI_T, bI_F, ↓if_pos, ↓if_neg, s_at, atv_in, b1, run1, dn, k_isMapped h1.2.1 hd hp, hm, k_signOf hI h1.1.1 he, run2, rs, ha', ra, rb]
    | false =>
      rw [m] at hm
      rw [m, if_neg (c := false = true) Bool.noConfusion] at ew ea
      subst ew
      subst ea
      simp (disch := first | assumption | omega) only [e199_0, e199_1, e199_4, e199_5, e199_8, e199_10, e199_11, e199_13, e199_14, e199_15, e199_18, e199_20, e199_22, e199_23, e199_26, e199_28, e199_29, e199_31, e199_33, e199_34, e199_36, e199_38, e199_39, e199_42, e199_44, e199_46, e199_47, e199_50, e199_53, e199_54, e199_57, e199_59, e199_62, e199_63, e199_66, e199_68, e199_69, e199_72, e199_75, e199_77, e199_79, e199_80, e199_83, e199_85, e199_86, e199_89, e199_91, e199_92, e199_95, e199_96, e199_99, e199_100, e199_103, e199_104, e199_105, e199_107, e199_110, e199_112, e199_113, e199_116, e199_118, e199_121, e199_122, e199_123, e199_124, e199_125, e199_128, e199_130, e199_132, e199_134, e199_137, e199_138, e199_141, e199_143, e199_144, e199_147, e199_148, e199_149, e199_152, e199_154, e199_155, e199_158, e199_159, e199_162, e199_163, e199_166, e199_168, e199_169, e199_172, e199_173, e199_174, e199_177, e199_179, e199_181, e199_184, e199_185, e199_187, gK0_eq, gK1_eq, gK3_eq, w32_id, bI_eq0, bI_eq1, Bool.false_eq_true, not_true_eq_false, not_false_eq_true, ne_eq, ite_not, ↓reduceIte, if_true, if_false, Int.reduceToNat, Nat.reduceAdd, Int.reduceEq, Int.reduceLT, Int.reduceLE, Int.reduceNeg, bI_T, bI_F, ↓if_pos, ↓if_neg, s_at, atv_in, b1, run1, dn, k_isMapped h1.2.1 hd hp, hm, k_levelOf h1.2.1 hd hp, hl, k_signOf hI h1.1.1 he, run2, rs, ha', ra, rb]
  have preM : ∀ (μ3 : gM), (∀ Q : Int → gM → Prop, gE 200 0 [gO 6 B, gI e, gI p, gI r] [] μ2 Q = Q (-4) μ3) → ∀ μ4 μ5 μ6, (∀ Q : Int → gM → Prop, gE 165 0 [gO 2 (B + 42), gI 11, gI e] [] μ3 Q = Q (-2) μ4) → (∀ Q : Int → gM → Prop, gE 166 0 [gO 2 (B + 42), gI 10, gI e] [] μ4 Q = Q (-2) μ5) → (∀ Q : Int → gM → Prop, gE 166 0 [gO 2 (B + 42), gI w, gI a] [] μ5 Q = Q (-2) μ6) → ∀ Q : Int → gM → Prop, gE 199 0 [gO 6 B, gI e, gI p, gI r, gX, gX, gX, gX, gX] [] μ Q = Q (-4) μ6 := by
    intro μ3 rs μ4 μ5 μ6 ra rb rc Q
    cases m : tMp T (T (1673 + X 179 e)) p with
    | true =>
      rw [m] at hm
      rw [m, if_pos rfl] at ew ea
      subst ew
      subst ea
      simp (disch := first | assumption | omega) only [e199_0, e199_1, e199_4, e199_5, e199_8, e199_10, e199_11, e199_13, e199_14, e199_15, e199_18, e199_20, e199_22, e199_23, e199_26, e199_28, e199_29, e199_31, e199_33, e199_34, e199_36, e199_38, e199_39, e199_42, e199_44, e199_46, e199_47, e199_50, e199_53, e199_54, e199_57, e199_59, e199_62, e199_63, e199_66, e199_68, e199_69, e199_72, e199_75, e199_77, e199_79, e199_80, e199_83, e199_85, e199_86, e199_89, e199_91, e199_92, e199_95, e199_96, e199_99, e199_100, e199_103, e199_104, e199_105, e199_107, e199_110, e199_112, e199_113, e199_116, e199_118, e199_121, e199_122, e199_123, e199_124, e199_125, e199_128, e199_130, e199_132, e199_134, e199_137, e199_138, e199_141, e199_143, e199_144, e199_147, e199_148, e199_149, e199_152, e199_154, e199_155, e199_158, e199_159, e199_162, e199_163, e199_166, e199_168, e199_169, e199_172, e199_173, e199_174, e199_177, e199_179, e199_181, e199_184, e199_185, e199_187, gK0_eq, gK1_eq, gK3_eq, w32_id, bI_eq0, bI_eq1, Bool.false_eq_true, not_true_eq_false, not_false_eq_true, ne_eq, ite_not, ↓reduceIte, if_true, if_false, Int.reduceToNat, Nat.reduceAdd, Int.reduceEq, Int.reduceLT, Int.reduceLE, Int.reduceNeg, bI_T, bI_F, ↓if_pos, ↓if_neg, s_at, atv_in, b1, run1, dn, k_isMapped h1.2.1 hd hp, hm, k_signOf hI h1.1.1 he, run2, rs, ra, rb, rc]
    | false =>
      rw [m] at hm
      rw [m, if_neg (c := false = true) Bool.noConfusion] at ew ea
      subst ew
      subst ea
      simp (disch := first | assumption | omega) only [e199_0, e199_1, e199_4, e199_5, e199_8, e199_10, e199_11, e199_13, e199_14, e199_15, e199_18, e199_20, e199_22, e199_23, e199_26, e199_28, e199_29, e199_31, e199_33, e199_34, e199_36, e199_38, e199_39, e199_42, e199_44, e199_46, e199_47, e199_50, e199_53, e199_54, e199_57, e199_59, e199_62, e199_63, e199_66, e199_68, e199_69, e199_72, e199_75, e199_77, e199_79, e199_80, e199_83, e199_85, e199_86, e199_89, e199_91, e199_92, e199_95, e199_96, e199_99, e199_100, e199_103, e199_104, e199_105, e199_107, e199_110, e199_112, e199_113, e199_116, e199_118, e199_121, e199_122, e199_123, e199_124, e199_125, e199_128, e199_130, e199_132, e199_134, e199_137, e199_138, e199_141, e199_143, e199_144, e199_147, e199_148, e199_149, e199_152, e199_154, e199_155, e199_158, e199_159, e199_162, e199_163, e199_166, e199_168, e199_169, e199_172, e199_173, e199_174, e199_177, e199_179, e199_181, e199_184, e199_185, e199_187, gK0_eq, gK1_eq, gK3_eq, w32_id, bI_eq0, bI_eq1, Bool.false_eq_true, not_true_eq_false, not_false_eq_true, ne_eq, ite_not, ↓reduceIte, if_true, if_false, Int.reduceToNat, Nat.reduceAdd, Int.reduceEq, Int.reduceLT, Int.reduceLE, Int.reduceNeg, bI_T, bI_F, ↓if_pos, ↓if_neg, s_at, atv_in, b1, run1, dn, k_isMapped h1.2.1 hd hp, hm, k_levelOf h1.2.1 hd hp, hl, k_signOf hI h1.1.1 he, run2, rs, ra, rb, rc]
  by_cases c1 : X 175 e = 0
  · have c1' : ¬ X 175 e = 1 := by omega
    have rs : ∀ Q : Int → gM → Prop, gE 200 0 [gO 6 B, gI e, gI p, gI r] [] μ2 Q = Q (-2) μ2 := fun Q => by
      simp (disch := first | assumption | omega) only [e200_0, e200_1, e200_4, e200_7, e200_8, e200_11, e200_12, e200_15, e200_17, e200_18, e200_19, e200_22, e200_25, e200_27, e200_30, e200_31, e200_34, e200_35, e200_38, e200_40, e200_41, e200_42, e200_45, e200_46, e200_47, e200_48, e200_51, e200_53, gK0_eq, gK1_eq, gK3_eq, w32_id, bI_eq0, bI_eq1, Bool.false_eq_true, not_true_eq_false, not_false_eq_true, ne_eq, ite_not, ↓reduceIte, if_true, if_false, Int.reduceToNat, Nat.reduceAdd, Int.reduceEq, Int.reduceLT, Int.reduceLE, Int.reduceNeg, bI_T, bI_F, ↓if_pos, ↓if_neg, s_at, atv_in, st2, c1']
    obtain ⟨μ4, f4, r4, run4⟩ := k_refuse (c := 10) (a := e) r2
    obtain ⟨μ5, f5, r5, run5⟩ := k_because (c := w) (a := a) r4 (by rw [z1]; omega)
    rw [tFaN_log hR] at r5
    have ff := gFr_trans f2 (gFr_trans f4 f5)
    rw [if_pos c1, if_pos c1]
    exact ⟨μ5, gFr_trans f1 (gFr_mono ff (by omega) (by omega)), ⟨rTr_fr hI h1.1 ff (by omega), rTb_fr h1.2.1 ff (by omega) (fun j hj => by exact tFaN_lo' hR (by omega)), rFr_fr h1.2.2.1 ff (by omega) (fun j hj => by exact tFaN_lo' hR (by omega)), rQu_fr h1.2.2.2.1 ff (by omega) (fun j j1 j2 => by exact tFaN_lo' hR (by omega)), rCa_fr h1.2.2.2.2.1 ff (by omega) (fun j j1 j2 => by exact tFaN_lo' hR (by omega)), rRq_fr h1.2.2.2.2.2.1 ff (by omega) (fun j j1 j2 => by exact tFaN_lo' hR (by omega)), r5, rDm_fr hI h1.2.2.2.2.2.2.2 ff (by omega) (fun j j1 j2 => by exact tFaN_lo' hR (by omega))⟩, pre (-2) μ2 (by omega) rs μ4 μ5 run4 run5⟩
  · have c1' : X 175 e = 1 := sv.2.2.resolve_left c1
    rw [if_neg c1, if_neg c1]
    by_cases c2 : T 1881 < 8
    · obtain ⟨μ3, f3, q3, run3⟩ := k_Radd (e := e) (p := p) (r := r) q2 (by rw [w81]; exact c2)
      have rs : ∀ Q : Int → gM → Prop, gE 200 0 [gO 6 B, gI e, gI p, gI r] [] μ2 Q = Q (-3) μ3 := fun Q => by
        simp (disch := first | assumption | omega) only [e200_0, e200_1, e200_4, e200_7, e200_8, e200_11, e200_12, e200_15, e200_17, e200_18, e200_19, e200_22, e200_25, e200_27, e200_30, e200_31, e200_34, e200_35, e200_38, e200_40, e200_41, e200_42, e200_45, e200_46, e200_47, e200_48, e200_51, e200_53, gK0_eq, gK1_eq, gK3_eq, w32_id, bI_eq0, bI_eq1, Bool.false_eq_true, not_true_eq_false, not_false_eq_true, ne_eq, ite_not, ↓reduceIte, if_true, if_false, Int.reduceToNat, Nat.reduceAdd, Int.reduceEq, Int.reduceLT, Int.reduceLE, Int.reduceNeg, bI_T, bI_F, ↓if_pos, ↓if_neg, s_at, atv_in, st2, c1', len2, c2, run3]
      have l3 : rLg (B + 42) (tRcd (tMor T 1879) (xSign X e) p r w) μ3 := rLg_fr r2 f3 (by omega) (fun j _ => rfl)
      obtain ⟨μ4, f4, r4, run4⟩ := k_refuse (c := 10) (a := e) l3
      obtain ⟨μ5, f5, r5, run5⟩ := k_because (c := w) (a := a) r4 (by rw [z1]; omega)
      rw [tFaN_log hR] at r5
      have ff : gFr (B + 37) (B + 49) μ1 μ5 := gFr_trans (gFr_mono f2 (by omega) (by omega)) (gFr_trans (gFr_mono f3 (by omega) (by omega)) (gFr_mono (gFr_trans f4 f5) (by omega) (by omega)))
      have l81 : tFaN (tMor T 1879) e (xSign X e) p r w a 1881 = T 1881 := by rw [tFaN_lo' hR (by omega), w81]
      have hW2 : 0 ≤ tFaN (tMor T 1879) e (xSign X e) p r w a 1881 ∧ tFaN (tMor T 1879) e (xSign X e) p r w a 1881 < 8 := by rw [l81]; omega
      rw [if_pos c2, if_pos c2]
      refine ⟨μ5, gFr_trans f1 (gFr_mono ff (by omega) (by omega)), ⟨rTr_fr hI h1.1 ff (by omega), rTb_fr h1.2.1 ff (by omega) (fun j hj => by rw [tReq_lo' hW2 (by omega), tFaN_lo' hR (by omega)]), rFr_fr h1.2.2.1 ff (by omega) (fun j hj => by rw [tReq_lo' hW2 (by omega), tFaN_lo' hR (by omega)]), rQu_fr h1.2.2.2.1 ff (by omega) (fun j j1 j2 => by rw [tReq_lo' hW2 (by omega), tFaN_lo' hR (by omega)]), rCa_fr h1.2.2.2.2.1 ff (by omega) (fun j j1 j2 => by rw [tReq_lo' hW2 (by omega), tFaN_lo' hR (by omega)]), rRq_fr q3 (gFr_trans f4 f5) (by omega) (fun j j0 j1 => tReq_congr (fun i i0 i1 => tFaN_lo' hR (by omega)) (by rw [w81]; omega) j0 j1), rLg_tr r5 ⟨rfl, rfl, rfl, rfl, rfl⟩ (fun _ _ _ => ⟨rfl, rfl⟩) (fun _ _ _ => ⟨rfl, rfl, rfl, rfl⟩) (fun j hj => tReq_lo' hW2 (by omega)), rDm_fr hI h1.2.2.2.2.2.2.2 ff (by omega) (fun j j1 j2 => by rw [tReq_lo' hW2 (by omega), tFaN_lo' hR (by omega)])⟩, pre (-3) μ3 (by omega) rs μ4 μ5 run4 run5⟩
    · obtain ⟨μ3, f3, q3, run3⟩ := k_RfailOpen (e := e) q2
      have w8 : T 1881 = 8 := by omega
      rw [w81, w8] at q3
      have q3' : rRq (B + 37) (tOpF e 8 (tMor T 1879)) μ3 := q3
      have rs : ∀ Q : Int → gM → Prop, gE 200 0 [gO 6 B, gI e, gI p, gI r] [] μ2 Q = Q (-4) μ3 := fun Q => by
        simp (disch := first | assumption | omega) only [e200_0, e200_1, e200_4, e200_7, e200_8, e200_11, e200_12, e200_15, e200_17, e200_18, e200_19, e200_22, e200_25, e200_27, e200_30, e200_31, e200_34, e200_35, e200_38, e200_40, e200_41, e200_42, e200_45, e200_46, e200_47, e200_48, e200_51, e200_53, gK0_eq, gK1_eq, gK3_eq, w32_id, bI_eq0, bI_eq1, Bool.false_eq_true, not_true_eq_false, not_false_eq_true, ne_eq, ite_not, ↓reduceIte, if_true, if_false, Int.reduceToNat, Nat.reduceAdd, Int.reduceEq, Int.reduceLT, Int.reduceLE, Int.reduceNeg, bI_T, bI_F, ↓if_pos, ↓if_neg, s_at, atv_in, st2, c1', len2, c2, run3]
      have l3 : rLg (B + 42) (tRcd (tMor T 1879) (xSign X e) p r w) μ3 := rLg_fr r2 f3 (by omega) (fun j _ => rfl)
      obtain ⟨μ4, f4, r4, run4⟩ := k_refuse (c := 11) (a := e) l3
      obtain ⟨μ5, f5, r5, run5⟩ := k_because (c := 10) (a := e) r4 (by rw [z1]; omega)
      obtain ⟨μ6, f6, r6, run6⟩ := k_because (c := w) (a := a) r5 (by rw [tBec_1918, z1]; omega)
      rw [tFaM_log hR] at r6
      have ff : gFr (B + 37) (B + 49) μ1 μ6 := gFr_trans (gFr_mono f2 (by omega) (by omega)) (gFr_trans (gFr_mono f3 (by omega) (by omega)) (gFr_mono (gFr_trans f4 (gFr_trans f5 f6)) (by omega) (by omega)))
      have l81 : tFaM (tMor T 1879) e (xSign X e) p r w a 1881 = 8 := by rw [tFaM_lo' hR (by omega), w81, w8]
      rw [if_neg c2, if_neg c2]
      refine ⟨μ6, gFr_trans f1 (gFr_mono ff (by omega) (by omega)), ⟨rTr_fr hI h1.1 ff (by omega), rTb_fr h1.2.1 ff (by omega) (fun j hj => by rw [tOpF_lo' 8 _ (by omega) (by omega) j (by omega) (by omega), tFaM_lo' hR (by omega)]), rFr_fr h1.2.2.1 ff (by omega) (fun j hj => by rw [tOpF_lo' 8 _ (by omega) (by omega) j (by omega) (by omega), tFaM_lo' hR (by omega)]), rQu_fr h1.2.2.2.1 ff (by omega) (fun j j1 j2 => by rw [tOpF_lo' 8 _ (by omega) (by omega) j (by omega) (by omega), tFaM_lo' hR (by omega)]), rCa_fr h1.2.2.2.2.1 ff (by omega) (fun j j1 j2 => by rw [tOpF_lo' 8 _ (by omega) (by omega) j (by omega) (by omega), tFaM_lo' hR (by omega)]), rRq_fr q3' (gFr_trans f4 (gFr_trans f5 f6)) (by omega) (fun j j0 j1 => tOpF_congr 8 (tMor T 1879) _ (fun i i0 i1 => tFaM_lo' hR (by omega)) (by omega) (by omega) j j0 j1), rLg_tr r6 ⟨rfl, rfl, rfl, rfl, rfl⟩ (fun _ _ _ => ⟨rfl, rfl⟩) (fun _ _ _ => ⟨rfl, rfl, rfl, rfl⟩) (fun j hj => tOpF_lo' 8 _ (by omega) (by omega) j (by omega) (by omega)), rDm_fr hI h1.2.2.2.2.2.2.2 ff (by omega) (fun j j1 j2 => by rw [tOpF_lo' 8 _ (by omega) (by omega) j (by omega) (by omega), tFaM_lo' hR (by omega)])⟩, preM μ3 rs μ4 μ5 μ6 run4 run5 run6⟩
end USE
