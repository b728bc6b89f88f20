/-! the check: attach -/
def xGp (X : gM) (e p : Int) : Bool := anyF (fun k => decide (X 179 (X 177 (3 * k)) = X 179 e) && (decide (X 177 (3 * k + 1) ≤ p) && decide (p ≤ X 177 (3 * k + 2)))) 0 (X 167 14).toNat
def cFr (T : Int → Int) (d : Int) (P : Int → Bool) (i : Int) : Bool := decide (64 * d ≤ i ∧ i < 64 * d + 64) && (P (i - 64 * d) && decide (T i < 0))
def cMp (T : Int → Int) (d : Int) (P : Int → Bool) (i : Int) : Bool := decide (64 * d ≤ i ∧ i < 64 * d + 64) && (P (i - 64 * d) && decide (0 ≤ T i))
def bOr (D : Int → Bool) (i : Int) : Int → Bool := fun j => D j || decide (j = i)
def tNew (T : Int → Int) (D : Int → Bool) : Int → Int := fun j =>
  if (0 ≤ j ∧ j < 256) ∧ D j = true then j % 64 else if (256 ≤ j ∧ j < 512) ∧ D (j - 256) = true then 3 else if (512 ≤ j ∧ j < 768) ∧ D (j - 512) = true then 1 else if (768 ≤ j ∧ j < 1024) ∧ D (j - 768) = true then 0 else T j
def tAtA (X : gM) (T : Int → Int) (e d : Int) : Int :=
  if 0 ≤ e ∧ e < X 167 12 ∧ 0 ≤ d ∧ d < T 1672 then (if 0 ≤ T (1673 + X 179 e) then -2 else if 0 ≤ hE X T d e then -2 else cntF (cFr T d (xGp X e)) 0 256) else -1
def tAtT (X : gM) (T : Int → Int) (e d : Int) : Int → Int :=
  if 0 ≤ e ∧ e < X 167 12 ∧ 0 ≤ d ∧ d < T 1672 then (if 0 ≤ T (1673 + X 179 e) then tRef T 9 (X 179 e) else if 0 ≤ hE X T d e then tHin X T e d else tNew (tS T (1673 + X 179 e) d) (cFr T d (xGp X e))) else T
section MODEL12
variable {μ : gM} {b : Int} {T : Int → Int} {Q : Int → gM → Prop}
theorem tNew_step {D : Int → Bool} {d p : Int} (hd : 0 ≤ d ∧ d < 4) (hp : 0 ≤ p ∧ p < 64) : tMaps (tNew T D) d p p 3 1 = tNew T (bOr D (64 * d + p)) := by
  have e1 : iand32 1 1 = 1 := by decide
  have e2 : ishr32 1 1 = 0 := by decide
  unfold tMaps
  rw [e1, e2]
  funext j
  by_cases h3 : j = 768 + (64 * d + p)
  · subst h3
    rw [tS_same]
    unfold tNew bOr
    rw [if_neg (by omega), if_neg (by omega), if_neg (by omega), if_pos ⟨by omega, by simp; omega⟩]
  · rw [tS_ne h3]
    by_cases h2 : j = 512 + (64 * d + p)
    · subst h2
      rw [tS_same]
      unfold tNew bOr
      rw [if_neg (by omega), if_neg (by omega), if_pos ⟨by omega, by simp; omega⟩]
    · rw [tS_ne h2]
      by_cases h1 : j = 256 + (64 * d + p)
      · subst h1
        rw [tS_same]
        unfold tNew bOr
        rw [if_neg (by omega), if_pos ⟨by omega, by simp; omega⟩]
      · rw [tS_ne h1]
        by_cases h0 : j = 64 * d + p
        · subst h0
          rw [tS_same]
          unfold tNew bOr
          rw [if_pos ⟨by omega, by simp⟩]
          omega
        · rw [tS_ne h0]
          unfold tNew bOr
          rw [decide_eq_false h0, decide_eq_false (show ¬ j - 256 = 64 * d + p by omega), decide_eq_false (show ¬ j - 512 = 64 * d + p by omega), decide_eq_false (show ¬ j - 768 = 64 * d + p by omega)]
          simp only [Bool.or_false]
theorem cFr_nop {P : Int → Bool} {d p : Int} (h : P p = true ∨ 0 ≤ T (64 * d + p)) : cFr T d (bOr P p) = cFr T d P := by
  funext i
  unfold cFr bOr
  by_cases hi : i - 64 * d = p
  · have e : i = 64 * d + p := by omega
    subst e
    rcases h with h | h
    · rw [hi, h, Bool.true_or]
    · rw [decide_eq_false (show ¬ T (64 * d + p) < 0 by omega)]; simp
  · rw [decide_eq_false hi, Bool.or_false]
theorem cFr_add {P : Int → Bool} {d p : Int} (hp : 0 ≤ p ∧ p < 64) (h : T (64 * d + p) < 0) : cFr T d (bOr P p) = bOr (cFr T d P) (64 * d + p) := by
  funext i
  unfold cFr bOr
  by_cases hi : i = 64 * d + p
  · subst hi
    rw [decide_eq_true h, decide_eq_true (show 64 * d ≤ 64 * d + p ∧ 64 * d + p < 64 * d + 64 by omega), decide_eq_true (show 64 * d + p - 64 * d = p by omega)]
    simp
  · rw [decide_eq_false hi, decide_eq_false (show ¬ i - 64 * d = p by omega)]
    simp only [Bool.or_false]
theorem cntF_bOr {D : Int → Bool} {i : Int} (h : D i = false) : ∀ (n : Nat) (k : Int), cntF (bOr D i) k n = cntF D k n + (if k ≤ i ∧ i < k + n then 1 else 0) := by
  intro n
  induction n with
  | zero => intro k; rw [if_neg (by omega)]; rfl
  | succ n ih =>
    intro k
    rw [cntF, cntF, ih (k + 1)]
    by_cases hk : k = i
    · subst hk
      have e1 : bOr D k k = true := by simp [bOr]
      rw [if_pos e1, h, if_neg (by omega), if_neg (by simp), if_pos (by omega)]
      omega
    · have e1 : bOr D i k = D k := by simp [bOr, hk]
      rw [e1]
      by_cases h2 : k + 1 ≤ i ∧ i < k + 1 + n
      · rw [if_pos h2, if_pos (show k ≤ i ∧ i < k + ((n + 1 : Nat) : Int) by omega)]; omega
      · rw [if_neg h2, if_neg (show ¬ (k ≤ i ∧ i < k + ((n + 1 : Nat) : Int)) by omega)]; omega
theorem tNew_at {D : Int → Bool} {i : Int} (h : 0 ≤ i ∧ i < 256) : tNew T D i = if D i = true then i % 64 else T i := by
  unfold tNew
  by_cases hd : D i = true
  · rw [if_pos ⟨h, hd⟩, if_pos hd]
  · rw [if_neg (fun q => hd q.2), if_neg (by omega), if_neg (by omega), if_neg (by omega), if_neg hd]
theorem s_att_p {e d k : Int} {T0 : Int → Int} (hb : gBk μ b) (hI : gIX μ) (hd : 0 ≤ d ∧ d < 4) (hk : 0 ≤ k ∧ k < μ 167 14) (hT : ∀ j, 0 ≤ j → j < 256 → T0 j = T j) : ∀ (n : Nat) (p : Int) (P : Int → Bool), 0 ≤ p → p + n = μ 177 (3 * k + 2) + 1 →
    ∃ l5' : gv, gE 306 124 [gO 10 167, gI e, gI d, gI (cntF (cFr T d P) 0 256), gI k, gI p] [] (mK μ b (tNew T0 (cFr T d P))) Q =
      gE 306 173 [gO 10 167, gI e, gI d, gI (cntF (cFr T d (fun x => P x || (decide (p ≤ x) && decide (x ≤ μ 177 (3 * k + 2))))) 0 256), gI k, l5'] [] (mK μ b (tNew T0 (cFr T d (fun x => P x || (decide (p ≤ x) && decide (x ≤ μ 177 (3 * k + 2))))))) Q := by
  have hsp := hI.2.2.2.2.2.2.2.2.1 k hk.1 hk.2
  have hs6 := hI.2.2.2.1
  have h3 : 0 ≤ 3 * k + 2 ∧ 3 * k + 2 < 36 := by omega
  intro n
  induction n with
  | zero =>
    intro p P h0 h1
    have h : μ 177 (3 * k + 2) < p := by omega
    have eP : (fun x => P x || (decide (p ≤ x) && decide (x ≤ μ 177 (3 * k + 2)))) = P := by
      funext x
      by_cases q : p ≤ x
      · rw [decide_eq_false (show ¬ x ≤ μ 177 (3 * k + 2) by omega), Bool.and_false, Bool.or_false]
      · rw [decide_eq_false q, Bool.false_and, Bool.or_false]
    refine ⟨gI p, ?_⟩
    rw [eP, e306_124]
    simp (disch := first | assumption | omega) only [e306_0, e306_1, e306_2, e306_5, e306_6, e306_7, e306_10, e306_13, e306_14, e306_15, e306_18, e306_21, e306_22, e306_23, e306_24, e306_25, e306_28, e306_31, e306_32, e306_34, e306_35, e306_38, e306_39, e306_40, e306_43, e306_44, e306_45, e306_46, e306_47, e306_50, e306_53, e306_55, e306_56, e306_57, e306_60, e306_61, e306_64, e306_65, e306_66, e306_67, e306_68, e306_71, e306_72, e306_73, e306_74, e306_76, e306_78, e306_79, e306_82, e306_85, e306_86, e306_89, e306_90, e306_93, e306_94, e306_96, e306_97, e306_98, e306_99, e306_100, e306_103, e306_104, e306_105, e306_108, e306_111, e306_112, e306_115, e306_116, e306_118, e306_119, e306_120, e306_121, e306_122, e306_126, e306_127, e306_130, e306_131, e306_133, e306_134, e306_135, e306_136, e306_137, e306_140, e306_141, e306_142, e306_144, e306_147, e306_150, e306_153, e306_154, e306_155, e306_157, e306_159, e306_160, e306_161, e306_164, e306_167, e306_170, e306_176, e306_179, e306_180, gK0_eq, gK1_eq, gK3_eq, w32_id, bI_eq0, bI_eq1, Bool.false_eq_true, not_true_eq_false, not_false_eq_true, ne_eq, ite_not, ↓reduceIte, if_true, if_false, Int.reduceToNat, Nat.reduceAdd, Int.reduceEq, Int.reduceLT, Int.reduceLE, Int.reduceNeg, bI_T, bI_F, ↓if_pos, ↓if_neg, h, mK_ne]
  | succ n ih =>
    intro p P h0 h1
    have h : ¬ μ 177 (3 * k + 2) < p := by omega
    have hp : 0 ≤ p ∧ p < 64 := by omega
    have hc := cntF_nn (cFr T d P) 256 0
    have eP : (fun x => bOr P p x || (decide (p + 1 ≤ x) && decide (x ≤ μ 177 (3 * k + 2)))) = (fun x => P x || (decide (p ≤ x) && decide (x ≤ μ 177 (3 * k + 2)))) := by
      funext x
      unfold bOr
      by_cases q : x = p
      · subst q
        rw [decide_eq_true rfl, decide_eq_true (Int.le_refl x), decide_eq_true (show x ≤ μ 177 (3 * k + 2) by omega)]
        simp
      · rw [decide_eq_false q, Bool.or_false]
        congr 2
        exact decide_eq_decide.mpr (by omega)
    obtain ⟨l5', hl⟩ := ih (p + 1) (bOr P p) (by omega) (by omega)
    rw [eP] at hl
    refine ⟨l5', ?_⟩
    rw [← hl, e306_124]
    have hv : tNew T0 (cFr T d P) (64 * d + p) = if cFr T d P (64 * d + p) = true then (64 * d + p) % 64 else T (64 * d + p) := by rw [tNew_at (by omega), hT _ (by omega) (by omega)]
    have hq : 64 * d + p - 64 * d = p := by omega
    cases hm : tMp (tNew T0 (cFr T d P)) d p with
    | true =>
      have hor : P p = true ∨ 0 ≤ T (64 * d + p) := by
        unfold tMp at hm
        rw [hv] at hm
        by_cases c : cFr T d P (64 * d + p) = true
        · unfold cFr at c
          rw [hq] at c
          simp only [Bool.and_eq_true] at c
          exact Or.inl c.2.1
        · rw [if_neg c] at hm
          exact Or.inr (of_decide_eq_true hm)
      rw [cFr_nop hor]
      simp (disch := first | assumption | omega) only [e306_0, e306_1, e306_2, e306_5, e306_6, e306_7, e306_10, e306_13, e306_14, e306_15, e306_18, e306_21, e306_22, e306_23, e306_24, e306_25, e306_28, e306_31, e306_32, e306_34, e306_35, e306_38, e306_39, e306_40, e306_43, e306_44, e306_45, e306_46, e306_47, e306_50, e306_53, e306_55, e306_56, e306_57, e306_60, e306_61, e306_64, e306_65, e306_66, e306_67, e306_68, e306_71, e306_72, e306_73, e306_74, e306_76, e306_78, e306_79, e306_82, e306_85, e306_86, e306_89, e306_90, e306_93, e306_94, e306_96, e306_97, e306_98, e306_99, e306_100, e306_103, e306_104, e306_105, e306_108, e306_111, e306_112, e306_115, e306_116, e306_118, e306_119, e306_120, e306_121, e306_122, e306_126, e306_127, e306_130, e306_131, e306_133, e306_134, e306_135, e306_136, e306_137, e306_140, e306_141, e306_142, e306_144, e306_147, e306_150, e306_153, e306_154, e306_155, e306_157, e306_159, e306_160, e306_161, e306_164, e306_167, e306_170, e306_176, e306_179, e306_180, gK0_eq, gK1_eq, gK3_eq, w32_id, bI_eq0, bI_eq1, Bool.false_eq_true, not_true_eq_false, not_false_eq_true, ne_eq, ite_not, ↓reduceIte, if_true, if_false, Int.reduceToNat, Nat.reduceAdd, Int.reduceEq, Int.reduceLT, Int.reduceLE, Int.reduceNeg, bI_T, bI_F, ↓if_pos, ↓if_neg, h, mK_ne, s_isMapped, hd, hp, hm]
    | false =>
      have hlt : T (64 * d + p) < 0 ∧ cFr T d P (64 * d + p) = false := by
        unfold tMp at hm
        rw [hv] at hm
        by_cases c : cFr T d P (64 * d + p) = true
        · rw [if_pos c] at hm
          have := of_decide_eq_false hm
          omega
        · rw [if_neg c] at hm
          have := of_decide_eq_false hm
          exact ⟨by omega, by simpa using c⟩
      have hc1 : cntF (cFr T d (bOr P p)) 0 256 = cntF (cFr T d P) 0 256 + 1 := by
        rw [cFr_add hp hlt.1, cntF_bOr hlt.2, if_pos (by omega)]
      rw [hc1, cFr_add hp hlt.1]
      simp (disch := first | assumption | omega) only [e306_0, e306_1, e306_2, e306_5, e306_6, e306_7, e306_10, e306_13, e306_14, e306_15, e306_18, e306_21, e306_22, e306_23, e306_24, e306_25, e306_28, e306_31, e306_32, e306_34, e306_35, e306_38, e306_39, e306_40, e306_43, e306_44, e306_45, e306_46, e306_47, e306_50, e306_53, e306_55, e306_56, e306_57, e306_60, e306_61, e306_64, e306_65, e306_66, e306_67, e306_68, e306_71, e306_72, e306_73, e306_74, e306_76, e306_78, e306_79, e306_82, e306_85, e306_86, e306_89, e306_90, e306_93, e306_94, e306_96, e306_97, e306_98, e306_99, e306_100, e306_103, e306_104, e306_105, e306_108, e306_111, e306_112, e306_115, e306_116, e306_118, e306_119, e306_120, e306_121, e306_122, e306_126, e306_127, e306_130, e306_131, e306_133, e306_134, e306_135, e306_136, e306_137, e306_140, e306_141, e306_142, e306_144, e306_147, e306_150, e306_153, e306_154, e306_155, e306_157, e306_159, e306_160, e306_161, e306_164, e306_167, e306_170, e306_176, e306_179, e306_180, gK0_eq, gK1_eq, gK3_eq, w32_id, bI_eq0, bI_eq1, Bool.false_eq_true, not_true_eq_false, not_false_eq_true, ne_eq, ite_not, ↓reduceIte, if_true, if_false, Int.reduceToNat, Nat.reduceAdd, Int.reduceEq, Int.reduceLT, Int.reduceLE, Int.reduceNeg, bI_T, bI_F, ↓if_pos, ↓if_neg, h, mK_ne, s_isMapped, hd, hp, hm, s_maps, tNew_step]
theorem s_att_k {e d : Int} {T0 : Int → Int} (hb : gBk μ b) (hI : gIX μ) (hd : 0 ≤ d ∧ d < 4) (he : 0 ≤ e ∧ e < 8) (hT : ∀ j, 0 ≤ j → j < 256 → T0 j = T j) : ∀ (n : Nat) (k : Int) (l5 : gv) (P : Int → Bool), 0 ≤ k → k + n = μ 167 14 →
    gE 306 76 [gO 10 167, gI e, gI d, gI (cntF (cFr T d P) 0 256), gI k, l5] [] (mK μ b (tNew T0 (cFr T d P))) Q =
      Q (cntF (cFr T d (fun x => P x || anyF (fun k => decide (μ 179 (μ 177 (3 * k)) = μ 179 e) && (decide (μ 177 (3 * k + 1) ≤ x) && decide (x ≤ μ 177 (3 * k + 2)))) k n)) 0 256) (mK μ b (tNew T0 (cFr T d (fun x => P x || anyF (fun k => decide (μ 179 (μ 177 (3 * k)) = μ 179 e) && (decide (μ 177 (3 * k + 1) ≤ x) && decide (x ≤ μ 177 (3 * k + 2)))) k n)))) := by
  have hs6 := hI.2.2.2.1
  have hd8 := hI.2.1
  intro n
  induction n with
  | zero =>
    intro k l5 P h0 h1
    have h : μ 167 14 ≤ k := by omega
    have eP : (fun x => P x || anyF (fun k => decide (μ 179 (μ 177 (3 * k)) = μ 179 e) && (decide (μ 177 (3 * k + 1) ≤ x) && decide (x ≤ μ 177 (3 * k + 2)))) k 0) = P := by
      funext x; rw [anyF, Bool.or_false]
    rw [eP, e306_76]
    simp (disch := first | assumption | omega) only [e306_0, e306_1, e306_2, e306_5, e306_6, e306_7, e306_10, e306_13, e306_14, e306_15, e306_18, e306_21, e306_22, e306_23, e306_24, e306_25, e306_28, e306_31, e306_32, e306_34, e306_35, e306_38, e306_39, e306_40, e306_43, e306_44, e306_45, e306_46, e306_47, e306_50, e306_53, e306_55, e306_56, e306_57, e306_60, e306_61, e306_64, e306_65, e306_66, e306_67, e306_68, e306_71, e306_72, e306_73, e306_74, e306_78, e306_79, e306_82, e306_85, e306_86, e306_89, e306_90, e306_93, e306_94, e306_96, e306_97, e306_98, e306_99, e306_100, e306_103, e306_104, e306_105, e306_108, e306_111, e306_112, e306_115, e306_116, e306_118, e306_119, e306_120, e306_121, e306_122, e306_124, e306_126, e306_127, e306_130, e306_131, e306_133, e306_134, e306_135, e306_136, e306_137, e306_140, e306_141, e306_142, e306_144, e306_147, e306_150, e306_153, e306_154, e306_155, e306_157, e306_159, e306_160, e306_161, e306_164, e306_167, e306_170, e306_173, e306_176, e306_179, e306_180, gK0_eq, gK1_eq, gK3_eq, w32_id, bI_eq0, bI_eq1, Bool.false_eq_true, not_true_eq_false, not_false_eq_true, ne_eq, ite_not, ↓reduceIte, if_true, if_false, Int.reduceToNat, Nat.reduceAdd, Int.reduceEq, Int.reduceLT, Int.reduceLE, Int.reduceNeg, bI_T, bI_F, ↓if_pos, ↓if_neg, h, mK_ne]
  | succ n ih =>
    intro k l5 P h0 h1
    have h : ¬ μ 167 14 ≤ k := by omega
    have hsp := hI.2.2.2.2.2.2.2.2.1 k h0 (by omega)
    have h3 : 0 ≤ 3 * k + 2 ∧ 3 * k + 2 < 36 := by omega
    have h8 : 0 ≤ μ 177 (3 * k) ∧ μ 177 (3 * k) < 8 := by omega
    have back : ∀ l5, gE 306 173 [gO 10 167, gI e, gI d, gI (cntF (cFr T d P) 0 256), gI k, l5] [] (mK μ b (tNew T0 (cFr T d P))) Q = gE 306 76 [gO 10 167, gI e, gI d, gI (cntF (cFr T d P) 0 256), gI (k + 1), l5] [] (mK μ b (tNew T0 (cFr T d P))) Q := by
      intro l5
      rw [e306_173]
      simp (disch := first | assumption | omega) only [e306_0, e306_1, e306_2, e306_5, e306_6, e306_7, e306_10, e306_13, e306_14, e306_15, e306_18, e306_21, e306_22, e306_23, e306_24, e306_25, e306_28, e306_31, e306_32, e306_34, e306_35, e306_38, e306_39, e306_40, e306_43, e306_44, e306_45, e306_46, e306_47, e306_50, e306_53, e306_55, e306_56, e306_57, e306_60, e306_61, e306_64, e306_65, e306_66, e306_67, e306_68, e306_71, e306_72, e306_73, e306_74, e306_78, e306_79, e306_82, e306_85, e306_86, e306_89, e306_90, e306_93, e306_94, e306_96, e306_97, e306_98, e306_99, e306_100, e306_103, e306_104, e306_105, e306_108, e306_111, e306_112, e306_115, e306_116, e306_118, e306_119, e306_120, e306_121, e306_122, e306_124, e306_126, e306_127, e306_130, e306_131, e306_133, e306_134, e306_135, e306_136, e306_137, e306_140, e306_141, e306_142, e306_144, e306_147, e306_150, e306_153, e306_154, e306_155, e306_157, e306_159, e306_160, e306_161, e306_164, e306_167, e306_170, e306_176, e306_179, e306_180, gK0_eq, gK1_eq, gK3_eq, w32_id, bI_eq0, bI_eq1, Bool.false_eq_true, not_true_eq_false, not_false_eq_true, ne_eq, ite_not, ↓reduceIte, if_true, if_false, Int.reduceToNat, Nat.reduceAdd, Int.reduceEq, Int.reduceLT, Int.reduceLE, Int.reduceNeg, bI_T, bI_F]
    rw [e306_76]
    by_cases c : μ 179 (μ 177 (3 * k)) = μ 179 e
    · have st : gE 306 79 [gO 10 167, gI e, gI d, gI (cntF (cFr T d P) 0 256), gI k, l5] [gO 10 167, gI k] (mK μ b (tNew T0 (cFr T d P))) Q = gE 306 79 [gO 10 167, gI e, gI d, gI (cntF (cFr T d P) 0 256), gI k, l5] [gO 10 167, gI k] (mK μ b (tNew T0 (cFr T d P))) Q := rfl
      obtain ⟨l5', hl⟩ := s_att_p (Q := Q) (e := e) hb hI hd ⟨h0, by omega⟩ hT (μ 177 (3 * k + 2) + 1 - μ 177 (3 * k + 1)).toNat (μ 177 (3 * k + 1)) P (by omega) (by omega)
      have eP : (fun x => P x || anyF (fun k => decide (μ 179 (μ 177 (3 * k)) = μ 179 e) && (decide (μ 177 (3 * k + 1) ≤ x) && decide (x ≤ μ 177 (3 * k + 2)))) k (n + 1)) = (fun x => (P x || (decide (μ 177 (3 * k + 1) ≤ x) && decide (x ≤ μ 177 (3 * k + 2)))) || anyF (fun k => decide (μ 179 (μ 177 (3 * k)) = μ 179 e) && (decide (μ 177 (3 * k + 1) ≤ x) && decide (x ≤ μ 177 (3 * k + 2)))) (k + 1) n) := by
        funext x
        rw [anyF, decide_eq_true c, Bool.true_and, Bool.or_assoc]
      rw [eP, ← ih (k + 1) l5' _ (by omega) (by omega)]
      have back2 := hl
      simp (disch := first | assumption | omega) only [e306_0, e306_1, e306_2, e306_5, e306_6, e306_7, e306_10, e306_13, e306_14, e306_15, e306_18, e306_21, e306_22, e306_23, e306_24, e306_25, e306_28, e306_31, e306_32, e306_34, e306_35, e306_38, e306_39, e306_40, e306_43, e306_44, e306_45, e306_46, e306_47, e306_50, e306_53, e306_55, e306_56, e306_57, e306_60, e306_61, e306_64, e306_65, e306_66, e306_67, e306_68, e306_71, e306_72, e306_73, e306_74, e306_78, e306_79, e306_82, e306_85, e306_86, e306_89, e306_90, e306_93, e306_94, e306_96, e306_97, e306_98, e306_99, e306_100, e306_103, e306_104, e306_105, e306_108, e306_111, e306_112, e306_115, e306_116, e306_118, e306_119, e306_120, e306_121, e306_122, e306_126, e306_127, e306_130, e306_131, e306_133, e306_134, e306_135, e306_136, e306_137, e306_140, e306_141, e306_142, e306_144, e306_147, e306_150, e306_153, e306_154, e306_155, e306_157, e306_159, e306_160, e306_161, e306_164, e306_167, e306_170, e306_176, e306_179, e306_180, gK0_eq, gK1_eq, gK3_eq, w32_id, bI_eq0, bI_eq1, Bool.false_eq_true, not_true_eq_false, not_false_eq_true, ne_eq, ite_not, ↓reduceIte, if_true, if_false, Int.reduceToNat, Nat.reduceAdd, Int.reduceEq, Int.reduceLT, Int.reduceLE, Int.reduceNeg, bI_T, bI_F, ↓if_pos, ↓if_neg, h, mK_ne, c]
      rw [hl, e306_173]
      simp (disch := first | assumption | omega) only [e306_0, e306_1, e306_2, e306_5, e306_6, e306_7, e306_10, e306_13, e306_14, e306_15, e306_18, e306_21, e306_22, e306_23, e306_24, e306_25, e306_28, e306_31, e306_32, e306_34, e306_35, e306_38, e306_39, e306_40, e306_43, e306_44, e306_45, e306_46, e306_47, e306_50, e306_53, e306_55, e306_56, e306_57, e306_60, e306_61, e306_64, e306_65, e306_66, e306_67, e306_68, e306_71, e306_72, e306_73, e306_74, e306_78, e306_79, e306_82, e306_85, e306_86, e306_89, e306_90, e306_93, e306_94, e306_96, e306_97, e306_98, e306_99, e306_100, e306_103, e306_104, e306_105, e306_108, e306_111, e306_112, e306_115, e306_116, e306_118, e306_119, e306_120, e306_121, e306_122, e306_124, e306_126, e306_127, e306_130, e306_131, e306_133, e306_134, e306_135, e306_136, e306_137, e306_140, e306_141, e306_142, e306_144, e306_147, e306_150, e306_153, e306_154, e306_155, e306_157, e306_159, e306_160, e306_161, e306_164, e306_167, e306_170, e306_176, e306_179, e306_180, gK0_eq, gK1_eq, gK3_eq, w32_id, bI_eq0, bI_eq1, Bool.false_eq_true, not_true_eq_false, not_false_eq_true, ne_eq, ite_not, ↓reduceIte, if_true, if_false, Int.reduceToNat, Nat.reduceAdd, Int.reduceEq, Int.reduceLT, Int.reduceLE, Int.reduceNeg, bI_T, bI_F]
    · have eP : (fun x => P x || anyF (fun k => decide (μ 179 (μ 177 (3 * k)) = μ 179 e) && (decide (μ 177 (3 * k + 1) ≤ x) && decide (x ≤ μ 177 (3 * k + 2)))) k (n + 1)) = (fun x => P x || anyF (fun k => decide (μ 179 (μ 177 (3 * k)) = μ 179 e) && (decide (μ 177 (3 * k + 1) ≤ x) && decide (x ≤ μ 177 (3 * k + 2)))) (k + 1) n) := by
        funext x
        rw [anyF, decide_eq_false c, Bool.false_and, Bool.false_or]
      rw [eP, ← ih (k + 1) l5 P (by omega) (by omega)]
      simp (disch := first | assumption | omega) only [e306_0, e306_1, e306_2, e306_5, e306_6, e306_7, e306_10, e306_13, e306_14, e306_15, e306_18, e306_21, e306_22, e306_23, e306_24, e306_25, e306_28, e306_31, e306_32, e306_34, e306_35, e306_38, e306_39, e306_40, e306_43, e306_44, e306_45, e306_46, e306_47, e306_50, e306_53, e306_55, e306_56, e306_57, e306_60, e306_61, e306_64, e306_65, e306_66, e306_67, e306_68, e306_71, e306_72, e306_73, e306_74, e306_78, e306_79, e306_82, e306_85, e306_86, e306_89, e306_90, e306_93, e306_94, e306_96, e306_97, e306_98, e306_99, e306_100, e306_103, e306_104, e306_105, e306_108, e306_111, e306_112, e306_115, e306_116, e306_118, e306_119, e306_120, e306_121, e306_122, e306_124, e306_126, e306_127, e306_130, e306_131, e306_133, e306_134, e306_135, e306_136, e306_137, e306_140, e306_141, e306_142, e306_144, e306_147, e306_150, e306_153, e306_154, e306_155, e306_157, e306_159, e306_160, e306_161, e306_164, e306_167, e306_170, e306_176, e306_179, e306_180, gK0_eq, gK1_eq, gK3_eq, w32_id, bI_eq0, bI_eq1, Bool.false_eq_true, not_true_eq_false, not_false_eq_true, ne_eq, ite_not, ↓reduceIte, if_true, if_false, Int.reduceToNat, Nat.reduceAdd, Int.reduceEq, Int.reduceLT, Int.reduceLE, Int.reduceNeg, bI_T, bI_F, ↓if_pos, ↓if_neg, h, mK_ne, c]
      exact back l5
theorem cFr_none {d : Int} : cFr T d (fun _ => false) = fun _ => false := by
  funext i; unfold cFr; rw [Bool.false_and, Bool.and_false]
theorem cntF_none : ∀ (n : Nat) (k : Int), cntF (fun _ => false) k n = 0 := by
  intro n
  induction n with
  | zero => intro k; rfl
  | succ n ih => intro k; rw [cntF, ih]; rfl
theorem tNew_none : tNew T (fun _ => false) = T := by
  funext j; unfold tNew; simp
theorem s_attach {e d : Int} (hb : gBk μ b) (hI : gIX μ) (hD : 0 ≤ T 1672 ∧ T 1672 ≤ 4) : gE 306 0 [gO 10 167, gI e, gI d, gX, gX, gX] [] (mK μ b T) Q = Q (tAtA μ T e d) (mK (gS μ 167 2 0) b (tAtT μ T e d)) := by
  have hd8 := hI.2.1
  have hs6 := hI.2.2.2.1
  have e1 : gS μ 167 2 0 167 12 = μ 167 12 := gS_neI (by omega)
  have e4 : gS μ 167 2 0 167 14 = μ 167 14 := gS_neI (by omega)
  have e2 : ∀ i, gS μ 167 2 0 179 i = μ 179 i := fun i => gS_neK (by omega)
  have e3 : ∀ i, gS μ 167 2 0 177 i = μ 177 i := fun i => gS_neK (by omega)
  have hb' : gBk (gS μ 167 2 0) b := gBk_gS hb (by decide)
  have hI' := gIX_thr (v := 0) hI
  have eK : ∀ d k, hK (gS μ 167 2 0) T d k = hK μ T d k := fun d k => by unfold hK; simp only [e3]
  have eM : ∀ d m, hM (gS μ 167 2 0) T d m = hM μ T d m := fun d m => by unfold hM; simp only [e3, e4, eK]
  have eE : hE (gS μ 167 2 0) T d e = hE μ T d e := by unfold hE; simp only [e1, e2, eM]
  have eH : tHin (gS μ 167 2 0) T e d = tHin μ T e d := by unfold tHin; simp only [eE, eM, eK]
  unfold tAtA tAtT
  by_cases h : 0 ≤ e ∧ e < μ 167 12
  · have hgr := hI.2.2.2.2.2.2.1 e h.1 (by omega)
    by_cases hd : 0 ≤ d ∧ d < T 1672
    · have hd4 : 0 ≤ d ∧ d < 4 := by omega
      have he8 : 0 ≤ e ∧ e < 8 := by omega
      have g : 0 ≤ e ∧ e < μ 167 12 ∧ 0 ≤ d ∧ d < T 1672 := ⟨h.1, h.2, hd⟩
      rw [if_pos g, if_pos g]
      by_cases c1 : 0 ≤ T (1673 + μ 179 e)
      · rw [if_pos c1, if_pos c1]
        simp (disch := first | assumption | omega) only [e306_0, e306_1, e306_2, e306_5, e306_6, e306_7, e306_10, e306_13, e306_14, e306_15, e306_18, e306_21, e306_22, e306_23, e306_24, e306_25, e306_28, e306_31, e306_32, e306_34, e306_35, e306_38, e306_39, e306_40, e306_43, e306_44, e306_45, e306_46, e306_47, e306_50, e306_53, e306_55, e306_56, e306_57, e306_60, e306_61, e306_64, e306_65, e306_66, e306_67, e306_68, e306_71, e306_72, e306_73, e306_74, e306_78, e306_79, e306_82, e306_85, e306_86, e306_89, e306_90, e306_93, e306_94, e306_96, e306_97, e306_98, e306_99, e306_100, e306_103, e306_104, e306_105, e306_108, e306_111, e306_112, e306_115, e306_116, e306_118, e306_119, e306_120, e306_121, e306_122, e306_124, e306_126, e306_127, e306_130, e306_131, e306_133, e306_134, e306_135, e306_136, e306_137, e306_140, e306_141, e306_142, e306_144, e306_147, e306_150, e306_153, e306_154, e306_155, e306_157, e306_159, e306_160, e306_161, e306_164, e306_167, e306_170, e306_173, e306_176, e306_179, e306_180, gK0_eq, gK1_eq, gK3_eq, w32_id, bI_eq0, bI_eq1, Bool.false_eq_true, not_true_eq_false, not_false_eq_true, ne_eq, ite_not, ↓reduceIte, if_true, if_false, Int.reduceToNat, Nat.reduceAdd, Int.reduceEq, Int.reduceLT, Int.reduceLE, Int.reduceNeg, bI_T, bI_F, ↓if_pos, ↓if_neg, gS_mK, s_isDevice, e1, h, s_isDomain, hd, and_self, s_domainOfDevice, e2, he8, mK_ne, s_refused]
      · rw [if_neg c1, if_neg c1]
        by_cases c2 : 0 ≤ hE μ T d e
        · rw [if_pos c2, if_pos c2]
          simp (disch := first | assumption | omega) only [e306_0, e306_1, e306_2, e306_5, e306_6, e306_7, e306_10, e306_13, e306_14, e306_15, e306_18, e306_21, e306_22, e306_23, e306_24, e306_25, e306_28, e306_31, e306_32, e306_34, e306_35, e306_38, e306_39, e306_40, e306_43, e306_44, e306_45, e306_46, e306_47, e306_50, e306_53, e306_55, e306_56, e306_57, e306_60, e306_61, e306_64, e306_65, e306_66, e306_67, e306_68, e306_71, e306_72, e306_73, e306_74, e306_78, e306_79, e306_82, e306_85, e306_86, e306_89, e306_90, e306_93, e306_94, e306_96, e306_97, e306_98, e306_99, e306_100, e306_103, e306_104, e306_105, e306_108, e306_111, e306_112, e306_115, e306_116, e306_118, e306_119, e306_120, e306_121, e306_122, e306_124, e306_126, e306_127, e306_130, e306_131, e306_133, e306_134, e306_135, e306_136, e306_137, e306_140, e306_141, e306_142, e306_144, e306_147, e306_150, e306_153, e306_154, e306_155, e306_157, e306_159, e306_160, e306_161, e306_164, e306_167, e306_170, e306_173, e306_176, e306_179, e306_180, gK0_eq, gK1_eq, gK3_eq, w32_id, bI_eq0, bI_eq1, Bool.false_eq_true, not_true_eq_false, not_false_eq_true, ne_eq, ite_not, ↓reduceIte, if_true, if_false, Int.reduceToNat, Nat.reduceAdd, Int.reduceEq, Int.reduceLT, Int.reduceLE, Int.reduceNeg, bI_T, bI_F, ↓if_pos, ↓if_neg, gS_mK, s_isDevice, e1, h, s_isDomain, hd, and_self, s_domainOfDevice, e2, he8, s_hindrance, hI', hD, hd4, eE, c2, eH]
        · rw [if_neg c2, if_neg c2]
          simp (disch := first | assumption | omega) only [e306_0, e306_1, e306_2, e306_5, e306_6, e306_7, e306_10, e306_13, e306_14, e306_15, e306_18, e306_21, e306_22, e306_23, e306_24, e306_25, e306_28, e306_31, e306_32, e306_34, e306_35, e306_38, e306_39, e306_40, e306_43, e306_44, e306_45, e306_46, e306_47, e306_50, e306_53, e306_55, e306_56, e306_57, e306_60, e306_61, e306_64, e306_65, e306_66, e306_67, e306_68, e306_71, e306_72, e306_73, e306_74, e306_78, e306_79, e306_82, e306_85, e306_86, e306_89, e306_90, e306_93, e306_94, e306_96, e306_97, e306_98, e306_99, e306_100, e306_103, e306_104, e306_105, e306_108, e306_111, e306_112, e306_115, e306_116, e306_118, e306_119, e306_120, e306_121, e306_122, e306_124, e306_126, e306_127, e306_130, e306_131, e306_133, e306_134, e306_135, e306_136, e306_137, e306_140, e306_141, e306_142, e306_144, e306_147, e306_150, e306_153, e306_154, e306_155, e306_157, e306_159, e306_160, e306_161, e306_164, e306_167, e306_170, e306_173, e306_176, e306_179, e306_180, gK0_eq, gK1_eq, gK3_eq, w32_id, bI_eq0, bI_eq1, Bool.false_eq_true, not_true_eq_false, not_false_eq_true, ne_eq, ite_not, ↓reduceIte, if_true, if_false, Int.reduceToNat, Nat.reduceAdd, Int.reduceEq, Int.reduceLT, Int.reduceLE, Int.reduceNeg, bI_T, bI_F, ↓if_pos, ↓if_neg, gS_mK, s_isDevice, e1, h, s_isDomain, hd, and_self, s_domainOfDevice, e2, he8, s_hindrance, hI', hD, hd4, eE, c2, mK_ne, s_lay]
          have k1 := s_att_k (Q := Q) (T := T) (T0 := tS T (1673 + μ 179 e) d) (e := e) (d := d) hb' hI' hd4 he8 (fun j j0 j1 => tS_ne (by omega)) (μ 167 14).toNat 0 gX (fun _ => false) (by omega) (by rw [e4]; omega)
          rw [cFr_none, tNew_none] at k1
          simp only [Bool.false_or, e2, e3] at k1
          rw [cntF_none] at k1
          exact k1
    · rw [if_neg (by omega), if_neg (by omega)]
      simp (disch := first | assumption | omega) only [e306_0, e306_1, e306_2, e306_5, e306_6, e306_7, e306_10, e306_13, e306_14, e306_15, e306_18, e306_21, e306_22, e306_23, e306_24, e306_25, e306_28, e306_31, e306_32, e306_34, e306_35, e306_38, e306_39, e306_40, e306_43, e306_44, e306_45, e306_46, e306_47, e306_50, e306_53, e306_55, e306_56, e306_57, e306_60, e306_61, e306_64, e306_65, e306_66, e306_67, e306_68, e306_71, e306_72, e306_73, e306_74, e306_78, e306_79, e306_82, e306_85, e306_86, e306_89, e306_90, e306_93, e306_94, e306_96, e306_97, e306_98, e306_99, e306_100, e306_103, e306_104, e306_105, e306_108, e306_111, e306_112, e306_115, e306_116, e306_118, e306_119, e306_120, e306_121, e306_122, e306_124, e306_126, e306_127, e306_130, e306_131, e306_133, e306_134, e306_135, e306_136, e306_137, e306_140, e306_141, e306_142, e306_144, e306_147, e306_150, e306_153, e306_154, e306_155, e306_157, e306_159, e306_160, e306_161, e306_164, e306_167, e306_170, e306_173, e306_176, e306_179, e306_180, gK0_eq, gK1_eq, gK3_eq, w32_id, bI_eq0, bI_eq1, Bool.false_eq_true, not_true_eq_false, not_false_eq_true, ne_eq, ite_not, ↓reduceIte, if_true, if_false, Int.reduceToNat, Nat.reduceAdd, Int.reduceEq, Int.reduceLT, Int.reduceLE, Int.reduceNeg, bI_T, bI_F, ↓if_pos, ↓if_neg, gS_mK, s_isDevice, e1, h, s_isDomain, hd, and_self]
  · rw [if_neg (by omega), if_neg (by omega)]
    simp (disch := first | assumption | omega) only [e306_0, e306_1, e306_2, e306_5, e306_6, e306_7, e306_10, e306_13, e306_14, e306_15, e306_18, e306_21, e306_22, e306_23, e306_24, e306_25, e306_28, e306_31, e306_32, e306_34, e306_35, e306_38, e306_39, e306_40, e306_43, e306_44, e306_45, e306_46, e306_47, e306_50, e306_53, e306_55, e306_56, e306_57, e306_60, e306_61, e306_64, e306_65, e306_66, e306_67, e306_68, e306_71, e306_72, e306_73, e306_74, e306_78, e306_79, e306_82, e306_85, e306_86, e306_89, e306_90, e306_93, e306_94, e306_96, e306_97, e306_98, e306_99, e306_100, e306_103, e306_104, e306_105, e306_108, e306_111, e306_112, e306_115, e306_116, e306_118, e306_119, e306_120, e306_121, e306_122, e306_124, e306_126, e306_127, e306_130, e306_131, e306_133, e306_134, e306_135, e306_136, e306_137, e306_140, e306_141, e306_142, e306_144, e306_147, e306_150, e306_153, e306_154, e306_155, e306_157, e306_159, e306_160, e306_161, e306_164, e306_167, e306_170, e306_173, e306_176, e306_179, e306_180, gK0_eq, gK1_eq, gK3_eq, w32_id, bI_eq0, bI_eq1, Bool.false_eq_true, not_true_eq_false, not_false_eq_true, ne_eq, ite_not, ↓reduceIte, if_true, if_false, Int.reduceToNat, Nat.reduceAdd, Int.reduceEq, Int.reduceLT, Int.reduceLE, Int.reduceNeg, bI_T, bI_F, ↓if_pos, ↓if_neg, gS_mK, s_isDevice, e1, h]
end MODEL12
