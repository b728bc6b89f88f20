/-! the check: tried, keep, back -/
section MODEL17
variable {μ : gM} {b : Int} {T : Int → Int} {Q : Int → gM → Prop}
theorem tSrv_facts {room : Int} {gr : Int → Int} {dv bt : Int} {well : Bool} (hg : ∀ e, 0 ≤ e → e < dv → 0 ≤ gr e ∧ gr e < 8) (hr : 1 ≤ room ∧ room ≤ 16) : ∀ (n : Nat) (k tk : Int) (T : Int → Int), k + n = T 1881 → 0 ≤ k → (0 ≤ T 1813 ∧ T 1813 ≤ room) → tRqO gr dv T →
    tRqO gr dv (tSrv room gr well bt n k tk T).2 ∧ (0 ≤ (tSrv room gr well bt n k tk T).2 1813 ∧ (tSrv room gr well bt n k tk T).2 1813 ≤ room) ∧ (tSrv room gr well bt n k tk T).2 1881 ≤ T 1881 ∧ ((∃ i, k ≤ i ∧ i < k + n ∧ T (1882 + 4 * i + 3) = bt) → (tSrv room gr well bt n k tk T).2 1881 < T 1881) ∧ (tk ≤ (tSrv room gr well bt n k tk T).1 ∧ (tSrv room gr well bt n k tk T).1 ≤ tk + n) ∧ (∀ j, j < 1813 ∨ (1914 ≤ j ∧ j ≠ 1916 ∧ j ≠ 1917) → (tSrv room gr well bt n k tk T).2 j = T j) := by
  intro n
  induction n with
  | zero =>
    intro k tk T hn hk hC hO
    rw [tSrv]
    exact ⟨hO, hC, Int.le_refl _, fun ⟨i, h1, h2, _⟩ => by omega, ⟨Int.le_refl _, by omega⟩, fun _ _ => rfl⟩
  | succ n ih =>
    intro k tk T hn hk hC hO
    have w8 := hO.2.1
    have key : ∀ (T1 : Int → Int) (c tk1 : Int), (c = 1916 ∨ c = 1917) → (tk ≤ tk1 ∧ tk1 ≤ tk + 1) → (0 ≤ T1 1813 ∧ T1 1813 ≤ room) → (∀ j, j < 1813 ∨ 1881 ≤ j → T1 j = T j) →
        tRqO gr dv (tSrv room gr well bt n k tk1 (tMor (tReqG T1 k) c)).2 ∧ (0 ≤ (tSrv room gr well bt n k tk1 (tMor (tReqG T1 k) c)).2 1813 ∧ (tSrv room gr well bt n k tk1 (tMor (tReqG T1 k) c)).2 1813 ≤ room) ∧ (tSrv room gr well bt n k tk1 (tMor (tReqG T1 k) c)).2 1881 ≤ T 1881 ∧ ((∃ i, k ≤ i ∧ i < k + (n + 1 : Nat) ∧ T (1882 + 4 * i + 3) = bt) → (tSrv room gr well bt n k tk1 (tMor (tReqG T1 k) c)).2 1881 < T 1881) ∧ (tk ≤ (tSrv room gr well bt n k tk1 (tMor (tReqG T1 k) c)).1 ∧ (tSrv room gr well bt n k tk1 (tMor (tReqG T1 k) c)).1 ≤ tk + (n + 1 : Nat)) ∧ (∀ j, j < 1813 ∨ (1914 ≤ j ∧ j ≠ 1916 ∧ j ≠ 1917) → (tSrv room gr well bt n k tk1 (tMor (tReqG T1 k) c)).2 j = T j) := by
      intro T1 c tk1 hc htk hC1 lo
      have w : T1 1881 = T 1881 := lo _ (by omega)
      have hO1 : tRqO gr dv T1 := tRqO_congr hg hO (fun j hj => lo j (by omega))
      obtain ⟨a1, a2, a3, a4, a5, a6⟩ := ih k tk1 (tMor (tReqG T1 k) c) (by rw [tMor_ne (by omega), tReqG_1881]; omega) hk (by rw [tMor_ne (by omega), tReqG_lo (by omega) hk (by omega)]; exact hC1) (tRqO_congr hg (tRqO_go hg hO1 ⟨hk, by omega⟩) (fun j hj => tMor_ne (by omega)))
      rw [tMor_ne (by omega), tReqG_1881] at a3
      refine ⟨a1, a2, by omega, fun _ => by omega, ⟨by omega, by omega⟩, fun j hj => ?_⟩
      rw [a6 j hj, tMor_ne (by omega), tReqG_lo (by omega) hk (by omega)]
      exact lo j (by omega)
    rw [tSrv]
    by_cases hc : T (1882 + 4 * k + 3) = bt
    · rw [if_pos hc]
      by_cases hw : well = true
      · rw [if_pos hw]
        have lo : ∀ j, j < 1813 ∨ 1881 ≤ j → tLkT T room (T (1673 + gr (T (1882 + 4 * k)))) (T (1882 + 4 * k + 1)) (T (1882 + 4 * k + 2)) j = T j := fun j hj => tLkT_lo hj hC hr
        have hC1 := tLkT_1813 (T := T) (d := T (1673 + gr (T (1882 + 4 * k)))) (p := T (1882 + 4 * k + 1)) (r := T (1882 + 4 * k + 2)) hC hr
        split
        · exact key _ 1916 (tk + 1) (Or.inl rfl) ⟨by omega, by omega⟩ hC1 lo
        · exact key _ 1917 tk (Or.inr rfl) ⟨by omega, by omega⟩ hC1 lo
      · rw [if_neg hw]
        exact key T 1917 tk (Or.inr rfl) ⟨by omega, by omega⟩ hC (fun _ _ => rfl)
    · rw [if_neg hc]
      obtain ⟨a1, a2, a3, a4, a5, a6⟩ := ih (k + 1) tk T (by omega) (by omega) hC hO
      refine ⟨a1, a2, a3, fun ⟨i, h1, h2, h3⟩ => a4 ⟨i, ?_, by omega, h3⟩, ⟨by omega, by omega⟩, a6⟩
      have : i ≠ k := fun q => hc (by rw [← q]; exact h3)
      omega
theorem tFirB_in : ∀ (n : Nat) (k best : Int), itF (fun k best => tFb1 T k best) k n best = best ∨ ∃ i, k ≤ i ∧ i < k + n ∧ T (1882 + 4 * i + 3) = itF (fun k best => tFb1 T k best) k n best := by
  intro n
  induction n with
  | zero => intro k best; exact Or.inl rfl
  | succ n ih =>
    intro k best
    rw [itF]
    rcases ih (k + 1) (tFb1 T k best) with h | ⟨i, h1, h2, h3⟩
    · rw [h]
      unfold tFb1
      split
      · exact Or.inr ⟨k, by omega, by omega, rfl⟩
      · exact Or.inl rfl
    · exact Or.inr ⟨i, by omega, by omega, h3⟩
theorem tSv_facts {room : Int} {gr : Int → Int} {dv : Int} {well : Bool} (hg : ∀ e, 0 ≤ e → e < dv → 0 ≤ gr e ∧ gr e < 8) (hr : 1 ≤ room ∧ room ≤ 16) (hC : 0 ≤ T 1813 ∧ T 1813 ≤ room) (hO : tRqO gr dv T) :
    tRqO gr dv (tSvT room gr well T) ∧ (0 ≤ tSvT room gr well T 1813 ∧ tSvT room gr well T 1813 ≤ room) ∧ (tFirB T ≠ 0 → tSvT room gr well T 1881 < T 1881 ∧ 0 ≤ tSvA room gr well T ∧ tSvA room gr well T ≤ T 1881) := by
  unfold tSvT tSvA
  by_cases h : tFirB T = 0
  · rw [if_pos h]
    exact ⟨hO, hC, fun q => absurd h q⟩
  · rw [if_neg h, if_neg h]
    have w0 := hO.1
    obtain ⟨a1, a2, a3, a4, a5, a6⟩ := tSrv_facts (bt := tFirB T) (well := well) hg hr (T 1881).toNat 0 0 T (by omega) (by omega) hC hO
    refine ⟨a1, a2, fun _ => ⟨a4 ?_, a5.1, by omega⟩⟩
    rcases tFirB_in (T := T) (T 1881).toNat 0 0 with q | q
    · exact absurd q h
    · exact q
theorem s_servesAll_loop (hI : gIX μ) (hb : gBk μ b) : ∀ (m : Nat) (n : Int) (T : Int → Int) (μ1 : gM), gAl μ μ1 → T 1881 ≤ m → m ≤ 8 → 0 ≤ n → n ≤ 100 * (9 - m) → (0 ≤ T 1813 ∧ T 1813 ≤ μ 178 0) → tRqO (fun e => μ 179 e) (μ 167 12) T →
    ∃ μ2, gAl μ μ2 ∧ ∀ Q : Int → gM → Prop, gE 331 8 [gO 10 167, gI n, gI (tSvA (μ 178 0) (fun e => μ 179 e) true T)] [] (mK μ1 b (tSvT (μ 178 0) (fun e => μ 179 e) true T)) Q = Q (tSvL (μ 178 0) (fun e => μ 179 e) m n T).1 (mK μ2 b (tSvL (μ 178 0) (fun e => μ 179 e) m n T).2) := by
  have hd8 := hI.2.1
  have hroom := hI.2.2.2.2.2.2.2.2.2.1
  have hg : ∀ e, 0 ≤ e → e < μ 167 12 → 0 ≤ μ 179 e ∧ μ 179 e < 8 := fun e q0 q1 => by have := hI.2.2.2.2.2.2.1 e q0 (by omega); omega
  intro m
  induction m with
  | zero =>
    intro n T μ1 ha h0 h1 h2 h3 hC hO
    have w0 := hO.1
    have hz : tFirB T = 0 := by unfold tFirB; rw [show (T 1881).toNat = 0 by omega]; rfl
    refine ⟨μ1, ha, fun Q => ?_⟩
    have e1 : tSvA (μ 178 0) (fun e => μ 179 e) true T = -2 := if_pos hz
    have e2 : tSvT (μ 178 0) (fun e => μ 179 e) true T = T := if_pos hz
    rw [e1, e2, e331_8, tSvL]
    simp (disch := first | assumption | omega) only [e331_0, e331_1, e331_2, e331_3, e331_4, e331_7, e331_9, e331_12, e331_13, e331_14, e331_15, e331_16, e331_17, e331_18, e331_21, e331_22, e331_25, e331_26, gK0_eq, gK1_eq, gK3_eq, w32_id, bI_eq0, bI_eq1, Bool.false_eq_true, not_true_eq_false, not_false_eq_true, ne_eq, ite_not, ↓reduceIte, if_true, if_false, Int.reduceToNat, Nat.reduceAdd, Int.reduceEq, Int.reduceLT, Int.reduceLE, Int.reduceNeg, bI_T, bI_F, ↓if_pos, ↓if_neg]
  | succ m ih =>
    intro n T μ1 ha h0 h1 h2 h3 hC hO
    have w0 := hO.1
    have w8 := hO.2.1
    by_cases hz : tFirB T = 0
    · refine ⟨μ1, ha, fun Q => ?_⟩
      have e1 : tSvA (μ 178 0) (fun e => μ 179 e) true T = -2 := if_pos hz
      have e2 : tSvT (μ 178 0) (fun e => μ 179 e) true T = T := if_pos hz
      rw [e1, e2, e331_8, tSvL, if_pos hz]
      simp (disch := first | assumption | omega) only [e331_0, e331_1, e331_2, e331_3, e331_4, e331_7, e331_9, e331_12, e331_13, e331_14, e331_15, e331_16, e331_17, e331_18, e331_21, e331_22, e331_25, e331_26, gK0_eq, gK1_eq, gK3_eq, w32_id, bI_eq0, bI_eq1, Bool.false_eq_true, not_true_eq_false, not_false_eq_true, ne_eq, ite_not, ↓reduceIte, if_true, if_false, Int.reduceToNat, Nat.reduceAdd, Int.reduceEq, Int.reduceLT, Int.reduceLE, Int.reduceNeg, bI_T, bI_F, ↓if_pos, ↓if_neg]
    · obtain ⟨f1, f2, f3⟩ := tSv_facts (gr := fun e => μ 179 e) (well := true) hg hroom hC hO
      obtain ⟨f4, f5, f6⟩ := f3 hz
      have hb1 := gBk_al ha hb
      have hI1 := gIX_al ha hI
      have r0 : μ1 178 0 = μ 178 0 := ha _ _ (by omega)
      have r1 : ∀ e, μ1 179 e = μ 179 e := fun e => ha _ _ (by omega)
      have r2 : μ1 167 12 = μ 167 12 := ha _ _ (by omega)
      obtain ⟨w, a, hl⟩ := s_serves (T := tSvT (μ 178 0) (fun e => μ 179 e) true T) (well := true) hb1 hI1 (by rw [r0]; exact f2) (by simp only [r1, r2]; exact f1)
      simp only [r0, r1, bI_T] at hl
      obtain ⟨μ2, ha2, hl2⟩ := ih (n + tSvA (μ 178 0) (fun e => μ 179 e) true T) (tSvT (μ 178 0) (fun e => μ 179 e) true T) (mW μ1 w a) (gAl_trans ha gAl_mW) (by omega) (by omega) (by omega) (by omega) f2 f1
      refine ⟨μ2, ha2, fun Q => ?_⟩
      rw [tSvL, if_neg hz, ← hl2 Q, e331_8]
      simp (disch := first | assumption | omega) only [e331_0, e331_1, e331_2, e331_3, e331_4, e331_7, e331_9, e331_12, e331_13, e331_14, e331_15, e331_16, e331_17, e331_18, e331_21, e331_22, e331_25, e331_26, gK0_eq, gK1_eq, gK3_eq, w32_id, bI_eq0, bI_eq1, Bool.false_eq_true, not_true_eq_false, not_false_eq_true, ne_eq, ite_not, ↓reduceIte, if_true, if_false, Int.reduceToNat, Nat.reduceAdd, Int.reduceEq, Int.reduceLT, Int.reduceLE, Int.reduceNeg, bI_T, bI_F, ↓if_pos, ↓if_neg, hl]
theorem s_servesAll (hI : gIX μ) (hb : gBk μ b) (hC : 0 ≤ T 1813 ∧ T 1813 ≤ μ 178 0) (hO : tRqO (fun e => μ 179 e) (μ 167 12) T) :
    ∃ μ2, gAl μ μ2 ∧ ∀ Q : Int → gM → Prop, gE 331 0 [gO 10 167, gX, gX] [] (mK μ b T) Q = Q (tSvL (μ 178 0) (fun e => μ 179 e) (T 1881).toNat 0 T).1 (mK μ2 b (tSvL (μ 178 0) (fun e => μ 179 e) (T 1881).toNat 0 T).2) := by
  have w0 := hO.1
  have w8 := hO.2.1
  obtain ⟨w, a, hl⟩ := s_serves (T := T) (well := true) hb hI hC hO
  obtain ⟨μ2, ha2, hl2⟩ := s_servesAll_loop hI hb (T 1881).toNat 0 T (mW μ w a) gAl_mW (by omega) (by omega) (by omega) (by omega) hC hO
  refine ⟨μ2, ha2, fun Q => ?_⟩
  have e1 : bI (true = true) = 1 := bI_t rfl
  rw [e1] at hl
  rw [← hl2 Q]
  simp (disch := first | assumption | omega) only [e331_0, e331_1, e331_2, e331_3, e331_4, e331_7, e331_9, e331_12, e331_13, e331_14, e331_15, e331_16, e331_17, e331_18, e331_21, e331_22, e331_25, e331_26, gK0_eq, gK1_eq, gK3_eq, w32_id, bI_eq0, bI_eq1, Bool.false_eq_true, not_true_eq_false, not_false_eq_true, ne_eq, ite_not, ↓reduceIte, if_true, if_false, Int.reduceToNat, Nat.reduceAdd, Int.reduceEq, Int.reduceLT, Int.reduceLE, Int.reduceNeg, bI_T, bI_F, hl]
theorem tTab_in {d : Int} : 1 ≤ tTab T d ∧ tTab T d ≤ 21 := by
  unfold tTab
  have h1 := cntF_nn (fun i => anyF (tMp T d) (16 * i) 16) 4 0
  have h2 := cntF_nn (fun i => anyF (tMp T d) (4 * i) 4 && decide (T (768 + 64 * d + 4 * i) = 0)) 16 0
  omega
theorem s_tablesAll_loop (hb : gBk μ b) (hD : 0 ≤ T 1672 ∧ T 1672 ≤ 4) : ∀ (m : Nat) (k s : Int), 0 ≤ k → k + m = T 1672 → 0 ≤ s → s ≤ 21 * k →
    gE 328 4 [gO 10 167, gI s, gI k] [] (mK μ b T) Q = Q (itF (fun d s => s + tTab T d) k m s) (mK μ b T) := by
  intro m
  induction m with
  | zero =>
    intro k s h0 h1 h2 h3
    have h : T 1672 ≤ k := by omega
    rw [e328_4, itF]
    simp (disch := first | assumption | omega) only [e328_0, e328_1, e328_2, e328_3, e328_5, e328_6, e328_9, e328_12, e328_15, e328_16, e328_17, e328_18, e328_21, e328_22, e328_23, e328_26, e328_29, e328_30, gK0_eq, gK1_eq, gK3_eq, w32_id, bI_eq0, bI_eq1, Bool.false_eq_true, not_true_eq_false, not_false_eq_true, ne_eq, ite_not, ↓reduceIte, if_true, if_false, Int.reduceToNat, Nat.reduceAdd, Int.reduceEq, Int.reduceLT, Int.reduceLE, Int.reduceNeg, bI_T, bI_F, ↓if_pos, ↓if_neg, s_of, h]
  | succ m ih =>
    intro k s h0 h1 h2 h3
    have h : ¬ T 1672 ≤ k := by omega
    have hd : 0 ≤ k ∧ k < 4 := by omega
    have ht := tTab_in (T := T) (d := k)
    rw [itF, ← ih (k + 1) _ (by omega) (by omega) (by omega) (by omega), e328_4]
    simp (disch := first | assumption | omega) only [e328_0, e328_1, e328_2, e328_3, e328_5, e328_6, e328_9, e328_12, e328_15, e328_16, e328_17, e328_18, e328_21, e328_22, e328_23, e328_26, e328_29, e328_30, gK0_eq, gK1_eq, gK3_eq, w32_id, bI_eq0, bI_eq1, Bool.false_eq_true, not_true_eq_false, not_false_eq_true, ne_eq, ite_not, ↓reduceIte, if_true, if_false, Int.reduceToNat, Nat.reduceAdd, Int.reduceEq, Int.reduceLT, Int.reduceLE, Int.reduceNeg, bI_T, bI_F, ↓if_pos, ↓if_neg, s_of, h, s_tablesOf, hd]
theorem s_tablesAll (hb : gBk μ b) (hD : 0 ≤ T 1672 ∧ T 1672 ≤ 4) : gE 328 0 [gO 10 167, gX, gX] [] (mK μ b T) Q = Q (tTbA T) (mK μ b T) := by
  simp (disch := first | assumption | omega) only [e328_0, e328_1, e328_2, e328_3, e328_5, e328_6, e328_9, e328_12, e328_15, e328_16, e328_17, e328_18, e328_21, e328_22, e328_23, e328_26, e328_29, e328_30, gK0_eq, gK1_eq, gK3_eq, w32_id, bI_eq0, bI_eq1, Bool.false_eq_true, not_true_eq_false, not_false_eq_true, ne_eq, ite_not, ↓reduceIte, if_true, if_false, Int.reduceToNat, Nat.reduceAdd, Int.reduceEq, Int.reduceLT, Int.reduceLE, Int.reduceNeg, bI_T, bI_F]
  rw [s_tablesAll_loop hb hD (T 1672).toNat 0 0 (by omega) (by omega) (by omega) (by omega)]
  rfl
theorem tTid_lo {d : Int} (hd : 0 ≤ d ∧ d < 4) : ∀ (m : Nat) (i n : Int) (T : Int → Int), 0 ≤ i → i + m ≤ 16 → ∀ j, j < 768 ∨ 1024 ≤ j → (tTid d m i n T).2 j = T j := by
  intro m
  induction m with
  | zero => intro i n T _ _ j _; rfl
  | succ m ih =>
    intro i n T h0 h1 j hj
    rw [tTid]
    split
    · rw [ih (i + 1) _ _ (by omega) (by omega) j hj]
      unfold tBl1
      rw [if_neg (by omega)]
    · exact ih (i + 1) _ _ (by omega) (by omega) j hj
theorem s_tried3_loop (hb : gBk μ b) {w n D : Int} (hD : 0 ≤ D ∧ D ≤ 4) : ∀ (m : Nat) (k : Int) (T : Int → Int), T 1672 = D → (∀ j, 0 ≤ j → j < 256 → -1 ≤ T j ∧ T j < 64) → 0 ≤ k → k + m = D →
    gE 332 86 [gO 10 167, gI w, gI n, gI k] [] (mK μ b T) Q = gE 332 109 [gO 10 167, gI w, gI n, gI D] [] (mK μ b (itF (fun d T => (tTid d 16 0 0 T).2) k m T)) Q ∧ itF (fun d T => (tTid d 16 0 0 T).2) k m T 1672 = D := by
  intro m
  induction m with
  | zero =>
    intro k T hT hF h0 h1
    have h : k = D := by omega
    refine ⟨?_, hT⟩
    rw [e332_86, itF]
    simp (disch := first | assumption | omega) only [e332_0, e332_1, e332_2, e332_5, e332_6, e332_7, e332_8, e332_11, e332_14, e332_15, e332_16, e332_17, e332_20, e332_21, e332_22, e332_23_c0, e332_23_c1, e332_23_c2, e332_23_d, e332_48, e332_49, e332_52, e332_53, e332_54, e332_57, e332_58, e332_61, e332_62, e332_65, e332_66, e332_69, e332_72, e332_73, e332_76, e332_77, e332_80, e332_81, e332_84, e332_85, e332_87, e332_88, e332_91, e332_94, e332_97, e332_98, e332_99, e332_102, e332_103, e332_106, e332_110, e332_113, e332_114, e332_115, e332_116, e332_119, e332_120, gK0_eq, gK1_eq, gK3_eq, w32_id, bI_eq0, bI_eq1, Bool.false_eq_true, not_true_eq_false, not_false_eq_true, ne_eq, ite_not, ↓reduceIte, if_true, if_false, Int.reduceToNat, Nat.reduceAdd, Int.reduceEq, Int.reduceLT, Int.reduceLE, Int.reduceNeg, bI_T, bI_F, ↓if_pos, ↓if_neg, s_of, h]
  | succ m ih =>
    intro k T hT hF h0 h1
    have h : ¬ T 1672 ≤ k := by omega
    have hd : 0 ≤ k ∧ k < 4 := by omega
    have lo := tTid_lo hd 16 0 0 T (by omega) (by omega)
    obtain ⟨i1, i2⟩ := ih (k + 1) (tTid k 16 0 0 T).2 (by rw [lo _ (by omega)]; exact hT) (fun j j0 j1 => by rw [lo _ (by omega)]; exact hF j j0 j1) (by omega) (by omega)
    rw [itF]
    refine ⟨?_, i2⟩
    rw [← i1, e332_86]
    simp (disch := first | assumption | omega) only [e332_0, e332_1, e332_2, e332_5, e332_6, e332_7, e332_8, e332_11, e332_14, e332_15, e332_16, e332_17, e332_20, e332_21, e332_22, e332_23_c0, e332_23_c1, e332_23_c2, e332_23_d, e332_48, e332_49, e332_52, e332_53, e332_54, e332_57, e332_58, e332_61, e332_62, e332_65, e332_66, e332_69, e332_72, e332_73, e332_76, e332_77, e332_80, e332_81, e332_84, e332_85, e332_87, e332_88, e332_91, e332_94, e332_97, e332_98, e332_99, e332_102, e332_103, e332_106, e332_110, e332_113, e332_114, e332_115, e332_116, e332_119, e332_120, gK0_eq, gK1_eq, gK3_eq, w32_id, bI_eq0, bI_eq1, Bool.false_eq_true, not_true_eq_false, not_false_eq_true, ne_eq, ite_not, ↓reduceIte, if_true, if_false, Int.reduceToNat, Nat.reduceAdd, Int.reduceEq, Int.reduceLT, Int.reduceLE, Int.reduceNeg, bI_T, bI_F, ↓if_pos, ↓if_neg, s_of, h, s_tidies, hd, hF]
theorem s_tried_bad {w : Int} (h : ¬ (0 ≤ w ∧ w ≤ 3)) : gE 332 0 [gO 10 167, gI w, gX, gX] [] (mK μ b T) Q = Q (-1) (mK (gS μ 167 2 0) b T) := by
  simp (disch := first | assumption | omega) only [e332_0, e332_1, e332_2, e332_5, e332_6, e332_7, e332_8, e332_11, e332_14, e332_15, e332_16, e332_17, e332_20, e332_21, e332_22, e332_23_c0, e332_23_c1, e332_23_c2, e332_23_d, e332_48, e332_49, e332_52, e332_53, e332_54, e332_57, e332_58, e332_61, e332_62, e332_65, e332_66, e332_69, e332_72, e332_73, e332_76, e332_77, e332_80, e332_81, e332_84, e332_85, e332_87, e332_88, e332_91, e332_94, e332_97, e332_98, e332_99, e332_102, e332_103, e332_106, e332_109, e332_110, e332_113, e332_114, e332_115, e332_116, e332_119, e332_120, gK0_eq, gK1_eq, gK3_eq, w32_id, bI_eq0, bI_eq1, Bool.false_eq_true, not_true_eq_false, not_false_eq_true, ne_eq, ite_not, ↓reduceIte, if_true, if_false, Int.reduceToNat, Nat.reduceAdd, Int.reduceEq, Int.reduceLT, Int.reduceLE, Int.reduceNeg, bI_T, bI_F, gS_mK, s_isIn, h]
theorem s_tried {w : Int} (hI : gIX μ) (h : 0 ≤ w ∧ w ≤ 3) (hD : 0 ≤ T 1672 ∧ T 1672 ≤ 4) (hq : 0 ≤ T 1681 ∧ T 1681 ≤ 24) (hC : 0 ≤ T 1813 ∧ T 1813 ≤ μ 178 0) (hF : ∀ j, 0 ≤ j → j < 256 → -1 ≤ T j ∧ T j < 64) (hO : tRqO (fun e => μ 179 e) (μ 167 12) T) :
    ∃ (μ2 : gM) (T2 : Int → Int), gAl (gS (mTr μ T) 167 34 0) μ2 ∧ ∀ Q : Int → gM → Prop, gE 332 0 [gO 10 167, gI w, gX, gX] [] (mK μ 0 T) Q = Q (tTrA (μ 178 0) (fun e => μ 179 e) T w) (mK μ2 1 T2) := by
  have hb : gBk (mTr μ T) 1 := gBk_tr
  have hI2 : gIX (mTr μ T) := gIX_tr hI
  have hroom := hI.2.2.2.2.2.2.2.2.2.1
  have hC16 : 0 ≤ T 1813 ∧ T 1813 ≤ 16 := by omega
  have hq32 : 0 ≤ T 1681 ∧ T 1681 ≤ 32 := by omega
  obtain ⟨g1, g2, g3, g4⟩ := tTqF_facts hD hq
  have w4 : w = 0 ∨ w = 1 ∨ w = 2 ∨ w = 3 := by omega
  rcases w4 with rfl | rfl | rfl | rfl
  · refine ⟨gS (mTr μ T) 167 34 0, tWks (tTqF T 1681).toNat (tTqF T), gAl_refl, fun Q => ?_⟩
    have q1 : 0 ≤ tWks (tTqF T 1681).toNat (tTqF T) 1672 ∧ tWks (tTqF T 1681).toNat (tTqF T) 1672 ≤ 4 := by
      have : ∀ (m : Nat) (T : Int → Int), (0 ≤ T 1672 ∧ T 1672 ≤ 4) → (0 ≤ T 1681 ∧ T 1681 ≤ 32) → (0 ≤ T 1813 ∧ T 1813 ≤ 16) → 0 ≤ tWks m T 1672 ∧ tWks m T 1672 ≤ 4 := by
        intro m
        induction m with
        | zero => intro T a1 a2 a3; exact a1
        | succ m ih =>
          intro T a1 a2 a3
          rw [tWks]
          split
          · exact a1
          · obtain ⟨f1, f2, f3, f4⟩ := tWrk_facts a1 (by omega) a3
            exact ih _ (by rw [f1]; exact a1) (by rw [f2]; omega) (by omega)
      exact this _ _ (by rw [g1]; exact hD) ⟨g2, g3⟩ (by rw [g4]; exact hC16)
    simp (disch := first | assumption | omega) only [e332_0, e332_1, e332_2, e332_5, e332_6, e332_7, e332_8, e332_11, e332_14, e332_15, e332_16, e332_17, e332_20, e332_21, e332_22, e332_23_c0, e332_23_c1, e332_23_c2, e332_23_d, e332_48, e332_49, e332_52, e332_53, e332_54, e332_57, e332_58, e332_61, e332_62, e332_65, e332_66, e332_69, e332_72, e332_73, e332_76, e332_77, e332_80, e332_81, e332_84, e332_85, e332_87, e332_88, e332_91, e332_94, e332_97, e332_98, e332_99, e332_102, e332_103, e332_106, e332_109, e332_110, e332_113, e332_114, e332_115, e332_116, e332_119, e332_120, gK0_eq, gK1_eq, gK3_eq, w32_id, bI_eq0, bI_eq1, Bool.false_eq_true, not_true_eq_false, not_false_eq_true, ne_eq, ite_not, ↓reduceIte, if_true, if_false, Int.reduceToNat, Nat.reduceAdd, Int.reduceEq, Int.reduceLT, Int.reduceLE, Int.reduceNeg, bI_T, bI_F, gS_mK, s_isIn, h, and_self, s_asNow, s_triesQueue, s_framesBy, q1, tTrA]
  · refine ⟨gS (mTr μ T) 167 34 0, tWks (T 1681).toNat T, gAl_refl, fun Q => ?_⟩
    simp (disch := first | assumption | omega) only [e332_0, e332_1, e332_2, e332_5, e332_6, e332_7, e332_8, e332_11, e332_14, e332_15, e332_16, e332_17, e332_20, e332_21, e332_22, e332_23_c0, e332_23_c1, e332_23_c2, e332_23_d, e332_48, e332_49, e332_52, e332_53, e332_54, e332_57, e332_58, e332_61, e332_62, e332_65, e332_66, e332_69, e332_72, e332_73, e332_76, e332_77, e332_80, e332_81, e332_84, e332_85, e332_87, e332_88, e332_91, e332_94, e332_97, e332_98, e332_99, e332_102, e332_103, e332_106, e332_109, e332_110, e332_113, e332_114, e332_115, e332_116, e332_119, e332_120, gK0_eq, gK1_eq, gK3_eq, w32_id, bI_eq0, bI_eq1, Bool.false_eq_true, not_true_eq_false, not_false_eq_true, ne_eq, ite_not, ↓reduceIte, if_true, if_false, Int.reduceToNat, Nat.reduceAdd, Int.reduceEq, Int.reduceLT, Int.reduceLE, Int.reduceNeg, bI_T, bI_F, gS_mK, s_isIn, h, and_self, s_asNow, s_worksAll, s_of, tTrA]
  · have r0 : mTr μ T 178 0 = μ 178 0 := mTr_at (by omega) (by omega)
    have r1 : ∀ e, mTr μ T 179 e = μ 179 e := fun e => mTr_at (by omega) (by omega)
    have r2 : mTr μ T 167 12 = μ 167 12 := mTr_at (by omega) (by omega)
    obtain ⟨μ2, ha, hl⟩ := s_servesAll (T := T) hI2 hb (by rw [r0]; exact hC) (by simp only [r1, r2]; exact hO)
    simp only [r0, r1] at hl
    refine ⟨gS μ2 167 34 0, (tSvL (μ 178 0) (fun e => μ 179 e) (T 1881).toNat 0 T).2, fun k i hk => ?_, fun Q => ?_⟩
    · by_cases c : k = 167 ∧ i = 34
      · obtain ⟨rfl, rfl⟩ := c
        rw [gS_same, gS_same]
      · rw [show gS μ2 167 34 0 k i = μ2 k i from if_neg (by omega), show gS (mTr μ T) 167 34 0 k i = mTr μ T k i from if_neg (by omega)]
        exact ha k i hk
    · simp (disch := first | assumption | omega) only [e332_0, e332_1, e332_2, e332_5, e332_6, e332_7, e332_8, e332_11, e332_14, e332_15, e332_16, e332_17, e332_20, e332_21, e332_22, e332_23_c0, e332_23_c1, e332_23_c2, e332_23_d, e332_48, e332_49, e332_52, e332_53, e332_54, e332_57, e332_58, e332_61, e332_62, e332_65, e332_66, e332_69, e332_72, e332_73, e332_76, e332_77, e332_80, e332_81, e332_84, e332_85, e332_87, e332_88, e332_91, e332_94, e332_97, e332_98, e332_99, e332_102, e332_103, e332_106, e332_109, e332_110, e332_113, e332_114, e332_115, e332_116, e332_119, e332_120, gK0_eq, gK1_eq, gK3_eq, w32_id, bI_eq0, bI_eq1, Bool.false_eq_true, not_true_eq_false, not_false_eq_true, ne_eq, ite_not, ↓reduceIte, if_true, if_false, Int.reduceToNat, Nat.reduceAdd, Int.reduceEq, Int.reduceLT, Int.reduceLE, Int.reduceNeg, bI_T, bI_F, gS_mK, s_isIn, h, and_self, s_asNow, hl, tTrA]
  · obtain ⟨i1, i2⟩ := s_tried3_loop (Q := fun _ _ => True) (w := 3) (n := 0) hb hD (T 1672).toNat 0 T rfl hF (by omega) (by omega)
    refine ⟨gS (mTr μ T) 167 34 0, tTiA T, gAl_refl, fun Q => ?_⟩
    have q1 : 0 ≤ tTiA T 1672 ∧ tTiA T 1672 ≤ 4 := by unfold tTiA; rw [i2]; exact hD
    simp (disch := first | assumption | omega) only [e332_0, e332_1, e332_2, e332_5, e332_6, e332_7, e332_8, e332_11, e332_14, e332_15, e332_16, e332_17, e332_20, e332_21, e332_22, e332_23_c0, e332_23_c1, e332_23_c2, e332_23_d, e332_48, e332_49, e332_52, e332_53, e332_54, e332_57, e332_58, e332_61, e332_62, e332_65, e332_66, e332_69, e332_72, e332_73, e332_76, e332_77, e332_80, e332_81, e332_84, e332_85, e332_87, e332_88, e332_91, e332_94, e332_97, e332_98, e332_99, e332_102, e332_103, e332_106, e332_109, e332_110, e332_113, e332_114, e332_115, e332_116, e332_119, e332_120, gK0_eq, gK1_eq, gK3_eq, w32_id, bI_eq0, bI_eq1, Bool.false_eq_true, not_true_eq_false, not_false_eq_true, ne_eq, ite_not, ↓reduceIte, if_true, if_false, Int.reduceToNat, Nat.reduceAdd, Int.reduceEq, Int.reduceLT, Int.reduceLE, Int.reduceNeg, bI_T, bI_F, gS_mK, s_isIn, h, and_self, s_asNow]
    rw [(s_tried3_loop (Q := Q) (w := 3) (n := 0) hb hD (T 1672).toNat 0 T rfl hF (by omega) (by omega)).1, e332_109]
    have q2 := s_tablesAll (T := tTiA T) (Q := gK1 332 113 [gO 10 167, gI 3, gI 0, gI (T 1672)] [] Q) hb q1
    unfold tTiA at q2
    simp (disch := first | assumption | omega) only [e332_0, e332_1, e332_2, e332_5, e332_6, e332_7, e332_8, e332_11, e332_14, e332_15, e332_16, e332_17, e332_20, e332_21, e332_22, e332_23_c0, e332_23_c1, e332_23_c2, e332_23_d, e332_48, e332_49, e332_52, e332_53, e332_54, e332_57, e332_58, e332_61, e332_62, e332_65, e332_66, e332_69, e332_72, e332_73, e332_76, e332_77, e332_80, e332_81, e332_84, e332_85, e332_87, e332_88, e332_91, e332_94, e332_97, e332_98, e332_99, e332_102, e332_103, e332_106, e332_110, e332_113, e332_114, e332_115, e332_116, e332_119, e332_120, gK0_eq, gK1_eq, gK3_eq, w32_id, bI_eq0, bI_eq1, Bool.false_eq_true, not_true_eq_false, not_false_eq_true, ne_eq, ite_not, ↓reduceIte, if_true, if_false, Int.reduceToNat, Nat.reduceAdd, Int.reduceEq, Int.reduceLT, Int.reduceLE, Int.reduceNeg, bI_T, bI_F, q2, gS_mK, tTrA, tTiA]
end MODEL17
