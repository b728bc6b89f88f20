/-! text, side by side: the call -/
section TEXT8
variable {N : Int} {C C' M M' X X' μ μ1 ν A A' : gM} {T : Int → Int} {Q : Int → gM → Prop}
theorem tInv_Z (hN : 0 ≤ N) : tInv X (N + 1) tZ := by
  have z81 : tZ 1681 = 0 := tZ_0 (by omega) (by omega)
  have z72 : tZ 1672 = 0 := tZ_0 (by omega) (by omega)
  have z14 : tZ 1914 = 0 := tZ_0 (by omega) (by omega)
  have zq : tZ 1881 = 0 := tZ_0 (by omega) (by omega)
  refine ⟨fun g g0 g1 => ?_, fun d d0 d1 => ?_, ⟨by omega, by omega, fun k k0 k1 => by omega⟩, ⟨fun k k0 k1 => by omega, by omega, by omega⟩, by omega, by omega⟩
  · rw [tZ_m (by omega)]; omega
  · rw [tZ_0 (by omega) (by omega)]; omega
theorem gInv_txt (h : gInv N μ) (hc : ∀ (k : Nat) i, k < 167 → (k = 0 ∨ k = 2 ∨ 17 ≤ k) → ν k i = μ k i) (hr : ∀ (k : Nat) i, (k = 168 ∨ k = 169 ∨ 179 ≤ k ∨ (k = 167 ∧ ((11 ≤ i ∧ i ≤ 14) ∨ 31 ≤ i)) ∨ ((k = 170 ∨ k = 171 ∨ k = 172) ∧ i < 6) ∨ ((k = 173 ∨ k = 174 ∨ k = 175) ∧ i < 8) ∨ (k = 176 ∧ i < 16) ∨ (k = 177 ∧ i < 18) ∨ (k = 178 ∧ i < 2)) → ν k i = μ k i) (h1 : ν 1 1 = 0) (h2 : ν 167 1 = 0) (hf : fl ν ν) : gInv (N + 1) ν := by
  obtain ⟨⟨hI, hW, hB⟩, -, ⟨m1, m2, m3⟩, T, hk, hs, ht⟩ := h
  obtain ⟨nr, n9⟩ : nrX μ ν ∧ ∀ d, ν 179 d = μ 179 d := by
    obtain ⟨n1, n2, n3, n4, -⟩ := id hI
    exact ⟨⟨fun i i0 i1 => hr _ _ (by omega), fun i i0 i1 => ⟨hr _ _ (by omega), hr _ _ (by omega), hr _ _ (by omega)⟩, fun i i0 i1 => ⟨hr _ _ (by omega), hr _ _ (by omega), hr _ _ (by omega)⟩, fun i i0 i1 => hr _ _ (by omega), fun i i0 i1 => hr _ _ (by omega), hr _ _ (by omega), hr _ _ (by omega)⟩, fun d => hr _ _ (by omega)⟩
  have hI' : gIX ν := gIX_nr hI nr (fun d d0 d1 => by rw [n9, n9]; exact hI.2.2.2.2.2.2.1 d d0 d1)
  have e35 : ν 167 35 = μ 167 35 := hr _ _ (by omega)
  have rows : ∀ (k : Nat) i, 17 ≤ k → k < 167 ∨ 181 ≤ k → ν k i = μ k i := fun k i k0 k1 => by
    rcases k1 with k1 | k1
    · exact hc k i k1 (by omega)
    · exact hr k i (by omega)
  refine ⟨⟨hI', fun k hk => by rw [hr 169 k (by omega)]; exact hW k hk, by rw [hr 167 34 (by omega)]; exact hB⟩, ⟨by omega, by omega, fun i i0 i1 => by omega, hf⟩, ⟨by rw [e35]; exact m1, by rw [hc 0 4 (by omega) (by omega), e35]; exact m2, fun z => ?_⟩, T, mK_self (fun k k0 k1 => by rw [hr 181 k (by omega)]; exact mK_val hk k0 k1), rSt_at hI' (rSt_nr hI nr n9 hs) (fun k i q => rows k i (by omega) (by omega)), tInv_X (tInv_mono ht) n9 (nr.1 12 (by omega) (by omega))⟩
  rw [e35] at z
  obtain ⟨I, i1, i2, i3⟩ := m3 z
  exact ⟨I, fun k k0 k1 => by rw [hr 181 _ (by omega)]; exact i1 k k0 k1, rSt_at hI' (rSt_nr hI nr n9 i2) (fun k i q => rows k i (by omega) (by omega)), tInv_X (tInv_mono i3) n9 (nr.1 12 (by omega) (by omega))⟩
theorem c_text {n : Int} (h : gInv N μ) : cEq N μ (gE 2 0 [gO 9 0, gI n] []) (gE 235 0 [gO 10 167, gI n, gX] []) := by
  obtain ⟨T, hk, ⟨hI, hb, hr, ht⟩, ok⟩ := gInv_T h
  obtain ⟨q1, q2, q3, q4, q5⟩ := h.2.1
  have hW := h.1.2.1
  by_cases g : 0 ≤ n ∧ n ≤ μ 167 1
  · have tape : ∀ i, 0 ≤ i → i < μ 1 1 → μ 2 i = μ 168 i := fun i i0 i1 => (q3 i i0 (by omega)).1
    obtain ⟨b0, C0, M0, r0, -, rc0, -, b01, -, d0, c11, -⟩ := x_read (C := μ) (M := μ) (n := n) q1 (by omega) tape hI hW
    have g1 := g.1
    have g2 : n ≤ μ 1 1 := by omega
    -- the check's reading from a memory that agrees with μ from place 17 on
    have again : ∀ M : gM, (∀ (k : Nat) i, 167 ≤ k → M k i = μ k i) → ∃ M' : gM, (∀ Q : Int → gM → Prop, gE 235 0 [gO 10 167, gI n, gX] [] M Q = if b0 = 0 then Q (-1) M' else gE 235 77 [gO 10 167, gI n, gI (C0 1 10)] [] M' Q) ∧ rM M M' ∧ fl C0 M' ∧ (b0 = 1 → dR C0 M') ∧ M' 167 1 = 0 := fun M e => by
      obtain ⟨b, C', M', r1, r2, rc, rm, bb, f, d, -, z⟩ := x_read (C := μ) (M := M) (n := n) (by rw [e _ _ (by omega)]; exact q1) (by omega) (fun i i0 i1 => by rw [e _ _ (by omega)]; exact tape i i0 i1) (gIX_congr (fun k i q => e k i (by omega)) hI) (fun k hk => by rw [e _ _ (by omega)]; exact hW k hk)
      obtain ⟨eb, eC⟩ := gE_det r0 r1
      subst eb eC
      exact ⟨M', r2, rm, f, d, z⟩
    rcases b01 with rfl | rfl
    · obtain ⟨M', r2, rm, f, -, z⟩ := again C0 (fun k i k0 => rc0 k i (by omega))
      refine ⟨-1, C0, M', ?_, fun Q => ?_, fun Q => by rw [r2, if_pos rfl]⟩
      · refine gInv_txt h (fun k i k0 k1 => by rw [rm k i (by omega), rc0 k i k1]) (fun k i q => ?_) (by rw [rm _ _ (by omega)]; exact c11) z ?_
        · rw [rm k i (by omega), rc0 k i (by omega)]
        · unfold fl at f ⊢
          rw [rm 1 11 (by omega), rm 1 12 (by omega)]
          exact f
      · simp (disch := first | assumption | omega) only [e2_0, e2_1, e2_4, e2_5, e2_6, e2_9, e2_12, e2_15, e2_17, e2_18, e2_19, e2_22, e2_23, e2_26, e2_29, e2_30, e2_31, e2_32, e2_35, e2_36, e2_39, e2_42, e2_45, e2_46, e2_47, e2_50, e2_51, e2_54, e2_57, gK0_eq, gK1_eq, gK3_eq, w32_id, bI_eq0, bI_eq1, Bool.false_eq_true, not_true_eq_false, not_false_eq_true, ne_eq, ite_not, ↓reduceIte, if_true, if_false, Int.reduceToNat, Nat.reduceAdd, Int.reduceEq, Int.reduceLT, Int.reduceLE, Int.reduceNeg, bI_T, bI_F, ↓if_pos, ↓if_neg, show ¬ n < 0 by omega, g1, g2, show ¬ μ 1 1 < n by omega, r0]
    · obtain ⟨hI0, t0, -⟩ := d0 rfl
      obtain ⟨C2, f2, -, -, -, -, -, -, -, -, -, run2⟩ := k_startWith hI0 t0
      obtain ⟨μ1, e1⟩ : ∃ μ1, μ1 = gS C2 0 4 0 := ⟨_, rfl⟩
      have h1 : ∀ (k : Nat) i, (k = 2 ∨ 67 ≤ k) → μ1 k i = μ k i := fun k i q => by
        rw [e1, gS_out (by omega), f2 k i (by omega), rc0 k i (by omega)]
      have l1 : ∀ i, μ1 1 i = C0 1 i := fun i => by rw [e1, gS_out (by omega), f2 _ _ (by omega)]
      obtain ⟨M', r2, rm, f, d, z⟩ := again μ1 (fun k i k0 => h1 k i (by omega))
      obtain ⟨hI1, t1, -⟩ := d rfl
      obtain ⟨ν, A, rk, nr, hA, v1, v2, v3, v4, v5, v6, v7⟩ := s_keepText hI1
      obtain ⟨C3, f3, s1, s2, s3, s4, s5, s6, s7, s8, s9, run3⟩ := k_startWith hA (rTd_nr hI1 nr t1)
      obtain ⟨-, e3⟩ := gE_det run2 run3
      subst e3
      have lines : μ1 1 10 = C0 1 10 := l1 10
      refine ⟨C0 1 10, μ1, ν, ?_, fun Q => ?_, fun Q => ?_⟩
      · have low : ∀ (k : Nat) i, k < 167 → ν k i = μ1 k i := fun k i k0 => by rw [v7 k i (by omega), rm k i (by omega)]
        have nA : nrX A ν := ⟨fun i i0 i1 => v2 i i0 i1, fun i i0 i1 => ⟨v1 _ _ (by omega) (by omega), v1 _ _ (by omega) (by omega), v1 _ _ (by omega) (by omega)⟩, fun i i0 i1 => ⟨v1 _ _ (by omega) (by omega), v1 _ _ (by omega) (by omega), v1 _ _ (by omega) (by omega)⟩, fun i i0 i1 => v1 _ _ (by omega) (by omega), fun i i0 i1 => v1 _ _ (by omega) (by omega), v1 _ _ (by omega) (by omega), v1 _ _ (by omega) (by omega)⟩
        have g9 : ∀ d, 0 ≤ d → d < 8 → 0 ≤ ν 179 d ∧ ν 179 d ≤ d ∧ ν 179 (ν 179 d) = ν 179 d := fun d d0 d1 => by
          have y := xLay_grp hA (ps := 0) d d0 d1
          rw [v3 d d0 d1, v3 _ (by omega) (by omega)]
          exact y
        have hν : gIX ν := gIX_nr hA nA g9
        have st : rSt 17 ν tZ C3 := by
          refine ⟨⟨rTd_nr hA nA s1, fun d d0 d1 => by have n2 := hν.2.1; rw [v3 d d0 (by omega)]; exact s2 d d0 (by omega)⟩, s3, s4, s5, by rw [nA.2.2.2.2.2.1]; exact s6, s7, s8, fun d d0 d1 => ?_⟩
          have n2 := hν.2.1
          have y := g9 d d0 (by omega)
          rw [tZ_m (by omega)]
          exact s9 d d0 (by omega)
        have hN := ht.2.2.2.2.1
        refine ⟨⟨hν, fun k hk => by rw [v7 169 k (by omega), rm 169 k (by omega), h1 169 k (by omega)]; exact hW k hk, v5⟩, ⟨?_, ?_, fun i i0 i1 => ?_, ?_, ?_⟩, ⟨Or.inl v6, ?_, fun z => ?_⟩, tZ, mK_self v4, rSt_at hν st (fun k i q => ?_), tInv_Z (by omega)⟩
        · rw [low 1 1 (by omega), l1, v7 167 1 (by omega), z]; exact c11
        · rw [v7 167 1 (by omega), z]; omega
        · rw [v7 167 1 (by omega), z] at i1; omega
        · rw [low 1 11 (by omega), l1, v7 167 4 (by omega)]; exact f.1
        · rw [low 1 12 (by omega), l1, v7 167 5 (by omega)]; exact f.2
        · rw [low 0 4 (by omega), e1, gS_same, v6]
        · rw [v6] at z; omega
        · rcases q with q | q
          · rw [low k i (by omega), e1, gS_out (by omega)]
          · rw [v7 k i (by omega), rm k i (by omega), e1, gS_out (by omega)]
      · have z10 : gS C3 0 4 0 1 10 = C0 1 10 := by rw [← e1]; exact lines
        rw [e1]
        simp (disch := first | assumption | omega) only [e2_0, e2_1, e2_4, e2_5, e2_6, e2_9, e2_12, e2_15, e2_17, e2_18, e2_19, e2_22, e2_23, e2_26, e2_29, e2_30, e2_31, e2_32, e2_35, e2_36, e2_39, e2_42, e2_45, e2_46, e2_47, e2_50, e2_51, e2_54, e2_57, gK0_eq, gK1_eq, gK3_eq, w32_id, bI_eq0, bI_eq1, Bool.false_eq_true, not_true_eq_false, not_false_eq_true, ne_eq, ite_not, ↓reduceIte, if_true, if_false, Int.reduceToNat, Nat.reduceAdd, Int.reduceEq, Int.reduceLT, Int.reduceLE, Int.reduceNeg, bI_T, bI_F, ↓if_pos, ↓if_neg, show ¬ n < 0 by omega, g1, g2, show ¬ μ 1 1 < n by omega, r0, run2, z10]
      · rw [r2, if_neg (by omega), e235_77]
        simp (disch := first | assumption | omega) only [e235_0, e235_1, e235_2, e235_5, e235_6, e235_9, e235_10, e235_11, e235_14, e235_17, e235_19, e235_20, e235_21, e235_22, e235_25, e235_26, e235_27, e235_30, e235_31, e235_32, e235_35, e235_36, e235_37, e235_40, e235_41, e235_42, e235_45, e235_46, e235_49, e235_50, e235_53, e235_54, e235_55, e235_56, e235_59, e235_62, e235_63, e235_66, e235_69, e235_70, e235_71, e235_74, e235_78, e235_81, e235_82, gK0_eq, gK1_eq, gK3_eq, w32_id, bI_eq0, bI_eq1, Bool.false_eq_true, not_true_eq_false, not_false_eq_true, ne_eq, ite_not, ↓reduceIte, if_true, if_false, Int.reduceToNat, Nat.reduceAdd, Int.reduceEq, Int.reduceLT, Int.reduceLE, Int.reduceNeg, bI_T, bI_F, ↓if_pos, ↓if_neg, rk]
  · have e1 : gS μ 167 2 0 167 1 = μ 167 1 := gS_neI (by omega)
    refine cEq_q (T := T) (a := -2) h hk hr ht (ν := gS μ 167 2 0) cFm2 (fun Q => ?_) (fun Q => ?_)
    · by_cases c : n < 0
      · simp (disch := first | assumption | omega) only [e2_0, e2_1, e2_4, e2_5, e2_6, e2_9, e2_12, e2_15, e2_17, e2_18, e2_19, e2_22, e2_23, e2_26, e2_29, e2_30, e2_31, e2_32, e2_35, e2_36, e2_39, e2_42, e2_45, e2_46, e2_47, e2_50, e2_51, e2_54, e2_57, gK0_eq, gK1_eq, gK3_eq, w32_id, bI_eq0, bI_eq1, Bool.false_eq_true, not_true_eq_false, not_false_eq_true, ne_eq, ite_not, ↓reduceIte, if_true, if_false, Int.reduceToNat, Nat.reduceAdd, Int.reduceEq, Int.reduceLT, Int.reduceLE, Int.reduceNeg, bI_T, bI_F, ↓if_pos, ↓if_neg, c, show ¬ 0 ≤ n by omega]
      · simp (disch := first | assumption | omega) only [e2_0, e2_1, e2_4, e2_5, e2_6, e2_9, e2_12, e2_15, e2_17, e2_18, e2_19, e2_22, e2_23, e2_26, e2_29, e2_30, e2_31, e2_32, e2_35, e2_36, e2_39, e2_42, e2_45, e2_46, e2_47, e2_50, e2_51, e2_54, e2_57, gK0_eq, gK1_eq, gK3_eq, w32_id, bI_eq0, bI_eq1, Bool.false_eq_true, not_true_eq_false, not_false_eq_true, ne_eq, ite_not, ↓reduceIte, if_true, if_false, Int.reduceToNat, Nat.reduceAdd, Int.reduceEq, Int.reduceLT, Int.reduceLE, Int.reduceNeg, bI_T, bI_F, ↓if_pos, ↓if_neg, c, show 0 ≤ n by omega, show ¬ n ≤ μ 1 1 by omega, show μ 1 1 < n by omega]
    · by_cases c : n < 0
      · simp (disch := first | assumption | omega) only [e235_0, e235_1, e235_2, e235_5, e235_6, e235_9, e235_10, e235_11, e235_14, e235_17, e235_19, e235_20, e235_21, e235_22, e235_25, e235_26, e235_27, e235_30, e235_31, e235_32, e235_35, e235_36, e235_37, e235_40, e235_41, e235_42, e235_45, e235_46, e235_49, e235_50, e235_53, e235_54, e235_55, e235_56, e235_59, e235_62, e235_63, e235_66, e235_69, e235_70, e235_71, e235_74, e235_78, e235_81, e235_82, gK0_eq, gK1_eq, gK3_eq, w32_id, bI_eq0, bI_eq1, Bool.false_eq_true, not_true_eq_false, not_false_eq_true, ne_eq, ite_not, ↓reduceIte, if_true, if_false, Int.reduceToNat, Nat.reduceAdd, Int.reduceEq, Int.reduceLT, Int.reduceLE, Int.reduceNeg, bI_T, bI_F, ↓if_pos, ↓if_neg, c, show ¬ 0 ≤ n by omega, gS_mK]
      · simp (disch := first | assumption | omega) only [e235_0, e235_1, e235_2, e235_5, e235_6, e235_9, e235_10, e235_11, e235_14, e235_17, e235_19, e235_20, e235_21, e235_22, e235_25, e235_26, e235_27, e235_30, e235_31, e235_32, e235_35, e235_36, e235_37, e235_40, e235_41, e235_42, e235_45, e235_46, e235_49, e235_50, e235_53, e235_54, e235_55, e235_56, e235_59, e235_62, e235_63, e235_66, e235_69, e235_70, e235_71, e235_74, e235_78, e235_81, e235_82, gK0_eq, gK1_eq, gK3_eq, w32_id, bI_eq0, bI_eq1, Bool.false_eq_true, not_true_eq_false, not_false_eq_true, ne_eq, ite_not, ↓reduceIte, if_true, if_false, Int.reduceToNat, Nat.reduceAdd, Int.reduceEq, Int.reduceLT, Int.reduceLE, Int.reduceNeg, bI_T, bI_F, ↓if_pos, ↓if_neg, c, show 0 ≤ n by omega, gS_mK, mK_ne, e1, show ¬ n ≤ μ 167 1 by omega, show μ 167 1 < n by omega]
end TEXT8
