/-! text: its reading, both sides -/
def nrX (X X' : gM) : Prop := (∀ i, 11 ≤ i → i ≤ 14 → X' 167 i = X 167 i) ∧ (∀ i, 0 ≤ i → i < X 167 11 → X' 170 i = X 170 i ∧ X' 171 i = X 171 i ∧ X' 172 i = X 172 i) ∧ (∀ i, 0 ≤ i → i < X 167 12 → X' 173 i = X 173 i ∧ X' 174 i = X 174 i ∧ X' 175 i = X 175 i) ∧ (∀ i, 0 ≤ i → i < 2 * X 167 13 → X' 176 i = X 176 i) ∧ (∀ i, 0 ≤ i → i < 3 * X 167 14 → X' 177 i = X 177 i) ∧ X' 178 0 = X 178 0 ∧ X' 178 1 = X 178 1
def rC (C C' : gM) : Prop := ∀ (k : Nat) (i : Int), (k = 0 ∨ k = 2 ∨ 17 ≤ k) → C' k i = C k i
def rM (M M' : gM) : Prop := ∀ (k : Nat) (i : Int), (k < 167 ∨ k = 168 ∨ k = 169 ∨ 179 ≤ k ∨ (k = 167 ∧ ((11 ≤ i ∧ i ≤ 14) ∨ 31 ≤ i)) ∨ ((k = 170 ∨ k = 171 ∨ k = 172) ∧ i < 6) ∨ ((k = 173 ∨ k = 174 ∨ k = 175) ∧ i < 8) ∨ (k = 176 ∧ i < 16) ∨ (k = 177 ∧ i < 18) ∨ (k = 178 ∧ i < 2)) → M' k i = M k i
section READ
variable {B x : Nat} {C C' C'' M M' M'' X X' μ : gM} {T : Int → Int} {Q : Int → gM → Prop}
theorem gIX_nr (hI : gIX X) (q : nrX X X') (h9 : ∀ d, 0 ≤ d → d < 8 → 0 ≤ X' 179 d ∧ X' 179 d ≤ d ∧ X' 179 (X' 179 d) = X' 179 d) : gIX X' := by
  obtain ⟨n1, n2, n3, n4, g1, g2, g3, g4, g5, g6, g7⟩ := id hI
  obtain ⟨q0, q1, q2, q3, q4, q5, q6⟩ := q
  have e11 := q0 11 (by omega) (by omega)
  have e12 := q0 12 (by omega) (by omega)
  have e13 := q0 13 (by omega) (by omega)
  have e14 := q0 14 (by omega) (by omega)
  refine ⟨by rw [e11]; exact n1, by rw [e12]; exact n2, by rw [e13]; exact n3, by rw [e14]; exact n4, fun i i0 i1 => ?_, fun d d0 d1 => ?_, h9, fun k k0 k1 => ?_, fun k k0 k1 => ?_, by rw [q5]; exact g6, by rw [q6]; exact g7⟩
  · rw [e11] at i1
    obtain ⟨-, x1, x2⟩ := q1 i i0 i1
    rw [x1, x2]
    exact g1 i i0 i1
  · rw [e12] at d1
    obtain ⟨-, x1, x2⟩ := q2 d d0 d1
    rw [x1, x2, e11]
    exact g2 d d0 d1
  · rw [e13] at k1
    rw [q3 _ (by omega) (by omega), q3 _ (by omega) (by omega), e12]
    exact g4 k k0 k1
  · rw [e14] at k1
    rw [q4 _ (by omega) (by omega), q4 _ (by omega) (by omega), q4 _ (by omega) (by omega), e12]
    exact g5 k k0 k1
theorem rTd_nr (hI : gIX X) (q : nrX X X') (t : rTd x X μ) : rTd x X' μ := by
  obtain ⟨n1, n2, n3, n4, g1, g2, g3, g4, g5, g6, g7⟩ := id hI
  obtain ⟨q0, q1, q2, q3, q4, q5, q6⟩ := q
  have e11 := q0 11 (by omega) (by omega)
  have e12 := q0 12 (by omega) (by omega)
  have e13 := q0 13 (by omega) (by omega)
  have e14 := q0 14 (by omega) (by omega)
  have ab : ∀ b, b < X 167 11 → xAb X' 7 b 0 = xAb X 7 b 0 := fun b hb => xAb_low 7 7 b 0 (by omega) (by omega) (fun i i0 i1 => ⟨⟨(g1 i i0 (by omega)).1, (g1 i i0 (by omega)).2.1⟩, (q1 i i0 (by omega)).2.1⟩)
  obtain ⟨⟨t1, t2, t3, t4, t5, t6⟩, u1, u2, u3, u4⟩ := t
  refine ⟨⟨by rw [e11]; exact t1, by rw [e12]; exact t2, by rw [e13]; exact t3, by rw [e14]; exact t4, by rw [q5]; exact t5, by rw [q6]; exact t6⟩, fun b c0 c1 => ?_, fun d d0 d1 => ?_, fun k k0 k1 => ?_, fun k k0 k1 => ?_⟩
  · rw [e11] at c1
    obtain ⟨x0, x1, x2⟩ := q1 b c0 c1
    rw [x0, x2, ab b c1]
    exact u1 b c0 c1
  · rw [e12] at d1
    obtain ⟨x0, x1, x2⟩ := q2 d d0 d1
    have y := g2 d d0 d1
    rw [x0, x2]
    unfold xAbo
    rw [x1, ab _ (by omega)]
    exact u2 d d0 d1
  · rw [e13] at k1
    rw [q3 _ (by omega) (by omega), q3 _ (by omega) (by omega)]
    exact u3 k k0 k1
  · rw [e14] at k1
    rw [q4 _ (by omega) (by omega), q4 _ (by omega) (by omega), q4 _ (by omega) (by omega)]
    exact u4 k k0 k1
theorem rSt_nr (hI : gIX X) (q : nrX X X') (h9 : ∀ d, X' 179 d = X 179 d) (h : rSt B X T μ) : rSt B X' T μ := by
  obtain ⟨⟨h1, h1'⟩, h2, h3, h4, h5, h6, h7, h8⟩ := h
  refine ⟨⟨rTd_nr hI q h1, fun d d0 d1 => by rw [q.1 12 (by omega) (by omega)] at d1; rw [h9]; exact h1' d d0 d1⟩, h2, h3, h4, by rw [q.2.2.2.2.2.1]; exact h5, h6, h7, fun d d0 d1 => ?_⟩
  rw [q.1 12 (by omega) (by omega)] at d1
  rw [h9]
  exact h8 d d0 d1
theorem rM_nr (h : rM M M') (hI : gIX M) : nrX M M' ∧ ∀ d, M' 179 d = M 179 d := by
  obtain ⟨n1, n2, n3, n4, -⟩ := hI
  exact ⟨⟨fun i i0 i1 => h _ _ (by omega), fun i i0 i1 => ⟨h _ _ (by omega), h _ _ (by omega), h _ _ (by omega)⟩, fun i i0 i1 => ⟨h _ _ (by omega), h _ _ (by omega), h _ _ (by omega)⟩, fun i i0 i1 => h _ _ (by omega), fun i i0 i1 => h _ _ (by omega), h _ _ (by omega), h _ _ (by omega)⟩, fun d => h _ _ (by omega)⟩
theorem k_Trclear : ∃ C', C' 3 0 = 0 ∧ C' 3 4 = 0 ∧ C' 3 8 = 0 ∧ C' 3 11 = 0 ∧ C' 3 15 = 4 ∧ C' 3 16 = 0 ∧ (∀ d, 0 ≤ d → d < 8 → C' 9 d = 0) ∧ (∀ (k : Nat) i, k ≠ 3 → k ≠ 9 → C' k i = C k i) ∧ ∀ Q : Int → gM → Prop, gE 48 0 [gO 8 3] [] C Q = Q 0 C' := by
  refine ⟨?m, ?a1, ?a2, ?a3, ?a4, ?a5, ?a6, ?a7, ?a8, fun Q => ?run⟩
  case run =>
    simp (disch := first | assumption | omega) only [e48_0, e48_1, e48_2, e48_5, e48_6, e48_7, e48_10, e48_11, e48_12, e48_15, e48_16, e48_17, e48_20, e48_21, e48_22, e48_25, e48_26, e48_27, e48_30, e48_31, e48_34, e48_35, e48_38, gK0_eq, gK1_eq, gK3_eq, w32_id, bI_eq0, bI_eq1, Bool.false_eq_true, not_true_eq_false, not_false_eq_true, ne_eq, ite_not, ↓reduceIte, if_true, if_false, Int.reduceToNat, Nat.reduceAdd, Int.reduceEq, Int.reduceLT, Int.reduceLE, Int.reduceNeg, bI_T, bI_F, ↓if_pos, ↓if_neg, s_fillRow]
    exact rfl
  case a1 => simp (disch := first | assumption | omega) only [mrow_ne, gS_neI, gS_same]
  case a2 => simp (disch := first | assumption | omega) only [mrow_ne, gS_neI, gS_same]
  case a3 => simp (disch := first | assumption | omega) only [mrow_ne, gS_neI, gS_same]
  case a4 => simp (disch := first | assumption | omega) only [mrow_ne, gS_neI, gS_same]
  case a5 => simp (disch := first | assumption | omega) only [mrow_ne, gS_neI, gS_same]
  case a6 => simp (disch := first | assumption | omega) only [mrow_ne, gS_neI, gS_same]
  case a7 =>
    intro d d0 d1
    rw [mrow_same]
    exact if_pos ⟨d0, d1⟩
  case a8 =>
    intro k i h3 h9
    simp (disch := first | assumption | omega) only [mrow_ne, gS_neK]
theorem x_read {n : Int} (h1 : C 1 1 = M 167 1) (hn : 0 ≤ n ∧ n ≤ C 1 1 ∧ C 1 1 ≤ 700) (tape : ∀ i, 0 ≤ i → i < C 1 1 → C 2 i = M 168 i) (hI : gIX M) (hW : gIW M) :
    ∃ (b : Int) (C' M' : gM), (∀ Q : Int → gM → Prop, gE 69 0 [gO 4 1, gI n, gX] [] C Q = Q b C') ∧ (∀ Q : Int → gM → Prop, gE 235 0 [gO 10 167, gI n, gX] [] M Q = if b = 0 then Q (-1) M' else gE 235 77 [gO 10 167, gI n, gI (C' 1 10)] [] M' Q) ∧ rC C C' ∧ rM M M' ∧ (b = 0 ∨ b = 1) ∧ fl C' M' ∧ (b = 1 → dR C' M') ∧ C' 1 1 = 0 ∧ M' 167 1 = 0 := by
  obtain ⟨n1, n2, n3, n4, g1, g2, g3, g4, g5, g6, g7⟩ := id hI
  obtain ⟨D, a1, a2, a3, a4, a5, a6, a7, a8, run0⟩ := k_Trclear (C := C)
  obtain ⟨C0, e0⟩ : ∃ C0, C0 = gS (gS (gS (gS (gS (gS (gS (gS D 1 1 0) 1 3 n) 1 4 0) 1 10 0) 1 8 0) 1 9 0) 1 11 0) 1 12 (-1) := ⟨_, rfl⟩
  obtain ⟨M0, m0⟩ : ∃ M0, M0 = gS (gS (gS (gS (gS (gS (gS (gS (gS (gS (gS (gS (gS (gS M 167 2 0) 167 6 n) 167 1 0) 167 4 0) 167 5 (-1)) 167 7 0) 167 15 0) 167 16 0) 167 17 0) 167 18 0) 178 2 4) 178 3 0) 167 28 0) 167 29 0 := ⟨_, rfl⟩
  have c0 : ∀ (k : Nat) i, k ≠ 3 → k ≠ 9 → k ≠ 1 → C0 k i = C k i := fun k i q1 q2 q3 => by
    rw [e0]
    simp (disch := first | assumption | omega) only [gS_neK]
    exact a8 k i q1 q2
  have cD : ∀ (k : Nat) i, k ≠ 1 → C0 k i = D k i := fun k i q3 => by
    rw [e0]
    simp (disch := first | assumption | omega) only [gS_neK]
  have x1 : C0 1 1 = 0 := by rw [e0]; simp (disch := first | assumption | omega) only [gS_neI, gS_same]
  have x3 : C0 1 3 = n := by rw [e0]; simp (disch := first | assumption | omega) only [gS_neI, gS_same]
  have x4 : C0 1 4 = 0 := by rw [e0]; simp (disch := first | assumption | omega) only [gS_neI, gS_same]
  have x8 : C0 1 8 = 0 := by rw [e0]; simp (disch := first | assumption | omega) only [gS_neI, gS_same]
  have x9 : C0 1 9 = 0 := by rw [e0]; simp (disch := first | assumption | omega) only [gS_neI, gS_same]
  have x10 : C0 1 10 = 0 := by rw [e0]; simp (disch := first | assumption | omega) only [gS_neI, gS_same]
  have x11 : C0 1 11 = 0 := by rw [e0]; simp (disch := first | assumption | omega) only [gS_neI, gS_same]
  have x12 : C0 1 12 = -1 := by rw [e0]; simp (disch := first | assumption | omega) only [gS_same]
  have mo : ∀ (k : Nat) i, (k ≠ 167 ∨ (i ≠ 1 ∧ i ≠ 2 ∧ i ≠ 4 ∧ i ≠ 5 ∧ i ≠ 6 ∧ i ≠ 7 ∧ i ≠ 15 ∧ i ≠ 16 ∧ i ≠ 17 ∧ i ≠ 18 ∧ i ≠ 28 ∧ i ≠ 29)) → (k ≠ 178 ∨ (i ≠ 2 ∧ i ≠ 3)) → M0 k i = M k i := fun k i q1 q2 => by
    rw [m0, gS_out (by omega), gS_out (by omega), gS_out (by omega), gS_out (by omega), gS_out (by omega), gS_out (by omega), gS_out (by omega), gS_out (by omega), gS_out (by omega), gS_out (by omega), gS_out (by omega), gS_out (by omega), gS_out (by omega), gS_out (by omega)]
  have y1 : M0 167 1 = 0 := by rw [m0]; simp (disch := first | assumption | omega) only [gS_neK, gS_neI, gS_same]
  have y4 : M0 167 4 = 0 := by rw [m0]; simp (disch := first | assumption | omega) only [gS_neK, gS_neI, gS_same]
  have y5 : M0 167 5 = -1 := by rw [m0]; simp (disch := first | assumption | omega) only [gS_neK, gS_neI, gS_same]
  have y6 : M0 167 6 = n := by rw [m0]; simp (disch := first | assumption | omega) only [gS_neK, gS_neI, gS_same]
  have y7 : M0 167 7 = 0 := by rw [m0]; simp (disch := first | assumption | omega) only [gS_neK, gS_neI, gS_same]
  have y15 : M0 167 15 = 0 := by rw [m0]; simp (disch := first | assumption | omega) only [gS_neK, gS_neI, gS_same]
  have y16 : M0 167 16 = 0 := by rw [m0]; simp (disch := first | assumption | omega) only [gS_neK, gS_neI, gS_same]
  have y17 : M0 167 17 = 0 := by rw [m0]; simp (disch := first | assumption | omega) only [gS_neK, gS_neI, gS_same]
  have y18 : M0 167 18 = 0 := by rw [m0]; simp (disch := first | assumption | omega) only [gS_neK, gS_neI, gS_same]
  have y28 : M0 167 28 = 0 := by rw [m0]; simp (disch := first | assumption | omega) only [gS_neK, gS_neI, gS_same]
  have y29 : M0 167 29 = 0 := by rw [m0]; simp (disch := first | assumption | omega) only [gS_same]
  have t2 : M0 178 2 = 4 := by rw [m0]; simp (disch := first | assumption | omega) only [gS_neK, gS_neI, gS_same]
  have t3 : M0 178 3 = 0 := by rw [m0]; simp (disch := first | assumption | omega) only [gS_neK, gS_neI, gS_same]
  have z11 : xR M0 167 11 = 0 := y15
  have z12 : xR M0 167 12 = 0 := y16
  have z13 : xR M0 167 13 = 0 := y17
  have z14 : xR M0 167 14 = 0 := y18
  have z20 : xR M0 178 0 = 4 := t2
  have z21 : xR M0 178 1 = 0 := t3
  have z9 : ∀ d, xR M0 179 d = M 179 d := fun d => mo 179 d (by omega) (by omega)
  have dr0 : dR C0 M0 := by
    refine ⟨⟨by omega, by omega, by omega, by omega, fun i i0 i1 => by omega, fun i i0 i1 => by omega, fun d d0 d1 => by rw [z9, z9]; exact g3 d d0 d1, fun i i0 i1 => by omega, fun i i0 i1 => by omega, by omega, by omega⟩, ⟨⟨?_, ?_, ?_, ?_, ?_, ?_⟩, fun i i0 i1 => by omega, fun i i0 i1 => by omega, fun i i0 i1 => by omega, fun i i0 i1 => by omega⟩, fun d d0 d1 => ?_, by omega, by omega, by omega, by omega⟩
    · rw [cD _ _ (by omega), z11]; exact a1
    · rw [cD _ _ (by omega), z12]; exact a2
    · rw [cD _ _ (by omega), z13]; exact a3
    · rw [cD _ _ (by omega), z14]; exact a4
    · rw [cD _ _ (by omega), z20]; exact a5
    · rw [cD _ _ (by omega), z21]; exact a6
    · rw [z12] at d0
      rw [cD _ _ (by omega)]
      exact a7 d d0 d1
  have tp0 : tpR C0 M0 := by
    refine ⟨by omega, ⟨by omega, by omega, by omega, by omega⟩, fun i i0 i1 => ?_, fun k hk => ?_⟩
    · rw [c0 2 i (by omega) (by omega) (by omega), mo 168 i (by omega) (by omega)]
      exact tape i i0 (by omega)
    · rw [mo 169 k (by omega) (by omega)]
      exact hW k hk
  have s0 : sR (cAdv C0) (mTok M0) := sR_step tp0 (by omega) (by omega)
  have ra := fun (Q : Int → gM → Prop) => run_adv (C := C0) (Q := Q) (by omega) (by omega)
  have rt := fun (Q : Int → gM → Prop) => run_tok (M := M0) (Q := Q) tp0.2.2.2 (by omega) (by omega)
  have q3 : cAdv C0 1 3 = n := by rw [cAdv_ne (by omega), x3]
  obtain ⟨q41, q42, -⟩ := adv_4 (C := C0) (by omega)
  obtain ⟨b, C', M', r1, r2, v1, v2, v3, v4, v5⟩ := x_loop (n := n) (n' := n) (n + 1).toNat 0 (cAdv C0) (mTok M0) s0 (dR_adv (dR_tok dr0)) ⟨by rw [cAdv_ne (by omega), mTok_ne (by omega), x8, y28], by rw [cAdv_ne (by omega), mTok_ne (by omega), x9, y29]⟩ (by rw [cAdv_ne (by omega), x10]) (by omega) (by omega) (by omega)
  refine ⟨b, C', M', fun Q => ?_, fun Q => ?_, fun k i q => ?_, fun k i q => ?_, v3, v4, v5, ?_, ?_⟩
  · rw [← r1 Q]
    rw [e0] at ra ⊢
    simp (disch := first | assumption | omega) only [e69_0, e69_1, e69_4, e69_7, e69_8, e69_9, e69_12, e69_13, e69_14, e69_17, e69_18, e69_19, e69_22, e69_23, e69_24, e69_27, e69_28, e69_29, e69_32, e69_33, e69_34, e69_37, e69_38, e69_39, e69_42, e69_43, e69_44, e69_47, e69_48, e69_51, e69_52, e69_54, e69_57, e69_60, e69_61, e69_64, e69_67, e69_68, e69_71, e69_74, e69_75, e69_76, e69_77, e69_78, e69_81, e69_82, e69_83, e69_86, e69_87, e69_90, e69_93, e69_96, e69_97, gK0_eq, gK1_eq, gK3_eq, w32_id, bI_eq0, bI_eq1, Bool.false_eq_true, not_true_eq_false, not_false_eq_true, ne_eq, ite_not, ↓reduceIte, if_true, if_false, Int.reduceToNat, Nat.reduceAdd, Int.reduceEq, Int.reduceLT, Int.reduceLE, Int.reduceNeg, bI_T, bI_F, ↓if_pos, ↓if_neg, run0, ra]
  · rw [← r2 Q]
    rw [m0] at rt ⊢
    have ht : n ≤ M 167 1 := by omega
    have g21 : gS M 167 2 0 167 1 = M 167 1 := gS_neI (by omega)
    simp (disch := first | assumption | omega) only [e235_0, e235_1, e235_2, e235_5, e235_6, e235_9, e235_10, e235_11, e235_14, e235_17, e235_19, e235_20, e235_21, e235_22, e235_25, e235_26, e235_27, e235_30, e235_31, e235_32, e235_35, e235_36, e235_37, e235_40, e235_41, e235_42, e235_45, e235_46, e235_49, e235_50, e235_53, e235_54, e235_56, e235_59, e235_62, e235_63, e235_66, e235_69, e235_70, e235_71, e235_74, e235_78, e235_81, e235_82, gK0_eq, gK1_eq, gK3_eq, e217_0, e217_1, e217_2, e217_5, e217_6, e217_7, e217_10, e217_11, e217_12, e217_15, e217_16, e217_17, e217_20, e217_21, e217_24, e217_25, e217_26, e217_27, e217_28, e217_31, e217_32, e217_33, e217_34, e217_35, e217_36, e217_39, e217_40, e217_41, e217_44, gK0_eq, gK1_eq, gK3_eq, w32_id, bI_eq0, bI_eq1, Bool.false_eq_true, not_true_eq_false, not_false_eq_true, ne_eq, ite_not, ↓reduceIte, if_true, if_false, Int.reduceToNat, Nat.reduceAdd, Int.reduceEq, Int.reduceLT, Int.reduceLE, Int.reduceNeg, bI_T, bI_F, ↓if_pos, ↓if_neg, show ¬ n < 0 by omega, show 0 ≤ n by omega, g21, ht, show ¬ M 167 1 < n by omega, rt]
  · by_cases z : k = 1
    · omega
    · rw [v1 k i (by omega), cAdv_ne (by omega), c0 k i (by omega) (by omega) z]
  · rw [v2 k i (by omega), mTok_ne (by omega), mo k i (by omega) (by omega)]
  · rw [v1 1 1 (by omega), cAdv_ne (by omega), x1]
  · rw [v2 167 1 (by omega), mTok_ne (by omega), y1]
end READ
