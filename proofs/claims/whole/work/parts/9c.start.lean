/-! the fresh objects: what the constructors leave couples both sides -/
section START
variable {μ ν : gM} {Q : Int → gM → Prop}
theorem rSt_Z {X : gM} (n11 : X 167 11 = 0) (n12 : X 167 12 = 0) (n13 : X 167 13 = 0) (n14 : X 167 14 = 0) (n20 : X 178 0 = 4) (n21 : X 178 1 = 0) (hz : ∀ (k : Nat) i, 18 ≤ k → k ≤ 65 → k ≠ 35 → ¬ (k = 18 ∧ i = 15) → μ k i = 0) (h15 : μ 18 15 = 4) (h35 : ∀ i, 0 ≤ i → i < 256 → μ 35 i = -1) : rSt 17 X tZ μ := by
  have z72 : tZ 1672 = 0 := tZ_0 (by omega) (by omega)
  have z13 : tZ 1813 = 0 := tZ_0 (by omega) (by omega)
  have z81 : tZ 1881 = 0 := tZ_0 (by omega) (by omega)
  have z18 : tZ 1918 = 0 := tZ_0 (by omega) (by omega)
  have z27 : tZ 1927 = 0 := tZ_0 (by omega) (by omega)
  have zq : tZ 1681 = 0 := tZ_0 (by omega) (by omega)
  have u : ∀ f, tUses tZ f = 0 := fun f => by
    unfold tUses
    rw [z72]
    rfl
  refine ⟨⟨⟨⟨?_, ?_, ?_, ?_, ?_, ?_⟩, fun i i0 i1 => by omega, fun i i0 i1 => by omega, fun i i0 i1 => by omega, fun i i0 i1 => by omega⟩, fun d d0 d1 => by omega⟩, ⟨by omega, ?_, fun d d0 d1 => ?_, fun i i0 i1 => ?_⟩, ⟨⟨⟨by omega, fun k k0 k1 _ => by rw [tZ_m (by omega)]; omega⟩, fun f w f0 f1 w0 w1 => by rw [tZ_0 (by omega) (by omega)]; exact in32_0⟩, fun f f0 f1 => ?_, fun f d f0 f1 d0 d1 => ?_⟩, ?_, ⟨⟨⟨by omega, by omega, fun k k0 k1 => by omega, fun i k i0 ik k1 => by omega⟩, by omega, by omega⟩, ?_, fun k k0 k1 => by omega⟩, ?_, ?_, fun d d0 d1 => by omega⟩
  · rw [n11]; exact hz _ _ (by omega) (by omega) (by omega) (by omega)
  · rw [n12]; exact hz _ _ (by omega) (by omega) (by omega) (by omega)
  · rw [n13]; exact hz _ _ (by omega) (by omega) (by omega) (by omega)
  · rw [n14]; exact hz _ _ (by omega) (by omega) (by omega) (by omega)
  · rw [n20]; exact h15
  · rw [n21]; exact hz _ _ (by omega) (by omega) (by omega) (by omega)
  · rw [z72]; exact hz _ _ (by omega) (by omega) (by omega) (by omega)
  · rw [tZ_0 (by omega) (by omega)]
    exact ⟨by omega, fun q => by omega, fun _ => rfl⟩
  · unfold rTi
    rw [tZ_m (by omega), tZ_0 (j := 512 + i) (by omega) (by omega), tZ_0 (j := 768 + i) (by omega) (by omega)]
    exact ⟨h35 i i0 i1, by omega, hz _ _ (by omega) (by omega) (by omega) (by omega), by omega, hz _ _ (by omega) (by omega) (by omega) (by omega), by omega, fun _ => ⟨hz _ _ (by omega) (by omega) (by omega) (by omega), rfl, rfl⟩, fun q => by omega⟩
  · rw [u, tZ_0 (by omega) (by omega), tZ_0 (by omega) (by omega)]
    exact ⟨hz _ _ (by omega) (by omega) (by omega) (by omega), hz _ _ (by omega) (by omega) (by omega) (by omega), by omega, hz _ _ (by omega) (by omega) (by omega) (by omega)⟩
  · rw [hz _ _ (by omega) (by omega) (by omega) (by omega)]
    refine ⟨by unfold in64; omega, fun p hp => ?_⟩
    unfold tOb
    rw [tZ_0 (by omega) (by omega), bt_zero, btl_zero]
  · obtain ⟨μ', f, r, run⟩ := k_Qclear (x := 44) (T := tZ) (μ := μ) (by omega) ⟨zq, tZ_0 (by omega) (by omega), tZ_0 (by omega) (by omega), tZ_0 (by omega) (by omega)⟩
    refine ⟨by omega, ?_, ?_, ?_, ?_, fun k k0 k1 => by omega⟩
    · rw [zq]; exact hz _ _ (by omega) (by omega) (by omega) (by omega)
    · rw [tZ_0 (by omega) (by omega)]; exact hz _ _ (by omega) (by omega) (by omega) (by omega)
    · rw [tZ_0 (by omega) (by omega)]; exact hz _ _ (by omega) (by omega) (by omega) (by omega)
    · rw [tZ_0 (by omega) (by omega)]; exact hz _ _ (by omega) (by omega) (by omega) (by omega)
  · rw [z13]; exact hz _ _ (by omega) (by omega) (by omega) (by omega)
  · refine ⟨by omega, ⟨by rw [tZ_0 (by omega) (by omega)]; exact in32_0, by rw [tZ_0 (by omega) (by omega)]; exact in32_0⟩, ?_, ?_, ?_, ?_, ?_, fun k k0 k1 => by omega⟩
    all_goals (rw [tZ_0 (by omega) (by omega)]; exact hz _ _ (by omega) (by omega) (by omega) (by omega))
  · refine ⟨by omega, by omega, ⟨?_, ?_, ?_, ?_, ?_⟩, fun k k0 k1 => by omega, fun k k0 k1 => by omega⟩
    all_goals (rw [tZ_0 (by omega) (by omega)]; exact hz _ _ (by omega) (by omega) (by omega) (by omega))
theorem g_start (hz : ∀ (k : Nat) i, 18 ≤ k → k ≤ 65 → k ≠ 35 → ¬ (k = 18 ∧ i = 15) → μ k i = 0) (h15 : μ 18 15 = 4) (h35 : ∀ i, 0 ≤ i → i < 256 → μ 35 i = -1) (c04 : μ 0 4 = 0) (c1 : μ 1 1 = 0) (c11 : μ 1 11 = 0) (c12 : μ 1 12 = -1) (m : ∀ i, i ≠ 5 → μ 167 i = 0) (m5 : μ 167 5 = -1) (hW : gIW μ) (m9 : ∀ d, μ 179 d = 0) :
    ∃ μ1 ν : gM, (∀ Q : Int → gM → Prop, gE 217 0 [gO 10 167] [] μ Q = Q 0 μ1) ∧ (∀ Q : Int → gM → Prop, gE 219 0 [gO 10 167, gX] [] μ1 Q = Q 0 ν) ∧ gInv 1 ν := by
  obtain ⟨M0, m0⟩ : ∃ M0, M0 = gS (gS (gS (gS (gS (gS (gS (gS μ 167 15 0) 167 16 0) 167 17 0) 167 18 0) 178 2 4) 178 3 0) 167 28 0) 167 29 0 := ⟨_, rfl⟩
  have mo : ∀ (k : Nat) i, (k ≠ 167 ∨ (i ≠ 15 ∧ i ≠ 16 ∧ i ≠ 17 ∧ i ≠ 18 ∧ i ≠ 28 ∧ i ≠ 29)) → (k ≠ 178 ∨ (i ≠ 2 ∧ i ≠ 3)) → M0 k i = μ k i := fun k i q1 q2 => by
    rw [m0, gS_out (by omega), gS_out (by omega), gS_out (by omega), gS_out (by omega), gS_out (by omega), gS_out (by omega), gS_out (by omega), gS_out (by omega)]
  have y15 : M0 167 15 = 0 := by rw [m0]; simp (disch := first | assumption | omega) only [gS_neK, gS_neI, gS_same]
  have y16 : M0 167 16 = 0 := by rw [m0]; simp (disch := first | assumption | omega) only [gS_neK, gS_neI, gS_same]
  have y17 : M0 167 17 = 0 := by rw [m0]; simp (disch := first | assumption | omega) only [gS_neK, gS_neI, gS_same]
  have y18 : M0 167 18 = 0 := by rw [m0]; simp (disch := first | assumption | omega) only [gS_neK, gS_neI, gS_same]
  have t2 : M0 178 2 = 4 := by rw [m0]; simp (disch := first | assumption | omega) only [gS_neK, gS_neI, gS_same]
  have t3 : M0 178 3 = 0 := by rw [m0]; simp (disch := first | assumption | omega) only [gS_neK, gS_neI, gS_same]
  have z11 : xR M0 167 11 = 0 := y15
  have z12 : xR M0 167 12 = 0 := y16
  have z13 : xR M0 167 13 = 0 := y17
  have z14 : xR M0 167 14 = 0 := y18
  have z20 : xR M0 178 0 = 4 := t2
  have z21 : xR M0 178 1 = 0 := t3
  have z9 : ∀ d, xR M0 179 d = 0 := fun d => by
    have e : xR M0 179 d = M0 179 d := rfl
    rw [e, mo _ _ (by omega) (by omega)]
    exact m9 d
  have hI : gIX (xR M0) := ⟨by omega, by omega, by omega, by omega, fun i i0 i1 => by omega, fun i i0 i1 => by omega, fun d d0 d1 => by rw [z9 d, z9 0]; omega, fun i i0 i1 => by omega, fun i i0 i1 => by omega, by omega, by omega⟩
  obtain ⟨ν, A, rk, nr, hA, v1, v2, v3, v4, v5, v6, v7⟩ := s_keepText hI
  refine ⟨M0, ν, fun Q => ?_, rk, ?_⟩
  · rw [m0]
    simp (disch := first | assumption | omega) only [e217_0, e217_1, e217_2, e217_5, e217_6, e217_7, e217_10, e217_11, e217_12, e217_15, e217_16, e217_17, e217_20, e217_21, e217_24, e217_25, e217_26, e217_27, e217_28, e217_31, e217_32, e217_33, e217_34, e217_35, e217_36, e217_39, e217_40, e217_41, e217_44, gK0_eq, gK1_eq, gK3_eq, w32_id, bI_eq0, bI_eq1, Bool.false_eq_true, not_true_eq_false, not_false_eq_true, ne_eq, ite_not, ↓reduceIte, if_true, if_false, Int.reduceToNat, Nat.reduceAdd, Int.reduceEq, Int.reduceLT, Int.reduceLE, Int.reduceNeg, bI_T, bI_F, ↓if_pos, ↓if_neg]
  · have nA : nrX A ν := ⟨fun i i0 i1 => v2 i i0 i1, fun i i0 i1 => ⟨v1 _ _ (by omega) (by omega), v1 _ _ (by omega) (by omega), v1 _ _ (by omega) (by omega)⟩, fun i i0 i1 => ⟨v1 _ _ (by omega) (by omega), v1 _ _ (by omega) (by omega), v1 _ _ (by omega) (by omega)⟩, fun i i0 i1 => v1 _ _ (by omega) (by omega), fun i i0 i1 => v1 _ _ (by omega) (by omega), v1 _ _ (by omega) (by omega), v1 _ _ (by omega) (by omega)⟩
    have g9 : ∀ d, 0 ≤ d → d < 8 → 0 ≤ ν 179 d ∧ ν 179 d ≤ d ∧ ν 179 (ν 179 d) = ν 179 d := fun d d0 d1 => by
      have y := xLay_grp hA (ps := 0) d d0 d1
      rw [v3 d d0 d1, v3 _ (by omega) (by omega)]
      exact y
    have hν : gIX ν := gIX_nr hA nA g9
    have low : ∀ (k : Nat) i, k < 167 → ν k i = μ k i := fun k i k0 => by rw [v7 k i (by omega), mo k i (by omega) (by omega)]
    have e11 : ν 167 11 = 0 := by rw [v2 11 (by omega) (by omega), nr.1 11 (by omega) (by omega), z11]
    have e12 : ν 167 12 = 0 := by rw [v2 12 (by omega) (by omega), nr.1 12 (by omega) (by omega), z12]
    have e13 : ν 167 13 = 0 := by rw [v2 13 (by omega) (by omega), nr.1 13 (by omega) (by omega), z13]
    have e14 : ν 167 14 = 0 := by rw [v2 14 (by omega) (by omega), nr.1 14 (by omega) (by omega), z14]
    have e20 : ν 178 0 = 4 := by rw [v1 178 0 (by omega) (by omega), nr.2.2.2.2.2.1, z20]
    have e21 : ν 178 1 = 0 := by rw [v1 178 1 (by omega) (by omega), nr.2.2.2.2.2.2, z21]
    have st : rSt 17 ν tZ ν := rSt_Z e11 e12 e13 e14 e20 e21 (fun k i k0 k1 k2 k3 => by rw [low k i (by omega)]; exact hz k i k0 k1 k2 k3) (by rw [low 18 15 (by omega)]; exact h15) (fun i i0 i1 => by rw [low 35 i (by omega)]; exact h35 i i0 i1)
    have f1 : ν 167 1 = 0 := by rw [v7 167 1 (by omega), mo _ _ (by omega) (by omega), m 1 (by omega)]
    have f4 : ν 167 4 = 0 := by rw [v7 167 4 (by omega), mo _ _ (by omega) (by omega), m 4 (by omega)]
    have f5 : ν 167 5 = -1 := by rw [v7 167 5 (by omega), mo _ _ (by omega) (by omega), m5]
    refine ⟨⟨hν, fun k hk => by rw [v7 169 k (by omega), mo _ _ (by omega) (by omega)]; exact hW k hk, v5⟩, ⟨by rw [low 1 1 (by omega), f1, c1], by omega, fun i i0 i1 => by omega, by rw [low 1 11 (by omega), f4, c11], by rw [low 1 12 (by omega), f5, c12]⟩, ⟨Or.inl v6, by rw [low 0 4 (by omega), v6, c04], fun z => by omega⟩, tZ, mK_self v4, st, tInv_Z (N := 0) (by omega)⟩
end START
