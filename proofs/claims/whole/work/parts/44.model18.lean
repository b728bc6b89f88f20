/-! the check: churn, keep, back -/
def xDw (z : Int) : Int := (z * 1103515245 + 12345) % 2147483648
def tChu (room : Int) (gr : Int → Int) (dv : Int) : Nat → Int → (Int → Int) → Int → Int
  | 0, _, T => T
  | m + 1, z, T => tChu room gr dv m (xDw (xDw (xDw z))) (if 0 ≤ T (1673 + gr (xDw z / 65536 % dv)) then tLkT T room (T (1673 + gr (xDw z / 65536 % dv))) (xDw (xDw z) / 65536 % 64) (1 + xDw (xDw (xDw z)) / 65536 % 2) else T)
def tChA (room : Int) (gr : Int → Int) (dv seed : Int) (T : Int → Int) (z n : Int) : Int :=
  if -1 ≤ z ∧ 1 ≤ n ∧ n ≤ 40 then (if dv = 0 then -2 else w32 (tChu room gr dv n.toNat (if z < 0 then seed else z) T 1878 - T 1878)) else -1
section MODEL18
variable {μ : gM} {b : Int} {T : Int → Int} {Q : Int → gM → Prop}
theorem bmod64 {z : Int} (h : in64 z) : Int.bmod z (2 ^ 64) = z := by
  unfold in64 at h
  exact Int.bmod_eq_of_le (by omega) (by omega)
theorem i64_id {z : Int} (h : in64 z) : (Int64.ofInt z).toInt = z := by
  rw [Int64.toInt_ofInt]
  exact bmod64 h
theorem lmul64_id {a b : Int} (ha : in64 a) (hb : in64 b) (h : in64 (a * b)) : lmul64 a b = a * b := by
  unfold lmul64
  rw [Int64.toInt_mul, i64_id ha, i64_id hb, bmod64 h]
theorem ladd64_id {a b : Int} (ha : in64 a) (hb : in64 b) (h : in64 (a + b)) : ladd64 a b = a + b := by
  unfold ladd64
  rw [Int64.toInt_add, i64_id ha, i64_id hb, bmod64 h]
theorem ldiv64_id {a b : Int} (h0 : 0 ≤ a) (h1 : a < 2147483648) (h2 : 0 < b) (h3 : b < 2147483648) : ldiv64 a b = a / b := by
  unfold ldiv64
  have q : 0 ≤ a / b ∧ a / b ≤ a := ⟨Int.ediv_nonneg h0 (by omega), Int.ediv_le_self b h0⟩
  rw [Int64.toInt_div, i64_id (by unfold in64; omega), i64_id (by unfold in64; omega), Int.tdiv_eq_ediv_of_nonneg h0, bmod64 (by unfold in64; omega)]
theorem lrem64_id {a b : Int} (h0 : 0 ≤ a) (h1 : a < 2147483648) (h2 : 0 < b) (h3 : b < 2147483648) : lrem64 a b = a % b := by
  unfold lrem64
  have q : 0 ≤ a / b ∧ a / b ≤ a := ⟨Int.ediv_nonneg h0 (by omega), Int.ediv_le_self b h0⟩
  have q2 := Int.emod_nonneg a (show b ≠ 0 by omega)
  have q3 := Int.emod_lt_of_pos a h2
  have q4 := Int.emod_def a b
  have q5 : a / b * b = a - a % b := by rw [q4, Int.mul_comm]; omega
  have d := ldiv64_id h0 h1 h2 h3
  unfold ldiv64 at d
  rw [Int64.toInt_sub, Int64.toInt_mul, d, i64_id (z := a) (by unfold in64; omega), i64_id (z := b) (by unfold in64; omega), q5, bmod64 (z := a - a % b) (by unfold in64; omega)]
  have e : a - (a - a % b) = a % b := by omega
  rw [e, bmod64 (by unfold in64; omega)]
theorem l2i32_id {a : Int} (h0 : 0 ≤ a) (h1 : a < 2147483648) : l2i32 a = a := by
  unfold l2i32
  rw [Int64.toInt_toInt32, i64_id (by unfold in64; omega)]
  exact Int.bmod_eq_of_le (by omega) (by omega)
theorem bv64_nat {a : Int} (h0 : 0 ≤ a) (h1 : a < 9223372036854775808) : (BitVec.ofInt 64 a).toNat = a.toNat := by
  rw [BitVec.toNat_ofInt]
  omega
theorem land_mask {a : Int} (h0 : 0 ≤ a) (h1 : a < 9223372036854775808) : land64 a 2147483647 = a % 2147483648 := by
  rw [land64_bv]
  have e : (BitVec.ofInt 64 a &&& BitVec.ofInt 64 2147483647).toNat = a.toNat % 2 ^ 31 := by
    rw [BitVec.toNat_and, bv64_nat h0 h1, bv64_nat (by omega) (by omega)]
    exact Nat.and_two_pow_sub_one_eq_mod a.toNat 31
  have h2 : (BitVec.ofInt 64 a &&& BitVec.ofInt 64 2147483647).toInt = ((BitVec.ofInt 64 a &&& BitVec.ofInt 64 2147483647).toNat : Int) := BitVec.toInt_eq_toNat_of_lt (by rw [e]; omega)
  rw [h2, e]
  omega
theorem xDw_in {z : Int} : 0 ≤ xDw z ∧ xDw z < 2147483648 := by unfold xDw; omega
theorem drw64 {z : Int} (h : 0 ≤ z ∧ z < 2147483648) : land64 (ladd64 (lmul64 z 1103515245) 12345) 2147483647 = xDw z := by
  rw [lmul64_id (by unfold in64; omega) (by unfold in64; omega) (by unfold in64; omega), ladd64_id (by unfold in64; omega) (by unfold in64; omega) (by unfold in64; omega), land_mask (by omega) (by omega)]
  rfl
theorem s_drawnBy {z most : Int} {μ : gM} (hz : μ 167 38 = z) (h : 0 ≤ z ∧ z < 2147483648) (hm : 1 ≤ most ∧ most ≤ 64) : gE 333 0 [gO 10 167, gI most] [] μ Q = Q (xDw z / 65536 % most) (gS μ 167 38 (xDw z)) := by
  have x := xDw_in (z := z)
  have h1 : 0 ≤ z := h.1
  have d1 : ldiv64 (xDw z) 65536 = xDw z / 65536 := ldiv64_id (by omega) (by omega) (by omega) (by omega)
  have d2 : lrem64 (xDw z / 65536) most = xDw z / 65536 % most := lrem64_id (by omega) (by omega) (by omega) (by omega)
  have m1 := Int.emod_nonneg (xDw z / 65536) (show most ≠ 0 by omega)
  have m2 := Int.emod_lt_of_pos (xDw z / 65536) (show 0 < most by omega)
  have d3 : l2i32 (xDw z / 65536 % most) = xDw z / 65536 % most := l2i32_id m1 (by omega)
  have n0 : most ≠ 0 := by omega
  simp (disch := first | assumption | omega) only [e333_0, e333_1, e333_2, e333_5, e333_8, e333_9, e333_12, e333_13, e333_16, e333_17, e333_20, e333_21, e333_24, e333_27, e333_28, e333_29, e333_30, e333_31, e333_32, gK0_eq, gK1_eq, gK3_eq, w32_id, bI_eq0, bI_eq1, Bool.false_eq_true, not_true_eq_false, not_false_eq_true, ne_eq, ite_not, ↓reduceIte, if_true, if_false, Int.reduceToNat, Nat.reduceAdd, Int.reduceEq, Int.reduceLT, Int.reduceLE, Int.reduceNeg, bI_T, bI_F, hz, drw64, h, gS_same, d1, d2, d3, n0]
theorem gAl_drw {μ1 : gM} {v : Int} (h : gAl μ μ1) : gAl μ (gS μ1 167 38 v) := fun k i hk => by rw [show gS μ1 167 38 v k i = μ1 k i from if_neg (by omega)]; exact h k i hk
theorem s_churn_loop {sd n hd : Int} (hI : gIX μ) (hb : gBk μ b) (hdv : 1 ≤ μ 167 12) : ∀ (m : Nat) (k z : Int) (T : Int → Int) (μ1 : gM) (l5 l6 l7 : gv), gAl μ μ1 → μ1 167 38 = z → (0 ≤ z ∧ z < 2147483648) → 0 ≤ k → k + m = n → n ≤ 40 → (0 ≤ T 1813 ∧ T 1813 ≤ μ 178 0) → (∀ g, 0 ≤ g → g < 8 → T (1673 + g) < 4) →
    ∃ (μ2 : gM) (l5' l6' l7' : gv), gAl μ μ2 ∧ ∀ Q : Int → gM → Prop, gE 334 67 [gO 10 167, gI sd, gI n, gI hd, gI k, l5, l6, l7] [] (mK μ1 b T) Q = gE 334 130 [gO 10 167, gI sd, gI n, gI hd, gI n, l5', l6', l7'] [] (mK μ2 b (tChu (μ 178 0) (fun e => μ 179 e) (μ 167 12) m z T)) Q := by
  have hd8 := hI.2.1
  have hroom := hI.2.2.2.2.2.2.2.2.2.1
  intro m
  induction m with
  | zero =>
    intro k z T μ1 l5 l6 l7 ha hz hz2 h0 h1 hn hC hH
    have h : k = n := by omega
    refine ⟨μ1, l5, l6, l7, ha, fun Q => ?_⟩
    rw [tChu, e334_67]
    simp (disch := first | assumption | omega) only [e334_0, e334_1, e334_2, e334_5, e334_6, e334_7, e334_10, e334_11, e334_12, e334_14, e334_17, e334_20, e334_21, e334_22, e334_23, e334_26, e334_29, e334_31, e334_32, e334_33, e334_34, e334_37, e334_38, e334_41, e334_42, e334_43, e334_44, e334_47, e334_48, e334_49, e334_52, e334_53, e334_56, e334_57, e334_60, e334_63, e334_64, e334_65, e334_69, e334_70, e334_73, e334_74, e334_75, e334_78, e334_81, e334_83, e334_84, e334_86, e334_89, e334_91, e334_92, e334_93, e334_94, e334_97, e334_98, e334_100, e334_101, e334_103, e334_106, e334_109, e334_110, e334_111, e334_113, e334_116, e334_118, e334_120, e334_123, e334_124, e334_127, e334_131, e334_134, e334_137, e334_138, e334_139, e334_141, e334_142, e334_143, e334_146, e334_148, gK0_eq, gK1_eq, gK3_eq, w32_id, bI_eq0, bI_eq1, Bool.false_eq_true, not_true_eq_false, not_false_eq_true, ne_eq, ite_not, ↓reduceIte, if_true, if_false, Int.reduceToNat, Nat.reduceAdd, Int.reduceEq, Int.reduceLT, Int.reduceLE, Int.reduceNeg, bI_T, bI_F, ↓if_pos, ↓if_neg, h]
  | succ m ih =>
    intro k z T μ1 l5 l6 l7 ha hz hz2 h0 h1 hn hC hH
    have h : ¬ n ≤ k := by omega
    have x1 := xDw_in (z := z)
    have x2 := xDw_in (z := xDw z)
    have x3 := xDw_in (z := xDw (xDw z))
    have hb1 := gBk_al ha hb
    have hI1 := gIX_al ha hI
    have r0 : μ1 178 0 = μ 178 0 := ha _ _ (by omega)
    have r1 : ∀ e, μ1 179 e = μ 179 e := fun e => ha _ _ (by omega)
    have r2 : μ1 167 12 = μ 167 12 := ha _ _ (by omega)
    have d1 : ∀ Q' : Int → gM → Prop, gE 333 0 [gO 10 167, gI (μ 167 12)] [] (mK μ1 b T) Q' = Q' (xDw z / 65536 % μ 167 12) (mK (gS μ1 167 38 (xDw z)) b T) := fun Q' => by
      rw [s_drawnBy (z := z) (by rw [mK_ne (by omega)]; exact hz) hz2 (by omega), gS_mK (by omega)]
    have d2 : ∀ Q' : Int → gM → Prop, gE 333 0 [gO 10 167, gI 64] [] (mK (gS μ1 167 38 (xDw z)) b T) Q' = Q' (xDw (xDw z) / 65536 % 64) (mK (gS (gS μ1 167 38 (xDw z)) 167 38 (xDw (xDw z))) b T) := fun Q' => by
      rw [s_drawnBy (z := xDw z) (by rw [mK_ne (by omega)]; exact gS_same) x1 (by omega), gS_mK (by omega)]
    have d3 : ∀ Q' : Int → gM → Prop, gE 333 0 [gO 10 167, gI 2] [] (mK (gS (gS μ1 167 38 (xDw z)) 167 38 (xDw (xDw z))) b T) Q' = Q' (xDw (xDw (xDw z)) / 65536 % 2) (mK (gS (gS (gS μ1 167 38 (xDw z)) 167 38 (xDw (xDw z))) 167 38 (xDw (xDw (xDw z)))) b T) := fun Q' => by
      rw [s_drawnBy (z := xDw (xDw z)) (by rw [mK_ne (by omega)]; exact gS_same) x2 (by omega), gS_mK (by omega)]
    generalize hμ3 : gS (gS (gS μ1 167 38 (xDw z)) 167 38 (xDw (xDw z))) 167 38 (xDw (xDw (xDw z))) = μ3 at d3
    have ha3 : gAl μ μ3 := by rw [← hμ3]; exact gAl_drw (gAl_drw (gAl_drw ha))
    have hz3 : μ3 167 38 = xDw (xDw (xDw z)) := by rw [← hμ3]; exact gS_same
    have hb3 := gBk_al ha3 hb
    have hI3 := gIX_al ha3 hI
    have s0 : μ3 178 0 = μ 178 0 := ha3 _ _ (by omega)
    have s1 : ∀ e, μ3 179 e = μ 179 e := fun e => ha3 _ _ (by omega)
    have m1 := Int.emod_nonneg (xDw z / 65536) (show μ 167 12 ≠ 0 by omega)
    have m2 := Int.emod_lt_of_pos (xDw z / 65536) (show 0 < μ 167 12 by omega)
    generalize he : xDw z / 65536 % μ 167 12 = e at d1 m1 m2
    have hp : 0 ≤ xDw (xDw z) / 65536 % 64 ∧ xDw (xDw z) / 65536 % 64 < 64 := by omega
    have hr : 0 ≤ xDw (xDw (xDw z)) / 65536 % 2 ∧ xDw (xDw (xDw z)) / 65536 % 2 ≤ 1 := by omega
    have he8 : 0 ≤ e ∧ e < 8 := by omega
    have hgr := hI.2.2.2.2.2.2.1 e m1 (by omega)
    have hh := hH (μ 179 e) (by omega) (by omega)
    rw [tChu]
    simp only [he]
    by_cases c : 0 ≤ T (1673 + μ 179 e)
    · rw [if_pos c]
      obtain ⟨w, a, hl, -⟩ := s_looks (T := T) (r := 1 + xDw (xDw (xDw z)) / 65536 % 2) hb3 ⟨c, hh⟩ hp (by rw [s0]; exact hC) (by rw [s0]; exact hroom)
      rw [s0] at hl
      obtain ⟨μ2, l5', l6', l7', a2, hl2⟩ := ih (k + 1) (xDw (xDw (xDw z))) (tLkT T (μ 178 0) (T (1673 + μ 179 e)) (xDw (xDw z) / 65536 % 64) (1 + xDw (xDw (xDw z)) / 65536 % 2)) (mW μ3 w a) (gI e) (gI (xDw (xDw z) / 65536 % 64)) (gI (1 + xDw (xDw (xDw z)) / 65536 % 2)) (gAl_trans ha3 gAl_mW) (by rw [mW_ne (by omega)]; exact hz3) x3 (by omega) (by omega) hn (tLkT_1813 hC hroom) (fun g g0 g1 => by rw [tLkT_lo (by omega) hC hroom]; exact hH g g0 g1)
      refine ⟨μ2, l5', l6', l7', a2, fun Q => ?_⟩
      rw [← hl2 Q, e334_67]
      simp (disch := first | assumption | omega) only [e334_0, e334_1, e334_2, e334_5, e334_6, e334_7, e334_10, e334_11, e334_12, e334_14, e334_17, e334_20, e334_21, e334_22, e334_23, e334_26, e334_29, e334_31, e334_32, e334_33, e334_34, e334_37, e334_38, e334_41, e334_42, e334_43, e334_44, e334_47, e334_48, e334_49, e334_52, e334_53, e334_56, e334_57, e334_60, e334_63, e334_64, e334_65, e334_69, e334_70, e334_73, e334_74, e334_75, e334_78, e334_81, e334_83, e334_84, e334_86, e334_89, e334_91, e334_92, e334_93, e334_94, e334_97, e334_98, e334_100, e334_101, e334_103, e334_106, e334_109, e334_110, e334_111, e334_113, e334_116, e334_118, e334_120, e334_123, e334_124, e334_127, e334_131, e334_134, e334_137, e334_138, e334_139, e334_141, e334_142, e334_143, e334_146, e334_148, gK0_eq, gK1_eq, gK3_eq, w32_id, bI_eq0, bI_eq1, Bool.false_eq_true, not_true_eq_false, not_false_eq_true, ne_eq, ite_not, ↓reduceIte, if_true, if_false, Int.reduceToNat, Nat.reduceAdd, Int.reduceEq, Int.reduceLT, Int.reduceLE, Int.reduceNeg, bI_T, bI_F, ↓if_pos, ↓if_neg, h, mK_ne, r2, d1, d2, d3, s_domainOfDevice, hI3, he8, s1, hl]
    · rw [if_neg c]
      obtain ⟨μ2, l5', l6', l7', a2, hl2⟩ := ih (k + 1) (xDw (xDw (xDw z))) T μ3 (gI e) (gI (xDw (xDw z) / 65536 % 64)) (gI (1 + xDw (xDw (xDw z)) / 65536 % 2)) ha3 hz3 x3 (by omega) (by omega) hn hC hH
      refine ⟨μ2, l5', l6', l7', a2, fun Q => ?_⟩
      rw [← hl2 Q, e334_67]
      simp (disch := first | assumption | omega) only [e334_0, e334_1, e334_2, e334_5, e334_6, e334_7, e334_10, e334_11, e334_12, e334_14, e334_17, e334_20, e334_21, e334_22, e334_23, e334_26, e334_29, e334_31, e334_32, e334_33, e334_34, e334_37, e334_38, e334_41, e334_42, e334_43, e334_44, e334_47, e334_48, e334_49, e334_52, e334_53, e334_56, e334_57, e334_60, e334_63, e334_64, e334_65, e334_69, e334_70, e334_73, e334_74, e334_75, e334_78, e334_81, e334_83, e334_84, e334_86, e334_89, e334_91, e334_92, e334_93, e334_94, e334_97, e334_98, e334_100, e334_101, e334_103, e334_106, e334_109, e334_110, e334_111, e334_113, e334_116, e334_118, e334_120, e334_123, e334_124, e334_127, e334_131, e334_134, e334_137, e334_138, e334_139, e334_141, e334_142, e334_143, e334_146, e334_148, gK0_eq, gK1_eq, gK3_eq, w32_id, bI_eq0, bI_eq1, Bool.false_eq_true, not_true_eq_false, not_false_eq_true, ne_eq, ite_not, ↓reduceIte, if_true, if_false, Int.reduceToNat, Nat.reduceAdd, Int.reduceEq, Int.reduceLT, Int.reduceLE, Int.reduceNeg, bI_T, bI_F, ↓if_pos, ↓if_neg, h, mK_ne, r2, d1, d2, d3, s_domainOfDevice, hI3, he8, s1]
theorem s_churn_no {z n : Int} (hI : gIX μ) (h : ¬ (-1 ≤ z ∧ 1 ≤ n ∧ n ≤ 40) ∨ μ 167 12 = 0) : gE 334 0 [gO 10 167, gI z, gI n, gX, gX, gX, gX, gX] [] (mK μ b T) Q = Q (tChA (μ 178 0) (fun e => μ 179 e) (μ 167 12) (μ 178 1) T z n) (mK (gS μ 167 2 0) b T) := by
  have e1 : gS μ 167 2 0 167 12 = μ 167 12 := gS_neI (by omega)
  unfold tChA
  by_cases c : -1 ≤ z
  · by_cases c2 : 1 ≤ n ∧ n ≤ 40
    · have c3 : μ 167 12 = 0 := by omega
      rw [if_pos ⟨c, c2⟩, if_pos c3]
      simp (disch := first | assumption | omega) only [e334_0, e334_1, e334_2, e334_5, e334_6, e334_7, e334_10, e334_11, e334_12, e334_14, e334_17, e334_20, e334_21, e334_22, e334_23, e334_26, e334_29, e334_31, e334_32, e334_33, e334_34, e334_37, e334_38, e334_41, e334_42, e334_43, e334_44, e334_47, e334_48, e334_49, e334_52, e334_53, e334_56, e334_57, e334_60, e334_63, e334_64, e334_65, e334_69, e334_70, e334_73, e334_74, e334_75, e334_78, e334_81, e334_83, e334_84, e334_86, e334_89, e334_91, e334_92, e334_93, e334_94, e334_97, e334_98, e334_100, e334_101, e334_103, e334_106, e334_109, e334_110, e334_111, e334_113, e334_116, e334_118, e334_120, e334_123, e334_124, e334_127, e334_130, e334_131, e334_134, e334_137, e334_138, e334_139, e334_141, e334_142, e334_143, e334_146, e334_148, gK0_eq, gK1_eq, gK3_eq, w32_id, bI_eq0, bI_eq1, Bool.false_eq_true, not_true_eq_false, not_false_eq_true, ne_eq, ite_not, ↓reduceIte, if_true, if_false, Int.reduceToNat, Nat.reduceAdd, Int.reduceEq, Int.reduceLT, Int.reduceLE, Int.reduceNeg, bI_T, bI_F, ↓if_pos, ↓if_neg, gS_mK, s_isIn, c2, mK_ne, e1, c3, and_self]
    · rw [if_neg (fun q => c2 q.2)]
      simp (disch := first | assumption | omega) only [e334_0, e334_1, e334_2, e334_5, e334_6, e334_7, e334_10, e334_11, e334_12, e334_14, e334_17, e334_20, e334_21, e334_22, e334_23, e334_26, e334_29, e334_31, e334_32, e334_33, e334_34, e334_37, e334_38, e334_41, e334_42, e334_43, e334_44, e334_47, e334_48, e334_49, e334_52, e334_53, e334_56, e334_57, e334_60, e334_63, e334_64, e334_65, e334_69, e334_70, e334_73, e334_74, e334_75, e334_78, e334_81, e334_83, e334_84, e334_86, e334_89, e334_91, e334_92, e334_93, e334_94, e334_97, e334_98, e334_100, e334_101, e334_103, e334_106, e334_109, e334_110, e334_111, e334_113, e334_116, e334_118, e334_120, e334_123, e334_124, e334_127, e334_130, e334_131, e334_134, e334_137, e334_138, e334_139, e334_141, e334_142, e334_143, e334_146, e334_148, gK0_eq, gK1_eq, gK3_eq, w32_id, bI_eq0, bI_eq1, Bool.false_eq_true, not_true_eq_false, not_false_eq_true, ne_eq, ite_not, ↓reduceIte, if_true, if_false, Int.reduceToNat, Nat.reduceAdd, Int.reduceEq, Int.reduceLT, Int.reduceLE, Int.reduceNeg, bI_T, bI_F, ↓if_pos, ↓if_neg, gS_mK, s_isIn, c2]
  · rw [if_neg (fun q => c q.1)]
    simp (disch := first | assumption | omega) only [e334_0, e334_1, e334_2, e334_5, e334_6, e334_7, e334_10, e334_11, e334_12, e334_14, e334_17, e334_20, e334_21, e334_22, e334_23, e334_26, e334_29, e334_31, e334_32, e334_33, e334_34, e334_37, e334_38, e334_41, e334_42, e334_43, e334_44, e334_47, e334_48, e334_49, e334_52, e334_53, e334_56, e334_57, e334_60, e334_63, e334_64, e334_65, e334_69, e334_70, e334_73, e334_74, e334_75, e334_78, e334_81, e334_83, e334_84, e334_86, e334_89, e334_91, e334_92, e334_93, e334_94, e334_97, e334_98, e334_100, e334_101, e334_103, e334_106, e334_109, e334_110, e334_111, e334_113, e334_116, e334_118, e334_120, e334_123, e334_124, e334_127, e334_130, e334_131, e334_134, e334_137, e334_138, e334_139, e334_141, e334_142, e334_143, e334_146, e334_148, gK0_eq, gK1_eq, gK3_eq, w32_id, bI_eq0, bI_eq1, Bool.false_eq_true, not_true_eq_false, not_false_eq_true, ne_eq, ite_not, ↓reduceIte, if_true, if_false, Int.reduceToNat, Nat.reduceAdd, Int.reduceEq, Int.reduceLT, Int.reduceLE, Int.reduceNeg, bI_T, bI_F, ↓if_pos, ↓if_neg, gS_mK]
theorem s_churn {z n : Int} (hI : gIX μ) (hz : -1 ≤ z ∧ z < 2147483648) (hn : 1 ≤ n ∧ n ≤ 40) (hdv : μ 167 12 ≠ 0) (hC : 0 ≤ T 1813 ∧ T 1813 ≤ μ 178 0) (hH : ∀ g, 0 ≤ g → g < 8 → T (1673 + g) < 4) :
    ∃ (μ2 : gM) (T2 : Int → Int), gAl (gS (mTr μ T) 167 34 0) μ2 ∧ ∀ Q : Int → gM → Prop, gE 334 0 [gO 10 167, gI z, gI n, gX, gX, gX, gX, gX] [] (mK μ 0 T) Q = Q (tChA (μ 178 0) (fun e => μ 179 e) (μ 167 12) (μ 178 1) T z n) (mK μ2 1 T2) := by
  have hd8 := hI.2.1
  have hseed := hI.2.2.2.2.2.2.2.2.2.2
  have e1 : gS μ 167 2 0 167 12 = μ 167 12 := gS_neI (by omega)
  have e2 : gS μ 167 2 0 178 1 = μ 178 1 := gS_neK (by omega)
  have hn1 : -1 ≤ z := hz.1
  generalize hz0 : (if z < 0 then μ 178 1 else z) = z0
  have hz1 : 0 ≤ z0 ∧ z0 < 2147483648 := by split at hz0 <;> omega
  have hμ : ∀ Q' : Int → gM → Prop, gE 252 0 [gO 10 167] [] (mK (gS (gS μ 167 38 z0) 167 2 0) 0 T) Q' = Q' 0 (mK (mTr (gS μ 167 38 z0) T) 1 T) := fun Q' => s_asNow
  have hcom : gS (gS μ 167 2 0) 167 38 z0 = gS (gS μ 167 38 z0) 167 2 0 := by
    funext k i
    unfold gS
    by_cases a : k = 167 ∧ i = 38
    · rw [if_pos a, if_neg (by omega), if_pos a]
    · rw [if_neg a]
      by_cases a2 : k = 167 ∧ i = 2
      · rw [if_pos a2, if_pos a2]
      · rw [if_neg a2, if_neg a2, if_neg a]
  have t38 : mTr (gS μ 167 38 z0) T 167 38 = z0 := by
    unfold mTr
    rw [gS_neI (by omega), mK_ne (by omega), gS_neI (by omega), gS_same]
  have tal : ∀ k i, (k ≠ 167 ∨ (i ≠ 36 ∧ i ≠ 37 ∧ i ≠ 38)) → mTr (gS μ 167 38 z0) T k i = mTr μ T k i := by
    intro k i hk
    unfold mTr
    by_cases a : k = 167 ∧ i = 34
    · obtain ⟨rfl, rfl⟩ := a; rw [gS_same, gS_same]
    · rw [show gS (mK (gS (gS μ 167 38 z0) 167 2 0) 0 T) 167 34 1 k i = mK (gS (gS μ 167 38 z0) 167 2 0) 0 T k i from if_neg a, show gS (mK (gS μ 167 2 0) 0 T) 167 34 1 k i = mK (gS μ 167 2 0) 0 T k i from if_neg a]
      unfold mK
      by_cases a1 : k = 181 ∧ 1960 * 0 ≤ i ∧ i < 1960 * 0 + 1960
      · rw [if_pos a1, if_pos a1]
      · rw [if_neg a1, if_neg a1]
        unfold gS
        by_cases a2 : k = 167 ∧ i = 2
        · rw [if_pos a2, if_pos a2]
        · rw [if_neg a2, if_neg a2, if_neg (by omega)]
  have hb : gBk (mTr μ T) 1 := gBk_tr
  have hI2 : gIX (mTr μ T) := gIX_tr hI
  have r0 : mTr μ T 178 0 = μ 178 0 := mTr_at (by omega) (by omega)
  have r1 : ∀ e, mTr μ T 179 e = μ 179 e := fun e => mTr_at (by omega) (by omega)
  have r2 : mTr μ T 167 12 = μ 167 12 := mTr_at (by omega) (by omega)
  obtain ⟨μ2, l5', l6', l7', a2, hl2⟩ := s_churn_loop (sd := z) (n := n) (hd := T 1878) hI2 hb (by rw [r2]; omega) n.toNat 0 z0 T (mTr (gS μ 167 38 z0) T) gX gX gX tal t38 hz1 (by omega) (by omega) hn.2 (by rw [r0]; exact hC) hH
  simp only [r0, r1, r2] at hl2
  have hb2 : gBk (mTr (gS μ 167 38 z0) T) 1 := gBk_tr
  have hb3 := gBk_al a2 hb
  refine ⟨gS μ2 167 34 0, tChu (μ 178 0) (fun e => μ 179 e) (μ 167 12) n.toNat z0 T, fun k i hk => ?_, fun Q => ?_⟩
  · by_cases c : k = 167 ∧ i = 34
    · obtain ⟨rfl, rfl⟩ := c
      rw [gS_same, gS_same]
    · rw [show gS μ2 167 34 0 k i = μ2 k i from if_neg c, show gS (mTr μ T) 167 34 0 k i = mTr μ T k i from if_neg c]
      exact a2 k i hk
  · unfold tChA
    rw [if_pos ⟨hz.1, hn⟩, if_neg hdv, hz0]
    by_cases c : z < 0
    · rw [if_pos c] at hz0
      simp (disch := first | assumption | omega) only [e334_0, e334_1, e334_2, e334_5, e334_6, e334_7, e334_10, e334_11, e334_12, e334_14, e334_17, e334_20, e334_21, e334_22, e334_23, e334_26, e334_29, e334_31, e334_32, e334_33, e334_34, e334_37, e334_38, e334_41, e334_42, e334_43, e334_44, e334_47, e334_48, e334_49, e334_52, e334_53, e334_56, e334_57, e334_60, e334_63, e334_64, e334_65, e334_69, e334_70, e334_73, e334_74, e334_75, e334_78, e334_81, e334_83, e334_84, e334_86, e334_89, e334_91, e334_92, e334_93, e334_94, e334_97, e334_98, e334_100, e334_101, e334_103, e334_106, e334_109, e334_110, e334_111, e334_113, e334_116, e334_118, e334_120, e334_123, e334_124, e334_127, e334_130, e334_131, e334_134, e334_137, e334_138, e334_139, e334_141, e334_142, e334_143, e334_146, e334_148, gK0_eq, gK1_eq, gK3_eq, w32_id, bI_eq0, bI_eq1, Bool.false_eq_true, not_true_eq_false, not_false_eq_true, ne_eq, ite_not, ↓reduceIte, if_true, if_false, Int.reduceToNat, Nat.reduceAdd, Int.reduceEq, Int.reduceLT, Int.reduceLE, Int.reduceNeg, bI_T, bI_F, ↓if_pos, ↓if_neg, gS_mK, s_isIn, hn, mK_ne, e1, e2, hdv, and_self, hz0, hcom, hμ, s_of]
      rw [hl2, e334_130]
      simp (disch := first | assumption | omega) only [e334_0, e334_1, e334_2, e334_5, e334_6, e334_7, e334_10, e334_11, e334_12, e334_14, e334_17, e334_20, e334_21, e334_22, e334_23, e334_26, e334_29, e334_31, e334_32, e334_33, e334_34, e334_37, e334_38, e334_41, e334_42, e334_43, e334_44, e334_47, e334_48, e334_49, e334_52, e334_53, e334_56, e334_57, e334_60, e334_63, e334_64, e334_65, e334_69, e334_70, e334_73, e334_74, e334_75, e334_78, e334_81, e334_83, e334_84, e334_86, e334_89, e334_91, e334_92, e334_93, e334_94, e334_97, e334_98, e334_100, e334_101, e334_103, e334_106, e334_109, e334_110, e334_111, e334_113, e334_116, e334_118, e334_120, e334_123, e334_124, e334_127, e334_131, e334_134, e334_137, e334_138, e334_139, e334_141, e334_142, e334_143, e334_146, e334_148, gK0_eq, gK1_eq, gK3_eq, w32_id, bI_eq0, bI_eq1, Bool.false_eq_true, not_true_eq_false, not_false_eq_true, ne_eq, ite_not, ↓reduceIte, if_true, if_false, Int.reduceToNat, Nat.reduceAdd, Int.reduceEq, Int.reduceLT, Int.reduceLE, Int.reduceNeg, bI_T, bI_F, ↓if_pos, ↓if_neg, gS_mK, s_of]
    · rw [if_neg c] at hz0
      subst hz0
      simp (disch := first | assumption | omega) only [e334_0, e334_1, e334_2, e334_5, e334_6, e334_7, e334_10, e334_11, e334_12, e334_14, e334_17, e334_20, e334_21, e334_22, e334_23, e334_26, e334_29, e334_31, e334_32, e334_33, e334_34, e334_37, e334_38, e334_41, e334_42, e334_43, e334_44, e334_47, e334_48, e334_49, e334_52, e334_53, e334_56, e334_57, e334_60, e334_63, e334_64, e334_65, e334_69, e334_70, e334_73, e334_74, e334_75, e334_78, e334_81, e334_83, e334_84, e334_86, e334_89, e334_91, e334_92, e334_93, e334_94, e334_97, e334_98, e334_100, e334_101, e334_103, e334_106, e334_109, e334_110, e334_111, e334_113, e334_116, e334_118, e334_120, e334_123, e334_124, e334_127, e334_130, e334_131, e334_134, e334_137, e334_138, e334_139, e334_141, e334_142, e334_143, e334_146, e334_148, gK0_eq, gK1_eq, gK3_eq, w32_id, bI_eq0, bI_eq1, Bool.false_eq_true, not_true_eq_false, not_false_eq_true, ne_eq, ite_not, ↓reduceIte, if_true, if_false, Int.reduceToNat, Nat.reduceAdd, Int.reduceEq, Int.reduceLT, Int.reduceLE, Int.reduceNeg, bI_T, bI_F, ↓if_pos, ↓if_neg, gS_mK, s_isIn, hn, mK_ne, e1, e2, hdv, and_self, hcom, hμ, s_of]
      rw [hl2, e334_130]
      simp (disch := first | assumption | omega) only [e334_0, e334_1, e334_2, e334_5, e334_6, e334_7, e334_10, e334_11, e334_12, e334_14, e334_17, e334_20, e334_21, e334_22, e334_23, e334_26, e334_29, e334_31, e334_32, e334_33, e334_34, e334_37, e334_38, e334_41, e334_42, e334_43, e334_44, e334_47, e334_48, e334_49, e334_52, e334_53, e334_56, e334_57, e334_60, e334_63, e334_64, e334_65, e334_69, e334_70, e334_73, e334_74, e334_75, e334_78, e334_81, e334_83, e334_84, e334_86, e334_89, e334_91, e334_92, e334_93, e334_94, e334_97, e334_98, e334_100, e334_101, e334_103, e334_106, e334_109, e334_110, e334_111, e334_113, e334_116, e334_118, e334_120, e334_123, e334_124, e334_127, e334_131, e334_134, e334_137, e334_138, e334_139, e334_141, e334_142, e334_143, e334_146, e334_148, gK0_eq, gK1_eq, gK3_eq, w32_id, bI_eq0, bI_eq1, Bool.false_eq_true, not_true_eq_false, not_false_eq_true, ne_eq, ite_not, ↓reduceIte, if_true, if_false, Int.reduceToNat, Nat.reduceAdd, Int.reduceEq, Int.reduceLT, Int.reduceLE, Int.reduceNeg, bI_T, bI_F, ↓if_pos, ↓if_neg, gS_mK, s_of]
theorem s_keep (hb : gBk μ 0) : gE 253 0 [gO 10 167] [] (mK μ 0 T) Q = Q (T 1672) (gS (mK (mK (gS μ 167 2 0) 0 T) 2 T) 167 35 1) := by
  have hb' : gBk (gS (gS μ 167 2 0) 167 35 1) 0 := gBk_gS (gBk_gS hb (by decide)) (by decide)
  have hb2 : gBk (gS (gS μ 167 35 1) 167 2 0) 0 := gBk_gS (gBk_gS hb (by decide)) (by decide)
  have e : gS (mK (mK (gS μ 167 2 0) 0 T) 2 T) 167 35 1 = mK (mK (gS (gS μ 167 2 0) 167 35 1) 2 T) 0 T := by
    rw [gS_mK (by omega), gS_mK (by omega)]
    funext k i
    unfold mK
    by_cases a : k = 181 ∧ 1960 * 2 ≤ i ∧ i < 1960 * 2 + 1960
    · rw [if_pos a, if_neg (by omega), if_pos a]
    · rw [if_neg a, if_neg a]
  have hb3 : gBk (mK (gS (gS μ 167 2 0) 167 35 1) 2 T) 0 := ⟨by rw [mK_ne (by omega)]; exact hb'.1, by omega⟩
  rw [e]
  simp (disch := first | assumption | omega) only [e253_0, e253_1, e253_2, e253_5, e253_6, e253_7, e253_8, e253_11, e253_12, e253_13, e253_16, e253_17, e253_20, e253_23, gK0_eq, gK1_eq, gK3_eq, w32_id, bI_eq0, bI_eq1, Bool.false_eq_true, not_true_eq_false, not_false_eq_true, ne_eq, ite_not, ↓reduceIte, if_true, if_false, Int.reduceToNat, Nat.reduceAdd, Int.reduceEq, Int.reduceLT, Int.reduceLE, Int.reduceNeg, bI_T, bI_F, gS_mK, s_copyBank, mK_from]
  rw [← gS_mK (by omega), ← gS_mK (by omega), e]
  simp (disch := first | assumption | omega) only [e253_0, e253_1, e253_2, e253_5, e253_6, e253_7, e253_8, e253_11, e253_12, e253_13, e253_16, e253_17, e253_20, e253_23, gK0_eq, gK1_eq, gK3_eq, w32_id, bI_eq0, bI_eq1, Bool.false_eq_true, not_true_eq_false, not_false_eq_true, ne_eq, ite_not, ↓reduceIte, if_true, if_false, Int.reduceToNat, Nat.reduceAdd, Int.reduceEq, Int.reduceLT, Int.reduceLE, Int.reduceNeg, bI_T, bI_F, s_of]
theorem s_back_no (h : μ 167 35 = 0) : gE 254 0 [gO 10 167] [] (mK μ b T) Q = Q (-1) (mK (gS μ 167 2 0) b T) := by
  have e1 : gS μ 167 2 0 167 35 = μ 167 35 := gS_neI (by omega)
  simp (disch := first | assumption | omega) only [e254_0, e254_1, e254_2, e254_5, e254_6, e254_9, e254_12, e254_13, e254_14, e254_15, e254_16, e254_17, e254_20, e254_21, e254_24, e254_27, gK0_eq, gK1_eq, gK3_eq, w32_id, bI_eq0, bI_eq1, Bool.false_eq_true, not_true_eq_false, not_false_eq_true, ne_eq, ite_not, ↓reduceIte, if_true, if_false, Int.reduceToNat, Nat.reduceAdd, Int.reduceEq, Int.reduceLT, Int.reduceLE, Int.reduceNeg, bI_T, bI_F, gS_mK, mK_ne, e1, h]
theorem s_back (hb : gBk μ 0) (h : μ 167 35 = 1) : gE 254 0 [gO 10 167] [] μ Q = Q (μ 181 5592) (mK (gS μ 167 2 0) 0 (fun k => μ 181 (3920 + k))) := by
  have hb' : gBk (gS μ 167 2 0) 0 := gBk_gS hb (by decide)
  have e1 : gS μ 167 2 0 167 35 = μ 167 35 := gS_neI (by omega)
  have e2 : (fun k => gS μ 167 2 0 181 (1960 * 2 + k)) = (fun k => μ 181 (3920 + k)) := by funext k; exact gS_neK (by omega)
  simp (disch := first | assumption | omega) only [e254_0, e254_1, e254_2, e254_5, e254_6, e254_9, e254_12, e254_13, e254_14, e254_15, e254_16, e254_17, e254_20, e254_21, e254_24, e254_27, gK0_eq, gK1_eq, gK3_eq, w32_id, bI_eq0, bI_eq1, Bool.false_eq_true, not_true_eq_false, not_false_eq_true, ne_eq, ite_not, ↓reduceIte, if_true, if_false, Int.reduceToNat, Nat.reduceAdd, Int.reduceEq, Int.reduceLT, Int.reduceLE, Int.reduceNeg, bI_T, bI_F, e1, h, s_copyBank, e2, s_of, Int.reduceAdd]
end MODEL18
