/-! the class: its state: what would be served, churned -/
def bL (T : Int → Int) : List Int := ((tL T).map (fun r => r.2.2.2)).reverse
section TRIAL2
variable {B C : Nat} {X μ μ' : gM} {T T' : Int → Int} {Q : Int → gM → Prop}
theorem cntF_snoc {P : Int → Bool} : ∀ (n : Nat) (k : Int), cntF P k (n + 1) = cntF P k n + (if P (k + n) = true then 1 else 0) := by
  intro n
  induction n with
  | zero => intro k; simp [cntF]
  | succ n ih =>
    intro k
    rw [cntF, ih (k + 1), cntF, show k + 1 + (n : Int) = k + ((n + 1 : Nat) : Int) by omega]
    omega
theorem nDs_cnt : ∀ n : Nat, ((nDs (((List.range n).map (fun k : Nat => T (1882 + 4 * k + 3))).reverse) : Nat) : Int) = cntF (tBt T (-1)) 0 n := by
  intro n
  induction n with
  | zero => rfl
  | succ n ih =>
    rw [List.range_succ, List.map_append, List.reverse_append, cntF_snoc, ← ih, Int.zero_add]
    have e : ([n].map (fun k : Nat => T (1882 + 4 * k + 3))).reverse ++ ((List.range n).map (fun k : Nat => T (1882 + 4 * k + 3))).reverse = T (1882 + 4 * n + 3) :: ((List.range n).map (fun k : Nat => T (1882 + 4 * k + 3))).reverse := rfl
    rw [e, nDs]
    have m : (T (1882 + 4 * n + 3) ∈ ((List.range n).map (fun k : Nat => T (1882 + 4 * k + 3))).reverse) ↔ anyF (fun i => decide (T (1882 + 4 * i + 3) = T (1882 + 4 * n + 3))) 0 n = true := by
      rw [List.mem_reverse, List.mem_map, anyF_iff]
      constructor
      · rintro ⟨k, hk, he⟩
        rw [List.mem_range] at hk
        exact ⟨k, by omega, by omega, decide_eq_true he⟩
      · rintro ⟨i, i0, i1, i2⟩
        rw [decide_eq_true_eq] at i2
        refine ⟨i.toNat, by rw [List.mem_range]; omega, ?_⟩
        rw [show ((i.toNat : Nat) : Int) = i by omega]
        exact i2
    have b : (tBt T (-1) n = true) ↔ (0 < T (1882 + 4 * n + 3) ∧ ¬ T (1882 + 4 * n + 3) ∈ ((List.range n).map (fun k : Nat => T (1882 + 4 * k + 3))).reverse) := by
      rw [m]
      unfold tBt
      rw [decide_eq_true (show (-1 : Int) < 0 by omega), Bool.true_or, Bool.and_true, Bool.and_eq_true, decide_eq_true_eq, Bool.not_eq_true', Bool.not_eq_true, Int.toNat_natCast]
    by_cases c : 0 < T (1882 + 4 * n + 3) ∧ ¬ T (1882 + 4 * n + 3) ∈ ((List.range n).map (fun k : Nat => T (1882 + 4 * k + 3))).reverse
    · rw [if_pos c, if_pos (b.mpr c)]; omega
    · rw [if_neg c, if_neg (fun z => c (b.mp z))]; omega
theorem bL_cnt : ((nDs (bL T) : Nat) : Int) = tBts T (-1) := by
  have e : bL T = ((List.range (T 1881).toNat).map (fun k : Nat => T (1882 + 4 * k + 3))).reverse := by
    unfold bL tL
    rw [List.map_map]
    rfl
  rw [e, nDs_cnt]
  rfl
theorem bL_filter {b : Int} (h : tL T' = (tL T).filter (fun r => !decide (r.2.2.2 = b))) : bL T' = (bL T).filter (fun x => !decide (x = b)) := by
  unfold bL
  rw [h, List.filter_reverse, List.filter_map]
  rfl
theorem tFirB_zero : ∀ (n : Nat) (k best : Int), 0 ≤ best → itF (fun k best => tFb1 T k best) k n best = 0 → best = 0 ∧ ∀ i, k ≤ i → i < k + n → T (1882 + 4 * i + 3) ≤ 0 := by
  intro n
  induction n with
  | zero => intro k best _ h; exact ⟨h, fun i i0 i1 => by omega⟩
  | succ n ih =>
    intro k best h0 h
    rw [itF] at h
    have nn : 0 ≤ tFb1 T k best := by unfold tFb1; split <;> omega
    obtain ⟨a1, a2⟩ := ih (k + 1) _ nn h
    unfold tFb1 at a1
    by_cases c : 0 < T (1882 + 4 * k + 3) ∧ (best = 0 ∨ T (1882 + 4 * k + 3) < best)
    · rw [if_pos c] at a1; omega
    · rw [if_neg c] at a1
      refine ⟨a1, fun i i0 i1 => ?_⟩
      by_cases z : i = k
      · rw [z]; omega
      · exact a2 i (by omega) (by omega)
theorem tFirB_mem (hn : tBnn T) (h0 : 0 ≤ T 1881) (h : tFirB T ≠ 0) : 0 < tFirB T ∧ tFirB T ∈ bL T ∧ ∃ i, 0 ≤ i ∧ i < T 1881 ∧ T (1882 + 4 * i + 3) = tFirB T := by
  have q := tFirB_in (T := T) (T 1881).toNat 0 0
  rcases q with q | ⟨i, i0, i1, i2⟩
  · exact absurd q h
  · have i2' : T (1882 + 4 * i + 3) = tFirB T := i2
    have := hn i i0 (by omega)
    refine ⟨by omega, ?_, i, i0, by omega, i2'⟩
    unfold bL tL
    rw [List.mem_reverse, List.map_map, List.mem_map]
    refine ⟨i.toNat, by rw [List.mem_range]; omega, ?_⟩
    show T (1882 + 4 * ((i.toNat : Nat) : Int) + 3) = _
    rw [show ((i.toNat : Nat) : Int) = i by omega]
    exact i2'
theorem k_taken_loop {b : Int} (hI : gIX X) (hb : 0 ≤ b ∧ b ≤ 8) : ∀ (m : Nat) (k tk : Int) (T : Int → Int) (μ : gM) (f : Nat), rSt B X T μ → tRqO (fun e => X 179 e) (X 167 12) T → nDs (bL T) ≤ m → T 1881 ≤ f → 0 ≤ k → k + m = b → (0 ≤ tk ∧ tk ≤ 8 * k) →
    ∃ μ', gFr B (B + 50) μ μ' ∧ ∀ Q : Int → gM → Prop, gE 204 12 [gO 6 B, gI tk, gI b, gI k] [] μ Q = Q (tSvL (X 178 0) (fun e => X 179 e) f tk T).1 μ' := by
  have n2 := hI.2.1
  have hg : ∀ e, 0 ≤ e → e < X 167 12 → 0 ≤ X 179 e ∧ X 179 e < 8 := fun e e0 e1 => ⟨(gX8 hI ⟨e0, by omega⟩).1, (gX8 hI ⟨e0, by omega⟩).2.1⟩
  intro m
  induction m with
  | zero =>
    intro k tk T μ f h hO hD hf k0 k1 ht
    have hn : tBnn T := fun k k0 k1 => (hO.2.2 k k0 k1).2.2.2.1
    have c : b ≤ k := by omega
    have z : tFirB T = 0 := by
      apply Classical.byContradiction
      intro w
      obtain ⟨p1, p2, -⟩ := tFirB_mem hn hO.1 w
      have := nDs_filter p1 (bL T)
      rw [if_pos p2] at this
      omega
    have e : tSvL (X 178 0) (fun e => X 179 e) f tk T = (tk, T) := by
      cases f with
      | zero => rfl
      | succ f => rw [tSvL, if_pos z]
    refine ⟨μ, gFr_refl, fun Q => ?_⟩
    rw [e, e204_12]
    simp (disch := first | assumption | omega) only [e204_0, e204_1, e204_2, e204_3, e204_6, e204_9, e204_10, e204_11, e204_13, e204_14, e204_17, e204_18, e204_19, e204_20, e204_23, e204_24, e204_27, e204_28, e204_29, e204_32, e204_35, e204_36, gK0_eq, gK1_eq, gK3_eq, w32_id, bI_eq0, bI_eq1, Bool.false_eq_true, not_true_eq_false, not_false_eq_true, ne_eq, ite_not, ↓reduceIte, if_true, if_false, Int.reduceToNat, Nat.reduceAdd, Int.reduceEq, Int.reduceLT, Int.reduceLE, Int.reduceNeg, bI_T, bI_F, ↓if_pos, ↓if_neg, c]
  | succ m ih =>
    intro k tk T μ f h hO hD hf k0 k1 ht
    have hn : tBnn T := fun k k0 k1 => (hO.2.2 k k0 k1).2.2.2.1
    have c : ¬ b ≤ k := by omega
    have hr := h.2.2.2.2.1.1.2
    have hCr : 0 ≤ T 1813 ∧ T 1813 ≤ X 178 0 := ⟨h.2.2.2.2.1.1.1.1, h.2.2.2.2.1.1.1.2.1⟩
    obtain ⟨μ1, f1, r1, l1, run1⟩ := k_serve (well := true) hI h hO
    rw [bI_t (show true = true from rfl)] at run1
    by_cases z : tFirB T = 0
    · have eA : tSvA (X 178 0) (fun e => X 179 e) true T = -2 := if_pos z
      have eT : tSvT (X 178 0) (fun e => X 179 e) true T = T := if_pos z
      rw [eT] at r1
      rw [eA] at run1
      have d0 : tBts T (-1) = 0 := by
        have q := (tFirB_zero (T := T) (T 1881).toNat 0 0 (by omega) z).2
        unfold tBts
        have : cntF (tBt T (-1)) 0 (T 1881).toNat = cntF (fun _ => false) 0 (T 1881).toNat := cntF_congr _ _ (fun i i0 i1 => by
          unfold tBt
          rw [decide_eq_false (show ¬ 0 < T (1882 + 4 * i + 3) by have := q i i0 i1; omega), Bool.false_and, Bool.false_and])
        rw [this]
        have zz : ∀ (n : Nat) (k : Int), cntF (fun _ : Int => false) k n = 0 := by
          intro n
          induction n with
          | zero => intro k; rfl
          | succ n ih => intro k; rw [cntF_f rfl]; exact ih _
        exact zz _ _
      rw [← bL_cnt] at d0
      obtain ⟨μ2, f2, run2⟩ := ih (k + 1) tk T μ1 f r1 hO (by omega) hf (by omega) (by omega) (by omega)
      have im : imax (-2) 0 = 0 := by decide
      refine ⟨μ2, gFr_trans f1 f2, fun Q => ?_⟩
      rw [← run2 Q, e204_12]
      simp (disch := first | assumption | omega) only [e204_0, e204_1, e204_2, e204_3, e204_6, e204_9, e204_10, e204_11, e204_13, e204_14, e204_17, e204_18, e204_19, e204_20, e204_23, e204_24, e204_27, e204_28, e204_29, e204_32, e204_35, e204_36, gK0_eq, gK1_eq, gK3_eq, w32_id, bI_eq0, bI_eq1, Bool.false_eq_true, not_true_eq_false, not_false_eq_true, ne_eq, ite_not, ↓reduceIte, if_true, if_false, Int.reduceToNat, Nat.reduceAdd, Int.reduceEq, Int.reduceLT, Int.reduceLE, Int.reduceNeg, bI_T, bI_F, ↓if_pos, ↓if_neg, c, run1, im, Int.add_zero]
    · have eA : tSvA (X 178 0) (fun e => X 179 e) true T = (tSrv (X 178 0) (fun e => X 179 e) true (tFirB T) (T 1881).toNat 0 0 T).1 := if_neg z
      have eT : tSvT (X 178 0) (fun e => X 179 e) true T = (tSrv (X 178 0) (fun e => X 179 e) true (tFirB T) (T 1881).toNat 0 0 T).2 := if_neg z
      obtain ⟨p1, p2, i, i0, i1, i2⟩ := tFirB_mem hn hO.1 z
      have hl0 := hO.1
      obtain ⟨a1, a2, a3, a4, a5, a6⟩ := tSrv_facts (well := true) (bt := tFirB T) hg hr (T 1881).toNat 0 0 T (by omega) (by omega) hCr hO
      rw [← eT] at a1 a3 a4
      rw [← eA] at a5
      have a4 := a4 ⟨i, i0, by omega, i2⟩
      have lf := bL_filter (l1 z)
      have nf := nDs_filter p1 (bL T)
      rw [if_pos p2, ← lf] at nf
      have hW := hO.2.1
      cases f with
      | zero => omega
      | succ f =>
        obtain ⟨μ2, f2, run2⟩ := ih (k + 1) (tk + tSvA (X 178 0) (fun e => X 179 e) true T) _ μ1 f r1 a1 (by omega) (by omega) (by omega) (by omega) (by omega)
        have im : imax (tSvA (X 178 0) (fun e => X 179 e) true T) 0 = tSvA (X 178 0) (fun e => X 179 e) true T := by unfold imax; rw [if_neg (by omega)]
        rw [tSvL, if_neg z]
        refine ⟨μ2, gFr_trans f1 f2, fun Q => ?_⟩
        rw [← run2 Q, e204_12]
        simp (disch := first | assumption | omega) only [e204_0, e204_1, e204_2, e204_3, e204_6, e204_9, e204_10, e204_11, e204_13, e204_14, e204_17, e204_18, e204_19, e204_20, e204_23, e204_24, e204_27, e204_28, e204_29, e204_32, e204_35, e204_36, gK0_eq, gK1_eq, gK3_eq, w32_id, bI_eq0, bI_eq1, Bool.false_eq_true, not_true_eq_false, not_false_eq_true, ne_eq, ite_not, ↓reduceIte, if_true, if_false, Int.reduceToNat, Nat.reduceAdd, Int.reduceEq, Int.reduceLT, Int.reduceLE, Int.reduceNeg, bI_T, bI_F, ↓if_pos, ↓if_neg, c, run1, im]
theorem k_taken (hI : gIX X) (h : rSt B X T μ) (hO : tRqO (fun e => X 179 e) (X 167 12) T) : ∃ μ', gFr B (B + 50) μ μ' ∧ ∀ Q : Int → gM → Prop, gE 204 0 [gO 6 B, gX, gX, gX] [] μ Q = Q (tSvL (X 178 0) (fun e => X 179 e) (T 1881).toNat 0 T).1 μ' := by
  have n2 := hI.2.1
  have hn : tBnn T := fun k k0 k1 => (hO.2.2 k k0 k1).2.2.2.1
  have bb := tBts_in (T := T) (e := -1)
  have hW := hO.2.1
  have hW0 := hO.1
  have bn := bL_cnt (T := T)
  obtain ⟨μ1, f1, run1⟩ := k_taken_loop (b := tBts T (-1)) hI (by omega) (tBts T (-1)).toNat 0 0 T μ (T 1881).toNat h hO (by omega) (by omega) (by omega) (by omega) (by omega)
  refine ⟨μ1, f1, fun Q => ?_⟩
  simp (disch := first | assumption | omega) only [e204_0, e204_1, e204_2, e204_3, e204_6, e204_9, e204_10, e204_11, e204_13, e204_14, e204_17, e204_18, e204_19, e204_20, e204_23, e204_24, e204_27, e204_28, e204_29, e204_32, e204_35, e204_36, gK0_eq, gK1_eq, gK3_eq, w32_id, bI_eq0, bI_eq1, Bool.false_eq_true, not_true_eq_false, not_false_eq_true, ne_eq, ite_not, ↓reduceIte, if_true, if_false, Int.reduceToNat, Nat.reduceAdd, Int.reduceEq, Int.reduceLT, Int.reduceLE, Int.reduceNeg, bI_T, bI_F, ↓if_pos, ↓if_neg, k_Rbatches h.2.2.2.2.2.1 hn (fun k k0 k1 => by have := (hO.2.2 k k0 k1).1; omega), run1]
theorem w32_mod {a : Int} : w32 a % 4294967296 = a % 4294967296 := by
  unfold w32
  rw [Int32.toInt_ofInt, Int.bmod_def]
  simp only [Int32.size]
  omega
theorem iand_mask {a : Int} : iand32 a 2147483647 = a % 2147483648 := by
  rw [iand32_bv]
  have h1 : (BitVec.ofInt 32 a &&& BitVec.ofInt 32 2147483647).toNat = (a % 4294967296).toNat % 2147483648 := by
    rw [BitVec.toNat_and, BitVec.toNat_ofInt]
    have : (BitVec.ofInt 32 2147483647).toNat = 2 ^ 31 - 1 := by decide
    rw [this, Nat.and_two_pow_sub_one_eq_mod]
    rfl
  have h2 : (BitVec.ofInt 32 a &&& BitVec.ofInt 32 2147483647).toNat < 2147483648 := by rw [h1]; exact Nat.mod_lt _ (by decide)
  rw [BitVec.toInt_eq_toNat_of_lt (by omega), h1]
  omega
theorem k_draw {z : Int} {μ : gM} : gE 207 0 [gI z] [] μ Q = Q (xDw z) μ := by
  have e : iand32 (w32 (w32 (z * 1103515245) + 12345)) 2147483647 = xDw z := by
    rw [w32_add, iand_mask]
    have := w32_mod (a := z * 1103515245 + 12345)
    unfold xDw
    omega
  simp (disch := first | assumption | omega) only [e207_0, e207_1, e207_4, e207_5, e207_8, e207_9, e207_12, e207_13, gK0_eq, gK1_eq, gK3_eq, e]
theorem ishr16 {z : Int} (h : 0 ≤ z ∧ z < 2147483648) : ishr32 z 16 = z / 65536 := by
  rw [ishr32_bv (by omega)]
  have e : (BitVec.ofInt 32 z).toInt = z := toInt_ofInt32 (by unfold in32; omega)
  rw [BitVec.toInt_sshiftRight, e, Int.shiftRight_eq_div_pow]
  rfl
theorem k_churn_loop {sd n hh : Int} (hI : gIX X) (hdv : 1 ≤ X 167 12) (hn : n ≤ 40) : ∀ (m : Nat) (k z : Int) (T : Int → Int) (μ : gM) (l6 l7 l8 : gv), rSt B X T μ → (∀ g, 0 ≤ g → g < 8 → -1 ≤ T (1673 + g) ∧ T (1673 + g) < 4) → (0 ≤ k ∧ k + m = n) →
    ∃ μ', gFr B (B + 50) μ μ' ∧ rSt B X (tChu (X 178 0) (fun e => X 179 e) (X 167 12) m z T) μ' ∧ ∀ Q : Int → gM → Prop, gE 206 14 [gO 6 B, gI sd, gI n, gI hh, gI z, gI k, l6, l7, l8] [] μ Q = Q (w32 (tChu (X 178 0) (fun e => X 179 e) (X 167 12) m z T 1878 - hh)) μ' := by
  have n2 := hI.2.1
  intro m
  induction m with
  | zero =>
    intro k z T μ l6 l7 l8 h hH hk
    have c : n ≤ k := by omega
    have g8 := h.2.2.2.2.2.2.1.2.2.1.2.2.1
    refine ⟨μ, gFr_refl, h, fun Q => ?_⟩
    rw [e206_14, tChu]
    simp (disch := first | assumption | omega) only [e206_0, e206_1, e206_4, e206_7, e206_8, e206_9, e206_11, e206_12, e206_16, e206_17, e206_20, e206_22, e206_25, e206_27, e206_29, e206_31, e206_32, e206_33, e206_36, e206_39, e206_40, e206_43, e206_44, e206_46, e206_48, e206_51, e206_53, e206_55, e206_57, e206_58, e206_60, e206_61, e206_63, e206_65, e206_68, e206_70, e206_71, e206_73, e206_75, e206_76, e206_77, e206_78, e206_79, e206_81, e206_82, e206_83, e206_86, e206_88, e206_91, e206_93, e206_95, e206_98, e206_99, e206_102, e206_105, e206_106, e206_109, e206_112, e206_113, e206_114, gK0_eq, gK1_eq, gK3_eq, w32_id, bI_eq0, bI_eq1, Bool.false_eq_true, not_true_eq_false, not_false_eq_true, ne_eq, ite_not, ↓reduceIte, if_true, if_false, Int.reduceToNat, Nat.reduceAdd, Int.reduceEq, Int.reduceLT, Int.reduceLE, Int.reduceNeg, bI_T, bI_F, ↓if_pos, ↓if_neg, c, g8]
  | succ m ih =>
    intro k z T μ l6 l7 l8 h hH hk
    have c : ¬ n ≤ k := by omega
    have x1 := xDw_in (z := z)
    have x2 := xDw_in (z := xDw z)
    have x3 := xDw_in (z := xDw (xDw z))
    have a2 := h.1.1.1.2.1
    have im : imax (X 167 12) 1 = X 167 12 := by unfold imax; rw [if_neg (by omega)]
    have dv0 : ¬ X 167 12 = 0 := by omega
    have e0 := Int.emod_nonneg (xDw z / 65536) (show X 167 12 ≠ 0 by omega)
    have e1 := Int.emod_lt_of_pos (xDw z / 65536) (show 0 < X 167 12 by omega)
    have e8 : xDw z / 65536 % X 167 12 < ((8 : Nat) : Int) := by omega
    have gd := gX8 hI (d := xDw z / 65536 % X 167 12) ⟨e0, by omega⟩
    have hv := hH _ gd.1 gd.2.1
    have bD := h.2.2.2.2.2.2.2 _ e0 e1
    have hCr : 0 ≤ T 1813 ∧ T 1813 ≤ X 178 0 := ⟨h.2.2.2.2.1.1.1.1, h.2.2.2.2.1.1.1.2.1⟩
    have hr := h.2.2.2.2.1.1.2
    have stp : ∀ (a : Int) (T1 : Int → Int) (μ1 : gM), rSt B X T1 μ1 → (∀ j, j < 1813 → T1 j = T j) → gFr B (B + 50) μ μ1 → (∀ Q : Int → gM → Prop, gE 192 0 [gO 6 B, gI (T (1673 + X 179 (xDw z / 65536 % X 167 12))), gI (xDw (xDw z) / 65536 % 64), gI (1 + xDw (xDw (xDw z)) / 65536 % 2), gX, gX] [] μ Q = Q a μ1) → tChu (X 178 0) (fun e => X 179 e) (X 167 12) (m + 1) z T = tChu (X 178 0) (fun e => X 179 e) (X 167 12) m (xDw (xDw (xDw z))) T1 →
        ∃ μ', gFr B (B + 50) μ μ' ∧ rSt B X (tChu (X 178 0) (fun e => X 179 e) (X 167 12) (m + 1) z T) μ' ∧ ∀ Q : Int → gM → Prop, gE 206 14 [gO 6 B, gI sd, gI n, gI hh, gI z, gI k, l6, l7, l8] [] μ Q = Q (w32 (tChu (X 178 0) (fun e => X 179 e) (X 167 12) (m + 1) z T 1878 - hh)) μ' := by
      intro a T1 μ1 r1 lo f1 run1 eq
      obtain ⟨μ2, f2, r2, run2⟩ := ih (k + 1) (xDw (xDw (xDw z))) T1 μ1 (gI (xDw z / 65536 % X 167 12)) (gI (xDw (xDw z) / 65536 % 64)) (gI (1 + xDw (xDw (xDw z)) / 65536 % 2)) r1 (fun g g0 g1 => by rw [lo _ (by omega)]; exact hH g g0 g1) (by omega)
      rw [eq]
      refine ⟨μ2, gFr_trans f1 f2, r2, fun Q => ?_⟩
      rw [← run2 Q, e206_14]
      simp (disch := first | assumption | omega) only [e206_0, e206_1, e206_4, e206_7, e206_8, e206_9, e206_11, e206_12, e206_16, e206_17, e206_20, e206_22, e206_25, e206_27, e206_29, e206_31, e206_32, e206_33, e206_36, e206_39, e206_40, e206_43, e206_44, e206_46, e206_48, e206_51, e206_53, e206_55, e206_57, e206_58, e206_60, e206_61, e206_63, e206_65, e206_68, e206_70, e206_71, e206_73, e206_75, e206_76, e206_77, e206_78, e206_79, e206_81, e206_82, e206_83, e206_86, e206_88, e206_91, e206_93, e206_95, e206_98, e206_99, e206_102, e206_105, e206_106, e206_109, e206_112, e206_113, e206_114, gK0_eq, gK1_eq, gK3_eq, w32_id, bI_eq0, bI_eq1, Bool.false_eq_true, not_true_eq_false, not_false_eq_true, ne_eq, ite_not, ↓reduceIte, if_true, if_false, Int.reduceToNat, Nat.reduceAdd, Int.reduceEq, Int.reduceLT, Int.reduceLE, Int.reduceNeg, bI_T, bI_F, ↓if_pos, ↓if_neg, c, k_draw, ishr16, x1, x2, x3, a2, im, irem32_id, dv0, s_at, atv_in, bD, run1]
    by_cases q : 0 ≤ T (1673 + X 179 (xDw z / 65536 % X 167 12))
    · obtain ⟨μ1, f1, r1, run1⟩ := k_look (p := xDw (xDw z) / 65536 % 64) (r := 1 + xDw (xDw (xDw z)) / 65536 % 2) hI h ⟨q, hv.2⟩ (by omega)
      exact stp _ _ μ1 r1 (fun j hj => tLkT_lo (by omega) hCr hr) f1 run1 (by rw [tChu, if_pos q])
    · have q' : T (1673 + X 179 (xDw z / 65536 % X 167 12)) = -1 := by omega
      exact stp (-1) T μ h (fun _ _ => rfl) gFr_refl (fun Q => by rw [q']; exact k_look_none) (by rw [tChu, if_neg q])
theorem k_churn {z n : Int} (hI : gIX X) (h : rSt B X T μ) (hdv : 1 ≤ X 167 12) (hn : 1 ≤ n ∧ n ≤ 40) (hH : ∀ g, 0 ≤ g → g < 8 → -1 ≤ T (1673 + g) ∧ T (1673 + g) < 4) : ∃ μ', gFr B (B + 50) μ μ' ∧ ∀ Q : Int → gM → Prop, gE 206 0 [gO 6 B, gI z, gI n, gX, gX, gX, gX, gX, gX] [] μ Q = Q (w32 (tChu (X 178 0) (fun e => X 179 e) (X 167 12) n.toNat z T 1878 - T 1878)) μ' := by
  have g8 := h.2.2.2.2.2.2.1.2.2.1.2.2.1
  obtain ⟨μ1, f1, r1, run1⟩ := k_churn_loop (sd := z) (n := n) (hh := T 1878) hI hdv hn.2 n.toNat 0 z T μ gX gX gX h hH (by omega)
  refine ⟨μ1, f1, fun Q => ?_⟩
  simp (disch := first | assumption | omega) only [e206_0, e206_1, e206_4, e206_7, e206_8, e206_9, e206_11, e206_12, e206_16, e206_17, e206_20, e206_22, e206_25, e206_27, e206_29, e206_31, e206_32, e206_33, e206_36, e206_39, e206_40, e206_43, e206_44, e206_46, e206_48, e206_51, e206_53, e206_55, e206_57, e206_58, e206_60, e206_61, e206_63, e206_65, e206_68, e206_70, e206_71, e206_73, e206_75, e206_76, e206_77, e206_78, e206_79, e206_81, e206_82, e206_83, e206_86, e206_88, e206_91, e206_93, e206_95, e206_98, e206_99, e206_102, e206_105, e206_106, e206_109, e206_112, e206_113, e206_114, gK0_eq, gK1_eq, gK3_eq, w32_id, bI_eq0, bI_eq1, Bool.false_eq_true, not_true_eq_false, not_false_eq_true, ne_eq, ite_not, ↓reduceIte, if_true, if_false, Int.reduceToNat, Nat.reduceAdd, Int.reduceEq, Int.reduceLT, Int.reduceLE, Int.reduceNeg, bI_T, bI_F, ↓if_pos, ↓if_neg, g8, run1]
end TRIAL2
