/-! the class: its tree, groups joined, bridges that part -/
def gL (μ : gM) (a : Nat) (f : Int → Int) : gM := mrow μ a (fun d => if 0 ≤ d ∧ d < 8 then f d else μ a d)
def cBc (w : Int) : Int :=
  let i1 := w32 (w - iand32 (iushr32 w 1) 1431655765)
  let i2 := w32 (iand32 i1 858993459 + iand32 (iushr32 i1 2) 858993459)
  let i3 := iand32 (w32 (i2 + iushr32 i2 4)) 252645135
  let i4 := w32 (i3 + iushr32 i3 8)
  let i5 := w32 (i4 + iushr32 i4 16)
  iand32 i5 63
section TREE2
variable {x y : Nat} {X μ μ' : gM} {Q : Int → gM → Prop} {f g : Int → Int} {a : Nat}
theorem gL_congr (h : ∀ d, 0 ≤ d → d < 8 → f d = g d) : gL μ a f = gL μ a g := by
  unfold gL
  congr 1
  funext d
  by_cases c : 0 ≤ d ∧ d < 8
  · rw [if_pos c, if_pos c, h d c.1 c.2]
  · rw [if_neg c, if_neg c]
theorem gL_ne {b : Nat} {i : Int} (h : b ≠ a) : gL μ a f b i = μ b i := mrow_ne h
theorem gL_at {i : Int} (h0 : 0 ≤ i) (h1 : i < 8) : gL μ a f a i = f i := by
  unfold gL; rw [mrow_same, if_pos ⟨h0, h1⟩]
theorem gS_gL {i v : Int} (h0 : 0 ≤ i) (h1 : i < 8) : gS (gL μ a f) a i v = gL μ a (fun d => if d = i then v else f d) := by
  unfold gL
  rw [gS_mrow, mrow_mrow]
  congr 1
  funext d
  rw [mrow_same]
  by_cases c : d = i
  · rw [if_pos c, if_pos (by omega)]; dsimp only; rw [if_pos c]
  · rw [if_neg c]
    by_cases q : 0 ≤ d ∧ d < 8
    · rw [if_pos q, if_pos q]; dsimp only; rw [if_neg c]
    · rw [if_neg q, if_neg q]
theorem gL_gL : gL (gL μ a f) a g = gL μ a g := by
  unfold gL
  rw [mrow_mrow]
  congr 1
  funext d
  by_cases q : 0 ≤ d ∧ d < 8
  · rw [if_pos q, if_pos q]
  · rw [if_neg q, if_neg q, mrow_same, if_neg q]
theorem rTd_gL (hI : gIX X) (h : rTd x X μ) (ha : a = x + 12 ∨ a = x + 13) : rTd x X (gL μ a f) :=
  rTd_tr hI h (fun i _ => gL_ne (by omega)) (fun k k0 k1 i _ _ => gL_ne (by omega))
theorem k_merge_loop {i j lo hi : Int} : ∀ (m : Nat) (k : Int) (f : Int → Int), 0 ≤ k → k + m = 8 →
    gE 60 32 [gA 8 a, gI i, gI j, gI lo, gI hi, gI k] [] (gL μ a f) Q = Q 0 (gL μ a (fun d => if k ≤ d ∧ f d = hi then lo else f d)) := by
  intro m
  induction m with
  | zero =>
    intro k f k0 k1
    have c : ((8 : Nat) : Int) ≤ k := by omega
    rw [e60_32, gL_congr (g := f) (fun d d0 d1 => if_neg (by omega))]
    simp (disch := first | assumption | omega) only [e60_0, e60_1, e60_2, e60_5, e60_6, e60_7, e60_10, e60_13, e60_14, e60_15, e60_16, e60_19, e60_20, e60_21, e60_24, e60_27, e60_29, e60_30, e60_34, e60_35, e60_36, e60_39, e60_40, e60_42, e60_43, e60_45, e60_48, e60_49, e60_51, e60_52, e60_53, e60_56, e60_59, gK0_eq, gK1_eq, gK3_eq, w32_id, bI_eq0, bI_eq1, Bool.false_eq_true, not_true_eq_false, not_false_eq_true, ne_eq, ite_not, ↓reduceIte, if_true, if_false, Int.reduceToNat, Nat.reduceAdd, Int.reduceEq, Int.reduceLT, Int.reduceLE, Int.reduceNeg, bI_T, bI_F, ↓if_pos, ↓if_neg, c]
  | succ m ih =>
    intro k f k0 k1
    have c : ¬ ((8 : Nat) : Int) ≤ k := by omega
    have c1 : k < ((8 : Nat) : Int) := by omega
    have c2 : k < 8 := by omega
    rw [e60_32]
    by_cases q : f k = hi
    · simp (disch := first | assumption | omega) only [e60_0, e60_1, e60_2, e60_5, e60_6, e60_7, e60_10, e60_13, e60_14, e60_15, e60_16, e60_19, e60_20, e60_21, e60_24, e60_27, e60_29, e60_30, e60_34, e60_35, e60_36, e60_39, e60_40, e60_42, e60_43, e60_45, e60_48, e60_49, e60_51, e60_52, e60_53, e60_56, e60_59, gK0_eq, gK1_eq, gK3_eq, w32_id, bI_eq0, bI_eq1, Bool.false_eq_true, not_true_eq_false, not_false_eq_true, ne_eq, ite_not, ↓reduceIte, if_true, if_false, Int.reduceToNat, Nat.reduceAdd, Int.reduceEq, Int.reduceLT, Int.reduceLE, Int.reduceNeg, bI_T, bI_F, ↓if_pos, ↓if_neg, c, gL_at, q, gS_gL]
      rw [ih _ _ (by omega) (by omega)]
      congr 1
      apply gL_congr
      intro d d0 d1
      by_cases z : d = k
      · subst z
        rw [if_neg (by omega), if_pos rfl, if_pos ⟨Int.le_refl _, q⟩]
      · rw [if_neg z]
        by_cases w : k + 1 ≤ d ∧ f d = hi
        · rw [if_pos w, if_pos ⟨by omega, w.2⟩]
        · rw [if_neg w, if_neg (fun v => w ⟨by omega, v.2⟩)]
    · simp (disch := first | assumption | omega) only [e60_0, e60_1, e60_2, e60_5, e60_6, e60_7, e60_10, e60_13, e60_14, e60_15, e60_16, e60_19, e60_20, e60_21, e60_24, e60_27, e60_29, e60_30, e60_34, e60_35, e60_36, e60_39, e60_40, e60_42, e60_43, e60_45, e60_48, e60_49, e60_51, e60_52, e60_53, e60_56, e60_59, gK0_eq, gK1_eq, gK3_eq, w32_id, bI_eq0, bI_eq1, Bool.false_eq_true, not_true_eq_false, not_false_eq_true, ne_eq, ite_not, ↓reduceIte, if_true, if_false, Int.reduceToNat, Nat.reduceAdd, Int.reduceEq, Int.reduceLT, Int.reduceLE, Int.reduceNeg, bI_T, bI_F, ↓if_pos, ↓if_neg, c, gL_at, q]
      rw [ih _ _ (by omega) (by omega)]
      congr 1
      apply gL_congr
      intro d d0 d1
      by_cases w : k + 1 ≤ d ∧ f d = hi
      · rw [if_pos w, if_pos ⟨by omega, w.2⟩]
      · rw [if_neg w, if_neg (fun v => w ⟨by
          have : d ≠ k := fun z => q (by rw [← z]; exact v.2)
          omega, v.2⟩)]
theorem k_merge {dv i j : Int} (hf : tPt dv f) (hv : dv ≤ 8) (hi : 0 ≤ i ∧ i < dv) (hj : 0 ≤ j ∧ j < dv) : gE 60 0 [gA 8 a, gI i, gI j, gX, gX, gX] [] (gL μ a f) Q = Q 0 (gL μ a (tMee dv f i j)) := by
  have i0 := hi.1
  have j0 := hj.1
  have i1 : i < ((8 : Nat) : Int) := by omega
  have j1 : j < ((8 : Nat) : Int) := by omega
  have i8 : i < 8 := by omega
  have j8 : j < 8 := by omega
  obtain ⟨lo, hi', hlh, val⟩ := tMee_val hf hv hi hj
  have em : imin (f i) (f j) = lo ∧ imax (f i) (f j) = hi' := by
    unfold imin imax
    rcases hlh with ⟨h1, h2, h3⟩ | ⟨h1, h2, h3⟩
    · constructor <;> split <;> omega
    · constructor <;> split <;> omega
  simp (disch := first | assumption | omega) only [e60_0, e60_1, e60_2, e60_5, e60_6, e60_7, e60_10, e60_13, e60_14, e60_15, e60_16, e60_19, e60_20, e60_21, e60_24, e60_27, e60_29, e60_30, e60_34, e60_35, e60_36, e60_39, e60_40, e60_42, e60_43, e60_45, e60_48, e60_49, e60_51, e60_52, e60_53, e60_56, e60_59, gK0_eq, gK1_eq, gK3_eq, w32_id, bI_eq0, bI_eq1, Bool.false_eq_true, not_true_eq_false, not_false_eq_true, ne_eq, ite_not, ↓reduceIte, if_true, if_false, Int.reduceToNat, Nat.reduceAdd, Int.reduceEq, Int.reduceLT, Int.reduceLE, Int.reduceNeg, bI_T, bI_F, ↓if_pos, ↓if_neg, s_at, atv_in, gL_at, em.1, em.2]
  rw [k_merge_loop 8 0 f (by omega) (by omega)]
  congr 1
  apply gL_congr
  intro d d0 d1
  rw [val d d0 d1]
  by_cases q : f d = hi'
  · rw [if_pos q, if_pos ⟨d0, q⟩]
  · rw [if_neg q, if_neg (fun z => q z.2)]
theorem k_joinB_loop {br : Int} (hI : gIX X) (h : rTd x X μ) (ha : a = x + 12 ∨ a = x + 13) (hb : 0 ≤ br ∧ br < 32) : ∀ (m : Nat) (d : Int) (s : Int × (Int → Int)), 0 ≤ d → d + m = X 167 12 → tPt (X 167 12) s.2 → (s.1 = -1 ∨ (0 ≤ s.1 ∧ s.1 < d)) →
    gE 59 5 [gO 8 x, gI br, gA 8 a, gI s.1, gI d] [] (gL μ a s.2) Q = Q 0 (gL μ a (itF (cJ1 X br) d m s).2) := by
  have hv := hI.2.1
  have a2 := h.1.2.1
  intro m
  induction m with
  | zero =>
    intro d s d0 d1 hs hf
    have c : X 167 12 ≤ d := by omega
    have e2 : gL μ a s.2 x 4 = X 167 12 := by rw [gL_ne (by omega)]; exact a2
    rw [e59_5, itF]
    simp (disch := first | assumption | omega) only [e59_0, e59_1, e59_2, e59_3, e59_7, e59_8, e59_11, e59_14, e59_15, e59_18, e59_20, e59_23, e59_24, e59_25, e59_26, e59_27, e59_30, e59_33, e59_34, e59_35, e59_38, e59_40, e59_41, e59_44, e59_45, e59_46, e59_48, e59_51, e59_54, e59_57, gK0_eq, gK1_eq, gK3_eq, w32_id, bI_eq0, bI_eq1, Bool.false_eq_true, not_true_eq_false, not_false_eq_true, ne_eq, ite_not, ↓reduceIte, if_true, if_false, Int.reduceToNat, Nat.reduceAdd, Int.reduceEq, Int.reduceLT, Int.reduceLE, Int.reduceNeg, bI_T, bI_F, ↓if_pos, ↓if_neg, e2, c]
  | succ m ih =>
    intro d s d0 d1 hs hf
    have c : ¬ X 167 12 ≤ d := by omega
    have e2 : gL μ a s.2 x 4 = X 167 12 := by rw [gL_ne (by omega)]; exact a2
    have e5 : gL μ a s.2 (x + 5) d = xAbo X d := by rw [gL_ne (by omega)]; exact (h.2.2.1 d d0 (by omega)).2.1
    have c1 : d < ((8 : Nat) : Int) := by omega
    have t := bt_test (a := xAbo X d) hb
    rw [e59_5, itF]
    cases q : bt (xAbo X d) br.toNat with
    | false =>
      have u : cJ1 X br d s = s := by unfold cJ1; rw [if_pos q]
      rw [q, if_neg (c := false = true) Bool.noConfusion] at t
      rw [u, ← ih (d + 1) s (by omega) (by omega) hs (hf.imp id (fun z => ⟨z.1, by omega⟩))]
      simp (disch := first | assumption | omega) only [e59_0, e59_1, e59_2, e59_3, e59_7, e59_8, e59_11, e59_14, e59_15, e59_18, e59_20, e59_23, e59_24, e59_25, e59_26, e59_27, e59_30, e59_33, e59_34, e59_35, e59_38, e59_40, e59_41, e59_44, e59_45, e59_46, e59_48, e59_51, e59_54, e59_57, gK0_eq, gK1_eq, gK3_eq, w32_id, bI_eq0, bI_eq1, Bool.false_eq_true, not_true_eq_false, not_false_eq_true, ne_eq, ite_not, ↓reduceIte, if_true, if_false, Int.reduceToNat, Nat.reduceAdd, Int.reduceEq, Int.reduceLT, Int.reduceLE, Int.reduceNeg, bI_T, bI_F, ↓if_pos, ↓if_neg, e2, c, s_at, atv_in, e5, t]
    | true =>
      rw [q, if_pos rfl] at t
      have q' : ¬ bt (xAbo X d) br.toNat = false := by rw [q]; exact Bool.noConfusion
      by_cases z : s.1 = -1
      · have u : cJ1 X br d s = (d, s.2) := by unfold cJ1; rw [if_neg q', if_pos z]
        rw [u, ← ih (d + 1) (d, s.2) (by omega) (by omega) hs (Or.inr ⟨d0, by dsimp only; omega⟩)]
        simp (disch := first | assumption | omega) only [e59_0, e59_1, e59_2, e59_3, e59_7, e59_8, e59_11, e59_14, e59_15, e59_18, e59_20, e59_23, e59_24, e59_25, e59_26, e59_27, e59_30, e59_33, e59_34, e59_35, e59_38, e59_40, e59_41, e59_44, e59_45, e59_46, e59_48, e59_51, e59_54, e59_57, gK0_eq, gK1_eq, gK3_eq, w32_id, bI_eq0, bI_eq1, Bool.false_eq_true, not_true_eq_false, not_false_eq_true, ne_eq, ite_not, ↓reduceIte, if_true, if_false, Int.reduceToNat, Nat.reduceAdd, Int.reduceEq, Int.reduceLT, Int.reduceLE, Int.reduceNeg, bI_T, bI_F, ↓if_pos, ↓if_neg, e2, c, s_at, atv_in, e5, t, z]
      · have f1 := hf.resolve_left z
        have fs : 0 ≤ s.1 ∧ s.1 < X 167 12 := by omega
        have fd : 0 ≤ d ∧ d < X 167 12 := by omega
        have u : cJ1 X br d s = (s.1, tMee (X 167 12) s.2 s.1 d) := by unfold cJ1; rw [if_neg q', if_neg z]
        rw [u, ← ih (d + 1) (s.1, tMee (X 167 12) s.2 s.1 d) (by omega) (by omega) (tMee_pt hs hv.2 fs fd) (Or.inr ⟨f1.1, by dsimp only; omega⟩)]
        simp (disch := first | assumption | omega) only [e59_0, e59_1, e59_2, e59_3, e59_7, e59_8, e59_11, e59_14, e59_15, e59_18, e59_20, e59_23, e59_24, e59_25, e59_26, e59_27, e59_30, e59_33, e59_34, e59_35, e59_38, e59_40, e59_41, e59_44, e59_45, e59_46, e59_48, e59_51, e59_54, e59_57, gK0_eq, gK1_eq, gK3_eq, w32_id, bI_eq0, bI_eq1, Bool.false_eq_true, not_true_eq_false, not_false_eq_true, ne_eq, ite_not, ↓reduceIte, if_true, if_false, Int.reduceToNat, Nat.reduceAdd, Int.reduceEq, Int.reduceLT, Int.reduceLE, Int.reduceNeg, bI_T, bI_F, ↓if_pos, ↓if_neg, e2, c, s_at, atv_in, e5, t, z, k_merge hs hv.2 fs fd]
theorem k_joinB {br : Int} (hI : gIX X) (h : rTd x X μ) (ha : a = x + 12 ∨ a = x + 13) (hb : 0 ≤ br ∧ br < 32) (hf : tPt (X 167 12) f) : gE 59 0 [gO 8 x, gI br, gA 8 a, gX, gX] [] (gL μ a f) Q = Q 0 (gL μ a (cJb X br f)) := by
  have hv := hI.2.1
  have h1 := k_joinB_loop (Q := Q) (br := br) hI h ha hb (X 167 12).toNat 0 (-1, f) (by omega) (by omega) hf (Or.inl rfl)
  simp (disch := first | assumption | omega) only [e59_0, e59_1, e59_2, e59_3, e59_7, e59_8, e59_11, e59_14, e59_15, e59_18, e59_20, e59_23, e59_24, e59_25, e59_26, e59_27, e59_30, e59_33, e59_34, e59_35, e59_38, e59_40, e59_41, e59_44, e59_45, e59_46, e59_48, e59_51, e59_54, e59_57, gK0_eq, gK1_eq, gK3_eq, w32_id, bI_eq0, bI_eq1, Bool.false_eq_true, not_true_eq_false, not_false_eq_true, ne_eq, ite_not, ↓reduceIte, if_true, if_false, Int.reduceToNat, Nat.reduceAdd, Int.reduceEq, Int.reduceLT, Int.reduceLE, Int.reduceNeg, bI_T, bI_F]
  exact h1
theorem k_join_l1 {ps : Int} : ∀ (m : Nat) (k : Int) (μ : gM), 0 ≤ k → k + m = 8 →
    gE 58 2 [gO 8 x, gI ps, gA 8 a, gI k] [] μ Q = gE 58 18 [gO 8 x, gI ps, gA 8 a, gI 8] [] (mrow μ a (fun d => if k ≤ d ∧ d < 8 then d else μ a d)) Q := by
  intro m
  induction m with
  | zero =>
    intro k μ k0 k1
    have c : ((8 : Nat) : Int) ≤ k := by omega
    have e : k = 8 := by omega
    rw [e58_2, mrow_id (fun j => if_neg (by omega))]
    simp (disch := first | assumption | omega) only [e58_0, e58_1, e58_3, e58_4, e58_5, e58_8, e58_9, e58_10, e58_11, e58_12, e58_15, e58_19, e58_20, e58_21, e58_22, e58_25, e58_28, e58_29, e58_32, e58_33, e58_36, e58_39, e58_40, e58_41, e58_42, e58_43, e58_44, e58_47, e58_48, e58_49, e58_50, e58_53, e58_56, e58_59, e58_60, e58_61, e58_62, e58_63, e58_66, e58_69, e58_70, e58_71, e58_74, e58_75, e58_78, e58_79, e58_82, e58_83, e58_86, e58_89, e58_92, e58_95, gK0_eq, gK1_eq, gK3_eq, w32_id, bI_eq0, bI_eq1, Bool.false_eq_true, not_true_eq_false, not_false_eq_true, ne_eq, ite_not, ↓reduceIte, if_true, if_false, Int.reduceToNat, Nat.reduceAdd, Int.reduceEq, Int.reduceLT, Int.reduceLE, Int.reduceNeg, bI_T, bI_F, ↓if_pos, ↓if_neg, c]
    rw [e]
  | succ m ih =>
    intro k μ k0 k1
    have c : ¬ ((8 : Nat) : Int) ≤ k := by omega
    have c1 : k < ((8 : Nat) : Int) := by omega
    rw [e58_2]
    simp (disch := first | assumption | omega) only [e58_0, e58_1, e58_3, e58_4, e58_5, e58_8, e58_9, e58_10, e58_11, e58_12, e58_15, e58_19, e58_20, e58_21, e58_22, e58_25, e58_28, e58_29, e58_32, e58_33, e58_36, e58_39, e58_40, e58_41, e58_42, e58_43, e58_44, e58_47, e58_48, e58_49, e58_50, e58_53, e58_56, e58_59, e58_60, e58_61, e58_62, e58_63, e58_66, e58_69, e58_70, e58_71, e58_74, e58_75, e58_78, e58_79, e58_82, e58_83, e58_86, e58_89, e58_92, e58_95, gK0_eq, gK1_eq, gK3_eq, w32_id, bI_eq0, bI_eq1, Bool.false_eq_true, not_true_eq_false, not_false_eq_true, ne_eq, ite_not, ↓reduceIte, if_true, if_false, Int.reduceToNat, Nat.reduceAdd, Int.reduceEq, Int.reduceLT, Int.reduceLE, Int.reduceNeg, bI_T, bI_F, ↓if_pos, ↓if_neg, c]
    rw [ih _ _ (by omega) (by omega), gS_mrow, mrow_mrow]
    congr 2
    funext d
    rw [mrow_same]
    by_cases z : d = k
    · subst z
      rw [if_neg (by omega), if_pos rfl, if_pos (by omega)]
    · rw [if_neg z]
      by_cases w : k ≤ d ∧ d < 8
      · rw [if_pos w, if_pos (by omega)]
      · rw [if_neg w, if_neg (by omega)]
theorem k_join_l2 {ps : Int} (hI : gIX X) (h : rTd x X μ) (ha : a = x + 12 ∨ a = x + 13) : ∀ (m : Nat) (b : Int) (f : Int → Int), 0 ≤ b → b + m = X 167 11 → tPt (X 167 12) f →
    gE 58 20 [gO 8 x, gI ps, gA 8 a, gI b] [] (gL μ a f) Q = gE 58 59 [gO 8 x, gI ps, gA 8 a, gI (X 167 11)] [] (gL μ a (itF (cJ2 X ps) b m f)) Q := by
  have hb := hI.1
  have a1 := h.1.1
  intro m
  induction m with
  | zero =>
    intro b f b0 b1 hf
    have c : X 167 11 ≤ b := by omega
    have e : b = X 167 11 := by omega
    have e1 : gL μ a f x 0 = X 167 11 := by rw [gL_ne (by omega)]; exact a1
    rw [e58_20, itF]
    simp (disch := first | assumption | omega) only [e58_0, e58_1, e58_2, e58_3, e58_4, e58_5, e58_8, e58_9, e58_10, e58_11, e58_12, e58_15, e58_18, e58_19, e58_21, e58_22, e58_25, e58_28, e58_29, e58_32, e58_33, e58_36, e58_39, e58_40, e58_41, e58_42, e58_43, e58_44, e58_47, e58_48, e58_49, e58_50, e58_53, e58_56, e58_60, e58_61, e58_62, e58_63, e58_66, e58_69, e58_70, e58_71, e58_74, e58_75, e58_78, e58_79, e58_82, e58_83, e58_86, e58_89, e58_92, e58_95, gK0_eq, gK1_eq, gK3_eq, w32_id, bI_eq0, bI_eq1, Bool.false_eq_true, not_true_eq_false, not_false_eq_true, ne_eq, ite_not, ↓reduceIte, if_true, if_false, Int.reduceToNat, Nat.reduceAdd, Int.reduceEq, Int.reduceLT, Int.reduceLE, Int.reduceNeg, bI_T, bI_F, ↓if_pos, ↓if_neg, e1, c]
    rw [e]
  | succ m ih =>
    intro b f b0 b1 hf
    have c : ¬ X 167 11 ≤ b := by omega
    have e1 : gL μ a f x 0 = X 167 11 := by rw [gL_ne (by omega)]; exact a1
    have e2 : gL μ a f (x + 2) b = X 172 b := by rw [gL_ne (by omega)]; exact (h.2.1 b b0 (by omega)).2.1
    have c1 : b < ((6 : Nat) : Int) := by omega
    have b32 : 0 ≤ b ∧ b < 32 := by omega
    rw [itF, ← ih (b + 1) (cJ2 X ps b f) (by omega) (by omega) (cJ2_pt hI hf), e58_20]
    unfold cJ2
    by_cases q1 : X 172 b = 0
    · rw [if_neg (fun z => z.1 q1)]
      simp (disch := first | assumption | omega) only [e58_0, e58_1, e58_2, e58_3, e58_4, e58_5, e58_8, e58_9, e58_10, e58_11, e58_12, e58_15, e58_18, e58_19, e58_21, e58_22, e58_25, e58_28, e58_29, e58_32, e58_33, e58_36, e58_39, e58_40, e58_41, e58_42, e58_43, e58_44, e58_47, e58_48, e58_49, e58_50, e58_53, e58_56, e58_60, e58_61, e58_62, e58_63, e58_66, e58_69, e58_70, e58_71, e58_74, e58_75, e58_78, e58_79, e58_82, e58_83, e58_86, e58_89, e58_92, e58_95, gK0_eq, gK1_eq, gK3_eq, w32_id, bI_eq0, bI_eq1, Bool.false_eq_true, not_true_eq_false, not_false_eq_true, ne_eq, ite_not, ↓reduceIte, if_true, if_false, Int.reduceToNat, Nat.reduceAdd, Int.reduceEq, Int.reduceLT, Int.reduceLE, Int.reduceNeg, bI_T, bI_F, ↓if_pos, ↓if_neg, e1, c, s_at, atv_in, e2, q1]
    · by_cases q2 : iand32 (ishr32 ps b) 1 = 0
      · rw [if_pos ⟨q1, q2⟩]
        simp (disch := first | assumption | omega) only [e58_0, e58_1, e58_2, e58_3, e58_4, e58_5, e58_8, e58_9, e58_10, e58_11, e58_12, e58_15, e58_18, e58_19, e58_21, e58_22, e58_25, e58_28, e58_29, e58_32, e58_33, e58_36, e58_39, e58_40, e58_41, e58_42, e58_43, e58_44, e58_47, e58_48, e58_49, e58_50, e58_53, e58_56, e58_60, e58_61, e58_62, e58_63, e58_66, e58_69, e58_70, e58_71, e58_74, e58_75, e58_78, e58_79, e58_82, e58_83, e58_86, e58_89, e58_92, e58_95, gK0_eq, gK1_eq, gK3_eq, w32_id, bI_eq0, bI_eq1, Bool.false_eq_true, not_true_eq_false, not_false_eq_true, ne_eq, ite_not, ↓reduceIte, if_true, if_false, Int.reduceToNat, Nat.reduceAdd, Int.reduceEq, Int.reduceLT, Int.reduceLE, Int.reduceNeg, bI_T, bI_F, ↓if_pos, ↓if_neg, e1, c, s_at, atv_in, e2, q1, q2, k_joinB hI h ha b32 hf]
      · rw [if_neg (fun z => q2 z.2)]
        simp (disch := first | assumption | omega) only [e58_0, e58_1, e58_2, e58_3, e58_4, e58_5, e58_8, e58_9, e58_10, e58_11, e58_12, e58_15, e58_18, e58_19, e58_21, e58_22, e58_25, e58_28, e58_29, e58_32, e58_33, e58_36, e58_39, e58_40, e58_41, e58_42, e58_43, e58_44, e58_47, e58_48, e58_49, e58_50, e58_53, e58_56, e58_60, e58_61, e58_62, e58_63, e58_66, e58_69, e58_70, e58_71, e58_74, e58_75, e58_78, e58_79, e58_82, e58_83, e58_86, e58_89, e58_92, e58_95, gK0_eq, gK1_eq, gK3_eq, w32_id, bI_eq0, bI_eq1, Bool.false_eq_true, not_true_eq_false, not_false_eq_true, ne_eq, ite_not, ↓reduceIte, if_true, if_false, Int.reduceToNat, Nat.reduceAdd, Int.reduceEq, Int.reduceLT, Int.reduceLE, Int.reduceNeg, bI_T, bI_F, ↓if_pos, ↓if_neg, e1, c, s_at, atv_in, e2, q1, q2]
theorem k_join_l3 {ps : Int} (hI : gIX X) (h : rTd x X μ) (ha : a = x + 12 ∨ a = x + 13) : ∀ (m : Nat) (k : Int) (f : Int → Int), 0 ≤ k → k + m = X 167 13 → tPt (X 167 12) f →
    gE 58 61 [gO 8 x, gI ps, gA 8 a, gI k] [] (gL μ a f) Q = Q 0 (gL μ a (xLy3 X k m f)) := by
  have hv := hI.2.1
  have hn := hI.2.2.1
  have hA := hI.2.2.2.2.2.2.2.1
  have a3 := h.1.2.2.1
  intro m
  induction m with
  | zero =>
    intro k f k0 k1 hf
    have c : X 167 13 ≤ k := by omega
    have e1 : gL μ a f x 8 = X 167 13 := by rw [gL_ne (by omega)]; exact a3
    rw [e58_61]
    unfold xLy3
    rw [itF]
    simp (disch := first | assumption | omega) only [e58_0, e58_1, e58_2, e58_3, e58_4, e58_5, e58_8, e58_9, e58_10, e58_11, e58_12, e58_15, e58_18, e58_19, e58_20, e58_21, e58_22, e58_25, e58_28, e58_29, e58_32, e58_33, e58_36, e58_39, e58_40, e58_41, e58_42, e58_43, e58_44, e58_47, e58_48, e58_49, e58_50, e58_53, e58_56, e58_59, e58_60, e58_62, e58_63, e58_66, e58_69, e58_70, e58_71, e58_74, e58_75, e58_78, e58_79, e58_82, e58_83, e58_86, e58_89, e58_92, e58_95, gK0_eq, gK1_eq, gK3_eq, w32_id, bI_eq0, bI_eq1, Bool.false_eq_true, not_true_eq_false, not_false_eq_true, ne_eq, ite_not, ↓reduceIte, if_true, if_false, Int.reduceToNat, Nat.reduceAdd, Int.reduceEq, Int.reduceLT, Int.reduceLE, Int.reduceNeg, bI_T, bI_F, ↓if_pos, ↓if_neg, e1, c]
  | succ m ih =>
    intro k f k0 k1 hf
    have c : ¬ X 167 13 ≤ k := by omega
    have e1 : gL μ a f x 8 = X 167 13 := by rw [gL_ne (by omega)]; exact a3
    obtain ⟨g7, g8⟩ := h.2.2.2.1 k k0 (by omega)
    have e7 : gL μ a f (x + 7) k = X 176 (2 * k) := by rw [gL_ne (by omega)]; exact g7
    have e8 : gL μ a f (x + 8) k = X 176 (2 * k + 1) := by rw [gL_ne (by omega)]; exact g8
    have c1 : k < ((8 : Nat) : Int) := by omega
    obtain ⟨q1, q2, q3, q4⟩ := hA k k0 (by omega)
    have u : xLy3 X k (m + 1) f = xLy3 X (k + 1) m (tMee (X 167 12) f (X 176 (2 * k)) (X 176 (2 * k + 1))) := rfl
    rw [u, ← ih (k + 1) _ (by omega) (by omega) (tMee_pt hf hv.2 ⟨q1, q2⟩ ⟨q3, q4⟩), e58_61]
    simp (disch := first | assumption | omega) only [e58_0, e58_1, e58_2, e58_3, e58_4, e58_5, e58_8, e58_9, e58_10, e58_11, e58_12, e58_15, e58_18, e58_19, e58_20, e58_21, e58_22, e58_25, e58_28, e58_29, e58_32, e58_33, e58_36, e58_39, e58_40, e58_41, e58_42, e58_43, e58_44, e58_47, e58_48, e58_49, e58_50, e58_53, e58_56, e58_59, e58_60, e58_62, e58_63, e58_66, e58_69, e58_70, e58_71, e58_74, e58_75, e58_78, e58_79, e58_82, e58_83, e58_86, e58_89, e58_92, e58_95, gK0_eq, gK1_eq, gK3_eq, w32_id, bI_eq0, bI_eq1, Bool.false_eq_true, not_true_eq_false, not_false_eq_true, ne_eq, ite_not, ↓reduceIte, if_true, if_false, Int.reduceToNat, Nat.reduceAdd, Int.reduceEq, Int.reduceLT, Int.reduceLE, Int.reduceNeg, bI_T, bI_F, ↓if_pos, ↓if_neg, e1, c, s_at, atv_in, e7, e8, k_merge hf hv.2 ⟨q1, q2⟩ ⟨q3, q4⟩]
theorem k_join {ps : Int} (hI : gIX X) (h : rTd x X μ) (ha : a = x + 12 ∨ a = x + 13) : gE 58 0 [gO 8 x, gI ps, gA 8 a, gX] [] μ Q = Q 0 (gL μ a (xLay X ps)) := by
  have hb := hI.1
  have hn := hI.2.2.1
  simp (disch := first | assumption | omega) only [e58_0, e58_1, e58_3, e58_4, e58_5, e58_8, e58_9, e58_10, e58_11, e58_12, e58_15, e58_18, e58_19, e58_20, e58_21, e58_22, e58_25, e58_28, e58_29, e58_32, e58_33, e58_36, e58_39, e58_40, e58_41, e58_42, e58_43, e58_44, e58_47, e58_48, e58_49, e58_50, e58_53, e58_56, e58_59, e58_60, e58_61, e58_62, e58_63, e58_66, e58_69, e58_70, e58_71, e58_74, e58_75, e58_78, e58_79, e58_82, e58_83, e58_86, e58_89, e58_92, e58_95, gK0_eq, gK1_eq, gK3_eq, w32_id, bI_eq0, bI_eq1, Bool.false_eq_true, not_true_eq_false, not_false_eq_true, ne_eq, ite_not, ↓reduceIte, if_true, if_false, Int.reduceToNat, Nat.reduceAdd, Int.reduceEq, Int.reduceLT, Int.reduceLE, Int.reduceNeg, bI_T, bI_F]
  rw [k_join_l1 8 0 μ (by omega) (by omega)]
  have e : mrow μ a (fun d => if 0 ≤ d ∧ d < 8 then d else μ a d) = gL μ a (fun d => d) := rfl
  rw [e]
  simp (disch := first | assumption | omega) only [e58_0, e58_1, e58_3, e58_4, e58_5, e58_8, e58_9, e58_10, e58_11, e58_12, e58_15, e58_18, e58_19, e58_21, e58_22, e58_25, e58_28, e58_29, e58_32, e58_33, e58_36, e58_39, e58_40, e58_41, e58_42, e58_43, e58_44, e58_47, e58_48, e58_49, e58_50, e58_53, e58_56, e58_59, e58_60, e58_61, e58_62, e58_63, e58_66, e58_69, e58_70, e58_71, e58_74, e58_75, e58_78, e58_79, e58_82, e58_83, e58_86, e58_89, e58_92, e58_95, gK0_eq, gK1_eq, gK3_eq, w32_id, bI_eq0, bI_eq1, Bool.false_eq_true, not_true_eq_false, not_false_eq_true, ne_eq, ite_not, ↓reduceIte, if_true, if_false, Int.reduceToNat, Nat.reduceAdd, Int.reduceEq, Int.reduceLT, Int.reduceLE, Int.reduceNeg, bI_T, bI_F]
  rw [k_join_l2 hI h ha (X 167 11).toNat 0 _ (by omega) (by omega) tPt_id]
  simp (disch := first | assumption | omega) only [e58_0, e58_1, e58_3, e58_4, e58_5, e58_8, e58_9, e58_10, e58_11, e58_12, e58_15, e58_18, e58_19, e58_21, e58_22, e58_25, e58_28, e58_29, e58_32, e58_33, e58_36, e58_39, e58_40, e58_41, e58_42, e58_43, e58_44, e58_47, e58_48, e58_49, e58_50, e58_53, e58_56, e58_59, e58_60, e58_62, e58_63, e58_66, e58_69, e58_70, e58_71, e58_74, e58_75, e58_78, e58_79, e58_82, e58_83, e58_86, e58_89, e58_92, e58_95, gK0_eq, gK1_eq, gK3_eq, w32_id, bI_eq0, bI_eq1, Bool.false_eq_true, not_true_eq_false, not_false_eq_true, ne_eq, ite_not, ↓reduceIte, if_true, if_false, Int.reduceToNat, Nat.reduceAdd, Int.reduceEq, Int.reduceLT, Int.reduceLE, Int.reduceNeg, bI_T, bI_F]
  rw [k_join_l3 hI h ha (X 167 13).toNat 0 _ (by omega) (by omega) (cJ2s_pt hI)]
  congr 1
  exact gL_congr (fun d d0 d1 => cLay_eq hI d d0 d1)
theorem cBc_fin : ∀ w : Fin 256, cBc (w.val : Int) = xBin (w.val : Int) := by decide +kernel
theorem k_bitCount {w : Int} {μ : gM} (hw : 0 ≤ w ∧ w < 256) : gE 0 0 [gI w] [] μ Q = Q (xBin w) μ := by
  have h := cBc_fin ⟨w.toNat, by omega⟩
  have e : ((w.toNat : Nat) : Int) = w := by omega
  simp only [e] at h
  rw [← h]
  simp only [e0_0, e0_1, e0_2, e0_3, e0_4, e0_7, e0_8, e0_9, e0_10, e0_11, e0_14, e0_15, e0_16, e0_17, e0_18, e0_21, e0_22, e0_23, e0_24, e0_25, e0_26, e0_27, e0_28, e0_29, e0_32, e0_33, e0_34, e0_35, e0_36, e0_38, e0_39, e0_40, e0_41, e0_42, e0_43, e0_45, e0_46, e0_47, e0_48, e0_49, e0_51, e0_52, gK0_eq, gK1_eq, gK3_eq]
  rfl
theorem k_fewest_loop {one other : Int} (hI : gIX X) (h : rTd x X μ) (h1 : 0 ≤ one ∧ one < 8) (h2 : 0 ≤ other ∧ other < 8) : ∀ (m : Nat) (k best : Int) (f : Int → Int), 0 ≤ k → k + m = ishl32 1 (X 167 11) → k + m ≤ 64 → best < k → -2 ≤ best →
    ∃ g : Int → Int, ∀ Q : Int → gM → Prop, gE 65 6 [gO 8 x, gI one, gI other, gI best, gI k] [] (gL μ (x + 13) f) Q = Q (xPb X one other k m best) (gL μ (x + 13) g) := by
  have a1 := h.1.1
  intro m
  induction m with
  | zero =>
    intro k best f k0 k1 k2 b1 b2
    have c : ishl32 1 (X 167 11) ≤ k := by omega
    have e1 : gL μ (x + 13) f x 0 = X 167 11 := by rw [gL_ne (by omega)]; exact a1
    refine ⟨f, fun Q => ?_⟩
    rw [e65_6]
    unfold xPb
    rw [itF]
    simp (disch := first | assumption | omega) only [e65_0, e65_2, e65_3, e65_4, e65_8, e65_9, e65_10, e65_13, e65_14, e65_17, e65_18, e65_21, e65_23, e65_26, e65_27, e65_30, e65_33, e65_36, e65_37, e65_39, e65_40, e65_43, e65_46, e65_47, e65_50, e65_51, e65_54, e65_55, e65_58, e65_59, e65_62, e65_65, e65_67, e65_68, e65_71, e65_74, e65_75, gK0_eq, gK1_eq, gK3_eq, w32_id, bI_eq0, bI_eq1, Bool.false_eq_true, not_true_eq_false, not_false_eq_true, ne_eq, ite_not, ↓reduceIte, if_true, if_false, Int.reduceToNat, Nat.reduceAdd, Int.reduceEq, Int.reduceLT, Int.reduceLE, Int.reduceNeg, bI_T, bI_F, ↓if_pos, ↓if_neg, e1, c]
  | succ m ih =>
    intro k best f k0 k1 k2 b1 b2
    have c : ¬ ishl32 1 (X 167 11) ≤ k := by omega
    have e1 : gL μ (x + 13) f x 0 = X 167 11 := by rw [gL_ne (by omega)]; exact a1
    have un : xPb X one other k (m + 1) best = xPb X one other (k + 1) m (if xLay X k one = xLay X k other then best else if best < 0 ∨ xBin k < xBin best then k else best) := rfl
    have hk : 0 ≤ k ∧ k < 256 := by omega
    have o0 := h1.1
    have o1 := h1.2
    have p0 := h2.1
    have p1 := h2.2
    have o8 : one < ((8 : Nat) : Int) := o1
    have p8 : other < ((8 : Nat) : Int) := p1
    have j : ∀ Q : Int → gM → Prop, gE 58 0 [gO 8 x, gI k, gA 8 (x + 13), gX] [] (gL μ (x + 13) f) Q = Q 0 (gL μ (x + 13) (xLay X k)) := fun Q => by
      rw [k_join hI (rTd_gL hI h (Or.inr rfl)) (Or.inr rfl), gL_gL]
    rw [un]
    by_cases q : best < 0 ∨ xBin k < xBin best
    · by_cases z : xLay X k one = xLay X k other
      · rw [if_pos z]
        obtain ⟨g, hg⟩ := ih (k + 1) best (xLay X k) (by omega) (by omega) (by omega) (by omega) b2
        refine ⟨g, fun Q => ?_⟩
        rw [← hg Q, e65_6]
        by_cases q1 : best < 0
        · simp (disch := first | assumption | omega) only [e65_0, e65_2, e65_3, e65_4, e65_8, e65_9, e65_10, e65_13, e65_14, e65_17, e65_18, e65_21, e65_23, e65_26, e65_27, e65_30, e65_33, e65_36, e65_37, e65_39, e65_40, e65_43, e65_46, e65_47, e65_50, e65_51, e65_54, e65_55, e65_58, e65_59, e65_62, e65_65, e65_67, e65_68, e65_71, e65_74, e65_75, gK0_eq, gK1_eq, gK3_eq, w32_id, bI_eq0, bI_eq1, Bool.false_eq_true, not_true_eq_false, not_false_eq_true, ne_eq, ite_not, ↓reduceIte, if_true, if_false, Int.reduceToNat, Nat.reduceAdd, Int.reduceEq, Int.reduceLT, Int.reduceLE, Int.reduceNeg, bI_T, bI_F, ↓if_pos, ↓if_neg, e1, c, q1, j, s_at, atv_in, gL_at, z]
        · have q2 : xBin k < xBin best := q.resolve_left q1
          have hb : 0 ≤ best ∧ best < 256 := by omega
          simp (disch := first | assumption | omega) only [e65_0, e65_2, e65_3, e65_4, e65_8, e65_9, e65_10, e65_13, e65_14, e65_17, e65_18, e65_21, e65_23, e65_26, e65_27, e65_30, e65_33, e65_36, e65_37, e65_39, e65_40, e65_43, e65_46, e65_47, e65_50, e65_51, e65_54, e65_55, e65_58, e65_59, e65_62, e65_65, e65_67, e65_68, e65_71, e65_74, e65_75, gK0_eq, gK1_eq, gK3_eq, w32_id, bI_eq0, bI_eq1, Bool.false_eq_true, not_true_eq_false, not_false_eq_true, ne_eq, ite_not, ↓reduceIte, if_true, if_false, Int.reduceToNat, Nat.reduceAdd, Int.reduceEq, Int.reduceLT, Int.reduceLE, Int.reduceNeg, bI_T, bI_F, ↓if_pos, ↓if_neg, e1, c, q1, k_bitCount hk, k_bitCount hb, q2, j, s_at, atv_in, gL_at, z]
      · rw [if_neg z, if_pos q]
        obtain ⟨g, hg⟩ := ih (k + 1) k (xLay X k) (by omega) (by omega) (by omega) (by omega) (by omega)
        refine ⟨g, fun Q => ?_⟩
        rw [← hg Q, e65_6]
        by_cases q1 : best < 0
        · simp (disch := first | assumption | omega) only [e65_0, e65_2, e65_3, e65_4, e65_8, e65_9, e65_10, e65_13, e65_14, e65_17, e65_18, e65_21, e65_23, e65_26, e65_27, e65_30, e65_33, e65_36, e65_37, e65_39, e65_40, e65_43, e65_46, e65_47, e65_50, e65_51, e65_54, e65_55, e65_58, e65_59, e65_62, e65_65, e65_67, e65_68, e65_71, e65_74, e65_75, gK0_eq, gK1_eq, gK3_eq, w32_id, bI_eq0, bI_eq1, Bool.false_eq_true, not_true_eq_false, not_false_eq_true, ne_eq, ite_not, ↓reduceIte, if_true, if_false, Int.reduceToNat, Nat.reduceAdd, Int.reduceEq, Int.reduceLT, Int.reduceLE, Int.reduceNeg, bI_T, bI_F, ↓if_pos, ↓if_neg, e1, c, q1, j, s_at, atv_in, gL_at, z]
        · have q2 : xBin k < xBin best := q.resolve_left q1
          have hb : 0 ≤ best ∧ best < 256 := by omega
          simp (disch := first | assumption | omega) only [e65_0, e65_2, e65_3, e65_4, e65_8, e65_9, e65_10, e65_13, e65_14, e65_17, e65_18, e65_21, e65_23, e65_26, e65_27, e65_30, e65_33, e65_36, e65_37, e65_39, e65_40, e65_43, e65_46, e65_47, e65_50, e65_51, e65_54, e65_55, e65_58, e65_59, e65_62, e65_65, e65_67, e65_68, e65_71, e65_74, e65_75, gK0_eq, gK1_eq, gK3_eq, w32_id, bI_eq0, bI_eq1, Bool.false_eq_true, not_true_eq_false, not_false_eq_true, ne_eq, ite_not, ↓reduceIte, if_true, if_false, Int.reduceToNat, Nat.reduceAdd, Int.reduceEq, Int.reduceLT, Int.reduceLE, Int.reduceNeg, bI_T, bI_F, ↓if_pos, ↓if_neg, e1, c, q1, k_bitCount hk, k_bitCount hb, q2, j, s_at, atv_in, gL_at, z]
    · have q1 : ¬ best < 0 := fun z => q (Or.inl z)
      have q2 : ¬ xBin k < xBin best := fun z => q (Or.inr z)
      have hb : 0 ≤ best ∧ best < 256 := by omega
      rw [if_neg q, ite_self]
      obtain ⟨g, hg⟩ := ih (k + 1) best f (by omega) (by omega) (by omega) (by omega) b2
      refine ⟨g, fun Q => ?_⟩
      rw [← hg Q, e65_6]
      simp (disch := first | assumption | omega) only [e65_0, e65_2, e65_3, e65_4, e65_8, e65_9, e65_10, e65_13, e65_14, e65_17, e65_18, e65_21, e65_23, e65_26, e65_27, e65_30, e65_33, e65_36, e65_37, e65_39, e65_40, e65_43, e65_46, e65_47, e65_50, e65_51, e65_54, e65_55, e65_58, e65_59, e65_62, e65_65, e65_67, e65_68, e65_71, e65_74, e65_75, gK0_eq, gK1_eq, gK3_eq, w32_id, bI_eq0, bI_eq1, Bool.false_eq_true, not_true_eq_false, not_false_eq_true, ne_eq, ite_not, ↓reduceIte, if_true, if_false, Int.reduceToNat, Nat.reduceAdd, Int.reduceEq, Int.reduceLT, Int.reduceLE, Int.reduceNeg, bI_T, bI_F, ↓if_pos, ↓if_neg, e1, c, q1, k_bitCount hk, k_bitCount hb, q2]
theorem k_fewest {one other : Int} (hI : gIX X) (h : rTd x X μ) (h1 : 0 ≤ one ∧ one < 8) (h2 : 0 ≤ other ∧ other < 8) : ∃ μ', gFr (x + 13) (x + 14) μ μ' ∧ ∀ Q : Int → gM → Prop, gE 65 0 [gO 8 x, gI one, gI other, gX, gX] [] μ Q = Q (xPas X one other) μ' := by
  have hb := hI.1
  have e := shl_pow ⟨(X 167 11).toNat, by omega⟩
  have en : (((X 167 11).toNat : Nat) : Int) = X 167 11 := by omega
  simp only [en] at e
  have p64 : 2 ^ (X 167 11).toNat ≤ 64 := by
    have : (X 167 11).toNat ≤ 6 := by omega
    calc 2 ^ (X 167 11).toNat ≤ 2 ^ 6 := Nat.pow_le_pow_right (by omega) this
      _ = 64 := rfl
  obtain ⟨g, hg⟩ := k_fewest_loop (μ := μ) (x := x) hI h h1 h2 (2 ^ (X 167 11).toNat) 0 (-2) (fun d => μ (x + 13) d) (by omega) (by rw [e]; omega) (by omega) (by omega) (by omega)
  have e0 : gL μ (x + 13) (fun d => μ (x + 13) d) = μ := by
    unfold gL
    exact mrow_id (fun d => by split <;> rfl)
  rw [e0] at hg
  refine ⟨gL μ (x + 13) g, fun k i hk => gL_ne (by omega), fun Q => ?_⟩
  simp (disch := first | assumption | omega) only [e65_0, e65_2, e65_3, e65_4, e65_8, e65_9, e65_10, e65_13, e65_14, e65_17, e65_18, e65_21, e65_23, e65_26, e65_27, e65_30, e65_33, e65_36, e65_37, e65_39, e65_40, e65_43, e65_46, e65_47, e65_50, e65_51, e65_54, e65_55, e65_58, e65_59, e65_62, e65_65, e65_67, e65_68, e65_71, e65_74, e65_75, gK0_eq, gK1_eq, gK3_eq, w32_id, bI_eq0, bI_eq1, Bool.false_eq_true, not_true_eq_false, not_false_eq_true, ne_eq, ite_not, ↓reduceIte, if_true, if_false, Int.reduceToNat, Nat.reduceAdd, Int.reduceEq, Int.reduceLT, Int.reduceLE, Int.reduceNeg, bI_T, bI_F]
  exact hg Q
theorem k_TrCopy (hI : gIX X) (hxy : x + 14 ≤ y ∨ y + 14 ≤ x) : ∃ μ', gFr x (x + 13) μ μ' ∧ (rTd y X μ → rTd x X μ') ∧ (∀ d, 0 ≤ d → d < 8 → μ' (x + 12) d = μ (y + 12) d) ∧ ∀ Q : Int → gM → Prop, gE 49 0 [gO 8 x, gO 8 y] [] μ Q = Q 0 μ' := by
  refine ⟨?m, ?f, ?r, ?l, fun Q => ?run⟩
  case run =>
    simp (disch := first | assumption | omega) only [e49_0, e49_1, e49_2, e49_5, e49_8, e49_9, e49_12, e49_13, e49_16, e49_19, e49_20, e49_23, e49_24, e49_27, e49_30, e49_31, e49_34, e49_35, e49_38, e49_41, e49_42, e49_43, e49_46, e49_49, e49_50, e49_53, e49_54, e49_57, e49_60, e49_61, e49_64, e49_65, e49_68, e49_71, e49_72, e49_75, e49_76, e49_79, e49_82, e49_83, e49_84, e49_87, e49_90, e49_91, e49_94, e49_95, e49_98, e49_101, e49_102, e49_105, e49_106, e49_109, e49_112, e49_113, e49_114, e49_117, e49_120, e49_121, e49_124, e49_125, e49_128, e49_131, e49_132, e49_135, e49_136, e49_139, e49_142, e49_143, e49_146, e49_147, e49_150, e49_153, e49_154, e49_155, e49_158, e49_161, e49_162, e49_163, e49_166, e49_169, e49_170, e49_173, e49_174, e49_177, e49_180, gK0_eq, gK1_eq, gK3_eq, w32_id, bI_eq0, bI_eq1, Bool.false_eq_true, not_true_eq_false, not_false_eq_true, ne_eq, ite_not, ↓reduceIte, if_true, if_false, Int.reduceToNat, Nat.reduceAdd, Int.reduceEq, Int.reduceLT, Int.reduceLE, Int.reduceNeg, bI_T, bI_F, ↓if_pos, ↓if_neg, s_copyRow, gS_neK, mrow_ne]
    exact rfl
  case f => intro k i hk; simp (disch := first | assumption | omega) only [gS_neK, mrow_ne]
  case r =>
    intro h
    refine rTd_tr hI h (fun i hi => ?_) (fun k k0 k1 i i0 i1 => ?_)
    · rcases hi with rfl | rfl | rfl | rfl | rfl | rfl
      all_goals simp (disch := first | assumption | omega) only [gS_same, gS_neI, gS_neK, mrow_ne]
    · have hk : k = 1 ∨ k = 2 ∨ k = 3 ∨ k = 4 ∨ k = 5 ∨ k = 6 ∨ k = 7 ∨ k = 8 ∨ k = 9 ∨ k = 10 ∨ k = 11 := by omega
      rcases hk with rfl | rfl | rfl | rfl | rfl | rfl | rfl | rfl | rfl | rfl | rfl
      all_goals
        simp at i1
        simp (disch := first | assumption | omega) only [gS_neI, gS_neK, mrow_ne, mrow_same]
        exact if_pos (by omega)
  case l =>
    intro d d0 d1
    have c : 0 ≤ d ∧ d < ((8 : Nat) : Int) := by omega
    simp (disch := first | assumption | omega) only [gS_neI, gS_neK, mrow_ne, mrow_same, if_pos c]
end TREE2
