/-! the class: its frames -/
def tOb (T : Int → Int) (f i : Int) : Bool := bt (T (1152 + 8 * f + i / 32)) (i % 32).toNat
def tDo (T : Int → Int) : Prop := (0 ≤ T 1672 ∧ T 1672 ≤ 4) ∧ ∀ k, 0 ≤ k → k < 256 → 64 * T 1672 ≤ k → T k < 0
def rFr (x : Nat) (T : Int → Int) (μ : gM) : Prop := (tDo T ∧ tOin T) ∧
  (∀ f, 0 ≤ f → f < 64 → μ (x + 1) f = tUses T f ∧ μ (x + 2) f = T (1024 + f) ∧ (T (1024 + f) = 0 ∨ T (1024 + f) = 1) ∧ μ (x + 4) f = T (1088 + f)) ∧
  (∀ f d, 0 ≤ f → f < 64 → 0 ≤ d → d < 4 → in64 (μ (x + 3) (4 * f + d)) ∧ ∀ p : Nat, p < 64 → btl (μ (x + 3) (4 * f + d)) p = tOb T f (64 * d + p))
def mCv (x : Nat) (d m ar k : Int) (μ : gM) : gM := fun a j => if a = x + 3 ∧ j % 4 = d ∧ k ≤ j / 4 ∧ j / 4 < 64 ∧ land64 (μ (x + 3) j) m ≠ 0 then land64 (μ (x + 3) j) (lxor64 m (-1)) else if a = x + 4 ∧ k ≤ j ∧ j < 64 ∧ land64 (μ (x + 3) (4 * j + d)) m ≠ 0 then ar else μ a j
def tCv (T T' : Int → Int) (d m ar : Int) : Prop := (∀ j, (0 ≤ j ∧ j < 256) ∨ (1024 ≤ j ∧ j < 1088) ∨ j = 1672 → T' j = T j) ∧ tOin T' ∧
  (∀ f i, 0 ≤ f → f < 64 → 0 ≤ i → i < 256 → tOb T' f i = (tOb T f i && !(decide (64 * d ≤ i ∧ i < 64 * d + 64) && btl m (i - 64 * d).toNat))) ∧
  (∀ f, 0 ≤ f → f < 64 → T' (1088 + f) = if (∃ p : Nat, p < 64 ∧ tOb T f (64 * d + p) = true ∧ btl m p = true) then ar else T (1088 + f))
section FRAMES
variable {x y : Nat} {T T' : Int → Int} {μ μ' : gM} {Q : Int → gM → Prop}
theorem lcmp64_0 {a : Int} : (lcmp64 a 0 = 0) = (a = 0) := by
  unfold lcmp64
  split
  · apply propext; omega
  · split
    · apply propext; omega
    · apply propext; omega
theorem tUses_congr (h : ∀ j, (0 ≤ j ∧ j < 256) → T' j = T j) (h2 : T' 1672 = T 1672) (hD : 0 ≤ T 1672 ∧ T 1672 ≤ 4) {f : Int} : tUses T' f = tUses T f := by
  unfold tUses
  rw [h2]
  apply cntF_congr
  intro i i0 i1
  rw [h i (by omega)]
theorem tDo_congr (hT : ∀ j, (0 ≤ j ∧ j < 256) ∨ j = 1672 → T' j = T j) (h : tDo T) : tDo T' := by
  obtain ⟨h1, h2⟩ := h
  have e := hT 1672 (by omega)
  exact ⟨by rw [e]; exact h1, fun k k0 k1 k2 => by rw [hT k (by omega)]; exact h2 k k0 k1 (by omega)⟩
theorem tOin_congr (hT : ∀ j, 1152 ≤ j ∧ j < 1664 → T' j = T j) (h : tOin T) : tOin T' := fun f w f0 f1 w0 w1 => by
  rw [hT _ (by omega)]; exact h f w f0 f1 w0 w1
theorem tOb_congr (hT : ∀ j, 1152 ≤ j ∧ j < 1664 → T' j = T j) {f i : Int} (hf : 0 ≤ f ∧ f < 64) (hi : 0 ≤ i ∧ i < 256) : tOb T' f i = tOb T f i := by
  unfold tOb
  rw [hT _ (by omega)]
theorem rFr_tr (h : rFr x T μ) (h1 : ∀ i, 0 ≤ i → i < 64 → μ' (y + 1) i = μ (x + 1) i ∧ μ' (y + 2) i = μ (x + 2) i ∧ μ' (y + 4) i = μ (x + 4) i) (h3 : ∀ i, 0 ≤ i → i < 256 → μ' (y + 3) i = μ (x + 3) i) (hT : ∀ j, (0 ≤ j ∧ j < 256) ∨ (1024 ≤ j ∧ j < 1664) ∨ j = 1672 → T' j = T j) : rFr y T' μ' := by
  obtain ⟨⟨g1, g2⟩, g3, g4⟩ := h
  refine ⟨⟨tDo_congr (fun j hj => hT j (by omega)) g1, tOin_congr (fun j hj => hT j (by omega)) g2⟩, fun f f0 f1 => ?_, fun f d f0 f1 d0 d1 => ?_⟩
  · obtain ⟨a1, a2, a3⟩ := h1 f f0 f1
    rw [a1, a2, a3, tUses_congr (fun j hj => hT j (by omega)) (hT _ (by omega)) g1.1, hT _ (by omega), hT _ (by omega)]
    exact g3 f f0 f1
  · rw [h3 _ (by omega) (by omega)]
    obtain ⟨b1, b2⟩ := g4 f d f0 f1 d0 d1
    refine ⟨b1, fun p hp => ?_⟩
    rw [tOb_congr (fun j hj => hT j (by omega)) ⟨f0, f1⟩ (by omega)]
    exact b2 p hp
theorem rFr_fr {lo hi : Nat} (h : rFr x T μ) (hf : gFr lo hi μ μ') (hd : x + 5 ≤ lo ∨ hi ≤ x) (hT : ∀ j, (0 ≤ j ∧ j < 256) ∨ (1024 ≤ j ∧ j < 1664) ∨ j = 1672 → T' j = T j) : rFr x T' μ' :=
  rFr_tr h (fun i _ _ => ⟨hf _ _ (by omega), hf _ _ (by omega), hf _ _ (by omega)⟩) (fun i _ _ => hf _ _ (by omega)) hT
theorem k_stateOf {f : Int} (h : rFr x T μ) (hf : 0 ≤ f ∧ f < 64) : gE 121 0 [gO 1 x, gI f] [] μ Q = Q (tState T f) μ := by
  obtain ⟨b1, b2, b3, b4⟩ := h.2.1 f hf.1 hf.2
  have c0 := hf.1
  have c1 : f < ((64 : Nat) : Int) := hf.2
  unfold tState
  by_cases c : 0 < tUses T f
  · have c' : ¬ tUses T f ≤ 0 := by omega
    rw [if_pos c]
    simp (disch := first | assumption | omega) only [e121_0, e121_1, e121_4, e121_5, e121_8, e121_11, e121_12, e121_13, e121_14, e121_17, e121_18, e121_21, e121_22, e121_25, e121_26, e121_29, e121_30, gK0_eq, gK1_eq, gK3_eq, w32_id, bI_eq0, bI_eq1, Bool.false_eq_true, not_true_eq_false, not_false_eq_true, ne_eq, ite_not, ↓reduceIte, if_true, if_false, Int.reduceToNat, Nat.reduceAdd, Int.reduceEq, Int.reduceLT, Int.reduceLE, Int.reduceNeg, bI_T, bI_F, ↓if_pos, ↓if_neg, s_at, atv_in, b1, c']
  · have c' : tUses T f ≤ 0 := by omega
    rw [if_neg c]
    by_cases c2 : T (1024 + f) = 1
    · simp (disch := first | assumption | omega) only [e121_0, e121_1, e121_4, e121_5, e121_8, e121_11, e121_12, e121_13, e121_14, e121_17, e121_18, e121_21, e121_22, e121_25, e121_26, e121_29, e121_30, gK0_eq, gK1_eq, gK3_eq, w32_id, bI_eq0, bI_eq1, Bool.false_eq_true, not_true_eq_false, not_false_eq_true, ne_eq, ite_not, ↓reduceIte, if_true, if_false, Int.reduceToNat, Nat.reduceAdd, Int.reduceEq, Int.reduceLT, Int.reduceLE, Int.reduceNeg, bI_T, bI_F, ↓if_pos, ↓if_neg, s_at, atv_in, b1, b2, c', c2]
    · simp (disch := first | assumption | omega) only [e121_0, e121_1, e121_4, e121_5, e121_8, e121_11, e121_12, e121_13, e121_14, e121_17, e121_18, e121_21, e121_22, e121_25, e121_26, e121_29, e121_30, gK0_eq, gK1_eq, gK3_eq, w32_id, bI_eq0, bI_eq1, Bool.false_eq_true, not_true_eq_false, not_false_eq_true, ne_eq, ite_not, ↓reduceIte, if_true, if_false, Int.reduceToNat, Nat.reduceAdd, Int.reduceEq, Int.reduceLT, Int.reduceLE, Int.reduceNeg, bI_T, bI_F, ↓if_pos, ↓if_neg, s_at, atv_in, b1, b2, c', c2]
theorem k_howMany_loop {s : Int} (h : rFr x T μ) : ∀ (m : Nat) (f n : Int), 0 ≤ f → f + m = 64 → 0 ≤ n → n ≤ f →
    gE 122 4 [gO 1 x, gI s, gI n, gI f] [] μ Q = Q (n + cntF (fun f => decide (tState T f = s)) f m) μ := by
  intro m
  induction m with
  | zero =>
    intro f n f0 f1 n0 n1
    have c : 64 ≤ f := by omega
    rw [e122_4]
    simp (disch := first | assumption | omega) only [e122_0, e122_1, e122_2, e122_3, e122_5, e122_7, e122_10, e122_11, e122_12, e122_15, e122_16, e122_19, e122_22, e122_25, e122_28, e122_29, gK0_eq, gK1_eq, gK3_eq, w32_id, bI_eq0, bI_eq1, Bool.false_eq_true, not_true_eq_false, not_false_eq_true, ne_eq, ite_not, ↓reduceIte, if_true, if_false, Int.reduceToNat, Nat.reduceAdd, Int.reduceEq, Int.reduceLT, Int.reduceLE, Int.reduceNeg, bI_T, bI_F, ↓if_pos, ↓if_neg, c, cntF, Int.add_zero]
  | succ m ih =>
    intro f n f0 f1 n0 n1
    have c : ¬ 64 ≤ f := by omega
    have hf : 0 ≤ f ∧ f < 64 := by omega
    rw [e122_4]
    by_cases ha : tState T f = s
    · simp (disch := first | assumption | omega) only [e122_0, e122_1, e122_2, e122_3, e122_5, e122_7, e122_10, e122_11, e122_12, e122_15, e122_16, e122_19, e122_22, e122_25, e122_28, e122_29, gK0_eq, gK1_eq, gK3_eq, w32_id, bI_eq0, bI_eq1, Bool.false_eq_true, not_true_eq_false, not_false_eq_true, ne_eq, ite_not, ↓reduceIte, if_true, if_false, Int.reduceToNat, Nat.reduceAdd, Int.reduceEq, Int.reduceLT, Int.reduceLE, Int.reduceNeg, bI_T, bI_F, ↓if_pos, ↓if_neg, c, k_stateOf h hf, ha]
      rw [ih (f + 1) (n + 1) (by omega) (by omega) (by omega) (by omega), cntF_t (by simp [ha]), Int.add_assoc]
    · simp (disch := first | assumption | omega) only [e122_0, e122_1, e122_2, e122_3, e122_5, e122_7, e122_10, e122_11, e122_12, e122_15, e122_16, e122_19, e122_22, e122_25, e122_28, e122_29, gK0_eq, gK1_eq, gK3_eq, w32_id, bI_eq0, bI_eq1, Bool.false_eq_true, not_true_eq_false, not_false_eq_true, ne_eq, ite_not, ↓reduceIte, if_true, if_false, Int.reduceToNat, Nat.reduceAdd, Int.reduceEq, Int.reduceLT, Int.reduceLE, Int.reduceNeg, bI_T, bI_F, ↓if_pos, ↓if_neg, c, k_stateOf h hf, ha]
      rw [ih (f + 1) n (by omega) (by omega) (by omega) (by omega), cntF_f (by simp [ha])]
theorem k_howMany {s : Int} (h : rFr x T μ) : gE 122 0 [gO 1 x, gI s, gX, gX] [] μ Q = Q (tFrB T s) μ := by
  simp (disch := first | assumption | omega) only [e122_0, e122_1, e122_2, e122_3, e122_5, e122_7, e122_10, e122_11, e122_12, e122_15, e122_16, e122_19, e122_22, e122_25, e122_28, e122_29, gK0_eq, gK1_eq, gK3_eq, w32_id, bI_eq0, bI_eq1, Bool.false_eq_true, not_true_eq_false, not_false_eq_true, ne_eq, ite_not, ↓reduceIte, if_true, if_false, Int.reduceToNat, Nat.reduceAdd, Int.reduceEq, Int.reduceLT, Int.reduceLE, Int.reduceNeg, bI_T, bI_F]
  rw [k_howMany_loop h 64 0 0 (by omega) (by omega) (by omega) (by omega), Int.zero_add]
  rfl
theorem tOpn_iff (h : tOin T) {f : Int} (hf : 0 ≤ f ∧ f < 64) : tOpn T f = false ↔ ∀ i, 0 ≤ i → i < 256 → tOb T f i = false := by
  unfold tOpn
  constructor
  · intro q i i0 i1
    cases hb : tOb T f i with
    | false => rfl
    | true =>
      have := (anyF_iff (fun k => decide (T (1152 + 8 * f + k) ≠ 0)) 8 0).mpr ⟨i / 32, by omega, by omega, by
        rw [decide_eq_true_eq]
        exact (bt_any (h f (i / 32) hf.1 hf.2 (by omega) (by omega))).mpr ⟨(i % 32).toNat, by omega, hb⟩⟩
      rw [q] at this
      exact this.symm
  · intro q
    cases ha : anyF (fun k => decide (T (1152 + 8 * f + k) ≠ 0)) 0 8 with
    | false => rfl
    | true =>
      obtain ⟨w, w0, w1, w2⟩ := (anyF_iff _ _ _).mp ha
      rw [decide_eq_true_eq] at w2
      obtain ⟨k, hk, hb⟩ := (bt_any (h f w hf.1 hf.2 w0 (by omega))).mp w2
      have := q (32 * w + k) (by omega) (by omega)
      unfold tOb at this
      rw [show (32 * w + k) / 32 = w by omega, show ((32 * w + (k : Int)) % 32).toNat = k by omega, hb] at this
      exact this
theorem k_allCovered_loop {f : Int} (h : rFr x T μ) (hf : 0 ≤ f ∧ f < 64) : ∀ (m : Nat) (d s : Int) (l5 : gv) (r : Bool), 0 ≤ d → d + m = 4 → in64 s → (r = true ↔ ((∀ k : Nat, k < 64 → btl s k = false) ∧ ∀ i, 64 * d ≤ i → i < 256 → tOb T f i = false)) →
    gE 127 5 [gO 1 x, gI f, gJ s, gX, gI d, l5] [] μ Q = Q (bI (r = true)) μ := by
  have g4 := h.2.2
  intro m
  induction m with
  | zero =>
    intro d s l5 r d0 d1 hs hr
    have c : 4 ≤ d := by omega
    rw [e127_5]
    by_cases cs : s = 0
    · rw [bI_t (hr.mpr ⟨fun k _ => by rw [cs, btl_zero], fun i i0 i1 => by omega⟩)]
      simp (disch := first | assumption | omega) only [e127_0, e127_1, e127_2, e127_3, e127_7, e127_8, e127_11, e127_12, e127_13, e127_14, e127_16, e127_17, e127_19, e127_21, e127_24, e127_26, e127_27, e127_30, e127_31, e127_34, e127_35, e127_36, e127_39, e127_41, e127_42, e127_43, e127_44, e127_47, e127_50, e127_51, e127_52, e127_53, e127_56, e127_57, e127_60, e127_61, gK0_eq, gK1_eq, gK3_eq, w32_id, bI_eq0, bI_eq1, Bool.false_eq_true, not_true_eq_false, not_false_eq_true, ne_eq, ite_not, ↓reduceIte, if_true, if_false, Int.reduceToNat, Nat.reduceAdd, Int.reduceEq, Int.reduceLT, Int.reduceLE, Int.reduceNeg, bI_T, bI_F, ↓if_pos, ↓if_neg, c, lcmp64_0, cs]
    · rw [bI_f (fun q => by
        obtain ⟨k, hk, hb⟩ := (btl_any hs).mp cs
        rw [(hr.mp q).1 k hk] at hb
        exact Bool.noConfusion hb)]
      simp (disch := first | assumption | omega) only [e127_0, e127_1, e127_2, e127_3, e127_7, e127_8, e127_11, e127_12, e127_13, e127_14, e127_16, e127_17, e127_19, e127_21, e127_24, e127_26, e127_27, e127_30, e127_31, e127_34, e127_35, e127_36, e127_39, e127_41, e127_42, e127_43, e127_44, e127_47, e127_50, e127_51, e127_52, e127_53, e127_56, e127_57, e127_60, e127_61, gK0_eq, gK1_eq, gK3_eq, w32_id, bI_eq0, bI_eq1, Bool.false_eq_true, not_true_eq_false, not_false_eq_true, ne_eq, ite_not, ↓reduceIte, if_true, if_false, Int.reduceToNat, Nat.reduceAdd, Int.reduceEq, Int.reduceLT, Int.reduceLE, Int.reduceNeg, bI_T, bI_F, ↓if_pos, ↓if_neg, c, lcmp64_0, cs]
  | succ m ih =>
    intro d s l5 r d0 d1 hs hr
    have c : ¬ 4 ≤ d := by omega
    have c0 : 0 ≤ 4 * f + d := by omega
    have c00 : ¬ 4 * f + d < 0 := by omega
    have c1 : 4 * f + d < ((256 : Nat) : Int) := by omega
    have c2 : ¬ ((256 : Nat) : Int) ≤ 4 * f + d := by omega
    have e4 : f * 4 + d = 4 * f + d := by omega
    obtain ⟨b1, b2⟩ := g4 f d hf.1 hf.2 d0 (by omega)
    rw [e127_5]
    simp (disch := first | assumption | omega) only [e127_0, e127_1, e127_2, e127_3, e127_7, e127_8, e127_11, e127_12, e127_13, e127_14, e127_16, e127_17, e127_19, e127_21, e127_24, e127_26, e127_27, e127_30, e127_31, e127_34, e127_35, e127_36, e127_39, e127_41, e127_42, e127_43, e127_44, e127_47, e127_50, e127_51, e127_52, e127_53, e127_56, e127_57, e127_60, e127_61, gK0_eq, gK1_eq, gK3_eq, w32_id, bI_eq0, bI_eq1, Bool.false_eq_true, not_true_eq_false, not_false_eq_true, ne_eq, ite_not, ↓reduceIte, if_true, if_false, Int.reduceToNat, Nat.reduceAdd, Int.reduceEq, Int.reduceLT, Int.reduceLE, Int.reduceNeg, bI_T, bI_F, ↓if_pos, ↓if_neg, c, e4, c00, c2]
    rw [ih (d + 1) _ _ r (by omega) (by omega) in64_or]
    rw [hr]
    constructor
    · rintro ⟨q1, q2⟩
      refine ⟨fun k hk => ?_, fun i i0 i1 => q2 i (by omega) i1⟩
      rw [btl_or, q1 k hk, b2 k hk, q2 _ (by omega) (by omega)]
      rfl
    · rintro ⟨q1, q2⟩
      refine ⟨fun k hk => ?_, fun i i0 i1 => ?_⟩
      · have := q1 k hk
        rw [btl_or, Bool.or_eq_false_iff] at this
        exact this.1
      · by_cases ci : i < 64 * (d + 1)
        · have := q1 (i - 64 * d).toNat (by omega)
          rw [btl_or, Bool.or_eq_false_iff, b2 _ (by omega), show 64 * d + ((i - 64 * d).toNat : Int) = i by omega] at this
          exact this.2
        · exact q2 i (by omega) i1
theorem k_allCovered {f : Int} (h : rFr x T μ) (hf : 0 ≤ f ∧ f < 64) : gE 127 0 [gO 1 x, gI f, gX, gX, gX, gX] [] μ Q = Q (bI (tOpn T f = false)) μ := by
  have key := tOpn_iff h.1.2 hf
  simp (disch := first | assumption | omega) only [e127_0, e127_1, e127_2, e127_3, e127_7, e127_8, e127_11, e127_12, e127_13, e127_14, e127_16, e127_17, e127_19, e127_21, e127_24, e127_26, e127_27, e127_30, e127_31, e127_34, e127_35, e127_36, e127_39, e127_41, e127_42, e127_43, e127_44, e127_47, e127_50, e127_51, e127_52, e127_53, e127_56, e127_57, e127_60, e127_61, gK0_eq, gK1_eq, gK3_eq, w32_id, bI_eq0, bI_eq1, Bool.false_eq_true, not_true_eq_false, not_false_eq_true, ne_eq, ite_not, ↓reduceIte, if_true, if_false, Int.reduceToNat, Nat.reduceAdd, Int.reduceEq, Int.reduceLT, Int.reduceLE, Int.reduceNeg, bI_T, bI_F]
  rw [k_allCovered_loop h hf 4 0 0 gX (!tOpn T f) (by omega) (by omega) (by unfold in64; omega)]
  · congr 1
    apply bI_congr
    simp
  · rw [Bool.not_eq_true', key]
    constructor
    · intro q; exact ⟨fun k _ => btl_zero, fun i i0 i1 => q i (by omega) i1⟩
    · rintro ⟨-, q⟩ i i0 i1; exact q i (by omega) i1
theorem k_freedBy {f st : Int} (h : rFr x T μ) (hf : 0 ≤ f ∧ f < 64) : gE 126 0 [gO 1 x, gI f, gI st] [] μ Q = Q (bI (tState T f = 2 ∧ tOpn T f = false ∧ T (1088 + f) < st)) μ := by
  obtain ⟨b1, b2, b3, b4⟩ := h.2.1 f hf.1 hf.2
  have c0 := hf.1
  have c1 : f < ((64 : Nat) : Int) := hf.2
  by_cases q1 : tState T f = 2
  · cases q2 : tOpn T f with
    | true =>
      rw [bI_f (fun z => Bool.noConfusion z.2.1)]
      simp (disch := first | assumption | omega) only [e126_0, e126_1, e126_2, e126_5, e126_6, e126_9, e126_10, e126_11, e126_14, e126_17, e126_18, e126_21, e126_22, e126_25, e126_26, e126_29, e126_30, e126_33, e126_34, gK0_eq, gK1_eq, gK3_eq, w32_id, bI_eq0, bI_eq1, Bool.false_eq_true, not_true_eq_false, not_false_eq_true, ne_eq, ite_not, ↓reduceIte, if_true, if_false, Int.reduceToNat, Nat.reduceAdd, Int.reduceEq, Int.reduceLT, Int.reduceLE, Int.reduceNeg, bI_T, bI_F, ↓if_pos, ↓if_neg, k_stateOf h hf, q1, k_allCovered h hf, q2, Bool.true_eq_false]
    | false =>
      by_cases q3 : T (1088 + f) < st
      · have q4 : ¬ st ≤ T (1088 + f) := by omega
        rw [bI_t ⟨q1, rfl, q3⟩]
        simp (disch := first | assumption | omega) only [e126_0, e126_1, e126_2, e126_5, e126_6, e126_9, e126_10, e126_11, e126_14, e126_17, e126_18, e126_21, e126_22, e126_25, e126_26, e126_29, e126_30, e126_33, e126_34, gK0_eq, gK1_eq, gK3_eq, w32_id, bI_eq0, bI_eq1, Bool.false_eq_true, not_true_eq_false, not_false_eq_true, ne_eq, ite_not, ↓reduceIte, if_true, if_false, Int.reduceToNat, Nat.reduceAdd, Int.reduceEq, Int.reduceLT, Int.reduceLE, Int.reduceNeg, bI_T, bI_F, ↓if_pos, ↓if_neg, k_stateOf h hf, q1, k_allCovered h hf, q2, s_at, atv_in, b4, q4]
      · have q4 : st ≤ T (1088 + f) := by omega
        rw [bI_f (fun z => q3 z.2.2)]
        simp (disch := first | assumption | omega) only [e126_0, e126_1, e126_2, e126_5, e126_6, e126_9, e126_10, e126_11, e126_14, e126_17, e126_18, e126_21, e126_22, e126_25, e126_26, e126_29, e126_30, e126_33, e126_34, gK0_eq, gK1_eq, gK3_eq, w32_id, bI_eq0, bI_eq1, Bool.false_eq_true, not_true_eq_false, not_false_eq_true, ne_eq, ite_not, ↓reduceIte, if_true, if_false, Int.reduceToNat, Nat.reduceAdd, Int.reduceEq, Int.reduceLT, Int.reduceLE, Int.reduceNeg, bI_T, bI_F, ↓if_pos, ↓if_neg, k_stateOf h hf, q1, k_allCovered h hf, q2, s_at, atv_in, b4, q4]
  · rw [bI_f (fun z => q1 z.1)]
    simp (disch := first | assumption | omega) only [e126_0, e126_1, e126_2, e126_5, e126_6, e126_9, e126_10, e126_11, e126_14, e126_17, e126_18, e126_21, e126_22, e126_25, e126_26, e126_29, e126_30, e126_33, e126_34, gK0_eq, gK1_eq, gK3_eq, w32_id, bI_eq0, bI_eq1, Bool.false_eq_true, not_true_eq_false, not_false_eq_true, ne_eq, ite_not, ↓reduceIte, if_true, if_false, Int.reduceToNat, Nat.reduceAdd, Int.reduceEq, Int.reduceLT, Int.reduceLE, Int.reduceNeg, bI_T, bI_F, ↓if_pos, ↓if_neg, k_stateOf h hf, q1]
theorem rFr_left {T : Int → Int} {μ : gM} {f v : Int} (h : rFr x T μ) (hf : 0 ≤ f ∧ f < 64) (hv : v = 0 ∨ v = 1) : rFr x (tS T (1024 + f) v) (gS μ (x + 2) f v) := by
  obtain ⟨⟨g1, g2⟩, g3, g4⟩ := h
  refine ⟨⟨tDo_congr (fun j hj => tS_ne (by omega)) g1, tOin_congr (fun j hj => tS_ne (by omega)) g2⟩, fun i i0 i1 => ?_, fun i d i0 i1 d0 d1 => ?_⟩
  · obtain ⟨b1, b2, b3, b4⟩ := g3 i i0 i1
    have n1 : gS μ (x + 2) f v (x + 1) i = μ (x + 1) i := gS_neK (by omega)
    have n4 : gS μ (x + 2) f v (x + 4) i = μ (x + 4) i := gS_neK (by omega)
    rw [tUses_congr (T := T) (fun j hj => tS_ne (by omega)) (tS_ne (by omega)) g1.1, n1, n4, tS_ne (show 1088 + i ≠ 1024 + f by omega)]
    by_cases c : i = f
    · subst c
      rw [tS_same, gS_same]
      exact ⟨b1, rfl, hv, b4⟩
    · rw [tS_ne (by omega), gS_neI c]
      exact ⟨b1, b2, b3, b4⟩
  · obtain ⟨b1, b2⟩ := g4 i d i0 i1 d0 d1
    rw [gS_neK (by omega)]
    refine ⟨b1, fun p hp => ?_⟩
    rw [tOb_congr (T := T) (fun j hj => tS_ne (by omega)) ⟨i0, i1⟩ (by omega)]
    exact b2 p hp
theorem k_pass_loop {st : Int} : ∀ (m : Nat) (f : Int) (T : Int → Int) (μ : gM), rFr x T μ → 0 ≤ f → f + m = 64 →
    ∃ μ', gFr x (x + 5) μ μ' ∧ rFr x (itF (fun f T => tPa1 st f T) f m T) μ' ∧ ∀ Q : Int → gM → Prop, gE 128 2 [gO 1 x, gI st, gI f] [] μ Q = Q 0 μ' := by
  intro m
  induction m with
  | zero =>
    intro f T μ h f0 f1
    have c : 64 ≤ f := by omega
    refine ⟨μ, gFr_refl, h, fun Q => ?_⟩
    rw [e128_2]
    simp (disch := first | assumption | omega) only [e128_0, e128_1, e128_3, e128_5, e128_8, e128_9, e128_10, e128_11, e128_14, e128_17, e128_18, e128_21, e128_22, e128_23, e128_26, e128_29, e128_32, gK0_eq, gK1_eq, gK3_eq, w32_id, bI_eq0, bI_eq1, Bool.false_eq_true, not_true_eq_false, not_false_eq_true, ne_eq, ite_not, ↓reduceIte, if_true, if_false, Int.reduceToNat, Nat.reduceAdd, Int.reduceEq, Int.reduceLT, Int.reduceLE, Int.reduceNeg, bI_T, bI_F, ↓if_pos, ↓if_neg, c]
  | succ m ih =>
    intro f T μ h f0 f1
    have c : ¬ 64 ≤ f := by omega
    have hf : 0 ≤ f ∧ f < 64 := by omega
    have c1 : f < ((64 : Nat) : Int) := hf.2
    rw [itF]
    by_cases q : tState T f = 2 ∧ tOpn T f = false ∧ T (1088 + f) < st
    · have e : tPa1 st f T = tS T (1024 + f) 0 := if_pos q
      have r1 := rFr_left (v := 0) h hf (Or.inl rfl)
      obtain ⟨μ2, f2, r2, run2⟩ := ih (f + 1) _ _ r1 (by omega) (by omega)
      rw [e]
      refine ⟨μ2, gFr_trans (gFr_gS gFr_refl (by omega) (by omega)) f2, r2, fun Q => ?_⟩
      rw [e128_2]
      simp (disch := first | assumption | omega) only [e128_0, e128_1, e128_3, e128_5, e128_8, e128_9, e128_10, e128_11, e128_14, e128_17, e128_18, e128_21, e128_22, e128_23, e128_26, e128_29, e128_32, gK0_eq, gK1_eq, gK3_eq, w32_id, bI_eq0, bI_eq1, Bool.false_eq_true, not_true_eq_false, not_false_eq_true, ne_eq, ite_not, ↓reduceIte, if_true, if_false, Int.reduceToNat, Nat.reduceAdd, Int.reduceEq, Int.reduceLT, Int.reduceLE, Int.reduceNeg, bI_T, bI_F, ↓if_pos, ↓if_neg, c, k_freedBy h hf, bI_t q, s_put', putv_in, run2]
    · have e : tPa1 st f T = T := if_neg q
      obtain ⟨μ2, f2, r2, run2⟩ := ih (f + 1) _ _ h (by omega) (by omega)
      rw [e]
      refine ⟨μ2, f2, r2, fun Q => ?_⟩
      rw [e128_2]
      simp (disch := first | assumption | omega) only [e128_0, e128_1, e128_3, e128_5, e128_8, e128_9, e128_10, e128_11, e128_14, e128_17, e128_18, e128_21, e128_22, e128_23, e128_26, e128_29, e128_32, gK0_eq, gK1_eq, gK3_eq, w32_id, bI_eq0, bI_eq1, Bool.false_eq_true, not_true_eq_false, not_false_eq_true, ne_eq, ite_not, ↓reduceIte, if_true, if_false, Int.reduceToNat, Nat.reduceAdd, Int.reduceEq, Int.reduceLT, Int.reduceLE, Int.reduceNeg, bI_T, bI_F, ↓if_pos, ↓if_neg, c, k_freedBy h hf, bI_f q, run2]
theorem k_pass {st : Int} (h : rFr x T μ) : ∃ μ', gFr x (x + 5) μ μ' ∧ rFr x (tPas T st) μ' ∧ ∀ Q : Int → gM → Prop, gE 128 0 [gO 1 x, gI st, gX] [] μ Q = Q 0 μ' := by
  have h' : rFr x (tS T 1812 (w32 (T 1812 + 1))) μ := rFr_tr h (fun i _ _ => ⟨rfl, rfl, rfl⟩) (fun i _ _ => rfl) (fun j hj => tS_ne (by omega))
  obtain ⟨μ1, f1, r1, run1⟩ := k_pass_loop (st := st) 64 0 _ μ h' (by omega) (by omega)
  refine ⟨μ1, f1, r1, fun Q => ?_⟩
  simp (disch := first | assumption | omega) only [e128_0, e128_1, e128_3, e128_5, e128_8, e128_9, e128_10, e128_11, e128_14, e128_17, e128_18, e128_21, e128_22, e128_23, e128_26, e128_29, e128_32, gK0_eq, gK1_eq, gK3_eq, w32_id, bI_eq0, bI_eq1, Bool.false_eq_true, not_true_eq_false, not_false_eq_true, ne_eq, ite_not, ↓reduceIte, if_true, if_false, Int.reduceToNat, Nat.reduceAdd, Int.reduceEq, Int.reduceLT, Int.reduceLE, Int.reduceNeg, bI_T, bI_F, run1]
theorem cntF_one {P P' : Int → Bool} {i : Int} : ∀ (n : Nat) (k : Int), k ≤ i → i < k + n → (∀ j, k ≤ j → j < k + n → j ≠ i → P' j = P j) → cntF P' k n + (if P i = true then 1 else 0) = cntF P k n + (if P' i = true then 1 else 0) := by
  intro n
  induction n with
  | zero => intro k h0 h1; omega
  | succ n ih =>
    intro k h0 h1 h
    rw [cntF, cntF]
    by_cases c : k = i
    · rw [c, cntF_congr n (i + 1) (fun j j0 j1 => h j (by omega) (by omega) (by omega))]
      omega
    · have := ih (k + 1) (by omega) (by omega) (fun j j0 j1 => h j (by omega) (by omega))
      rw [h k (by omega) (by omega) c]
      omega
theorem k_Fenter {d p f r : Int} (h : rFr x T μ) (hd : 0 ≤ d ∧ d < T 1672) (hp : 0 ≤ p ∧ p < 64) (hu : T (64 * d + p) < 0) (hf : 0 ≤ f ∧ f < 64) : ∃ μ', gFr x (x + 5) μ μ' ∧ rFr x (tMaps T d p f r 0) μ' ∧ ∀ Q : Int → gM → Prop, gE 123 0 [gO 1 x, gI f] [] μ Q = Q 0 μ' := by
  obtain ⟨⟨g1, g2⟩, g3, g4⟩ := h
  have hD := g1.1
  have hd4 : 0 ≤ d ∧ d < 4 := by omega
  have b1 := (g3 f hf.1 hf.2).1
  have c0 := hf.1
  have c1 : f < ((64 : Nat) : Int) := hf.2
  have un := cntF_nn (fun k => decide (T k = f)) (64 * T 1672).toNat 0
  have un1 : -2147483648 ≤ tUses T f + 1 := by unfold tUses; omega
  have un2 : tUses T f + 1 < 2147483648 := by unfold tUses; omega
  have m1 := (tMaps_at (T := T) (f := f) (r := r) (g := 0) hd4 hp).1
  have u : ∀ f', 0 ≤ f' → tUses (tMaps T d p f r 0) f' = tUses T f' + (if f' = f then 1 else 0) := fun f' f0 => by
    have k := cntF_one (P := fun k => decide (T k = f')) (P' := fun k => decide (tMaps T d p f r 0 k = f')) (i := 64 * d + p) (64 * T 1672).toNat 0 (by omega) (by omega) (fun j j0 j1 hj => by rw [tMaps_lo (by omega)])
    rw [m1, decide_eq_false (show ¬ T (64 * d + p) = f' by omega)] at k
    unfold tUses
    rw [tMaps_lo (by omega)]
    rw [if_neg Bool.noConfusion, Int.add_zero] at k
    rw [k]
    congr 1
    by_cases c : f' = f
    · rw [if_pos c, if_pos (by simp [c])]
    · rw [if_neg c, if_neg (by simp; omega)]
  refine ⟨gS μ (x + 1) f (tUses T f + 1), gFr_gS gFr_refl (by omega) (by omega), ⟨⟨?_, tOin_congr (fun j hj => tMaps_lo (by omega)) g2⟩, fun i i0 i1 => ?_, fun i e i0 i1 e0 e1 => ?_⟩, fun Q => ?_⟩
  · refine ⟨by rw [tMaps_lo (by omega)]; exact hD, fun k k0 k1 k2 => ?_⟩
    rw [tMaps_lo (by omega)] at k2
    rw [tMaps_lo (by omega)]
    exact g1.2 k k0 k1 k2
  · obtain ⟨b1, b2, b3, b4⟩ := g3 i i0 i1
    have n2 : gS μ (x + 1) f (tUses T f + 1) (x + 2) i = μ (x + 2) i := gS_neK (by omega)
    have n4 : gS μ (x + 1) f (tUses T f + 1) (x + 4) i = μ (x + 4) i := gS_neK (by omega)
    have l2 : tMaps T d p f r 0 (1024 + i) = T (1024 + i) := tMaps_lo (by omega)
    have l4 : tMaps T d p f r 0 (1088 + i) = T (1088 + i) := tMaps_lo (by omega)
    rw [u i i0, l2, l4, n2, n4]
    by_cases c : i = f
    · subst c
      rw [gS_same, if_pos rfl]
      exact ⟨rfl, b2, b3, b4⟩
    · rw [gS_neI c, if_neg c, Int.add_zero]
      exact ⟨b1, b2, b3, b4⟩
  · obtain ⟨b1, b2⟩ := g4 i e i0 i1 e0 e1
    rw [gS_neK (by omega)]
    refine ⟨b1, fun q hq => ?_⟩
    rw [tOb_congr (T := T) (fun j hj => tMaps_lo (by omega)) ⟨i0, i1⟩ (by omega)]
    exact b2 q hq
  · simp (disch := first | assumption | omega) only [e123_0, e123_1, e123_4, e123_5, e123_6, e123_9, e123_10, e123_13, e123_14, e123_15, e123_18, gK0_eq, gK1_eq, gK3_eq, w32_id, bI_eq0, bI_eq1, Bool.false_eq_true, not_true_eq_false, not_false_eq_true, ne_eq, ite_not, ↓reduceIte, if_true, if_false, Int.reduceToNat, Nat.reduceAdd, Int.reduceEq, Int.reduceLT, Int.reduceLE, Int.reduceNeg, bI_T, bI_F, ↓if_pos, ↓if_neg, s_at, atv_in, s_put', putv_in, b1]
theorem tUn_eq {d p : Int} : tUn T d p = tS (tS (tLv T d p) (1024 + T (64 * d + p)) 1) (1152 + 8 * T (64 * d + p) + (64 * d + p) / 32) (ior32 (T (1152 + 8 * T (64 * d + p) + (64 * d + p) / 32)) (ishl32 1 ((64 * d + p) % 32))) := rfl
theorem tLv_hi {d p j : Int} (hd : 0 ≤ d ∧ d < 4) (hp : 0 ≤ p ∧ p < 64) (hj : 1024 ≤ j) : tLv T d p j = T j := by
  rw [tLv_at hd hp, if_neg (by omega), if_neg (by omega), if_neg (by omega)]
theorem tUn_ob {d p : Int} (hd : 0 ≤ d ∧ d < 4) (hp : 0 ≤ p ∧ p < 64) (hm : 0 ≤ T (64 * d + p) ∧ T (64 * d + p) < 64) {f i : Int} (hf : 0 ≤ f ∧ f < 64) (hi : 0 ≤ i ∧ i < 256) : tOb (tUn T d p) f i = (tOb T f i || (decide (f = T (64 * d + p)) && decide (i = 64 * d + p))) := by
  unfold tOb
  rw [tUn_eq]
  by_cases c : f = T (64 * d + p) ∧ i / 32 = (64 * d + p) / 32
  · rw [c.1, c.2, tS_same, bt_or, bt_shl (by omega) (by omega)]
    congr 1
    rw [decide_eq_true (show T (64 * d + p) = T (64 * d + p) from rfl), Bool.true_and]
    exact decide_eq_decide.mpr (by omega)
  · rw [tS_ne (by omega), tS_ne (by omega), tLv_hi hd hp (by omega)]
    by_cases c1 : f = T (64 * d + p)
    · rw [decide_eq_false (show ¬ i = 64 * d + p from fun q => c ⟨c1, by rw [q]⟩)]
      simp
    · rw [decide_eq_false c1]
      simp
theorem k_Fleave {d p : Int} (h : rFr x T μ) (hd : 0 ≤ d ∧ d < T 1672) (hp : 0 ≤ p ∧ p < 64) (hm : 0 ≤ T (64 * d + p) ∧ T (64 * d + p) < 64) : ∃ μ', gFr x (x + 5) μ μ' ∧ rFr x (tUn T d p) μ' ∧ ∀ Q : Int → gM → Prop, gE 124 0 [gO 1 x, gI (T (64 * d + p)), gI d, gI p, gX] [] μ Q = Q 0 μ' := by
  obtain ⟨⟨g1, g2⟩, g3, g4⟩ := h
  have hD := g1.1
  have hd4 : 0 ≤ d ∧ d < 4 := by omega
  obtain ⟨b1, b2, b3, b4⟩ := g3 _ hm.1 hm.2
  obtain ⟨w1, w2⟩ := g4 _ d hm.1 hm.2 hd4.1 hd4.2
  have un := cntF_nn (fun k => decide (T k = T (64 * d + p))) (64 * T 1672).toNat 0
  have un1 : -2147483648 ≤ tUses T (T (64 * d + p)) - 1 := by unfold tUses; omega
  have un2 : tUses T (T (64 * d + p)) - 1 < 2147483648 := by unfold tUses; omega
  have lo : ∀ j, j < 1024 ∨ j = 1672 ∨ (1088 ≤ j ∧ j < 1152) → tUn T d p j = tLv T d p j := fun j hj => by rw [tUn_eq, tS_ne (by omega), tS_ne (by omega)]
  have l1672 : tUn T d p 1672 = T 1672 := by rw [lo _ (by omega), tLv_hi hd4 hp (by omega)]
  have fr : ∀ j, 0 ≤ j → j < 256 → tUn T d p j = if j = 64 * d + p then -1 else T j := fun j j0 j1 => by
    rw [lo _ (by omega), tLv_at hd4 hp]
    by_cases c : j = 64 * d + p
    · rw [if_pos c, if_pos c]
    · rw [if_neg c, if_neg c, if_neg (by omega), if_neg (by omega)]
  have hl : ∀ f, 0 ≤ f → f < 64 → tUn T d p (1024 + f) = if f = T (64 * d + p) then 1 else T (1024 + f) := fun f f0 f1 => by
    rw [tUn_eq, tS_ne (by omega)]
    by_cases c : f = T (64 * d + p)
    · rw [if_pos c, c, tS_same]
    · rw [if_neg c, tS_ne (by omega), tLv_hi hd4 hp (by omega)]
  have u : ∀ f', 0 ≤ f' → tUses (tUn T d p) f' = tUses T f' - (if f' = T (64 * d + p) then 1 else 0) := fun f' f0 => by
    have k := cntF_one (P := fun k => decide (T k = f')) (P' := fun k => decide (tUn T d p k = f')) (i := 64 * d + p) (64 * T 1672).toNat 0 (by omega) (by omega) (fun j j0 j1 hj => by rw [fr j (by omega) (by omega), if_neg hj])
    rw [fr (64 * d + p) (by omega) (by omega), if_pos rfl, decide_eq_false (show ¬ (-1 : Int) = f' by omega), if_neg Bool.noConfusion (c := false = true), Int.add_zero] at k
    unfold tUses
    rw [l1672, ← k]
    by_cases c : f' = T (64 * d + p)
    · rw [if_pos c, if_pos (by simp [c])]; omega
    · rw [if_neg c, if_neg (by simp; omega)]; omega
  have c0 := hm.1
  have c1 : T (64 * d + p) < ((64 : Nat) : Int) := hm.2
  have d0 : 0 ≤ 4 * T (64 * d + p) + d := by omega
  have d00 : ¬ 4 * T (64 * d + p) + d < 0 := by omega
  have d1 : 4 * T (64 * d + p) + d < ((256 : Nat) : Int) := by omega
  have d2 : ¬ ((256 : Nat) : Int) ≤ 4 * T (64 * d + p) + d := by omega
  have e4 : T (64 * d + p) * 4 + d = 4 * T (64 * d + p) + d := by omega
  refine ⟨gS (gS (gS μ (x + 1) (T (64 * d + p)) (tUses T (T (64 * d + p)) - 1)) (x + 2) (T (64 * d + p)) 1) (x + 3) (4 * T (64 * d + p) + d) (lor64 (μ (x + 3) (4 * T (64 * d + p) + d)) (lshl64 1 p)), gFr_gS (gFr_gS (gFr_gS gFr_refl (by omega) (by omega)) (by omega) (by omega)) (by omega) (by omega), ⟨⟨?_, fun f w f0 f1 w0 w1 => ?_⟩, fun i i0 i1 => ?_, fun i e i0 i1 e0 e1 => ?_⟩, fun Q => ?_⟩
  · refine ⟨by rw [l1672]; exact hD, fun k k0 k1 k2 => ?_⟩
    rw [l1672] at k2
    rw [fr k k0 k1]
    split
    · omega
    · exact g1.2 k k0 k1 k2
  · rw [tUn_eq]
    by_cases c : 1152 + 8 * f + w = 1152 + 8 * T (64 * d + p) + (64 * d + p) / 32
    · rw [c, tS_same]; exact in32_or
    · rw [tS_ne c, tS_ne (by omega), tLv_hi hd4 hp (by omega)]
      exact g2 f w f0 f1 w0 w1
  · obtain ⟨b1, b2, b3, b4⟩ := g3 i i0 i1
    have r4 : tUn T d p (1088 + i) = T (1088 + i) := by rw [lo _ (by omega), tLv_hi hd4 hp (by omega)]
    have n1 : ∀ a b : Int, gS (gS (gS μ (x + 1) (T (64 * d + p)) a) (x + 2) (T (64 * d + p)) 1) (x + 3) (4 * T (64 * d + p) + d) b (x + 1) i = if i = T (64 * d + p) then a else μ (x + 1) i := fun a b => by
      rw [gS_neK (by omega), gS_neK (by omega)]
      split
      · rename_i c; rw [c, gS_same]
      · rename_i c; rw [gS_neI c]
    have n2 : ∀ a b : Int, gS (gS (gS μ (x + 1) (T (64 * d + p)) a) (x + 2) (T (64 * d + p)) 1) (x + 3) (4 * T (64 * d + p) + d) b (x + 2) i = if i = T (64 * d + p) then 1 else μ (x + 2) i := fun a b => by
      rw [gS_neK (by omega)]
      split
      · rename_i c; rw [c, gS_same]
      · rename_i c; rw [gS_neI c, gS_neK (by omega)]
    have n4 : ∀ a b : Int, gS (gS (gS μ (x + 1) (T (64 * d + p)) a) (x + 2) (T (64 * d + p)) 1) (x + 3) (4 * T (64 * d + p) + d) b (x + 4) i = μ (x + 4) i := fun a b => by
      rw [gS_neK (by omega), gS_neK (by omega), gS_neK (by omega)]
    rw [u i i0, hl i i0 i1, r4, n1, n2, n4]
    by_cases c : i = T (64 * d + p)
    · rw [if_pos c, if_pos c, if_pos c, if_pos c, ← c]
      exact ⟨rfl, rfl, Or.inr rfl, b4⟩
    · rw [if_neg c, if_neg c, if_neg c, if_neg c, Int.sub_zero]
      exact ⟨b1, b2, b3, b4⟩
  · obtain ⟨v1, v2⟩ := g4 i e i0 i1 e0 e1
    by_cases c : i = T (64 * d + p) ∧ e = d
    · rw [c.1, c.2, gS_same]
      refine ⟨in64_or, fun q hq => ?_⟩
      rw [btl_or, w2 q hq, btl_shl hp hq, tUn_ob hd4 hp hm hm (by omega), decide_eq_true (show T (64 * d + p) = T (64 * d + p) from rfl), Bool.true_and]
      congr 1
      exact decide_eq_decide.mpr (by omega)
    · rw [gS_neI (by omega), gS_neK (by omega), gS_neK (by omega)]
      refine ⟨v1, fun q hq => ?_⟩
      rw [v2 q hq, tUn_ob hd4 hp hm ⟨i0, i1⟩ (by omega)]
      by_cases c1 : i = T (64 * d + p)
      · rw [decide_eq_false (show ¬ 64 * e + (q : Int) = 64 * d + p by omega)]; simp
      · rw [decide_eq_false c1]; simp
  · simp (disch := first | assumption | omega) only [e124_0, e124_1, e124_4, e124_5, e124_6, e124_9, e124_10, e124_13, e124_14, e124_15, e124_18, e124_19, e124_22, e124_23, e124_24, e124_27, e124_28, e124_29, e124_30, e124_31, e124_32, e124_34, e124_36, e124_39, e124_41, e124_42, e124_45, e124_46, e124_49, e124_50, e124_53, e124_55, e124_56, e124_57, e124_58, e124_59, e124_60, e124_61, e124_62, gK0_eq, gK1_eq, gK3_eq, w32_id, bI_eq0, bI_eq1, Bool.false_eq_true, not_true_eq_false, not_false_eq_true, ne_eq, ite_not, ↓reduceIte, if_true, if_false, Int.reduceToNat, Nat.reduceAdd, Int.reduceEq, Int.reduceLT, Int.reduceLE, Int.reduceNeg, bI_T, bI_F, ↓if_pos, ↓if_neg, s_at, atv_in, s_put', putv_in, b1, gS_neK, e4, d00, d2]
theorem mCv_end {d m ar k : Int} (hk : 64 ≤ k) : mCv x d m ar k μ = μ := by
  funext a j
  unfold mCv
  rw [if_neg (by omega), if_neg (by omega)]
theorem mCv_3 {d m ar k j : Int} : mCv x d m ar k μ (x + 3) j = if j % 4 = d ∧ k ≤ j / 4 ∧ j / 4 < 64 ∧ land64 (μ (x + 3) j) m ≠ 0 then land64 (μ (x + 3) j) (lxor64 m (-1)) else μ (x + 3) j := by
  unfold mCv
  by_cases q : j % 4 = d ∧ k ≤ j / 4 ∧ j / 4 < 64 ∧ land64 (μ (x + 3) j) m ≠ 0
  · rw [if_pos q, if_pos ⟨rfl, q⟩]
  · rw [if_neg q, if_neg (fun w => q w.2), if_neg (fun w => absurd w.1 (by omega))]
theorem mCv_4 {d m ar k j : Int} : mCv x d m ar k μ (x + 4) j = if k ≤ j ∧ j < 64 ∧ land64 (μ (x + 3) (4 * j + d)) m ≠ 0 then ar else μ (x + 4) j := by
  unfold mCv
  rw [if_neg (fun w => absurd w.1 (by omega))]
  by_cases q : k ≤ j ∧ j < 64 ∧ land64 (μ (x + 3) (4 * j + d)) m ≠ 0
  · rw [if_pos q, if_pos ⟨rfl, q⟩]
  · rw [if_neg q, if_neg (fun w => q w.2)]
theorem mCv_ne {d m ar k j : Int} {a : Nat} (h3 : a ≠ x + 3) (h4 : a ≠ x + 4) : mCv x d m ar k μ a j = μ a j := by
  unfold mCv
  rw [if_neg (fun w => h3 w.1), if_neg (fun w => h4 w.1)]
theorem k_cover_loop {d m ar : Int} (hd : 0 ≤ d ∧ d < 4) : ∀ (n : Nat) (k : Int) (μ : gM) (l6 : gv), 0 ≤ k → k + n = 64 →
    gE 125 3 [gO 1 x, gI d, gJ m, gX, gI ar, gI k, l6] [] μ Q = Q 0 (mCv x d m ar k μ) := by
  intro n
  induction n with
  | zero =>
    intro k μ l6 k0 k1
    have c : 64 ≤ k := by omega
    rw [e125_3, mCv_end c]
    simp (disch := first | assumption | omega) only [e125_0, e125_1, e125_5, e125_7, e125_10, e125_12, e125_13, e125_14, e125_15, e125_16, e125_18, e125_20, e125_23, e125_25, e125_26, e125_29, e125_30, e125_33, e125_34, e125_37, e125_39, e125_40, e125_41, e125_42, e125_43, e125_44, e125_47, e125_48, e125_51, e125_53, e125_54, e125_55, e125_56, e125_59, e125_60, e125_61, e125_62, e125_63, e125_66, e125_68, e125_70, e125_73, e125_76, e125_79, gK0_eq, gK1_eq, gK3_eq, w32_id, bI_eq0, bI_eq1, Bool.false_eq_true, not_true_eq_false, not_false_eq_true, ne_eq, ite_not, ↓reduceIte, if_true, if_false, Int.reduceToNat, Nat.reduceAdd, Int.reduceEq, Int.reduceLT, Int.reduceLE, Int.reduceNeg, bI_T, bI_F, ↓if_pos, ↓if_neg, c]
  | succ n ih =>
    intro k μ l6 k0 k1
    have c : ¬ 64 ≤ k := by omega
    have d0 : 0 ≤ 4 * k + d := by omega
    have d00 : ¬ 4 * k + d < 0 := by omega
    have d1 : 4 * k + d < ((256 : Nat) : Int) := by omega
    have d2 : ¬ ((256 : Nat) : Int) ≤ 4 * k + d := by omega
    have e4 : k * 4 + d = 4 * k + d := by omega
    have c1 : k < ((64 : Nat) : Int) := by omega
    rw [e125_3]
    by_cases hh : land64 (μ (x + 3) (4 * k + d)) m = 0
    · simp (disch := first | assumption | omega) only [e125_0, e125_1, e125_5, e125_7, e125_10, e125_12, e125_13, e125_14, e125_15, e125_16, e125_18, e125_20, e125_23, e125_25, e125_26, e125_29, e125_30, e125_33, e125_34, e125_37, e125_39, e125_40, e125_41, e125_42, e125_43, e125_44, e125_47, e125_48, e125_51, e125_53, e125_54, e125_55, e125_56, e125_59, e125_60, e125_61, e125_62, e125_63, e125_66, e125_68, e125_70, e125_73, e125_76, e125_79, gK0_eq, gK1_eq, gK3_eq, w32_id, bI_eq0, bI_eq1, Bool.false_eq_true, not_true_eq_false, not_false_eq_true, ne_eq, ite_not, ↓reduceIte, if_true, if_false, Int.reduceToNat, Nat.reduceAdd, Int.reduceEq, Int.reduceLT, Int.reduceLE, Int.reduceNeg, bI_T, bI_F, ↓if_pos, ↓if_neg, c, e4, d00, d2, hh, lcmp64_0]
      rw [ih _ _ _ (by omega) (by omega)]
      congr 1
      funext a j
      unfold mCv
      by_cases q : a = x + 3 ∧ j % 4 = d ∧ k ≤ j / 4 ∧ j / 4 < 64 ∧ land64 (μ (x + 3) j) m ≠ 0
      · have : j ≠ 4 * k + d := fun z => q.2.2.2.2 (by rw [z]; exact hh)
        rw [if_pos q, if_pos ⟨q.1, q.2.1, by omega, q.2.2.2.1, q.2.2.2.2⟩]
      · rw [if_neg q, if_neg (fun z => q ⟨z.1, z.2.1, by omega, z.2.2.2⟩)]
        by_cases q2 : a = x + 4 ∧ k ≤ j ∧ j < 64 ∧ land64 (μ (x + 3) (4 * j + d)) m ≠ 0
        · have : j ≠ k := fun z => q2.2.2.2 (by rw [z]; exact hh)
          rw [if_pos q2, if_pos ⟨q2.1, by omega, q2.2.2⟩]
        · rw [if_neg q2, if_neg (fun z => q2 ⟨z.1, by omega, z.2.2⟩)]
    · simp (disch := first | assumption | omega) only [e125_0, e125_1, e125_5, e125_7, e125_10, e125_12, e125_13, e125_14, e125_15, e125_16, e125_18, e125_20, e125_23, e125_25, e125_26, e125_29, e125_30, e125_33, e125_34, e125_37, e125_39, e125_40, e125_41, e125_42, e125_43, e125_44, e125_47, e125_48, e125_51, e125_53, e125_54, e125_55, e125_56, e125_59, e125_60, e125_61, e125_62, e125_63, e125_66, e125_68, e125_70, e125_73, e125_76, e125_79, gK0_eq, gK1_eq, gK3_eq, w32_id, bI_eq0, bI_eq1, Bool.false_eq_true, not_true_eq_false, not_false_eq_true, ne_eq, ite_not, ↓reduceIte, if_true, if_false, Int.reduceToNat, Nat.reduceAdd, Int.reduceEq, Int.reduceLT, Int.reduceLE, Int.reduceNeg, bI_T, bI_F, ↓if_pos, ↓if_neg, c, e4, d00, d2, hh, lcmp64_0, s_put', putv_in]
      rw [ih _ _ _ (by omega) (by omega)]
      congr 1
      funext a j
      have v3 : ∀ i, i ≠ 4 * k + d → gS (gS μ (x + 3) (4 * k + d) (land64 (μ (x + 3) (4 * k + d)) (lxor64 m (-1)))) (x + 4) k ar (x + 3) i = μ (x + 3) i := fun i hi => by rw [gS_neK (by omega), gS_neI hi]
      by_cases a3 : a = x + 3
      · rw [a3, mCv_3, mCv_3]
        by_cases z : j = 4 * k + d
        · have q : j % 4 = d ∧ k ≤ j / 4 ∧ j / 4 < 64 ∧ land64 (μ (x + 3) j) m ≠ 0 := ⟨by omega, by omega, by omega, by rw [z]; exact hh⟩
          have q1 : ¬ k + 1 ≤ j / 4 := by omega
          rw [if_pos q, if_neg (fun w => q1 w.2.1), gS_neK (by omega), z, gS_same]
        · rw [v3 j z]
          by_cases q : j % 4 = d ∧ k ≤ j / 4 ∧ j / 4 < 64 ∧ land64 (μ (x + 3) j) m ≠ 0
          · have q1 : j % 4 = d ∧ k + 1 ≤ j / 4 ∧ j / 4 < 64 ∧ land64 (μ (x + 3) j) m ≠ 0 := ⟨q.1, by omega, q.2.2⟩
            rw [if_pos q, if_pos q1]
          · have q1 : ¬ (j % 4 = d ∧ k + 1 ≤ j / 4 ∧ j / 4 < 64 ∧ land64 (μ (x + 3) j) m ≠ 0) := fun w => q ⟨w.1, by omega, w.2.2⟩
            rw [if_neg q, if_neg q1]
      · by_cases a4 : a = x + 4
        · rw [a4, mCv_4, mCv_4]
          by_cases z : j = k
          · have q : k ≤ j ∧ j < 64 ∧ land64 (μ (x + 3) (4 * j + d)) m ≠ 0 := ⟨by omega, by omega, by rw [z]; exact hh⟩
            have q1 : ¬ k + 1 ≤ j := by omega
            rw [if_pos q, if_neg (fun w => q1 w.1), z, gS_same]
          · by_cases qj : k + 1 ≤ j ∧ j < 64
            · rw [v3 (4 * j + d) (by omega), gS_neI z, gS_neK (by omega)]
              by_cases q : k ≤ j ∧ j < 64 ∧ land64 (μ (x + 3) (4 * j + d)) m ≠ 0
              · have q1 : k + 1 ≤ j ∧ j < 64 ∧ land64 (μ (x + 3) (4 * j + d)) m ≠ 0 := ⟨qj.1, q.2⟩
                rw [if_pos q, if_pos q1]
              · have q1 : ¬ (k + 1 ≤ j ∧ j < 64 ∧ land64 (μ (x + 3) (4 * j + d)) m ≠ 0) := fun w => q ⟨by omega, w.2⟩
                rw [if_neg q, if_neg q1]
            · have q : ¬ (k ≤ j ∧ j < 64 ∧ land64 (μ (x + 3) (4 * j + d)) m ≠ 0) := fun w => qj ⟨by omega, w.2.1⟩
              rw [if_neg q, if_neg (fun w => qj ⟨w.1, w.2.1⟩), gS_neI z, gS_neK (by omega)]
        · rw [mCv_ne a3 a4, mCv_ne a3 a4, gS_neK a4, gS_neK a3]
theorem k_Fcover {d m ar : Int} (h : rFr x T μ) (hd : 0 ≤ d ∧ d < 4) (hc : tCv T T' d m ar) : ∃ μ', gFr x (x + 5) μ μ' ∧ rFr x T' μ' ∧ ∀ Q : Int → gM → Prop, gE 125 0 [gO 1 x, gI d, gJ m, gX, gI ar, gX, gX] [] μ Q = Q 0 μ' := by
  obtain ⟨⟨g1, g2⟩, g3, g4⟩ := h
  obtain ⟨h1, h2, h3, h4⟩ := hc
  refine ⟨mCv x d m ar 0 μ, fun a j hj => ?_, ⟨⟨tDo_congr (fun j hj => h1 j (by omega)) g1, h2⟩, fun f f0 f1 => ?_, fun f e f0 f1 e0 e1 => ?_⟩, fun Q => ?_⟩
  · unfold mCv
    rw [if_neg (by omega), if_neg (by omega)]
  · obtain ⟨b1, b2, b3, b4⟩ := g3 f f0 f1
    obtain ⟨w1, w2⟩ := g4 f d f0 f1 hd.1 hd.2
    have m1 : mCv x d m ar 0 μ (x + 1) f = μ (x + 1) f := by unfold mCv; rw [if_neg (by omega), if_neg (by omega)]
    have m2 : mCv x d m ar 0 μ (x + 2) f = μ (x + 2) f := by unfold mCv; rw [if_neg (by omega), if_neg (by omega)]
    have any : land64 (μ (x + 3) (4 * f + d)) m ≠ 0 ↔ ∃ p : Nat, p < 64 ∧ tOb T f (64 * d + p) = true ∧ btl m p = true := by
      rw [btl_any in64_and]
      constructor
      · rintro ⟨k, hk, hb⟩
        rw [btl_and, Bool.and_eq_true, w2 k hk] at hb
        exact ⟨k, hk, hb⟩
      · rintro ⟨k, hk, hb⟩
        refine ⟨k, hk, ?_⟩
        rw [btl_and, Bool.and_eq_true, w2 k hk]
        exact hb
    have m4 : mCv x d m ar 0 μ (x + 4) f = T' (1088 + f) := by
      rw [h4 f f0 f1]
      unfold mCv
      rw [if_neg (by omega)]
      by_cases q : ∃ p : Nat, p < 64 ∧ tOb T f (64 * d + p) = true ∧ btl m p = true
      · rw [if_pos q, if_pos ⟨rfl, f0, f1, any.mpr q⟩]
      · rw [if_neg q, if_neg (fun z => q (any.mp z.2.2.2)), b4]
    rw [m1, m2, m4, tUses_congr (fun j hj => h1 j (by omega)) (h1 _ (by omega)) g1.1, h1 _ (by omega)]
    exact ⟨b1, b2, b3, rfl⟩
  · obtain ⟨w1, w2⟩ := g4 f e f0 f1 e0 e1
    unfold mCv
    by_cases c : e = d
    · by_cases q : land64 (μ (x + 3) (4 * f + e)) m = 0
      · rw [if_neg (fun z => z.2.2.2.2 q), if_neg (by omega)]
        refine ⟨w1, fun p hp => ?_⟩
        rw [w2 p hp, h3 f _ f0 f1 (by omega) (by omega), c, decide_eq_true (by omega), Bool.true_and, show (64 * d + (p : Int) - 64 * d).toNat = p by omega]
        cases hb : btl m p with
        | false => simp
        | true =>
          have : btl (land64 (μ (x + 3) (4 * f + e)) m) p = false := by rw [q, btl_zero]
          rw [btl_and, w2 p hp, hb, Bool.and_true, c] at this
          rw [this]
          rfl
      · rw [if_pos ⟨rfl, by omega, by omega, by omega, q⟩]
        refine ⟨in64_and, fun p hp => ?_⟩
        rw [btl_and, btl_xor, btl_m1 hp, w2 p hp, h3 f _ f0 f1 (by omega) (by omega), c, decide_eq_true (by omega), Bool.true_and, show (64 * d + (p : Int) - 64 * d).toNat = p by omega, Bool.xor_true]
    · rw [if_neg (by omega), if_neg (by omega)]
      refine ⟨w1, fun p hp => ?_⟩
      rw [w2 p hp, h3 f _ f0 f1 (by omega) (by omega), decide_eq_false (by omega), Bool.false_and, Bool.not_false, Bool.and_true]
  · simp (disch := first | assumption | omega) only [e125_0, e125_1, e125_5, e125_7, e125_10, e125_12, e125_13, e125_14, e125_15, e125_16, e125_18, e125_20, e125_23, e125_25, e125_26, e125_29, e125_30, e125_33, e125_34, e125_37, e125_39, e125_40, e125_41, e125_42, e125_43, e125_44, e125_47, e125_48, e125_51, e125_53, e125_54, e125_55, e125_56, e125_59, e125_60, e125_61, e125_62, e125_63, e125_66, e125_68, e125_70, e125_73, e125_76, e125_79, gK0_eq, gK1_eq, gK3_eq, w32_id, bI_eq0, bI_eq1, Bool.false_eq_true, not_true_eq_false, not_false_eq_true, ne_eq, ite_not, ↓reduceIte, if_true, if_false, Int.reduceToNat, Nat.reduceAdd, Int.reduceEq, Int.reduceLT, Int.reduceLE, Int.reduceNeg, bI_T, bI_F]
    rw [k_cover_loop hd 64 0 μ gX (by omega) (by omega)]
theorem k_Fclear_loop : ∀ (n : Nat) (k : Int) (μ : gM), 0 ≤ k → k + n = 256 →
    gE 119 26 [gO 1 x, gI k] [] μ Q = Q 0 (mrow μ (x + 3) (fun j => if k ≤ j ∧ j < 256 then 0 else μ (x + 3) j)) := by
  intro n
  induction n with
  | zero =>
    intro k μ k0 k1
    have c : ((256 : Nat) : Int) ≤ k := by omega
    rw [e119_26, mrow_id (fun j => if_neg (by omega))]
    simp (disch := first | assumption | omega) only [e119_0, e119_1, e119_4, e119_5, e119_8, e119_9, e119_12, e119_13, e119_16, e119_17, e119_20, e119_21, e119_24, e119_25, e119_27, e119_28, e119_31, e119_32, e119_35, e119_36, e119_39, e119_40, e119_41, e119_42, e119_45, e119_48, gK0_eq, gK1_eq, gK3_eq, w32_id, bI_eq0, bI_eq1, Bool.false_eq_true, not_true_eq_false, not_false_eq_true, ne_eq, ite_not, ↓reduceIte, if_true, if_false, Int.reduceToNat, Nat.reduceAdd, Int.reduceEq, Int.reduceLT, Int.reduceLE, Int.reduceNeg, bI_T, bI_F, ↓if_pos, ↓if_neg, c]
  | succ n ih =>
    intro k μ k0 k1
    have c : ¬ ((256 : Nat) : Int) ≤ k := by omega
    have c1 : k < ((256 : Nat) : Int) := by omega
    rw [e119_26]
    simp (disch := first | assumption | omega) only [e119_0, e119_1, e119_4, e119_5, e119_8, e119_9, e119_12, e119_13, e119_16, e119_17, e119_20, e119_21, e119_24, e119_25, e119_27, e119_28, e119_31, e119_32, e119_35, e119_36, e119_39, e119_40, e119_41, e119_42, e119_45, e119_48, gK0_eq, gK1_eq, gK3_eq, w32_id, bI_eq0, bI_eq1, Bool.false_eq_true, not_true_eq_false, not_false_eq_true, ne_eq, ite_not, ↓reduceIte, if_true, if_false, Int.reduceToNat, Nat.reduceAdd, Int.reduceEq, Int.reduceLT, Int.reduceLE, Int.reduceNeg, bI_T, bI_F, ↓if_pos, ↓if_neg, c]
    rw [ih (k + 1) _ (by omega) (by omega), gS_mrow, mrow_mrow]
    congr 2
    funext j
    simp only [mrow_same]
    by_cases hj : j = k
    · rw [hj, if_neg (by omega), if_pos rfl, if_pos (by omega)]
    · rw [if_neg hj]
      by_cases hq : k ≤ j ∧ j < 256
      · rw [if_pos hq, if_pos (by omega)]
      · rw [if_neg hq, if_neg (by omega)]
theorem k_Fclear (hD : tDo T) (t0 : ∀ i, 0 ≤ i → i < 256 → T i = -1) (t1 : ∀ f, 0 ≤ f → f < 64 → T (1024 + f) = 0 ∧ T (1088 + f) = 0) (t2 : ∀ j, 1152 ≤ j → j < 1664 → T j = 0) : ∃ μ', gFr x (x + 5) μ μ' ∧ rFr x T μ' ∧ ∀ Q : Int → gM → Prop, gE 119 0 [gO 1 x, gX] [] μ Q = Q 0 μ' := by
  refine ⟨?m, ?f, ?r, fun Q => ?run⟩
  case run =>
    simp (disch := first | assumption | omega) only [e119_0, e119_1, e119_4, e119_5, e119_8, e119_9, e119_12, e119_13, e119_16, e119_17, e119_20, e119_21, e119_24, e119_25, e119_27, e119_28, e119_31, e119_32, e119_35, e119_36, e119_39, e119_40, e119_41, e119_42, e119_45, e119_48, gK0_eq, gK1_eq, gK3_eq, w32_id, bI_eq0, bI_eq1, Bool.false_eq_true, not_true_eq_false, not_false_eq_true, ne_eq, ite_not, ↓reduceIte, if_true, if_false, Int.reduceToNat, Nat.reduceAdd, Int.reduceEq, Int.reduceLT, Int.reduceLE, Int.reduceNeg, bI_T, bI_F, ↓if_pos, ↓if_neg, s_fillRow]
    rw [k_Fclear_loop 256 0 _ (by omega) (by omega)]
  case f => intro k i hk; simp (disch := first | assumption | omega) only [mrow_ne]
  case r =>
    refine ⟨⟨hD, fun f w f0 f1 w0 w1 => by rw [t2 _ (by omega) (by omega)]; unfold in32; omega⟩, fun f f0 f1 => ?_, fun f d f0 f1 d0 d1 => ?_⟩
    · have c : 0 ≤ f ∧ f < ((64 : Nat) : Int) := by omega
      have u : tUses T f = 0 := by
        have hDD := hD.1
        have e : tUses T f = cntF (fun _ => false) 0 (64 * T 1672).toNat := cntF_congr _ _ (fun i i0 i1 => by rw [t0 i (by omega) (by omega), decide_eq_false (by omega)])
        rw [e]
        have z : ∀ (n : Nat) (k : Int), cntF (fun _ => false) k n = 0 := by
          intro n
          induction n with
          | zero => intro k; rfl
          | succ n ih => intro k; rw [cntF_f rfl]; exact ih _
        exact z _ _
      obtain ⟨s1, s2⟩ := t1 f f0 f1
      rw [u, s1, s2]
      simp (disch := first | assumption | omega) only [mrow_same, mrow_ne, if_pos c]
      exact ⟨trivial, trivial, Or.inl trivial, trivial⟩
    · have c : 0 ≤ 4 * f + d ∧ 4 * f + d < 256 := by omega
      rw [mrow_same, if_pos c]
      refine ⟨by unfold in64; omega, fun p hp => ?_⟩
      unfold tOb
      rw [t2 _ (by omega) (by omega), btl_zero, bt_zero]
theorem k_Fcopy_loop (hxy : x + 5 ≤ y ∨ y + 5 ≤ x) : ∀ (n : Nat) (k : Int) (μ : gM), 0 ≤ k → k + n = 256 →
    gE 120 35 [gO 1 x, gO 1 y, gI k] [] μ Q = Q 0 (mrow μ (x + 3) (fun j => if k ≤ j ∧ j < 256 then μ (y + 3) j else μ (x + 3) j)) := by
  intro n
  induction n with
  | zero =>
    intro k μ k0 k1
    have c : ((256 : Nat) : Int) ≤ k := by omega
    rw [e120_35, mrow_id (fun j => if_neg (by omega))]
    simp (disch := first | assumption | omega) only [e120_0, e120_1, e120_4, e120_5, e120_8, e120_11, e120_12, e120_15, e120_16, e120_19, e120_22, e120_23, e120_26, e120_27, e120_30, e120_33, e120_34, e120_36, e120_37, e120_40, e120_41, e120_44, e120_45, e120_46, e120_49, e120_50, e120_53, e120_54, e120_57, e120_58, e120_59, e120_62, e120_63, e120_64, e120_65, e120_68, e120_71, gK0_eq, gK1_eq, gK3_eq, w32_id, bI_eq0, bI_eq1, Bool.false_eq_true, not_true_eq_false, not_false_eq_true, ne_eq, ite_not, ↓reduceIte, if_true, if_false, Int.reduceToNat, Nat.reduceAdd, Int.reduceEq, Int.reduceLT, Int.reduceLE, Int.reduceNeg, bI_T, bI_F, ↓if_pos, ↓if_neg, c]
  | succ n ih =>
    intro k μ k0 k1
    have c : ¬ ((256 : Nat) : Int) ≤ k := by omega
    have c1 : k < ((256 : Nat) : Int) := by omega
    rw [e120_35]
    simp (disch := first | assumption | omega) only [e120_0, e120_1, e120_4, e120_5, e120_8, e120_11, e120_12, e120_15, e120_16, e120_19, e120_22, e120_23, e120_26, e120_27, e120_30, e120_33, e120_34, e120_36, e120_37, e120_40, e120_41, e120_44, e120_45, e120_46, e120_49, e120_50, e120_53, e120_54, e120_57, e120_58, e120_59, e120_62, e120_63, e120_64, e120_65, e120_68, e120_71, gK0_eq, gK1_eq, gK3_eq, w32_id, bI_eq0, bI_eq1, Bool.false_eq_true, not_true_eq_false, not_false_eq_true, ne_eq, ite_not, ↓reduceIte, if_true, if_false, Int.reduceToNat, Nat.reduceAdd, Int.reduceEq, Int.reduceLT, Int.reduceLE, Int.reduceNeg, bI_T, bI_F, ↓if_pos, ↓if_neg, c]
    rw [ih (k + 1) _ (by omega) (by omega), gS_mrow, mrow_mrow]
    congr 2
    funext j
    rw [mrow_ne (by omega), mrow_same]
    by_cases hj : j = k
    · rw [hj, if_neg (by omega), if_pos rfl, if_pos (by omega)]
    · rw [if_neg hj]
      by_cases hq : k ≤ j ∧ j < 256
      · rw [if_pos hq, if_pos (by omega)]
      · rw [if_neg hq, if_neg (by omega)]
theorem k_Fcopy (h : rFr y T μ) (hxy : x + 5 ≤ y ∨ y + 5 ≤ x) : ∃ μ', gFr x (x + 5) μ μ' ∧ rFr x T μ' ∧ ∀ Q : Int → gM → Prop, gE 120 0 [gO 1 x, gO 1 y, gX] [] μ Q = Q 0 μ' := by
  refine ⟨?m, ?f, ?r, fun Q => ?run⟩
  case run =>
    simp (disch := first | assumption | omega) only [e120_0, e120_1, e120_4, e120_5, e120_8, e120_11, e120_12, e120_15, e120_16, e120_19, e120_22, e120_23, e120_26, e120_27, e120_30, e120_33, e120_34, e120_36, e120_37, e120_40, e120_41, e120_44, e120_45, e120_46, e120_49, e120_50, e120_53, e120_54, e120_57, e120_58, e120_59, e120_62, e120_63, e120_64, e120_65, e120_68, e120_71, gK0_eq, gK1_eq, gK3_eq, w32_id, bI_eq0, bI_eq1, Bool.false_eq_true, not_true_eq_false, not_false_eq_true, ne_eq, ite_not, ↓reduceIte, if_true, if_false, Int.reduceToNat, Nat.reduceAdd, Int.reduceEq, Int.reduceLT, Int.reduceLE, Int.reduceNeg, bI_T, bI_F, ↓if_pos, ↓if_neg, s_copyRow]
    rw [k_Fcopy_loop hxy 256 0 _ (by omega) (by omega)]
  case f => intro k i hk; simp (disch := first | assumption | omega) only [mrow_ne]
  case r =>
    refine rFr_tr h (fun i i0 i1 => ?_) (fun i i0 i1 => ?_) (fun j _ => rfl)
    · have c : 0 ≤ i ∧ i < ((64 : Nat) : Int) := by omega
      simp (disch := first | assumption | omega) only [mrow_same, mrow_ne, if_pos c, and_self]
    · have c : 0 ≤ i ∧ i < 256 := by omega
      rw [mrow_same, if_pos c]
      simp (disch := first | assumption | omega) only [mrow_ne]
end FRAMES
