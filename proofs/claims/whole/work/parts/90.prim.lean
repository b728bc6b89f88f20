/-! the reader and the check's text in step: tokens, names, numbers -/
def cAdv (C : gM) : gM := mAd C (cS (C 2) (C 1 3) (kA (C 2) (C 1 3) (C 1 4))) (cV (C 2) (C 1 3) (kA (C 2) (C 1 3) (C 1 4)) (C 1 7)) (kA (C 2) (C 1 3) (C 1 4)) (kN (C 2) (C 1 3) (kA (C 2) (C 1 3) (C 1 4)))
def mTok (M : gM) : gM := mTk M (kK (M 168) (M 167 6) (kA (M 168) (M 167 6) (M 167 7))) (kW (M 168) (M 167 6) (kA (M 168) (M 167 6) (M 167 7)) (M 167 9)) (kA (M 168) (M 167 6) (M 167 7)) (kN (M 168) (M 167 6) (kA (M 168) (M 167 6) (M 167 7)))
def xR (M : gM) : gM := fun k i => if k = 167 then (if 11 ≤ i ∧ i ≤ 14 then M 167 (i + 4) else M 167 i) else if k = 170 ∨ k = 171 ∨ k = 172 then M k (6 + i) else if k = 173 ∨ k = 174 ∨ k = 175 then M k (8 + i) else if k = 176 then M k (16 + i) else if k = 177 then M k (18 + i) else if k = 178 then M k (2 + i) else M k i
def fl (C M : gM) : Prop := C 1 11 = M 167 4 ∧ C 1 12 = M 167 5
def tpR (C M : gM) : Prop := C 1 3 = M 167 6 ∧ (0 ≤ C 1 3 ∧ C 1 3 ≤ 700 ∧ fl C M) ∧ (∀ i, 0 ≤ i → i < C 1 3 → C 2 i = M 168 i) ∧ gIW M
def sR (C M : gM) : Prop := tpR C M ∧ (0 ≤ C 1 4 ∧ C 1 4 ≤ C 1 3) ∧ C 1 4 = M 167 7 ∧ C 1 5 = M 167 10 ∧ tokR (C 1 6) (C 1 7) (M 167 8) (M 167 9)
def dR (C M : gM) : Prop := gIX (xR M) ∧ rTd 3 (xR M) C ∧ (∀ d, xR M 167 12 ≤ d → d < 8 → C 9 d = 0) ∧ C 1 8 ≤ M 167 28 ∧ C 1 9 ≤ M 167 29 ∧ (C 1 8 = 0 ∨ C 1 8 = 1) ∧ (C 1 9 = 0 ∨ C 1 9 = 1)
def fC (C C' : gM) : Prop := ∀ (k : Nat) (i : Int), (k ≠ 1 ∨ ((i < 4 ∨ 7 < i) ∧ i ≠ 11 ∧ i ≠ 12)) → C' k i = C k i
def fM (M M' : gM) : Prop := ∀ (k : Nat) (i : Int), (k ≠ 167 ∨ (i ≠ 4 ∧ i ≠ 5 ∧ (i < 7 ∨ 10 < i) ∧ i ≠ 30)) → M' k i = M k i
def tP (C M : gM) : Prop := sR (cAdv C) M ∧ dR C M ∧ (0 ≤ C 1 4 ∧ C 1 4 ≤ C 1 3 ∧ C 1 3 ≤ 700)
section PRIM
variable {C C' C'' M M' M'' : gM} {Q : Int → gM → Prop}
theorem fC_refl : fC C C := fun _ _ _ => rfl
theorem fC_trans (h : fC C C') (h' : fC C' C'') : fC C C'' := fun k i q => by rw [h' k i q, h k i q]
theorem fM_refl : fM M M := fun _ _ _ => rfl
theorem fM_trans (h : fM M M') (h' : fM M' M'') : fM M M'' := fun k i q => by rw [h' k i q, h k i q]
theorem fC_gS {k : Nat} {i v : Int} (h : fC C C') (hk : k = 1 ∧ ((4 ≤ i ∧ i ≤ 7) ∨ i = 11 ∨ i = 12)) : fC C (gS C' k i v) := fun a j q => by
  rw [← h a j q]
  exact if_neg (by omega)
theorem fM_gS {i v : Int} (h : fM M M') (hi : i = 4 ∨ i = 5 ∨ (7 ≤ i ∧ i ≤ 10) ∨ i = 30) : fM M (gS M' 167 i v) := fun a j q => by
  rw [← h a j q]
  exact if_neg (by omega)
theorem fC_adv : fC C (cAdv C) := fun k i q => mAd_ne (by omega)
theorem fM_tok : fM M (mTok M) := fun k i q => mTk_ne (by omega)
theorem run_adv (h : 0 ≤ C 1 4 ∧ C 1 4 ≤ C 1 3) (hs : C 1 3 ≤ 700) : gE 86 0 [gO 4 1] [] C Q = Q 0 (cAdv C) := by
  have z := s_advance (Q := Q) (μ := C) (s := C 1 6) (v := C 1 7) (a := C 1 5) (n := C 1 4) h hs
  rw [mAd_id] at z
  exact z
theorem run_tok (hW : gIW M) (h : 0 ≤ M 167 7 ∧ M 167 7 ≤ M 167 6) (hs : M 167 6 ≤ 700) : gE 215 0 [gO 10 167] [] M Q = Q 0 (mTok M) := by
  have z := s_token (Q := Q) (μ := M) (k := M 167 8) (w := M 167 9) (a := M 167 10) (n := M 167 7) hW h hs
  rw [mTk_id] at z
  exact z
theorem cAdv_ne {k : Nat} {i : Int} (h : k ≠ 1 ∨ (i ≠ 4 ∧ i ≠ 5 ∧ i ≠ 6 ∧ i ≠ 7)) : cAdv C k i = C k i := mAd_ne h
theorem mTok_ne {k : Nat} {i : Int} (h : k ≠ 167 ∨ (i ≠ 7 ∧ i ≠ 8 ∧ i ≠ 9 ∧ i ≠ 10)) : mTok M k i = M k i := mTk_ne (by omega)
theorem tpR_of (h : tpR C M) (e1 : ∀ i, C' 2 i = C 2 i) (e2 : C' 1 3 = C 1 3) (e3 : ∀ i, M' 168 i = M 168 i) (e4 : ∀ i, M' 169 i = M 169 i) (e5 : M' 167 6 = M 167 6) (e6 : ∀ i, i = 11 ∨ i = 12 → C' 1 i = C 1 i) (e7 : ∀ i, i = 4 ∨ i = 5 → M' 167 i = M 167 i) : tpR C' M' := by
  obtain ⟨h1, h2, h3, h4⟩ := h
  refine ⟨by rw [e2, e5]; exact h1, by rw [e2]; exact ⟨h2.1, h2.2.1, by rw [e6 11 (by omega), e7 4 (by omega)]; exact h2.2.2.1, by rw [e6 12 (by omega), e7 5 (by omega)]; exact h2.2.2.2⟩, fun i i0 i1 => ?_, fun k hk => by rw [e4]; exact h4 k hk⟩
  rw [e2] at i1
  rw [e1, e3]
  exact h3 i i0 i1
theorem sR_of (h : sR C M) (e1 : ∀ i, C' 2 i = C 2 i) (e2 : ∀ i, 3 ≤ i → (i ≤ 7 ∨ i = 11 ∨ i = 12) → C' 1 i = C 1 i) (e3 : ∀ i, M' 168 i = M 168 i) (e4 : ∀ i, M' 169 i = M 169 i) (e5 : ∀ i, 4 ≤ i → i ≤ 10 → M' 167 i = M 167 i) : sR C' M' := by
  obtain ⟨h1, h2, h3, h4, h5⟩ := h
  refine ⟨tpR_of h1 e1 (e2 3 (by omega) (by omega)) e3 e4 (e5 6 (by omega) (by omega)) (fun i hi => e2 i (by omega) (by omega)) (fun i hi => e5 i (by omega) (by omega)), ?_, ?_, ?_, ?_⟩
  · rw [e2 4 (by omega) (by omega), e2 3 (by omega) (by omega)]; exact h2
  · rw [e2 4 (by omega) (by omega), e5 7 (by omega) (by omega)]; exact h3
  · rw [e2 5 (by omega) (by omega), e5 10 (by omega) (by omega)]; exact h4
  · rw [e2 6 (by omega) (by omega), e2 7 (by omega) (by omega), e5 8 (by omega) (by omega), e5 9 (by omega) (by omega)]; exact h5
theorem sR_step (h : tpR C M) (hn : 0 ≤ C 1 4 ∧ C 1 4 ≤ C 1 3) (e : C 1 4 = M 167 7) : sR (cAdv C) (mTok M) := by
  obtain ⟨h1, h2, h3, h4⟩ := id h
  have ec : kA (C 2) (C 1 3) (C 1 4) = kA (M 168) (M 167 6) (M 167 7) := by rw [kA_congr h3 hn.1, h1, e]
  have ain := kA_in (f := M 168) (stop := M 167 6) (n := M 167 7) (by omega)
  have nin := kN_in (f := M 168) (stop := M 167 6) (a := kA (M 168) (M 167 6) (M 167 7)) (by omega)
  refine ⟨tpR_of h (fun i => cAdv_ne (by omega)) (cAdv_ne (by omega)) (fun i => mTok_ne (by omega)) (fun i => mTok_ne (by omega)) (mTok_ne (by omega)) (fun i hi => cAdv_ne (by omega)) (fun i hi => mTok_ne (by omega)), ?_, ?_, ?_, ?_⟩
  · have z : cAdv C 1 3 = C 1 3 := cAdv_ne (by omega)
    rw [z]
    unfold cAdv
    rw [mAd_4, kN_congr h3 (by omega), ec, h1]
    omega
  · unfold cAdv mTok
    rw [mAd_4, mTk_7, kN_congr h3 (by omega), ec, h1]
  · unfold cAdv mTok
    rw [mAd_5, mTk_10, ec]
  · unfold cAdv mTok
    rw [mAd_6, mAd_7, mTk_8, mTk_9, cS_congr h3 (by omega) (by omega), cV_congr h3 (by omega) (by omega), ec, h1]
    exact tok_rel (by omega) (by omega)
theorem adv_4 (hn : 0 ≤ C 1 4 ∧ C 1 4 ≤ C 1 3) : C 1 4 ≤ cAdv C 1 4 ∧ cAdv C 1 4 ≤ C 1 3 ∧ (cAdv C 1 6 = 3 → C 1 4 + 1 ≤ cAdv C 1 4) := by
  have ain := kA_in (f := C 2) (stop := C 1 3) (n := C 1 4) (by omega)
  have nin := kN_in (f := C 2) (stop := C 1 3) (a := kA (C 2) (C 1 3) (C 1 4)) (by omega)
  unfold cAdv
  rw [mAd_4, mAd_6]
  refine ⟨by omega, by omega, fun z => ?_⟩
  rw [stop_next z]
  omega
theorem xR_of (e1 : ∀ (k : Nat) i, 170 ≤ k → k ≤ 179 → M' k i = M k i) (e2 : ∀ i, 15 ≤ i → i ≤ 18 → M' 167 i = M 167 i) : gXe (xR M) (xR M') := by
  intro k i q
  unfold xR
  by_cases c : k = 167
  · rw [if_pos c, if_pos c, if_pos (by omega), if_pos (by omega), e2 _ (by omega) (by omega)]
  · rw [if_neg c, if_neg c, e1 k _ (by omega) (by omega), e1 k _ (by omega) (by omega), e1 k _ (by omega) (by omega), e1 k _ (by omega) (by omega), e1 k _ (by omega) (by omega), e1 k i (by omega) (by omega)]
theorem dR_of (h : dR C M) (e1 : ∀ (k : Nat) i, 170 ≤ k → k ≤ 179 → M' k i = M k i) (e2 : ∀ i, 15 ≤ i → i ≤ 18 → M' 167 i = M 167 i) (e3 : M' 167 28 = M 167 28) (e4 : M' 167 29 = M 167 29) (e5 : ∀ (k : Nat) i, 3 ≤ k → k ≤ 16 → C' k i = C k i) (e6 : C' 1 8 = C 1 8) (e7 : C' 1 9 = C 1 9) : dR C' M' := by
  obtain ⟨h1, h2, h3, h4, h5, h6, h7⟩ := h
  have eX := xR_of e1 e2
  have hI := gIX_congr eX h1
  have t : rTd 3 (xR M') C := rTd_X h2 (fun k i q => eX k i (by omega))
  refine ⟨hI, rTd_tr hI t (fun i _ => e5 _ _ (by omega) (by omega)) (fun k k0 k1 i _ _ => e5 _ _ (by omega) (by omega)), fun d d0 d1 => ?_, by rw [e6, e3]; exact h4, by rw [e7, e4]; exact h5, by rw [e6]; exact h6, by rw [e7]; exact h7⟩
  rw [eX 167 12 (by omega)] at d0
  rw [e5 _ _ (by omega) (by omega)]
  exact h3 d d0 d1
theorem dR_adv (h : dR C M) : dR (cAdv C) M := dR_of h (fun _ _ _ _ => rfl) (fun _ _ _ => rfl) rfl rfl (fun k i k0 k1 => cAdv_ne (by omega)) (cAdv_ne (by omega)) (cAdv_ne (by omega))
theorem dR_tok (h : dR C M) : dR C (mTok M) := dR_of h (fun k i k0 k1 => mTok_ne (by omega)) (fun i i0 i1 => mTok_ne (by omega)) (mTok_ne (by omega)) (mTok_ne (by omega)) (fun _ _ _ _ => rfl) rfl rfl
theorem tP_of (h : sR C M) (d : dR C M) : tP C (mTok M) := by
  obtain ⟨h1, h2, h3, h4, h5⟩ := h
  exact ⟨sR_step h1 h2 h3, dR_tok d, h2.1, h2.2, h1.2.1.2.1⟩
theorem sR_got {i v : Int} (h : sR C M) (hi : 10 < i) : sR C (gS M 167 i v) :=
  sR_of h (fun _ => rfl) (fun _ _ _ => rfl) (fun i => gS_neK (by omega)) (fun i => gS_neK (by omega)) (fun j j0 j1 => gS_neI (by omega))
theorem dR_got {v : Int} (h : dR C M) : dR C (gS M 167 30 v) :=
  dR_of h (fun k i k0 k1 => gS_neK (by omega)) (fun i i0 i1 => gS_neI (by omega)) (gS_neI (by omega)) (gS_neI (by omega)) (fun _ _ _ _ => rfl) rfl rfl
theorem kw_0 : kw 0 = 86282469 := rfl
theorem kw_1 : kw 1 = 140190821 := rfl
theorem kw_2 : kw 2 = 46433888 := rfl
theorem kw_3 : kw 3 = 654358528 := rfl
theorem kw_4 : kw 4 = 658551168 := rfl
theorem kw_5 : kw 5 = 620213248 := rfl
theorem kw_6 : kw 6 = 642945024 := rfl
theorem kw_7 : kw 7 = 620220416 := rfl
theorem k_isName {k w : Int} (h : tokR (C 1 6) (C 1 7) k w) : gE 89 0 [gO 4 1] [] C Q = Q (bI (k = 2)) C := by
  rcases h with ⟨a, b⟩ | ⟨a, b, c, d⟩ | ⟨a, b, c, d⟩ | ⟨a, b, c⟩ | ⟨a, b⟩ | ⟨a, b⟩
  · simp (disch := first | assumption | omega) only [e89_0, e89_1, e89_4, e89_5, e89_8, e89_9, e89_10, e89_11, e89_14_c0, e89_14_c1, e89_14_c2, e89_14_c3, e89_14_c4, e89_14_c5, e89_14_c6, e89_14_c7, e89_14_d, e89_88, e89_89, e89_90, e89_91, gK0_eq, gK1_eq, gK3_eq, w32_id, bI_eq0, bI_eq1, Bool.false_eq_true, not_true_eq_false, not_false_eq_true, ne_eq, ite_not, ↓reduceIte, if_true, if_false, Int.reduceToNat, Nat.reduceAdd, Int.reduceEq, Int.reduceLT, Int.reduceLE, Int.reduceNeg, bI_T, bI_F, ↓if_pos, ↓if_neg, a, b]
  · have e : w = 0 ∨ w = 1 ∨ w = 2 ∨ w = 3 ∨ w = 4 ∨ w = 5 ∨ w = 6 ∨ w = 7 := by omega
    rcases e with rfl | rfl | rfl | rfl | rfl | rfl | rfl | rfl
    all_goals simp (disch := first | assumption | omega) only [e89_0, e89_1, e89_4, e89_5, e89_8, e89_9, e89_10, e89_11, e89_14_c0, e89_14_c1, e89_14_c2, e89_14_c3, e89_14_c4, e89_14_c5, e89_14_c6, e89_14_c7, e89_14_d, e89_88, e89_89, e89_90, e89_91, gK0_eq, gK1_eq, gK3_eq, w32_id, bI_eq0, bI_eq1, Bool.false_eq_true, not_true_eq_false, not_false_eq_true, ne_eq, ite_not, ↓reduceIte, if_true, if_false, Int.reduceToNat, Nat.reduceAdd, Int.reduceEq, Int.reduceLT, Int.reduceLE, Int.reduceNeg, bI_T, bI_F, ↓if_pos, ↓if_neg, a, b, d, kw_0, kw_1, kw_2, kw_3, kw_4, kw_5, kw_6, kw_7]
  · have d0 := d 0 (by omega) (by omega)
    have d1 := d 1 (by omega) (by omega)
    have d2 := d 2 (by omega) (by omega)
    have d3 := d 3 (by omega) (by omega)
    have d4 := d 4 (by omega) (by omega)
    have d5 := d 5 (by omega) (by omega)
    have d6 := d 6 (by omega) (by omega)
    have d7 := d 7 (by omega) (by omega)
    rw [kw_0] at d0
    rw [kw_1] at d1
    rw [kw_2] at d2
    rw [kw_3] at d3
    rw [kw_4] at d4
    rw [kw_5] at d5
    rw [kw_6] at d6
    rw [kw_7] at d7
    have dd : C 1 7 ≠ 46433888 ∧ C 1 7 ≠ 86282469 ∧ C 1 7 ≠ 140190821 ∧ C 1 7 ≠ 620213248 ∧ C 1 7 ≠ 620220416 ∧ C 1 7 ≠ 642945024 ∧ C 1 7 ≠ 654358528 ∧ C 1 7 ≠ 658551168 := ⟨d2, d0, d1, d5, d7, d6, d3, d4⟩
    simp (disch := first | assumption | omega) only [e89_0, e89_1, e89_4, e89_5, e89_8, e89_9, e89_10, e89_11, e89_14_c0, e89_14_c1, e89_14_c2, e89_14_c3, e89_14_c4, e89_14_c5, e89_14_c6, e89_14_c7, e89_14_d, e89_88, e89_89, e89_90, e89_91, gK0_eq, gK1_eq, gK3_eq, w32_id, bI_eq0, bI_eq1, Bool.false_eq_true, not_true_eq_false, not_false_eq_true, ne_eq, ite_not, ↓reduceIte, if_true, if_false, Int.reduceToNat, Nat.reduceAdd, Int.reduceEq, Int.reduceLT, Int.reduceLE, Int.reduceNeg, bI_T, bI_F, ↓if_pos, ↓if_neg, a, b, dd]
  · simp (disch := first | assumption | omega) only [e89_0, e89_1, e89_4, e89_5, e89_8, e89_9, e89_10, e89_11, e89_14_c0, e89_14_c1, e89_14_c2, e89_14_c3, e89_14_c4, e89_14_c5, e89_14_c6, e89_14_c7, e89_14_d, e89_88, e89_89, e89_90, e89_91, gK0_eq, gK1_eq, gK3_eq, w32_id, bI_eq0, bI_eq1, Bool.false_eq_true, not_true_eq_false, not_false_eq_true, ne_eq, ite_not, ↓reduceIte, if_true, if_false, Int.reduceToNat, Nat.reduceAdd, Int.reduceEq, Int.reduceLT, Int.reduceLE, Int.reduceNeg, bI_T, bI_F, ↓if_pos, ↓if_neg, a, b]
  · simp (disch := first | assumption | omega) only [e89_0, e89_1, e89_4, e89_5, e89_8, e89_9, e89_10, e89_11, e89_14_c0, e89_14_c1, e89_14_c2, e89_14_c3, e89_14_c4, e89_14_c5, e89_14_c6, e89_14_c7, e89_14_d, e89_88, e89_89, e89_90, e89_91, gK0_eq, gK1_eq, gK3_eq, w32_id, bI_eq0, bI_eq1, Bool.false_eq_true, not_true_eq_false, not_false_eq_true, ne_eq, ite_not, ↓reduceIte, if_true, if_false, Int.reduceToNat, Nat.reduceAdd, Int.reduceEq, Int.reduceLT, Int.reduceLE, Int.reduceNeg, bI_T, bI_F, ↓if_pos, ↓if_neg, a, b]
  · simp (disch := first | assumption | omega) only [e89_0, e89_1, e89_4, e89_5, e89_8, e89_9, e89_10, e89_11, e89_14_c0, e89_14_c1, e89_14_c2, e89_14_c3, e89_14_c4, e89_14_c5, e89_14_c6, e89_14_c7, e89_14_d, e89_88, e89_89, e89_90, e89_91, gK0_eq, gK1_eq, gK3_eq, w32_id, bI_eq0, bI_eq1, Bool.false_eq_true, not_true_eq_false, not_false_eq_true, ne_eq, ite_not, ↓reduceIte, if_true, if_false, Int.reduceToNat, Nat.reduceAdd, Int.reduceEq, Int.reduceLT, Int.reduceLE, Int.reduceNeg, bI_T, bI_F, ↓if_pos, ↓if_neg, a, b]
def cRef (C : gM) (f : Int) : gM := gS (gS C 1 11 f) 1 12 (C 1 5)
def mWr (M : gM) (f : Int) : gM := gS (gS M 167 4 f) 167 5 (M 167 10)
theorem k_refuseR {f : Int} : gE 84 0 [gO 4 1, gI f] [] C Q = Q 0 (cRef C f) := by
  unfold cRef
  simp (disch := first | assumption | omega) only [e84_0, e84_1, e84_2, e84_5, e84_6, e84_7, e84_10, e84_13, e84_14, gK0_eq, gK1_eq, gK3_eq, w32_id, bI_eq0, bI_eq1, Bool.false_eq_true, not_true_eq_false, not_false_eq_true, ne_eq, ite_not, ↓reduceIte, if_true, if_false, Int.reduceToNat, Nat.reduceAdd, Int.reduceEq, Int.reduceLT, Int.reduceLE, Int.reduceNeg, bI_T, bI_F, ↓if_pos, ↓if_neg, gS_neI]
theorem k_refusedHere {f : Int} : gE 85 0 [gO 4 1, gI f] [] C Q = Q (-2) (cRef C f) := by
  simp (disch := first | assumption | omega) only [e85_0, e85_1, e85_2, e85_5, e85_6, e85_8, gK0_eq, gK1_eq, gK3_eq, w32_id, bI_eq0, bI_eq1, Bool.false_eq_true, not_true_eq_false, not_false_eq_true, ne_eq, ite_not, ↓reduceIte, if_true, if_false, Int.reduceToNat, Nat.reduceAdd, Int.reduceEq, Int.reduceLT, Int.reduceLE, Int.reduceNeg, bI_T, bI_F, ↓if_pos, ↓if_neg, k_refuseR]
theorem s_wrong {f : Int} : gE 211 0 [gO 10 167, gI f] [] M Q = Q 0 (mWr M f) := by
  unfold mWr
  simp (disch := first | assumption | omega) only [e211_0, e211_1, e211_2, e211_5, e211_6, e211_7, e211_10, e211_13, e211_14, gK0_eq, gK1_eq, gK3_eq, w32_id, bI_eq0, bI_eq1, Bool.false_eq_true, not_true_eq_false, not_false_eq_true, ne_eq, ite_not, ↓reduceIte, if_true, if_false, Int.reduceToNat, Nat.reduceAdd, Int.reduceEq, Int.reduceLT, Int.reduceLE, Int.reduceNeg, bI_T, bI_F, ↓if_pos, ↓if_neg, gS_neI]
theorem fl_ref {f : Int} (h : C 1 5 = M 167 10) : fl (cRef C f) (mWr M f) := by
  unfold fl cRef mWr
  rw [gS_neI (by omega), gS_same, gS_same, gS_neI (by omega), gS_same, gS_same]
  exact ⟨rfl, h⟩
theorem fC_ref {f : Int} (h : fC C C') : fC C (cRef C' f) := fC_gS (fC_gS h (by omega)) (by omega)
theorem fM_wr {f : Int} (h : fM M M') : fM M (mWr M' f) := fM_gS (fM_gS h (by omega)) (by omega)
theorem s_bridgeRead {l : Int} (h : gIX (xR M)) : gE 221 0 [gO 10 167, gI l] [] M Q = Q (findF (fun i => decide (xR M 170 i = l)) 0 (xR M 167 11).toNat) M := by
  obtain ⟨h1, -⟩ := h
  have e : xR M 167 11 = M 167 15 := rfl
  rw [e] at h1 ⊢
  have z := fun (Q : Int → gM → Prop) => s_findIn (μ := M) (Q := Q) (n := 12) (k := 170) (f := 6) (c := M 167 15) (l := l) (by omega) (by omega) (by omega) (by omega)
  simp (disch := first | assumption | omega) only [e221_0, e221_1, e221_4, e221_6, e221_7, e221_10, e221_11, e221_14, gK0_eq, gK1_eq, gK3_eq, w32_id, bI_eq0, bI_eq1, Bool.false_eq_true, not_true_eq_false, not_false_eq_true, ne_eq, ite_not, ↓reduceIte, if_true, if_false, Int.reduceToNat, Nat.reduceAdd, Int.reduceEq, Int.reduceLT, Int.reduceLE, Int.reduceNeg, bI_T, bI_F, ↓if_pos, ↓if_neg, z]
  rfl
theorem s_deviceRead {l : Int} (h : gIX (xR M)) : gE 222 0 [gO 10 167, gI l] [] M Q = Q (findF (fun i => decide (xR M 173 i = l)) 0 (xR M 167 12).toNat) M := by
  obtain ⟨-, h1, -⟩ := h
  have e : xR M 167 12 = M 167 16 := rfl
  rw [e] at h1 ⊢
  have z := fun (Q : Int → gM → Prop) => s_findIn (μ := M) (Q := Q) (n := 16) (k := 173) (f := 8) (c := M 167 16) (l := l) (by omega) (by omega) (by omega) (by omega)
  simp (disch := first | assumption | omega) only [e222_0, e222_1, e222_4, e222_6, e222_7, e222_10, e222_11, e222_14, gK0_eq, gK1_eq, gK3_eq, w32_id, bI_eq0, bI_eq1, Bool.false_eq_true, not_true_eq_false, not_false_eq_true, ne_eq, ite_not, ↓reduceIte, if_true, if_false, Int.reduceToNat, Nat.reduceAdd, Int.reduceEq, Int.reduceLT, Int.reduceLE, Int.reduceNeg, bI_T, bI_F, ↓if_pos, ↓if_neg, z]
  rfl
end PRIM
