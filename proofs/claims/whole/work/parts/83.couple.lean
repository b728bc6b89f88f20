/-! the two sides, coupled -/
def gXe (X X' : gM) : Prop := ∀ (k : Nat) (i : Int), (170 ≤ k ∧ k < 180) ∨ (k = 167 ∧ 11 ≤ i ∧ i ≤ 14) → X' k i = X k i
def gRd (μ : gM) : Prop := μ 1 1 = μ 167 1 ∧ (0 ≤ μ 167 1 ∧ μ 167 1 ≤ 700) ∧ (∀ i, 0 ≤ i → i < μ 167 1 → μ 2 i = μ 168 i ∧ 0 ≤ μ 168 i ∧ μ 168 i ≤ 255) ∧ μ 1 11 = μ 167 4 ∧ μ 1 12 = μ 167 5
def gIm (N : Int) (μ : gM) : Prop := (μ 167 35 = 0 ∨ μ 167 35 = 1) ∧ μ 0 4 = μ 167 35 ∧ (μ 167 35 = 1 → ∃ I, (∀ k, 0 ≤ k → k < 1960 → μ 181 (3920 + k) = I k) ∧ rSt 67 μ I μ ∧ tInv μ N I)
def gInv (N : Int) (μ : gM) : Prop := (gIX μ ∧ gIW μ ∧ μ 167 34 = 0) ∧ gRd μ ∧ gIm N μ ∧ ∃ T, mK μ 0 T = μ ∧ rSt 17 μ T μ ∧ tInv μ N T
def cFm (μ ν : gM) : Prop := ∀ (k : Nat) (i : Int), k ≠ 180 → (k ≠ 167 ∨ (i ≠ 2 ∧ i ≠ 36 ∧ i ≠ 37 ∧ i ≠ 38)) → (k ≠ 181 ∨ 3920 ≤ i) → ν k i = μ k i
def cEq (N : Int) (μ : gM) (G M : gM → (Int → gM → Prop) → Prop) : Prop := ∃ (a : Int) (μ1 ν : gM), gInv (N + 1) ν ∧ (∀ Q : Int → gM → Prop, G μ Q = Q a μ1) ∧ ∀ Q : Int → gM → Prop, M μ1 Q = Q a ν
section COUPLE
variable {B : Nat} {N : Int} {X X' μ μ' μ1 ν : gM} {T T' : Int → Int} {Q : Int → gM → Prop}
theorem rSt_X (h : rSt B X T μ) (e : gXe X X') : rSt B X' T μ := by
  obtain ⟨h1, h2, h3, h4, h5, h6, h7, h8⟩ := h
  have r0 : X' 178 0 = X 178 0 := e _ _ (by omega)
  refine ⟨rTr_X h1 e, h2, h3, h4, by rw [r0]; exact h5, h6, h7, fun d d0 d1 => ?_⟩
  rw [e 167 12 (by omega)] at d1
  rw [e 179 d (by omega)]
  exact h8 d d0 d1
theorem rSt_at (hI : gIX X) (h : rSt B X T μ) (f : ∀ (k : Nat) (i : Int), (B ≤ k ∧ k < B + 50) ∨ B + 200 ≤ k → μ' k i = μ k i) : rSt B X T μ' := by
  have f1 : gFr 0 B μ (fun k i => if k < B then μ' k i else μ k i) := fun k i q => if_neg (by omega)
  have f2 : gFr (B + 50) (B + 200) (fun k i => if k < B then μ' k i else μ k i) μ' := fun k i q => by
    dsimp only
    split
    · rfl
    · exact f k i (by omega)
  have h1 : rSt B X T (fun k i => if k < B then μ' k i else μ k i) := ⟨rTr_fr hI h.1 f1 (by omega), rTb_fr h.2.1 f1 (by omega) (fun j hj => by exact rfl), rFr_fr h.2.2.1 f1 (by omega) (fun j hj => by exact rfl), rQu_fr h.2.2.2.1 f1 (by omega) (fun j j1 j2 => by exact rfl), rCa_fr h.2.2.2.2.1 f1 (by omega) (fun j j1 j2 => by exact rfl), rRq_fr h.2.2.2.2.2.1 f1 (by omega) (fun j j1 j2 => by exact rfl), rLg_fr h.2.2.2.2.2.2.1 f1 (by omega) (fun j hj => by exact rfl), rDm_fr hI h.2.2.2.2.2.2.2 f1 (by omega) (fun j j1 j2 => by exact rfl)⟩
  exact ⟨rTr_fr hI h1.1 f2 (by omega), rTb_fr h1.2.1 f2 (by omega) (fun j hj => by exact rfl), rFr_fr h1.2.2.1 f2 (by omega) (fun j hj => by exact rfl), rQu_fr h1.2.2.2.1 f2 (by omega) (fun j j1 j2 => by exact rfl), rCa_fr h1.2.2.2.2.1 f2 (by omega) (fun j j1 j2 => by exact rfl), rRq_fr h1.2.2.2.2.2.1 f2 (by omega) (fun j j1 j2 => by exact rfl), rLg_fr h1.2.2.2.2.2.2.1 f2 (by omega) (fun j hj => by exact rfl), rDm_fr hI h1.2.2.2.2.2.2.2 f2 (by omega) (fun j j1 j2 => by exact rfl)⟩
theorem tInv_mono (h : tInv X N T) : tInv X (N + 1) T := by
  obtain ⟨h1, h2, h3, h4, h6, h7⟩ := h
  exact ⟨h1, h2, h3, h4, by omega, h7⟩
theorem mK_self (h : ∀ k, 0 ≤ k → k < 1960 → μ 181 k = T k) : mK μ 0 T = μ := by
  funext k i
  unfold mK
  by_cases q : k = 181 ∧ 1960 * 0 ≤ i ∧ i < 1960 * 0 + 1960
  · rw [if_pos q, q.1, h i (by omega) (by omega)]
    congr 1
    omega
  · rw [if_neg q]
theorem mK_val (h : mK μ 0 T = μ) {k : Int} (h0 : 0 ≤ k) (h1 : k < 1960) : μ 181 k = T k := by
  have := mK_at (μ := μ) (b := 0) (T := T) h0 h1
  rw [h, show 1960 * 0 + k = k by omega] at this
  exact this
theorem mK_fr (h : mK μ 0 T = μ) (f : gFr 17 167 μ μ1) : mK μ1 0 T = μ1 := mK_self (fun k k0 k1 => by rw [f 181 k (by omega)]; exact mK_val h k0 k1)
theorem mK_keep {μ0 : gM} : mK (mK μ0 0 T) 0 T = mK μ0 0 T := mK_self (fun k k0 k1 => by
  have := mK_at (μ := μ0) (b := 0) (T := T) k0 k1
  rw [show 1960 * 0 + k = k by omega] at this
  exact this)
theorem cFm_refl : cFm μ μ := fun _ _ _ _ _ => rfl
theorem cFm_trans (h : cFm μ μ1) (h' : cFm μ1 ν) : cFm μ ν := fun k i a b c => by rw [h' k i a b c, h k i a b c]
theorem cFm_gS {i v : Int} (hi : i = 2 ∨ i = 36 ∨ i = 37 ∨ i = 38) : cFm μ (gS μ 167 i v) := fun k j a b c => by
  by_cases q : k = 167
  · rw [q, gS_neI (by omega)]
  · rw [gS_neK q]
theorem cFm_mK (h : cFm μ ν) : cFm μ (mK ν 0 T) := fun k i a b c => by
  rw [← h k i a b c]
  exact if_neg (by omega)
theorem gInv_step (h : gInv N μ) (f : gFr 17 67 μ μ1 ∨ gFr 117 167 μ μ1) (hf : cFm μ1 ν) (hk : mK ν 0 T' = ν) (hr : rSt 17 μ T' μ1) (ht : tInv μ (N + 1) T') : gInv (N + 1) ν := by
  obtain ⟨⟨hI, hW, hB⟩, ⟨q1, q2, q3, q4, q5⟩, ⟨m1, m2, m3⟩, -⟩ := h
  have g : ∀ (k : Nat) (i : Int), k < 17 ∨ (67 ≤ k ∧ k < 117) ∨ 167 ≤ k → k ≠ 180 → (k ≠ 167 ∨ (i ≠ 2 ∧ i ≠ 36 ∧ i ≠ 37 ∧ i ≠ 38)) → (k ≠ 181 ∨ 3920 ≤ i) → ν k i = μ k i := fun k i a b c d => by
    rw [hf k i b c d]
    rcases f with f | f
    · exact f k i (by omega)
    · exact f k i (by omega)
  have e : gXe μ ν := fun k i q => g k i (by omega) (by omega) (by omega) (by omega)
  have e1 : ν 167 1 = μ 167 1 := g _ _ (by omega) (by omega) (by omega) (by omega)
  have e35 : ν 167 35 = μ 167 35 := g _ _ (by omega) (by omega) (by omega) (by omega)
  refine ⟨⟨gIX_congr e hI, fun k hk => by rw [g 169 k (by omega) (by omega) (by omega) (by omega)]; exact hW k hk, by rw [g 167 34 (by omega) (by omega) (by omega) (by omega)]; exact hB⟩, ⟨by rw [g 1 1 (by omega) (by omega) (by omega) (by omega), e1]; exact q1, by rw [e1]; exact q2, fun i i0 i1 => ?_, by rw [g 1 11 (by omega) (by omega) (by omega) (by omega), g 167 4 (by omega) (by omega) (by omega) (by omega)]; exact q4, by rw [g 1 12 (by omega) (by omega) (by omega) (by omega), g 167 5 (by omega) (by omega) (by omega) (by omega)]; exact q5⟩, ⟨by rw [e35]; exact m1, by rw [g 0 4 (by omega) (by omega) (by omega) (by omega), e35]; exact m2, fun z => ?_⟩, T', hk, ?_, ?_⟩
  · rw [e1] at i1
    rw [g 2 i (by omega) (by omega) (by omega) (by omega), g 168 i (by omega) (by omega) (by omega) (by omega)]
    exact q3 i i0 i1
  · rw [e35] at z
    obtain ⟨I, i1, i2, i3⟩ := m3 z
    refine ⟨I, fun k k0 k1 => by rw [g 181 _ (by omega) (by omega) (by omega) (by omega)]; exact i1 k k0 k1, ?_, ?_⟩
    · exact rSt_at (gIX_congr e hI) (rSt_X i2 e) (fun k i q => g k i (by omega) (by omega) (by omega) (by omega))
    · exact tInv_X (tInv_mono i3) (fun d => e _ _ (by omega)) (e _ _ (by omega))
  · exact rSt_at (gIX_congr e hI) (rSt_X hr e) (fun k i q => hf k i (by omega) (by omega) (by omega))
  · exact tInv_X ht (fun d => e _ _ (by omega)) (e _ _ (by omega))
theorem gX_rows (e : gXe X X') : X' 171 = X 171 ∧ X' 172 = X 172 ∧ X' 174 = X 174 ∧ X' 175 = X 175 ∧ X' 176 = X 176 ∧ X' 177 = X 177 ∧ X' 178 = X 178 ∧ X' 179 = X 179 ∧ X' 167 11 = X 167 11 ∧ X' 167 12 = X 167 12 ∧ X' 167 13 = X 167 13 ∧ X' 167 14 = X 167 14 :=
  ⟨funext fun i => e _ _ (by omega), funext fun i => e _ _ (by omega), funext fun i => e _ _ (by omega), funext fun i => e _ _ (by omega), funext fun i => e _ _ (by omega), funext fun i => e _ _ (by omega), funext fun i => e _ _ (by omega), funext fun i => e _ _ (by omega), e _ _ (by omega), e _ _ (by omega), e _ _ (by omega), e _ _ (by omega)⟩
theorem xSg_X (e : gXe X X') : xSg X' = xSg X := by
  obtain ⟨r1, r2, r4, r5, r6, r7, r8, r9, p1, p2, p3, p4⟩ := gX_rows e
  funext n
  induction n with
  | zero => rfl
  | succ n ih => funext b s; rw [xSg, xSg, ih, r1, r2]
theorem xSign_X (e : gXe X X') : xSign X' = xSign X := by
  obtain ⟨r1, r2, r4, r5, r6, r7, r8, r9, p1, p2, p3, p4⟩ := gX_rows e
  funext d; unfold xSign; rw [xSg_X e, r4]
theorem xAb_X (e : gXe X X') : xAb X' = xAb X := by
  obtain ⟨r1, r2, r4, r5, r6, r7, r8, r9, p1, p2, p3, p4⟩ := gX_rows e
  funext n
  induction n with
  | zero => rfl
  | succ n ih => funext b s; rw [xAb, xAb, ih, r1]
theorem xAbo_X (e : gXe X X') : xAbo X' = xAbo X := by
  obtain ⟨r1, r2, r4, r5, r6, r7, r8, r9, p1, p2, p3, p4⟩ := gX_rows e
  funext d; unfold xAbo; rw [xAb_X e, r4]
theorem xPas_X (e : gXe X X') : xPas X' = xPas X := by
  obtain ⟨r1, r2, r4, r5, r6, r7, r8, r9, p1, p2, p3, p4⟩ := gX_rows e
  funext a b; simp only [xPas, xPb, xLay_congr e, p1]
theorem xGb_X (e : gXe X X') : xGb X' = xGb X := by
  obtain ⟨r1, r2, r4, r5, r6, r7, r8, r9, p1, p2, p3, p4⟩ := gX_rows e
  funext a; simp only [xGb, r9, p2]
theorem xGrN_X (e : gXe X X') : xGrN X' = xGrN X := by
  obtain ⟨r1, r2, r4, r5, r6, r7, r8, r9, p1, p2, p3, p4⟩ := gX_rows e
  simp only [xGrN, r9, p2]
theorem xGp_X (e : gXe X X') : xGp X' = xGp X := by
  obtain ⟨r1, r2, r4, r5, r6, r7, r8, r9, p1, p2, p3, p4⟩ := gX_rows e
  funext a b; simp only [xGp, r7, r9, p4]
theorem hK_X (e : gXe X X') : hK X' = hK X := by
  obtain ⟨r1, r2, r4, r5, r6, r7, r8, r9, p1, p2, p3, p4⟩ := gX_rows e
  funext T a b; simp only [hK, r7]
theorem hM_X (e : gXe X X') : hM X' = hM X := by
  obtain ⟨r1, r2, r4, r5, r6, r7, r8, r9, p1, p2, p3, p4⟩ := gX_rows e
  funext T a b; unfold hM; rw [hK_X e, r7, p4]
theorem hE_X (e : gXe X X') : hE X' = hE X := by
  obtain ⟨r1, r2, r4, r5, r6, r7, r8, r9, p1, p2, p3, p4⟩ := gX_rows e
  funext T a b; unfold hE; rw [hM_X e, r9, p2]
theorem tHin_X (e : gXe X X') : tHin X' = tHin X := by
  obtain ⟨r1, r2, r4, r5, r6, r7, r8, r9, p1, p2, p3, p4⟩ := gX_rows e
  funext T a b; unfold tHin; rw [hE_X e, hM_X e, hK_X e]
theorem tAt_X (e : gXe X X') : tAtA X' = tAtA X ∧ tAtT X' = tAtT X := by
  obtain ⟨r1, r2, r4, r5, r6, r7, r8, r9, p1, p2, p3, p4⟩ := gX_rows e
  constructor
  · funext T a b; unfold tAtA; rw [hE_X e, xGp_X e, r9, p2]
  · funext T a b; unfold tAtT; rw [tHin_X e, hE_X e, xGp_X e, r9, p2]
theorem tDt_X (e : gXe X X') : tDt0 X' = tDt0 X ∧ tDtD X' = tDtD X := by
  obtain ⟨r1, r2, r4, r5, r6, r7, r8, r9, p1, p2, p3, p4⟩ := gX_rows e
  constructor
  · funext T a; simp only [tDt0, r9]
  · funext T a b; simp only [tDtD, tSpd, xGp_X e, r7, r9, p4]
theorem tDoA_X (e : gXe X X') : tDoA X' = tDoA X := by
  obtain ⟨r1, r2, r4, r5, r6, r7, r8, r9, p1, p2, p3, p4⟩ := gX_rows e
  funext T a b; simp only [tDoA, tDoG, r9, p2]
theorem tReA_X (e : gXe X X') : tReA X' = tReA X := by
  obtain ⟨r1, r2, r4, r5, r6, r7, r8, r9, p1, p2, p3, p4⟩ := gX_rows e
  funext T a b c; simp only [tReA, r9, p2]
theorem tDv_X (e : gXe X X') : tDvA X' = tDvA X ∧ tDvK X' = tDvK X := by
  obtain ⟨r1, r2, r4, r5, r6, r7, r8, r9, p1, p2, p3, p4⟩ := gX_rows e
  constructor
  · funext T a b; simp only [tDvA, xSign_X e, xAbo_X e, r5, r9, p2]
  · funext a b; simp only [tDvK, p2]
theorem tCoA_X (e : gXe X X') : tCoA X' = tCoA X := by
  obtain ⟨r1, r2, r4, r5, r6, r7, r8, r9, p1, p2, p3, p4⟩ := gX_rows e
  funext T a; simp only [tCoA, xGrN_X e, p1, p2]
theorem xPt_X (e : gXe X X') : xPtA X' = xPtA X ∧ xPsA X' = xPsA X := by
  obtain ⟨r1, r2, r4, r5, r6, r7, r8, r9, p1, p2, p3, p4⟩ := gX_rows e
  constructor
  · funext a b; simp only [xPtA, xPas_X e, p2]
  · funext a b; simp only [xPsA, xPas_X e, p2]
end COUPLE
