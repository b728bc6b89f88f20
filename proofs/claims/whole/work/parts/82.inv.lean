/-! what holds of the check's state between calls -/
def tInv (X : gM) (N : Int) (T : Int → Int) : Prop := (∀ g, 0 ≤ g → g < 8 → -1 ≤ T (1673 + g) ∧ T (1673 + g) < T 1672) ∧ (∀ d, 0 ≤ d → d < 4 → 0 ≤ T (1668 + d) ∧ T (1668 + d) ≤ 3) ∧ tRqO (fun e => X 179 e) (X 167 12) T ∧ (tQuO T ∧ 0 ≤ T 1681 ∧ T 1681 ≤ 24) ∧ (0 ≤ T 1914 ∧ T 1914 ≤ N) ∧ (0 ≤ T 1672 ∧ T 1672 ≤ 4)
section INV
variable {X : gM} {N : Int} {T T' : Int → Int}
theorem gr8 (hI : gIX X) : ∀ e, 0 ≤ e → e < X 167 12 → 0 ≤ (fun e => X 179 e) e ∧ (fun e => X 179 e) e < 8 := fun e e0 e1 => by
  have n2 := hI.2.1
  have := gX8 hI (d := e) ⟨e0, by omega⟩
  exact ⟨this.1, this.2.1⟩
theorem tInv_congr (hI : gIX X) (h : tInv X N T) (e : ∀ j, (1668 ≤ j ∧ j < 1810) ∨ (1881 ≤ j ∧ j ≤ 1914) → T' j = T j) : tInv X (N + 1) T' := by
  obtain ⟨h1, h2, h3, ⟨h4, h5⟩, h6, h7⟩ := h
  refine ⟨fun g g0 g1 => by rw [e _ (by omega), e _ (by omega)]; exact h1 g g0 g1, fun d d0 d1 => by rw [e _ (by omega)]; exact h2 d d0 d1, tRqO_congr (gr8 hI) h3 (fun j hj => e j (by omega)), ⟨tQuO_congr (fun j j0 j1 => e j (by omega)) (by omega) h4, by rw [e _ (by omega)]; exact h5⟩, by rw [e _ (by omega)]; omega, by rw [e _ (by omega)]; exact h7⟩
theorem tInv_X {X' : gM} (h : tInv X N T) (e1 : ∀ d, X' 179 d = X 179 d) (e2 : X' 167 12 = X 167 12) : tInv X' N T := by
  have e3 : (fun e => X' 179 e) = fun e => X 179 e := funext e1
  unfold tInv
  rw [e3, e2]
  exact h
theorem tInv_ref {c a : Int} (hI : gIX X) (h : tInv X N T) : tInv X (N + 1) (tRef T c a) := tInv_congr hI h (fun j hj => tRef_lo (by omega))
theorem tInv_q (hI : gIX X) (h : tInv X N T) (hq : tQuO T' ∧ 0 ≤ T' 1681 ∧ T' 1681 ≤ 24) (ho : ∀ d, 0 ≤ d → d < 4 → 0 ≤ T' (1668 + d) ∧ T' (1668 + d) ≤ 3) (e : ∀ j, (1672 ≤ j ∧ j < 1681) ∨ (1881 ≤ j ∧ j ≤ 1914) → T' j = T j) : tInv X (N + 1) T' := by
  obtain ⟨h1, h2, h3, h4, h6, h7⟩ := h
  refine ⟨fun g g0 g1 => by rw [e _ (by omega), e _ (by omega)]; exact h1 g g0 g1, ho, tRqO_congr (gr8 hI) h3 (fun j hj => e j (by omega)), hq, by rw [e _ (by omega)]; omega, by rw [e _ (by omega)]; exact h7⟩
theorem tFlu_owed {d e : Int} (hd : 0 ≤ d ∧ d < 4) (hq : 0 ≤ T 1681 ∧ T 1681 < 31) (he : 0 ≤ e ∧ e < 4) : tFlu T d (1668 + e) = if e = d then 0 else T (1668 + e) := by
  have q1 : tCom T 1 d (-2) 1681 = T 1681 + 1 := tCom_1681
  have q2 : tS (itF (fun p T => tAns d p T) 0 64 (tCom T 1 d (-2))) (1668 + d) 0 1681 = T 1681 + 1 := by rw [tS_ne (by omega), tFlu_loop (by omega) hd (by omega), q1]
  unfold tFlu
  rw [tFen_lo (by omega) (by rw [q2]; omega)]
  by_cases c : e = d
  · rw [if_pos c, c, tS_same]
  · rw [if_neg c, tS_ne (by omega), tFlu_loop (by omega) hd (by omega), tCom_lo (by omega) (by omega)]
theorem tInv_flu {d : Int} (hI : gIX X) (h : tInv X N T) (hd : 0 ≤ d ∧ d < 4) (hq : T 1681 ≤ 22) : tInv X (N + 1) (tFlu T d) := by
  obtain ⟨h1, h2, h3, ⟨h4, h5⟩, h6, h7⟩ := id h
  refine tInv_q hI h ⟨tQuO_flu hd (by omega) h4, by rw [tFlu_1681 hd (by omega)]; omega⟩ (fun e e0 e1 => ?_) (fun j hj => tFlu_lo hd (by omega) (by omega))
  rw [tFlu_owed hd (by omega) ⟨e0, e1⟩]
  split
  · omega
  · exact h2 e e0 e1
theorem tInv_dom {v : Int} (hI : gIX X) (h : tInv X N T) : tInv X (N + 1) (tDomT T v) := by
  unfold tDomT
  split
  · exact tInv_congr hI h (fun _ _ => rfl)
  · rename_i c
    obtain ⟨h1, h2, h3, ⟨h4, h5⟩, h6, h7⟩ := h
    have lo : ∀ j, 1668 ≤ j → j ≠ 1672 → tS (tS T (1664 + T 1672) (if v = 0 then 0 else 1)) 1672 (T 1672 + 1) j = T j := fun j j0 j1 => by rw [tS_ne j1, tS_ne (by omega)]
    have e72 : tS (tS T (1664 + T 1672) (if v = 0 then 0 else 1)) 1672 (T 1672 + 1) 1672 = T 1672 + 1 := tS_same
    refine ⟨fun g g0 g1 => by rw [lo _ (by omega) (by omega), e72]; have := h1 g g0 g1; omega, fun d d0 d1 => by rw [lo _ (by omega) (by omega)]; exact h2 d d0 d1, tRqO_congr (gr8 hI) h3 (fun j hj => lo j (by omega) (by omega)), ⟨tQuO_congr (fun j j0 j1 => lo j (by omega) (by omega)) (by omega) h4, by rw [lo _ (by omega) (by omega)]; exact h5⟩, by rw [lo _ (by omega) (by omega)]; omega, by rw [e72]; omega⟩
theorem tInv_map {d p f r n g : Int} (hI : gIX X) (h : tInv X N T) (hn : n = 1 ∨ n = 4) : tInv X (N + 1) (tMapT T d p f r n g) := by
  have h7 := h.2.2.2.2.2
  unfold tMapT
  split
  · rename_i c
    split
    · exact tInv_ref hI h
    · split
      · exact tInv_ref hI h
      · have pn : p + n ≤ 64 := by rcases hn with rfl | rfl <;> omega
        refine tInv_congr hI h (fun j hj => ?_)
        unfold tMapN
        rw [tMapN_val (by omega) (by omega) n.toNat 0 T j (by omega) (by omega), if_neg (by omega), if_neg (by omega), if_neg (by omega), if_neg (by omega)]
  · exact tInv_congr hI h (fun _ _ => rfl)
theorem tInv_fluT {d : Int} (hI : gIX X) (h : tInv X N T) : tInv X (N + 1) (tFluT T d) := by
  have h7 := h.2.2.2.2.2
  unfold tFluT
  split
  · split
    · exact tInv_ref hI h
    · exact tInv_flu hI h (by omega) (by omega)
  · exact tInv_congr hI h (fun _ _ => rfl)
theorem tInv_fnc (hI : gIX X) (h : tInv X N T) : tInv X (N + 1) (tFncT T) := by
  obtain ⟨h1, h2, h3, ⟨h4, h5⟩, h6, h7⟩ := id h
  unfold tFncT
  split
  · exact tInv_congr hI h (fun _ _ => rfl)
  · refine tInv_q hI h ⟨tQuO_fen (by omega) h4, ?_⟩ (fun e e0 e1 => by rw [tFen_lo (by omega) (by omega)]; exact h2 e e0 e1) (fun j hj => ?_)
    · unfold tFen
      rw [tCom_1681, tS_ne (by omega)]
      omega
    · by_cases z : j < 1681
      · exact tFen_lo z (by omega)
      · exact tFen_hi (by omega) (by omega)
theorem tInv_wks (hI : gIX X) : ∀ (n : Nat) (T : Int → Int), tInv X N T → (0 ≤ T 1813 ∧ T 1813 ≤ 16) → tInv X (N + n) (tWks n T) := by
  intro n
  induction n with
  | zero => intro T h _; rw [tWks, Int.natCast_zero, Int.add_zero]; exact h
  | succ n ih =>
    intro T h hC
    obtain ⟨h1, h2, h3, ⟨h4, h5⟩, h6, h7⟩ := id h
    rw [tWks]
    by_cases c : T 1681 = 0
    · rw [if_pos c]
      exact ⟨h1, h2, h3, ⟨h4, h5⟩, by omega, h7⟩
    · rw [if_neg c]
      obtain ⟨f1, f2, f3, f4⟩ := tWrk_facts h7 (by omega) hC
      have lo : ∀ j, (j < 1024 ∨ (1088 ≤ j ∧ j < 1681) ∨ 1878 ≤ j) → tWrk T j = T j := fun j hj => tWrk_lo hC (by omega) (Or.inl hj)
      have w : tInv X N (tWrk T) := ⟨fun g g0 g1 => by rw [lo _ (by omega), f1]; exact h1 g g0 g1, fun d d0 d1 => by rw [lo _ (by omega)]; exact h2 d d0 d1, tRqO_congr (gr8 hI) h3 (fun j hj => lo j (by omega)), ⟨tQuO_wrk hC (by omega) h4, by omega⟩, by rw [lo _ (by omega)]; exact h6, by rw [f1]; exact h7⟩
      have := ih (tWrk T) w (by omega)
      obtain ⟨g1, g2, g3, g4, g6, g7⟩ := this
      exact ⟨g1, g2, g3, g4, by omega, g7⟩
theorem tWks_1914 : ∀ (n : Nat) (T : Int → Int), (0 ≤ T 1672 ∧ T 1672 ≤ 4) → (0 ≤ T 1681 ∧ T 1681 ≤ 32) → (0 ≤ T 1813 ∧ T 1813 ≤ 16) → tWks n T 1914 = T 1914 := by
  intro n
  induction n with
  | zero => intro T _ _ _; rfl
  | succ n ih =>
    intro T hD hq hC
    rw [tWks]
    split
    · rfl
    · rename_i c
      obtain ⟨f1, f2, f3, f4⟩ := tWrk_facts hD (by omega) hC
      rw [ih (tWrk T) (by omega) (by omega) (by omega), tWrk_lo hC hq (by omega)]
theorem tInv_wk {n : Int} (hI : gIX X) (h : tInv X N T) (hC : 0 ≤ T 1813 ∧ T 1813 ≤ 16) : tInv X (N + 1) (tWkT T n) := by
  unfold tWkT
  split
  · obtain ⟨g1, g2, g3, g4, g6, g7⟩ := tInv_wks hI n.toNat T h hC
    have e := tWks_1914 n.toNat T h.2.2.2.2.2 (by have := h.2.2.2.1.2; omega) hC
    exact ⟨g1, g2, g3, g4, by rw [e]; have := h.2.2.2.2.1; omega, g7⟩
  · exact tInv_congr hI h (fun _ _ => rfl)
theorem tInv_unm {d p : Int} (hI : gIX X) (h : tInv X N T) (hF : ∀ j, 0 ≤ j → j < 256 → -1 ≤ T j ∧ T j < 64) (hW : tOin T) : tInv X (N + 1) (tUnmT T d p) := by
  obtain ⟨h1, h2, h3, ⟨h4, h5⟩, h6, h7⟩ := id h
  unfold tUnmT
  split
  · rename_i c
    have hd4 : 0 ≤ d ∧ d < 4 := by omega
    have hp : 0 ≤ p ∧ p < 64 := by omega
    split
    · rename_i hm
      have hm2 : 0 ≤ T (64 * d + p) ∧ T (64 * d + p) < 64 := by
        unfold tMp at hm
        rw [decide_eq_true_eq] at hm
        exact ⟨hm, (hF _ (by omega) (by omega)).2⟩
      have lo : ∀ j, 1664 ≤ j → tUn T d p j = T j := fun j hj => tUn_lo hd4 hp hm2 hj
      split
      · exact tInv_ref hI h
      · split
        · exact tInv_ref hI h
        · rename_i q22
          have hu : tInv X N (tUn T d p) := ⟨fun g g0 g1 => by rw [lo _ (by omega), lo _ (by omega)]; exact h1 g g0 g1, fun d d0 d1 => by rw [lo _ (by omega)]; exact h2 d d0 d1, tRqO_congr (gr8 hI) h3 (fun j hj => lo j (by omega)), ⟨tQuO_congr (fun j j0 j1 => lo j (by omega)) (by omega) h4, by rw [lo _ (by omega)]; exact h5⟩, by rw [lo _ (by omega)]; exact h6, by rw [lo _ (by omega)]; exact h7⟩
          have u81 := lo 1681 (by omega)
          unfold tUnm2
          split
          · have hq : 0 ≤ tUn T d p 1681 ∧ tUn T d p 1681 < 32 := by omega
            have an : ∀ j, 1664 ≤ j → tAns d p (tCom (tUn T d p) 0 d p) j = tCom (tUn T d p) 0 d p j := fun j hj => tAns_lo (Nat.le_refl _) hd4 hp (Or.inl hj)
            refine tInv_q hI hu ⟨tQuO_congr (T := tCom (tUn T d p) 0 d p) (fun j j0 j1 => an j (by omega)) (by rw [tCom_1681]; omega) (tQuO_com hq ⟨Or.inl rfl, fun _ => hp.1⟩ hu.2.2.2.1.1), by rw [an _ (by omega), tCom_1681]; omega⟩ (fun e e0 e1 => by rw [an _ (by omega), tCom_lo (by omega) hq]; exact hu.2.1 e e0 e1) (fun j hj => by rw [an j (by omega), tCom_lo (by omega) hq])
          · have ow := h2 d hd4.1 hd4.2
            have m : ∀ j, j ≠ 1668 + d → tMor (tUn T d p) (1668 + d) j = tUn T d p j := fun j hj => tMor_ne hj
            have md : tMor (tUn T d p) (1668 + d) (1668 + d) = T (1668 + d) + 1 := by
              unfold tMor
              rw [tS_same, lo _ (by omega), w32_id (by omega) (by omega)]
            have qm : tQuO (tMor (tUn T d p) (1668 + d)) := tQuO_congr (T := tUn T d p) (fun j j0 j1 => m j (by omega)) (by omega) hu.2.2.2.1.1
            have m81 := m 1681 (by omega)
            split
            · refine tInv_q hI hu ⟨tQuO_flu hd4 (by omega) qm, by rw [tFlu_1681 hd4 (by omega)]; omega⟩ (fun e e0 e1 => ?_) (fun j hj => by rw [tFlu_lo hd4 (by omega) (by omega), m j (by omega)])
              rw [tFlu_owed hd4 (by omega) ⟨e0, e1⟩]
              split
              · omega
              · rw [m _ (by omega)]; exact hu.2.1 e e0 e1
            · refine tInv_q hI hu ⟨qm, by omega⟩ (fun e e0 e1 => ?_) (fun j hj => m j (by omega))
              by_cases z : e = d
              · rw [z, md]; omega
              · rw [m _ (by omega)]; exact hu.2.1 e e0 e1
    · exact tInv_ref hI h
  · exact tInv_congr hI h (fun _ _ => rfl)
theorem tInv_att {e d : Int} (hI : gIX X) (h : tInv X N T) : tInv X (N + 1) (tAtT X T e d) := by
  obtain ⟨h1, h2, h3, ⟨h4, h5⟩, h6, h7⟩ := id h
  have n2 := hI.2.1
  unfold tAtT
  split
  · rename_i c
    split
    · exact tInv_ref hI h
    · rename_i hn
      split
      · exact tInv_congr hI h (fun j hj => tHi3_lo (by omega))
      · have g := gX8 hI (d := e) (by omega)
        have t1 : tRqO (fun e => X 179 e) (X 167 12) (tS T (1673 + X 179 e) d) := by
          obtain ⟨a1, a2, a3⟩ := h3
          refine ⟨by rw [tS_ne (by omega)]; exact a1, by rw [tS_ne (by omega)]; exact a2, fun k k0 k1 => ?_⟩
          rw [tS_ne (by omega)] at k1
          obtain ⟨b1, b2, b3, b4, b5⟩ := a3 k k0 k1
          dsimp only at b5
          rw [tS_ne (by omega), tS_ne (by omega), tS_ne (by omega), tS_ne (by omega)]
          refine ⟨b1, b2, b3, b4, ?_⟩
          dsimp only
          by_cases z : X 179 (T (1882 + 4 * k)) = X 179 e
          · rw [z] at b5; omega
          · have g' := gX8 hI (d := T (1882 + 4 * k)) (by omega)
            rw [tS_ne (by omega)]; exact b5
        have hi : ∀ j, 1024 ≤ j → j ≠ 1673 + X 179 e → tNew (tS T (1673 + X 179 e) d) (cFr T d (xGp X e)) j = T j := fun j j0 j1 => by rw [tNew_hi j0, tS_ne j1]
        refine ⟨fun g' g0 g1 => ?_, fun d' d0 d1 => by rw [hi _ (by omega) (by omega)]; exact h2 d' d0 d1, tRqO_congr (gr8 hI) t1 (fun j hj => tNew_hi (by omega)), ⟨tQuO_congr (fun j j0 j1 => hi j (by omega) (by omega)) (by omega) h4, by rw [hi _ (by omega) (by omega)]; exact h5⟩, by rw [hi _ (by omega) (by omega)]; omega, by rw [hi _ (by omega) (by omega)]; exact h7⟩
        rw [hi 1672 (by omega) (by omega)]
        by_cases z : g' = X 179 e
        · rw [z, tNew_hi (by omega), tS_same]; omega
        · rw [hi _ (by omega) (by omega)]; exact h1 g' g0 g1
  · exact tInv_congr hI h (fun _ _ => rfl)
theorem tInv_lk {room d p r : Int} (hI : gIX X) (h : tInv X N T) (hC : 0 ≤ T 1813 ∧ T 1813 ≤ room) (hr : 1 ≤ room ∧ room ≤ 16) : tInv X (N + 1) (tLkT T room d p r) := tInv_congr hI h (fun j hj => tLkT_lo (by omega) hC hr)
theorem tInv_tid {d : Int} (hI : gIX X) (h : tInv X N T) (hd : 0 ≤ d ∧ d < 4) : tInv X (N + 1) (tTid d 16 0 0 T).2 := tInv_congr hI h (fun j hj => tTid_lo hd 16 0 0 T (by omega) (by omega) j (by omega))
theorem tRqO_req {e p r : Int} (hI : gIX X) (h : tRqO (fun e => X 179 e) (X 167 12) T) (hW : T 1881 < 8) (he : 0 ≤ e ∧ e < X 167 12) (hp : 0 ≤ p ∧ p < 64) (hr : 1 ≤ r ∧ r ≤ 2) (hd : 0 ≤ T (1673 + X 179 e) ∧ T (1673 + X 179 e) < 4) : tRqO (fun e => X 179 e) (X 167 12) (tReq T e p r) := by
  have n2 := hI.2.1
  obtain ⟨a1, a2, a3⟩ := h
  have q1 : tReq T e p r 1881 = T 1881 + 1 := by unfold tReq; rw [tMor_ne (by omega), tS_same]
  have lo : ∀ j, j < 1881 → tReq T e p r j = T j := fun j hj => tReq_lo' ⟨a1, hW⟩ (by omega)
  refine ⟨by omega, by omega, fun k k0 k1 => ?_⟩
  rw [q1] at k1
  by_cases c : k = T 1881
  · subst c
    have v0 : tReq T e p r (1882 + 4 * T 1881) = e := by simp (disch := first | assumption | omega) only [tReq, tMor_ne, tS_ne, tS_same]
    have v1 : tReq T e p r (1882 + 4 * T 1881 + 1) = p := by simp (disch := first | assumption | omega) only [tReq, tMor_ne, tS_ne, tS_same]
    have v2 : tReq T e p r (1882 + 4 * T 1881 + 2) = r := by simp (disch := first | assumption | omega) only [tReq, tMor_ne, tS_ne, tS_same]
    have v3 : tReq T e p r (1882 + 4 * T 1881 + 3) = 0 := by simp (disch := first | assumption | omega) only [tReq, tMor_ne, tS_ne, tS_same]
    rw [v0, v1, v2, v3]
    have g := gX8 hI (d := e) (by omega)
    exact ⟨he, hp, hr, by omega, by dsimp only; rw [lo _ (by omega)]; exact hd⟩
  · obtain ⟨b1, b2, b3, b4, b5⟩ := a3 k k0 (by omega)
    have v : ∀ w, 0 ≤ w → w < 4 → tReq T e p r (1882 + 4 * k + w) = T (1882 + 4 * k + w) := fun w w0 w1 => by
      unfold tReq
      rw [tMor_ne (by omega), tS_ne (by omega), tS_ne (by omega), tS_ne (by omega), tS_ne (by omega), tS_ne (by omega)]
    have v0 := v 0 (by omega) (by omega)
    rw [Int.add_zero] at v0
    rw [v0, v 1 (by omega) (by omega), v 2 (by omega) (by omega), v 3 (by omega) (by omega)]
    have g := gX8 hI (d := T (1882 + 4 * k)) (by omega)
    exact ⟨b1, b2, b3, b4, by dsimp only at b5 ⊢; rw [lo _ (by omega)]; exact b5⟩
theorem tRqO_opF {e : Int} (hI : gIX X) : ∀ (n : Nat) (T : Int → Int), (n : Int) ≤ T 1881 → tRqO (fun e => X 179 e) (X 167 12) T → tRqO (fun e => X 179 e) (X 167 12) (tOpF e n T) := by
  intro n
  induction n with
  | zero => intro T _ h; exact h
  | succ n ih =>
    intro T h0 h
    have g1 : tReqG T n 1881 = T 1881 - 1 := tReqG_1881
    rw [tOpF]
    split
    · exact ih _ (by rw [tMor_ne (by omega), g1]; omega) (tRqO_congr (gr8 hI) (tRqO_go (gr8 hI) h ⟨by omega, by omega⟩) (fun j hj => tMor_ne (by omega)))
    · exact ih T (by omega) h
theorem tInv_use {e p r w a sg : Int} (hI : gIX X) (h : tInv X N T) (he : 0 ≤ e ∧ e < X 167 12) (hp : 0 ≤ p ∧ p < 64) (hr : 1 ≤ r ∧ r ≤ 2) (hd : 0 ≤ T (1673 + X 179 e) ∧ T (1673 + X 179 e) < 4) (hR : 0 ≤ T 1927 ∧ T 1927 ≤ 8) :
    tInv X (N + 1) (tFaN (tMor T 1879) e sg p r w a) ∧ (T 1881 < 8 → tInv X (N + 1) (tReq (tFaN (tMor T 1879) e sg p r w a) e p r)) ∧ (T 1881 = 8 → tInv X (N + 1) (tOpF e 8 (tFaM (tMor T 1879) e sg p r w a))) := by
  have n2 := hI.2.1
  have g := gX8 hI (d := e) (by omega)
  have hR1 : 0 ≤ tMor T 1879 1927 ∧ tMor T 1879 1927 ≤ 8 := by rw [tMor_ne (by omega)]; exact hR
  have lN : ∀ j, j < 1918 → j ≠ 1879 → tFaN (tMor T 1879) e sg p r w a j = T j := fun j hj hn => by rw [tFaN_lo' hR1 hj, tMor_ne hn]
  have lM : ∀ j, j < 1918 → j ≠ 1879 → tFaM (tMor T 1879) e sg p r w a j = T j := fun j hj hn => by rw [tFaM_lo' hR1 hj, tMor_ne hn]
  have iN : tInv X (N + 1) (tFaN (tMor T 1879) e sg p r w a) := tInv_congr hI h (fun j hj => lN j (by omega) (by omega))
  refine ⟨iN, fun hw => ?_, fun hw => ?_⟩
  · obtain ⟨h1, h2, h3, ⟨h4, h5⟩, h6, h7⟩ := iN
    have w81 := lN 1881 (by omega) (by omega)
    have w0 := h.2.2.1.1
    have lo : ∀ j, j < 1881 → tReq (tFaN (tMor T 1879) e sg p r w a) e p r j = tFaN (tMor T 1879) e sg p r w a j := fun j hj => tReq_lo' (by omega) (by omega)
    have l14 : tReq (tFaN (tMor T 1879) e sg p r w a) e p r 1914 = tFaN (tMor T 1879) e sg p r w a 1914 := by
      unfold tReq
      rw [tMor_ne (by omega), tS_ne (by omega), tS_ne (by omega), tS_ne (by omega), tS_ne (by omega), tS_ne (by omega)]
    exact ⟨fun g g0 g1 => by rw [lo _ (by omega), lo _ (by omega)]; exact h1 g g0 g1, fun d d0 d1 => by rw [lo _ (by omega)]; exact h2 d d0 d1, tRqO_req hI h3 (by omega) he hp hr (by rw [lN _ (by omega) (by omega)]; exact hd), ⟨tQuO_congr (fun j j0 j1 => lo j (by omega)) (by omega) h4, by rw [lo _ (by omega)]; exact h5⟩, by rw [l14]; exact h6, by rw [lo _ (by omega)]; exact h7⟩
  · have iM : tInv X (N + 1) (tFaM (tMor T 1879) e sg p r w a) := tInv_congr hI h (fun j hj => lM j (by omega) (by omega))
    obtain ⟨h1, h2, h3, ⟨h4, h5⟩, h6, h7⟩ := iM
    have w81 := lM 1881 (by omega) (by omega)
    have lo : ∀ j, (j < 1881 ∨ 1914 ≤ j) → j ≠ 1917 → tOpF e 8 (tFaM (tMor T 1879) e sg p r w a) j = tFaM (tMor T 1879) e sg p r w a j := fun j hj hn => tOpF_lo' 8 _ (by omega) (by omega) j hj hn
    exact ⟨fun g g0 g1 => by rw [lo _ (by omega) (by omega), lo _ (by omega) (by omega)]; exact h1 g g0 g1, fun d d0 d1 => by rw [lo _ (by omega) (by omega)]; exact h2 d d0 d1, tRqO_opF hI 8 _ (by omega) h3, ⟨tQuO_congr (fun j j0 j1 => lo j (by omega) (by omega)) (by omega) h4, by rw [lo _ (by omega) (by omega)]; exact h5⟩, by rw [lo _ (by omega) (by omega)]; exact h6, by rw [lo _ (by omega) (by omega)]; exact h7⟩
theorem tInv_srv {well : Bool} (hI : gIX X) (h : tInv X N T) (hC : 0 ≤ T 1813 ∧ T 1813 ≤ X 178 0) (hr : 1 ≤ X 178 0 ∧ X 178 0 ≤ 16) : tInv X (N + 1) (tSvT (X 178 0) (fun e => X 179 e) well T) := by
  obtain ⟨h1, h2, h3, ⟨h4, h5⟩, h6, h7⟩ := id h
  unfold tSvT
  split
  · exact tInv_congr hI h (fun _ _ => rfl)
  · have w0 := h3.1
    obtain ⟨a1, a2, a3, a4, a5, a6⟩ := tSrv_facts (well := well) (bt := tFirB T) (gr8 hI) hr (T 1881).toNat 0 0 T (by omega) (by omega) hC h3
    exact ⟨fun g g0 g1 => by rw [a6 _ (by omega), a6 _ (by omega)]; exact h1 g g0 g1, fun d d0 d1 => by rw [a6 _ (by omega)]; exact h2 d d0 d1, a1, ⟨tQuO_congr (fun j j0 j1 => a6 j (by omega)) (by omega) h4, by rw [a6 _ (by omega)]; exact h5⟩, by rw [a6 _ (by omega)]; omega, by rw [a6 _ (by omega)]; exact h7⟩
theorem tRqO_cl {e : Int} (hI : gIX X) : ∀ (n : Nat) (k : Int) (T : Int → Int), 0 ≤ k → k + n ≤ T 1881 → 0 ≤ T 1914 → tRqO (fun e => X 179 e) (X 167 12) T → tRqO (fun e => X 179 e) (X 167 12) (itF (fun k T => tCl1 e k T) k n T) ∧ ∀ j, j < 1882 ∨ 1914 ≤ j → itF (fun k T => tCl1 e k T) k n T j = T j := by
  intro n
  induction n with
  | zero => intro k T _ _ _ h; exact ⟨h, fun _ _ => rfl⟩
  | succ n ih =>
    intro k T k0 k1 hb h
    have n2 := hI.2.1
    have w8 := h.2.1
    have lo : ∀ j, j < 1882 ∨ 1914 ≤ j → tCl1 e k T j = T j := fun j hj => tCl1_lo hj (by omega)
    have h' : tRqO (fun e => X 179 e) (X 167 12) (tCl1 e k T) := by
      unfold tCl1
      split
      · obtain ⟨a1, a2, a3⟩ := h
        refine ⟨by rw [tS_ne (by omega)]; exact a1, by rw [tS_ne (by omega)]; exact a2, fun i i0 i1 => ?_⟩
        rw [tS_ne (by omega)] at i1
        obtain ⟨b1, b2, b3, b4, b5⟩ := a3 i i0 i1
        have g := gX8 hI (d := T (1882 + 4 * i)) (by omega)
        rw [tS_ne (show 1882 + 4 * i ≠ 1882 + 4 * k + 3 by omega), tS_ne (show 1882 + 4 * i + 1 ≠ 1882 + 4 * k + 3 by omega), tS_ne (show 1882 + 4 * i + 2 ≠ 1882 + 4 * k + 3 by omega)]
        refine ⟨b1, b2, b3, ?_, by dsimp only at b5 ⊢; rw [tS_ne (by omega)]; exact b5⟩
        by_cases z : i = k
        · rw [z, tS_same]; exact hb
        · rw [tS_ne (by omega)]; exact b4
      · exact h
    obtain ⟨i1, i2⟩ := ih (k + 1) (tCl1 e k T) (by omega) (by rw [lo _ (by omega)]; omega) (by rw [lo _ (by omega)]; exact hb) h'
    rw [itF]
    exact ⟨i1, fun j hj => by rw [i2 j hj, lo j hj]⟩
theorem tInv_clo {e : Int} (hI : gIX X) (h : tInv X N T) (hN : N < 1000000) : tInv X (N + 1) (tClo T e) := by
  obtain ⟨h1, h2, h3, ⟨h4, h5⟩, h6, h7⟩ := id h
  have w0 := h3.1
  have m14 : tMor T 1914 1914 = T 1914 + 1 := by unfold tMor; rw [tS_same, w32_id (by omega) (by omega)]
  have lo1 : ∀ j, j ≠ 1914 → tMor T 1914 j = T j := fun j hj => tMor_ne hj
  have h3' : tRqO (fun e => X 179 e) (X 167 12) (tMor T 1914) := tRqO_congr (gr8 hI) h3 (fun j hj => lo1 j (by omega))
  obtain ⟨i1, i2⟩ := tRqO_cl (e := e) hI (T 1881).toNat 0 (tMor T 1914) (by omega) (by rw [lo1 _ (by omega)]; omega) (by rw [m14]; omega) h3'
  have lo : ∀ j, j < 1882 → tClo T e j = T j := fun j hj => by
    unfold tClo
    rw [i2 j (by omega), lo1 j (by omega)]
  have l14 : tClo T e 1914 = T 1914 + 1 := by
    unfold tClo
    rw [i2 _ (by omega), m14]
  exact ⟨fun g g0 g1 => by rw [lo _ (by omega), lo _ (by omega)]; exact h1 g g0 g1, fun d d0 d1 => by rw [lo _ (by omega)]; exact h2 d d0 d1, i1, ⟨tQuO_congr (fun j j0 j1 => lo j (by omega)) (by omega) h4, by rw [lo _ (by omega)]; exact h5⟩, by rw [l14]; omega, by rw [lo _ (by omega)]; exact h7⟩
theorem tInv_det {e : Int} {T2 : Int → Int} (hI : gIX X) (h : tInv X N T) (he : 0 ≤ e ∧ e < X 167 12) (hd : 0 ≤ T (1673 + X 179 e) ∧ T (1673 + X 179 e) < T 1672) (hq : T 1681 ≤ 22) (d2 : tDe (tDt0 X T e) (tDtD X (tDt0 X T e) e (T (1673 + X 179 e))) T2) : tInv X (N + 1) (tFlu T2 (T (1673 + X 179 e))) := by
  obtain ⟨h1, h2, h3, ⟨h4, h5⟩, h6, h7⟩ := id h
  have n2 := hI.2.1
  have g := gX8 hI (d := e) (by omega)
  have hW := h3.2.1
  have w0 := h3.1
  obtain ⟨g1, g2, g3, g4⟩ := tRmG_all (P := fun r => decide (X 179 r.1 = X 179 e)) (c := true) (T 1881).toNat T (by omega) hW
  have gf := tRmG_full (P := fun r => decide (X 179 r.1 = X 179 e)) (c := true) w0 hW
  have u : tDtR (fun e => X 179 e) (X 179 e) (T 1881).toNat T = tRmG (fun r => decide (X 179 r.1 = X 179 e)) true (T 1881).toNat T := tDtR_G _ _
  rw [← u] at g2 g3 g4 gf
  have hi : ∀ j, 1664 ≤ j → T2 j = tDt0 X T e j := fun j hj => d2.2.2.2 j (by omega)
  have lo : ∀ j, (j < 1881 ∨ 1914 ≤ j) → j ≠ 1917 → j ≠ 1673 + X 179 e → tDt0 X T e j = T j := fun j hj h17 hn => by
    unfold tDt0
    rw [tS_ne hn, g2 j hj (Or.inl h17)]
  have eH : tDt0 X T e (1673 + X 179 e) = -1 := tS_same
  have e81 : tDt0 X T e 1881 = tDtR (fun e => X 179 e) (X 179 e) (T 1881).toNat T 1881 := tS_ne (by omega)
  have rq : tRqO (fun e => X 179 e) (X 167 12) (tDt0 X T e) := by
    refine ⟨by omega, by omega, fun k k0 k1 => ?_⟩
    rw [e81] at k1
    have hk : k.toNat < (tL (tDtR (fun e => X 179 e) (X 179 e) (T 1881).toNat T)).length := by rw [tL_len]; omega
    have mem := List.getElem_mem hk
    rw [tL_get hk, show ((k.toNat : Nat) : Int) = k by omega, gf, List.mem_filter] at mem
    obtain ⟨m1, m2⟩ := mem
    unfold tL at m1
    rw [List.mem_map] at m1
    obtain ⟨i, hi1, hi2⟩ := m1
    rw [List.mem_range] at hi1
    obtain ⟨b1, b2, b3, b4, b5⟩ := h3.2.2 i (by omega) (by omega)
    unfold tRw4 at hi2 m2
    rw [Prod.mk.injEq, Prod.mk.injEq, Prod.mk.injEq] at hi2
    obtain ⟨r1, r2, r3, r4⟩ := hi2
    have v : ∀ j, 1881 ≤ j → tDt0 X T e j = tDtR (fun e => X 179 e) (X 179 e) (T 1881).toNat T j := fun j hj => tS_ne (by omega)
    rw [v _ (by omega), v _ (by omega), v _ (by omega), v _ (by omega), ← r1, ← r2, ← r3, ← r4]
    have m2' : ¬ X 179 (T (1882 + 4 * (i : Int))) = X 179 e := by rw [r1]; simpa using m2
    have g' := gX8 hI (d := T (1882 + 4 * (i : Int))) (by omega)
    exact ⟨b1, b2, b3, b4, by dsimp only at b5 ⊢; rw [lo _ (by omega) (by omega) (by omega)]; exact b5⟩
  have t2 : tInv X N T2 := by
    refine ⟨fun g' g0 g1 => ?_, fun d d0 d1 => by rw [hi _ (by omega), lo _ (by omega) (by omega) (by omega)]; exact h2 d d0 d1, tRqO_congr (gr8 hI) rq (fun j hj => hi j (by omega)), ⟨tQuO_congr (T := T) (fun j j0 j1 => by rw [hi j (by omega), lo _ (by omega) (by omega) (by omega)]) (by omega) h4, by rw [hi _ (by omega), lo _ (by omega) (by omega) (by omega)]; exact h5⟩, by rw [hi _ (by omega), lo _ (by omega) (by omega) (by omega)]; exact h6, by rw [hi _ (by omega), lo _ (by omega) (by omega) (by omega)]; exact h7⟩
    rw [hi _ (by omega), hi _ (by omega), lo 1672 (by omega) (by omega) (by omega)]
    by_cases z : g' = X 179 e
    · rw [z, eH]; omega
    · rw [lo _ (by omega) (by omega) (by omega)]; exact h1 g' g0 g1
  exact tInv_flu hI t2 (by omega) (by rw [hi _ (by omega), lo _ (by omega) (by omega) (by omega)]; exact hq)
end INV
