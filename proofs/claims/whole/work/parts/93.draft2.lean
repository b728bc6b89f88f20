/-! the drafts: what an alias, a span, a stall, room and seed told do to them -/
section DRAFT2
variable {C C' C'' M M' M'' X X' : gM} {Q : Int → gM → Prop}
theorem dR_alias {n one other : Int} (h : dR C M) (hn : n = M 167 17) (n8 : 0 ≤ n ∧ n < 8) (ho : 0 ≤ one ∧ one < xR M 167 12) (hp : 0 ≤ other ∧ other < xR M 167 12)
    (m1 : M' 176 (16 + 2 * n) = one) (m2 : M' 176 (17 + 2 * n) = other) (m4 : M' 167 17 = n + 1) (m5 : ∀ (k : Nat) i, 170 ≤ k → k ≤ 179 → (k = 176 → i ≠ 16 + 2 * n ∧ i ≠ 17 + 2 * n) → M' k i = M k i) (m6 : ∀ i, i = 15 ∨ i = 16 ∨ i = 18 ∨ i = 28 ∨ i = 29 → M' 167 i = M 167 i)
    (c1 : C' 10 n = one) (c2 : C' 11 n = other) (c4 : C' 3 8 = n + 1) (c5 : ∀ (k : Nat) i, 3 ≤ k → k ≤ 16 → ((k = 10 ∨ k = 11) → i ≠ n) → (k = 3 → i ≠ 8) → C' k i = C k i) (c6 : C' 1 8 = C 1 8) (c7 : C' 1 9 = C 1 9) : dR C' M' := by
  obtain ⟨hI, t, hs, h4, h5, h6, h7⟩ := h
  obtain ⟨n1, n2, n3, n4, g1, g2, g3, g4, g5, g6, g7⟩ := id hI
  have e11 : xR M' 167 11 = xR M 167 11 := m6 15 (by omega)
  have e12 : xR M' 167 12 = xR M 167 12 := m6 16 (by omega)
  have e0 : xR M 167 13 = n := hn.symm
  have e13 : xR M' 167 13 = n + 1 := m4
  have e14 : xR M' 167 14 = xR M 167 14 := m6 18 (by omega)
  have b170 : ∀ i, xR M' 170 i = xR M 170 i := fun i => m5 170 (6 + i) (by omega) (by omega) (fun _ => by omega)
  have b171 : ∀ i, xR M' 171 i = xR M 171 i := fun i => m5 171 (6 + i) (by omega) (by omega) (fun _ => by omega)
  have b172 : ∀ i, xR M' 172 i = xR M 172 i := fun i => m5 172 (6 + i) (by omega) (by omega) (fun _ => by omega)
  have b173 : ∀ i, xR M' 173 i = xR M 173 i := fun i => m5 173 (8 + i) (by omega) (by omega) (fun _ => by omega)
  have b174 : ∀ i, xR M' 174 i = xR M 174 i := fun i => m5 174 (8 + i) (by omega) (by omega) (fun _ => by omega)
  have b175 : ∀ i, xR M' 175 i = xR M 175 i := fun i => m5 175 (8 + i) (by omega) (by omega) (fun _ => by omega)
  have b177 : ∀ i, xR M' 177 i = xR M 177 i := fun i => m5 177 (18 + i) (by omega) (by omega) (fun _ => by omega)
  have b178 : ∀ i, xR M' 178 i = xR M 178 i := fun i => m5 178 (2 + i) (by omega) (by omega) (fun _ => by omega)
  have b179 : ∀ i, xR M' 179 i = xR M 179 i := fun i => m5 179 i (by omega) (by omega) (fun _ => by omega)
  have b176 : ∀ i, i ≠ 2 * n → i ≠ 2 * n + 1 → xR M' 176 i = xR M 176 i := fun i i0 i1 => m5 176 (16 + i) (by omega) (by omega) (fun _ => by omega)
  have x0 : xR M' 176 (2 * n) = one := m1
  have x1 : xR M' 176 (2 * n + 1) = other := by
    rw [← m2]
    show M' 176 (16 + (2 * n + 1)) = _
    congr 1
    omega
  have ab : xAb (xR M') = xAb (xR M) := by
    funext f
    induction f with
    | zero => rfl
    | succ f ih => funext b s; rw [xAb, xAb, ih, b171 b]
  have ao : xAbo (xR M') = xAbo (xR M) := by
    funext d
    unfold xAbo
    rw [ab, b174]
  obtain ⟨⟨t1, t2, t3, t4, t5, t6⟩, u1, u2, u3, u4⟩ := t
  have cc : ∀ (k : Nat) i, 4 ≤ k → k ≤ 16 → k ≠ 10 → k ≠ 11 → C' k i = C k i := fun k i k0 k1 q10 q11 => c5 k i (by omega) (by omega) (fun _ => by omega) (fun _ => by omega)
  have cn : ∀ (k : Nat) i, 4 ≤ k → k ≤ 16 → i ≠ n → C' k i = C k i := fun k i k0 k1 hi => c5 k i (by omega) (by omega) (fun _ => hi) (fun _ => by omega)
  have c0 : ∀ i, i ≠ 8 → C' 3 i = C 3 i := fun i hi => c5 3 i (by omega) (by omega) (fun _ => by omega) (fun _ => hi)
  refine ⟨⟨by rw [e11]; exact n1, by rw [e12]; exact n2, by rw [e13]; omega, by rw [e14]; exact n4, fun i i0 i1 => ?_, fun d d0 d1 => ?_, fun d d0 d1 => ?_, fun k k0 k1 => ?_, fun k k0 k1 => ?_, by rw [b178]; exact g6, by rw [b178]; exact g7⟩, ⟨⟨by rw [e11, c0 _ (by omega)]; exact t1, by rw [e12, c0 _ (by omega)]; exact t2, by rw [e13]; exact c4, by rw [e14, c0 _ (by omega)]; exact t4, by rw [b178, c0 _ (by omega)]; exact t5, by rw [b178, c0 _ (by omega)]; exact t6⟩, fun b d0 d1 => ?_, fun d d0 d1 => ?_, fun k k0 k1 => ?_, fun k k0 k1 => ?_⟩, fun d d0 d1 => by rw [cc 9 d (by omega) (by omega) (by omega) (by omega)]; exact hs d (by rw [e12] at d0; omega) d1, by rw [c6, m6 28 (by omega)]; exact h4, by rw [c7, m6 29 (by omega)]; exact h5, by rw [c6]; exact h6, by rw [c7]; exact h7⟩
  · rw [e11] at i1
    rw [b171, b172]
    exact g1 i i0 i1
  · rw [e12] at d1
    rw [b174, b175, e11]
    exact g2 d d0 d1
  · rw [b179, b179]
    exact g3 d d0 d1
  · rw [e13] at k1
    rw [e12]
    by_cases z : k = n
    · rw [z, x0, x1]
      omega
    · rw [b176 _ (by omega) (by omega), b176 _ (by omega) (by omega)]
      exact g4 k k0 (by omega)
  · rw [e14] at k1
    rw [b177, b177, b177, e12]
    exact g5 k k0 k1
  · rw [e11] at d1
    rw [b170, b172, ab, cc _ _ (by omega) (by omega) (by omega) (by omega), cc _ _ (by omega) (by omega) (by omega) (by omega), cc _ _ (by omega) (by omega) (by omega) (by omega)]
    exact u1 b d0 d1
  · rw [e12] at d1
    rw [b173, ao, b175, cc _ _ (by omega) (by omega) (by omega) (by omega), cc _ _ (by omega) (by omega) (by omega) (by omega), cc _ _ (by omega) (by omega) (by omega) (by omega)]
    exact u2 d d0 d1
  · rw [e13] at k1
    by_cases z : k = n
    · rw [z, x0, x1]
      exact ⟨c1, c2⟩
    · rw [b176 _ (by omega) (by omega), b176 _ (by omega) (by omega), cn _ _ (by omega) (by omega) z, cn _ _ (by omega) (by omega) z]
      exact u3 k k0 (by omega)
  · rw [e14] at k1
    rw [b177, b177, b177, cc _ _ (by omega) (by omega) (by omega) (by omega), cc _ _ (by omega) (by omega) (by omega) (by omega), cc _ _ (by omega) (by omega) (by omega) (by omega)]
    exact u4 k k0 k1
theorem dR_span {n dv f l : Int} (h : dR C M) (hn : n = M 167 18) (n6 : 0 ≤ n ∧ n < 6) (ho : 0 ≤ dv ∧ dv < xR M 167 12) (hf : 0 ≤ f ∧ f ≤ l ∧ l ≤ 63)
    (m1 : M' 177 (18 + 3 * n) = dv) (m2 : M' 177 (18 + 3 * n + 1) = f) (m3 : M' 177 (18 + 3 * n + 2) = l) (m4 : M' 167 18 = n + 1) (m5 : ∀ (k : Nat) i, 170 ≤ k → k ≤ 179 → (k = 177 → i ≠ 18 + 3 * n ∧ i ≠ 18 + 3 * n + 1 ∧ i ≠ 18 + 3 * n + 2) → M' k i = M k i) (m6 : ∀ i, i = 15 ∨ i = 16 ∨ i = 17 ∨ i = 28 ∨ i = 29 → M' 167 i = M 167 i)
    (c1 : C' 12 n = dv) (c2 : C' 13 n = f) (c3 : C' 14 n = l) (c4 : C' 3 11 = n + 1) (c5 : ∀ (k : Nat) i, 3 ≤ k → k ≤ 16 → ((k = 12 ∨ k = 13 ∨ k = 14) → i ≠ n) → (k = 3 → i ≠ 11) → C' k i = C k i) (c6 : C' 1 8 = C 1 8) (c7 : C' 1 9 = C 1 9) : dR C' M' := by
  obtain ⟨hI, t, hs, h4, h5, h6, h7⟩ := h
  obtain ⟨n1, n2, n3, n4, g1, g2, g3, g4, g5, g6, g7⟩ := id hI
  have e11 : xR M' 167 11 = xR M 167 11 := m6 15 (by omega)
  have e12 : xR M' 167 12 = xR M 167 12 := m6 16 (by omega)
  have e13 : xR M' 167 13 = xR M 167 13 := m6 17 (by omega)
  have e0 : xR M 167 14 = n := hn.symm
  have e14 : xR M' 167 14 = n + 1 := m4
  have b170 : ∀ i, xR M' 170 i = xR M 170 i := fun i => m5 170 (6 + i) (by omega) (by omega) (fun _ => by omega)
  have b171 : ∀ i, xR M' 171 i = xR M 171 i := fun i => m5 171 (6 + i) (by omega) (by omega) (fun _ => by omega)
  have b172 : ∀ i, xR M' 172 i = xR M 172 i := fun i => m5 172 (6 + i) (by omega) (by omega) (fun _ => by omega)
  have b173 : ∀ i, xR M' 173 i = xR M 173 i := fun i => m5 173 (8 + i) (by omega) (by omega) (fun _ => by omega)
  have b174 : ∀ i, xR M' 174 i = xR M 174 i := fun i => m5 174 (8 + i) (by omega) (by omega) (fun _ => by omega)
  have b175 : ∀ i, xR M' 175 i = xR M 175 i := fun i => m5 175 (8 + i) (by omega) (by omega) (fun _ => by omega)
  have b176 : ∀ i, xR M' 176 i = xR M 176 i := fun i => m5 176 (16 + i) (by omega) (by omega) (fun _ => by omega)
  have b178 : ∀ i, xR M' 178 i = xR M 178 i := fun i => m5 178 (2 + i) (by omega) (by omega) (fun _ => by omega)
  have b179 : ∀ i, xR M' 179 i = xR M 179 i := fun i => m5 179 i (by omega) (by omega) (fun _ => by omega)
  have b177 : ∀ i, i ≠ 3 * n → i ≠ 3 * n + 1 → i ≠ 3 * n + 2 → xR M' 177 i = xR M 177 i := fun i i0 i1 i2 => m5 177 (18 + i) (by omega) (by omega) (fun _ => by omega)
  have x0 : xR M' 177 (3 * n) = dv := m1
  have x1 : xR M' 177 (3 * n + 1) = f := by
    rw [← m2]
    show M' 177 (18 + (3 * n + 1)) = _
    congr 1
    omega
  have x2 : xR M' 177 (3 * n + 2) = l := by
    rw [← m3]
    show M' 177 (18 + (3 * n + 2)) = _
    congr 1
    omega
  have ab : xAb (xR M') = xAb (xR M) := by
    funext f
    induction f with
    | zero => rfl
    | succ f ih => funext b s; rw [xAb, xAb, ih, b171 b]
  have ao : xAbo (xR M') = xAbo (xR M) := by
    funext d
    unfold xAbo
    rw [ab, b174]
  obtain ⟨⟨t1, t2, t3, t4, t5, t6⟩, u1, u2, u3, u4⟩ := t
  have cc : ∀ (k : Nat) i, 4 ≤ k → k ≤ 16 → k ≠ 12 → k ≠ 13 → k ≠ 14 → C' k i = C k i := fun k i k0 k1 q12 q13 q14 => c5 k i (by omega) (by omega) (fun _ => by omega) (fun _ => by omega)
  have cn : ∀ (k : Nat) i, 4 ≤ k → k ≤ 16 → i ≠ n → C' k i = C k i := fun k i k0 k1 hi => c5 k i (by omega) (by omega) (fun _ => hi) (fun _ => by omega)
  have c0 : ∀ i, i ≠ 11 → C' 3 i = C 3 i := fun i hi => c5 3 i (by omega) (by omega) (fun _ => by omega) (fun _ => hi)
  refine ⟨⟨by rw [e11]; exact n1, by rw [e12]; exact n2, by rw [e13]; exact n3, by rw [e14]; omega, fun i i0 i1 => ?_, fun d d0 d1 => ?_, fun d d0 d1 => ?_, fun k k0 k1 => ?_, fun k k0 k1 => ?_, by rw [b178]; exact g6, by rw [b178]; exact g7⟩, ⟨⟨by rw [e11, c0 _ (by omega)]; exact t1, by rw [e12, c0 _ (by omega)]; exact t2, by rw [e13, c0 _ (by omega)]; exact t3, by rw [e14]; exact c4, by rw [b178, c0 _ (by omega)]; exact t5, by rw [b178, c0 _ (by omega)]; exact t6⟩, fun b d0 d1 => ?_, fun d d0 d1 => ?_, fun k k0 k1 => ?_, fun k k0 k1 => ?_⟩, fun d d0 d1 => by rw [cc 9 d (by omega) (by omega) (by omega) (by omega) (by omega)]; exact hs d (by rw [e12] at d0; omega) d1, by rw [c6, m6 28 (by omega)]; exact h4, by rw [c7, m6 29 (by omega)]; exact h5, by rw [c6]; exact h6, by rw [c7]; exact h7⟩
  · rw [e11] at i1
    rw [b171, b172]
    exact g1 i i0 i1
  · rw [e12] at d1
    rw [b174, b175, e11]
    exact g2 d d0 d1
  · rw [b179, b179]
    exact g3 d d0 d1
  · rw [e13] at k1
    rw [b176, b176, e12]
    exact g4 k k0 k1
  · rw [e14] at k1
    rw [e12]
    by_cases z : k = n
    · rw [z, x0, x1, x2]
      omega
    · rw [b177 _ (by omega) (by omega) (by omega), b177 _ (by omega) (by omega) (by omega), b177 _ (by omega) (by omega) (by omega)]
      exact g5 k k0 (by omega)
  · rw [e11] at d1
    rw [b170, b172, ab, cc _ _ (by omega) (by omega) (by omega) (by omega) (by omega), cc _ _ (by omega) (by omega) (by omega) (by omega) (by omega), cc _ _ (by omega) (by omega) (by omega) (by omega) (by omega)]
    exact u1 b d0 d1
  · rw [e12] at d1
    rw [b173, ao, b175, cc _ _ (by omega) (by omega) (by omega) (by omega) (by omega), cc _ _ (by omega) (by omega) (by omega) (by omega) (by omega), cc _ _ (by omega) (by omega) (by omega) (by omega) (by omega)]
    exact u2 d d0 d1
  · rw [e13] at k1
    rw [b176, b176, cc _ _ (by omega) (by omega) (by omega) (by omega) (by omega), cc _ _ (by omega) (by omega) (by omega) (by omega) (by omega)]
    exact u3 k k0 k1
  · rw [e14] at k1
    by_cases z : k = n
    · rw [z, x0, x1, x2]
      exact ⟨c1, c2, c3⟩
    · rw [b177 _ (by omega) (by omega) (by omega), b177 _ (by omega) (by omega) (by omega), b177 _ (by omega) (by omega) (by omega), cn _ _ (by omega) (by omega) z, cn _ _ (by omega) (by omega) z, cn _ _ (by omega) (by omega) z]
      exact u4 k k0 (by omega)
theorem dR_stall {dv : Int} (h : dR C M) (ho : 0 ≤ dv ∧ dv < xR M 167 12)
    (m1 : M' 175 (8 + dv) = 1) (m5 : ∀ (k : Nat) i, 170 ≤ k → k ≤ 179 → (k = 175 → i ≠ 8 + dv) → M' k i = M k i) (m6 : ∀ i, i = 15 ∨ i = 16 ∨ i = 17 ∨ i = 18 ∨ i = 28 ∨ i = 29 → M' 167 i = M 167 i)
    (c1 : C' 9 dv = 1) (c5 : ∀ (k : Nat) i, 3 ≤ k → k ≤ 16 → ((k = 9) → i ≠ dv) → C' k i = C k i) (c6 : C' 1 8 = C 1 8) (c7 : C' 1 9 = C 1 9) : dR C' M' := by
  obtain ⟨hI, t, hs, h4, h5, h6, h7⟩ := h
  obtain ⟨n1, n2, n3, n4, g1, g2, g3, g4, g5, g6, g7⟩ := id hI
  have e11 : xR M' 167 11 = xR M 167 11 := m6 15 (by omega)
  have e12 : xR M' 167 12 = xR M 167 12 := m6 16 (by omega)
  have e13 : xR M' 167 13 = xR M 167 13 := m6 17 (by omega)
  have e14 : xR M' 167 14 = xR M 167 14 := m6 18 (by omega)
  have b170 : ∀ i, xR M' 170 i = xR M 170 i := fun i => m5 170 (6 + i) (by omega) (by omega) (fun _ => by omega)
  have b171 : ∀ i, xR M' 171 i = xR M 171 i := fun i => m5 171 (6 + i) (by omega) (by omega) (fun _ => by omega)
  have b172 : ∀ i, xR M' 172 i = xR M 172 i := fun i => m5 172 (6 + i) (by omega) (by omega) (fun _ => by omega)
  have b173 : ∀ i, xR M' 173 i = xR M 173 i := fun i => m5 173 (8 + i) (by omega) (by omega) (fun _ => by omega)
  have b174 : ∀ i, xR M' 174 i = xR M 174 i := fun i => m5 174 (8 + i) (by omega) (by omega) (fun _ => by omega)
  have b176 : ∀ i, xR M' 176 i = xR M 176 i := fun i => m5 176 (16 + i) (by omega) (by omega) (fun _ => by omega)
  have b177 : ∀ i, xR M' 177 i = xR M 177 i := fun i => m5 177 (18 + i) (by omega) (by omega) (fun _ => by omega)
  have b178 : ∀ i, xR M' 178 i = xR M 178 i := fun i => m5 178 (2 + i) (by omega) (by omega) (fun _ => by omega)
  have b179 : ∀ i, xR M' 179 i = xR M 179 i := fun i => m5 179 i (by omega) (by omega) (fun _ => by omega)
  have b175 : ∀ i, i ≠ dv → xR M' 175 i = xR M 175 i := fun i i0 => m5 175 (8 + i) (by omega) (by omega) (fun _ => by omega)
  have x0 : xR M' 175 dv = 1 := m1
  have ab : xAb (xR M') = xAb (xR M) := by
    funext f
    induction f with
    | zero => rfl
    | succ f ih => funext b s; rw [xAb, xAb, ih, b171 b]
  have ao : xAbo (xR M') = xAbo (xR M) := by
    funext d
    unfold xAbo
    rw [ab, b174]
  obtain ⟨⟨t1, t2, t3, t4, t5, t6⟩, u1, u2, u3, u4⟩ := t
  have cc : ∀ (k : Nat) i, 4 ≤ k → k ≤ 16 → k ≠ 9 → C' k i = C k i := fun k i k0 k1 q9 => c5 k i (by omega) (by omega) (fun _ => by omega)
  have cn : ∀ (k : Nat) i, 4 ≤ k → k ≤ 16 → i ≠ dv → C' k i = C k i := fun k i k0 k1 hi => c5 k i (by omega) (by omega) (fun _ => hi) 
  have c0 : ∀ i, i ≠ -1 → C' 3 i = C 3 i := fun i _ => c5 3 i (by omega) (by omega) (fun _ => by omega)
  refine ⟨⟨by rw [e11]; exact n1, by rw [e12]; exact n2, by rw [e13]; exact n3, by rw [e14]; exact n4, fun i i0 i1 => ?_, fun d d0 d1 => ?_, fun d d0 d1 => ?_, fun k k0 k1 => ?_, fun k k0 k1 => ?_, by rw [b178]; exact g6, by rw [b178]; exact g7⟩, ⟨⟨by rw [e11, c0 _ (by omega)]; exact t1, by rw [e12, c0 _ (by omega)]; exact t2, by rw [e13, c0 _ (by omega)]; exact t3, by rw [e14, c0 _ (by omega)]; exact t4, by rw [b178, c0 _ (by omega)]; exact t5, by rw [b178, c0 _ (by omega)]; exact t6⟩, fun b d0 d1 => ?_, fun d d0 d1 => ?_, fun k k0 k1 => ?_, fun k k0 k1 => ?_⟩, fun d d0 d1 => by rw [e12] at d0; rw [cn 9 d (by omega) (by omega) (by omega)]; exact hs d d0 d1, by rw [c6, m6 28 (by omega)]; exact h4, by rw [c7, m6 29 (by omega)]; exact h5, by rw [c6]; exact h6, by rw [c7]; exact h7⟩
  · rw [e11] at i1
    rw [b171, b172]
    exact g1 i i0 i1
  · rw [e12] at d1
    rw [b174, e11]
    have y := g2 d d0 d1
    by_cases z : d = dv
    · rw [z, x0]
      rw [z] at y
      omega
    · rw [b175 d z]
      exact y
  · rw [b179, b179]
    exact g3 d d0 d1
  · rw [e13] at k1
    rw [b176, b176, e12]
    exact g4 k k0 k1
  · rw [e14] at k1
    rw [b177, b177, b177, e12]
    exact g5 k k0 k1
  · rw [e11] at d1
    rw [b170, b172, ab, cc _ _ (by omega) (by omega) (by omega), cc _ _ (by omega) (by omega) (by omega), cc _ _ (by omega) (by omega) (by omega)]
    exact u1 b d0 d1
  · rw [e12] at d1
    rw [b173, ao, cc 7 _ (by omega) (by omega) (by omega), cc 8 _ (by omega) (by omega) (by omega)]
    have y := u2 d d0 d1
    by_cases z : d = dv
    · rw [z] at y ⊢
      rw [x0]
      exact ⟨y.1, y.2.1, c1⟩
    · rw [b175 d z, cn 9 _ (by omega) (by omega) z]
      exact y
  · rw [e13] at k1
    rw [b176, b176, cc _ _ (by omega) (by omega) (by omega), cc _ _ (by omega) (by omega) (by omega)]
    exact u3 k k0 k1
  · rw [e14] at k1
    rw [b177, b177, b177, cc _ _ (by omega) (by omega) (by omega), cc _ _ (by omega) (by omega) (by omega), cc _ _ (by omega) (by omega) (by omega)]
    exact u4 k k0 k1
theorem dR_room {v : Int} (h : dR C M) (hv : 1 ≤ v ∧ v ≤ 16)
    (m1 : M' 178 2 = v) (m4 : M' 167 28 = 1) (m5 : ∀ (k : Nat) i, 170 ≤ k → k ≤ 179 → (k = 178 → i ≠ 2) → M' k i = M k i) (m6 : ∀ i, i = 15 ∨ i = 16 ∨ i = 17 ∨ i = 18 ∨ i = 29 → M' 167 i = M 167 i)
    (c4 : C' 3 15 = v) (c8 : C' 1 8 = 1) (c5 : ∀ (k : Nat) i, 3 ≤ k → k ≤ 16 → (k = 3 → i ≠ 15) → C' k i = C k i) (c7 : C' 1 9 = C 1 9) : dR C' M' := by
  obtain ⟨hI, t, hs, h4, h5, h6, h7⟩ := h
  obtain ⟨n1, n2, n3, n4, g1, g2, g3, g4, g5, g6, g7⟩ := id hI
  have e11 : xR M' 167 11 = xR M 167 11 := m6 15 (by omega)
  have e12 : xR M' 167 12 = xR M 167 12 := m6 16 (by omega)
  have e13 : xR M' 167 13 = xR M 167 13 := m6 17 (by omega)
  have e14 : xR M' 167 14 = xR M 167 14 := m6 18 (by omega)
  have b170 : ∀ i, xR M' 170 i = xR M 170 i := fun i => m5 170 (6 + i) (by omega) (by omega) (fun _ => by omega)
  have b171 : ∀ i, xR M' 171 i = xR M 171 i := fun i => m5 171 (6 + i) (by omega) (by omega) (fun _ => by omega)
  have b172 : ∀ i, xR M' 172 i = xR M 172 i := fun i => m5 172 (6 + i) (by omega) (by omega) (fun _ => by omega)
  have b173 : ∀ i, xR M' 173 i = xR M 173 i := fun i => m5 173 (8 + i) (by omega) (by omega) (fun _ => by omega)
  have b174 : ∀ i, xR M' 174 i = xR M 174 i := fun i => m5 174 (8 + i) (by omega) (by omega) (fun _ => by omega)
  have b175 : ∀ i, xR M' 175 i = xR M 175 i := fun i => m5 175 (8 + i) (by omega) (by omega) (fun _ => by omega)
  have b176 : ∀ i, xR M' 176 i = xR M 176 i := fun i => m5 176 (16 + i) (by omega) (by omega) (fun _ => by omega)
  have b177 : ∀ i, xR M' 177 i = xR M 177 i := fun i => m5 177 (18 + i) (by omega) (by omega) (fun _ => by omega)
  have b179 : ∀ i, xR M' 179 i = xR M 179 i := fun i => m5 179 i (by omega) (by omega) (fun _ => by omega)
  have x0 : xR M' 178 0 = v := m1
  have x1 : xR M' 178 1 = xR M 178 1 := m5 178 3 (by omega) (by omega) (fun _ => by omega)
  have ab : xAb (xR M') = xAb (xR M) := by
    funext f
    induction f with
    | zero => rfl
    | succ f ih => funext b s; rw [xAb, xAb, ih, b171 b]
  have ao : xAbo (xR M') = xAbo (xR M) := by
    funext d
    unfold xAbo
    rw [ab, b174]
  obtain ⟨⟨t1, t2, t3, t4, t5, t6⟩, u1, u2, u3, u4⟩ := t
  have cc : ∀ (k : Nat) i, 4 ≤ k → k ≤ 16 → C' k i = C k i := fun k i k0 k1 => c5 k i (by omega) (by omega) (fun _ => by omega)
  have c0 : ∀ i, i ≠ 15 → C' 3 i = C 3 i := fun i hi => c5 3 i (by omega) (by omega) (fun _ => hi)
  refine ⟨⟨by rw [e11]; exact n1, by rw [e12]; exact n2, by rw [e13]; exact n3, by rw [e14]; exact n4, fun i i0 i1 => ?_, fun d d0 d1 => ?_, fun d d0 d1 => ?_, fun k k0 k1 => ?_, fun k k0 k1 => ?_, by rw [x0]; omega, by rw [x1]; exact g7⟩, ⟨⟨by rw [e11, c0 _ (by omega)]; exact t1, by rw [e12, c0 _ (by omega)]; exact t2, by rw [e13, c0 _ (by omega)]; exact t3, by rw [e14, c0 _ (by omega)]; exact t4, by rw [x0]; exact c4, by rw [x1, c0 _ (by omega)]; exact t6⟩, fun b d0 d1 => ?_, fun d d0 d1 => ?_, fun k k0 k1 => ?_, fun k k0 k1 => ?_⟩, fun d d0 d1 => by rw [cc 9 d (by omega) (by omega)]; exact hs d (by rw [e12] at d0; omega) d1, by omega, by rw [c7, m6 29 (by omega)]; exact h5, Or.inr c8, by rw [c7]; exact h7⟩
  · rw [e11] at i1
    rw [b171, b172]
    exact g1 i i0 i1
  · rw [e12] at d1
    rw [b174, b175, e11]
    exact g2 d d0 d1
  · rw [b179, b179]
    exact g3 d d0 d1
  · rw [e13] at k1
    rw [b176, b176, e12]
    exact g4 k k0 k1
  · rw [e14] at k1
    rw [b177, b177, b177, e12]
    exact g5 k k0 k1
  · rw [e11] at d1
    rw [b170, b172, ab, cc _ _ (by omega) (by omega), cc _ _ (by omega) (by omega), cc _ _ (by omega) (by omega)]
    exact u1 b d0 d1
  · rw [e12] at d1
    rw [b173, ao, b175, cc _ _ (by omega) (by omega), cc _ _ (by omega) (by omega), cc _ _ (by omega) (by omega)]
    exact u2 d d0 d1
  · rw [e13] at k1
    rw [b176, b176, cc _ _ (by omega) (by omega), cc _ _ (by omega) (by omega)]
    exact u3 k k0 k1
  · rw [e14] at k1
    rw [b177, b177, b177, cc _ _ (by omega) (by omega), cc _ _ (by omega) (by omega), cc _ _ (by omega) (by omega)]
    exact u4 k k0 k1
theorem dR_seed {v : Int} (h : dR C M) (hv : 0 ≤ v ∧ v ≤ 99999)
    (m1 : M' 178 3 = v) (m4 : M' 167 29 = 1) (m5 : ∀ (k : Nat) i, 170 ≤ k → k ≤ 179 → (k = 178 → i ≠ 3) → M' k i = M k i) (m6 : ∀ i, i = 15 ∨ i = 16 ∨ i = 17 ∨ i = 18 ∨ i = 28 → M' 167 i = M 167 i)
    (c4 : C' 3 16 = v) (c8 : C' 1 9 = 1) (c5 : ∀ (k : Nat) i, 3 ≤ k → k ≤ 16 → (k = 3 → i ≠ 16) → C' k i = C k i) (c6 : C' 1 8 = C 1 8) : dR C' M' := by
  obtain ⟨hI, t, hs, h4, h5, h6, h7⟩ := h
  obtain ⟨n1, n2, n3, n4, g1, g2, g3, g4, g5, g6, g7⟩ := id hI
  have e11 : xR M' 167 11 = xR M 167 11 := m6 15 (by omega)
  have e12 : xR M' 167 12 = xR M 167 12 := m6 16 (by omega)
  have e13 : xR M' 167 13 = xR M 167 13 := m6 17 (by omega)
  have e14 : xR M' 167 14 = xR M 167 14 := m6 18 (by omega)
  have b170 : ∀ i, xR M' 170 i = xR M 170 i := fun i => m5 170 (6 + i) (by omega) (by omega) (fun _ => by omega)
  have b171 : ∀ i, xR M' 171 i = xR M 171 i := fun i => m5 171 (6 + i) (by omega) (by omega) (fun _ => by omega)
  have b172 : ∀ i, xR M' 172 i = xR M 172 i := fun i => m5 172 (6 + i) (by omega) (by omega) (fun _ => by omega)
  have b173 : ∀ i, xR M' 173 i = xR M 173 i := fun i => m5 173 (8 + i) (by omega) (by omega) (fun _ => by omega)
  have b174 : ∀ i, xR M' 174 i = xR M 174 i := fun i => m5 174 (8 + i) (by omega) (by omega) (fun _ => by omega)
  have b175 : ∀ i, xR M' 175 i = xR M 175 i := fun i => m5 175 (8 + i) (by omega) (by omega) (fun _ => by omega)
  have b176 : ∀ i, xR M' 176 i = xR M 176 i := fun i => m5 176 (16 + i) (by omega) (by omega) (fun _ => by omega)
  have b177 : ∀ i, xR M' 177 i = xR M 177 i := fun i => m5 177 (18 + i) (by omega) (by omega) (fun _ => by omega)
  have b179 : ∀ i, xR M' 179 i = xR M 179 i := fun i => m5 179 i (by omega) (by omega) (fun _ => by omega)
  have x0 : xR M' 178 1 = v := m1
  have x1 : xR M' 178 0 = xR M 178 0 := m5 178 2 (by omega) (by omega) (fun _ => by omega)
  have ab : xAb (xR M') = xAb (xR M) := by
    funext f
    induction f with
    | zero => rfl
    | succ f ih => funext b s; rw [xAb, xAb, ih, b171 b]
  have ao : xAbo (xR M') = xAbo (xR M) := by
    funext d
    unfold xAbo
    rw [ab, b174]
  obtain ⟨⟨t1, t2, t3, t4, t5, t6⟩, u1, u2, u3, u4⟩ := t
  have cc : ∀ (k : Nat) i, 4 ≤ k → k ≤ 16 → C' k i = C k i := fun k i k0 k1 => c5 k i (by omega) (by omega) (fun _ => by omega)
  have c0 : ∀ i, i ≠ 16 → C' 3 i = C 3 i := fun i hi => c5 3 i (by omega) (by omega) (fun _ => hi)
  refine ⟨⟨by rw [e11]; exact n1, by rw [e12]; exact n2, by rw [e13]; exact n3, by rw [e14]; exact n4, fun i i0 i1 => ?_, fun d d0 d1 => ?_, fun d d0 d1 => ?_, fun k k0 k1 => ?_, fun k k0 k1 => ?_, by rw [x1]; exact g6, by rw [x0]; omega⟩, ⟨⟨by rw [e11, c0 _ (by omega)]; exact t1, by rw [e12, c0 _ (by omega)]; exact t2, by rw [e13, c0 _ (by omega)]; exact t3, by rw [e14, c0 _ (by omega)]; exact t4, by rw [x1, c0 _ (by omega)]; exact t5, by rw [x0]; exact c4⟩, fun b d0 d1 => ?_, fun d d0 d1 => ?_, fun k k0 k1 => ?_, fun k k0 k1 => ?_⟩, fun d d0 d1 => by rw [cc 9 d (by omega) (by omega)]; exact hs d (by rw [e12] at d0; omega) d1, by rw [c6, m6 28 (by omega)]; exact h4, by omega, by rw [c6]; exact h6, Or.inr c8⟩
  · rw [e11] at i1
    rw [b171, b172]
    exact g1 i i0 i1
  · rw [e12] at d1
    rw [b174, b175, e11]
    exact g2 d d0 d1
  · rw [b179, b179]
    exact g3 d d0 d1
  · rw [e13] at k1
    rw [b176, b176, e12]
    exact g4 k k0 k1
  · rw [e14] at k1
    rw [b177, b177, b177, e12]
    exact g5 k k0 k1
  · rw [e11] at d1
    rw [b170, b172, ab, cc _ _ (by omega) (by omega), cc _ _ (by omega) (by omega), cc _ _ (by omega) (by omega)]
    exact u1 b d0 d1
  · rw [e12] at d1
    rw [b173, ao, b175, cc _ _ (by omega) (by omega), cc _ _ (by omega) (by omega), cc _ _ (by omega) (by omega)]
    exact u2 d d0 d1
  · rw [e13] at k1
    rw [b176, b176, cc _ _ (by omega) (by omega), cc _ _ (by omega) (by omega)]
    exact u3 k k0 k1
  · rw [e14] at k1
    rw [b177, b177, b177, cc _ _ (by omega) (by omega), cc _ _ (by omega) (by omega), cc _ _ (by omega) (by omega)]
    exact u4 k k0 k1
end DRAFT2
