/-! the drafts: what a told bridge, device, alias, span does to them -/
def nearM (M M' : gM) : Prop := ((∀ i, 15 ≤ i → i ≤ 18 → M' 167 i = M 167 i) ∧ M' 167 28 = M 167 28 ∧ M' 167 29 = M 167 29 ∧ (∀ i, M' 178 (2 + i) = M 178 (2 + i)) ∧ ∀ i, M' 179 i = M 179 i) ∧
  (∀ i, 0 ≤ i → i < M 167 15 → M' 170 (6 + i) = M 170 (6 + i) ∧ M' 171 (6 + i) = M 171 (6 + i) ∧ M' 172 (6 + i) = M 172 (6 + i)) ∧
  (∀ i, 0 ≤ i → i < M 167 16 → M' 173 (8 + i) = M 173 (8 + i) ∧ M' 174 (8 + i) = M 174 (8 + i) ∧ M' 175 (8 + i) = M 175 (8 + i)) ∧
  (∀ i, 0 ≤ i → i < 2 * M 167 17 → M' 176 (16 + i) = M 176 (16 + i)) ∧ (∀ i, 0 ≤ i → i < 3 * M 167 18 → M' 177 (18 + i) = M 177 (18 + i))
section DRAFT
variable {C C' C'' M M' M'' X X' : gM} {Q : Int → gM → Prop}
theorem xAb_low : ∀ (n m : Nat) (b s : Int), b < n → b < m → (∀ i, 0 ≤ i → i ≤ b → (-1 ≤ X 171 i ∧ X 171 i < i) ∧ X' 171 i = X 171 i) → xAb X' n b s = xAb X m b s := by
  intro n
  induction n with
  | zero =>
    intro m b s hn hm h
    rw [xAb]
    cases m with
    | zero => rfl
    | succ m => rw [xAb, if_pos (by omega)]
  | succ n ih =>
    intro m b s hn hm h
    by_cases c : b < 0
    · rw [xAb, if_pos c]
      cases m with
      | zero => rfl
      | succ m => rw [xAb, if_pos c]
    · cases m with
      | zero => omega
      | succ m =>
        obtain ⟨⟨h1, h2⟩, h3⟩ := h b (by omega) (by omega)
        rw [xAb, xAb, if_neg c, if_neg c, h3]
        exact ih m (X 171 b) _ (by omega) (by omega) (fun i i0 i1 => h i i0 (by omega))
theorem dR_far (h : dR C M) (q : nearM M M') : dR C M' := by
  obtain ⟨⟨q0, q28, q29, q178, q179⟩, q1, q2, q3, q4⟩ := q
  obtain ⟨hI, t, hs, h4, h5, h6, h7⟩ := h
  obtain ⟨n1, n2, n3, n4, g1, g2, g3, g4, g5, g6, g7⟩ := id hI
  have e11 : xR M' 167 11 = xR M 167 11 := q0 15 (by omega) (by omega)
  have e12 : xR M' 167 12 = xR M 167 12 := q0 16 (by omega) (by omega)
  have e13 : xR M' 167 13 = xR M 167 13 := q0 17 (by omega) (by omega)
  have e14 : xR M' 167 14 = xR M 167 14 := q0 18 (by omega) (by omega)
  have b1 : ∀ i, 0 ≤ i → i < xR M 167 11 → xR M' 170 i = xR M 170 i ∧ xR M' 171 i = xR M 171 i ∧ xR M' 172 i = xR M 172 i := fun i i0 i1 => q1 i i0 i1
  have b2 : ∀ i, 0 ≤ i → i < xR M 167 12 → xR M' 173 i = xR M 173 i ∧ xR M' 174 i = xR M 174 i ∧ xR M' 175 i = xR M 175 i := fun i i0 i1 => q2 i i0 i1
  have b3 : ∀ i, 0 ≤ i → i < 2 * xR M 167 13 → xR M' 176 i = xR M 176 i := fun i i0 i1 => q3 i i0 i1
  have b4 : ∀ i, 0 ≤ i → i < 3 * xR M 167 14 → xR M' 177 i = xR M 177 i := fun i i0 i1 => q4 i i0 i1
  have b5 : ∀ i, xR M' 178 i = xR M 178 i := fun i => q178 i
  have b6 : ∀ i, xR M' 179 i = xR M 179 i := fun i => q179 i
  have ab : ∀ b, b < xR M 167 11 → xAb (xR M') 7 b 0 = xAb (xR M) 7 b 0 := fun b hb => xAb_low 7 7 b 0 (by omega) (by omega) (fun i i0 i1 => ⟨⟨(g1 i i0 (by omega)).1, (g1 i i0 (by omega)).2.1⟩, (b1 i i0 (by omega)).2.1⟩)
  obtain ⟨⟨t1, t2, t3, t4, t5, t6⟩, u1, u2, u3, u4⟩ := t
  refine ⟨⟨by rw [e11]; exact n1, by rw [e12]; exact n2, by rw [e13]; exact n3, by rw [e14]; exact n4, fun i i0 i1 => ?_, fun d d0 d1 => ?_, fun d d0 d1 => ?_, fun k k0 k1 => ?_, fun k k0 k1 => ?_, by rw [b5]; exact g6, by rw [b5]; exact g7⟩, ⟨⟨by rw [e11]; exact t1, by rw [e12]; exact t2, by rw [e13]; exact t3, by rw [e14]; exact t4, by rw [b5]; exact t5, by rw [b5]; exact t6⟩, fun b c0 c1 => ?_, fun d d0 d1 => ?_, fun k k0 k1 => ?_, fun k k0 k1 => ?_⟩, fun d d0 d1 => hs d (by rw [e12] at d0; exact d0) d1, by rw [q28]; exact h4, by rw [q29]; exact h5, h6, h7⟩
  · rw [e11] at i1
    obtain ⟨-, x1, x2⟩ := b1 i i0 i1
    rw [x1, x2]
    exact g1 i i0 i1
  · rw [e12] at d1
    obtain ⟨-, x1, x2⟩ := b2 d d0 d1
    rw [x1, x2, e11]
    exact g2 d d0 d1
  · rw [b6, b6]
    exact g3 d d0 d1
  · rw [e13] at k1
    rw [b3 _ (by omega) (by omega), b3 _ (by omega) (by omega), e12]
    exact g4 k k0 k1
  · rw [e14] at k1
    rw [b4 _ (by omega) (by omega), b4 _ (by omega) (by omega), b4 _ (by omega) (by omega), e12]
    exact g5 k k0 k1
  · rw [e11] at c1
    obtain ⟨x0, x1, x2⟩ := b1 b c0 c1
    rw [x0, x2, ab b c1]
    exact u1 b c0 c1
  · rw [e12] at d1
    obtain ⟨x0, x1, x2⟩ := b2 d d0 d1
    have y := g2 d d0 d1
    rw [x0, x2]
    unfold xAbo
    rw [x1, ab _ (by omega)]
    exact u2 d d0 d1
  · rw [e13] at k1
    rw [b3 _ (by omega) (by omega), b3 _ (by omega) (by omega)]
    exact u3 k k0 k1
  · rw [e14] at k1
    rw [b4 _ (by omega) (by omega), b4 _ (by omega) (by omega), b4 _ (by omega) (by omega)]
    exact u4 k k0 k1
/-- a bridge told -/
theorem dR_bridge {n r nm kd : Int} (h : dR C M) (hn : n = M 167 15) (n6 : n < 6) (hr : -1 ≤ r ∧ r < n) (hk : 0 ≤ kd ∧ kd ≤ 2)
    (m1 : M' 170 (6 + n) = nm) (m2 : M' 171 (6 + n) = r) (m3 : M' 172 (6 + n) = kd) (m4 : M' 167 15 = n + 1) (m5 : ∀ (k : Nat) i, 170 ≤ k → k ≤ 179 → ((k = 170 ∨ k = 171 ∨ k = 172) → i ≠ 6 + n) → M' k i = M k i) (m6 : ∀ i, 16 ≤ i → i ≤ 18 ∨ i = 28 ∨ i = 29 → M' 167 i = M 167 i)
    (c1 : C' 4 n = nm) (c2 : C' 5 n = kd) (c3 : C' 6 n = ior32 (ishl32 1 n) (xAb (xR M) 7 r 0)) (c4 : C' 3 0 = n + 1) (c5 : ∀ (k : Nat) i, 3 ≤ k → k ≤ 16 → ((k = 4 ∨ k = 5 ∨ k = 6) → i ≠ n) → (k = 3 → i ≠ 0) → C' k i = C k i) (c6 : C' 1 8 = C 1 8) (c7 : C' 1 9 = C 1 9) : dR C' M' := by
  obtain ⟨hI, t, hs, h4, h5, h6, h7⟩ := h
  obtain ⟨n1, n2, n3, n4, g1, g2, g3, g4, g5, g6, g7⟩ := id hI
  have e0 : xR M 167 11 = n := hn.symm
  have e11 : xR M' 167 11 = n + 1 := m4
  have e12 : xR M' 167 12 = xR M 167 12 := m6 16 (by omega) (by omega)
  have e13 : xR M' 167 13 = xR M 167 13 := m6 17 (by omega) (by omega)
  have e14 : xR M' 167 14 = xR M 167 14 := m6 18 (by omega) (by omega)
  have b1 : ∀ i, i ≠ n → xR M' 170 i = xR M 170 i ∧ xR M' 171 i = xR M 171 i ∧ xR M' 172 i = xR M 172 i := fun i i1 => ⟨m5 170 (6 + i) (by omega) (by omega) (fun _ => by omega), m5 171 (6 + i) (by omega) (by omega) (fun _ => by omega), m5 172 (6 + i) (by omega) (by omega) (fun _ => by omega)⟩
  have b2 : ∀ i, xR M' 173 i = xR M 173 i ∧ xR M' 174 i = xR M 174 i ∧ xR M' 175 i = xR M 175 i := fun i => ⟨m5 173 (8 + i) (by omega) (by omega) (fun _ => by omega), m5 174 (8 + i) (by omega) (by omega) (fun _ => by omega), m5 175 (8 + i) (by omega) (by omega) (fun _ => by omega)⟩
  have b3 : ∀ i, xR M' 176 i = xR M 176 i := fun i => m5 176 (16 + i) (by omega) (by omega) (fun _ => by omega)
  have b4 : ∀ i, xR M' 177 i = xR M 177 i := fun i => m5 177 (18 + i) (by omega) (by omega) (fun _ => by omega)
  have b5 : ∀ i, xR M' 178 i = xR M 178 i := fun i => m5 178 (2 + i) (by omega) (by omega) (fun _ => by omega)
  have b6 : ∀ i, xR M' 179 i = xR M 179 i := fun i => m5 179 i (by omega) (by omega) (fun _ => by omega)
  have x0 : xR M' 170 n = nm := m1
  have x1 : xR M' 171 n = r := m2
  have x2 : xR M' 172 n = kd := m3
  have ab : ∀ b, b < n → xAb (xR M') 7 b 0 = xAb (xR M) 7 b 0 := fun b hb => xAb_low 7 7 b 0 (by omega) (by omega) (fun i i0 i1 => ⟨⟨(g1 i i0 (by omega)).1, (g1 i i0 (by omega)).2.1⟩, (b1 i (by omega)).2.1⟩)
  have abn : xAb (xR M') 7 n 0 = ior32 (ishl32 1 n) (xAb (xR M) 7 r 0) := by
    have z := xAb_low (X := xR M) (X' := xR M') 6 7 r 0 (by omega) (by omega) (fun i i0 i1 => ⟨⟨(g1 i i0 (by omega)).1, (g1 i i0 (by omega)).2.1⟩, (b1 i (by omega)).2.1⟩)
    rw [xAb, if_neg (by omega), x1, ← z]
    refine bt_ext (xAb_32 _ _ _ in32_or) in32_or (fun k hk => ?_)
    rw [xAb_or, bt_or, bt_or, bt_zero, Bool.false_or]
  obtain ⟨⟨t1, t2, t3, t4, t5, t6⟩, u1, u2, u3, u4⟩ := t
  have cc : ∀ (k : Nat) i, 7 ≤ k → k ≤ 16 → C' k i = C k i := fun k i k0 k1 => c5 k i (by omega) (by omega) (fun _ => by omega) (fun _ => by omega)
  have cn : ∀ (k : Nat) i, 4 ≤ k → k ≤ 6 → i ≠ n → C' k i = C k i := fun k i k0 k1 hi => c5 k i (by omega) (by omega) (fun _ => hi) (fun _ => by omega)
  have c0 : ∀ i, i ≠ 0 → C' 3 i = C 3 i := fun i hi => c5 3 i (by omega) (by omega) (fun _ => by omega) (fun _ => hi)
  refine ⟨⟨by rw [e11]; omega, by rw [e12]; exact n2, by rw [e13]; exact n3, by rw [e14]; exact n4, fun i i0 i1 => ?_, fun d d0 d1 => ?_, fun d d0 d1 => ?_, fun k k0 k1 => ?_, fun k k0 k1 => ?_, by rw [b5]; exact g6, by rw [b5]; exact g7⟩, ⟨⟨by rw [e11]; exact c4, by rw [e12, c0 _ (by omega)]; exact t2, by rw [e13, c0 _ (by omega)]; exact t3, by rw [e14, c0 _ (by omega)]; exact t4, by rw [b5, c0 _ (by omega)]; exact t5, by rw [b5, c0 _ (by omega)]; exact t6⟩, fun b d0 d1 => ?_, fun d d0 d1 => ?_, fun k k0 k1 => ?_, fun k k0 k1 => ?_⟩, fun d d0 d1 => by rw [cc 9 d (by omega) (by omega)]; exact hs d (by rw [e12] at d0; exact d0) d1, by rw [c6, m6 28 (by omega) (by omega)]; exact h4, by rw [c7, m6 29 (by omega) (by omega)]; exact h5, by rw [c6]; exact h6, by rw [c7]; exact h7⟩
  · rw [e11] at i1
    by_cases z : i = n
    · rw [z, x1, x2]; omega
    · obtain ⟨-, y1, y2⟩ := b1 i z
      rw [y1, y2]
      exact g1 i i0 (by omega)
  · rw [e12] at d1
    obtain ⟨-, y1, y2⟩ := b2 d
    rw [y1, y2, e11]
    have := g2 d d0 d1
    omega
  · rw [b6, b6]
    exact g3 d d0 d1
  · rw [e13] at k1
    rw [b3, b3, e12]
    exact g4 k k0 k1
  · rw [e14] at k1
    rw [b4, b4, b4, e12]
    exact g5 k k0 k1
  · rw [e11] at d1
    by_cases z : b = n
    · rw [z, x0, x2, abn]
      exact ⟨c1, c2, c3⟩
    · obtain ⟨y0, y1, y2⟩ := b1 b z
      rw [y0, y2, ab b (by omega), cn _ _ (by omega) (by omega) z, cn _ _ (by omega) (by omega) z, cn _ _ (by omega) (by omega) z]
      exact u1 b d0 (by omega)
  · rw [e12] at d1
    obtain ⟨y0, y1, y2⟩ := b2 d
    have y := g2 d d0 d1
    rw [y0, y2, cc _ _ (by omega) (by omega), cc _ _ (by omega) (by omega), cc _ _ (by omega) (by omega)]
    unfold xAbo
    rw [y1, ab _ (by omega)]
    exact u2 d d0 d1
  · rw [e13] at k1
    rw [b3, b3, cc _ _ (by omega) (by omega), cc _ _ (by omega) (by omega)]
    exact u3 k k0 k1
  · rw [e14] at k1
    rw [b4, b4, b4, cc _ _ (by omega) (by omega), cc _ _ (by omega) (by omega), cc _ _ (by omega) (by omega)]
    exact u4 k k0 k1
/-- a device told -/
theorem dR_device {n r nm : Int} (h : dR C M) (hn : n = M 167 16) (n8 : n < 8) (hr : -1 ≤ r ∧ r < xR M 167 11)
    (m1 : M' 173 (8 + n) = nm) (m2 : M' 174 (8 + n) = r) (m3 : M' 175 (8 + n) = 0) (m4 : M' 167 16 = n + 1) (m5 : ∀ (k : Nat) i, 170 ≤ k → k ≤ 179 → ((k = 173 ∨ k = 174 ∨ k = 175) → i ≠ 8 + n) → M' k i = M k i) (m6 : ∀ i, i = 15 ∨ i = 17 ∨ i = 18 ∨ i = 28 ∨ i = 29 → M' 167 i = M 167 i)
    (c1 : C' 7 n = nm) (c2 : C' 8 n = xAb (xR M) 7 r 0) (c4 : C' 3 4 = n + 1) (c5 : ∀ (k : Nat) i, 3 ≤ k → k ≤ 16 → ((k = 7 ∨ k = 8) → i ≠ n) → (k = 3 → i ≠ 4) → C' k i = C k i) (c6 : C' 1 8 = C 1 8) (c7 : C' 1 9 = C 1 9) : dR C' M' := by
  obtain ⟨hI, t, hs, h4, h5, h6, h7⟩ := h
  obtain ⟨n1, n2, n3, n4, g1, g2, g3, g4, g5, g6, g7⟩ := id hI
  have e0 : xR M 167 12 = n := hn.symm
  have e12 : xR M' 167 12 = n + 1 := m4
  have e11 : xR M' 167 11 = xR M 167 11 := m6 15 (by omega)
  have e13 : xR M' 167 13 = xR M 167 13 := m6 17 (by omega)
  have e14 : xR M' 167 14 = xR M 167 14 := m6 18 (by omega)
  have b1 : ∀ i, xR M' 170 i = xR M 170 i ∧ xR M' 171 i = xR M 171 i ∧ xR M' 172 i = xR M 172 i := fun i => ⟨m5 170 (6 + i) (by omega) (by omega) (fun _ => by omega), m5 171 (6 + i) (by omega) (by omega) (fun _ => by omega), m5 172 (6 + i) (by omega) (by omega) (fun _ => by omega)⟩
  have b2 : ∀ i, i ≠ n → xR M' 173 i = xR M 173 i ∧ xR M' 174 i = xR M 174 i ∧ xR M' 175 i = xR M 175 i := fun i hi => ⟨m5 173 (8 + i) (by omega) (by omega) (fun _ => by omega), m5 174 (8 + i) (by omega) (by omega) (fun _ => by omega), m5 175 (8 + i) (by omega) (by omega) (fun _ => by omega)⟩
  have b3 : ∀ i, xR M' 176 i = xR M 176 i := fun i => m5 176 (16 + i) (by omega) (by omega) (fun _ => by omega)
  have b4 : ∀ i, xR M' 177 i = xR M 177 i := fun i => m5 177 (18 + i) (by omega) (by omega) (fun _ => by omega)
  have b5 : ∀ i, xR M' 178 i = xR M 178 i := fun i => m5 178 (2 + i) (by omega) (by omega) (fun _ => by omega)
  have b6 : ∀ i, xR M' 179 i = xR M 179 i := fun i => m5 179 i (by omega) (by omega) (fun _ => by omega)
  have x0 : xR M' 173 n = nm := m1
  have x1 : xR M' 174 n = r := m2
  have x2 : xR M' 175 n = 0 := m3
  have ab : xAb (xR M') = xAb (xR M) := by
    funext f
    induction f with
    | zero => rfl
    | succ f ih => funext b s; rw [xAb, xAb, ih, (b1 b).2.1]
  obtain ⟨⟨t1, t2, t3, t4, t5, t6⟩, u1, u2, u3, u4⟩ := t
  have cc : ∀ (k : Nat) i, 4 ≤ k → k ≤ 16 → k ≠ 7 → k ≠ 8 → C' k i = C k i := fun k i k0 k1 q1 q2 => c5 k i (by omega) (by omega) (fun _ => by omega) (fun _ => by omega)
  have cn : ∀ (k : Nat) i, 4 ≤ k → k ≤ 16 → i ≠ n → C' k i = C k i := fun k i k0 k1 hi => c5 k i (by omega) (by omega) (fun _ => hi) (fun _ => by omega)
  have c0 : ∀ i, i ≠ 4 → C' 3 i = C 3 i := fun i hi => c5 3 i (by omega) (by omega) (fun _ => by omega) (fun _ => hi)
  refine ⟨⟨by rw [e11]; exact n1, by rw [e12]; omega, by rw [e13]; exact n3, by rw [e14]; exact n4, fun i i0 i1 => ?_, fun d d0 d1 => ?_, fun d d0 d1 => ?_, fun k k0 k1 => ?_, fun k k0 k1 => ?_, by rw [b5]; exact g6, by rw [b5]; exact g7⟩, ⟨⟨by rw [e11, c0 _ (by omega)]; exact t1, by rw [e12]; exact c4, by rw [e13, c0 _ (by omega)]; exact t3, by rw [e14, c0 _ (by omega)]; exact t4, by rw [b5, c0 _ (by omega)]; exact t5, by rw [b5, c0 _ (by omega)]; exact t6⟩, fun b d0 d1 => ?_, fun d d0 d1 => ?_, fun k k0 k1 => ?_, fun k k0 k1 => ?_⟩, fun d d0 d1 => by rw [cc 9 d (by omega) (by omega) (by omega) (by omega)]; exact hs d (by rw [e12] at d0; omega) d1, by rw [c6, m6 28 (by omega)]; exact h4, by rw [c7, m6 29 (by omega)]; exact h5, by rw [c6]; exact h6, by rw [c7]; exact h7⟩
  · rw [e11] at i1
    obtain ⟨-, y1, y2⟩ := b1 i
    rw [y1, y2]
    exact g1 i i0 i1
  · rw [e12] at d1
    by_cases z : d = n
    · rw [z, x1, x2, e11]; omega
    · obtain ⟨-, y1, y2⟩ := b2 d z
      rw [y1, y2, e11]
      exact g2 d d0 (by omega)
  · rw [b6, b6]
    exact g3 d d0 d1
  · rw [e13] at k1
    rw [b3, b3, e12]
    have := g4 k k0 k1
    omega
  · rw [e14] at k1
    rw [b4, b4, b4, e12]
    have := g5 k k0 k1
    omega
  · rw [e11] at d1
    obtain ⟨y0, y1, y2⟩ := b1 b
    rw [y0, y2, ab, cc _ _ (by omega) (by omega) (by omega) (by omega), cc _ _ (by omega) (by omega) (by omega) (by omega), cc _ _ (by omega) (by omega) (by omega) (by omega)]
    exact u1 b d0 d1
  · rw [e12] at d1
    unfold xAbo
    rw [ab]
    by_cases z : d = n
    · rw [z, x0, x1, x2, cc 9 _ (by omega) (by omega) (by omega) (by omega)]
      exact ⟨c1, c2, hs n (by omega) (by omega)⟩
    · obtain ⟨y0, y1, y2⟩ := b2 d z
      rw [y0, y1, y2, cn _ _ (by omega) (by omega) z, cn _ _ (by omega) (by omega) z, cn _ _ (by omega) (by omega) z]
      exact u2 d d0 (by omega)
  · rw [e13] at k1
    rw [b3, b3, cc _ _ (by omega) (by omega) (by omega) (by omega), cc _ _ (by omega) (by omega) (by omega) (by omega)]
    exact u3 k k0 k1
  · rw [e14] at k1
    rw [b4, b4, b4, cc _ _ (by omega) (by omega) (by omega) (by omega), cc _ _ (by omega) (by omega) (by omega) (by omega), cc _ _ (by omega) (by omega) (by omega) (by omega)]
    exact u4 k k0 k1
end DRAFT
