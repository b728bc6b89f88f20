/-! groups as partitions: the check's joining of pairs and the class's joining bridge by bridge come to the same -/
def tPt (dv : Int) (f : Int → Int) : Prop := ∀ d, 0 ≤ d → d < 8 → 0 ≤ f d ∧ f d ≤ d ∧ f (f d) = f d ∧ (dv ≤ d → f d = d)
def tEq (E : Int → Int → Prop) : Prop := (∀ a, E a a) ∧ (∀ a b, E a b → E b a) ∧ (∀ a b c, E a b → E b c → E a c)
def tKe (f : Int → Int) (E : Int → Int → Prop) : Prop := ∀ a b, 0 ≤ a → a < 8 → 0 ≤ b → b < 8 → f a = f b → E a b
def cJ1 (X : gM) (br d : Int) (s : Int × (Int → Int)) : Int × (Int → Int) := if bt (xAbo X d) br.toNat = false then s else if s.1 = -1 then (d, s.2) else (s.1, tMee (X 167 12) s.2 s.1 d)
def cJb (X : gM) (br : Int) (f : Int → Int) : Int → Int := (itF (cJ1 X br) 0 (X 167 12).toNat (-1, f)).2
def cJ2 (X : gM) (ps b : Int) (f : Int → Int) : Int → Int := if X 172 b ≠ 0 ∧ iand32 (ishr32 ps b) 1 = 0 then cJb X b f else f
def cLay (X : gM) (ps : Int) : Int → Int := xLy3 X 0 (X 167 13).toNat (itF (cJ2 X ps) 0 (X 167 11).toNat (fun d => d))
section GROUPS
variable {X : gM} {f g : Int → Int} {E : Int → Int → Prop} {dv : Int}
theorem itF_inv {σ : Type} {F : Int → σ → σ} {I : σ → Prop} : ∀ (n : Nat) (k : Int) (s : σ), I s → (∀ j s, k ≤ j → j < k + n → I s → I (F j s)) → I (itF F k n s) := by
  intro n
  induction n with
  | zero => intro k s h _; exact h
  | succ n ih =>
    intro k s h hF
    rw [itF]
    exact ih (k + 1) _ (hF k s (by omega) (by omega) h) (fun j s j0 j1 => hF j s (by omega) (by omega))
theorem itF_get {σ : Type} {F : Int → σ → σ} {I P : σ → Prop} {j0 : Int} : ∀ (n : Nat) (k : Int) (s : σ), k ≤ j0 → j0 < k + n → I s → (∀ j s, k ≤ j → j < k + n → I s → I (F j s)) → (∀ s, I s → P (F j0 s)) → (∀ j s, k ≤ j → j < k + n → I s → P s → P (F j s)) → P (itF F k n s) := by
  intro n
  induction n with
  | zero => intro k s h0 h1; omega
  | succ n ih =>
    intro k s h0 h1 hI hF hP hM
    rw [itF]
    by_cases c : j0 = k
    · have := itF_inv (I := fun s => I s ∧ P s) n (k + 1) (F k s) ⟨hF k s (by omega) (by omega) hI, by rw [← c]; exact hP s hI⟩ (fun j s j0 j1 q => ⟨hF j s (by omega) (by omega) q.1, hM j s (by omega) (by omega) q.1 q.2⟩)
      exact this.2
    · exact ih (k + 1) _ (by omega) (by omega) (hF k s (by omega) (by omega) hI) (fun j s a b => hF j s (by omega) (by omega)) hP (fun j s a b => hM j s (by omega) (by omega))
theorem tMee_val (hf : tPt dv f) {a b : Int} (hv : dv ≤ 8) (ha : 0 ≤ a ∧ a < dv) (hb : 0 ≤ b ∧ b < dv) : ∃ lo hi, ((lo = f a ∧ hi = f b ∧ f a < f b) ∨ (lo = f b ∧ hi = f a ∧ f b ≤ f a)) ∧ ∀ d, 0 ≤ d → d < 8 → tMee dv f a b d = if f d = hi then lo else f d := by
  obtain ⟨a1, a2, a3, a4⟩ := hf a ha.1 (by omega)
  obtain ⟨b1, b2, b3, b4⟩ := hf b hb.1 (by omega)
  by_cases h : f a < f b
  · refine ⟨f a, f b, Or.inl ⟨rfl, rfl, h⟩, fun d d0 d1 => ?_⟩
    obtain ⟨c1, c2, c3, c4⟩ := hf d d0 d1
    unfold tMee
    rw [if_pos h, if_pos h]
    by_cases q : f d = f b
    · rw [if_pos q, if_pos ⟨⟨d0, by
        apply Classical.byContradiction
        intro z
        have := c4 (by omega)
        omega⟩, q⟩]
    · rw [if_neg q, if_neg (fun z => q z.2)]
  · refine ⟨f b, f a, Or.inr ⟨rfl, rfl, by omega⟩, fun d d0 d1 => ?_⟩
    obtain ⟨c1, c2, c3, c4⟩ := hf d d0 d1
    unfold tMee
    rw [if_neg h, if_neg h]
    by_cases q : f d = f a
    · rw [if_pos q, if_pos ⟨⟨d0, by
        apply Classical.byContradiction
        intro z
        have := c4 (by omega)
        omega⟩, q⟩]
    · rw [if_neg q, if_neg (fun z => q z.2)]
theorem tMee_pt (hf : tPt dv f) {a b : Int} (hv : dv ≤ 8) (ha : 0 ≤ a ∧ a < dv) (hb : 0 ≤ b ∧ b < dv) : tPt dv (tMee dv f a b) := by
  obtain ⟨lo, hi, hlh, val⟩ := tMee_val hf hv ha hb
  obtain ⟨a1, a2, a3, a4⟩ := hf a ha.1 (by omega)
  obtain ⟨b1, b2, b3, b4⟩ := hf b hb.1 (by omega)
  have l0 : 0 ≤ lo ∧ lo ≤ hi ∧ hi < dv ∧ f lo = lo := by
    rcases hlh with ⟨rfl, rfl, h⟩ | ⟨rfl, rfl, h⟩
    · exact ⟨a1, by omega, by omega, a3⟩
    · exact ⟨b1, by omega, by omega, b3⟩
  intro d d0 d1
  obtain ⟨c1, c2, c3, c4⟩ := hf d d0 d1
  rw [val d d0 d1]
  by_cases q : f d = hi
  · rw [if_pos q, val lo l0.1 (by omega), l0.2.2.2]
    refine ⟨l0.1, by omega, by split <;> rfl, fun z => ?_⟩
    have := c4 z
    omega
  · rw [if_neg q, val (f d) c1 (by omega), c3, if_neg q]
    exact ⟨c1, c2, rfl, c4⟩
theorem tMee_mono (hf : tPt dv f) {a b c d : Int} (hv : dv ≤ 8) (ha : 0 ≤ a ∧ a < dv) (hb : 0 ≤ b ∧ b < dv) (hc : 0 ≤ c ∧ c < 8) (hd : 0 ≤ d ∧ d < 8) (h : f c = f d) : tMee dv f a b c = tMee dv f a b d := by
  obtain ⟨lo, hi, hlh, val⟩ := tMee_val hf hv ha hb
  rw [val c hc.1 hc.2, val d hd.1 hd.2, h]
theorem tMee_join (hf : tPt dv f) {a b : Int} (hv : dv ≤ 8) (ha : 0 ≤ a ∧ a < dv) (hb : 0 ≤ b ∧ b < dv) : tMee dv f a b a = tMee dv f a b b := by
  obtain ⟨lo, hi, hlh, val⟩ := tMee_val hf hv ha hb
  rw [val a ha.1 (by omega), val b hb.1 (by omega)]
  rcases hlh with ⟨rfl, rfl, h⟩ | ⟨rfl, rfl, h⟩
  · rw [if_pos (rfl : f b = f b), if_neg (by omega)]
  · rw [if_pos (rfl : f a = f a)]
    by_cases q : f b = f a
    · rw [if_pos q]
    · rw [if_neg q]
theorem tMee_ke (hf : tPt dv f) (hE : tEq E) (hk : tKe f E) {a b : Int} (hv : dv ≤ 8) (ha : 0 ≤ a ∧ a < dv) (hb : 0 ≤ b ∧ b < dv) (hab : E a b) : tKe (tMee dv f a b) E := by
  obtain ⟨lo, hi, hlh, val⟩ := tMee_val hf hv ha hb
  obtain ⟨r, sy, tr⟩ := hE
  intro c d c0 c1 d0 d1 h
  rw [val c c0 c1, val d d0 d1] at h
  have key : ∀ c d, 0 ≤ c → c < 8 → 0 ≤ d → d < 8 → f c = hi → f d = lo → E c d := by
    intro c d c0 c1 d0 d1 hc hd
    rcases hlh with ⟨h1, h2, h3⟩ | ⟨h1, h2, h3⟩
    · exact tr _ _ _ (hk c b c0 c1 hb.1 (by omega) (by rw [hc, h2])) (tr _ _ _ (sy _ _ hab) (hk a d ha.1 (by omega) d0 d1 (by rw [hd, h1])))
    · exact tr _ _ _ (hk c a c0 c1 ha.1 (by omega) (by rw [hc, h2])) (tr _ _ _ hab (hk b d hb.1 (by omega) d0 d1 (by rw [hd, h1])))
  by_cases q1 : f c = hi
  · by_cases q2 : f d = hi
    · exact hk c d c0 c1 d0 d1 (by rw [q1, q2])
    · rw [if_pos q1, if_neg q2] at h
      exact key c d c0 c1 d0 d1 q1 h.symm
  · by_cases q2 : f d = hi
    · rw [if_neg q1, if_pos q2] at h
      exact sy _ _ (key d c d0 d1 c0 c1 q2 h)
    · rw [if_neg q1, if_neg q2] at h
      exact hk c d c0 c1 d0 d1 h
theorem tPt_ext (hf : tPt dv f) (hg : tPt dv g) (h1 : tKe f (fun a b => g a = g b)) (h2 : tKe g (fun a b => f a = f b)) : ∀ d, 0 ≤ d → d < 8 → f d = g d := by
  intro d d0 d1
  obtain ⟨a1, a2, a3, a4⟩ := hf d d0 d1
  obtain ⟨b1, b2, b3, b4⟩ := hg d d0 d1
  have e1 := h1 (f d) d a1 (by omega) d0 d1 a3
  have e2 := h2 (g d) d b1 (by omega) d0 d1 b3
  have l1 := (hg (f d) a1 (by omega)).2.1
  have l2 := (hf (g d) b1 (by omega)).2.1
  dsimp only at e1 e2
  omega
theorem tEq_ker {f : Int → Int} : tEq (fun a b => f a = f b) := ⟨fun _ => rfl, fun _ _ h => h.symm, fun _ _ _ h h' => h.trans h'⟩
theorem tPt_id : tPt dv (fun d => d) := fun d d0 d1 => ⟨d0, Int.le_refl _, rfl, fun _ => rfl⟩
/-- what a step of merges keeps -/
def tOK (dv : Int) (E : Int → Int → Prop) (f : Int → Int) : Prop := tPt dv f ∧ tKe f E
theorem xLay_ok (hI : gIX X) (hE : tEq E) {ps : Int} (hp : ∀ a b, 0 ≤ a → a < b → b < X 167 12 → iand32 (iand32 (xAbo X a) (xAbo X b)) (xLt X ps) ≠ 0 → E a b) (hal : ∀ k, 0 ≤ k → k < X 167 13 → E (X 176 (2 * k)) (X 176 (2 * k + 1))) : tOK (X 167 12) E (xLay X ps) := by
  have hv := hI.2.1
  have hA := hI.2.2.2.2.2.2.2.1
  unfold xLay xLy3 xLy2 xLy1
  refine itF_inv (I := tOK (X 167 12) E) _ _ _ (itF_inv (I := tOK (X 167 12) E) _ _ _ ⟨tPt_id, fun a b _ _ _ _ h => by dsimp only at h; rw [h]; exact hE.1 b⟩ (fun a s a0 a1 hs => itF_inv (I := tOK (X 167 12) E) _ _ _ hs (fun b s b0 b1 hs => ?_))) (fun k s k0 k1 hs => ?_)
  · by_cases q : iand32 (iand32 (xAbo X a) (xAbo X b)) (xLt X ps) ≠ 0
    · rw [if_pos q]
      exact ⟨tMee_pt hs.1 hv.2 ⟨a0, by omega⟩ ⟨by omega, by omega⟩, tMee_ke hs.1 hE hs.2 hv.2 ⟨a0, by omega⟩ ⟨by omega, by omega⟩ (hp a b a0 (by omega) (by omega) q)⟩
    · rw [if_neg q]
      exact hs
  · obtain ⟨q1, q2, q3, q4⟩ := hA k k0 (by omega)
    exact ⟨tMee_pt hs.1 hv.2 ⟨q1, q2⟩ ⟨q3, q4⟩, tMee_ke hs.1 hE hs.2 hv.2 ⟨q1, q2⟩ ⟨q3, q4⟩ (hal k k0 (by omega))⟩
theorem tTriv : tEq (fun _ _ => True) := ⟨fun _ => trivial, fun _ _ _ => trivial, fun _ _ _ _ _ => trivial⟩
theorem tKeT : tKe f (fun _ _ => True) := fun _ _ _ _ _ _ _ => trivial
theorem xLy3_mono (hI : gIX X) {c d : Int} (hc : 0 ≤ c ∧ c < 8) (hd : 0 ≤ d ∧ d < 8) (hf : tPt (X 167 12) f) (h : f c = f d) : xLy3 X 0 (X 167 13).toNat f c = xLy3 X 0 (X 167 13).toNat f d := by
  have hv := hI.2.1
  have hA := hI.2.2.2.2.2.2.2.1
  have := itF_inv (F := fun k f => tMee (X 167 12) f (X 176 (2 * k)) (X 176 (2 * k + 1))) (I := fun f => tPt (X 167 12) f ∧ f c = f d) (X 167 13).toNat 0 f ⟨hf, h⟩ (fun k s k0 k1 hs => by
    obtain ⟨q1, q2, q3, q4⟩ := hA k k0 (by omega)
    exact ⟨tMee_pt hs.1 hv.2 ⟨q1, q2⟩ ⟨q3, q4⟩, tMee_mono hs.1 hv.2 ⟨q1, q2⟩ ⟨q3, q4⟩ hc hd hs.2⟩)
  exact this.2
theorem xLy3_al (hI : gIX X) {k : Int} (hk : 0 ≤ k ∧ k < X 167 13) (hf : tPt (X 167 12) f) : xLy3 X 0 (X 167 13).toNat f (X 176 (2 * k)) = xLy3 X 0 (X 167 13).toNat f (X 176 (2 * k + 1)) := by
  have hv := hI.2.1
  have hA := hI.2.2.2.2.2.2.2.1
  obtain ⟨p1, p2, p3, p4⟩ := hA k hk.1 hk.2
  exact itF_get (F := fun k f => tMee (X 167 12) f (X 176 (2 * k)) (X 176 (2 * k + 1))) (I := tPt (X 167 12)) (P := fun f => f (X 176 (2 * k)) = f (X 176 (2 * k + 1))) (j0 := k) (X 167 13).toNat 0 f hk.1 (by omega) hf
    (fun j s j0 j1 hs => by
      obtain ⟨q1, q2, q3, q4⟩ := hA j j0 (by omega)
      exact tMee_pt hs hv.2 ⟨q1, q2⟩ ⟨q3, q4⟩)
    (fun s hs => tMee_join hs hv.2 ⟨p1, p2⟩ ⟨p3, p4⟩)
    (fun j s j0 j1 hs h => by
      obtain ⟨q1, q2, q3, q4⟩ := hA j j0 (by omega)
      exact tMee_mono hs hv.2 ⟨q1, q2⟩ ⟨q3, q4⟩ ⟨p1, by omega⟩ ⟨p3, by omega⟩ h)
theorem xLay_get (hI : gIX X) {ps a b : Int} (a0 : 0 ≤ a) (ab : a < b) (b1 : b < X 167 12) (h : iand32 (iand32 (xAbo X a) (xAbo X b)) (xLt X ps) ≠ 0) : xLay X ps a = xLay X ps b := by
  have hv := hI.2.1
  have stp : ∀ (a b : Int) (s : Int → Int), 0 ≤ a → a < b → b < X 167 12 → tPt (X 167 12) s → tPt (X 167 12) (if iand32 (iand32 (xAbo X a) (xAbo X b)) (xLt X ps) ≠ 0 then tMee (X 167 12) s a b else s) := fun a b s a0 ab b1 hs => by
    split
    · exact tMee_pt hs hv.2 ⟨a0, by omega⟩ ⟨by omega, b1⟩
    · exact hs
  have stm : ∀ (i j : Int) (s : Int → Int), 0 ≤ i → i < j → j < X 167 12 → tPt (X 167 12) s → s a = s b → (if iand32 (iand32 (xAbo X i) (xAbo X j)) (xLt X ps) ≠ 0 then tMee (X 167 12) s i j else s) a = (if iand32 (iand32 (xAbo X i) (xAbo X j)) (xLt X ps) ≠ 0 then tMee (X 167 12) s i j else s) b := fun i j s i0 ij j1 hs e => by
    split
    · exact tMee_mono hs hv.2 ⟨i0, by omega⟩ ⟨by omega, j1⟩ ⟨a0, by omega⟩ ⟨by omega, by omega⟩ e
    · exact e
  have main : tPt (X 167 12) (xLy2 X (xLt X ps) 0 (X 167 12).toNat (fun d => d)) ∧ xLy2 X (xLt X ps) 0 (X 167 12).toNat (fun d => d) a = xLy2 X (xLt X ps) 0 (X 167 12).toNat (fun d => d) b := by
    unfold xLy2
    refine itF_get (I := tPt (X 167 12)) (P := fun f => tPt (X 167 12) f ∧ f a = f b) (j0 := a) _ _ _ a0 (by omega) tPt_id (fun i s i0 i1 hs => ?_) (fun s hs => ?_) (fun i s i0 i1 hs h => ?_)
    · unfold xLy1
      exact itF_inv (I := tPt (X 167 12)) _ _ _ hs (fun j s j0 j1 hs => stp i j s i0 (by omega) (by omega) hs)
    · unfold xLy1
      refine itF_get (I := tPt (X 167 12)) (P := fun f => tPt (X 167 12) f ∧ f a = f b) (j0 := b) _ _ _ (by omega) (by omega) hs (fun j s j0 j1 hs => stp a j s a0 (by omega) (by omega) hs) (fun s hs => ?_) (fun j s j0 j1 hs q => ?_)
      · rw [if_pos h]
        exact ⟨tMee_pt hs hv.2 ⟨a0, by omega⟩ ⟨by omega, b1⟩, tMee_join hs hv.2 ⟨a0, by omega⟩ ⟨by omega, b1⟩⟩
      · exact ⟨stp a j s a0 (by omega) (by omega) hs, stm a j s a0 (by omega) (by omega) hs q.2⟩
    · unfold xLy1
      exact itF_inv (I := fun f => tPt (X 167 12) f ∧ f a = f b) _ _ _ h (fun j s j0 j1 q => ⟨stp i j s i0 (by omega) (by omega) q.1, stm i j s i0 (by omega) (by omega) q.1 q.2⟩)
  unfold xLay
  exact xLy3_mono hI ⟨a0, by omega⟩ ⟨by omega, by omega⟩ main.1 main.2
theorem xLay_pt (hI : gIX X) {ps : Int} : tPt (X 167 12) (xLay X ps) := (xLay_ok hI tTriv (fun _ _ _ _ _ _ => trivial) (fun _ _ _ => trivial)).1
theorem xLay_al (hI : gIX X) {ps k : Int} (hk : 0 ≤ k ∧ k < X 167 13) : xLay X ps (X 176 (2 * k)) = xLay X ps (X 176 (2 * k + 1)) := by
  have hv := hI.2.1
  unfold xLay
  refine xLy3_al hI hk ?_
  unfold xLy2 xLy1
  exact itF_inv (I := tPt (X 167 12)) _ _ _ tPt_id (fun i s i0 i1 hs => itF_inv (I := tPt (X 167 12)) _ _ _ hs (fun j s j0 j1 hs => by
    split
    · exact tMee_pt hs hv.2 ⟨i0, by omega⟩ ⟨by omega, by omega⟩
    · exact hs))
theorem itF_inv2 {σ : Type} {F : Int → σ → σ} {I : Int → σ → Prop} : ∀ (n : Nat) (k : Int) (s : σ), I k s → (∀ j s, k ≤ j → j < k + n → I j s → I (j + 1) (F j s)) → I (k + n) (itF F k n s) := by
  intro n
  induction n with
  | zero => intro k s h _; rw [itF, Int.natCast_zero, Int.add_zero]; exact h
  | succ n ih =>
    intro k s h hF
    rw [itF, show k + ((n + 1 : Nat) : Int) = k + 1 + n by omega]
    exact ih (k + 1) _ (hF k s (by omega) (by omega) h) (fun j s j0 j1 => hF j s (by omega) (by omega))
/-- one bridge's devices are joined -/
theorem cJb_ok (hI : gIX X) (hE : tEq E) {br : Int} (hf : tOK (X 167 12) E f) (hp : ∀ a b, 0 ≤ a → a < b → b < X 167 12 → bt (xAbo X a) br.toNat = true → bt (xAbo X b) br.toNat = true → E a b) : tOK (X 167 12) E (cJb X br f) := by
  have hv := hI.2.1
  have := itF_inv2 (F := cJ1 X br) (I := fun d s => tOK (X 167 12) E s.2 ∧ (s.1 = -1 ∨ (0 ≤ s.1 ∧ s.1 < d ∧ bt (xAbo X s.1) br.toNat = true))) (X 167 12).toNat 0 (-1, f) ⟨hf, Or.inl rfl⟩ (fun d s d0 d1 hs => by
    obtain ⟨h1, h2⟩ := hs
    unfold cJ1
    by_cases c : bt (xAbo X d) br.toNat = false
    · rw [if_pos c]
      exact ⟨h1, h2.imp id (fun z => ⟨z.1, by omega, z.2.2⟩)⟩
    · rw [if_neg c]
      have c' : bt (xAbo X d) br.toNat = true := by simpa using c
      by_cases q : s.1 = -1
      · rw [if_pos q]
        exact ⟨h1, Or.inr ⟨d0, by dsimp only; omega, c'⟩⟩
      · rw [if_neg q]
        obtain ⟨g1, g2, g3⟩ := h2.resolve_left q
        exact ⟨⟨tMee_pt h1.1 hv.2 ⟨g1, by omega⟩ ⟨d0, by omega⟩, tMee_ke h1.1 hE h1.2 hv.2 ⟨g1, by omega⟩ ⟨d0, by omega⟩ (hp _ _ g1 g2 (by omega) g3 c')⟩, Or.inr ⟨g1, by dsimp only; omega, g3⟩⟩)
  exact this.1
theorem cJb_mono (hI : gIX X) {br c d : Int} (hf : tPt (X 167 12) f) (hc : 0 ≤ c ∧ c < 8) (hd : 0 ≤ d ∧ d < 8) (h : f c = f d) : cJb X br f c = cJb X br f d := by
  have hv := hI.2.1
  have := itF_inv2 (F := cJ1 X br) (I := fun e s => (tPt (X 167 12) s.2 ∧ s.2 c = s.2 d) ∧ (s.1 = -1 ∨ (0 ≤ s.1 ∧ s.1 < e))) (X 167 12).toNat 0 (-1, f) ⟨⟨hf, h⟩, Or.inl rfl⟩ (fun e s d0 d1 hs => by
    obtain ⟨h1, h2⟩ := hs
    unfold cJ1
    by_cases q0 : bt (xAbo X e) br.toNat = false
    · rw [if_pos q0]
      exact ⟨h1, h2.imp id (fun z => ⟨z.1, by omega⟩)⟩
    · rw [if_neg q0]
      by_cases q : s.1 = -1
      · rw [if_pos q]
        exact ⟨h1, Or.inr ⟨d0, by dsimp only; omega⟩⟩
      · rw [if_neg q]
        obtain ⟨g1, g2⟩ := h2.resolve_left q
        exact ⟨⟨tMee_pt h1.1 hv.2 ⟨g1, by omega⟩ ⟨d0, by omega⟩, tMee_mono h1.1 hv.2 ⟨g1, by omega⟩ ⟨d0, by omega⟩ hc hd h1.2⟩, Or.inr ⟨g1, by dsimp only; omega⟩⟩)
  exact this.1.2
theorem cJb_get (hI : gIX X) {br a b : Int} (hf : tPt (X 167 12) f) (ha : 0 ≤ a ∧ a < X 167 12) (hb : 0 ≤ b ∧ b < X 167 12) (ba : bt (xAbo X a) br.toNat = true) (bb : bt (xAbo X b) br.toNat = true) : cJb X br f a = cJb X br f b := by
  have hv := hI.2.1
  have := itF_inv2 (F := cJ1 X br) (I := fun d s => tPt (X 167 12) s.2 ∧ ((s.1 = -1 ∧ ∀ e, 0 ≤ e → e < d → bt (xAbo X e) br.toNat = false) ∨ ((0 ≤ s.1 ∧ s.1 < d) ∧ ∀ e, 0 ≤ e → e < d → bt (xAbo X e) br.toNat = true → s.2 e = s.2 s.1))) (X 167 12).toNat 0 (-1, f) ⟨hf, Or.inl ⟨rfl, fun e e0 e1 => by omega⟩⟩ (fun d s d0 d1 hs => by
    obtain ⟨h1, h2⟩ := hs
    unfold cJ1
    by_cases c : bt (xAbo X d) br.toNat = false
    · rw [if_pos c]
      refine ⟨h1, ?_⟩
      rcases h2 with ⟨q1, q2⟩ | ⟨q1, q2⟩
      · refine Or.inl ⟨q1, fun e e0 e1 => ?_⟩
        by_cases z : e = d
        · rw [z]; exact c
        · exact q2 e e0 (by omega)
      · refine Or.inr ⟨⟨q1.1, by omega⟩, fun e e0 e1 e2 => ?_⟩
        by_cases z : e = d
        · rw [z, c] at e2; exact Bool.noConfusion e2
        · exact q2 e e0 (by omega) e2
    · rw [if_neg c]
      by_cases q : s.1 = -1
      · rw [if_pos q]
        refine ⟨h1, Or.inr ⟨⟨d0, by dsimp only; omega⟩, fun e e0 e1 e2 => ?_⟩⟩
        rcases h2 with ⟨q1, q2⟩ | ⟨q1, q2⟩
        · by_cases z : e = d
          · rw [z]
          · rw [q2 e e0 (by omega)] at e2; exact Bool.noConfusion e2
        · omega
      · rw [if_neg q]
        rcases h2 with ⟨q1, q2⟩ | ⟨q1, q2⟩
        · exact absurd q1 q
        · have j := tMee_join h1 hv.2 (a := s.1) (b := d) ⟨q1.1, by omega⟩ ⟨d0, by omega⟩
          refine ⟨tMee_pt h1 hv.2 ⟨q1.1, by omega⟩ ⟨d0, by omega⟩, Or.inr ⟨⟨q1.1, by dsimp only; omega⟩, fun e e0 e1 e2 => ?_⟩⟩
          by_cases z : e = d
          · rw [z]; exact j.symm
          · exact tMee_mono h1 hv.2 ⟨q1.1, by omega⟩ ⟨d0, by omega⟩ ⟨e0, by omega⟩ ⟨q1.1, by omega⟩ (q2 e e0 (by omega) e2))
  have e : (0 : Int) + ((X 167 12).toNat : Int) = X 167 12 := by omega
  rw [e] at this
  obtain ⟨h1, ⟨q1, q2⟩ | ⟨q1, q2⟩⟩ := this
  · rw [q2 a ha.1 ha.2] at ba; exact Bool.noConfusion ba
  · unfold cJb
    rw [q2 a ha.1 ha.2 ba, q2 b hb.1 hb.2 bb]
theorem cLay_ok (hI : gIX X) (hE : tEq E) {ps : Int} (hp : ∀ br a b, 0 ≤ br → br < X 167 11 → X 172 br ≠ 0 → iand32 (ishr32 ps br) 1 = 0 → 0 ≤ a → a < b → b < X 167 12 → bt (xAbo X a) br.toNat = true → bt (xAbo X b) br.toNat = true → E a b) (hal : ∀ k, 0 ≤ k → k < X 167 13 → E (X 176 (2 * k)) (X 176 (2 * k + 1))) : tOK (X 167 12) E (cLay X ps) := by
  have hv := hI.2.1
  have hA := hI.2.2.2.2.2.2.2.1
  unfold cLay xLy3
  refine itF_inv (I := tOK (X 167 12) E) _ _ _ (itF_inv (I := tOK (X 167 12) E) _ _ _ ⟨tPt_id, fun a b _ _ _ _ h => by dsimp only at h; rw [h]; exact hE.1 b⟩ (fun br s b0 b1 hs => ?_)) (fun k s k0 k1 hs => ?_)
  · unfold cJ2
    by_cases q : X 172 br ≠ 0 ∧ iand32 (ishr32 ps br) 1 = 0
    · rw [if_pos q]
      exact cJb_ok hI hE hs (fun a b a0 ab b1' ba bb => hp br a b b0 (by omega) q.1 q.2 a0 ab b1' ba bb)
    · rw [if_neg q]; exact hs
  · obtain ⟨q1, q2, q3, q4⟩ := hA k k0 (by omega)
    exact ⟨tMee_pt hs.1 hv.2 ⟨q1, q2⟩ ⟨q3, q4⟩, tMee_ke hs.1 hE hs.2 hv.2 ⟨q1, q2⟩ ⟨q3, q4⟩ (hal k k0 (by omega))⟩
theorem cJ2_pt (hI : gIX X) {ps b : Int} (hf : tPt (X 167 12) f) : tPt (X 167 12) (cJ2 X ps b f) := by
  unfold cJ2
  split
  · exact (cJb_ok hI tTriv ⟨hf, tKeT⟩ (fun _ _ _ _ _ _ _ => trivial)).1
  · exact hf
theorem cJ2s_pt (hI : gIX X) {ps : Int} : tPt (X 167 12) (itF (cJ2 X ps) 0 (X 167 11).toNat (fun d => d)) :=
  itF_inv (I := tPt (X 167 12)) _ _ _ tPt_id (fun _ _ _ _ hs => cJ2_pt hI hs)
theorem cLay_get (hI : gIX X) {ps br a b : Int} (hbr : 0 ≤ br ∧ br < X 167 11) (hk : X 172 br ≠ 0 ∧ iand32 (ishr32 ps br) 1 = 0) (ha : 0 ≤ a ∧ a < X 167 12) (hb : 0 ≤ b ∧ b < X 167 12) (ba : bt (xAbo X a) br.toNat = true) (bb : bt (xAbo X b) br.toNat = true) : cLay X ps a = cLay X ps b := by
  have hv := hI.2.1
  unfold cLay
  refine xLy3_mono hI ⟨ha.1, by omega⟩ ⟨hb.1, by omega⟩ (cJ2s_pt hI) ?_
  refine itF_get (I := tPt (X 167 12)) (P := fun f => f a = f b) (j0 := br) _ _ _ hbr.1 (by omega) tPt_id (fun j s j0 j1 hs => cJ2_pt hI hs) (fun s hs => ?_) (fun j s j0 j1 hs h => ?_)
  · unfold cJ2
    rw [if_pos hk]
    exact cJb_get hI hs ha hb ba bb
  · unfold cJ2
    split
    · exact cJb_mono hI hs ⟨ha.1, by omega⟩ ⟨hb.1, by omega⟩ h
    · exact h
theorem bt_itOr {C : Int → Prop} {hC : ∀ b, Decidable (C b)} {j : Nat} (hj : j < 32) : ∀ (n : Nat) (k s : Int), 0 ≤ k → k + n ≤ 32 → bt (itF (fun b s => ior32 s (if C b then ishl32 1 b else 0)) k n s) j = (bt s j || (decide (k ≤ j ∧ j < k + n) && decide (C j))) := by
  intro n
  induction n with
  | zero =>
    intro k s k0 k1
    rw [itF, decide_eq_false (by omega), Bool.false_and, Bool.or_false]
  | succ n ih =>
    intro k s k0 k1
    rw [itF, ih (k + 1) _ (by omega) (by omega), bt_or]
    by_cases e : (j : Int) = k
    · rw [decide_eq_false (show ¬ (k + 1 ≤ (j : Int) ∧ (j : Int) < k + 1 + n) by omega), decide_eq_true (show k ≤ (j : Int) ∧ (j : Int) < k + (n + 1 : Nat) by omega), Bool.false_and, Bool.or_false, Bool.true_and, e]
      congr 1
      by_cases c : C k
      · rw [if_pos c, decide_eq_true c, bt_shl (by omega) hj, decide_eq_true e]
      · rw [if_neg c, decide_eq_false c, bt_zero]
    · have z : bt (if C k then ishl32 1 k else 0) j = false := by
        split
        · rw [bt_shl (by omega) hj, decide_eq_false e]
        · exact bt_zero
      rw [z, Bool.or_false]
      congr 2
      exact decide_eq_decide.mpr (by omega)
theorem bt_xLt (hI : gIX X) {ps : Int} {j : Nat} (hj : j < 32) : bt (xLt X ps) j = (decide ((j : Int) < X 167 11) && decide (X 172 j ≠ 0 ∧ iand32 (ishr32 ps j) 1 = 0)) := by
  have hb := hI.1
  unfold xLt
  rw [bt_itOr (C := fun b => X 172 b ≠ 0 ∧ iand32 (ishr32 ps b) 1 = 0) hj (X 167 11).toNat 0 0 (by omega) (by omega), bt_zero, Bool.false_or]
  congr 1
  exact decide_eq_decide.mpr (by omega)
theorem cLay_eq (hI : gIX X) {ps : Int} : ∀ d, 0 ≤ d → d < 8 → cLay X ps d = xLay X ps d := by
  have hb := hI.1
  have hv := hI.2.1
  have h1 := cLay_ok (E := fun a b => xLay X ps a = xLay X ps b) hI tEq_ker (ps := ps) (fun br a b b0 b1 k1 k2 a0 ab bd ba bb => by
    refine xLay_get hI a0 ab bd ?_
    rw [bt_any in32_and]
    refine ⟨br.toNat, by omega, ?_⟩
    rw [bt_and, bt_and, ba, bb, bt_xLt hI (by omega), show ((br.toNat : Nat) : Int) = br by omega, decide_eq_true b1, decide_eq_true ⟨k1, k2⟩]
    rfl) (fun k k0 k1 => xLay_al hI ⟨k0, k1⟩)
  have h2 := xLay_ok (E := fun a b => cLay X ps a = cLay X ps b) hI tEq_ker (ps := ps) (fun a b a0 ab bd h => by
    obtain ⟨k, hk, h⟩ := (bt_any in32_and).mp h
    rw [bt_and, bt_and, Bool.and_eq_true, Bool.and_eq_true, bt_xLt hI hk, Bool.and_eq_true, decide_eq_true_eq, decide_eq_true_eq] at h
    exact cLay_get hI (br := k) ⟨by omega, h.2.1⟩ h.2.2 ⟨a0, by omega⟩ ⟨by omega, bd⟩ h.1.1 h.1.2) (fun k k0 k1 => by
    unfold cLay
    exact xLy3_al hI ⟨k0, k1⟩ (cJ2s_pt hI))
  exact tPt_ext h1.1 h2.1 h1.2 h2.2
end GROUPS
