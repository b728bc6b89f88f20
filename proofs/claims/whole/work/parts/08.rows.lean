/-! steps of the small machine are steps of the JVM -/
def gKK (D : va_G) (cI cJ : ClassId) (U : State) : Prop := va_K D gCL [(cI, .int), (cJ, .long)] U ∧ ∀ w ∈ gNest, va_Nw w U
theorem gKK.warm {D : va_G} {cI cJ : ClassId} {s U : State} (hW : s.WarmedH U.vm) (h : gKK D cI cJ s) : gKK D cI cJ U := by
  refine ⟨va_K.moved hW.alike h.1, fun w hw => ?_⟩
  have h1 := h.2 w hw
  have h2 := (List.mem_filter.mp hw).2
  cases w with
  | fieldLinkNest a b c d e f => exact va_Nw.warmF hW h1
  | methodLinkNest a b c d => exact va_Nw.warmM hW h1
  | _ => cases h2
theorem gNest_tabs {w : Cond} (hw : w ∈ gNest) : w.onTables = true := by
  have h2 := (List.mem_filter.mp hw).2
  cases w with
  | fieldLinkNest a b c d e f => rfl
  | methodLinkNest a b c d => rfl
  | _ => cases h2
def gWs (M : Nat) : List Cond := .code (mY M) (mB M) (mL M) (mT M) :: gTB
def gRm (M : Nat) : Room := { frames := mF M, cells := 0, slots := 0, locals := mZ M }
def gRV (M : Nat) (r : Int) : Option Value := match gret (mT M) with
  | 0 => none
  | 3 => some (.long (Int64.ofInt r))
  | _ => some (.int (Int32.ofInt r))
def gQ (D : va_G) (ad : Nat → Nat) (cI cJ : ClassId) (M : Nat) (r : Int) (μ' : gM) (A : Nat → Prop) : Array Value → State → Outcome → State → Prop := fun _ st oc t => (oc = .returned (gRV M r) ∧ va_P D gCL (gws ad cI cJ μ') t.heap) ∧ va_F A st t
def gAd (ad : Nat → Nat) (sz : Nat) : Nat → Prop := fun q => (∃ k, k < gLY.length ∧ q = ad k) ∨ sz ≤ q
def gPc (D : va_G) (ad : Nat → Nat) (cI cJ : ClassId) (as : List gv) (μ : gM) (sz : Nat) : Array Value → State → Prop := va_Pc (as.map (gval ad)) (fun U => U.heap.size = sz ∧ va_P D gCL (gws ad cI cJ μ) U.heap ∧ gKK D cI cJ U)
def gMet (l : Launch) (D : va_G) (ad : Nat → Nat) (cI cJ : ClassId) (M : Nat) (as : List gv) (μ : gM) (r : Int) (μ' : gM) (sz : Nat) : Prop := Met l (mY M) (gWs M) (gRm M) (gPc D ad cI cJ as μ sz) (gQ D ad cI cJ M r μ' (gAd ad sz)) 0 0 (gAd ad sz)
def gInj (ad : Nat → Nat) : Prop := ∀ i j, i < gLY.length → j < gLY.length → ad i = ad j → i = j
theorem gws_D {ad : Nat → Nat} {cI cJ : ClassId} {μ : gM} {A : Nat → Prop} (hi : gInj ad) (hA : ∀ k, k < gLY.length → A (ad k)) : va_D A (gws ad cI cJ μ) := by
  have key : ∀ (k : Nat) (q : Nat × va_E), (gws ad cI cJ μ)[k]? = some q → k < gLY.length ∧ q.1 = ad k := by
    intro k q h
    have hk : k < gLY.length := by
      rcases Nat.lt_or_ge k gLY.length with z | z
      · exact z
      · simp [gws, z] at h
    rw [gws_at hk] at h
    cases h
    exact ⟨hk, rfl⟩
  refine ⟨fun i j p q h1 h2 h => ?_, fun k q h => ?_⟩
  · obtain ⟨a1, a2⟩ := key i p h1
    obtain ⟨b1, b2⟩ := key j q h2
    exact hi i j a1 b1 (by rw [← a2, ← b2]; exact h)
  · obtain ⟨a1, a2⟩ := key k q h
    rw [a2]
    exact hA k a1
def gCx (p : Program) (s : State) (m : MethodId) (args : Array Value) (meth : Method) (c : Code) (A : Nat → Prop) (D : va_G) (ad : Nat → Nat) (cI cJ : ClassId) (M : Nat) : Prop :=
  p.tables.exec = Jvm.exec ∧ c.code = mB M ∧ meth.sig.returnType = mT M ∧ c.maxLocals = mL M ∧ s.vm.findClass (gown (mO M)) = some m.cls ∧ (∀ w ∈ gWs M, w.before args s = true) ∧ meth.locks = false ∧ gKK D cI cJ s ∧ (∀ q, s.heap.size ≤ q → A q) ∧ (∀ k, k < gLY.length → A (ad k)) ∧ gInj ad
def gWf (p : Program) (l : Launch) (e : Env) (R : Room) (s : State) (m : MethodId) (args : Array Value) (below : List Frame) (meth : Method) (c : Code) (Q : State → Prop) (A : Nat → Prop) (D : va_G) (ad : Nat → Nat) (cI cJ : ClassId) (pc : Nat) (ls st : List gv) (μ : gM) : Prop :=
  ∀ (H : Heap) (locs : List Loc) (lsv : Array Slot), va_P D gCL (gws ad cI cJ μ) H → va_S A s.heap H locs → lv_has lsv ls.length (g_cl ad ls) → W p l e R s m args below meth c H locs 0 0 Q (F0 m pc lsv (st.map (gval ad)))
theorem g_stk_inv {pc : Nat} {ls : List gv} {μ : gM} {o : Option (List gv)} {c' : gF} (h : g_stk pc ls μ o = some (.inl c')) : ∃ st', o = some st' ∧ c' = (pc, ls, st', μ) := by
  cases o with
  | none => cases h
  | some st' => cases h; exact ⟨_, rfl, rfl⟩
theorem g_push_inv {pc : Nat} {ls st : List gv} {μ : gM} {o : Option gv} {c' : gF} (h : g_push pc ls st μ o = some (.inl c')) : ∃ v, o = some v ∧ c' = (pc, ls, v :: st, μ) := by
  cases o with
  | none => cases h
  | some v => cases h; exact ⟨_, rfl, rfl⟩
theorem g_i2_inv {f : Int32 → Int32 → Int32} {st st' : List gv} (h : g_i2 f st = some st') : ∃ a b r, st = some (.inl b) :: some (.inl a) :: r ∧ st' = gI (f (Int32.ofInt a) (Int32.ofInt b)).toInt :: r := by
  unfold g_i2 at h
  split at h
  · cases h; exact ⟨_, _, _, rfl, rfl⟩
  · cases h
theorem g_l2_inv {f : Int64 → Int64 → Int64} {st st' : List gv} (h : g_l2 f st = some st') : ∃ a b r, st = some (.inr (.inl b)) :: some (.inr (.inl a)) :: r ∧ st' = gJ (f (Int64.ofInt a) (Int64.ofInt b)).toInt :: r := by
  unfold g_l2 at h
  split at h
  · cases h; exact ⟨_, _, _, rfl, rfl⟩
  · cases h
theorem g_i2n_inv {f : Int32 → Int32 → Int32} {st st' : List gv} (h : g_i2n f st = some st') : ∃ a b r, st = some (.inl b) :: some (.inl a) :: r ∧ b ≠ 0 ∧ st' = gI (f (Int32.ofInt a) (Int32.ofInt b)).toInt :: r := by
  unfold g_i2n at h
  split at h
  · split at h
    · cases h
    · rename_i hb
      cases h
      exact ⟨_, _, _, rfl, hb, rfl⟩
  · cases h
theorem g_l2n_inv {f : Int64 → Int64 → Int64} {st st' : List gv} (h : g_l2n f st = some st') : ∃ a b r, st = some (.inr (.inl b)) :: some (.inr (.inl a)) :: r ∧ b ≠ 0 ∧ st' = gJ (f (Int64.ofInt a) (Int64.ofInt b)).toInt :: r := by
  unfold g_l2n at h
  split at h
  · split at h
    · cases h
    · rename_i hb
      cases h
      exact ⟨_, _, _, rfl, hb, rfl⟩
  · cases h
theorem g_lsh_inv {f : Int64 → Int32 → Int64} {st st' : List gv} (h : g_lsh f st = some st') : ∃ a b r, st = some (.inl b) :: some (.inr (.inl a)) :: r ∧ st' = gJ (f (Int64.ofInt a) (Int32.ofInt b)).toInt :: r := by
  unfold g_lsh at h
  split at h
  · cases h; exact ⟨_, _, _, rfl, rfl⟩
  · cases h
theorem g_lcmp_inv {st st' : List gv} (h : g_lcmp st = some st') : ∃ a b r, st = some (.inr (.inl b)) :: some (.inr (.inl a)) :: r ∧ st' = gI (if b < a then 1 else if a = b then 0 else -1) :: r := by
  unfold g_lcmp at h
  split at h
  · cases h; exact ⟨_, _, _, rfl, rfl⟩
  · cases h
theorem g_i2l_inv {st st' : List gv} (h : g_i2l st = some st') : ∃ a r, st = some (.inl a) :: r ∧ st' = gJ a :: r := by
  unfold g_i2l at h
  split at h
  · cases h; exact ⟨_, _, rfl, rfl⟩
  · cases h
theorem g_l2i_inv {st st' : List gv} (h : g_l2i st = some st') : ∃ a r, st = some (.inr (.inl a)) :: r ∧ st' = gI (Int64.ofInt a).toInt32.toInt :: r := by
  unfold g_l2i at h
  split at h
  · cases h; exact ⟨_, _, rfl, rfl⟩
  · cases h
theorem g_dup_inv {st st' : List gv} (h : g_dup st = some st') : ∃ v r, st = v :: r ∧ g_small v = true ∧ st' = v :: v :: r := by
  unfold g_dup at h
  split at h
  · split at h
    · rename_i hb
      cases h
      exact ⟨_, _, rfl, hb, rfl⟩
    · cases h
  · cases h
theorem g_dup2_inv {st st' : List gv} (h : g_dup2 st = some st') : ∃ v w r, st = v :: w :: r ∧ g_small v = true ∧ g_small w = true ∧ st' = v :: w :: v :: w :: r := by
  unfold g_dup2 at h
  split at h
  · split at h
    · rename_i hb
      split at h
      · rename_i hc
        cases h
        exact ⟨_, _, _, rfl, hb, hc, rfl⟩
      · cases h
    · cases h
  · cases h
theorem g_pop_inv {st st' : List gv} (h : g_pop st = some st') : ∃ v r, st = v :: r ∧ g_small v = true ∧ st' = r := by
  unfold g_pop at h
  split at h
  · split at h
    · rename_i hb
      cases h
      exact ⟨_, _, rfl, hb, rfl⟩
    · cases h
  · cases h
theorem g_small_cat {ad : Nat → Nat} {v : gv} (h : g_small v = true) : (gval ad v).category = 1 := by
  rcases v with _ | a | a | r | r | r
  · cases h
  · rfl
  · cases h
  · rfl
  · rfl
  · rfl
theorem gval_I (ad : Nat → Nat) (x : Int32) : gval ad (gI x.toInt) = .int x := by
  show Value.int (Int32.ofInt x.toInt) = .int x
  rw [Int32.ofInt_toInt]
theorem gval_J (ad : Nat → Nat) (x : Int64) : gval ad (gJ x.toInt) = .long x := by
  show Value.long (Int64.ofInt x.toInt) = .long x
  rw [Int64.ofInt_toInt]
theorem g_ne0 {b : Int} (hb : gok (some (.inl b))) (h : b ≠ 0) : ¬ Int32.ofInt b = 0 := by
  intro q
  have h1 : (Int32.ofInt b).toInt = b := hb
  rw [q] at h1
  exact h h1.symm
theorem g_ne0l {b : Int} (hb : gok (some (.inr (.inl b)))) (h : b ≠ 0) : ¬ Int64.ofInt b = 0 := by
  intro q
  have h1 : (Int64.ofInt b).toInt = b := hb
  rw [q] at h1
  exact h h1.symm
theorem g_eq {a b : Int} (ha : (Int32.ofInt a).toInt = a) (hb : (Int32.ofInt b).toInt = b) : Int32.ofInt a = Int32.ofInt b ↔ a = b := by
  rw [← Int32.toInt_inj, ha, hb]
theorem g_lt {a b : Int} (ha : (Int32.ofInt a).toInt = a) (hb : (Int32.ofInt b).toInt = b) : Int32.ofInt a < Int32.ofInt b ↔ a < b := by
  rw [Int32.lt_iff_toInt_lt, ha, hb]
theorem g_le {a b : Int} (ha : (Int32.ofInt a).toInt = a) (hb : (Int32.ofInt b).toInt = b) : Int32.ofInt a ≤ Int32.ofInt b ↔ a ≤ b := by
  rw [Int32.le_iff_toInt_le, ha, hb]
theorem g_lgc {a b : Int} (ha : (Int64.ofInt a).toInt = a) (hb : (Int64.ofInt b).toInt = b) : lg_cmp (Int64.ofInt a) (Int64.ofInt b) = Int32.ofInt (if b < a then 1 else if a = b then 0 else -1) := by
  unfold lg_cmp
  have h1 : (Int64.ofInt a > Int64.ofInt b) ↔ b < a := by rw [gt_iff_lt, Int64.lt_iff_toInt_lt, ha, hb]
  have h2 : (Int64.ofInt a = Int64.ofInt b) ↔ a = b := by rw [← Int64.toInt_inj, ha, hb]
  by_cases q1 : b < a
  · rw [if_pos (h1.mpr q1), if_pos q1]; rfl
  · rw [if_neg (fun z => q1 (h1.mp z)), if_neg q1]
    by_cases q2 : a = b
    · rw [if_pos (h2.mpr q2), if_pos q2]; rfl
    · rw [if_neg (fun z => q2 (h2.mp z)), if_neg q2]; rfl
section GROWS
variable {p : Program} {l : Launch} {e : Env} {R : Room} {s : State} {m : MethodId} {args : Array Value} {below : List Frame} {meth : Method} {c : Code} {Q : State → Prop} {A : Nat → Prop} {D : va_G} {ad : Nat → Nat} {cI cJ : ClassId} {pc pc1 : Nat} {ls st : List gv} {μ : gM} {c' : gF}
theorem s_const {v : gv} {w : Value} (hv : gval ad v = w) (row : ∀ {H : Heap} {locs : List Loc} {lsv : Array Slot} {rest : List Value}, W p l e R s m args below meth c H locs 0 0 Q (F0 m pc1 lsv (w :: rest)) → W p l e R s m args below meth c H locs 0 0 Q (F0 m pc lsv (rest)))
    (h : g_nx pc1 ls (v :: st) μ = some (.inl c')) (k : gWf p l e R s m args below meth c Q A D ad cI cJ c'.1 c'.2.1 c'.2.2.1 c'.2.2.2) : gWf p l e R s m args below meth c Q A D ad cI cJ pc ls st μ := by
  cases h
  intro H locs lsv hP hS hl
  have := k H locs lsv hP hS hl
  rw [List.map_cons, hv] at this
  exact row this
theorem s_i2 {f : Int32 → Int32 → Int32} (row : ∀ {H : Heap} {locs : List Loc} {lsv : Array Slot} {rest : List Value} {x : Int32} {y : Int32}, W p l e R s m args below meth c H locs 0 0 Q (F0 m pc1 lsv (.int (f x y) :: rest)) → W p l e R s m args below meth c H locs 0 0 Q (F0 m pc lsv (.int y :: .int x :: rest)))
    (h : g_stk pc1 ls μ (g_i2 f st) = some (.inl c')) (k : gWf p l e R s m args below meth c Q A D ad cI cJ c'.1 c'.2.1 c'.2.2.1 c'.2.2.2) : gWf p l e R s m args below meth c Q A D ad cI cJ pc ls st μ := by
  obtain ⟨st', h1, rfl⟩ := g_stk_inv h
  obtain ⟨a, b, r, rfl, rfl⟩ := g_i2_inv h1
  intro H locs lsv hP hS hl
  have := k H locs lsv hP hS hl
  dsimp only at this
  rw [List.map_cons, gval_I] at this
  exact row this
theorem s_l2 {f : Int64 → Int64 → Int64} (row : ∀ {H : Heap} {locs : List Loc} {lsv : Array Slot} {rest : List Value} {x : Int64} {y : Int64}, W p l e R s m args below meth c H locs 0 0 Q (F0 m pc1 lsv (.long (f x y) :: rest)) → W p l e R s m args below meth c H locs 0 0 Q (F0 m pc lsv (.long y :: .long x :: rest)))
    (h : g_stk pc1 ls μ (g_l2 f st) = some (.inl c')) (k : gWf p l e R s m args below meth c Q A D ad cI cJ c'.1 c'.2.1 c'.2.2.1 c'.2.2.2) : gWf p l e R s m args below meth c Q A D ad cI cJ pc ls st μ := by
  obtain ⟨st', h1, rfl⟩ := g_stk_inv h
  obtain ⟨a, b, r, rfl, rfl⟩ := g_l2_inv h1
  intro H locs lsv hP hS hl
  have := k H locs lsv hP hS hl
  dsimp only at this
  rw [List.map_cons, gval_J] at this
  exact row this
theorem s_lsh {f : Int64 → Int32 → Int64} (row : ∀ {H : Heap} {locs : List Loc} {lsv : Array Slot} {rest : List Value} {x : Int64} {y : Int32}, W p l e R s m args below meth c H locs 0 0 Q (F0 m pc1 lsv (.long (f x y) :: rest)) → W p l e R s m args below meth c H locs 0 0 Q (F0 m pc lsv (.int y :: .long x :: rest)))
    (h : g_stk pc1 ls μ (g_lsh f st) = some (.inl c')) (k : gWf p l e R s m args below meth c Q A D ad cI cJ c'.1 c'.2.1 c'.2.2.1 c'.2.2.2) : gWf p l e R s m args below meth c Q A D ad cI cJ pc ls st μ := by
  obtain ⟨st', h1, rfl⟩ := g_stk_inv h
  obtain ⟨a, b, r, rfl, rfl⟩ := g_lsh_inv h1
  intro H locs lsv hP hS hl
  have := k H locs lsv hP hS hl
  dsimp only at this
  rw [List.map_cons, gval_J] at this
  exact row this
theorem s_i2n {f : Int32 → Int32 → Int32} (hok : gokl st) (row : ∀ {H : Heap} {locs : List Loc} {lsv : Array Slot} {rest : List Value} {x y : Int32}, ¬ y = 0 → W p l e R s m args below meth c H locs 0 0 Q (F0 m pc1 lsv (.int (f x y) :: rest)) → W p l e R s m args below meth c H locs 0 0 Q (F0 m pc lsv (.int y :: .int x :: rest)))
    (h : g_stk pc1 ls μ (g_i2n f st) = some (.inl c')) (k : gWf p l e R s m args below meth c Q A D ad cI cJ c'.1 c'.2.1 c'.2.2.1 c'.2.2.2) : gWf p l e R s m args below meth c Q A D ad cI cJ pc ls st μ := by
  obtain ⟨st', h1, rfl⟩ := g_stk_inv h
  obtain ⟨a, b, r, rfl, hb, rfl⟩ := g_i2n_inv h1
  intro H locs lsv hP hS hl
  have := k H locs lsv hP hS hl
  dsimp only at this
  rw [List.map_cons, gval_I] at this
  exact row (g_ne0 (hok _ List.mem_cons_self) hb) this
theorem s_l2n {f : Int64 → Int64 → Int64} (hok : gokl st) (row : ∀ {H : Heap} {locs : List Loc} {lsv : Array Slot} {rest : List Value} {x y : Int64}, ¬ y = 0 → W p l e R s m args below meth c H locs 0 0 Q (F0 m pc1 lsv (.long (f x y) :: rest)) → W p l e R s m args below meth c H locs 0 0 Q (F0 m pc lsv (.long y :: .long x :: rest)))
    (h : g_stk pc1 ls μ (g_l2n f st) = some (.inl c')) (k : gWf p l e R s m args below meth c Q A D ad cI cJ c'.1 c'.2.1 c'.2.2.1 c'.2.2.2) : gWf p l e R s m args below meth c Q A D ad cI cJ pc ls st μ := by
  obtain ⟨st', h1, rfl⟩ := g_stk_inv h
  obtain ⟨a, b, r, rfl, hb, rfl⟩ := g_l2n_inv h1
  intro H locs lsv hP hS hl
  have := k H locs lsv hP hS hl
  dsimp only at this
  rw [List.map_cons, gval_J] at this
  exact row (g_ne0l (hok _ List.mem_cons_self) hb) this
theorem s_lcmp (hok : gokl st) (row : ∀ {H : Heap} {locs : List Loc} {lsv : Array Slot} {rest : List Value} {x y : Int64}, W p l e R s m args below meth c H locs 0 0 Q (F0 m pc1 lsv (.int (lg_cmp x y) :: rest)) → W p l e R s m args below meth c H locs 0 0 Q (F0 m pc lsv (.long y :: .long x :: rest)))
    (h : g_stk pc1 ls μ (g_lcmp st) = some (.inl c')) (k : gWf p l e R s m args below meth c Q A D ad cI cJ c'.1 c'.2.1 c'.2.2.1 c'.2.2.2) : gWf p l e R s m args below meth c Q A D ad cI cJ pc ls st μ := by
  obtain ⟨st', h1, rfl⟩ := g_stk_inv h
  obtain ⟨a, b, r, rfl, rfl⟩ := g_lcmp_inv h1
  intro H locs lsv hP hS hl
  have := k H locs lsv hP hS hl
  dsimp only at this
  have hb : (Int64.ofInt b).toInt = b := hok _ List.mem_cons_self
  have ha : (Int64.ofInt a).toInt = a := hok (some (.inr (.inl a))) (List.mem_cons_of_mem _ List.mem_cons_self)
  refine row ?_
  rw [g_lgc ha hb]
  exact this
theorem s_i2l (hok : gokl st) (row : ∀ {H : Heap} {locs : List Loc} {lsv : Array Slot} {rest : List Value} {x : Int32}, W p l e R s m args below meth c H locs 0 0 Q (F0 m pc1 lsv (.long x.toInt64 :: rest)) → W p l e R s m args below meth c H locs 0 0 Q (F0 m pc lsv (.int x :: rest)))
    (h : g_stk pc1 ls μ (g_i2l st) = some (.inl c')) (k : gWf p l e R s m args below meth c Q A D ad cI cJ c'.1 c'.2.1 c'.2.2.1 c'.2.2.2) : gWf p l e R s m args below meth c Q A D ad cI cJ pc ls st μ := by
  obtain ⟨st', h1, rfl⟩ := g_stk_inv h
  obtain ⟨a, r, rfl, rfl⟩ := g_i2l_inv h1
  intro H locs lsv hP hS hl
  have := k H locs lsv hP hS hl
  dsimp only at this
  have ha : (Int32.ofInt a).toInt = a := hok _ List.mem_cons_self
  refine row ?_
  have e : (Int32.ofInt a).toInt64 = Int64.ofInt a := by rw [← Int64.toInt_inj, Int32.toInt_toInt64, ha]; have h1 := Int32.toInt_lt (Int32.ofInt a); have h2 := Int32.le_toInt (Int32.ofInt a); rw [ha] at h1 h2; rw [Int64.toInt_ofInt, Int.bmod_eq_of_le (by simp [Int64.size]; omega) (by simp [Int64.size]; omega)]
  rw [e]
  exact this
theorem s_l2i (row : ∀ {H : Heap} {locs : List Loc} {lsv : Array Slot} {rest : List Value} {x : Int64}, W p l e R s m args below meth c H locs 0 0 Q (F0 m pc1 lsv (.int x.toInt32 :: rest)) → W p l e R s m args below meth c H locs 0 0 Q (F0 m pc lsv (.long x :: rest)))
    (h : g_stk pc1 ls μ (g_l2i st) = some (.inl c')) (k : gWf p l e R s m args below meth c Q A D ad cI cJ c'.1 c'.2.1 c'.2.2.1 c'.2.2.2) : gWf p l e R s m args below meth c Q A D ad cI cJ pc ls st μ := by
  obtain ⟨st', h1, rfl⟩ := g_stk_inv h
  obtain ⟨a, r, rfl, rfl⟩ := g_l2i_inv h1
  intro H locs lsv hP hS hl
  have := k H locs lsv hP hS hl
  dsimp only at this
  rw [List.map_cons, gval_I] at this
  exact row this
theorem s_dup (row : ∀ {H : Heap} {locs : List Loc} {lsv : Array Slot} {rest : List Value} {v : Value}, v.category = 1 → W p l e R s m args below meth c H locs 0 0 Q (F0 m pc1 lsv (v :: v :: rest)) → W p l e R s m args below meth c H locs 0 0 Q (F0 m pc lsv (v :: rest)))
    (h : g_stk pc1 ls μ (g_dup st) = some (.inl c')) (k : gWf p l e R s m args below meth c Q A D ad cI cJ c'.1 c'.2.1 c'.2.2.1 c'.2.2.2) : gWf p l e R s m args below meth c Q A D ad cI cJ pc ls st μ := by
  obtain ⟨st', h1, rfl⟩ := g_stk_inv h
  obtain ⟨v, r, rfl, hv, rfl⟩ := g_dup_inv h1
  intro H locs lsv hP hS hl
  exact row (g_small_cat hv) (k H locs lsv hP hS hl)
theorem s_dup2 (row : ∀ {H : Heap} {locs : List Loc} {lsv : Array Slot} {rest : List Value} {v w : Value}, v.category = 1 → w.category = 1 → W p l e R s m args below meth c H locs 0 0 Q (F0 m pc1 lsv (v :: w :: v :: w :: rest)) → W p l e R s m args below meth c H locs 0 0 Q (F0 m pc lsv (v :: w :: rest)))
    (h : g_stk pc1 ls μ (g_dup2 st) = some (.inl c')) (k : gWf p l e R s m args below meth c Q A D ad cI cJ c'.1 c'.2.1 c'.2.2.1 c'.2.2.2) : gWf p l e R s m args below meth c Q A D ad cI cJ pc ls st μ := by
  obtain ⟨st', h1, rfl⟩ := g_stk_inv h
  obtain ⟨v, w, r, rfl, hv, hw, rfl⟩ := g_dup2_inv h1
  intro H locs lsv hP hS hl
  exact row (g_small_cat hv) (g_small_cat hw) (k H locs lsv hP hS hl)
theorem s_pop (row : ∀ {H : Heap} {locs : List Loc} {lsv : Array Slot} {rest : List Value} {v : Value}, v.category = 1 → W p l e R s m args below meth c H locs 0 0 Q (F0 m pc1 lsv (rest)) → W p l e R s m args below meth c H locs 0 0 Q (F0 m pc lsv (v :: rest)))
    (h : g_stk pc1 ls μ (g_pop st) = some (.inl c')) (k : gWf p l e R s m args below meth c Q A D ad cI cJ c'.1 c'.2.1 c'.2.2.1 c'.2.2.2) : gWf p l e R s m args below meth c Q A D ad cI cJ pc ls st μ := by
  obtain ⟨st', h1, rfl⟩ := g_stk_inv h
  obtain ⟨v, r, rfl, hv, rfl⟩ := g_pop_inv h1
  intro H locs lsv hP hS hl
  exact row (g_small_cat hv) (k H locs lsv hP hS hl)
theorem s_ldi {i : Nat} (row : ∀ {H : Heap} {locs : List Loc} {lsv : Array Slot} {rest : List Value} {x : Int32}, lsv[i]? = some (.val (.int x)) → W p l e R s m args below meth c H locs 0 0 Q (F0 m pc1 lsv (.int x :: rest)) → W p l e R s m args below meth c H locs 0 0 Q (F0 m pc lsv (rest)))
    (h : g_push pc1 ls st μ (g_ldi ls i) = some (.inl c')) (k : gWf p l e R s m args below meth c Q A D ad cI cJ c'.1 c'.2.1 c'.2.2.1 c'.2.2.2) : gWf p l e R s m args below meth c Q A D ad cI cJ pc ls st μ := by
  obtain ⟨v, h1, rfl⟩ := g_push_inv h
  unfold g_ldi at h1
  split at h1
  · rename_i a ha
    cases h1
    intro H locs lsv hP hS hl
    exact row (g_cl_at hl (by unfold g_at; rw [ha])) (k H locs lsv hP hS hl)
  · cases h1
theorem s_ldl {i : Nat} (row : ∀ {H : Heap} {locs : List Loc} {lsv : Array Slot} {rest : List Value} {x : Int64}, lsv[i]? = some (.val (.long x)) → W p l e R s m args below meth c H locs 0 0 Q (F0 m pc1 lsv (.long x :: rest)) → W p l e R s m args below meth c H locs 0 0 Q (F0 m pc lsv (rest)))
    (h : g_push pc1 ls st μ (g_ldl ls i) = some (.inl c')) (k : gWf p l e R s m args below meth c Q A D ad cI cJ c'.1 c'.2.1 c'.2.2.1 c'.2.2.2) : gWf p l e R s m args below meth c Q A D ad cI cJ pc ls st μ := by
  obtain ⟨v, h1, rfl⟩ := g_push_inv h
  unfold g_ldl at h1
  split at h1
  · rename_i a ha hb
    cases h1
    intro H locs lsv hP hS hl
    exact row (g_cl_at hl (by unfold g_at; rw [ha]; dsimp only; rw [hb])) (k H locs lsv hP hS hl)
  · cases h1
theorem s_lda {i : Nat} (row : ∀ {H : Heap} {locs : List Loc} {lsv : Array Slot} {rest : List Value} {x : Nat}, lsv[i]? = some (.val (.ref x)) → W p l e R s m args below meth c H locs 0 0 Q (F0 m pc1 lsv (.ref x :: rest)) → W p l e R s m args below meth c H locs 0 0 Q (F0 m pc lsv (rest)))
    (h : g_push pc1 ls st μ (g_lda ls i) = some (.inl c')) (k : gWf p l e R s m args below meth c Q A D ad cI cJ c'.1 c'.2.1 c'.2.2.1 c'.2.2.2) : gWf p l e R s m args below meth c Q A D ad cI cJ pc ls st μ := by
  obtain ⟨v, h1, rfl⟩ := g_push_inv h
  unfold g_lda at h1
  split at h1
  · rename_i r ha
    cases h1
    intro H locs lsv hP hS hl
    have e : lsv[i]? = some (.val (gval ad (some (.inr (.inr r))))) := g_cl_at hl (by unfold g_at; rw [ha])
    rcases r with r | r | r
    · exact row e (k H locs lsv hP hS hl)
    · exact row e (k H locs lsv hP hS hl)
    · exact row e (k H locs lsv hP hS hl)
  · cases h1
theorem s_sti {i : Nat} (row : ∀ {H : Heap} {locs : List Loc} {lsv : Array Slot} {rest : List Value} {lv : List (Nat × Value)} {nL : Nat} {x : Int32}, lv_has lsv nL lv → i < nL → (∀ ls' : Array Slot, lv_has ls' nL ((i, .int x) :: lv.filter (fun q => !(q.1 == i) && !(q.1 + 1 == i && q.2.category == 2))) → W p l e R s m args below meth c H locs 0 0 Q (F0 m pc1 ls' rest)) → W p l e R s m args below meth c H locs 0 0 Q (F0 m pc lsv (.int x :: rest)))
    (h : g_sti pc1 ls st μ i = some (.inl c')) (k : gWf p l e R s m args below meth c Q A D ad cI cJ c'.1 c'.2.1 c'.2.2.1 c'.2.2.2) : gWf p l e R s m args below meth c Q A D ad cI cJ pc ls st μ := by
  unfold g_sti at h
  split at h
  · split at h
    · rename_i a r hi
      cases h
      intro H locs lsv hP hS hl
      refine row hl hi fun ls' hl' => k H locs ls' hP hS ?_
      rw [List.length_set]
      exact g_cl_st1 (v := gI a) (a := a) (r := .inl (0, 0)) (Or.inl rfl) hl'
    · cases h
  · cases h
theorem s_stl {i : Nat} (row : ∀ {H : Heap} {locs : List Loc} {lsv : Array Slot} {rest : List Value} {lv : List (Nat × Value)} {nL : Nat} {x : Int64}, lv_has lsv nL lv → i + 1 < nL → (∀ ls' : Array Slot, lv_has ls' nL ((i, .long x) :: lv.filter (fun q => !(q.1 == i) && (!(q.1 == i + 1) && !(q.1 + 1 == i && q.2.category == 2)))) → W p l e R s m args below meth c H locs 0 0 Q (F0 m pc1 ls' rest)) → W p l e R s m args below meth c H locs 0 0 Q (F0 m pc lsv (.long x :: rest)))
    (h : g_stl pc1 ls st μ i = some (.inl c')) (k : gWf p l e R s m args below meth c Q A D ad cI cJ c'.1 c'.2.1 c'.2.2.1 c'.2.2.2) : gWf p l e R s m args below meth c Q A D ad cI cJ pc ls st μ := by
  unfold g_stl at h
  split at h
  · split at h
    · rename_i a r hi
      cases h
      intro H locs lsv hP hS hl
      refine row hl hi fun ls' hl' => k H locs ls' hP hS ?_
      rw [List.length_set, List.length_set]
      exact g_cl_st2 hl'
    · cases h
  · cases h
theorem s_sta {i : Nat} (row : ∀ {H : Heap} {locs : List Loc} {lsv : Array Slot} {rest : List Value} {lv : List (Nat × Value)} {nL : Nat} {x : Nat}, lv_has lsv nL lv → i < nL → (∀ ls' : Array Slot, lv_has ls' nL ((i, .ref x) :: lv.filter (fun q => !(q.1 == i) && !(q.1 + 1 == i && q.2.category == 2))) → W p l e R s m args below meth c H locs 0 0 Q (F0 m pc1 ls' rest)) → W p l e R s m args below meth c H locs 0 0 Q (F0 m pc lsv (.ref x :: rest)))
    (h : g_sta pc1 ls st μ i = some (.inl c')) (k : gWf p l e R s m args below meth c Q A D ad cI cJ c'.1 c'.2.1 c'.2.2.1 c'.2.2.2) : gWf p l e R s m args below meth c Q A D ad cI cJ pc ls st μ := by
  unfold g_sta at h
  split at h
  · split at h
    · rename_i q r hi
      cases h
      intro H locs lsv hP hS hl
      have key : ∀ x : Nat, gval ad (some (.inr (.inr q))) = .ref x → W p l e R s m args below meth c H locs 0 0 Q (F0 m pc lsv ((some (.inr (.inr q)) :: r).map (gval ad))) := by
        intro x hx
        rw [List.map_cons, hx]
        refine row hl hi fun ls' hl' => k H locs ls' hP hS ?_
        rw [List.length_set]
        exact g_cl_st1 (v := some (.inr (.inr q))) (a := 0) (r := q) (Or.inr rfl) (by rw [hx]; exact hl')
      rcases q with q | q | q
      · exact key _ rfl
      · exact key _ rfl
      · exact key _ rfl
    · cases h
  · cases h
theorem s_inc {i : Nat} {n : Int} (row : ∀ {H : Heap} {locs : List Loc} {lsv : Array Slot} {rest : List Value} {lv : List (Nat × Value)} {nL kk : Nat} {x : Int32}, lv_has lsv nL lv → lv[kk]? = some (i, .int x) → i < nL → (∀ ls' : Array Slot, lv_has ls' nL ((i, .int (x + Int32.ofInt n)) :: lv.filter (fun q => !(q.1 == i) && !(q.1 + 1 == i && q.2.category == 2))) → W p l e R s m args below meth c H locs 0 0 Q (F0 m pc1 ls' rest)) → W p l e R s m args below meth c H locs 0 0 Q (F0 m pc lsv (rest)))
    (h : g_inc pc1 ls st μ i n = some (.inl c')) (k : gWf p l e R s m args below meth c Q A D ad cI cJ c'.1 c'.2.1 c'.2.2.1 c'.2.2.2) : gWf p l e R s m args below meth c Q A D ad cI cJ pc ls st μ := by
  unfold g_inc at h
  split at h
  · rename_i a ha
    cases h
    intro H locs lsv hP hS hl
    have hm : (i, Value.int (Int32.ofInt a)) ∈ g_cl ad ls := g_cl_mem.mpr (by unfold g_at; rw [ha])
    obtain ⟨kk, hkk⟩ := List.getElem?_of_mem hm
    have hi : i < ls.length := (List.getElem?_eq_some_iff.mp ha).1
    refine row hl hkk hi fun ls' hl' => k H locs ls' hP hS ?_
    rw [List.length_set]
    refine g_cl_st1 (v := gI (Int32.ofInt a + Int32.ofInt n).toInt) (a := (Int32.ofInt a + Int32.ofInt n).toInt) (r := .inl (0, 0)) (Or.inl rfl) ?_
    rw [gval_I]
    exact hl'
  · cases h
theorem g_to_inv {pc0 : Nat} {off : Int} (h : g_to pc0 off ls st μ = some (.inl c')) : ∃ tgt : Nat, (pc0 : Int) + off = (tgt : Int) ∧ c' = (tgt, ls, st, μ) := by
  unfold g_to at h
  split at h
  · rename_i hz
    cases h
    exact ⟨_, (Int.toNat_of_nonneg hz).symm, rfl⟩
  · cases h
theorem s_goto {off : Int} (row : ∀ {H : Heap} {locs : List Loc} {lsv : Array Slot} {rest : List Value} {tgt : Nat}, (pc : Int) + off = (tgt : Int) → W p l e R s m args below meth c H locs 0 0 Q (F0 m tgt lsv (rest)) → W p l e R s m args below meth c H locs 0 0 Q (F0 m pc lsv (rest)))
    (h : g_to pc off ls st μ = some (.inl c')) (k : gWf p l e R s m args below meth c Q A D ad cI cJ c'.1 c'.2.1 c'.2.2.1 c'.2.2.2) : gWf p l e R s m args below meth c Q A D ad cI cJ pc ls st μ := by
  obtain ⟨tgt, h1, rfl⟩ := g_to_inv h
  intro H locs lsv hP hS hl
  exact row h1 (k H locs lsv hP hS hl)
def gop (cd : ClassFile.Cond) (x y : Int32) : Prop := match cd with
  | .eq => x = y
  | .ne => ¬ x = y
  | .lt => x < y
  | .ge => y ≤ x
  | .gt => y < x
  | .le => x ≤ y
theorem gop_iff {cd : ClassFile.Cond} {a b : Int} (ha : (Int32.ofInt a).toInt = a) (hb : (Int32.ofInt b).toInt = b) : gop cd (Int32.ofInt a) (Int32.ofInt b) ↔ g_cmp cd a b = true := by
  cases cd
  · exact (g_eq ha hb).trans (by simp [g_cmp])
  · exact (not_congr (g_eq ha hb)).trans (by simp [g_cmp])
  · exact (g_lt ha hb).trans (by simp [g_cmp])
  · exact (g_le hb ha).trans (by simp [g_cmp])
  · exact (g_lt hb ha).trans (by simp [g_cmp])
  · exact (g_le ha hb).trans (by simp [g_cmp])
theorem s_if {off : Int} {cd : ClassFile.Cond} (hok : gokl st) (row : ∀ {H : Heap} {locs : List Loc} {lsv : Array Slot} {rest : List Value} {x : Int32} {tgt : Nat}, (pc : Int) + off = (tgt : Int) → (gop cd x 0 → W p l e R s m args below meth c H locs 0 0 Q (F0 m tgt lsv (rest))) → (¬ gop cd x 0 → W p l e R s m args below meth c H locs 0 0 Q (F0 m (pc + 3) lsv (rest))) → W p l e R s m args below meth c H locs 0 0 Q (F0 m pc lsv (.int x :: rest)))
    (h : g_if pc cd off ls st μ = some (.inl c')) (k : gWf p l e R s m args below meth c Q A D ad cI cJ c'.1 c'.2.1 c'.2.2.1 c'.2.2.2) : gWf p l e R s m args below meth c Q A D ad cI cJ pc ls st μ := by
  unfold g_if at h
  split at h
  · rename_i a r
    have ha : (Int32.ofInt a).toInt = a := hok _ List.mem_cons_self
    have e := gop_iff (cd := cd) (b := 0) ha rfl
    split at h
    · rename_i hz
      have ht := (Int.toNat_of_nonneg hz).symm
      split at h
      · rename_i hc
        cases h
        intro H locs lsv hP hS hl
        exact row ht (fun _ => k H locs lsv hP hS hl) (fun q => absurd (e.mpr hc) q)
      · rename_i hc
        cases h
        intro H locs lsv hP hS hl
        exact row ht (fun q => absurd (e.mp q) hc) (fun _ => k H locs lsv hP hS hl)
    · cases h
  · cases h
theorem s_if2 {off : Int} {cd : ClassFile.Cond} (hok : gokl st) (row : ∀ {H : Heap} {locs : List Loc} {lsv : Array Slot} {rest : List Value} {x y : Int32} {tgt : Nat}, (pc : Int) + off = (tgt : Int) → (gop cd x y → W p l e R s m args below meth c H locs 0 0 Q (F0 m tgt lsv (rest))) → (¬ gop cd x y → W p l e R s m args below meth c H locs 0 0 Q (F0 m (pc + 3) lsv (rest))) → W p l e R s m args below meth c H locs 0 0 Q (F0 m pc lsv (.int y :: .int x :: rest)))
    (h : g_if2 pc cd off ls st μ = some (.inl c')) (k : gWf p l e R s m args below meth c Q A D ad cI cJ c'.1 c'.2.1 c'.2.2.1 c'.2.2.2) : gWf p l e R s m args below meth c Q A D ad cI cJ pc ls st μ := by
  unfold g_if2 at h
  split at h
  · rename_i b a r
    have hb : (Int32.ofInt b).toInt = b := hok _ List.mem_cons_self
    have ha : (Int32.ofInt a).toInt = a := hok (some (.inl a)) (List.mem_cons_of_mem _ List.mem_cons_self)
    have e := gop_iff (cd := cd) ha hb
    split at h
    · rename_i hz
      have ht := (Int.toNat_of_nonneg hz).symm
      split at h
      · rename_i hc
        cases h
        intro H locs lsv hP hS hl
        exact row ht (fun _ => k H locs lsv hP hS hl) (fun q => absurd (e.mpr hc) q)
      · rename_i hc
        cases h
        intro H locs lsv hP hS hl
        exact row ht (fun q => absurd (e.mp q) hc) (fun _ => k H locs lsv hP hS hl)
    · cases h
  · cases h
end GROWS
