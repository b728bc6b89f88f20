/-- the fields: their descriptors, sorts and places -/
def gfd_ok (ci j : Nat) : Bool := match gfd ci j with
  | some (0, _, _) => decide (parseFieldDescriptor ((gcl ci).2.1 j).2.2.1 = some .int) && decide (((gcl ci).2.1 j).2.2.2 = false)
  | some (1, _, _) => decide (parseFieldDescriptor ((gcl ci).2.1 j).2.2.1 = some .boolean) && decide (((gcl ci).2.1 j).2.2.2 = false)
  | some (2, _, _) => decide (parseFieldDescriptor ((gcl ci).2.1 j).2.2.1 = some .long) && decide (((gcl ci).2.1 j).2.2.2 = false)
  | some (_, _, _) => true
  | none => false
theorem gfd_all : ((List.range 11).all fun ci => decide ((gFD.getD ci []).length = (gcl ci).2.2) && ((List.range (gcl ci).2.2).all fun j => gfd_ok ci j)) = true := by decide +kernel
def gly_ok (k : Nat) : Bool := match gLY[k]? with
  | some (0, ci) => decide (ci < 11) && ((gFD.getD ci []).all fun d => match d with
    | (3, o, x) => decide (gLY[k + o]? = some (0, x))
    | (4, o, x) => decide (gLY[k + o]? = some (1, x))
    | (5, o, x) => decide (gLY[k + o]? = some (2, x))
    | _ => true)
  | some (1, n) => decide (n < 65536)
  | some (2, n) => decide (n < 65536)
  | _ => false
theorem gly_all : ((List.range gLY.length).all gly_ok) = true := by decide +kernel
theorem gi_0 : ∀ w ∈ u_ws RX0 TX0 5, w ∈ tables_1 := by decide +kernel
theorem gi_1 : ∀ w ∈ u_ws RX1 TX1 4, w ∈ tables_1 := by decide +kernel
theorem gi_2 : ∀ w ∈ u_ws RX2 TX2 11, w ∈ tables_1 := by decide +kernel
theorem gi_3 : ∀ w ∈ u_ws RX3 TX3 8, w ∈ tables_1 := by decide +kernel
theorem gi_4 : ∀ w ∈ u_ws RX4 TX4 13, w ∈ tables_1 := by decide +kernel
theorem gi_5 : ∀ w ∈ u_ws RX5 TX5 9, w ∈ tables_1 := by decide +kernel
theorem gi_6 : ∀ w ∈ u_ws RX6 TX6 8, w ∈ tables_1 := by decide +kernel
theorem gi_7 : ∀ w ∈ u_ws RX7 TX7 7, w ∈ tables_1 := by decide +kernel
theorem gi_8 : ∀ w ∈ u_ws RX8 TX8 19, w ∈ tables_1 := by decide +kernel
theorem gi_9 : ∀ w ∈ u_ws RX9 TX9 5, w ∈ tables_1 := by decide +kernel
theorem gi_10 : ∀ w ∈ u_ws RX10 TX10 39, w ∈ tables_1 := by decide +kernel
theorem gi_good : ∀ (C : String) (T : u_T) (N : Nat) (w : Cond), w ∈ u_ws C T N → goodWord w = true := by
  intro C T N w hw
  obtain ⟨k, -, rfl⟩ := List.mem_map.mp hw
  unfold u_lay
  split <;> rfl
theorem gi_all : ∀ (ci : Nat) (q : vw_C), gCL[ci]? = some q → (∀ w ∈ u_ws q.1 q.2.1 q.2.2, w ∈ gTB) ∧ (∀ a, a < q.2.2 → ∀ b, b < q.2.2 → a ≠ b → (q.2.1 a).2.1 ≠ (q.2.1 b).2.1) ∧ ∃ ty : Nat → FieldType, ∀ k, k < q.2.2 → parseFieldDescriptor (q.2.1 k).2.2.1 = some (ty k) := by
  intro ci q h
  have hc : ci < 11 := by
    have := (List.getElem?_eq_some_iff.mp h).1
    exact this
  have key : ∀ (C : String) (T : u_T) (N : Nat), (∀ w ∈ u_ws C T N, w ∈ tables_1) → ∀ w ∈ u_ws C T N, w ∈ gTB := fun C T N hi w hw => gTB_in (hi w hw) (gi_good C T N w hw)
  rcases (show ci = 0 ∨ ci = 1 ∨ ci = 2 ∨ ci = 3 ∨ ci = 4 ∨ ci = 5 ∨ ci = 6 ∨ ci = 7 ∨ ci = 8 ∨ ci = 9 ∨ ci = 10 by omega) with rfl | rfl | rfl | rfl | rfl | rfl | rfl | rfl | rfl | rfl | rfl
  · cases h; exact ⟨key _ _ _ gi_0, nmX0, tyX0, tyX0_ok⟩
  · cases h; exact ⟨key _ _ _ gi_1, nmX1, tyX1, tyX1_ok⟩
  · cases h; exact ⟨key _ _ _ gi_2, nmX2, tyX2, tyX2_ok⟩
  · cases h; exact ⟨key _ _ _ gi_3, nmX3, tyX3, tyX3_ok⟩
  · cases h; exact ⟨key _ _ _ gi_4, nmX4, tyX4, tyX4_ok⟩
  · cases h; exact ⟨key _ _ _ gi_5, nmX5, tyX5, tyX5_ok⟩
  · cases h; exact ⟨key _ _ _ gi_6, nmX6, tyX6, tyX6_ok⟩
  · cases h; exact ⟨key _ _ _ gi_7, nmX7, tyX7, tyX7_ok⟩
  · cases h; exact ⟨key _ _ _ gi_8, nmX8, tyX8, tyX8_ok⟩
  · cases h; exact ⟨key _ _ _ gi_9, nmX9, tyX9, tyX9_ok⟩
  · cases h; exact ⟨key _ _ _ gi_10, nmX10, tyX10, tyX10_ok⟩
/-! the same, as the steps want it -/
theorem glook {α : Type} {l : List (Nat × α)} {k : Nat} {v : α} (h : l.lookup k = some v) : (k, v) ∈ l := by
  induction l with
  | nil => cases h
  | cons x l ih =>
    obtain ⟨a, b⟩ := x
    rw [List.lookup_cons] at h
    by_cases hk : k = a
    · subst hk
      simp at h
      subst h
      exact List.mem_cons_self
    · have : (k == a) = false := by simp [hk]
      rw [this] at h
      exact List.mem_cons_of_mem _ (ih h)
theorem gtab_in {α : Type} {T : List (List α)} {o : Nat} {x : α} (h : x ∈ T.getD o []) : o < T.length := by
  rcases Nat.lt_or_ge o T.length with q | q
  · exact q
  · rw [List.getD_eq_getElem?_getD, List.getElem?_eq_none q] at h
    cases h
theorem gfl_spec {o idx ci j nest p : Nat} (h : gfl o idx = some (ci, j, nest, p)) : gCL[ci]? = some (gcl ci) ∧ j < (gcl ci).2.2 ∧ ((gcl ci).2.1 j).1 = (gcl ci).1 ∧ ((nest = 0 ∧ Cond.fieldLink (gown o) idx (gcl ci).1 ((gcl ci).2.1 j).2.1 ((gcl ci).2.1 j).2.2.1 ∈ gTB) ∨ Cond.fieldLinkNest (gown o) idx (gcl ci).1 ((gcl ci).2.1 j).2.1 ((gcl ci).2.1 j).2.2.1 "GatedDevices" ∈ gNest) := by
  have h1 := glook h
  have h2 := List.all_eq_true.mp (List.all_eq_true.mp gfl_all o (List.mem_range.mpr (gtab_in h1))) _ h1
  simp only [gfl_ok, Bool.and_eq_true, decide_eq_true_eq] at h2
  obtain ⟨⟨⟨a, b⟩, c⟩, d⟩ := h2
  refine ⟨?_, b, c, ?_⟩
  · unfold gcl
    rw [List.getD_eq_getElem?_getD, List.getElem?_eq_getElem a]
    rfl
  · unfold gflw at d
    by_cases hn : nest = 0
    · rw [if_pos hn] at d
      exact Or.inl ⟨hn, gTB_at p d rfl⟩
    · rw [if_neg hn] at d
      exact Or.inr (gNest_at p d rfl)
theorem gmt_spec {M : Nat} (h : M < gMT.length) : plainName (mY M).cls = true ∧ (mY M).cls = gown (mO M) ∧ (mY M).cls ≠ "java/lang/invoke/MethodHandle" ∧ (mY M).cls ≠ "java/lang/invoke/VarHandle" ∧ (parseMethodDescriptor (mY M).desc).map (fun d => d.parameters.length) = some (g_np M) ∧ Cond.code (mY M) (mB M) (mL M) (mT M) ∈ gTB ∧ Cond.initialized (mY M).cls ∈ gTB ∧ gret (mT M) < 4 := by
  have h2 := gmt_all M (List.mem_range.mpr (by rw [← gMT_len]; exact h))
  simp only [gmt_ok, Bool.and_eq_true, decide_eq_true_eq] at h2
  obtain ⟨⟨⟨⟨⟨⟨⟨a, b⟩, c⟩, d⟩, e⟩, f⟩, g⟩, i⟩ := h2
  refine ⟨a, b, c, d, ?_, gTB_at _ f rfl, gTB_at _ g rfl, i⟩
  unfold g_np
  cases hq : parseMethodDescriptor (mY M).desc with
  | none => rw [hq] at e; cases e
  | some q => rfl
theorem gml_spec {o idx M s a b c : Nat} (h : gml o idx = some (M, s, a, b, c)) : M < gMT.length ∧ s < 4 ∧ ((s = 0 ∨ s = 2) ∧ Cond.methodLink (gown o) idx (mY M) ∈ gTB ∨ (s = 1 ∨ s = 3) ∧ Cond.methodLinkNest (gown o) idx (mY M) "GatedDevices" ∈ gNest) ∧ (s < 2 ∧ Cond.instanceMethod (mY M) ∈ gTB ∧ Cond.selects (mY M).cls (mY M) (mY M) ∈ gTB ∨ 2 ≤ s ∧ Cond.static (mY M) ∈ gTB) := by
  have h1 := glook h
  have h2 := gml_all o (gtab_in h1) _ h1
  simp only [gml_ok, Bool.and_eq_true, decide_eq_true_eq, Bool.or_eq_true] at h2
  obtain ⟨⟨⟨⟨h3, h4⟩, h5⟩, h6⟩, h7⟩ := h2
  refine ⟨h3, h4, ?_, ?_⟩
  · unfold gmlw at h5
    by_cases hn : s = 0 ∨ s = 2
    · rw [if_pos hn] at h5
      exact Or.inl ⟨hn, gTB_at _ h5 rfl⟩
    · rw [if_neg hn] at h5
      exact Or.inr ⟨by omega, gNest_at _ h5 rfl⟩
  · by_cases hs : s < 2
    · rw [if_pos hs] at h6
      refine Or.inl ⟨hs, gTB_at _ h6 rfl, ?_⟩
      rcases h7 with h7 | h7
      · omega
      · by_cases hr : c % 2 = 0
        · rw [if_pos hr] at h7
          exact gTB_at _ (of_decide_eq_true h7) rfl
        · rw [if_neg hr] at h7
          have h8 := of_decide_eq_true h7
          cases hq : lw_privs[c / 2]? with
          | none => rw [hq] at h8; cases h8
          | some q =>
            rw [hq] at h8
            have h9 : q.1 = mY M := Option.some.inj h8
            refine List.mem_filter.mpr ⟨List.mem_append_left _ ?_, rfl⟩
            unfold k2_sels
            exact List.mem_map.mpr ⟨q, List.mem_of_getElem? hq, by rw [h9]⟩
    · rw [if_neg hs] at h6
      exact Or.inr ⟨by omega, gTB_at _ h6 rfl⟩
theorem gmx_spec {o idx w p : Nat} (h : gmx o idx = some (w, p)) : Cond.methodLink (gown o) idx (if w = 0 then Lib.Math.min.name else Lib.Math.max.name) ∈ gTB := by
  have h1 := glook h
  have h2 := List.all_eq_true.mp (List.all_eq_true.mp gmx_all o (List.mem_range.mpr (gtab_in h1))) _ h1
  simp only [gmx_ok, decide_eq_true_eq] at h2
  exact gTB_at _ h2 rfl
theorem gmath_ws : Cond.static Lib.Math.min.name ∈ gTB ∧ Cond.static Lib.Math.max.name ∈ gTB ∧ Cond.initialized "java/lang/Math" ∈ gTB ∧ Cond.code Lib.Math.min.name Lib.Math.min.code 2 (some .int) ∈ gTB ∧ Cond.code Lib.Math.max.name Lib.Math.max.code 2 (some .int) ∈ gTB :=
  ⟨gTB_at 482 (by decide +kernel) rfl, gTB_at 612 (by decide +kernel) rfl, gTB_at 12 (by decide +kernel) rfl, gTB_at 483 (by decide +kernel) rfl, gTB_at 613 (by decide +kernel) rfl⟩
theorem gkc_spec {o idx p : Nat} {v : Int} (h : gkc o idx = some (v, p)) : Cond.constant (gown o) idx (Int32.ofInt v) ∈ gTB := by
  have h1 := glook h
  have h2 := List.all_eq_true.mp (List.all_eq_true.mp gkc_all o (List.mem_range.mpr (gtab_in h1))) _ h1
  simp only [Bool.and_eq_true, decide_eq_true_eq] at h2
  exact gTB_at _ h2.1 h2.2
theorem gkl_spec {o idx p : Nat} {v : Int} (h : gkl o idx = some (v, p)) : Cond.constantLong (gown o) idx (Int64.ofInt v) ∈ gTB := by
  have h1 := glook h
  have h2 := List.all_eq_true.mp (List.all_eq_true.mp gkl_all o (List.mem_range.mpr (gtab_in h1))) _ h1
  simp only [Bool.and_eq_true, decide_eq_true_eq] at h2
  exact gTB_at _ h2.1 h2.2
theorem gfd_spec {ci j t o x : Nat} (hc : ci < 11) (h : gfd ci j = some (t, o, x)) : j < (gcl ci).2.2 ∧ (t = 0 → parseFieldDescriptor ((gcl ci).2.1 j).2.2.1 = some .int ∧ ((gcl ci).2.1 j).2.2.2 = false) ∧ (t = 1 → parseFieldDescriptor ((gcl ci).2.1 j).2.2.1 = some .boolean ∧ ((gcl ci).2.1 j).2.2.2 = false) ∧ (t = 2 → parseFieldDescriptor ((gcl ci).2.1 j).2.2.1 = some .long ∧ ((gcl ci).2.1 j).2.2.2 = false) := by
  have h2 := List.all_eq_true.mp gfd_all ci (List.mem_range.mpr hc)
  simp only [Bool.and_eq_true, decide_eq_true_eq] at h2
  have hj : j < (gcl ci).2.2 := by
    rw [← h2.1]
    exact (List.getElem?_eq_some_iff.mp h).1
  have h3 := List.all_eq_true.mp h2.2 j (List.mem_range.mpr hj)
  refine ⟨hj, ?_, ?_, ?_⟩
  · rintro rfl
    rw [gfd_ok, h] at h3
    simpa using h3
  · rintro rfl
    rw [gfd_ok, h] at h3
    simpa using h3
  · rintro rfl
    rw [gfd_ok, h] at h3
    simpa using h3
theorem gly_spec {k ci : Nat} (h : gLY[k]? = some (0, ci)) : ci < 11 ∧ ∀ j t o x, gfd ci j = some (t, o, x) → (t = 3 → gLY[k + o]? = some (0, x)) ∧ (t = 4 → gLY[k + o]? = some (1, x)) ∧ (t = 5 → gLY[k + o]? = some (2, x)) := by
  have hk := (List.getElem?_eq_some_iff.mp h).1
  have h2 := List.all_eq_true.mp gly_all k (List.mem_range.mpr hk)
  rw [gly_ok, h] at h2
  simp only [Bool.and_eq_true, decide_eq_true_eq] at h2
  refine ⟨h2.1, fun j t o x hj => ?_⟩
  have h3 := List.all_eq_true.mp h2.2 _ (List.mem_of_getElem? hj)
  refine ⟨?_, ?_, ?_⟩
  · rintro rfl
    simpa using h3
  · rintro rfl
    simpa using h3
  · rintro rfl
    simpa using h3
theorem gly_len {k t n : Nat} (h : gLY[k]? = some (t, n)) (ht : t = 1 ∨ t = 2) : n < 65536 := by
  have hk := (List.getElem?_eq_some_iff.mp h).1
  have h2 := List.all_eq_true.mp gly_all k (List.mem_range.mpr hk)
  rcases ht with rfl | rfl
  · rw [gly_ok, h] at h2
    simpa using h2
  · rw [gly_ok, h] at h2
    simpa using h2
