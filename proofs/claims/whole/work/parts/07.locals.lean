/-! values, cells, locals of the JVM for those of the small machine -/
def gval (ad : Nat → Nat) (v : gv) : Value := match v with
  | some (.inl a) => .int (Int32.ofInt a)
  | some (.inr (.inl a)) => .long (Int64.ofInt a)
  | some (.inr (.inr (.inl (_, k)))) => .ref (ad k)
  | some (.inr (.inr (.inr (.inl (_, k))))) => .ref (ad k)
  | some (.inr (.inr (.inr (.inr (_, k))))) => .ref (ad k)
  | none => .int 0
def gfval (ad : Nat → Nat) (μ : gM) (k j : Nat) (d : Nat × Nat × Nat) : Value := match d.1 with
  | 0 => .int (Int32.ofInt (μ k j))
  | 1 => .int (Int32.ofInt (μ k j))
  | 2 => .long (Int64.ofInt (μ k j))
  | _ => .ref (ad (k + d.2.1))
def gent (ad : Nat → Nat) (cI cJ : ClassId) (μ : gM) (k : Nat) : va_E := match gLY[k]? with
  | some (0, ci) => .inr (ci, (gFD.getD ci []).mapIdx (gfval ad μ k))
  | some (1, n) => .inl (cI, n, .inl (fun j => Int32.ofInt (μ k j)))
  | some (_, n) => .inl (cJ, n, .inr (.inl (fun j => Int64.ofInt (μ k j))))
  | none => .inr (0, [])
def gws (ad : Nat → Nat) (cI cJ : ClassId) (μ : gM) : va_W := (List.range gLY.length).map (fun k => (ad k, gent ad cI cJ μ k))
theorem gws_at {ad : Nat → Nat} {cI cJ : ClassId} {μ : gM} {k : Nat} (h : k < gLY.length) : (gws ad cI cJ μ)[k]? = some (ad k, gent ad cI cJ μ k) := by
  simp [gws, h]
theorem gent_congr {ad : Nat → Nat} {cI cJ : ClassId} {μ μ' : gM} {k : Nat} (h : ∀ b, μ' k b = μ k b) : gent ad cI cJ μ' k = gent ad cI cJ μ k := by
  have e : μ' k = μ k := funext h
  have e2 : gfval ad μ' k = gfval ad μ k := by
    funext j d
    simp only [gfval, e]
  unfold gent
  rw [e, e2]
theorem gws_set {ad : Nat → Nat} {cI cJ : ClassId} {μ μ' : gM} {k : Nat} (h : ∀ j, j ≠ k → ∀ b, μ' j b = μ j b) : (gws ad cI cJ μ).set k (ad k, gent ad cI cJ μ' k) = gws ad cI cJ μ' := by
  apply List.ext_getElem?
  intro i
  rw [List.getElem?_set]
  have hL : (gws ad cI cJ μ).length = gLY.length := by simp [gws]
  have hL' : (gws ad cI cJ μ').length = gLY.length := by simp [gws]
  by_cases hi : k = i
  · subst hi
    rw [if_pos rfl]
    by_cases hk : k < gLY.length
    · rw [gws_at hk, if_pos (by rw [hL]; exact hk)]
    · rw [if_neg (by rw [hL]; exact hk), List.getElem?_eq_none (by rw [hL']; exact Nat.not_lt.mp hk)]
  · rw [if_neg hi]
    by_cases hk : i < gLY.length
    · rw [gws_at hk, gws_at hk, gent_congr (h i (fun q => hi q.symm))]
    · rw [List.getElem?_eq_none (by rw [hL]; exact Nat.not_lt.mp hk), List.getElem?_eq_none (by rw [hL']; exact Nat.not_lt.mp hk)]
theorem gS_ne {μ : gM} {k : Nat} {i v : Int} : ∀ j, j ≠ k → ∀ b, gS μ k i v j b = μ j b := fun j hj b => by
  unfold gS
  rw [if_neg (fun h => hj h.1)]
def gok (v : gv) : Prop := match v with
  | some (.inl a) => (Int32.ofInt a).toInt = a
  | some (.inr (.inl a)) => (Int64.ofInt a).toInt = a
  | some (.inr (.inr (.inl (c, k)))) => gLY[k]? = some (0, c)
  | some (.inr (.inr (.inr (.inl (n, k))))) => gLY[k]? = some (1, n)
  | some (.inr (.inr (.inr (.inr (n, k))))) => gLY[k]? = some (2, n)
  | none => True
def gokl (ls : List gv) : Prop := ∀ v ∈ ls, gok v
def gLong (k : Nat) (i : Int) : Bool := match gLY[k]? with
  | some (0, ci) => match gfd ci i.toNat with
    | some (2, _, _) => true
    | _ => false
  | some (2, _) => true
  | _ => false
def gokm (μ : gM) : Prop := ∀ (k : Nat) (i : Int), if gLong k i = true then (Int64.ofInt (μ k i)).toInt = μ k i else (Int32.ofInt (μ k i)).toInt = μ k i
theorem gokm_set {μ : gM} {k : Nat} {i v : Int} (h : gokm μ) (hv : if gLong k i = true then (Int64.ofInt v).toInt = v else (Int32.ofInt v).toInt = v) : gokm (gS μ k i v) := by
  intro a b
  unfold gS
  by_cases hab : a = k ∧ b = i
  · obtain ⟨rfl, rfl⟩ := hab
    simpa using hv
  · simp only [if_neg hab]
    exact h a b
theorem gok32 (x : Int32) : (Int32.ofInt x.toInt).toInt = x.toInt := by rw [Int32.ofInt_toInt]
theorem gok64 (x : Int64) : (Int64.ofInt x.toInt).toInt = x.toInt := by rw [Int64.ofInt_toInt]
/-! locals -/
def g_at (ad : Nat → Nat) (ls : List gv) (i : Nat) : Option Value := match ls[i]? with
  | some (some (.inl a)) => some (.int (Int32.ofInt a))
  | some (some (.inr (.inl a))) => match ls[i + 1]? with
    | some none => some (.long (Int64.ofInt a))
    | _ => none
  | some (some (.inr (.inr r))) => some (gval ad (some (.inr (.inr r))))
  | _ => none
def g_cl (ad : Nat → Nat) (ls : List gv) : List (Nat × Value) := (List.range ls.length).filterMap (fun i => (g_at ad ls i).map (fun w => (i, w)))
theorem g_cl_mem {ad : Nat → Nat} {ls : List gv} {i : Nat} {w : Value} : (i, w) ∈ g_cl ad ls ↔ g_at ad ls i = some w := by
  unfold g_cl
  rw [List.mem_filterMap]
  constructor
  · rintro ⟨j, -, hj⟩
    cases hg : g_at ad ls j with
    | none => rw [hg] at hj; cases hj
    | some u =>
      rw [hg] at hj
      cases hj
      exact hg
  · intro h
    refine ⟨i, List.mem_range.mpr ?_, by rw [h]; rfl⟩
    rcases Nat.lt_or_ge i ls.length with q | q
    · exact q
    · unfold g_at at h
      rw [List.getElem?_eq_none q] at h
      cases h
theorem g_cl_at {ad : Nat → Nat} {ls : List gv} {lsv : Array Slot} {n i : Nat} {w : Value} (h : lv_has lsv n (g_cl ad ls)) (hi : g_at ad ls i = some w) : lsv[i]? = some (.val w) := h.2.2 (i, w) (g_cl_mem.mpr hi)
theorem g_at_cat {ad : Nat → Nat} {ls : List gv} {i : Nat} {w : Value} (h : g_at ad ls i = some w) (hw : w.category = 2) : ∃ a, ls[i]? = some (some (.inr (.inl a))) ∧ ls[i + 1]? = some none := by
  unfold g_at at h
  split at h
  · cases h; cases hw
  · rename_i a ha
    split at h
    · rename_i hb
      exact ⟨a, ha, hb⟩
    · cases h
  · rename_i r hr
    cases h
    rcases r with r | r | r <;> cases hw
  · cases h
theorem g_cl_st1 {ad : Nat → Nat} {ls : List gv} {lsv : Array Slot} {n i : Nat} {v : gv} {a : Int} {r : (Nat × Nat) ⊕ ((Nat × Nat) ⊕ (Nat × Nat))} (hv : v = some (.inl a) ∨ v = some (.inr (.inr r))) (h : lv_has lsv n ((i, gval ad v) :: (g_cl ad ls).filter (fun q => !(q.1 == i) && !(q.1 + 1 == i && q.2.category == 2)))) : lv_has lsv n (g_cl ad (ls.set i v)) := by
  refine ⟨h.1, h.2.1, fun q hq => h.2.2 q ?_⟩
  obtain ⟨k, u⟩ := q
  have hk := g_cl_mem.mp hq
  have hvn : v ≠ none := by rcases hv with rfl | rfl <;> simp
  by_cases hki : k = i
  · subst hki
    have hlt : k < ls.length := by
      rcases Nat.lt_or_ge k ls.length with q | q
      · exact q
      · unfold g_at at hk
        rw [List.getElem?_eq_none (by simp; exact q)] at hk
        cases hk
    have e : (ls.set k v)[k]? = some v := by simp [hlt]
    unfold g_at at hk
    rw [e] at hk
    rcases hv with rfl | rfl
    · cases hk
      exact List.mem_cons_self
    · cases hk
      exact List.mem_cons_self
  · have e : (ls.set i v)[k]? = ls[k]? := by rw [List.getElem?_set_ne (fun q => hki q.symm)]
    have hold : g_at ad ls k = some u := by
      unfold g_at at hk ⊢
      rw [e] at hk
      by_cases h1 : k + 1 = i
      · subst h1
        split at hk
        · exact hk
        · rename_i a ha
          exfalso
          split at hk
          · rename_i hb
            rw [List.getElem?_set] at hb
            simp at hb
            exact hvn hb.2
          · cases hk
        · exact hk
        · cases hk
      · rw [List.getElem?_set_ne (fun q => h1 q.symm)] at hk
        exact hk
    refine List.mem_cons_of_mem _ (List.mem_filter.mpr ⟨g_cl_mem.mpr hold, ?_⟩)
    have h1 : (k == i) = false := by simp [hki]
    have h2 : (k + 1 == i && u.category == 2) = false := by
      by_cases h3 : k + 1 = i
      · by_cases h4 : u.category = 2
        · obtain ⟨a, ha, hb⟩ := g_at_cat hk h4
          exfalso
          subst h3
          rw [List.getElem?_set] at hb
          simp at hb
          exact hvn hb.2
        · simp [h4]
      · simp [h3]
    simp only [h1, h2]
    rfl
theorem g_cl_st2 {ad : Nat → Nat} {ls : List gv} {lsv : Array Slot} {n i : Nat} {a : Int} (h : lv_has lsv n ((i, .long (Int64.ofInt a)) :: (g_cl ad ls).filter (fun q => !(q.1 == i) && (!(q.1 == i + 1) && !(q.1 + 1 == i && q.2.category == 2))))) : lv_has lsv n (g_cl ad ((ls.set i (gJ a)).set (i + 1) gX)) := by
  refine ⟨h.1, h.2.1, fun q hq => h.2.2 q ?_⟩
  obtain ⟨k, u⟩ := q
  have hk := g_cl_mem.mp hq
  by_cases hki : k = i
  · subst hki
    have e : ((ls.set k (gJ a)).set (k + 1) gX)[k]? = (ls.set k (gJ a))[k]? := by rw [List.getElem?_set_ne (by omega)]
    unfold g_at at hk
    rw [e, List.getElem?_set] at hk
    simp only [if_true] at hk
    by_cases hlt : k < ls.length
    · rw [if_pos hlt] at hk
      dsimp only [gJ] at hk
      split at hk
      · cases hk
        exact List.mem_cons_self
      · cases hk
    · rw [if_neg hlt] at hk
      cases hk
  · by_cases hki1 : k = i + 1
    · subst hki1
      exfalso
      unfold g_at at hk
      rw [List.getElem?_set] at hk
      simp only [if_true] at hk
      by_cases hlt : i + 1 < (ls.set i (gJ a)).length
      · rw [if_pos hlt] at hk
        cases hk
      · rw [if_neg hlt] at hk
        cases hk
    · have e : ((ls.set i (gJ a)).set (i + 1) gX)[k]? = ls[k]? := by rw [List.getElem?_set_ne (fun q => hki1 q.symm), List.getElem?_set_ne (fun q => hki q.symm)]
      have hno : ∀ b, ((ls.set i (gJ a)).set (i + 1) gX)[k + 1]? = some none → ls[k]? = some (some (.inr (.inl b))) → k + 1 ≠ i := by
        intro b hb hl h3
        subst h3
        rw [List.getElem?_set_ne (by omega), List.getElem?_set] at hb
        simp [gJ] at hb
      have hold : g_at ad ls k = some u := by
        unfold g_at at hk ⊢
        rw [e] at hk
        split at hk
        · exact hk
        · rename_i b hb
          split at hk
          · rename_i hz
            have h3 := hno b hz hb
            rw [List.getElem?_set_ne (by omega), List.getElem?_set_ne (fun q => h3 q.symm)] at hz
            rw [hz]
            exact hk
          · cases hk
        · exact hk
        · cases hk
      refine List.mem_cons_of_mem _ (List.mem_filter.mpr ⟨g_cl_mem.mpr hold, ?_⟩)
      have h1 : (k == i) = false := by simp [hki]
      have h0 : (k == i + 1) = false := by simp [hki1]
      have h2 : (k + 1 == i && u.category == 2) = false := by
        by_cases h3 : k + 1 = i
        · by_cases h4 : u.category = 2
          · obtain ⟨b, hb, hz⟩ := g_at_cat hk h4
            rw [e] at hb
            exact absurd h3 (hno b hz hb)
          · simp [h4]
        · simp [h3]
      simp only [h0, h1, h2]
      rfl
theorem g_at_cons (ad : Nat → Nat) (v : gv) (l : List gv) (k : Nat) : g_at ad (v :: l) (k + 1) = g_at ad l k := by
  simp only [g_at, List.getElem?_cons_succ]
theorem g_at_0 (ad : Nat → Nat) (m k : Nat) : g_at ad (List.replicate m gX) k = none := by
  unfold g_at
  rw [List.getElem?_replicate]
  by_cases h : k < m
  · rw [if_pos h]; rfl
  · rw [if_neg h]
theorem g_args (ad : Nat → Nat) (m : Nat) : ∀ (as : List gv) (o k : Nat) (u : Value), g_at ad (g_exp as ++ List.replicate m gX) k = some u → (o + k, u) ∈ lv_args o (as.map (gval ad)) := by
  intro as
  induction as with
  | nil =>
    intro o k u h
    rw [g_exp, List.nil_append, g_at_0] at h
    cases h
  | cons v as ih =>
    intro o k u h
    have one : ∀ w : gv, g_exp (w :: as) = w :: g_exp as → (gval ad w).category = 1 → (∀ b, w ≠ some (.inr (.inl b))) → g_at ad (g_exp (w :: as) ++ List.replicate m gX) k = some u → (o + k, u) ∈ lv_args o ((w :: as).map (gval ad)) := by
      intro w h1 h2 h3 h
      rw [h1, List.cons_append] at h
      rw [List.map_cons, lv_args, if_neg (by omega)]
      cases k with
      | zero =>
        have hu : u = gval ad w := by
          unfold g_at at h
          rw [List.getElem?_cons_zero] at h
          rcases w with _ | a | a | r
          · cases h
          · cases h; rfl
          · exact absurd rfl (h3 a)
          · cases h; rfl
        rw [hu]
        exact List.mem_cons_self
      | succ k =>
        rw [g_at_cons] at h
        have := ih (o + 1) k u h
        rw [show o + 1 + k = o + (k + 1) by omega] at this
        exact List.mem_cons_of_mem _ this
    rcases v with _ | a | a | r
    · exact one none rfl rfl (by simp) h
    · exact one (some (.inl a)) rfl rfl (by simp) h
    · rw [show g_exp (some (.inr (.inl a)) :: as) = some (.inr (.inl a)) :: none :: g_exp as from rfl, List.cons_append, List.cons_append] at h
      rw [List.map_cons, lv_args, if_pos (show (gval ad (some (.inr (.inl a)))).category = 2 from rfl)]
      cases k with
      | zero =>
        have hu : u = .long (Int64.ofInt a) := by
          unfold g_at at h
          rw [List.getElem?_cons_zero] at h
          dsimp only at h
          rw [List.getElem?_cons_succ, List.getElem?_cons_zero] at h
          cases h; rfl
        rw [hu]
        exact List.mem_cons_self
      | succ k =>
        rw [g_at_cons] at h
        cases k with
        | zero =>
          unfold g_at at h
          rw [List.getElem?_cons_zero] at h
          cases h
        | succ k =>
          rw [g_at_cons] at h
          have := ih (o + 2) k u h
          rw [show o + 2 + k = o + (k + 1 + 1) by omega] at this
          exact List.mem_cons_of_mem _ this
    · refine one (some (.inr (.inr r))) rfl ?_ (by simp) h
      rcases r with r | r | r <;> rfl
theorem g_exp_len (ad : Nat → Nat) : ∀ as : List gv, (lg_sl (as.map (gval ad))).length = (g_exp as).length := by
  intro as
  induction as with
  | nil => rfl
  | cons v as ih =>
    have cons : ∀ (x : Value) (r : List Value), lg_sl (x :: r) = (if x.category = 2 then [Slot.val x, .second] else [.val x]) ++ lg_sl r := fun x r => by simp [lg_sl]
    rw [List.map_cons, cons, List.length_append, ih]
    rcases v with _ | a | a | r
    · show 1 + _ = (g_exp as).length + 1
      omega
    · show 1 + _ = (g_exp as).length + 1
      omega
    · show 2 + _ = (g_exp as).length + 1 + 1
      omega
    · rcases r with r | r | r
      · show 1 + _ = (g_exp as).length + 1
        omega
      · show 1 + _ = (g_exp as).length + 1
        omega
      · show 1 + _ = (g_exp as).length + 1
        omega
