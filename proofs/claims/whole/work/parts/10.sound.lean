/-! what stays in range -/
theorem gokl_cons {v : gv} {l : List gv} : gokl (v :: l) ↔ gok v ∧ gokl l := by
  unfold gokl
  constructor
  · intro h
    exact ⟨h _ List.mem_cons_self, fun w hw => h w (List.mem_cons_of_mem _ hw)⟩
  · rintro ⟨h1, h2⟩ w hw
    rcases List.mem_cons.mp hw with rfl | hw
    · exact h1
    · exact h2 w hw
theorem gokl_set {l : List gv} {i : Nat} {v : gv} (h : gokl l) (hv : gok v) : gokl (l.set i v) := by
  intro w hw
  rcases List.mem_or_eq_of_mem_set hw with q | q
  · exact h w q
  · rw [q]; exact hv
def gOK (ls : List gv) (c' : gF) : Prop := gokl c'.2.1 ∧ gokl c'.2.2.1 ∧ gokm c'.2.2.2 ∧ c'.2.1.length = ls.length
section GOKS
variable {pc pc1 : Nat} {ls st : List gv} {μ : gM} {c' : gF}
theorem k_nx {v : gv} (hv : gok v) (h : g_nx pc1 ls (v :: st) μ = some (.inl c')) (h1 : gokl ls) (h2 : gokl st) (h3 : gokm μ) : gOK ls c' := by
  cases h
  exact ⟨h1, gokl_cons.mpr ⟨hv, h2⟩, h3, rfl⟩
theorem k_stk {o : Option (List gv)} (hv : ∀ st', o = some st' → gokl st') (h : g_stk pc1 ls μ o = some (.inl c')) (h1 : gokl ls) (h3 : gokm μ) : gOK ls c' := by
  obtain ⟨st', q, rfl⟩ := g_stk_inv h
  exact ⟨h1, hv _ q, h3, rfl⟩
theorem k_push {o : Option gv} (hv : ∀ v, o = some v → gok v) (h : g_push pc1 ls st μ o = some (.inl c')) (h1 : gokl ls) (h2 : gokl st) (h3 : gokm μ) : gOK ls c' := by
  obtain ⟨v, q, rfl⟩ := g_push_inv h
  exact ⟨h1, gokl_cons.mpr ⟨hv _ q, h2⟩, h3, rfl⟩
theorem k_i2 {f : Int32 → Int32 → Int32} (h2 : gokl st) : ∀ st', g_i2 f st = some st' → gokl st' := by
  intro st' h
  obtain ⟨a, b, r, rfl, rfl⟩ := g_i2_inv h
  exact gokl_cons.mpr ⟨gok32 _, (gokl_cons.mp (gokl_cons.mp h2).2).2⟩
theorem k_l2 {f : Int64 → Int64 → Int64} (h2 : gokl st) : ∀ st', g_l2 f st = some st' → gokl st' := by
  intro st' h
  obtain ⟨a, b, r, rfl, rfl⟩ := g_l2_inv h
  exact gokl_cons.mpr ⟨gok64 _, (gokl_cons.mp (gokl_cons.mp h2).2).2⟩
theorem k_i2n {f : Int32 → Int32 → Int32} (h2 : gokl st) : ∀ st', g_i2n f st = some st' → gokl st' := by
  intro st' h
  obtain ⟨a, b, r, rfl, -, rfl⟩ := g_i2n_inv h
  exact gokl_cons.mpr ⟨gok32 _, (gokl_cons.mp (gokl_cons.mp h2).2).2⟩
theorem k_l2n {f : Int64 → Int64 → Int64} (h2 : gokl st) : ∀ st', g_l2n f st = some st' → gokl st' := by
  intro st' h
  obtain ⟨a, b, r, rfl, -, rfl⟩ := g_l2n_inv h
  exact gokl_cons.mpr ⟨gok64 _, (gokl_cons.mp (gokl_cons.mp h2).2).2⟩
theorem k_lsh {f : Int64 → Int32 → Int64} (h2 : gokl st) : ∀ st', g_lsh f st = some st' → gokl st' := by
  intro st' h
  obtain ⟨a, b, r, rfl, rfl⟩ := g_lsh_inv h
  exact gokl_cons.mpr ⟨gok64 _, (gokl_cons.mp (gokl_cons.mp h2).2).2⟩
theorem k_lcmp (h2 : gokl st) : ∀ st', g_lcmp st = some st' → gokl st' := by
  intro st' h
  obtain ⟨a, b, r, rfl, rfl⟩ := g_lcmp_inv h
  refine gokl_cons.mpr ⟨?_, (gokl_cons.mp (gokl_cons.mp h2).2).2⟩
  show (Int32.ofInt (if b < a then 1 else if a = b then 0 else -1)).toInt = (if b < a then 1 else if a = b then 0 else -1)
  split
  · rfl
  · split
    · rfl
    · rfl
theorem k_i2l (h2 : gokl st) : ∀ st', g_i2l st = some st' → gokl st' := by
  intro st' h
  obtain ⟨a, r, rfl, rfl⟩ := g_i2l_inv h
  obtain ⟨ha, hr⟩ := gokl_cons.mp h2
  refine gokl_cons.mpr ⟨?_, hr⟩
  have ha : (Int32.ofInt a).toInt = a := ha
  have e := Int32.toInt_toInt64 (Int32.ofInt a)
  rw [ha] at e
  show (Int64.ofInt a).toInt = a
  rw [← e, Int64.ofInt_toInt]
theorem k_l2i (h2 : gokl st) : ∀ st', g_l2i st = some st' → gokl st' := by
  intro st' h
  obtain ⟨a, r, rfl, rfl⟩ := g_l2i_inv h
  exact gokl_cons.mpr ⟨gok32 _, (gokl_cons.mp h2).2⟩
theorem k_dup (h2 : gokl st) : ∀ st', g_dup st = some st' → gokl st' := by
  intro st' h
  obtain ⟨v, r, rfl, -, rfl⟩ := g_dup_inv h
  exact gokl_cons.mpr ⟨(gokl_cons.mp h2).1, h2⟩
theorem k_dup2 (h2 : gokl st) : ∀ st', g_dup2 st = some st' → gokl st' := by
  intro st' h
  obtain ⟨v, w, r, rfl, -, -, rfl⟩ := g_dup2_inv h
  exact gokl_cons.mpr ⟨(gokl_cons.mp h2).1, gokl_cons.mpr ⟨(gokl_cons.mp (gokl_cons.mp h2).2).1, h2⟩⟩
theorem k_pop (h2 : gokl st) : ∀ st', g_pop st = some st' → gokl st' := by
  intro st' h
  obtain ⟨v, r, rfl, -, rfl⟩ := g_pop_inv h
  exact (gokl_cons.mp h2).2
theorem gokl_at {ls : List gv} {i : Nat} {v : gv} (h : gokl ls) (hi : ls[i]? = some v) : gok v := h v (List.mem_of_getElem? hi)
theorem k_ldi {i : Nat} (h1 : gokl ls) : ∀ v, g_ldi ls i = some v → gok v := by
  intro v h
  unfold g_ldi at h
  split at h
  · rename_i a ha
    cases h
    exact gokl_at h1 ha
  · cases h
theorem k_ldl {i : Nat} (h1 : gokl ls) : ∀ v, g_ldl ls i = some v → gok v := by
  intro v h
  unfold g_ldl at h
  split at h
  · rename_i a ha hb
    cases h
    exact gokl_at h1 ha
  · cases h
theorem k_lda {i : Nat} (h1 : gokl ls) : ∀ v, g_lda ls i = some v → gok v := by
  intro v h
  unfold g_lda at h
  split at h
  · rename_i a ha
    cases h
    exact gokl_at h1 ha
  · cases h
theorem k_sti {i : Nat} (h : g_sti pc1 ls st μ i = some (.inl c')) (h1 : gokl ls) (h2 : gokl st) (h3 : gokm μ) : gOK ls c' := by
  unfold g_sti at h
  split at h
  · split at h
    · cases h
      obtain ⟨a, b⟩ := gokl_cons.mp h2
      exact ⟨gokl_set h1 a, b, h3, List.length_set⟩
    · cases h
  · cases h
theorem k_stl {i : Nat} (h : g_stl pc1 ls st μ i = some (.inl c')) (h1 : gokl ls) (h2 : gokl st) (h3 : gokm μ) : gOK ls c' := by
  unfold g_stl at h
  split at h
  · split at h
    · cases h
      obtain ⟨a, b⟩ := gokl_cons.mp h2
      exact ⟨gokl_set (gokl_set h1 a) trivial, b, h3, by show (List.set _ _ _).length = _; rw [List.length_set, List.length_set]⟩
    · cases h
  · cases h
theorem k_sta {i : Nat} (h : g_sta pc1 ls st μ i = some (.inl c')) (h1 : gokl ls) (h2 : gokl st) (h3 : gokm μ) : gOK ls c' := by
  unfold g_sta at h
  split at h
  · split at h
    · cases h
      obtain ⟨a, b⟩ := gokl_cons.mp h2
      exact ⟨gokl_set h1 a, b, h3, List.length_set⟩
    · cases h
  · cases h
theorem k_inc {i : Nat} {n : Int} (h : g_inc pc1 ls st μ i n = some (.inl c')) (h1 : gokl ls) (h2 : gokl st) (h3 : gokm μ) : gOK ls c' := by
  unfold g_inc at h
  split at h
  · cases h
    exact ⟨gokl_set h1 (gok32 _), h2, h3, List.length_set⟩
  · cases h
theorem k_goto {off : Int} (h : g_to pc off ls st μ = some (.inl c')) (h1 : gokl ls) (h2 : gokl st) (h3 : gokm μ) : gOK ls c' := by
  obtain ⟨tgt, -, rfl⟩ := g_to_inv h
  exact ⟨h1, h2, h3, rfl⟩
theorem k_if {off : Int} {cd : ClassFile.Cond} (h : g_if pc cd off ls st μ = some (.inl c')) (h1 : gokl ls) (h2 : gokl st) (h3 : gokm μ) : gOK ls c' := by
  unfold g_if at h
  split at h
  · have h2 := (gokl_cons.mp h2).2
    split at h
    · split at h
      · cases h; exact ⟨h1, h2, h3, rfl⟩
      · cases h; exact ⟨h1, h2, h3, rfl⟩
    · cases h
  · cases h
theorem k_if2 {off : Int} {cd : ClassFile.Cond} (h : g_if2 pc cd off ls st μ = some (.inl c')) (h1 : gokl ls) (h2 : gokl st) (h3 : gokm μ) : gOK ls c' := by
  unfold g_if2 at h
  split at h
  · have h2 := (gokl_cons.mp (gokl_cons.mp h2).2).2
    split at h
    · split at h
      · cases h; exact ⟨h1, h2, h3, rfl⟩
      · cases h; exact ⟨h1, h2, h3, rfl⟩
    · cases h
  · cases h
theorem k_tsw {d lo hi : Int} {offs : Array Int} (h : g_tsw pc d lo hi offs ls st μ = some (.inl c')) (h1 : gokl ls) (h2 : gokl st) (h3 : gokm μ) : gOK ls c' := by
  unfold g_tsw at h
  split at h
  · have h2 := (gokl_cons.mp h2).2
    split at h
    · exact k_goto h h1 h2 h3
    · split at h
      · exact k_goto h h1 h2 h3
      · cases h
  · cases h
theorem k_lsw {d : Int} {ps : Array (Int × Int)} (h : g_lsw pc d ps ls st μ = some (.inl c')) (h1 : gokl ls) (h2 : gokl st) (h3 : gokm μ) : gOK ls c' := by
  unfold g_lsw at h
  split at h
  · have h2 := (gokl_cons.mp h2).2
    split at h
    · exact k_goto h h1 h2 h3
    · cases h
  · cases h
theorem gLong_obj {k ci j t o x : Nat} (hl : gLY[k]? = some (0, ci)) (hd : gfd ci j = some (t, o, x)) : gLong k j = decide (t = 2) := by
  have e : gfd ci ((j : Int)).toNat = some (t, o, x) := by rw [Int.toNat_natCast]; exact hd
  unfold gLong
  rw [hl]
  show (match gfd ci ((j : Int)).toNat with
    | some (2, _, _) => true
    | _ => false) = decide (t = 2)
  rw [e]
  by_cases ht : t = 2
  · subst ht; rfl
  · rw [decide_eq_false ht]
    split
    · rename_i h; cases h; exact absurd rfl ht
    · rfl
theorem gLong_arr {k n : Nat} {i : Int} (hl : gLY[k]? = some (1, n)) : gLong k i = false := by
  unfold gLong
  rw [hl]
  rfl
theorem gLong_larr {k n : Nat} {i : Int} (hl : gLY[k]? = some (2, n)) : gLong k i = true := by
  unfold gLong
  rw [hl]
  rfl
theorem gokm_i {μ : gM} {k : Nat} {i : Int} (h : gokm μ) (hl : gLong k i = false) : (Int32.ofInt (μ k i)).toInt = μ k i := by
  have := h k i
  rw [hl] at this
  exact this
theorem gokm_l {μ : gM} {k : Nat} {i : Int} (h : gokm μ) (hl : gLong k i = true) : (Int64.ofInt (μ k i)).toInt = μ k i := by
  have := h k i
  rw [hl] at this
  exact this
theorem k_fv {ci k j : Nat} (hl : gLY[k]? = some (0, ci)) (h3 : gokm μ) : ∀ v, g_fv μ ci k j = some v → gok v := by
  intro v h
  have hly := (gly_spec hl).2 j
  unfold g_fv at h
  split at h
  · rename_i o x hd; cases h; exact gokm_i h3 (by rw [gLong_obj hl hd]; rfl)
  · rename_i o x hd; cases h; exact gokm_i h3 (by rw [gLong_obj hl hd]; rfl)
  · rename_i o x hd; cases h; exact gokm_l h3 (by rw [gLong_obj hl hd]; rfl)
  · rename_i o x hd; cases h; exact (hly _ _ _ hd).1 rfl
  · rename_i o x hd; cases h; exact (hly _ _ _ hd).2.1 rfl
  · rename_i o x hd; cases h; exact (hly _ _ _ hd).2.2 rfl
  · cases h
theorem k_get {o idx : Nat} (h : g_get o pc1 idx ls st μ = some (.inl c')) (h1 : gokl ls) (h2 : gokl st) (h3 : gokm μ) : gOK ls c' := by
  unfold g_get at h
  split at h
  · split at h
    · rename_i hc
      subst hc
      obtain ⟨a, b⟩ := gokl_cons.mp h2
      exact k_push (k_fv a h3) h h1 b h3
    · cases h
  · cases h
theorem k_put {o idx : Nat} (h : g_put o pc1 idx ls st μ = some (.inl c')) (h1 : gokl ls) (h2 : gokl st) (h3 : gokm μ) : gOK ls c' := by
  unfold g_put at h
  split at h
  · split at h
    · rename_i hd
      obtain ⟨a, b⟩ := gokl_cons.mp h2
      obtain ⟨b, d⟩ := gokl_cons.mp b
      split at h
      · rename_i hc
        subst hc
        cases h
        exact ⟨h1, d, gokm_set h3 (by rw [gLong_obj b hd]; exact a), rfl⟩
      · cases h
    · rename_i hd
      obtain ⟨a, b⟩ := gokl_cons.mp h2
      obtain ⟨b, d⟩ := gokl_cons.mp b
      split at h
      · rename_i hc
        subst hc
        split at h
        · cases h
          exact ⟨h1, d, gokm_set h3 (by rw [gLong_obj b hd]; exact a), rfl⟩
        · cases h
      · cases h
    · rename_i hd
      obtain ⟨a, b⟩ := gokl_cons.mp h2
      obtain ⟨b, d⟩ := gokl_cons.mp b
      split at h
      · rename_i hc
        subst hc
        cases h
        exact ⟨h1, d, gokm_set h3 (by rw [gLong_obj b hd]; exact a), rfl⟩
      · cases h
    · cases h
  · cases h
theorem k_iald (h : g_iald pc1 ls st μ = some (.inl c')) (h1 : gokl ls) (h2 : gokl st) (h3 : gokm μ) : gOK ls c' := by
  unfold g_iald at h
  split at h
  · obtain ⟨a, b⟩ := gokl_cons.mp h2
    obtain ⟨b, d⟩ := gokl_cons.mp b
    split at h
    · cases h
      exact ⟨h1, gokl_cons.mpr ⟨gokm_i h3 (gLong_arr b), d⟩, h3, rfl⟩
    · cases h
  · cases h
theorem k_lald (h : g_lald pc1 ls st μ = some (.inl c')) (h1 : gokl ls) (h2 : gokl st) (h3 : gokm μ) : gOK ls c' := by
  unfold g_lald at h
  split at h
  · obtain ⟨a, b⟩ := gokl_cons.mp h2
    obtain ⟨b, d⟩ := gokl_cons.mp b
    split at h
    · cases h
      exact ⟨h1, gokl_cons.mpr ⟨gokm_l h3 (gLong_larr b), d⟩, h3, rfl⟩
    · cases h
  · cases h
theorem k_iast (h : g_iast pc1 ls st μ = some (.inl c')) (h1 : gokl ls) (h2 : gokl st) (h3 : gokm μ) : gOK ls c' := by
  unfold g_iast at h
  split at h
  · obtain ⟨a, b⟩ := gokl_cons.mp h2
    obtain ⟨b, d⟩ := gokl_cons.mp b
    obtain ⟨d, f⟩ := gokl_cons.mp d
    split at h
    · cases h
      exact ⟨h1, f, gokm_set h3 (by rw [gLong_arr d]; exact a), rfl⟩
    · cases h
  · cases h
theorem k_last (h : g_last pc1 ls st μ = some (.inl c')) (h1 : gokl ls) (h2 : gokl st) (h3 : gokm μ) : gOK ls c' := by
  unfold g_last at h
  split at h
  · obtain ⟨a, b⟩ := gokl_cons.mp h2
    obtain ⟨b, d⟩ := gokl_cons.mp b
    obtain ⟨d, f⟩ := gokl_cons.mp d
    split at h
    · cases h
      exact ⟨h1, f, gokm_set h3 (by rw [gLong_larr d]; exact a), rfl⟩
    · cases h
  · cases h
theorem g_small_ok {n : Nat} (h : n < 65536) : (Int32.ofInt (n : Int)).toInt = n := by
  rw [Int32.toInt_ofInt, Int.bmod_eq_of_le (by simp only [Int32.size]; omega) (by simp only [Int32.size]; omega)]
theorem k_alen (h : g_alen pc1 ls st μ = some (.inl c')) (h1 : gokl ls) (h2 : gokl st) (h3 : gokm μ) : gOK ls c' := by
  unfold g_alen at h
  split at h
  · obtain ⟨a, b⟩ := gokl_cons.mp h2
    cases h
    exact ⟨h1, gokl_cons.mpr ⟨g_small_ok (gly_len a (Or.inl rfl)), b⟩, h3, rfl⟩
  · obtain ⟨a, b⟩ := gokl_cons.mp h2
    cases h
    exact ⟨h1, gokl_cons.mpr ⟨g_small_ok (gly_len a (Or.inr rfl)), b⟩, h3, rfl⟩
  · cases h
theorem k_math {M w : Nat} (h : g_math M pc w ls st μ = some (.inl c')) (h1 : gokl ls) (h2 : gokl st) (h3 : gokm μ) : gOK ls c' := by
  unfold g_math at h
  split at h
  · obtain ⟨a, b⟩ := gokl_cons.mp h2
    obtain ⟨b, d⟩ := gokl_cons.mp b
    split at h
    · cases h
      refine ⟨h1, gokl_cons.mpr ⟨?_, d⟩, h3, rfl⟩
      split
      · split
        · exact a
        · exact b
      · split
        · exact a
        · exact b
    · cases h
  · cases h
theorem g_call_next {M : Nat} {idx : Nat} {b : Bool} (h : g_call M pc idx b ls st μ = some (.inl c')) : False := by
  unfold g_call at h
  split at h
  · split at h
    · dsimp only at h
      repeat' split at h
      all_goals cases h
    · cases h
  · cases h
end GOKS
