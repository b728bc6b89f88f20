/-! every run of the small machine is a run of the JVM -/
theorem gstep_inv {M : Nat} {c0 : gF} {y : gF ⊕ ((Nat × List gv × gF) ⊕ Int)} (h : gstep M c0 = some y) : ∃ i len, decode (mB M) c0.1 = .ok (i, len) ∧ (g_len i = len ∨ g_len i = 0) ∧ gex M c0.1 len i c0.2.1 c0.2.2.1 c0.2.2.2 = some y := by
  unfold gstep at h
  split at h
  · rename_i i len hd
    split at h
    · rename_i hl
      exact ⟨i, len, hd, hl, h⟩
    · cases h
  · cases h
theorem gex_ret {M pc len : Nat} {i : Instr} {ls st : List gv} {μ : gM} {r : Int} (h : gex M pc len i ls st μ = some (.inr (.inr r))) : (i = .ireturn ∧ g_ret M st = some (.inr (.inr r))) ∨ (i = .lreturn ∧ g_lret M st = some (.inr (.inr r))) ∨ (i = .return_ ∧ g_vret M st = some (.inr (.inr r))) := by
  have nx : ∀ {pc1 : Nat} {ls1 st1 : List gv} {μ1 : gM}, g_nx pc1 ls1 st1 μ1 ≠ some (.inr (.inr r)) := fun q => by cases q
  cases i with
  | ireturn => exact Or.inl ⟨rfl, h⟩
  | lreturn => exact Or.inr (Or.inl ⟨rfl, h⟩)
  | return_ => exact Or.inr (Or.inr ⟨rfl, h⟩)
  | invokevirtual idx => exact absurd h (fun q => g_call_noret q)
  | invokestatic idx =>
    unfold gex at h
    dsimp only at h
    split at h
    · unfold g_math at h
      repeat' split at h
      all_goals first | exact nx h | (cases h; done)
    · exact absurd h (fun q => g_call_noret q)
  | _ =>
    exfalso
    unfold gex at h
    first
    | (cases h; done)
    | (dsimp only at h
       (try unfold g_stk at h); (try unfold g_push at h); (try unfold g_sti at h); (try unfold g_stl at h); (try unfold g_sta at h); (try unfold g_inc at h); (try unfold g_if at h); (try unfold g_if2 at h); (try unfold g_tsw at h); (try unfold g_lsw at h); (try unfold g_get at h); (try unfold g_put at h); (try unfold g_iald at h); (try unfold g_iast at h); (try unfold g_lald at h); (try unfold g_last at h); (try unfold g_alen at h); (try unfold g_push at h); (try unfold g_to at h)
       repeat' split at h
       all_goals first | exact nx h | (cases h; done))
theorem gex_call {M pc len : Nat} {i : Instr} {ls st : List gv} {μ : gM} {y : Nat × List gv × gF} (h : gex M pc len i ls st μ = some (.inr (.inl y))) : (∃ idx, i = .invokevirtual idx ∧ g_call M pc idx false ls st μ = some (.inr (.inl y))) ∨ (∃ idx, i = .invokestatic idx ∧ g_call M pc idx true ls st μ = some (.inr (.inl y))) := by
  have nx : ∀ {pc1 : Nat} {ls1 st1 : List gv} {μ1 : gM}, g_nx pc1 ls1 st1 μ1 ≠ some (.inr (.inl y)) := fun q => by cases q
  cases i with
  | invokevirtual idx => exact Or.inl ⟨idx, rfl, h⟩
  | invokestatic idx =>
    refine Or.inr ⟨idx, rfl, ?_⟩
    unfold gex at h
    dsimp only at h
    split at h
    · unfold g_math at h
      repeat' split at h
      all_goals first | exact nx h | (cases h; done)
    · exact h
  | _ =>
    exfalso
    unfold gex at h
    first
    | (cases h; done)
    | (dsimp only at h
       (try unfold g_stk at h); (try unfold g_push at h); (try unfold g_sti at h); (try unfold g_stl at h); (try unfold g_sta at h); (try unfold g_inc at h); (try unfold g_if at h); (try unfold g_if2 at h); (try unfold g_tsw at h); (try unfold g_lsw at h); (try unfold g_get at h); (try unfold g_put at h); (try unfold g_iald at h); (try unfold g_iast at h); (try unfold g_lald at h); (try unfold g_last at h); (try unfold g_alen at h); (try unfold g_push at h); (try unfold g_to at h); (try unfold g_ret at h); (try unfold g_lret at h); (try unfold g_vret at h)
       repeat' split at h
       all_goals first | exact nx h | (cases h; done))
theorem gret_1 {t : Option FieldType} (h : gret t = 1) : t = some .int := by
  unfold gret at h
  split at h <;> first | rfl | cases h
theorem gret_2 {t : Option FieldType} (h : gret t = 2) : t = some .boolean := by
  unfold gret at h
  split at h <;> first | rfl | cases h
theorem gret_3 {t : Option FieldType} (h : gret t = 3) : t = some .long := by
  unfold gret at h
  split at h <;> first | rfl | cases h
theorem gret_0 {t : Option FieldType} (h : gret t = 0) : t = none := by
  unfold gret at h
  split at h <;> first | rfl | cases h
theorem g_ret_inv {M : Nat} {st : List gv} {r : Int} (h : g_ret M st = some (.inr (.inr r))) : st = [gI r] ∧ (mT M = some .int ∨ mT M = some .boolean ∧ (r = 0 ∨ r = 1)) := by
  unfold g_ret at h
  split at h
  · rename_i a hr
    cases h
    exact ⟨rfl, Or.inl (gret_1 hr)⟩
  · rename_i a hr
    split at h
    · rename_i ha
      cases h
      exact ⟨rfl, Or.inr ⟨gret_2 hr, ha⟩⟩
    · cases h
  · cases h
theorem g_lret_inv {M : Nat} {st : List gv} {r : Int} (h : g_lret M st = some (.inr (.inr r))) : st = [gJ r] ∧ mT M = some .long := by
  unfold g_lret at h
  split at h
  · rename_i a hr
    cases h
    exact ⟨rfl, gret_3 hr⟩
  · cases h
theorem g_vret_inv {M : Nat} {st : List gv} {r : Int} (h : g_vret M st = some (.inr (.inr r))) : st = [] ∧ r = 0 ∧ mT M = none := by
  unfold g_vret at h
  split at h
  · rename_i hr
    cases h
    exact ⟨rfl, rfl, gret_0 hr⟩
  · cases h
theorem g_sound (l : Launch) (D : va_G) (ad : Nat → Nat) (cI cJ : ClassId) (hi : gInj ad) : ∀ (n M : Nat) (c0 : gF) (r : Int) (μ' : gM), grun n M c0 = some (r, μ') → M < gMT.length → gokl c0.2.1 → gokl c0.2.2.1 → gokm c0.2.2.2 → c0.2.1.length = mL M →
    (gokr M r ∧ gokm μ') ∧ ∀ {p : Program} {e : Env} {s : State} {m : MethodId} {args : Array Value} {below : List Frame} {meth : Method} {c : Code} {A : Nat → Prop}, gCx p s m args meth c A D ad cI cJ M →
      gWf p l e (gRm M) s m args below meth c (MQ below (gQ D ad cI cJ M r μ' A) args s 0 0 A) A D ad cI cJ c0.1 c0.2.1 c0.2.2.1 c0.2.2.2 := by
  intro n
  induction n with
  | zero => intro M c0 r μ' h; cases h
  | succ n ih =>
    intro M c0 r μ' h hM h1 h2 h3 h4
    obtain ⟨pc, ls, st, μ⟩ := c0
    dsimp only at h1 h2 h3 h4 ⊢
    rw [grun] at h
    cases hs : gstep M (pc, ls, st, μ) with
    | none => rw [hs] at h; cases h
    | some y =>
      rw [hs] at h
      obtain ⟨i, len, hd, hl, hex⟩ := gstep_inv hs
      dsimp only at hd hex
      rcases y with c' | ⟨M', as, c'⟩ | r1
      · have h : grun n M c' = some (r, μ') := h
        obtain ⟨k1, k2, k3, k4⟩ := gex_OK hex h1 h2 h3
        obtain ⟨a, b⟩ := ih M c' r μ' h hM k1 k2 k3 (by rw [k4]; exact h4)
        exact ⟨a, fun C0 => gex_W C0 h2 h4 hd hl hex (b C0)⟩
      · obtain ⟨pc1, ls1, st1, μ1⟩ := c'
        dsimp only at h
        obtain ⟨idx, bb, hcall, hdg⟩ : ∃ (idx : Nat) (bb : Bool), g_call M pc idx bb ls st μ = some (.inr (.inl (M', as, (pc1, ls1, st1, μ1)))) ∧ decode (mB M) pc = .ok (if bb = true then .invokestatic idx else .invokevirtual idx, 3) := by
          rcases gex_call hex with ⟨idx, rfl, q⟩ | ⟨idx, rfl, q⟩
          · rcases hl with rfl | hl
            · exact ⟨idx, false, q, hd⟩
            · cases hl
          · rcases hl with rfl | hl
            · exact ⟨idx, true, q, hd⟩
            · cases hl
        obtain ⟨so, q1, q2, q3, rest, hm, hbs, hfit, hst, hasl, hsum, hexp, hrcv, hc'⟩ := g_call_inv hcall
        have hM' := (gml_spec hm).1
        cases hc'
        cases h5 : grun n M' (0, g_ent M' as, [], μ) with
        | none => rw [h5] at h; cases h
        | some z =>
          rw [h5] at h
          obtain ⟨rz, μz⟩ := z
          dsimp only at h
          have hoka : gokl as := fun v hv => h2 v (by rw [hst]; exact List.mem_append_left _ (List.mem_reverse.mpr hv))
          have hokr : gokl st1 := fun v hv => h2 v (by rw [hst]; exact List.mem_append_right _ hv)
          have hoke : gokl (g_ent M' as) := by
            intro v hv
            unfold g_ent at hv
            rcases List.mem_append.mp hv with hv | hv
            · have key : ∀ xs : List gv, gokl xs → gokl (g_exp xs) := by
                intro xs
                induction xs with
                | nil => intro _; exact fun _ h => by cases h
                | cons x xs ih2 =>
                  intro hx
                  obtain ⟨ha, hb⟩ := gokl_cons.mp hx
                  rcases x with _ | a | a | a
                  · exact gokl_cons.mpr ⟨ha, ih2 hb⟩
                  · exact gokl_cons.mpr ⟨ha, ih2 hb⟩
                  · exact gokl_cons.mpr ⟨ha, gokl_cons.mpr ⟨trivial, ih2 hb⟩⟩
                  · exact gokl_cons.mpr ⟨ha, ih2 hb⟩
              exact key as hoka v hv
            · rw [(List.mem_replicate.mp hv).2]
              trivial
          have hlen : (g_ent M' as).length = mL M' := by
            unfold g_ent
            rw [List.length_append, List.length_replicate]
            omega
          obtain ⟨⟨a1, a2⟩, a3⟩ := ih M' _ rz μz h5 hM' hoke (fun _ h => by cases h) h3 hlen
          obtain ⟨b1, b2⟩ := ih M _ r μ' h hM h1 (g_back_ok hokr a1) a2 h4
          refine ⟨b1, fun C0 => s_call hM C0 h2 h4 hdg hcall (r := rz) (μ' := μz) (fun sz => ?_) (b2 C0)⟩
          refine Met.ofW (cc := mB M') (maxL := mL M') (ret := mT M') (gmt_spec hM').1 rfl ?_
          intro p e s m args below meth c s₁ B hml hv
          obtain ⟨rfl, hsz, hP, hK⟩ := hv
          have hcx : gCx p s m (as.map (gval ad)).toArray meth c (gAd ad sz) D ad cI cJ M' := ⟨B.exec, B.bytes, B.returns, hml, by rw [← (gmt_spec hM').2.1]; exact findClass_of_methodNamed B.named, atoms_spec (ws := gWs M') B.pre, B.notSynchronized, hK, fun q hq => Or.inr (by rw [← hsz]; exact hq), fun k hk => Or.inl ⟨k, hk, rfl⟩, hi⟩
          rw [lg_entry_eq]
          refine a3 hcx s.heap [] _ hP va_S.rf ?_
          dsimp only
          rw [hlen]
          have he := lv_entry (as.map (gval ad)) (n := mL M') (by rw [g_exp_len]; exact hexp)
          refine ⟨he.1, he.2.1, fun q hq => he.2.2 q ?_⟩
          obtain ⟨k0, u⟩ := q
          have := g_args ad (mL M' - (g_exp as).length) as 0 k0 u (g_cl_mem.mp hq)
          rw [Nat.zero_add] at this
          exact this
      · cases h
        rcases gex_ret hex with ⟨rfl, q⟩ | ⟨rfl, q⟩ | ⟨rfl, q⟩
        · obtain ⟨rfl, hT⟩ := g_ret_inv q
          have hd : decode (mB M) pc = .ok (.ireturn, 1) := by
            rcases hl with rfl | hl
            · exact hd
            · cases hl
          have hr1 : (Int32.ofInt r).toInt = r := h2 _ List.mem_cons_self
          refine ⟨⟨?_, h3⟩, ?_⟩
          · unfold gokr
            rcases hT with hT | ⟨hT, -⟩
            · rw [hT]; exact hr1
            · rw [hT]; exact hr1
          · intro p e s m args below meth c A C0 H locs lsv hP hS hlv
            obtain ⟨hx, hb, hr, hml, hown, hts, hlk, hKK, hA, hAd, hin⟩ := C0
            rcases hT with hT | ⟨hT, hv⟩
            · exact W.iret (v := Int32.ofInt r) hx hb (by rw [hr, hT]) (fun t ht hW => ⟨⟨by unfold gRV; rw [hT]; rfl, by rw [ht]; exact hP⟩, hS.F ht⟩) hS.2.2 hd hlk
            · exact W.zret (v := Int32.ofInt r) (ty := .boolean) hx hb (by rw [hr, hT]) (by rcases hv with rfl | rfl <;> rfl) (fun t ht hW => ⟨⟨by unfold gRV; rw [hT]; rfl, by rw [ht]; exact hP⟩, hS.F ht⟩) hS.2.2 hd hlk
        · obtain ⟨rfl, hT⟩ := g_lret_inv q
          have hd : decode (mB M) pc = .ok (.lreturn, 1) := by
            rcases hl with rfl | hl
            · exact hd
            · cases hl
          have hr1 : (Int64.ofInt r).toInt = r := h2 _ List.mem_cons_self
          refine ⟨⟨?_, h3⟩, ?_⟩
          · unfold gokr
            rw [hT]; exact hr1
          · intro p e s m args below meth c A C0 H locs lsv hP hS hlv
            obtain ⟨hx, hb, hr, hml, hown, hts, hlk, hKK, hA, hAd, hin⟩ := C0
            exact W.lret (v := Int64.ofInt r) hx hb (by rw [hr, hT]) (fun t ht hW => ⟨⟨by unfold gRV; rw [hT]; rfl, by rw [ht]; exact hP⟩, hS.F ht⟩) hS.2.2 hd hlk
        · obtain ⟨rfl, rfl, hT⟩ := g_vret_inv q
          have hd : decode (mB M) pc = .ok (.return_, 1) := by
            rcases hl with rfl | hl
            · exact hd
            · cases hl
          refine ⟨⟨?_, h3⟩, ?_⟩
          · unfold gokr
            rw [hT]; trivial
          · intro p e s m args below meth c A C0 H locs lsv hP hS hlv
            obtain ⟨hx, hb, hr, hml, hown, hts, hlk, hKK, hA, hAd, hin⟩ := C0
            exact W.vret hx hb (by rw [hr, hT]) (fun t ht hW => ⟨⟨by unfold gRV; rw [hT]; rfl, by rw [ht]; exact hP⟩, hS.F ht⟩) hS.2.2 hd hlk
/-- the contract of a method whose run of the small machine is known -/
theorem g_met (l : Launch) {D : va_G} {ad : Nat → Nat} {cI cJ : ClassId} (hi : gInj ad) {M' : Nat} {as : List gv} {μ μz : gM} {rz : Int} (hM' : M' < gMT.length) (hexp : (g_exp as).length ≤ mL M') (hoka : gokl as) (h3 : gokm μ) {n : Nat} (h5 : grun n M' (0, g_ent M' as, [], μ) = some (rz, μz)) : (gokr M' rz ∧ gokm μz) ∧ ∀ sz, gMet l D ad cI cJ M' as μ rz μz sz := by
  have hoke : gokl (g_ent M' as) := by
    intro v hv
    unfold g_ent at hv
    rcases List.mem_append.mp hv with hv | hv
    · have key : ∀ xs : List gv, gokl xs → gokl (g_exp xs) := by
        intro xs
        induction xs with
        | nil => intro _; exact fun _ h => by cases h
        | cons x xs ih2 =>
          intro hx
          obtain ⟨ha, hb⟩ := gokl_cons.mp hx
          rcases x with _ | a | a | a
          · exact gokl_cons.mpr ⟨ha, ih2 hb⟩
          · exact gokl_cons.mpr ⟨ha, ih2 hb⟩
          · exact gokl_cons.mpr ⟨ha, gokl_cons.mpr ⟨trivial, ih2 hb⟩⟩
          · exact gokl_cons.mpr ⟨ha, ih2 hb⟩
      exact key as hoka v hv
    · rw [(List.mem_replicate.mp hv).2]
      trivial
  have hlen : (g_ent M' as).length = mL M' := by
    unfold g_ent
    rw [List.length_append, List.length_replicate]
    omega
  obtain ⟨a1, a3⟩ := g_sound l D ad cI cJ hi n M' _ rz μz h5 hM' hoke (fun _ h => by cases h) h3 hlen
  refine ⟨a1, fun sz => ?_⟩
  refine Met.ofW (cc := mB M') (maxL := mL M') (ret := mT M') (gmt_spec hM').1 rfl ?_
  intro p e s m args below meth c s₁ B hml hv
  obtain ⟨rfl, hsz, hP, hK⟩ := hv
  have hcx : gCx p s m (as.map (gval ad)).toArray meth c (gAd ad sz) D ad cI cJ M' := ⟨B.exec, B.bytes, B.returns, hml, by rw [← (gmt_spec hM').2.1]; exact findClass_of_methodNamed B.named, atoms_spec (ws := gWs M') B.pre, B.notSynchronized, hK, fun q hq => Or.inr (by rw [← hsz]; exact hq), fun k hk => Or.inl ⟨k, hk, rfl⟩, hi⟩
  rw [lg_entry_eq]
  refine a3 hcx s.heap [] _ hP va_S.rf ?_
  dsimp only
  rw [hlen]
  have he := lv_entry (as.map (gval ad)) (n := mL M') (by rw [g_exp_len]; exact hexp)
  refine ⟨he.1, he.2.1, fun q hq => he.2.2 q ?_⟩
  obtain ⟨k0, u⟩ := q
  have := g_args ad (mL M' - (g_exp as).length) as 0 k0 u (g_cl_mem.mp hq)
  rw [Nat.zero_add] at this
  exact this
