/-! the law, from its entry -/
theorem n_hly9 : nly 0 nL9 := by
  unfold nly
  decide +kernel
def zInst : List Nat := [266, 205, 339, 226, 28, 294, 163, 171, 34, 20, 1415]
theorem z_inst : ((List.range 11).all fun ci => decide (tables_1[zInst.getD ci 0]? = some (.instantiable (gcl ci).1 (gcl ci).2.2))) = true := by decide +kernel
theorem z_KK {s : State} {args : Array Value} (tt : ∀ w ∈ tables_1, w.before args s = true) : ∃ (D : va_G) (cI cJ : ClassId), gKK D cI cJ s := by
  have hts : ∀ w ∈ gTB, w.before args s = true := fun w hw => by
    rcases List.mem_append.mp (gTB_tbl hw) with h | h
    · unfold k2_sels at h
      obtain ⟨q, hq, rfl⟩ := List.mem_map.mp h
      exact k2_hts_sels lw_privs (fun w hw => tt w hw) lw_privs_ok _ (List.mem_append_left _ h)
    · exact tt w h
  have h : ∀ ci : Nat, ∃ q : ClassId × (Nat → Nat), ci < 11 → u_Kn s (gcl ci).1 (gcl ci).2.1 (gcl ci).2.2 q.1 q.2 := by
    intro ci
    by_cases hc : ci < 11
    · have h1 := of_decide_eq_true (List.all_eq_true.mp z_inst ci (List.mem_range.mpr hc))
      obtain ⟨cC, iS, hk⟩ := u_known hts (gi_all ci _ (ncl hc)).1 (tt _ (List.mem_of_getElem? h1))
      exact ⟨(cC, iS), fun _ => hk⟩
    · exact ⟨(0, fun _ => 0), fun z => absurd z hc⟩
  obtain ⟨cI, kI, compI, i1, i2, i3⟩ := Cond.arrayClass_spec (hts _ n_aI)
  obtain ⟨cJ, kJ, compJ, j1, j2, j3⟩ := Cond.arrayClass_spec (hts _ n_aJ)
  refine ⟨(fun k => (Classical.choose (h k)).1, fun k => (Classical.choose (h k)).2), cI, cJ, ⟨fun c q hq => ?_, fun k q hq => ?_⟩, fun w hw => va_Nw.of (gNest_tabs hw) (tt w (List.mem_filter.mp hw).1)⟩
  · have hc : c < 11 := (List.getElem?_eq_some_iff.mp hq).1
    have e := Option.some.inj (hq.symm.trans (ncl hc))
    subst e
    exact Classical.choose_spec (h c) hc
  · rcases k with _ | _ | k
    · cases hq
      exact ⟨fun n z => ⟨fun k h => (by cases h), kI, i2, compI, i3⟩, i1⟩
    · cases hq
      exact ⟨fun n z => ⟨fun k h => (by cases h), kJ, j2, compJ, j3⟩, j1⟩
    · cases hq
theorem z_yC {s : State} {b : Addr} (tt : ∀ w ∈ tables_1, w.before #[Value.ref b] s = true) (hgv : (Jvm.Cond.and given_1 narrow_1).before #[Value.ref b] s = true) : yC s.heap.size s s.heap := by
  have hs := flat_of_before _ hgv
  have str : ∀ (k : Nat) (tx : String), (Cond.exactly (.string "GatedDevices" k) "java/lang/String").before #[Value.ref b] s = true → (Cond.stringRef "GatedDevices" k tx).before #[Value.ref b] s = true → ∃ sa, vk_R "GatedDevices" k tx sa s := by
    intro k tx h1 h2
    obtain ⟨a, cB, cellB, kB, ha, -⟩ := Cond.exactly_spec h1
    exact ⟨a, vk_R.of h2 ha⟩
  refine ⟨⟨vx_Zqof (tt _ (List.mem_of_getElem? (i := 1355) (by decide +kernel))) (tt _ (List.mem_of_getElem? (i := 13) (by decide +kernel))) (hs _ (by decide +kernel)) (fun a ha => Nat.not_le.mpr ha), vx_Zqof (tt _ (List.mem_of_getElem? (i := 1357) (by decide +kernel))) (tt _ (List.mem_of_getElem? (i := 13) (by decide +kernel))) (hs _ (by decide +kernel)) (fun a ha => Nat.not_le.mpr ha)⟩, fun w hw => va_Nw.of (yBad_on w hw) (tt w (yBad_t w hw)), ⟨va_Nc.of (hs _ (by decide +kernel)), va_Nc.of (hs _ (by decide +kernel))⟩, str 163 _ (hs _ (by decide +kernel)) (tt _ (List.mem_of_getElem? (i := 1368) (by decide +kernel))), str 204 _ (hs _ (by decide +kernel)) (tt _ (List.mem_of_getElem? (i := 1407) (by decide +kernel)))⟩
