/-! the law's start: both objects made, its own row made, then the loop -/
set_option maxHeartbeats 4000000 in
set_option maxRecDepth 100000 in
theorem whole_start {p : Program} {e : Env} {s : State} {m : MethodId} {below : List Frame} {meth : Method} {c : Code} (l : Launch) (hflags : l.flags = flags0) {b L : Nat} {xs : Nat → Int32} (hL : L ≤ 3072) (C0 : lw_At p s m meth c b L xs) : W p l e room_1 s m #[Value.ref b] below meth c s.heap [] 0 0 (lw_Z below #[Value.ref b] s) (entryFrame m ([Value.ref b] : List Value).toArray 7) := by
  obtain ⟨hx, hb, hr, hml, hown, htsA, hX, hbl, hlk, hgv⟩ := C0
  have hts : ∀ w ∈ gTB, w.before #[Value.ref b] s = true := fun w hw => htsA w (gTB_tbl hw)
  have tt : ∀ w ∈ tables_1, w.before #[Value.ref b] s = true := fun w hw => htsA w (List.mem_append_right _ hw)
  have hl0 : l.stackTraces = false := by
    unfold Launch.stackTraces
    rw [hflags]
    decide +kernel
  have hC := z_yC tt hgv
  obtain ⟨D, cI, cJ, hKK⟩ := z_KK tt
  have hl := lv_entry ([.ref b]) (n := 7) (Nat.le_of_ble_eq_true rfl)
  rw [lg_entry_eq]
  generalize (lg_sl ([.ref b]) ++ List.replicate (7 - (lg_sl ([.ref b])).length) Slot.unset).toArray = ls at hl ⊢
  have hl : lv_has ls 7 [(0, .ref b)] := hl
  obtain ⟨a0, ea⟩ : ∃ a0, a0 = s.heap.size := ⟨_, rfl⟩
  refine nv_obj (own := R_law) (i1 := 8) (i2 := 17) (k1 := 0) (n := 167) (ms := 5987) (ci := 9) (NF := 5) (a0 := a0) (L := 7) (rf := 3) (rl := 54) (L' := 1) (bytes := code) (b' := prog_1_method_1_code) (A := fun q => s.heap.size ≤ q) (μ := nGd 0) (y := ⟨gown 9, "<init>", "()V"⟩) hx hb hml hown hts hKK (by decide) (by rw [ea]; rfl) (fun q h => by rw [← ea]; exact h) va_S.rf hl.1 (by decide +kernel) (gTB_at 19 (by decide +kernel) rfl) (gTB_at 20 (by decide +kernel) rfl) (gTB_at 1 (by decide +kernel) rfl) rfl (by decide +kernel) (Or.inr (gTB_at 21 (by decide +kernel) rfl)) (gTB_at 22 (by decide +kernel) rfl) (gTB_at 23 (by decide +kernel) rfl) (n_Gated l D a0 cI cJ n_hly9) (by decide) (by decide) (by decide) (Nat.le_of_ble_eq_true rfl) (Nat.le_of_ble_eq_true rfl) (Nat.zero_le _) (by decide +kernel) (by decide +kernel) (by decide +kernel) fun H1 locs1 z1 f1 o1 hS1 => ?_
  refine lv_astore_n (k := 1) (lv' := [(1, .ref (nad a0 0)), (0, .ref b)]) hx hb (show decode code (0 + 7) = .ok (.astore_n 1, 1) by decide +kernel) rfl hl (by decide) rfl (fun ls1 hl1 => ?_)
  refine nv_new (own := R_law) (i1 := 18) (k1 := 167) (ci := 10) (a0 := a0) (bytes := code) hx hb hown hts hKK (by decide) (by rw [z1]) hS1 (gTB_at 1414 (by decide +kernel) rfl) (gTB_at 1415 (by decide +kernel) rfl) (gTB_at 11 (by decide +kernel) rfl) (Nat.le_of_ble_eq_true rfl) (Nat.le_of_ble_eq_true rfl) (by decide +kernel) (by decide +kernel) fun H2 z2 f2 o2 hS2 => ?_
  have hw6 : Cond.code (⟨gown 10, "<init>", "()V"⟩ : MethodName) prog_12_method_1_code 1 none ∈ gTB := gTB_at 1418 (by decide +kernel) rfl
  have hCF : CallFix p m c code 7 s #[Value.ref b] gTB R_law := ⟨hx, hb, hml, hown, hts⟩
  have hlen : ∀ sig, parseMethodDescriptor (⟨gown 10, "<init>", "()V"⟩ : MethodName).desc = some sig → 0 = sig.parameters.length := by
    intro sig hsig
    have e2 : (parseMethodDescriptor "()V").map (fun q => q.parameters.length) = some 0 := by decide +kernel
    have e1 : parseMethodDescriptor "()V" = some sig := hsig
    rw [e1] at e2
    exact (Option.some.inj e2).symm
  have hpre : ∀ U : State, U.heap = H2 → s.WarmedH U.vm → mPc D a0 cI cJ [Value.ref (nad a0 167)].toArray U := fun U hU hW => ⟨rfl, ⟨by rw [hU]; exact z2, by rw [hU]; exact f2, fun j hj => by
    rw [hU]
    have h1 := f1 j hj
    rw [Nat.zero_add] at h1
    exact h1.kept (o2 _ (by rw [z1]; show nad a0 j < _; unfold nad; omega))⟩, gKK.warm hW hKK⟩
  have hrun : va_Run p l e room_1 s m #[Value.ref b] below meth c H2 locs1 (0 + 167 + 1) (0 + 5 + 5987 + (gcl 10).2.2) 14 6798 (F0 m (0 + 7 + 1 + 4) ls1 (.ref (nad a0 167) :: .ref (nad a0 167) :: [])) [.ref (nad a0 167)] (nQ (mB1 D a0 cI cJ) (fun q => a0 ≤ q) [Value.ref (nad a0 167)].toArray) (fun q => a0 ≤ q) :=
    va_runI (b := nad a0 167) (As := []) (rest := [.ref (nad a0 167)]) (n := 0) (index := 20) hCF (n_Model l D a0 cI cJ) ⟨⟨rfl, rfl, by decide, by decide, pay_in hts (gTB_ws hw6), List.mem_cons_self, hts _ hw6, hts _ (gTB_at 11 (by decide +kernel) rfl), by decide +kernel, hlen, hts _ (gTB_at 1416 (by decide +kernel) rfl)⟩, rfl, hts _ (gTB_at 1417 (by decide +kernel) rfl)⟩ ⟨mPc_blind, hpre⟩ rfl rfl hl1.1 rfl (lv_room (Nat.le_of_ble_eq_true rfl)) (show decode code 12 = .ok (.invokespecial 20, 3) by decide +kernel) ⟨Nat.le_of_ble_eq_true rfl, Nat.le_of_ble_eq_true rfl⟩
  refine nv_callv hrun hS2 (fun q _ h => by rw [← ea]; exact h) (fun q h => by rw [← ea]; exact h) fun H3 locs3 hB hz hk hS3 => ?_
  obtain ⟨ν, hI, hok, hP⟩ := hB
  refine lv_astore_n (k := 2) (lv' := [(2, .ref (nad a0 167)), (1, .ref (nad a0 0)), (0, .ref b)]) hx hb (show decode code (0 + 7 + 1 + 4 + 3) = .ok (.astore_n 2, 1) by decide +kernel) rfl hl1 (by decide) rfl (fun ls2 hl2 => ?_)
  refine lv_iconst (n := 1) (v := 1) hx hb (by decide +kernel) (by decide) ?_
  refine va_newaK hx hb (atype := .long) (hts _ n_aJ) rfl (show decode code (0 + 7 + 1 + 4 + 3 + 1 + 1) = .ok (.newarray .long, 2) by decide +kernel) (n := 1) (N := 1) rfl (by decide) (by decide) (Nat.le_of_ble_eq_true rfl) (Nat.le_of_ble_eq_true rfl) (Nat.le_of_ble_eq_true rfl) rfl fun H4 cA e1 z4 o4 hAr hNm => ?_
  have hcA : cA = cJ := Option.some.inj (hNm.symm.trans (hKK.1.2 1 (cJ, .long) rfl).2)
  subst hcA
  have ho : a0 + 182 ≤ H3.size := by
    have h1 := hP 181 _ (gws_at (show 181 < gLY.length by decide +kernel))
    have h2 := h1.lt
    have h3 : nad a0 181 < H3.size := h2
    unfold nad at h3
    omega
  refine lv_astore_n (k := 3) (lv' := [(3, .ref H3.size), (2, .ref (nad a0 167)), (1, .ref (nad a0 0)), (0, .ref b)]) hx hb (show decode code (0 + 7 + 1 + 4 + 3 + 1 + 1 + 2) = .ok (.astore_n 3, 1) by decide +kernel) rfl hl2 (by decide) rfl (fun ls3 hl3 => ?_)
  refine lv_iconst (n := 0) (v := Int32.ofInt ((6 * 0 : Nat) : Int)) hx hb (show decode code 20 = .ok (.iconst 0, 1) by decide +kernel) (by decide) ?_
  refine lv_istore (lv' := [(4, .int (Int32.ofInt ((6 * 0 : Nat) : Int))), (3, .ref H3.size), (2, .ref (nad a0 167)), (1, .ref (nad a0 0)), (0, .ref b)]) hx hb (show decode code 21 = .ok (.istore 4, 2) by decide +kernel) hl3 (by decide) rfl (fun ls4 hl4 => ?_)
  refine W.widen (k := 183 + 0) (n := 12830 + 6 * 0) (Nat.le_of_ble_eq_true rfl) (Nat.le_of_ble_eq_true rfl) ?_
  subst ea
  refine l_loop (D := D) (cI := cI) (cJ := cA) (L := L) (xs := xs) (o := H3.size) (fo := fun _ => 0) (μ := ν) ⟨hx, hb, hml, hown, hts, hKK, hX, hbl, hL⟩ hl0 hC hr hlk 513 0 rfl (Nat.zero_le _) (lv_sub hl4 [4, 3, 2, 1, 0] rfl) ⟨hP.kept (fun q z hq => o4 _ ((hP q z hq).lt)), ?_, ho, ⟨Nat.le_trans hS3.1 (by rw [z4]; omega), fun q h1 h2 => (o4 q (Nat.lt_of_lt_of_le h1 hS3.1)).trans (hS3.2.1 q h1 h2), hS3.2.2⟩, hok⟩ hI
  show H4[H3.size]? = some (vp_cell _ _)
  rw [vp_cell_l]
  exact e1
