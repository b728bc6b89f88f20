/-! the law's 'device' -/
theorem ny_ofWH {l : Launch} {y : MethodName} {ws ws' : List Cond} {rm : Room} {Pc : Array Value → State → Prop} {Qc : Array Value → State → Outcome → State → Prop} {mc ms : Nat} {free : Addr → Prop} {cc : ByteArray} {maxL : Nat} {ret : Option FieldType} {hh : List (Nat × Nat × Nat × Nat)} (hy : plainName y.cls = true) (hw : ws = Cond.codeWith y cc maxL ret hh :: ws')
    (body : ∀ p e s m args below meth c s₁, BodyLoose p l y (headSpec ws rm) cc maxL ret e s m args below meth c s₁ → c.maxLocals = maxL → c.exceptionTable.toList = tableOf hh → Pc args s → W p l e (headSpec ws rm).room s m args below meth c s.heap [] 0 0 (MQ below Qc args s mc ms free) (entryFrame m args maxL)) : Met l y ws rm Pc Qc mc ms free := by
  refine MetFree.of_bodyS (code := cc) (maxLocals := maxL) (ret := ret) hy ?_ ?_
  · intro args s m h hn
    obtain ⟨m9, meth, c, hn9, h1, h2, h3, h4, -, h5, h6, -⟩ := Cond.codeWith_spec (atoms_spec (ws := ws) h _ (by rw [hw]; exact List.mem_cons_self))
    cases hn.symm.trans hn9
    exact ⟨meth, c, h1, h2, h3, h4, h5, h6⟩
  · intro p e s m args below meth c s₁ B hml hP _
    have hh0 : s₁.heap = s.heap := by rw [B.state]; rfl
    have htb := vx_table (x := y) B (atoms_spec (ws := ws) B.pre _ (by rw [hw]; exact List.mem_cons_self))
    obtain ⟨t, a1, o, b1, b2, b3⟩ := body p e s m args below meth c s₁ B hml htb hP s₁ hh0 (Stand.of_body B)
    exact ⟨t, o, a1, b1, b2, ⟨b3.1, b3.2⟩⟩
def yD : MethodName := ⟨R_law, "device", "(LGatedDevices;II[J)I"⟩
def yH : List (Nat × Nat × Nat × Nat) := [(0, 10, 13, 13), (0, 10, 17, 15)]
def yWs : List Cond := .codeWith yD method_3_code 5 (some .int) yH :: gTB
def dPc (D : va_G) (a0 : Nat) (cI cJ : ClassId) (μ : gM) (x w : Int32) (o sz : Nat) : Array Value → State → Prop := va_Pc [.ref (nad a0 0), .int x, .int w, .ref o] (fun U => (U.heap.size = sz ∧ va_P D gCL (gws (nad a0) cI cJ μ) U.heap ∧ (∃ f, va_at D gCL (o, .inl (cJ, 1, .inr (.inl f))) U.heap) ∧ yC a0 U U.heap) ∧ gKK D cI cJ U)
theorem dPc_blind {D : va_G} {a0 : Nat} {cI cJ : ClassId} {μ : gM} {x w : Int32} {o sz : Nat} : FrameBlind (dPc D a0 cI cJ μ x w o sz) := by
  rintro a U g mk ⟨q0, ⟨q1, q2, q3, q4⟩, qK⟩
  exact ⟨q0, ⟨q1, q2, q3, yC.same (s := U) (U := U.calling g mk a) rfl rfl q4⟩, gKK.call qK⟩
def dB (D : va_G) (a0 : Nat) (cI cJ : ClassId) (μ : gM) (o : Nat) (kk b : Int) : Unit → State → Prop := fun _ t => va_P D gCL (gws (nad a0) cI cJ μ) t.heap ∧ ∃ f, va_at D gCL (o, .inl (cJ, 1, .inr (.inl f))) t.heap ∧ (kk = 0 → f 0 = (Int32.ofInt b).toInt64)
def dMet (l : Launch) (D : va_G) (a0 : Nat) (cI cJ : ClassId) (μ : gM) (x w : Int32) (o : Nat) (kk b : Int) (sz : Nat) : Prop :=
  Met l yD yWs { frames := 7, cells := 1, slots := 6, locals := 104 } (dPc D a0 cI cJ μ x w o sz) (va_Qi (fun (r : Int32) (_ : Unit) => r = Int32.ofInt kk) (dB D a0 cI cJ μ o kk b) (fun q => a0 ≤ q)) 1 6 (fun q => a0 ≤ q)
set_option maxRecDepth 100000 in
theorem y_two {a0 o : Nat} {cI cJ : ClassId} {μ : gM} {en : va_E} (ho : a0 + 182 ≤ o) : va_D (fun q => a0 ≤ q) ((o, en) :: gws (nad a0) cI cJ μ) := by
  have h := gws_D (ad := nad a0) (cI := cI) (cJ := cJ) (μ := μ) (A := fun q => a0 ≤ q) (nad_inj a0) (fun k _ => Nat.le_add_right _ _)
  have far : ∀ (k : Nat) (q : Nat × va_E), (gws (nad a0) cI cJ μ)[k]? = some q → q.1 ≠ o := by
    intro k q hq e
    have hk : k < gLY.length := by
      rcases Nat.lt_or_ge k gLY.length with z | z
      · exact z
      · rw [List.getElem?_eq_none (by simp [gws]; exact z)] at hq
        cases hq
    rw [gws_at hk] at hq
    cases hq
    have h3 : k < 182 := hk
    have h4 : a0 + k = o := e
    omega
  refine ⟨fun i j p q hi hj e => ?_, fun k q hq => ?_⟩
  · rcases i with _ | i
    · cases hi
      rcases j with _ | j
      · rfl
      · exact absurd e.symm (far j q hj)
    · rcases j with _ | j
      · cases hj
        exact absurd e (far i p hi)
      · exact congrArg (· + 1) (h.1 i j p q hi hj e)
  · rcases k with _ | k
    · cases hq
      show a0 ≤ o
      omega
    · exact h.2 k q hq
set_option maxRecDepth 100000 in
theorem y_twoP {D : va_G} {a0 o : Nat} {cI cJ : ClassId} {μ : gM} {en : va_E} {H : Heap} (hP : va_P D gCL (gws (nad a0) cI cJ μ) H) (hO : va_at D gCL (o, en) H) : va_P D gCL ((o, en) :: gws (nad a0) cI cJ μ) H := by
  intro k q hq
  rcases k with _ | k
  · cases hq; exact hO
  · exact hP k q hq
set_option maxRecDepth 100000 in
theorem y_tl {D : va_G} {a0 o : Nat} {cI cJ : ClassId} {μ : gM} {en : va_E} {H : Heap} (h : va_P D gCL ((o, en) :: gws (nad a0) cI cJ μ) H) : va_P D gCL (gws (nad a0) cI cJ μ) H ∧ va_at D gCL (o, en) H := ⟨fun k q hq => h (k + 1) q hq, h 0 _ rfl⟩
set_option maxRecDepth 100000 in
theorem y_far {a0 o sz : Nat} (ho : a0 + 182 ≤ o) (hz : o < sz) : ¬ gAd (nad a0) sz o := by
  rintro (⟨k, hk, h⟩ | h)
  · have h2 : o = a0 + k := h
    have h3 : k < 182 := hk
    omega
  · omega
section YD
variable {D : va_G} {a0 : Nat} {cI cJ : ClassId} {μ : gM} {x w : Int32} {o sz : Nat} {kk b : Int}
set_option maxRecDepth 100000 in
/-- its start, and the five instructions that every road shares -/
theorem y_dev (l : Launch) (k : ∀ {p : Program} {e : Env} {s : State} {m : MethodId} {args : Array Value} {below : List Frame} {meth : Method} {c : Code} {lsv : Array Slot}, p.tables.exec = Jvm.exec → c.code = method_3_code → c.maxLocals = 5 → meth.sig.returnType = some .int → s.vm.findClass R_law = some m.cls → (∀ v ∈ gTB, v.before args s = true) → meth.locks = false → c.exceptionTable.toList = tableOf yH → gKK D cI cJ s → yC a0 s s.heap → va_P D gCL (gws (nad a0) cI cJ μ) s.heap → (∃ f, va_at D gCL (o, .inl (cJ, 1, .inr (.inl f))) s.heap) → s.heap.size = sz → lv_has lsv 5 [(0, .ref (nad a0 0)), (1, .int x), (2, .int w), (3, .ref o)] →
      W p l e { frames := 7, cells := 1, slots := 6, locals := 104 } s m args below meth c s.heap [] 0 0 (MQ below (va_Qi (fun (r : Int32) (_ : Unit) => r = Int32.ofInt kk) (dB D a0 cI cJ μ o kk b) (fun q => a0 ≤ q)) args s 1 6 (fun q => a0 ≤ q)) (F0 m 5 lsv [.int w, .int x, .ref (nad a0 0), .int 0, .ref o])) : dMet l D a0 cI cJ μ x w o kk b sz := by
  refine ny_ofWH (cc := method_3_code) (maxL := 5) (ret := some .int) (hh := yH) (by decide +kernel) rfl ?_
  intro p e s m args below meth c s₁ B hml htb hv
  obtain ⟨rfl, ⟨hsz, hP, hO, hC⟩, hK⟩ := hv
  have hts : ∀ v ∈ gTB, v.before ([Value.ref (nad a0 0), .int x, .int w, .ref o] : List Value).toArray s = true := fun v hv => atoms_spec (ws := yWs) B.pre v (List.mem_cons_of_mem _ hv)
  have hx := B.exec
  have hb : c.code = method_3_code := B.bytes
  rw [lg_entry_eq]
  have hl := lv_entry [Value.ref (nad a0 0), .int x, .int w, .ref o] (n := 5) (Nat.le_of_ble_eq_true rfl)
  generalize (lg_sl [Value.ref (nad a0 0), .int x, .int w, .ref o] ++ List.replicate (5 - (lg_sl [Value.ref (nad a0 0), .int x, .int w, .ref o]).length) Slot.unset).toArray = lsv at hl ⊢
  have hl : lv_has lsv 5 [(0, .ref (nad a0 0)), (1, .int x), (2, .int w), (3, .ref o)] := hl
  refine lv_aload_n (k := 3) hx hb (by decide +kernel) rfl (lv_at hl 3 rfl) ?_
  refine lv_iconst (n := 0) (v := 0) hx hb (by decide +kernel) (by decide) ?_
  refine lv_aload_n (k := 0) hx hb (by decide +kernel) rfl (lv_at hl 0 rfl) ?_
  refine lv_iload_n (k := 1) hx hb (by decide +kernel) rfl (lv_at hl 1 rfl) ?_
  refine lv_iload_n (k := 2) hx hb (by decide +kernel) rfl (lv_at hl 2 rfl) ?_
  exact k hx hb hml B.returns (findClass_of_methodNamed B.named) hts B.notSynchronized htb hK hC hP hO hsz hl
set_option maxRecDepth 100000 in
theorem y_dev0 (l : Launch) (hok : gokm μ) (h0 : a0 ≤ sz) (ho : a0 + 182 ≤ o) (hk : kk = 0) (hq : ∀ Q : Int → gM → Prop, gE 19 0 [gO 9 0, gI x.toInt, gI w.toInt] [] μ Q = Q b μ) : dMet l D a0 cI cJ μ x w o kk b sz := by
  refine y_dev l ?_
  intro p e s m args below meth c lsv hx hb hml hr hown hts hlk htb hK hC hP hO hsz hl
  obtain ⟨f, hO⟩ := hO
  obtain ⟨n, hrun⟩ := gE_run hq
  refine w_call (own := R_law) (idx := 7) (M := 19) (as' := [gI x.toInt, gI w.toInt]) (k0 := 0) (rest := [.int 0, .ref o]) (cI := cI) (cJ := cJ) (A := fun q => a0 ≤ q) hx hb hml hown hts hK (nad_inj a0) (by decide +kernel) hrun (show 3 ≤ mL 19 by decide +kernel) ?_ hok (show 2 = g_np 19 by decide +kernel) (gTB_at 1324 (by decide +kernel) rfl) (gTB_at 1325 (by decide +kernel) rfl) (gTB_at 1326 (by decide +kernel) rfl) (by decide +kernel) (by decide +kernel) hP va_S.rf (fun q h => y_gAd (by omega) h) ?_ (Nat.le_of_ble_eq_true rfl) hl.1 ⟨Nat.zero_le _, Nat.zero_le _⟩ (by decide +kernel) fun H1 locs1 z1 k1 hP1 hS1 ok1 okr => ?_
  · intro v hv
    rcases List.mem_cons.mp hv with rfl | hv
    · rfl
    · rcases List.mem_cons.mp hv with rfl | hv
      · exact gok32 _
      · rw [List.mem_singleton.mp hv]
        exact gok32 _
  · show [Value.int w, .int x, .ref (nad a0 0), .int 0, .ref o] = [gval (nad a0) (gI w.toInt), gval (nad a0) (gI x.toInt), .ref (nad a0 0), .int 0, .ref o]
    rw [gval_I, gval_I]
  · have e2 : (gRV 19 b).toList ++ [.int 0, .ref o] = [.int (Int32.ofInt b), .int 0, .ref o] := by
      unfold gRV
      rw [show gret (mT 19) = 1 by decide +kernel]
      rfl
    rw [e2]
    have hO1 := hO.kept (k1 o hO.lt (y_far ho hO.lt))
    refine lv_i2l hx hb (by decide +kernel) rfl ?_
    refine va_last (H0 := s.heap) hx hb hK.1 (y_twoP hP1 hO1) (y_two ho) hS1 0 1 rfl rfl (i := 0) (x := (Int32.ofInt b).toInt64) (vp_in_iff.mpr ⟨by decide, by decide⟩) (by decide +kernel) fun H2 locs2 hP2 _ hS2 => ?_
    obtain ⟨hP3, hO3⟩ := y_tl hP2
    refine lv_goto (tgt := 21) hx hb (show decode method_3_code (5 + 3 + 1 + 1) = .ok (.goto 11, 3) by decide +kernel) (by decide) ?_
    refine lv_iconst (n := 0) (v := 0) hx hb (by decide +kernel) (by decide) ?_
    refine W.widen (k := 1) (n := 6) (by omega) (by omega) ?_
    refine W.iret hx hb hr (fun t ht hW => ⟨⟨0, (), rfl, ?_, ?_, ?_⟩, hS2.F ht⟩) (fun q hq => hS2.2.2 q hq) (by decide +kernel) hlk
    · rw [hk]; rfl
    · rw [ht]; exact hP3
    · refine ⟨_, by rw [ht]; exact hO3, fun _ => ?_⟩
      rfl
set_option maxRecDepth 100000 in
theorem y_devX (l : Launch) {E : String} (h0 : a0 ≤ sz) (ho : a0 + 182 ≤ o) (hmet : tMet l D a0 cI cJ μ x w E sz) (hk : (E = yI ∧ kk = 1) ∨ (E = yN ∧ kk = 2)) : dMet l D a0 cI cJ μ x w o kk b sz := by
  refine y_dev l ?_
  intro p e s m args below meth c lsv hx hb hml hr hown hts hlk htb hK hC hP hO hsz hl
  obtain ⟨f, hO⟩ := hO
  obtain ⟨hpl, hcls, hn1, hn2, hnp, hcw, hiw, hrt⟩ := gmt_spec (M := 19) (by decide +kernel)
  have hcell := va_recv hK.1 hP (ncl (show 9 < 11 by decide)) (q0 := 0) (a := nad a0 0) (by rw [gws_at (show 0 < gLY.length by decide), gent_obj (ci := 9) rfl])
  have hpre : ∀ U : State, U.heap = s.heap → s.WarmedH U.vm → tPc D a0 cI cJ μ x w sz (Value.ref (nad a0 0) :: [.int x, .int w]).toArray U := fun U hU hW => ⟨rfl, ⟨by rw [hU]; exact hsz, by rw [hU]; exact hP, yC.warm hW (by rw [hU]; exact hC)⟩, gKK.warm hW hK⟩
  have hCF : CallFix p m c method_3_code 5 s args gTB R_law := ⟨hx, hb, hml, hown, hts⟩
  have hG : GoodIn gTB (gWs 19) := by
    intro v hv
    refine ⟨?_, good_of_word (gWs_good 19 (by decide +kernel) v hv)⟩
    rcases List.mem_cons.mp hv with rfl | hv
    · exact hcw
    · exact hv
  have hB : ∀ sig, parseMethodDescriptor (mY 19).desc = some sig → 2 = sig.parameters.length := by
    intro sig hsig
    rw [hsig] at hnp
    have h2 : g_np 19 = 2 := by decide +kernel
    rw [h2] at hnp
    exact (Option.some.inj hnp).symm
  have hrun : vx_Run p l e { frames := 7, cells := 1, slots := 6, locals := 104 } s m args below meth c s.heap [] 0 0 1 6 (F0 m 5 lsv [.int w, .int x, .ref (nad a0 0), .int 0, .ref o]) [.int 0, .ref o] (va_Qi (fun (_ : Int32) (_ : Unit) => False) (fun _ _ => True) (gAd (nad a0) sz) (Value.ref (nad a0 0) :: [.int x, .int w]).toArray) (tX D a0 cI cJ μ E sz) (gAd (nad a0) sz) :=
    vx_runV (C := "GatedDevices") (index := 7) (cc := method_3_code) (b := nad a0 0) (As := [.int x, .int w]) (rest := [.int 0, .ref o]) (n := 2) hCF hmet ⟨⟨rfl, rfl, by decide, by decide +kernel, pay_in hts hG, List.mem_cons_self, hts _ hcw, hts _ hiw, ⟨hn1, hn2⟩, hB, hts _ (gTB_at 1324 (by decide +kernel) rfl)⟩, hts _ (gTB_at 1325 (by decide +kernel) rfl), hts _ (gTB_at 1326 (by decide +kernel) rfl)⟩ ⟨tPc_blind, hcell, hpre⟩ rfl rfl hl.1 rfl (lv_room (Nat.le_of_ble_eq_true rfl)) (show decode method_3_code 5 = .ok (.invokevirtual 7, 3) by decide +kernel) ⟨by decide, by decide⟩
  refine vx_calli hrun va_S.rf (fun q _ h => y_gAd h0 h) (fun q h => y_gAd h0 h) (fun q _ h => y_gAd h0 h) (fun E' ce q9 u t H1 locs1 ht hvm hpx hBX z1 k1 hS1 hce hcv hcl => ?_) (fun r u t H1 locs1 ht hvm hpost _ _ _ _ => hpost.elim)
  obtain ⟨rfl, hPt⟩ := hBX
  rw [ht] at hPt
  have hO1 := hO.kept (k1 o hO.lt (y_far ho (by rw [← hsz]; exact hO.lt)))
  obtain ⟨-, hbad, ⟨nc1, nc2⟩, -⟩ := hC
  have hfin : ∀ {lsv2 : Array Slot} {pc : Nat} {v : Int32}, v = Int32.ofInt kk → kk ≠ 0 → decode method_3_code pc = .ok (.ireturn, 1) → W p l e { frames := 7, cells := 1, slots := 6, locals := 104 } s m args below meth c H1 locs1 (0 + 1) (0 + 6) (MQ below (va_Qi (fun (r : Int32) (_ : Unit) => r = Int32.ofInt kk) (dB D a0 cI cJ μ o kk b) (fun q => a0 ≤ q)) args s 1 6 (fun q => a0 ≤ q)) (F0 m pc lsv2 [.int v]) := by
    intro lsv2 pc v ev hk0 dg
    exact W.iret hx hb hr (fun t2 ht2 hW => ⟨⟨v, (), rfl, ev, by rw [ht2]; exact hPt, f, by rw [ht2]; exact hO1, fun q => absurd q hk0⟩, hS1.F ht2⟩) (fun q hq => hS1.2.2 q hq) dg hlk
  have htl : c.exceptionTable.toList = [⟨0, 10, 13, 13⟩, ⟨0, 10, 17, 15⟩] := htb
  rcases hk with ⟨rfl, hk⟩ | ⟨rfl, hk⟩
  · refine vx_catch (own := R_law) (name := yI) hown [] ⟨0, 10, 13, 13⟩ [⟨0, 10, 17, 15⟩] htl (fun z hz => nomatch hz) (by decide) (by decide) (hts _ (gTB_at 1322 (by decide +kernel) rfl)) (va_Nw.use rfl (hbad _ (by simp [yBad]))) hce hcv hcl ?_
    refine lv_astore (lv' := [(4, .ref q9), (0, .ref (nad a0 0)), (1, .int x), (2, .int w), (3, .ref o)]) hx hb (show decode method_3_code 13 = .ok (.astore 4, 2) by decide +kernel) hl (by decide) rfl (fun lsv2 hl2 => ?_)
    refine lv_iconst (n := 1) (v := 1) hx hb (by decide +kernel) (by decide) ?_
    exact hfin (by rw [hk]; rfl) (by omega) (by decide +kernel)
  · refine vx_catch (own := R_law) (name := yN) hown [⟨0, 10, 13, 13⟩] ⟨0, 10, 17, 15⟩ [] htl (fun z hz => ?_) (by decide) (by decide) (hts _ (gTB_at 1323 (by decide +kernel) rfl)) (va_Nw.use rfl (hbad _ (by simp [yBad]))) hce hcv hcl ?_
    · rw [List.mem_singleton.mp hz]
      exact Or.inr ⟨by decide, yI, hts _ (gTB_at 1322 (by decide +kernel) rfl), nc2⟩
    refine lv_astore (lv' := [(4, .ref q9), (0, .ref (nad a0 0)), (1, .int x), (2, .int w), (3, .ref o)]) hx hb (show decode method_3_code 17 = .ok (.astore 4, 2) by decide +kernel) hl (by decide) rfl (fun lsv2 hl2 => ?_)
    refine lv_iconst (n := 2) (v := 2) hx hb (by decide +kernel) (by decide) ?_
    exact hfin (by rw [hk]; rfl) (by omega) (by decide +kernel)
/-- every road -/
theorem y_device {N : Int} (l : Launch) (hl0 : l.stackTraces = false) (hI : gInv N μ) (hok : gokm μ) (h0 : a0 ≤ sz) (ho : a0 + 182 ≤ o) : ∃ (b : Int) (ν : gM), gInv (N + 1) ν ∧ (∀ Q : Int → gM → Prop, gE 314 0 [gO 10 167, gI x.toInt, gI w.toInt] [] μ Q = Q b ν) ∧ dMet l D a0 cI cJ μ x w o (ν 167 2) b sz ∧ (ν 167 2 = 0 ∨ ν 167 2 = 1 ∨ ν 167 2 = 2) := by
  obtain ⟨b, ν, h1, h2, h3, h4, h5⟩ := c_device (e := x.toInt) (w := w.toInt) hI
  refine ⟨b, ν, h1, h4, ?_, ?_⟩
  · rw [h2]
    unfold tDvK
    by_cases g1 : 0 ≤ x.toInt ∧ x.toInt < μ 167 12
    · rw [if_pos g1]
      by_cases g2 : 0 ≤ w.toInt ∧ w.toInt ≤ 7
      · rw [if_pos g2]
        exact y_dev0 l hok h0 ho rfl (h5 g1 g2)
      · rw [if_neg g2]
        exact y_devX l h0 ho (y_thrN l hl0 hok h0 (by rw [h3]; exact g1) g2) (Or.inr ⟨rfl, rfl⟩)
    · rw [if_neg g1]
      exact y_devX l h0 ho (y_thrI l hl0 hok h0 (by rw [h3]; exact g1)) (Or.inl ⟨rfl, rfl⟩)
  · rw [h2]
    unfold tDvK
    split
    · split
      · exact Or.inl rfl
      · exact Or.inr (Or.inr rfl)
    · exact Or.inr (Or.inl rfl)
end YD
