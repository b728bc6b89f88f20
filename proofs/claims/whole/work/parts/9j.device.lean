/-! 'device' that throws, and the law's 'device' that catches -/
def yI : String := "java/lang/IndexOutOfBoundsException"
def yN : String := "java/util/NoSuchElementException"
def yNm : List String := ["java/lang/RuntimeException", "java/lang/Exception"]
def yRx : ByteArray := ⟨#[0x2a, 0x2b, 0xb7, 0x00, 0x0d, 0xb1]⟩
def yBad : List Cond := [.declares (Bundle.initS "java/lang/RuntimeException"), .declares (Bundle.initS "java/lang/Exception"), .declares (Bundle.initS "java/lang/Throwable"), .castable yI yI, .castable yN yN]
def yAI : List Cond := (ny_at "GatedDevices" 165 yI 7 Bundle.six yNm).filter vx_no
def yAN : List Cond := (ny_at "GatedDevices" 206 yN 13 yRx yNm).filter vx_no
theorem yAI_t : yAI.all (fun w => decide (w ∈ tables_1)) = true := by decide +kernel
theorem yAN_t : yAN.all (fun w => decide (w ∈ tables_1)) = true := by decide +kernel
theorem yAI_b : ∀ w ∈ yAI.filter (fun w => !goodWord w), w ∈ yBad := by decide +kernel
theorem yAN_b : ∀ w ∈ yAN.filter (fun w => !goodWord w), w ∈ yBad := by decide +kernel
theorem yAI_o : ∀ w ∈ Cond.classLink "GatedDevices" 161 yI :: Cond.initialized yI :: yAI, vx_ot w = true := by decide +kernel
theorem yAN_o : ∀ w ∈ Cond.classLink "GatedDevices" 202 yN :: Cond.initialized yN :: yAN, vx_ot w = true := by decide +kernel
theorem yBad_on : ∀ w ∈ yBad, w.onTables = true := by decide +kernel
theorem yBad_t : ∀ w ∈ yBad, w ∈ tables_1 := by decide +kernel
theorem y_at {args : Array Value} {s : State} {L : List Cond} (ht : L.all (fun w => decide (w ∈ tables_1)) = true) (hb : ∀ w ∈ L.filter (fun w => !goodWord w), w ∈ yBad) (hts : ∀ w ∈ gTB, w.before args s = true) (hbad : ∀ w ∈ yBad, va_Nw w s) : ∀ w ∈ L, w.before args s = true :=
  vx_hat (B := yBad) (fun w hw => hts w (gTB_in (of_decide_eq_true (List.all_eq_true.mp ht w (List.mem_filter.mp hw).1)) (List.mem_filter.mp hw).2)) hb (fun w hw => va_Nw.use (yBad_on w hw) (hbad w hw))
/-- what a throw asks of the machine, beside good words -/
def yC (a0 : Nat) (s : State) (H : Heap) : Prop := (vx_Zq Bundle.tN "UNASSIGNED_STACK" Bundle.steD (fun q => a0 ≤ q) s H ∧ vx_Zq Bundle.tN "SUPPRESSED_SENTINEL" Bundle.listD (fun q => a0 ≤ q) s H) ∧ (∀ w ∈ yBad, va_Nw w s) ∧ (va_Nc yI yN s ∧ va_Nc yN yI s) ∧ (∃ sa, vk_R "GatedDevices" 163 "no such device" sa s) ∧ ∃ sa, vk_R "GatedDevices" 204 "no such what" sa s
theorem yC.warm {a0 : Nat} {s U : State} {H : Heap} (hW : s.WarmedH U.vm) (h : yC a0 s H) : yC a0 U H := by
  obtain ⟨⟨h1, h2⟩, h3, ⟨h4, h5⟩, ⟨sa, h6⟩, ⟨sb, h7⟩⟩ := h
  refine ⟨⟨vx_Zq.moved hW.alike h1, vx_Zq.moved hW.alike h2⟩, fun w hw => ?_, ⟨va_Nc.moved hW.alike h4, va_Nc.moved hW.alike h5⟩, ⟨sa, vk_R.warm hW h6⟩, ⟨sb, vk_R.warm hW h7⟩⟩
  have hz := h3 w hw
  simp only [yBad, List.mem_cons, List.not_mem_nil, or_false] at hw
  rcases hw with rfl | rfl | rfl | rfl | rfl
  · exact va_Nw.warmD hW hz
  · exact va_Nw.warmD hW hz
  · exact va_Nw.warmD hW hz
  · exact va_Nw.warmC hW hz
  · exact va_Nw.warmC hW hz
theorem yC.kept {a0 : Nat} {s : State} {H H1 : Heap} (h : yC a0 s H) (hq : ∀ q : Nat, q < H.size → ¬ a0 ≤ q → H1[q]? = H[q]?) : yC a0 s H1 := by
  obtain ⟨⟨h1, h2⟩, h3⟩ := h
  exact ⟨⟨vx_Zq.kept h1 hq, vx_Zq.kept h2 hq⟩, h3⟩
theorem yC.same {a0 : Nat} {s U : State} (hv : U.vm = s.vm) (hh : U.heap = s.heap) (h : yC a0 s s.heap) : yC a0 U U.heap := by
  obtain ⟨⟨h1, h2⟩, h3, ⟨h4, h5⟩, ⟨sa, h6⟩, ⟨sb, h7⟩⟩ := h
  have ha : s.vm.Alike U.vm := by rw [hv]; exact Vm.Alike.refl _
  rw [hh]
  exact ⟨⟨vx_Zq.moved ha h1, vx_Zq.moved ha h2⟩, fun w hw => va_Nw.same (yBad_on w hw) hv.symm (h3 w hw), ⟨va_Nc.moved ha h4, va_Nc.moved ha h5⟩, ⟨sa, vk_R.same hv h6⟩, ⟨sb, vk_R.same hv h7⟩⟩
theorem y_isD1 {e : Int} {μ : gM} (h0 : 0 ≤ e) (h1 : e < μ 18 4) (Q : Int → gM → Prop) : gE 38 0 [gO 9 0, gI e] [] μ Q = Q 1 μ := by
  rw [e38_0, e38_1, if_neg (by omega), e38_4, e38_5, e38_6, e38_9, e38_12, e38_15, if_neg (by show ¬ μ 18 4 ≤ e; omega), e38_18, e38_19, e38_23 _ _ _ (Or.inr rfl)]
theorem y_isD0 {e : Int} {μ : gM} (h : ¬ (0 ≤ e ∧ e < μ 18 4)) (Q : Int → gM → Prop) : gE 38 0 [gO 9 0, gI e] [] μ Q = Q 0 μ := by
  by_cases h0 : e < 0
  · rw [e38_0, e38_1, if_pos h0, e38_22, e38_23 _ _ _ (Or.inl rfl)]
  · rw [e38_0, e38_1, if_neg h0, e38_4, e38_5, e38_6, e38_9, e38_12, e38_15, if_pos (by show μ 18 4 ≤ e; omega), e38_22, e38_23 _ _ _ (Or.inl rfl)]
def tPc (D : va_G) (a0 : Nat) (cI cJ : ClassId) (μ : gM) (x w : Int32) (sz : Nat) : Array Value → State → Prop := va_Pc [.ref (nad a0 0), .int x, .int w] (fun U => (U.heap.size = sz ∧ va_P D gCL (gws (nad a0) cI cJ μ) U.heap ∧ yC a0 U U.heap) ∧ gKK D cI cJ U)
theorem gKK.call {D : va_G} {cI cJ : ClassId} {U : State} {g : JFrame} {mk : MethodId} {a : Array Value} (h : gKK D cI cJ U) : gKK D cI cJ (U.calling g mk a) :=
  ⟨va_K.moved (u := U) (U := U.calling g mk a) (Vm.Alike.refl U.vm) h.1, fun w hw => va_Nw.same (u := U) (U := U.calling g mk a) (gNest_tabs hw) rfl (h.2 w hw)⟩
theorem tPc_blind {D : va_G} {a0 : Nat} {cI cJ : ClassId} {μ : gM} {x w : Int32} {sz : Nat} : FrameBlind (tPc D a0 cI cJ μ x w sz) := by
  rintro a U g mk ⟨q0, ⟨q1, q2, q3⟩, qK⟩
  exact ⟨q0, ⟨q1, q2, yC.same (s := U) (U := U.calling g mk a) rfl rfl q3⟩, gKK.call qK⟩
def tX (D : va_G) (a0 : Nat) (cI cJ : ClassId) (μ : gM) (E : String) (sz : Nat) : String → State → State → Prop := vx_X (fun _ : Unit => True) (fun E' _ t => E' = E ∧ va_P D gCL (gws (nad a0) cI cJ μ) t.heap) (gAd (nad a0) sz)
def tMet (l : Launch) (D : va_G) (a0 : Nat) (cI cJ : ClassId) (μ : gM) (x w : Int32) (E : String) (sz : Nat) : Prop :=
  vx_Met l (mY 19) (gWs 19) { frames := 6, cells := 1, slots := 6, locals := 82 } (tPc D a0 cI cJ μ x w sz) (va_Qi (fun (_ : Int32) (_ : Unit) => False) (fun _ _ => True) (gAd (nad a0) sz)) (tX D a0 cI cJ μ E sz) 1 6 (gAd (nad a0) sz)
theorem y_gAd {a0 sz q : Nat} (h0 : a0 ≤ sz) (h : gAd (nad a0) sz q) : a0 ≤ q := by
  rcases h with ⟨k, -, rfl⟩ | h
  · exact Nat.le_add_right _ _
  · omega
/-- the road into either throw, up to the test of the device -/
theorem y_thr {D : va_G} {a0 : Nat} {cI cJ : ClassId} {μ : gM} {x w : Int32} {sz : Nat} {E : String} {a : Int} (l : Launch) (hok : gokm μ) (h0 : a0 ≤ sz) (hq : ∀ Q : Int → gM → Prop, gE 38 0 [gO 9 0, gI x.toInt] [] μ Q = Q a μ)
    (k : ∀ {p : Program} {e : Env} {s : State} {m : MethodId} {args : Array Value} {below : List Frame} {meth : Method} {c : Code} {H : Heap} {locs : List Loc} {lsv : Array Slot}, p.tables.exec = Jvm.exec → c.code = mB 19 → c.maxLocals = 3 → s.vm.findClass "GatedDevices" = some m.cls → (∀ w ∈ gTB, w.before args s = true) → meth.locks = false → (∀ x ∈ c.exceptionTable.toList, False) → yC a0 s s.heap → va_P D gCL (gws (nad a0) cI cJ μ) H → va_S (gAd (nad a0) sz) s.heap H locs → s.heap.size = sz → lv_has lsv 3 [(0, .ref (nad a0 0)), (1, .int x), (2, .int w)] →
      W p l e { frames := 6, cells := 1, slots := 6, locals := 82 } s m args below meth c H locs 0 0 (vx_MQ below (va_Qi (fun (_ : Int32) (_ : Unit) => False) (fun _ _ => True) (gAd (nad a0) sz)) (tX D a0 cI cJ μ E sz) args s 1 6 (gAd (nad a0) sz)) (F0 m 5 lsv [.int (Int32.ofInt a)])) : tMet l D a0 cI cJ μ x w E sz := by
  obtain ⟨hpl, hcls, -⟩ := gmt_spec (M := 19) (by decide +kernel)
  refine vx_ofW (cc := mB 19) (maxL := mL 19) (ret := mT 19) hpl rfl ?_
  intro p e s m args below meth c s₁ B hml ht hv
  obtain ⟨rfl, ⟨hsz, hP, hC⟩, hK⟩ := hv
  have hts : ∀ v ∈ gTB, v.before ([Value.ref (nad a0 0), .int x, .int w] : List Value).toArray s = true := fun v hv => atoms_spec (ws := gWs 19) B.pre v (List.mem_cons_of_mem _ hv)
  have hx := B.exec
  have hb : c.code = mB 19 := B.bytes
  have hown : s.vm.findClass "GatedDevices" = some m.cls := by
    have h1 := findClass_of_methodNamed B.named
    rw [hcls] at h1
    exact h1
  have hml3 : c.maxLocals = 3 := hml.trans (by decide +kernel)
  rw [lg_entry_eq]
  have hl := lv_entry [Value.ref (nad a0 0), .int x, .int w] (n := mL 19) (show 3 ≤ mL 19 by decide +kernel)
  generalize (lg_sl [Value.ref (nad a0 0), .int x, .int w] ++ List.replicate (mL 19 - (lg_sl [Value.ref (nad a0 0), .int x, .int w]).length) Slot.unset).toArray = lsv at hl ⊢
  have hl : lv_has lsv 3 [(0, .ref (nad a0 0)), (1, .int x), (2, .int w)] := by
    rw [show mL 19 = 3 by decide +kernel] at hl
    exact hl
  obtain ⟨n, hrun⟩ := gE_run hq
  refine lv_aload_n (k := 0) hx hb (by decide +kernel) rfl (lv_at hl 0 rfl) ?_
  refine lv_iload_n (k := 1) hx hb (by decide +kernel) rfl (lv_at hl 1 rfl) ?_
  refine w_call (own := "GatedDevices") (idx := 99) (M := 38) (as' := [gI x.toInt]) (k0 := 0) (rest := []) (cI := cI) (cJ := cJ) (A := gAd (nad a0) sz) hx hb hml3 hown hts hK (nad_inj a0) (by decide +kernel) hrun (show 2 ≤ mL 38 by decide +kernel) ?_ hok (show 1 = g_np 38 by decide +kernel) (gTB_at 810 (by decide +kernel) rfl) (gTB_at 812 (by decide +kernel) rfl) ((gml_spec (o := 9) (idx := 99) rfl).2.2.2.elim (fun h => h.2.2) (fun h => absurd h.1 (by decide))) (by decide +kernel) (by decide +kernel) hP va_S.rf (fun q h => by rw [← hsz]; exact h) ?_ (Nat.zero_le _) hl.1 ⟨Nat.zero_le _, Nat.zero_le _⟩ (by decide +kernel) fun H1 locs1 z1 k1 hP1 hS1 ok1 okr => ?_
  · intro v hv
    rcases List.mem_cons.mp hv with rfl | hv
    · rfl
    · rw [List.mem_singleton.mp hv]
      exact gok32 _
  · show [Value.int x, .ref (nad a0 0)] = [gval (nad a0) (gI x.toInt), .ref (nad a0 0)]
    rw [gval_I]
  · have e2 : (gRV 38 a).toList ++ [] = [.int (Int32.ofInt a)] := by
      unfold gRV
      rw [show gret (mT 38) = 2 by decide +kernel]
      rfl
    rw [e2]
    exact k hx hb hml3 hown hts B.notSynchronized ht hC hP1 hS1 hsz hl
theorem y_Xend {D : va_G} {a0 : Nat} {cI cJ : ClassId} {μ : gM} {E : String} {sz : Nat} {s t : State} {H : Heap} {locs : List Loc} (hP : va_P D gCL (gws (nad a0) cI cJ μ) H) (hS : va_S (gAd (nad a0) sz) s.heap H locs) (f1 : H.size ≤ t.heap.size) (f2 : ∀ q : Nat, q < H.size → t.heap[q]? = H[q]?) : tX D a0 cI cJ μ E sz E s t :=
  ⟨(), trivial, ⟨rfl, hP.kept (fun k q hq => f2 q.1 ((hP k q hq).lt))⟩, ⟨Nat.le_trans hS.1 f1, fun q h1 h2 => (f2 q (Nat.lt_of_lt_of_le h1 hS.1)).trans (hS.2.1 q h1 h2)⟩⟩
theorem y_thrI {D : va_G} {a0 : Nat} {cI cJ : ClassId} {μ : gM} {x w : Int32} {sz : Nat} (l : Launch) (hl0 : l.stackTraces = false) (hok : gokm μ) (h0 : a0 ≤ sz) (hr : ¬ (0 ≤ x.toInt ∧ x.toInt < μ 18 4)) : tMet l D a0 cI cJ μ x w yI sz := by
  refine y_thr l hok h0 (y_isD0 hr) ?_
  intro p e s m args below meth c H locs lsv hx hb hml hown hts hlk ht hC hP hS hsz hl
  obtain ⟨⟨hU, hN⟩, hbad, -, ⟨sa, hsa⟩, -⟩ := hC
  refine lv_if_ne (tgt := 18) hx hb (show decode (mB 19) 5 = .ok (.ifCond .ne 13, 3) by decide +kernel) (by decide) (fun h => absurd rfl h) (fun _ => ?_)
  exact ny_throw (cls := yI) (text := "no such device") (names := yNm) (ik := 161) (is := 163) (ic := 165) (ix := 7) (rx := Bundle.six) (A := fun q => a0 ≤ q) hx hb hl0 Bundle.six_0 Bundle.six_1 Bundle.six_2 Bundle.six_5 hown (by decide +kernel) (by decide +kernel) (hts _ (gTB_at 1328 (by decide +kernel) rfl)) (hts _ (gTB_at 16 (by decide +kernel) rfl)) hsa (y_at yAI_t yAI_b hts hbad) yAI_o hU hN ⟨hS.1, fun q h1 h2 => hS.2.1 q h1 (fun z => h2 (y_gAd h0 z)), fun q hq => y_gAd h0 (hS.2.2 q hq)⟩ (hl.1.trans hml.symm) (by decide +kernel) (by decide +kernel) (by decide +kernel) (by decide +kernel) (by decide +kernel) (fun x hx => (ht x hx).elim) (by decide) (by decide) (by decide) (by decide) hlk (fun t _ f1 f2 => y_Xend hP hS f1 f2) hS.2.2 (by decide) (by decide)
theorem y_thrN {D : va_G} {a0 : Nat} {cI cJ : ClassId} {μ : gM} {x w : Int32} {sz : Nat} (l : Launch) (hl0 : l.stackTraces = false) (hok : gokm μ) (h0 : a0 ≤ sz) (hr : 0 ≤ x.toInt ∧ x.toInt < μ 18 4) (hw : ¬ (0 ≤ w.toInt ∧ w.toInt ≤ 7)) : tMet l D a0 cI cJ μ x w yN sz := by
  refine y_thr l hok h0 (y_isD1 hr.1 hr.2) ?_
  intro p e s m args below meth c H locs lsv hx hb hml hown hts hlk ht hC hP hS hsz hl
  obtain ⟨⟨hU, hN⟩, hbad, -, -, ⟨sa, hsa⟩⟩ := hC
  refine lv_if_ne (tgt := 18) hx hb (show decode (mB 19) 5 = .ok (.ifCond .ne 13, 3) by decide +kernel) (by decide) (fun _ => ?_) (fun h => absurd h (by decide))
  refine lv_iload_n (k := 2) hx hb (by decide +kernel) rfl (lv_at hl 2 rfl) ?_
  refine lv_tableOut (tgt := 174) hx hb (show decode (mB 19) (18 + 1) = .ok (.tableswitch 155 0 7 #[45, 60, 75, 86, 98, 113, 125, 137], 45) by decide +kernel) (by omega) (by decide) ?_
  exact ny_throw (cls := yN) (text := "no such what") (names := yNm) (ik := 202) (is := 204) (ic := 206) (ix := 13) (rx := yRx) (A := fun q => a0 ≤ q) hx hb hl0 (by decide +kernel) (by decide +kernel) (by decide +kernel) (by decide +kernel) hown (by decide +kernel) (by decide +kernel) (hts _ (gTB_at 1398 (by decide +kernel) rfl)) (hts _ (gTB_at 18 (by decide +kernel) rfl)) hsa (y_at yAN_t yAN_b hts hbad) yAN_o hU hN ⟨hS.1, fun q h1 h2 => hS.2.1 q h1 (fun z => h2 (y_gAd h0 z)), fun q hq => y_gAd h0 (hS.2.2 q hq)⟩ (hl.1.trans hml.symm) (by decide +kernel) (by decide +kernel) (by decide +kernel) (by decide +kernel) (by decide +kernel) (fun x hx => (ht x hx).elim) (by decide) (by decide) (by decide) (by decide) hlk (fun t _ f1 f2 => y_Xend hP hS f1 f2) hS.2.2 (by decide) (by decide)
