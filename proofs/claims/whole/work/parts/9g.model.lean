/-! calls from any frame; the check's constructor -/
section WCALL
variable {p : Program} {l : Launch} {e : Env} {R : Room} {s : State} {m : MethodId} {args : Array Value} {below : List Frame} {meth : Method} {c : Code} {Q : State → Prop} {A : Nat → Prop} {D : va_G} {ad : Nat → Nat} {cI cJ : ClassId} {pc idx cells slots nL M : Nat} {μ μ' : gM} {bytes : ByteArray} {H : Heap} {locs : List Loc} {lsv : Array Slot} {own : String}
theorem gE_run {M : Nat} {ls : List gv} {μ μ1 : gM} {a : Int} (h : ∀ Q : Int → gM → Prop, gE M 0 ls [] μ Q = Q a μ1) : ∃ n, grun n M (0, ls, [], μ) = some (a, μ1) := by
  have h1 : gE M 0 ls [] μ (fun r m => r = a ∧ m = μ1) := by
    rw [h]
    exact ⟨rfl, rfl⟩
  obtain ⟨n, r, m, h2, rfl, rfl⟩ := h1
  exact ⟨n, h2⟩
/-- a call of a public method, from a frame of any kind -/
theorem w_call {k0 n : Nat} {r : Int} {as' : List gv} {st0 rest : List Value} (hx : p.tables.exec = Jvm.exec) (hb : c.code = bytes) (hml : c.maxLocals = nL) (hown : s.vm.findClass own = some m.cls) (hts : ∀ w ∈ gTB, w.before args s = true) (hKK : gKK D cI cJ s) (hi : gInj ad) (hM : M < gMT.length) (hrun : grun n M (0, g_ent M (gO (mO M) k0 :: as'), [], μ) = some (r, μ')) (hexp : (g_exp (gO (mO M) k0 :: as')).length ≤ mL M) (hoka : gokl (gO (mO M) k0 :: as')) (hokm : gokm μ) (hn : as'.length = g_np M) (hlw : Cond.methodLink own idx (mY M) ∈ gTB) (hin : Cond.instanceMethod (mY M) ∈ gTB) (hsel : Cond.selects (mY M).cls (mY M) (mY M) ∈ gTB) (hR1 : mF M + 1 ≤ R.frames) (hR2 : 8 + (mL M + 11) + mZ M ≤ R.locals) (hP : va_P D gCL (gws ad cI cJ μ) H) (hS : va_S A s.heap H locs) (hfree : ∀ q, gAd ad H.size q → A q)
    (hst : st0 = (as'.map (gval ad)).reverse ++ .ref (ad k0) :: rest) (hrest : (rest.map fun v => v.category).sum ≤ 8) (hlsz : lsv.size = nL) (hcs : cells ≤ R.cells ∧ slots ≤ R.slots) (d : decode bytes pc = .ok (.invokevirtual idx, 3))
    (kk : ∀ (H1 : Heap) (locs1 : List Loc), H.size ≤ H1.size → (∀ q : Nat, q < H.size → ¬ gAd ad H.size q → H1[q]? = H[q]?) → va_P D gCL (gws ad cI cJ μ') H1 → va_S A s.heap H1 locs1 → gokm μ' → gokr M r → W p l e R s m args below meth c H1 locs1 cells slots Q (F0 m (pc + 3) lsv ((gRV M r).toList ++ rest))) : W p l e R s m args below meth c H locs cells slots Q (F0 m pc lsv st0) := by
  subst hst
  obtain ⟨⟨okr, okm⟩, hmet⟩ := g_met (D := D) (cI := cI) (cJ := cJ) l hi hM hexp hoka hokm hrun
  obtain ⟨hpl, hcls, hn1, hn2, hnp, hcw, hiw, hrt⟩ := gmt_spec hM
  have hpre : ∀ U : State, U.heap = H → s.WarmedH U.vm → gPc D ad cI cJ (gO (mO M) k0 :: as') μ H.size ((gO (mO M) k0 :: as').map (gval ad)).toArray U := fun U hU hW => ⟨rfl, by rw [hU], by rw [hU]; exact hP, gKK.warm hW hKK⟩
  have hCF : CallFix p m c bytes nL s args gTB own := ⟨hx, hb, hml, hown, hts⟩
  have hly : gLY[k0]? = some (0, mO M) := hoka (gO (mO M) k0) List.mem_cons_self
  have ho : mO M < 11 := (gly_spec hly).1
  have hcell := va_recv hKK.1 hP (ncl ho) (q0 := k0) (a := ad k0) (by rw [gws_at (g_lt_of hly), gent_obj hly])
  rw [show (gcl (mO M)).1 = (mY M).cls by rw [hcls]; exact gcl_own ho] at hcell
  have hB : ∀ sig, parseMethodDescriptor (mY M).desc = some sig → as'.length = sig.parameters.length := by
    intro sig hsig
    rw [hn]
    rw [hsig] at hnp
    exact (Option.some.inj hnp).symm
  have hW8 : 2 * (F0 m pc lsv ((as'.map (gval ad)).reverse ++ .ref (ad k0) :: rest)).monitorRoom + (rest.map fun v => v.category).sum ≤ 8 := lv_room hrest
  have hG : GoodIn gTB (gWs M) := by
    intro w hw
    refine ⟨?_, good_of_word (gWs_good M hM w hw)⟩
    rcases List.mem_cons.mp hw with rfl | hw
    · exact hcw
    · exact hw
  have hrun2 : va_Run p l e R s m args below meth c H locs cells slots 0 0 (F0 m pc lsv ((as'.map (gval ad)).reverse ++ .ref (ad k0) :: rest)) rest (gQ D ad cI cJ M r μ' (gAd ad H.size) ((gO (mO M) k0 :: as').map (gval ad)).toArray) (gAd ad H.size) :=
    va_runV (C := (mY M).cls) (b := ad k0) (As := as'.map (gval ad)) (rest := rest) (n := as'.length) hCF (hmet H.size) ⟨⟨rfl, rfl, hR1, hR2, pay_in hts hG, List.mem_cons_self, hts _ hcw, hts _ hiw, ⟨hn1, hn2⟩, hB, hts _ hlw⟩, hts _ hin, hts _ hsel⟩ ⟨gQ_blind, hcell, hpre⟩ rfl (by rw [List.length_map]) hlsz rfl hW8 d ⟨hcs.1, hcs.2⟩
  exact va_callg hrun2 hS (fun q _ h => hfree q h) hfree (fun H1 locs1 hz hk hP1 hS1 => kk H1 locs1 hz hk hP1 hS1 okm okr)
end WCALL
theorem nad_inj (a0 : Nat) : gInj (nad a0) := fun i j _ _ h => by unfold nad at h; omega
def nWd (j : Int) : gM := fun a b => if a = 169 ∧ 0 ≤ b ∧ b < j then wdr.getD b.toNat 0 else 0
theorem nWd_0 : nWd 0 = nZ := by
  funext a b
  unfold nWd nZ
  rw [if_neg (by omega)]
theorem nWd_step {i v : Int} (h0 : 0 ≤ i) (hv : wdr.getD i.toNat 0 = v) : gS (nWd i) 169 i v = nWd (i + 1) := by
  funext a b
  unfold gS nWd
  by_cases h1 : a = 169 ∧ b = i
  · rw [if_pos h1, if_pos (by omega), h1.2, hv]
  · rw [if_neg h1]
    by_cases h2 : a = 169 ∧ 0 ≤ b ∧ b < i
    · rw [if_pos h2, if_pos (by omega)]
    · rw [if_neg h2, if_neg (by omega)]
def nMd : gM := gS (nWd 46) 167 5 (-1)
def nAll : gM := nmix 167 nMd (nGd 0)
theorem wdr_in (j : Nat) : 0 ≤ wdr.getD j 0 ∧ wdr.getD j 0 ≤ 255 := by
  by_cases h : j < 46
  · have : ∀ i, i < 46 → 0 ≤ wdr.getD i 0 ∧ wdr.getD i 0 ≤ 255 := by decide +kernel
    exact this j h
  · rw [List.getD_eq_getElem?_getD, List.getElem?_eq_none (show wdr.length ≤ j from Nat.not_lt.mp h)]
    exact ⟨Int.le_refl _, by decide⟩
theorem nAll_in (a : Nat) (b : Int) : -1000 ≤ nAll a b ∧ nAll a b ≤ 1000 := by
  have hw := wdr_in b.toNat
  simp only [nAll, nMd, nWd, nGd, nSta, nSta2, nRea, nTree, nTab, nmix, nfillM, gS, nZ]
  (repeat' split) <;> omega
theorem toInt64_small {z : Int} (h1 : -1000 ≤ z) (h2 : z ≤ 1000) : (Int64.ofInt z).toInt = z := by
  have h : in64 z := by unfold in64; omega
  exact toInt_ofInt64 h
theorem nAll_ok : gokm nAll := by
  intro a b
  obtain ⟨h1, h2⟩ := nAll_in a b
  split
  · exact toInt64_small h1 h2
  · exact ofInt_toInt (by omega) (by omega)
section NWORD
variable {p : Program} {l : Launch} {e : Env} {R : Room} {s : State} {m : MethodId} {args : Array Value} {below : List Frame} {meth : Method} {c : Code} {Q : State → Prop} {A : Nat → Prop} {D : va_G} {a0 : Nat} {cI cJ : ClassId} {cc pc maxL : Nat} {ls st : List gv} {cells slots : Nat} {bytes : ByteArray}
/-- one character of the words' row: 'dup; i; v; iastore', i below 6 -/
theorem n_word0 {i v : Int} (C0 : nCx p s m args meth c A D a0 cI cJ 167 10 bytes maxL) (h0 : 0 ≤ i) (h1 : i < 46) (hv : wdr.getD i.toNat 0 = v) (hv2 : (Int8.ofInt v).toInt32 = Int32.ofInt v) (d0 : decode bytes pc = .ok (.dup, 1)) (d1 : decode bytes (pc + 1) = .ok (.iconst i, 1)) (d2 : decode bytes (pc + 2) = .ok (.bipush v, 2)) (d4 : decode bytes (pc + 4) = .ok (.iastore, 1))
    (kk : nW p l e R s m args below meth c Q A D a0 cI cJ 167 10 cc 3 (pc + 5) ls (gA 46 169 :: st) (nWd (i + 1)) cells slots) : nW p l e R s m args below meth c Q A D a0 cI cJ 167 10 cc 3 pc ls (gA 46 169 :: st) (nWd i) cells slots := by
  refine n_dup C0 d0 ?_
  refine n_iconst C0 d1 ?_
  refine n_bipush C0 d2 hv2 ?_
  refine n_iast C0 (q0 := 2) (n := 46) rfl (by decide) (by decide) h0 (by omega) d4 ?_
  rw [show (167 + 2 : Nat) = 169 from rfl, nWd_step h0 hv]
  exact kk
theorem n_word {i v : Int} (C0 : nCx p s m args meth c A D a0 cI cJ 167 10 bytes maxL) (h0 : 0 ≤ i) (h1 : i < 46) (hi2 : (Int8.ofInt i).toInt32 = Int32.ofInt i) (hv : wdr.getD i.toNat 0 = v) (hv2 : (Int8.ofInt v).toInt32 = Int32.ofInt v) (d0 : decode bytes pc = .ok (.dup, 1)) (d1 : decode bytes (pc + 1) = .ok (.bipush i, 2)) (d2 : decode bytes (pc + 3) = .ok (.bipush v, 2)) (d4 : decode bytes (pc + 5) = .ok (.iastore, 1))
    (kk : nW p l e R s m args below meth c Q A D a0 cI cJ 167 10 cc 3 (pc + 6) ls (gA 46 169 :: st) (nWd (i + 1)) cells slots) : nW p l e R s m args below meth c Q A D a0 cI cJ 167 10 cc 3 pc ls (gA 46 169 :: st) (nWd i) cells slots := by
  refine n_dup C0 d0 ?_
  refine n_bipush C0 d1 hi2 ?_
  refine n_bipush C0 d2 hv2 ?_
  refine n_iast C0 (q0 := 2) (n := 46) rfl (by decide) (by decide) h0 (by omega) d4 ?_
  rw [show (167 + 2 : Nat) = 169 from rfl, nWd_step h0 hv]
  exact kk
end NWORD
def mPc (D : va_G) (a0 : Nat) (cI cJ : ClassId) : Array Value → State → Prop := va_Pc [.ref (nad a0 167)] (fun U => (U.heap.size = a0 + 167 + 1 ∧ va_at D gCL (nent (nad a0) cI cJ 0 (fun _ _ => 0) 167 10 0) U.heap ∧ ∀ j, j < 167 → va_at D gCL (nad a0 j, gent (nad a0) cI cJ (nGd 0) j) U.heap) ∧ gKK D cI cJ U)
def mB1 (D : va_G) (a0 : Nat) (cI cJ : ClassId) : Heap → Prop := fun H => ∃ ν, gInv 1 ν ∧ gokm ν ∧ va_P D gCL (gws (nad a0) cI cJ ν) H
theorem mPc_blind {D : va_G} {a0 : Nat} {cI cJ : ClassId} : FrameBlind (mPc D a0 cI cJ) := by
  rintro a U g mk ⟨q0, q1, qK, qN⟩
  exact ⟨q0, q1, va_K.moved (u := U) (U := U.calling g mk a) (Vm.Alike.refl U.vm) qK, fun w hw => va_Nw.same (u := U) (U := U.calling g mk a) (gNest_tabs hw) rfl (qN w hw)⟩
theorem nMd_0 {q : Nat} {b : Int} (h : q ≠ 167) (h2 : q ≠ 169) : nMd q b = 0 := by
  unfold nMd
  rw [gS_ne q h]
  unfold nWd
  rw [if_neg (by omega)]
def nL10 : List (Nat × Nat) := [(0, 10), (1, 700), (1, 46), (1, 12), (1, 12), (1, 12), (1, 16), (1, 16), (1, 16), (1, 32), (1, 36), (1, 4), (1, 8), (1, 8), (1, 5880)]
theorem n_hly : nly 167 nL10 := by
  unfold nly
  decide +kernel
set_option maxRecDepth 20000 in
theorem m_c1 {p : Program} {l : Launch} {e : Env} {R : Room} {s : State} {m : MethodId} {args : Array Value} {below : List Frame} {meth : Method} {c : Code} {Q : State → Prop} {A : Nat → Prop} {D : va_G} {a0 : Nat} {cI cJ : ClassId} (C0 : nCx p s m args meth c A D a0 cI cJ 167 10 prog_12_method_1_code 1) (hR : R.frames = 3 ∧ R.cells = 14 ∧ R.slots = 6798 ∧ R.locals = 70)
    (kk : nW p l e R s m args below meth c Q A D a0 cI cJ 167 10 1 3 156 [gO 10 167] [gA 46 169, gO 10 167] (nWd 24) 2 746) : nW p l e R s m args below meth c Q A D a0 cI cJ 167 10 0 1 0 [gO 10 167] [] nZ 0 0 := by
  have hly := n_hly
  obtain ⟨hR1, hR2, hR3, hR4⟩ := hR
  refine n_aload C0 (i := 0) (x := 0) (r := .inl (10, 167)) rfl rfl (by decide +kernel) ?_
  refine n_objInit C0 (idx := 1) rfl (gTB_at 1419 (by decide +kernel) rfl) n_oi1 n_oi2 (by omega) (by omega) (by decide +kernel) ?_
  refine n_aload C0 (i := 0) (x := 0) (r := .inl (10, 167)) rfl rfl (by decide +kernel) ?_
  refine n_sipush C0 (n := ((700 : Nat) : Int)) (by decide +kernel) (by decide +kernel) ?_
  refine n_newI C0 (L := 700) (hly 1 (by decide)) (fun _ => rfl) (by decide) n_aI (by omega) (by omega) (by decide +kernel) ?_
  refine n_putR C0 (idx := 7) (j := 0) (t := 4) (o := 1) (x := 700) rfl rfl (by decide) (by decide) (by decide +kernel) (gTB_at 1447 (by decide +kernel) rfl) rfl rfl (by decide +kernel) ?_
  refine n_aload C0 (i := 0) (x := 0) (r := .inl (10, 167)) rfl rfl (by decide +kernel) ?_
  refine n_bipush C0 (n := ((46 : Nat) : Int)) (by decide +kernel) (by decide +kernel) ?_
  refine n_newI C0 (L := 46) (hly 2 (by decide)) (fun _ => rfl) (by decide) n_aI (by omega) (by omega) (by decide +kernel) ?_
  rw [← nWd_0]
  refine n_word0 C0 (i := 0) (v := 98) (by decide) (by decide) (by decide +kernel) (by decide +kernel) (by decide +kernel) (by decide +kernel) (by decide +kernel) (by decide +kernel) ?_
  refine n_word0 C0 (i := 1) (v := 114) (by decide) (by decide) (by decide +kernel) (by decide +kernel) (by decide +kernel) (by decide +kernel) (by decide +kernel) (by decide +kernel) ?_
  refine n_word0 C0 (i := 2) (v := 105) (by decide) (by decide) (by decide +kernel) (by decide +kernel) (by decide +kernel) (by decide +kernel) (by decide +kernel) (by decide +kernel) ?_
  refine n_word0 C0 (i := 3) (v := 100) (by decide) (by decide) (by decide +kernel) (by decide +kernel) (by decide +kernel) (by decide +kernel) (by decide +kernel) (by decide +kernel) ?_
  refine n_word0 C0 (i := 4) (v := 103) (by decide) (by decide) (by decide +kernel) (by decide +kernel) (by decide +kernel) (by decide +kernel) (by decide +kernel) (by decide +kernel) ?_
  refine n_word0 C0 (i := 5) (v := 101) (by decide) (by decide) (by decide +kernel) (by decide +kernel) (by decide +kernel) (by decide +kernel) (by decide +kernel) (by decide +kernel) ?_
  refine n_word C0 (i := 6) (v := 32) (by decide) (by decide) (by decide +kernel) (by decide +kernel) (by decide +kernel) (by decide +kernel) (by decide +kernel) (by decide +kernel) (by decide +kernel) ?_
  refine n_word C0 (i := 7) (v := 100) (by decide) (by decide) (by decide +kernel) (by decide +kernel) (by decide +kernel) (by decide +kernel) (by decide +kernel) (by decide +kernel) (by decide +kernel) ?_
  refine n_word C0 (i := 8) (v := 101) (by decide) (by decide) (by decide +kernel) (by decide +kernel) (by decide +kernel) (by decide +kernel) (by decide +kernel) (by decide +kernel) (by decide +kernel) ?_
  refine n_word C0 (i := 9) (v := 118) (by decide) (by decide) (by decide +kernel) (by decide +kernel) (by decide +kernel) (by decide +kernel) (by decide +kernel) (by decide +kernel) (by decide +kernel) ?_
  refine n_word C0 (i := 10) (v := 105) (by decide) (by decide) (by decide +kernel) (by decide +kernel) (by decide +kernel) (by decide +kernel) (by decide +kernel) (by decide +kernel) (by decide +kernel) ?_
  refine n_word C0 (i := 11) (v := 99) (by decide) (by decide) (by decide +kernel) (by decide +kernel) (by decide +kernel) (by decide +kernel) (by decide +kernel) (by decide +kernel) (by decide +kernel) ?_
  refine n_word C0 (i := 12) (v := 101) (by decide) (by decide) (by decide +kernel) (by decide +kernel) (by decide +kernel) (by decide +kernel) (by decide +kernel) (by decide +kernel) (by decide +kernel) ?_
  refine n_word C0 (i := 13) (v := 32) (by decide) (by decide) (by decide +kernel) (by decide +kernel) (by decide +kernel) (by decide +kernel) (by decide +kernel) (by decide +kernel) (by decide +kernel) ?_
  refine n_word C0 (i := 14) (v := 97) (by decide) (by decide) (by decide +kernel) (by decide +kernel) (by decide +kernel) (by decide +kernel) (by decide +kernel) (by decide +kernel) (by decide +kernel) ?_
  refine n_word C0 (i := 15) (v := 108) (by decide) (by decide) (by decide +kernel) (by decide +kernel) (by decide +kernel) (by decide +kernel) (by decide +kernel) (by decide +kernel) (by decide +kernel) ?_
  refine n_word C0 (i := 16) (v := 105) (by decide) (by decide) (by decide +kernel) (by decide +kernel) (by decide +kernel) (by decide +kernel) (by decide +kernel) (by decide +kernel) (by decide +kernel) ?_
  refine n_word C0 (i := 17) (v := 97) (by decide) (by decide) (by decide +kernel) (by decide +kernel) (by decide +kernel) (by decide +kernel) (by decide +kernel) (by decide +kernel) (by decide +kernel) ?_
  refine n_word C0 (i := 18) (v := 115) (by decide) (by decide) (by decide +kernel) (by decide +kernel) (by decide +kernel) (by decide +kernel) (by decide +kernel) (by decide +kernel) (by decide +kernel) ?_
  refine n_word C0 (i := 19) (v := 32) (by decide) (by decide) (by decide +kernel) (by decide +kernel) (by decide +kernel) (by decide +kernel) (by decide +kernel) (by decide +kernel) (by decide +kernel) ?_
  refine n_word C0 (i := 20) (v := 115) (by decide) (by decide) (by decide +kernel) (by decide +kernel) (by decide +kernel) (by decide +kernel) (by decide +kernel) (by decide +kernel) (by decide +kernel) ?_
  refine n_word C0 (i := 21) (v := 112) (by decide) (by decide) (by decide +kernel) (by decide +kernel) (by decide +kernel) (by decide +kernel) (by decide +kernel) (by decide +kernel) (by decide +kernel) ?_
  refine n_word C0 (i := 22) (v := 97) (by decide) (by decide) (by decide +kernel) (by decide +kernel) (by decide +kernel) (by decide +kernel) (by decide +kernel) (by decide +kernel) (by decide +kernel) ?_
  refine n_word C0 (i := 23) (v := 110) (by decide) (by decide) (by decide +kernel) (by decide +kernel) (by decide +kernel) (by decide +kernel) (by decide +kernel) (by decide +kernel) (by decide +kernel) ?_
  exact kk
set_option maxRecDepth 20000 in
theorem m_c2 {p : Program} {l : Launch} {e : Env} {R : Room} {s : State} {m : MethodId} {args : Array Value} {below : List Frame} {meth : Method} {c : Code} {Q : State → Prop} {A : Nat → Prop} {D : va_G} {a0 : Nat} {cI cJ : ClassId} (C0 : nCx p s m args meth c A D a0 cI cJ 167 10 prog_12_method_1_code 1) (hR : R.frames = 3 ∧ R.cells = 14 ∧ R.slots = 6798 ∧ R.locals = 70)
    (kk : nW p l e R s m args below meth c Q A D a0 cI cJ 167 10 1 3 288 [gO 10 167] [gA 46 169, gO 10 167] (nWd 46) 2 746) : nW p l e R s m args below meth c Q A D a0 cI cJ 167 10 1 3 156 [gO 10 167] [gA 46 169, gO 10 167] (nWd 24) 2 746 := by
  have hly := n_hly
  obtain ⟨hR1, hR2, hR3, hR4⟩ := hR
  refine n_word C0 (i := 24) (v := 32) (by decide) (by decide) (by decide +kernel) (by decide +kernel) (by decide +kernel) (by decide +kernel) (by decide +kernel) (by decide +kernel) (by decide +kernel) ?_
  refine n_word C0 (i := 25) (v := 115) (by decide) (by decide) (by decide +kernel) (by decide +kernel) (by decide +kernel) (by decide +kernel) (by decide +kernel) (by decide +kernel) (by decide +kernel) ?_
  refine n_word C0 (i := 26) (v := 116) (by decide) (by decide) (by decide +kernel) (by decide +kernel) (by decide +kernel) (by decide +kernel) (by decide +kernel) (by decide +kernel) (by decide +kernel) ?_
  refine n_word C0 (i := 27) (v := 97) (by decide) (by decide) (by decide +kernel) (by decide +kernel) (by decide +kernel) (by decide +kernel) (by decide +kernel) (by decide +kernel) (by decide +kernel) ?_
  refine n_word C0 (i := 28) (v := 108) (by decide) (by decide) (by decide +kernel) (by decide +kernel) (by decide +kernel) (by decide +kernel) (by decide +kernel) (by decide +kernel) (by decide +kernel) ?_
  refine n_word C0 (i := 29) (v := 108) (by decide) (by decide) (by decide +kernel) (by decide +kernel) (by decide +kernel) (by decide +kernel) (by decide +kernel) (by decide +kernel) (by decide +kernel) ?_
  refine n_word C0 (i := 30) (v := 32) (by decide) (by decide) (by decide +kernel) (by decide +kernel) (by decide +kernel) (by decide +kernel) (by decide +kernel) (by decide +kernel) (by decide +kernel) ?_
  refine n_word C0 (i := 31) (v := 114) (by decide) (by decide) (by decide +kernel) (by decide +kernel) (by decide +kernel) (by decide +kernel) (by decide +kernel) (by decide +kernel) (by decide +kernel) ?_
  refine n_word C0 (i := 32) (v := 111) (by decide) (by decide) (by decide +kernel) (by decide +kernel) (by decide +kernel) (by decide +kernel) (by decide +kernel) (by decide +kernel) (by decide +kernel) ?_
  refine n_word C0 (i := 33) (v := 111) (by decide) (by decide) (by decide +kernel) (by decide +kernel) (by decide +kernel) (by decide +kernel) (by decide +kernel) (by decide +kernel) (by decide +kernel) ?_
  refine n_word C0 (i := 34) (v := 109) (by decide) (by decide) (by decide +kernel) (by decide +kernel) (by decide +kernel) (by decide +kernel) (by decide +kernel) (by decide +kernel) (by decide +kernel) ?_
  refine n_word C0 (i := 35) (v := 32) (by decide) (by decide) (by decide +kernel) (by decide +kernel) (by decide +kernel) (by decide +kernel) (by decide +kernel) (by decide +kernel) (by decide +kernel) ?_
  refine n_word C0 (i := 36) (v := 115) (by decide) (by decide) (by decide +kernel) (by decide +kernel) (by decide +kernel) (by decide +kernel) (by decide +kernel) (by decide +kernel) (by decide +kernel) ?_
  refine n_word C0 (i := 37) (v := 101) (by decide) (by decide) (by decide +kernel) (by decide +kernel) (by decide +kernel) (by decide +kernel) (by decide +kernel) (by decide +kernel) (by decide +kernel) ?_
  refine n_word C0 (i := 38) (v := 101) (by decide) (by decide) (by decide +kernel) (by decide +kernel) (by decide +kernel) (by decide +kernel) (by decide +kernel) (by decide +kernel) (by decide +kernel) ?_
  refine n_word C0 (i := 39) (v := 100) (by decide) (by decide) (by decide +kernel) (by decide +kernel) (by decide +kernel) (by decide +kernel) (by decide +kernel) (by decide +kernel) (by decide +kernel) ?_
  refine n_word C0 (i := 40) (v := 32) (by decide) (by decide) (by decide +kernel) (by decide +kernel) (by decide +kernel) (by decide +kernel) (by decide +kernel) (by decide +kernel) (by decide +kernel) ?_
  refine n_word C0 (i := 41) (v := 114) (by decide) (by decide) (by decide +kernel) (by decide +kernel) (by decide +kernel) (by decide +kernel) (by decide +kernel) (by decide +kernel) (by decide +kernel) ?_
  refine n_word C0 (i := 42) (v := 111) (by decide) (by decide) (by decide +kernel) (by decide +kernel) (by decide +kernel) (by decide +kernel) (by decide +kernel) (by decide +kernel) (by decide +kernel) ?_
  refine n_word C0 (i := 43) (v := 111) (by decide) (by decide) (by decide +kernel) (by decide +kernel) (by decide +kernel) (by decide +kernel) (by decide +kernel) (by decide +kernel) (by decide +kernel) ?_
  refine n_word C0 (i := 44) (v := 116) (by decide) (by decide) (by decide +kernel) (by decide +kernel) (by decide +kernel) (by decide +kernel) (by decide +kernel) (by decide +kernel) (by decide +kernel) ?_
  refine n_word C0 (i := 45) (v := 32) (by decide) (by decide) (by decide +kernel) (by decide +kernel) (by decide +kernel) (by decide +kernel) (by decide +kernel) (by decide +kernel) (by decide +kernel) ?_
  exact kk
set_option maxRecDepth 20000 in
theorem m_c3 {p : Program} {l : Launch} {e : Env} {R : Room} {s : State} {m : MethodId} {args : Array Value} {below : List Frame} {meth : Method} {c : Code} {Q : State → Prop} {A : Nat → Prop} {D : va_G} {a0 : Nat} {cI cJ : ClassId} (C0 : nCx p s m args meth c A D a0 cI cJ 167 10 prog_12_method_1_code 1) (hR : R.frames = 3 ∧ R.cells = 14 ∧ R.slots = 6798 ∧ R.locals = 70)
    (kk : nW p l e R s m args below meth c Q A D a0 cI cJ 167 10 14 15 392 [gO 10 167] [] nMd 14 6798) : nW p l e R s m args below meth c Q A D a0 cI cJ 167 10 1 3 288 [gO 10 167] [gA 46 169, gO 10 167] (nWd 46) 2 746 := by
  have hly := n_hly
  obtain ⟨hR1, hR2, hR3, hR4⟩ := hR
  refine n_putR C0 (idx := 13) (j := 3) (t := 4) (o := 2) (x := 46) rfl rfl (by decide) (by decide) (by decide +kernel) (gTB_at 1450 (by decide +kernel) rfl) rfl rfl (by decide +kernel) ?_
  refine n_aload C0 (i := 0) (x := 0) (r := .inl (10, 167)) rfl rfl (by decide +kernel) ?_
  refine n_iconst C0 (n := -1) (by decide +kernel) ?_
  refine n_putI C0 (idx := 16) (j := 5) (o := 0) (x := 0) rfl (by decide) (gTB_at 1452 (by decide +kernel) rfl) rfl rfl (by decide +kernel) ?_
  show nW _ _ _ _ _ _ _ _ _ _ _ _ _ _ _ _ _ _ _ _ _ _ _ nMd _ _
  refine n_aload C0 (i := 0) (x := 0) (r := .inl (10, 167)) rfl rfl (by decide +kernel) ?_
  refine n_bipush C0 (n := ((12 : Nat) : Int)) (by decide +kernel) (by decide +kernel) ?_
  refine n_newI C0 (L := 12) (hly 3 (by decide)) (fun b => nMd_0 (by omega) (by omega)) (by decide) n_aI (by omega) (by omega) (by decide +kernel) ?_
  refine n_putR C0 (idx := 20) (j := 19) (t := 4) (o := 3) (x := 12) rfl rfl (by decide) (by decide) (by decide +kernel) (gTB_at 1466 (by decide +kernel) rfl) rfl rfl (by decide +kernel) ?_
  refine n_aload C0 (i := 0) (x := 0) (r := .inl (10, 167)) rfl rfl (by decide +kernel) ?_
  refine n_bipush C0 (n := ((12 : Nat) : Int)) (by decide +kernel) (by decide +kernel) ?_
  refine n_newI C0 (L := 12) (hly 4 (by decide)) (fun b => nMd_0 (by omega) (by omega)) (by decide) n_aI (by omega) (by omega) (by decide +kernel) ?_
  refine n_putR C0 (idx := 23) (j := 20) (t := 4) (o := 4) (x := 12) rfl rfl (by decide) (by decide) (by decide +kernel) (gTB_at 1467 (by decide +kernel) rfl) rfl rfl (by decide +kernel) ?_
  refine n_aload C0 (i := 0) (x := 0) (r := .inl (10, 167)) rfl rfl (by decide +kernel) ?_
  refine n_bipush C0 (n := ((12 : Nat) : Int)) (by decide +kernel) (by decide +kernel) ?_
  refine n_newI C0 (L := 12) (hly 5 (by decide)) (fun b => nMd_0 (by omega) (by omega)) (by decide) n_aI (by omega) (by omega) (by decide +kernel) ?_
  refine n_putR C0 (idx := 26) (j := 21) (t := 4) (o := 5) (x := 12) rfl rfl (by decide) (by decide) (by decide +kernel) (gTB_at 1468 (by decide +kernel) rfl) rfl rfl (by decide +kernel) ?_
  refine n_aload C0 (i := 0) (x := 0) (r := .inl (10, 167)) rfl rfl (by decide +kernel) ?_
  refine n_bipush C0 (n := ((16 : Nat) : Int)) (by decide +kernel) (by decide +kernel) ?_
  refine n_newI C0 (L := 16) (hly 6 (by decide)) (fun b => nMd_0 (by omega) (by omega)) (by decide) n_aI (by omega) (by omega) (by decide +kernel) ?_
  refine n_putR C0 (idx := 29) (j := 22) (t := 4) (o := 6) (x := 16) rfl rfl (by decide) (by decide) (by decide +kernel) (gTB_at 1469 (by decide +kernel) rfl) rfl rfl (by decide +kernel) ?_
  refine n_aload C0 (i := 0) (x := 0) (r := .inl (10, 167)) rfl rfl (by decide +kernel) ?_
  refine n_bipush C0 (n := ((16 : Nat) : Int)) (by decide +kernel) (by decide +kernel) ?_
  refine n_newI C0 (L := 16) (hly 7 (by decide)) (fun b => nMd_0 (by omega) (by omega)) (by decide) n_aI (by omega) (by omega) (by decide +kernel) ?_
  refine n_putR C0 (idx := 32) (j := 23) (t := 4) (o := 7) (x := 16) rfl rfl (by decide) (by decide) (by decide +kernel) (gTB_at 1470 (by decide +kernel) rfl) rfl rfl (by decide +kernel) ?_
  refine n_aload C0 (i := 0) (x := 0) (r := .inl (10, 167)) rfl rfl (by decide +kernel) ?_
  refine n_bipush C0 (n := ((16 : Nat) : Int)) (by decide +kernel) (by decide +kernel) ?_
  refine n_newI C0 (L := 16) (hly 8 (by decide)) (fun b => nMd_0 (by omega) (by omega)) (by decide) n_aI (by omega) (by omega) (by decide +kernel) ?_
  refine n_putR C0 (idx := 35) (j := 24) (t := 4) (o := 8) (x := 16) rfl rfl (by decide) (by decide) (by decide +kernel) (gTB_at 1471 (by decide +kernel) rfl) rfl rfl (by decide +kernel) ?_
  refine n_aload C0 (i := 0) (x := 0) (r := .inl (10, 167)) rfl rfl (by decide +kernel) ?_
  refine n_bipush C0 (n := ((32 : Nat) : Int)) (by decide +kernel) (by decide +kernel) ?_
  refine n_newI C0 (L := 32) (hly 9 (by decide)) (fun b => nMd_0 (by omega) (by omega)) (by decide) n_aI (by omega) (by omega) (by decide +kernel) ?_
  refine n_putR C0 (idx := 38) (j := 25) (t := 4) (o := 9) (x := 32) rfl rfl (by decide) (by decide) (by decide +kernel) (gTB_at 1472 (by decide +kernel) rfl) rfl rfl (by decide +kernel) ?_
  refine n_aload C0 (i := 0) (x := 0) (r := .inl (10, 167)) rfl rfl (by decide +kernel) ?_
  refine n_bipush C0 (n := ((36 : Nat) : Int)) (by decide +kernel) (by decide +kernel) ?_
  refine n_newI C0 (L := 36) (hly 10 (by decide)) (fun b => nMd_0 (by omega) (by omega)) (by decide) n_aI (by omega) (by omega) (by decide +kernel) ?_
  refine n_putR C0 (idx := 41) (j := 26) (t := 4) (o := 10) (x := 36) rfl rfl (by decide) (by decide) (by decide +kernel) (gTB_at 1473 (by decide +kernel) rfl) rfl rfl (by decide +kernel) ?_
  refine n_aload C0 (i := 0) (x := 0) (r := .inl (10, 167)) rfl rfl (by decide +kernel) ?_
  refine n_iconst C0 (n := ((4 : Nat) : Int)) (by decide +kernel) ?_
  refine n_newI C0 (L := 4) (hly 11 (by decide)) (fun b => nMd_0 (by omega) (by omega)) (by decide) n_aI (by omega) (by omega) (by decide +kernel) ?_
  refine n_putR C0 (idx := 44) (j := 27) (t := 4) (o := 11) (x := 4) rfl rfl (by decide) (by decide) (by decide +kernel) (gTB_at 1474 (by decide +kernel) rfl) rfl rfl (by decide +kernel) ?_
  refine n_aload C0 (i := 0) (x := 0) (r := .inl (10, 167)) rfl rfl (by decide +kernel) ?_
  refine n_bipush C0 (n := ((8 : Nat) : Int)) (by decide +kernel) (by decide +kernel) ?_
  refine n_newI C0 (L := 8) (hly 12 (by decide)) (fun b => nMd_0 (by omega) (by omega)) (by decide) n_aI (by omega) (by omega) (by decide +kernel) ?_
  refine n_putR C0 (idx := 47) (j := 31) (t := 4) (o := 12) (x := 8) rfl rfl (by decide) (by decide) (by decide +kernel) (gTB_at 1478 (by decide +kernel) rfl) rfl rfl (by decide +kernel) ?_
  refine n_aload C0 (i := 0) (x := 0) (r := .inl (10, 167)) rfl rfl (by decide +kernel) ?_
  refine n_bipush C0 (n := ((8 : Nat) : Int)) (by decide +kernel) (by decide +kernel) ?_
  refine n_newI C0 (L := 8) (hly 13 (by decide)) (fun b => nMd_0 (by omega) (by omega)) (by decide) n_aI (by omega) (by omega) (by decide +kernel) ?_
  refine n_putR C0 (idx := 50) (j := 32) (t := 4) (o := 13) (x := 8) rfl rfl (by decide) (by decide) (by decide +kernel) (gTB_at 1479 (by decide +kernel) rfl) rfl rfl (by decide +kernel) ?_
  refine n_aload C0 (i := 0) (x := 0) (r := .inl (10, 167)) rfl rfl (by decide +kernel) ?_
  refine n_sipush C0 (n := ((5880 : Nat) : Int)) (by decide +kernel) (by decide +kernel) ?_
  refine n_newI C0 (L := 5880) (hly 14 (by decide)) (fun b => nMd_0 (by omega) (by omega)) (by decide) n_aI (by omega) (by omega) (by decide +kernel) ?_
  refine n_putR C0 (idx := 53) (j := 33) (t := 4) (o := 14) (x := 5880) rfl rfl (by decide) (by decide) (by decide +kernel) (gTB_at 1480 (by decide +kernel) rfl) rfl rfl (by decide +kernel) ?_
  exact kk
theorem m_start : gokm nAll ∧ ∃ μ1 ν : gM, (∀ Q : Int → gM → Prop, gE 217 0 [gO 10 167] [] nAll Q = Q 0 μ1) ∧ (∀ Q : Int → gM → Prop, gE 219 0 [gO 10 167, gX] [] μ1 Q = Q 0 ν) ∧ gInv 1 ν := by
  refine ⟨nAll_ok, g_start (fun k i k0 k1 k2 k3 => ?_) ?_ (fun i i0 i1 => ?_) ?_ ?_ ?_ ?_ (fun i i5 => ?_) ?_ (fun k hk => ?_) (fun d => ?_)⟩
  all_goals (simp only [nAll, nMd, nWd, nGd, nSta, nSta2, nRea, nTree, nTab, nmix, nfillM, gS, nZ])
  all_goals ((repeat' split) <;> first | rfl | omega | (rw [Int.toNat_natCast]; done) | (exfalso; simp_all; done) | (exfalso; simp_all; omega))
set_option maxRecDepth 100000 in
theorem n_Model (l : Launch) (D : va_G) (a0 : Nat) (cI cJ : ClassId) : Met l (⟨gown 10, "<init>", "()V"⟩ : MethodName) (.code (⟨gown 10, "<init>", "()V"⟩ : MethodName) prog_12_method_1_code 1 none :: gTB) { frames := 3, cells := 14, slots := 6798, locals := 70 } (mPc D a0 cI cJ) (nQ (mB1 D a0 cI cJ) (fun q => a0 ≤ q)) 14 6798 (fun q => a0 ≤ q) := by
  refine Met.ofW (cc := prog_12_method_1_code) (maxL := 1) (ret := none) (by decide +kernel) rfl ?_
  intro p e s m args below meth c s₁ B hml hv
  obtain ⟨rfl, ⟨hsz, hP0, hCl⟩, hK⟩ := hv
  have hcx : nCx p s m ([Value.ref (nad a0 167)] : List Value).toArray meth c (fun q => a0 + 167 ≤ q) D a0 cI cJ 167 10 prog_12_method_1_code 1 := ⟨B.exec, B.bytes, B.returns, hml, findClass_of_methodNamed B.named, fun w hw => atoms_spec (ws := .code (⟨gown 10, "<init>", "()V"⟩ : MethodName) prog_12_method_1_code 1 none :: gTB) B.pre w (List.mem_cons_of_mem _ hw), B.notSynchronized, (name_of_methodNamed B.named B.method).1, hK, fun _ h => h, by decide, hsz⟩
  rw [lg_entry_eq]
  have he := lv_entry [Value.ref (nad a0 167)] (n := 1) (Nat.le_refl _)
  refine m_c1 hcx ⟨rfl, rfl, rfl, rfl⟩ (m_c2 hcx ⟨rfl, rfl, rfl, rfl⟩ (m_c3 hcx ⟨rfl, rfl, rfl, rfl⟩ ?_)) s.heap [] _ hsz (fun j hj => ?_) va_S.rf ⟨he.1, he.2.1, fun q hq => he.2.2 q ?_⟩
  · have C1 := hcx
    obtain ⟨hx, hb, hr, hml, hown, hts, hlk, hin, hKK, hA, hci, hsz⟩ := hcx
    intro H locs lsv hz hP hS hl
    obtain ⟨okA, μ1, ν, r1, r2, hI⟩ := m_start
    obtain ⟨n1, r1⟩ := gE_run r1
    obtain ⟨n2, r2⟩ := gE_run r2
    have hS2 : va_S (fun q => a0 ≤ q) s.heap H locs := ⟨hS.1, fun q h1 h2 => hS.2.1 q h1 (fun z => h2 (by omega)), fun q hq => by have := hS.2.2 q hq; omega⟩
    have hW : va_P D gCL (gws (nad a0) cI cJ nAll) H := by
      intro j q hq
      have hj : j < gLY.length := by
        rcases Nat.lt_or_ge j gLY.length with z | z
        · exact z
        · rw [List.getElem?_eq_none (by simp [gws]; exact z)] at hq
          cases hq
      rw [gws_at hj] at hq
      cases hq
      by_cases h : j < 167
      · have e : gent (nad a0) cI cJ nAll j = gent (nad a0) cI cJ (nGd 0) j := gent_congr (fun b => by unfold nAll nmix; rw [if_neg (by omega)])
        rw [e]
        exact (hCl j h).kept (hS.2.1 _ (by show nad a0 j < _; unfold nad; omega) (by show ¬ a0 + 167 ≤ nad a0 j; unfold nad; omega))
      · have hj2 : j < 182 := hj
        clear hj
        have hj3 : j - 167 < 15 := by omega
        have e : gent (nad a0) cI cJ nAll j = gent (nad a0) cI cJ nMd j := gent_congr (fun b => by unfold nAll nmix; rw [if_pos (by omega)])
        rw [e]
        have h1 := hP (j - 167) hj3
        unfold nent at h1
        rw [show 167 + (j - 167) = j by omega] at h1
        by_cases h0 : j - 167 = 0
        · rw [if_pos h0, nfv_full (by decide +kernel)] at h1
          have ej : j = 167 := by omega
          subst ej
          rw [gent_obj (ci := 10) rfl]
          exact h1
        · rw [if_neg h0] at h1
          exact h1
    have hfr : ∀ {Z : Heap}, s.heap.size ≤ Z.size → ∀ q, gAd (nad a0) Z.size q → a0 ≤ q := by
      rintro Z hZ q (⟨k, hk, rfl⟩ | h)
      · unfold nad; omega
      · omega
    have hl0 : lsv[0]? = some (.val (.ref (nad a0 167))) := g_cl_at hl (i := 0) rfl
    have hlz : lsv.size = 1 := hl.1
    have ok1 : gokl [gO 10 167] := fun v hv => by rw [List.mem_singleton.mp hv]; exact rfl
    refine lv_aload_n (k := 0) hx hb (by decide +kernel) rfl hl0 ?_
    refine w_call (own := gown 10) (idx := 56) (M := 217) (as' := []) (k0 := 167) (rest := []) hx hb hml hown hts hKK (nad_inj a0) (by decide +kernel) r1 (by decide +kernel) ok1 okA rfl (gTB_at 1420 (by decide +kernel) rfl) (gTB_at 1422 (by decide +kernel) rfl) ((gml_spec (o := 10) (idx := 56) rfl).2.2.2.elim (fun h => h.2.2) (fun h => absurd h.1 (by decide))) (by decide +kernel) (by decide +kernel) hW hS2 (hfr hS2.1) rfl (Nat.zero_le _) hlz ⟨Nat.le_refl _, Nat.le_refl _⟩ (by decide +kernel) fun H1 locs1 z1 _ hP1 hS1 ok2 _ => ?_
    refine lv_aload_n (k := 0) hx hb (by decide +kernel) rfl hl0 ?_
    refine w_call (own := gown 10) (idx := 59) (M := 219) (as' := []) (k0 := 167) (rest := []) hx hb hml hown hts hKK (nad_inj a0) (by decide +kernel) r2 (by decide +kernel) ok1 ok2 rfl (gTB_at 1424 (by decide +kernel) rfl) (gTB_at 1426 (by decide +kernel) rfl) ((gml_spec (o := 10) (idx := 59) rfl).2.2.2.elim (fun h => h.2.2) (fun h => absurd h.1 (by decide))) (by decide +kernel) (by decide +kernel) hP1 hS1 (hfr hS1.1) rfl (Nat.zero_le _) hlz ⟨Nat.le_refl _, Nat.le_refl _⟩ (by decide +kernel) fun H2 locs2 z2 _ hP2 hS3 ok3 _ => ?_
    refine W.vret hx hb hr (fun t ht hW => ⟨⟨rfl, ν, hI, ok3, by rw [ht]; exact hP2⟩, hS3.F ht⟩) (fun q hq => hS3.2.2 q hq) (by decide +kernel) hlk
  · have : j = 0 := by omega
    subst this
    exact hP0
  · obtain ⟨k0, u⟩ := q
    have h1 := g_cl_mem.mp hq
    have := g_args (nad a0) 0 [gO 10 167] 0 k0 u h1
    rw [Nat.zero_add] at this
    exact this
