/-! THE CLAIM OUT OF ONE WALK OF THE LAW'S BODY. Your part is whole_start (and what it stands on); all else here is the same for every law, but numbers. -/
def R_law : String := "GatedDevicesLaw"
def lw_P (b : Addr) (xs : List Int32) (args : Array Value) (s : State) : Prop := args = #[.ref b] ∧ s.IntsAt b xs ∧ xs.length ≤ 3072 ∧ (Jvm.Cond.and given_1 narrow_1).before args s = true
def lw_Q (_ : Array Value) (s : State) (o : Outcome) (t : State) : Prop := o = .returned (some (.int 1)) ∧ Framed s o t [] 1209 21034
def lw_Z (below : List Frame) (a : Array Value) (s : State) : State → Prop := fun t => ∃ o, t.status = .running ∧ Ended t below o ∧ lw_Q a s o t
/-- the law's own end, with 1 on the stack, nothing written that was there before, its room as the claim has it -/
theorem lw_ret {p : Program} {l : Launch} {e : Env} {s : State} {m : MethodId} {below : List Frame} {meth : Method} {c : Code} {b : Nat} (hx : p.tables.exec = Jvm.exec) (hb : c.code = code) (hr : meth.sig.returnType = ret) (hlocks : meth.locks = false) {pc : Nat} {H : Heap} {ls : Array Slot} (hdg : decode code pc = .ok (.ireturn, 1)) : W p l e room_1 s m #[Value.ref b] below meth c H [] 1209 21034 (lw_Z below #[Value.ref b] s) (F0 m pc ls [.int 1]) := by
  intro T hT X
  obtain ⟨fs, hret, hrun, hended, hW, hframe⟩ := X.leave (v := some (.int 1)) (hlocks := hlocks) (fun h => by rw [hr] at h; cases h)
  have hmeth' : T.vm.method? m = some meth := X.method'
  refine ⟨T.setFrames fs, ?_, .returned (some (.int 1)), hrun, hended, rfl, ⟨_, rfl⟩, hW, hframe⟩
  jvm_step X.here [X.here.top, hx, hb, hdg, hmeth', hr, ret, narrow_b1]
  (try refine ⟨rfl, ?_⟩); (try refine ⟨rfl, ?_⟩)
  first | (intro acts; rw [hret _ acts rfl rfl rfl]) | rw [hret _ _ rfl rfl rfl]
  exact Steps.refl _
/-- what holds at the law's entry: the machine, the code, the tables' words (any of lw_tbl by 'hts w (by decide +kernel)'), the script of L ints xs at the cell b, what the Statement gives of the start (any of its parts by flat_of_before) -/
def lw_At (p : Program) (s : State) (m : MethodId) (meth : Method) (c : Code) (b L : Nat) (xs : Nat → Int32) : Prop :=
  p.tables.exec = Jvm.exec ∧ c.code = code ∧ meth.sig.returnType = ret ∧ c.maxLocals = 7 ∧ s.vm.findClass R_law = some m.cls ∧ (∀ w ∈ lw_tbl, w.before #[Value.ref b] s = true) ∧ va_X b L xs s s.heap ∧ b < s.heap.size ∧ meth.locks = false ∧ (Jvm.Cond.and given_1 narrow_1).before #[Value.ref b] s = true
/-! the law's frame: arguments out of the script, one call on either side -/
/-- an argument: which int of the step, whether it is asked to differ from 0 -/
def lLen : Nat × Bool → Nat
  | (_, false) => 6
  | (_, true) => 14
def lVal (xs : Nat → Int32) (i : Nat) : Nat × Bool → gv
  | (c, false) => gI (xs (i + c)).toInt
  | (c, true) => gI (if (xs (i + c)).toInt = 0 then 0 else 1)
def lEnd : Nat → List (Nat × Bool) → Nat
  | pc, [] => pc
  | pc, a :: r => lEnd (pc + lLen a) r
def lD1 (pc c : Nat) : Bool := decide (decode code pc = .ok (.aload_n 0, 1)) && decide (decode code (pc + 1) = .ok (.iload 4, 2)) && decide (decode code (pc + 3) = .ok (.iconst (c : Int), 1)) && decide (decode code (pc + 4) = .ok (.iadd, 1)) && decide (decode code (pc + 5) = .ok (.iaload, 1)) && decide (c ≤ 5)
def lD2 (pc : Nat) : Bool := decide (decode code pc = .ok (.ifCond .eq 7, 3)) && decide (decode code (pc + 3) = .ok (.iconst 1, 1)) && decide (decode code (pc + 4) = .ok (.goto 4, 3)) && decide (decode code (pc + 7) = .ok (.iconst 0, 1))
def lDec : Nat → List (Nat × Bool) → Bool
  | _, [] => true
  | pc, (c, false) :: r => lD1 pc c && lDec (pc + 6) r
  | pc, (c, true) :: r => lD1 pc c && lD2 (pc + 6) && lDec (pc + 14) r
section LAW1
variable {p : Program} {l : Launch} {e : Env} {R : Room} {s : State} {m : MethodId} {args : Array Value} {below : List Frame} {meth : Method} {c : Code} {Q : State → Prop} {A : Nat → Prop} {pc cells slots : Nat} {H : Heap} {locs : List Loc} {lsv : Array Slot}
theorem l_arg {b L i k : Nat} {xs : Nat → Int32} {st : List Value} (hx : p.tables.exec = Jvm.exec) (hb : c.code = code) (hX : va_X b L xs s s.heap) (hbl : b < s.heap.size) (hbA : ¬ A b) (hS : va_S A s.heap H locs) (hl0 : lsv[0]? = some (.val (.ref b))) (hl4 : lsv[4]? = some (.val (.int (Int32.ofInt (i : Int))))) (hi : i + 5 < L) (hL : L ≤ 3072) (hd : lD1 pc k = true) (kk : W p l e R s m args below meth c H locs cells slots Q (F0 m (pc + 6) lsv (gval (fun _ => 0) (gI (xs (i + k)).toInt) :: st))) : W p l e R s m args below meth c H locs cells slots Q (F0 m pc lsv st) := by
  simp only [lD1, Bool.and_eq_true, decide_eq_true_eq] at hd
  obtain ⟨⟨⟨⟨⟨d0, d1⟩, d3⟩, d4⟩, d5⟩, hk⟩ := hd
  refine lv_aload_n (k := 0) hx hb d0 rfl hl0 ?_
  refine lv_iload hx hb d1 hl4 ?_
  refine lv_iconst (v := Int32.ofInt (k : Int)) hx hb d3 rfl ?_
  refine lv_iadd hx hb d4 ?_
  have e : Int32.ofInt (i : Int) + Int32.ofInt (k : Int) = Int32.ofInt ((i + k : Nat) : Int) := by
    rw [← Int32.ofInt_add]
    rfl
  have ei : (Int32.ofInt ((i + k : Nat) : Int)).toInt = ((i + k : Nat) : Int) := ofInt_toInt (by omega) (by omega)
  rw [e]
  refine va_sld hx hb hX hbl hbA hS (vp_in_iff.mpr ⟨by rw [ei]; omega, by rw [ei]; omega⟩) d5 ?_
  have ec := g_ix ei (by omega)
  have ec2 : (Int32.ofInt ((i + k : Nat) : Int)).toNatClampNeg = i + k := by omega
  rw [ec2]
  have e3 : gval (fun _ => 0) (gI (xs (i + k)).toInt) = .int (xs (i + k)) := gval_I _ _
  rw [e3] at kk
  exact kk
theorem l_bool {x : Int32} {st : List Value} (hx : p.tables.exec = Jvm.exec) (hb : c.code = code) (hd : lD2 pc = true) (kk : W p l e R s m args below meth c H locs cells slots Q (F0 m (pc + 8) lsv (gval (fun _ => 0) (gI (if x.toInt = 0 then 0 else 1)) :: st))) : W p l e R s m args below meth c H locs cells slots Q (F0 m pc lsv (gval (fun _ => 0) (gI x.toInt) :: st)) := by
  simp only [lD2, Bool.and_eq_true, decide_eq_true_eq] at hd
  obtain ⟨⟨⟨d0, d3⟩, d4⟩, d7⟩ := hd
  have e3 : gval (fun _ => 0) (gI x.toInt) = .int x := gval_I _ _
  rw [e3]
  refine lv_if_eq (tgt := pc + 7) hx hb d0 (by omega) (fun h => ?_) (fun h => ?_)
  · refine lv_iconst (v := 0) hx hb d7 (by decide) ?_
    rw [if_pos (by rw [h]; rfl)] at kk
    exact kk
  · refine lv_iconst (v := 1) hx hb d3 (by decide) ?_
    refine lv_goto (tgt := pc + 8) hx hb d4 (by omega) ?_
    rw [if_neg (show ¬ x.toInt = 0 from fun q => h (Int32.toInt_inj.mp q))] at kk
    exact kk
theorem l_gval {ad ad' : Nat → Nat} {xs : Nat → Int32} {i : Nat} (a : Nat × Bool) : gval ad (lVal xs i a) = gval ad' (lVal xs i a) := by
  obtain ⟨c, q | q⟩ := a <;> rfl
theorem l_args {b L i : Nat} {xs : Nat → Int32} {ad : Nat → Nat} (hx : p.tables.exec = Jvm.exec) (hb : c.code = code) (hX : va_X b L xs s s.heap) (hbl : b < s.heap.size) (hbA : ¬ A b) (hS : va_S A s.heap H locs) (hl0 : lsv[0]? = some (.val (.ref b))) (hl4 : lsv[4]? = some (.val (.int (Int32.ofInt (i : Int))))) (hi : i + 5 < L) (hL : L ≤ 3072) : ∀ (as : List (Nat × Bool)) (pc : Nat) (st : List Value), lDec pc as = true → W p l e R s m args below meth c H locs cells slots Q (F0 m (lEnd pc as) lsv (((as.map (lVal xs i)).map (gval ad)).reverse ++ st)) → W p l e R s m args below meth c H locs cells slots Q (F0 m pc lsv st) := by
  intro as
  induction as with
  | nil => intro pc st _ kk; exact kk
  | cons a as ih =>
    intro pc st hd kk
    have e : ((((a :: as).map (lVal xs i)).map (gval ad)).reverse ++ st) = (((as.map (lVal xs i)).map (gval ad)).reverse ++ (gval (fun _ => 0) (lVal xs i a) :: st)) := by
      rw [List.map_cons, List.map_cons, List.reverse_cons, List.append_assoc, l_gval (ad := ad) (ad' := fun _ => 0) a]
      rfl
    rw [e] at kk
    obtain ⟨k, q⟩ := a
    cases q with
    | false =>
      rw [lDec, Bool.and_eq_true] at hd
      exact l_arg hx hb hX hbl hbA hS hl0 hl4 hi hL hd.1 (ih (pc + 6) _ hd.2 kk)
    | true =>
      rw [lDec, Bool.and_eq_true, Bool.and_eq_true] at hd
      exact l_arg hx hb hX hbl hbA hS hl0 hl4 hi hL hd.1.1 (l_bool hx hb hd.1.2 (ih (pc + 14) _ hd.2 kk))
end LAW1
theorem l_exp (xs : Nat → Int32) (i c k : Nat) (as : List (Nat × Bool)) : g_exp (gO c k :: as.map (lVal xs i)) = gO c k :: as.map (lVal xs i) := by
  have h : ∀ as : List (Nat × Bool), g_exp (as.map (lVal xs i)) = as.map (lVal xs i) := by
    intro as
    induction as with
    | nil => rfl
    | cons a as ih =>
      obtain ⟨c, q | q⟩ := a
      · show gI _ :: g_exp (as.map (lVal xs i)) = _
        rw [ih]
        rfl
      · show gI _ :: g_exp (as.map (lVal xs i)) = _
        rw [ih]
        rfl
  show gO c k :: g_exp (as.map (lVal xs i)) = _
  rw [h]
theorem l_ok (xs : Nat → Int32) (i : Nat) {c k : Nat} (hk : gLY[k]? = some (0, c)) (as : List (Nat × Bool)) : gokl (gO c k :: as.map (lVal xs i)) := by
  intro v hv
  rcases List.mem_cons.mp hv with rfl | hv
  · exact hk
  · obtain ⟨a, -, rfl⟩ := List.mem_map.mp hv
    obtain ⟨c, q | q⟩ := a
    · exact gok32 _
    · show (Int32.ofInt (if (xs (i + c)).toInt = 0 then 0 else 1)).toInt = (if (xs (i + c)).toInt = 0 then 0 else 1)
      split <;> rfl
/-- what a call needs of the tables, by the places of its words -/
def lWd (M idx a b q : Nat) : Bool := decide (M < gMT.length) && decide (tables_1[a]? = some (.methodLink R_law idx (mY M))) && decide (tables_1[b]? = some (.instanceMethod (mY M))) && decide (tables_1[q]? = some (.selects (mY M).cls (mY M) (mY M))) && decide (mF M + 1 ≤ 11) && decide (8 + (mL M + 11) + mZ M ≤ 418)
theorem lWd_spec {M idx a b q : Nat} (h : lWd M idx a b q = true) : M < gMT.length ∧ Cond.methodLink R_law idx (mY M) ∈ gTB ∧ Cond.instanceMethod (mY M) ∈ gTB ∧ Cond.selects (mY M).cls (mY M) (mY M) ∈ gTB ∧ mF M + 1 ≤ 11 ∧ 8 + (mL M + 11) + mZ M ≤ 418 := by
  simp only [lWd, Bool.and_eq_true, decide_eq_true_eq] at h
  obtain ⟨⟨⟨⟨⟨h0, h1⟩, h2⟩, h3⟩, h4⟩, h5⟩ := h
  exact ⟨h0, gTB_at _ h1 rfl, gTB_at _ h2 rfl, gTB_at _ h3 rfl, h4, h5⟩
/-- the law's state between its instructions: both sides' world, its own row, what was written -/
def lSt (s : State) (D : va_G) (cI cJ : ClassId) (o : Nat) (fo : Nat → Int64) (H : Heap) (locs : List Loc) (μ : gM) : Prop :=
  va_P D gCL (gws (nad s.heap.size) cI cJ μ) H ∧ va_at D gCL (o, .inl (cJ, 1, .inr (.inl fo))) H ∧ s.heap.size + 182 ≤ o ∧ va_S (fun q => s.heap.size ≤ q) s.heap H locs ∧ gokm μ
/-- the law's frame -/
def lFr (p : Program) (s : State) (m : MethodId) (args : Array Value) (meth : Method) (c : Code) (D : va_G) (cI cJ : ClassId) (b L : Nat) (xs : Nat → Int32) : Prop :=
  p.tables.exec = Jvm.exec ∧ c.code = code ∧ c.maxLocals = 7 ∧ s.vm.findClass R_law = some m.cls ∧ (∀ w ∈ gTB, w.before args s = true) ∧ gKK D cI cJ s ∧ va_X b L xs s s.heap ∧ b < s.heap.size ∧ L ≤ 3072
def lLv (s : State) (b o i : Nat) (lsv : Array Slot) : Prop := lv_has lsv 7 [(0, .ref b), (1, .ref (nad s.heap.size 0)), (2, .ref (nad s.heap.size 167)), (3, .ref o), (4, .int (Int32.ofInt (i : Int)))]
section LAW2
variable {p : Program} {l : Launch} {e : Env} {s : State} {m : MethodId} {args : Array Value} {below : List Frame} {meth : Method} {c : Code} {Q : State → Prop} {pc cells slots o b L i : Nat} {xs : Nat → Int32} {H : Heap} {locs : List Loc} {lsv : Array Slot} {D : va_G} {cI cJ : ClassId} {μ : gM} {fo : Nat → Int64}
/-- a call of either side with its arguments -/
theorem l_call {M idx w1 w2 w3 k0 ci : Nat} {μ' : gM} {a : Int} {rest : List Value} {as : List (Nat × Bool)} (C0 : lFr p s m args meth c D cI cJ b L xs) (hl : lLv s b o i lsv) (hs : lSt s D cI cJ o fo H locs μ) (hi : i + 5 < L) (hk0 : gLY[k0]? = some (0, ci)) (hci : mO M = ci) (hw : lWd M idx w1 w2 w3 = true) (hn : as.length = g_np M) (hlen : as.length + 1 ≤ mL M) (hq : ∀ Q : Int → gM → Prop, gE M 0 (g_ent M (gO ci k0 :: as.map (lVal xs i))) [] μ Q = Q a μ') (hrest : (rest.map fun v => v.category).sum ≤ 8) (hcs : cells ≤ room_1.cells ∧ slots ≤ room_1.slots) (hd : lDec pc as = true) (d : decode code (lEnd pc as) = .ok (.invokevirtual idx, 3))
    (kk : ∀ (H1 : Heap) (locs1 : List Loc), lSt s D cI cJ o fo H1 locs1 μ' → gokr M a → W p l e room_1 s m args below meth c H1 locs1 cells slots Q (F0 m (lEnd pc as + 3) lsv ((gRV M a).toList ++ rest))) : W p l e room_1 s m args below meth c H locs cells slots Q (F0 m pc lsv (.ref (nad s.heap.size k0) :: rest)) := by
  subst hci
  obtain ⟨hx, hb, hml, hown, hts, hKK, hX, hbl, hL⟩ := C0
  obtain ⟨hP, hO, ho, hS, hok⟩ := hs
  obtain ⟨hM, hw1, hw2, hw3, hr1, hr2⟩ := lWd_spec hw
  refine l_args (ad := nad s.heap.size) hx hb hX hbl (Nat.not_le.mpr hbl) hS (lv_at hl 0 rfl) (lv_at hl 4 rfl) hi hL as pc _ hd ?_
  obtain ⟨n, hrun⟩ := gE_run hq
  refine w_call (M := M) (as' := as.map (lVal xs i)) (k0 := k0) (rest := rest) hx hb hml hown hts hKK (nad_inj _) hM hrun (by rw [l_exp, List.length_cons, List.length_map]; exact hlen) (l_ok xs i hk0 as) hok (by rw [List.length_map]; exact hn) hw1 hw2 hw3 hr1 hr2 hP hS (fun q h => ?_) rfl hrest hl.1 hcs d fun H1 locs1 z1 k1 hP1 hS1 ok1 okr => ?_
  · rcases h with ⟨k, -, rfl⟩ | h
    · exact Nat.le_add_right _ _
    · exact Nat.le_trans hS.1 h
  · refine kk H1 locs1 ⟨hP1, hO.kept (k1 _ hO.lt ?_), ho, hS1, ok1⟩ okr
    rintro (⟨k, hk, h⟩ | h)
    · have h2 : o = s.heap.size + k := h
      have h3 : k < 182 := hk
      omega
    · have := hO.lt
      exact absurd h (Nat.not_le.mpr this)
/-- a whole step whose answers are ints -/
theorem l_step {pc1 pc2 M1 M2 i1 i2 a1 b1 q1 a2 b2 q2 : Nat} {off : Int} {N : Int} {as : List (Nat × Bool)} (C0 : lFr p s m args meth c D cI cJ b L xs) (hl : lLv s b o i lsv) (hs : lSt s D cI cJ o fo H locs μ) (hi : i + 5 < L) (hc1 : mO M1 = 9) (hc2 : mO M2 = 10) (hw1 : lWd M1 i1 a1 b1 q1 = true) (hw2 : lWd M2 i2 a2 b2 q2 = true) (hn1 : as.length = g_np M1) (hn2 : as.length = g_np M2) (hm1 : as.length + 1 ≤ mL M1) (hm2 : as.length + 1 ≤ mL M2) (ht1 : gret (mT M1) = 1) (ht2 : gret (mT M2) = 1)
    (hq : cEq N μ (gE M1 0 (g_ent M1 (gO 9 0 :: as.map (lVal xs i))) []) (gE M2 0 (g_ent M2 (gO 10 167 :: as.map (lVal xs i))) [])) (hcs : cells ≤ room_1.cells ∧ slots ≤ room_1.slots) (hp1 : lEnd (pc + 1) as = pc1) (hp2 : lEnd (pc1 + 4) as = pc2)
    (d0 : decode code pc = .ok (.aload_n 1, 1)) (hd1 : lDec (pc + 1) as = true) (d1 : decode code pc1 = .ok (.invokevirtual i1, 3)) (d2 : decode code (pc1 + 3) = .ok (.aload_n 2, 1)) (hd2 : lDec (pc1 + 4) as = true) (d3 : decode code pc2 = .ok (.invokevirtual i2, 3)) (d4 : decode code (pc2 + 3) = .ok (.if_icmp .eq off, 3)) (hoff : ((pc2 + 3 : Nat) : Int) + off = ((1510 : Nat) : Int))
    (kk : ∀ (H1 : Heap) (locs1 : List Loc) (ν : gM), lSt s D cI cJ o fo H1 locs1 ν → gInv (N + 1) ν → W p l e room_1 s m args below meth c H1 locs1 cells slots Q (F0 m 1510 lsv [])) : W p l e room_1 s m args below meth c H locs cells slots Q (F0 m pc lsv []) := by
  subst hp1; subst hp2
  obtain ⟨a, μ1, ν, hI, r1, r2⟩ := hq
  have hx := C0.1
  have hb := C0.2.1
  refine lv_aload_n (k := 1) hx hb d0 rfl (lv_at hl 1 rfl) ?_
  refine l_call (ci := 9) (k0 := 0) C0 hl hs hi rfl hc1 hw1 hn1 hm1 r1 (Nat.zero_le _) hcs hd1 d1 fun H1 locs1 hs1 _ => ?_
  have e1 : (gRV M1 a).toList = [.int (Int32.ofInt a)] := by unfold gRV; rw [ht1]; rfl
  have e2 : (gRV M2 a).toList = [.int (Int32.ofInt a)] := by unfold gRV; rw [ht2]; rfl
  rw [e1]
  refine lv_aload_n (k := 2) hx hb d2 rfl (lv_at hl 2 rfl) ?_
  refine l_call (ci := 10) (k0 := 167) C0 hl hs1 hi rfl hc2 hw2 hn2 hm2 r2 (Nat.le_of_ble_eq_true rfl) hcs hd2 d3 fun H2 locs2 hs2 _ => ?_
  rw [e2]
  refine lv_icmp_eq (tgt := 1510) hx hb d4 hoff (fun _ => ?_) (fun h => absurd rfl h)
  exact kk H2 locs2 ν hs2 hI
/-- a whole step whose answers are longs -/
theorem l_stepL {pc1 pc2 M1 M2 i1 i2 a1 b1 q1 a2 b2 q2 : Nat} {off : Int} {N : Int} {as : List (Nat × Bool)} (C0 : lFr p s m args meth c D cI cJ b L xs) (hl : lLv s b o i lsv) (hs : lSt s D cI cJ o fo H locs μ) (hi : i + 5 < L) (hc1 : mO M1 = 9) (hc2 : mO M2 = 10) (hw1 : lWd M1 i1 a1 b1 q1 = true) (hw2 : lWd M2 i2 a2 b2 q2 = true) (hn1 : as.length = g_np M1) (hn2 : as.length = g_np M2) (hm1 : as.length + 1 ≤ mL M1) (hm2 : as.length + 1 ≤ mL M2) (ht1 : gret (mT M1) = 3) (ht2 : gret (mT M2) = 3)
    (hq : cEq N μ (gE M1 0 (g_ent M1 (gO 9 0 :: as.map (lVal xs i))) []) (gE M2 0 (g_ent M2 (gO 10 167 :: as.map (lVal xs i))) [])) (hcs : cells ≤ room_1.cells ∧ slots ≤ room_1.slots) (hp1 : lEnd (pc + 1) as = pc1) (hp2 : lEnd (pc1 + 4) as = pc2)
    (d0 : decode code pc = .ok (.aload_n 1, 1)) (hd1 : lDec (pc + 1) as = true) (d1 : decode code pc1 = .ok (.invokevirtual i1, 3)) (d2 : decode code (pc1 + 3) = .ok (.aload_n 2, 1)) (hd2 : lDec (pc1 + 4) as = true) (d3 : decode code pc2 = .ok (.invokevirtual i2, 3)) (d4 : decode code (pc2 + 3) = .ok (.lcmp, 1)) (d5 : decode code (pc2 + 4) = .ok (.ifCond .eq off, 3)) (hoff : ((pc2 + 4 : Nat) : Int) + off = ((1510 : Nat) : Int))
    (kk : ∀ (H1 : Heap) (locs1 : List Loc) (ν : gM), lSt s D cI cJ o fo H1 locs1 ν → gInv (N + 1) ν → W p l e room_1 s m args below meth c H1 locs1 cells slots Q (F0 m 1510 lsv [])) : W p l e room_1 s m args below meth c H locs cells slots Q (F0 m pc lsv []) := by
  subst hp1; subst hp2
  obtain ⟨a, μ1, ν, hI, r1, r2⟩ := hq
  have hx := C0.1
  have hb := C0.2.1
  refine lv_aload_n (k := 1) hx hb d0 rfl (lv_at hl 1 rfl) ?_
  refine l_call (ci := 9) (k0 := 0) C0 hl hs hi rfl hc1 hw1 hn1 hm1 r1 (Nat.zero_le _) hcs hd1 d1 fun H1 locs1 hs1 _ => ?_
  have e1 : (gRV M1 a).toList = [.long (Int64.ofInt a)] := by unfold gRV; rw [ht1]; rfl
  have e2 : (gRV M2 a).toList = [.long (Int64.ofInt a)] := by unfold gRV; rw [ht2]; rfl
  rw [e1]
  refine lv_aload_n (k := 2) hx hb d2 rfl (lv_at hl 2 rfl) ?_
  refine l_call (ci := 10) (k0 := 167) C0 hl hs1 hi rfl hc2 hw2 hn2 hm2 r2 (Nat.le_of_ble_eq_true rfl) hcs hd2 d3 fun H2 locs2 hs2 _ => ?_
  rw [e2]
  refine W.lcmp hx hb d4 ?_
  have e0 : lg_cmp (Int64.ofInt a) (Int64.ofInt a) = 0 := by simp [lg_cmp]
  show W p l e room_1 s m args below meth c H2 locs2 cells slots Q (F0 m (lEnd (lEnd (pc + 1) as + 4) as + 3 + 1) lsv [.int (lg_cmp (Int64.ofInt a) (Int64.ofInt a))])
  rw [e0]
  refine lv_if_eq (tgt := 1510) hx hb d5 hoff (fun _ => ?_) (fun h => absurd rfl h)
  exact kk H2 locs2 ν hs2 hI
end LAW2
