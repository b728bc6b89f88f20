/-! objects in the making: what a constructor has made so far, and its rows -/
def nad (a0 : Nat) : Nat → Nat := fun p => a0 + p
def nfv (ad : Nat → Nat) (c : Nat) (μ : gM) (k j : Nat) (d : Nat × Nat × Nat) : Value := if 3 ≤ d.1 ∧ c < d.2.1 then .null else gfval ad μ k j d
def nent (ad : Nat → Nat) (cI cJ : ClassId) (c : Nat) (μ : gM) (k ci j : Nat) : Nat × va_E := (ad (k + j), if j = 0 then .inr (ci, (gFD.getD ci []).mapIdx (nfv ad c μ k)) else gent ad cI cJ μ (k + j))
def nCx (p : Program) (s : State) (m : MethodId) (args : Array Value) (meth : Method) (c : Code) (A : Nat → Prop) (D : va_G) (a0 : Nat) (cI cJ : ClassId) (k ci : Nat) (bytes : ByteArray) (maxL : Nat) : Prop :=
  p.tables.exec = Jvm.exec ∧ c.code = bytes ∧ meth.sig.returnType = none ∧ c.maxLocals = maxL ∧ s.vm.findClass (gown ci) = some m.cls ∧ (∀ w ∈ gTB, w.before args s = true) ∧ meth.locks = false ∧ meth.name = "<init>" ∧ gKK D cI cJ s ∧ (∀ q, a0 + k ≤ q → A q) ∧ ci < 11 ∧ s.heap.size = a0 + k + 1
def nW (p : Program) (l : Launch) (e : Env) (R : Room) (s : State) (m : MethodId) (args : Array Value) (below : List Frame) (meth : Method) (c : Code) (Q : State → Prop) (A : Nat → Prop) (D : va_G) (a0 : Nat) (cI cJ : ClassId) (k ci cc N pc : Nat) (ls st : List gv) (μ : gM) (cells slots : Nat) : Prop :=
  ∀ (H : Heap) (locs : List Loc) (lsv : Array Slot), H.size = a0 + k + N → (∀ j, j < N → va_at D gCL (nent (nad a0) cI cJ cc μ k ci j) H) → va_S A s.heap H locs → lv_has lsv ls.length (g_cl (nad a0) ls) → W p l e R s m args below meth c H locs cells slots Q (F0 m pc lsv (st.map (gval (nad a0))))
def nQ (B : Heap → Prop) (A1 : Nat → Prop) : Array Value → State → Outcome → State → Prop := fun _ st oc t => (oc = .returned none ∧ B t.heap) ∧ va_F A1 st t
def nPc (D : va_G) (a0 : Nat) (cI cJ : ClassId) (k ci : Nat) : Array Value → State → Prop := va_Pc [.ref (nad a0 k)] (fun U => U.heap.size = a0 + k + 1 ∧ va_at D gCL (nent (nad a0) cI cJ 0 (fun _ _ => 0) k ci 0) U.heap ∧ gKK D cI cJ U)
def nB (D : va_G) (a0 : Nat) (cI cJ : ClassId) (k n : Nat) (μ : gM) : Heap → Prop := fun H => H.size = a0 + k + n ∧ ∀ j, j < n → va_at D gCL (nad a0 (k + j), gent (nad a0) cI cJ μ (k + j)) H
def nMet (l : Launch) (D : va_G) (a0 : Nat) (cI cJ : ClassId) (y : MethodName) (bytes : ByteArray) (maxL rf rl k ci n ms : Nat) (μ : gM) : Prop :=
  Met l y (.code y bytes maxL none :: gTB) { frames := rf, cells := n - 1, slots := ms, locals := rl } (nPc D a0 cI cJ k ci) (nQ (nB D a0 cI cJ k n μ) (fun q => a0 + k ≤ q)) (n - 1) ms (fun q => a0 + k ≤ q)
theorem nPc_blind {D : va_G} {a0 : Nat} {cI cJ : ClassId} {k ci : Nat} : FrameBlind (nPc D a0 cI cJ k ci) := by
  rintro a U g mk ⟨q0, q1, qP, qK, qN⟩
  exact ⟨q0, q1, qP, va_K.moved (u := U) (U := U.calling g mk a) (Vm.Alike.refl U.vm) qK, fun w hw => va_Nw.same (u := U) (U := U.calling g mk a) (gNest_tabs hw) rfl (qN w hw)⟩
/-- the types of the fields by their sorts -/
def nty (t : Nat) (ty : FieldType) : Bool := match ty with
  | .int => t == 0
  | .boolean => t == 1
  | .long => t == 2
  | .object _ => decide (3 ≤ t)
  | .array _ => decide (3 ≤ t)
  | _ => false
def nfd_ok (ci j : Nat) : Bool := match gfd ci j, parseFieldDescriptor ((gcl ci).2.1 j).2.2.1 with
  | some (t, o, _), some ty => nty t ty && (decide (t < 3) || decide (1 ≤ o))
  | _, _ => false
theorem nfd_all : ((List.range 11).all fun ci => (List.range (gcl ci).2.2).all fun j => nfd_ok ci j) = true := by decide +kernel
theorem nfd_spec {ci j : Nat} (hc : ci < 11) (hj : j < (gcl ci).2.2) : ∃ t o x ty, gfd ci j = some (t, o, x) ∧ parseFieldDescriptor ((gcl ci).2.1 j).2.2.1 = some ty ∧ nty t ty = true ∧ (3 ≤ t → 1 ≤ o) := by
  have h := List.all_eq_true.mp (List.all_eq_true.mp nfd_all ci (List.mem_range.mpr hc)) j (List.mem_range.mpr hj)
  unfold nfd_ok at h
  split at h
  · rename_i t o x ty h1 h2
    rw [Bool.and_eq_true, Bool.or_eq_true, decide_eq_true_eq, decide_eq_true_eq] at h
    exact ⟨t, o, x, ty, h1, h2, h.1, fun q => by rcases h.2 with z | z <;> omega⟩
  · cases h
theorem ncl {ci : Nat} (hc : ci < 11) : gCL[ci]? = some (gcl ci) := by
  unfold gcl
  rw [List.getD_eq_getElem?_getD, List.getElem?_eq_getElem (show ci < gCL.length from hc)]
  rfl
theorem nfd_len {ci : Nat} (hc : ci < 11) : (gFD.getD ci []).length = (gcl ci).2.2 := by
  have h2 := List.all_eq_true.mp gfd_all ci (List.mem_range.mpr hc)
  simp only [Bool.and_eq_true, decide_eq_true_eq] at h2
  exact h2.1
/-- a fresh object of a kind is what the world calls one -/
theorem nfresh {ad : Nat → Nat} {ci k j : Nat} (hc : ci < 11) (hj : j < (gcl ci).2.2) {ty : Nat → FieldType} (hty : ∀ j, j < (gcl ci).2.2 → parseFieldDescriptor ((gcl ci).2.1 j).2.2.1 = some (ty j)) : defaultValue (ty j) = vp_V ((gFD.getD ci []).mapIdx (nfv ad 0 (fun _ _ => 0) k)) j := by
  obtain ⟨t, o, x, ty', h1, h2, h3, h4⟩ := nfd_spec hc hj
  have e : ty j = ty' := Option.some.inj ((hty j hj).symm.trans h2)
  have hd : (gFD.getD ci [])[j]? = some (t, o, x) := h1
  have hv : vp_V ((gFD.getD ci []).mapIdx (nfv ad 0 (fun _ _ => 0) k)) j = nfv ad 0 (fun _ _ => 0) k j (t, o, x) := by
    unfold vp_V
    rw [List.getD_eq_getElem?_getD, List.getElem?_mapIdx, hd]
    rfl
  rw [hv, e]
  unfold nfv
  cases ty' with
  | int =>
    have : t = 0 := by simpa [nty] using h3
    subst this
    rfl
  | boolean =>
    have : t = 1 := by simpa [nty] using h3
    subst this
    rfl
  | long =>
    have : t = 2 := by simpa [nty] using h3
    subst this
    rfl
  | object s =>
    have ht : 3 ≤ t := by simpa [nty] using h3
    have ho := h4 ht
    rw [if_pos (show 3 ≤ t ∧ 0 < o by omega)]
    rfl
  | array s =>
    have ht : 3 ≤ t := by simpa [nty] using h3
    have ho := h4 ht
    rw [if_pos (show 3 ≤ t ∧ 0 < o by omega)]
    rfl
  | _ => cases h3
section NROWS
variable {p : Program} {l : Launch} {e : Env} {R : Room} {s : State} {m : MethodId} {args : Array Value} {below : List Frame} {meth : Method} {c : Code} {Q : State → Prop} {A : Nat → Prop} {D : va_G} {a0 : Nat} {cI cJ : ClassId} {k ci cc N pc idx maxL : Nat} {ls st : List gv} {μ : gM} {cells slots : Nat} {bytes : ByteArray} {H : Heap} {locs : List Loc} {lsv : Array Slot} {rest : List Value}
/-- a final field written in the constructor: what changes, what stays -/
theorem nv_putF (hx : p.tables.exec = Jvm.exec) (hb : c.code = bytes) (hts : ∀ w ∈ gTB, w.before args s = true) (hown : s.vm.findClass (gown ci) = some m.cls) (hin : meth.name = "<init>") {tys : List (ClassId × FieldType)} (hK : va_K D gCL tys s) (hci : ci < 11) {a : Nat} {fs : List Value} (hat : va_at D gCL (a, .inr (ci, fs)) H) {j : Nat} (hj : j < (gcl ci).2.2) (hw : Cond.fieldLink (gown ci) idx (gcl ci).1 ((gcl ci).2.1 j).2.1 ((gcl ci).2.1 j).2.2.1 ∈ gTB) (hfin : ((gcl ci).2.1 j).2.2.2 = true) (hdecl : ((gcl ci).2.1 j).1 = gown ci) {ty : FieldType} {v : Value} (hd : parseFieldDescriptor ((gcl ci).2.1 j).2.2.1 = some ty) (hn : narrow ty v = v) (hfit : fits ty v = true) (hl : j < fs.length)
    (hS : va_S A s.heap H locs) (hA : A a) (hdg : decode bytes pc = .ok (.putfield idx, 3)) (kk : ∀ (H1 : Heap) (locs1 : List Loc), va_at D gCL (a, .inr (ci, fs.set j v)) H1 → H1.size = H.size → (∀ q, q ≠ a → H1[q]? = H[q]?) → va_S A s.heap H1 locs1 → W p l e R s m args below meth c H1 locs1 cells slots Q (F0 m (pc + 3) lsv rest)) : W p l e R s m args below meth c H locs cells slots Q (F0 m pc lsv (v :: .ref a :: rest)) := by
  have hcl := ncl hci
  obtain ⟨hws, hnm, ty0, hty0⟩ := gi_all ci _ hcl
  have hap := va_apart (own := gown ci) hts hws ty0 hty0 hnm hK hcl
  obtain ⟨r, h1, cell, q1, q2, q3, q4⟩ := hat
  have hr : r = gcl ci := Option.some.inj (h1.symm.trans hcl)
  subst hr
  obtain ⟨hS', hfc, kC, hkC, hkind⟩ := hK.1 ci _ hcl
  obtain ⟨cf, kf, fi, f, hi, hsl⟩ := hS' j hj
  have hlay := hts _ (hws _ (u_in_lay hj))
  unfold u_lay at hlay
  rw [if_pos hfin] at hlay
  have hst := (u_facts hfc hkC (u_lays hts hws hj) hi).1
  have hcf : m.cls = cf := by
    obtain ⟨_, _, c', _, _, _, -, -, hf', -, -, -, hown2, -⟩ := Cond.laysFinal_spec hlay
    have e1 : c' = cf := by have := hi.symm.trans hf'; simp at this; exact this.1.symm
    rw [hdecl] at hown2
    rw [← e1]; exact Option.some.inj (hown.symm.trans hown2)
  have h6 := u_fits hfc hkC hkind (Or.inr hlay) hi hd hn hfit
  have hsame : s.fieldFound? (gcl ci).1 ((gcl ci).2.1 j).2.1 ((gcl ci).2.1 j).2.2.1 = some (cf, kf, fi, f) := by rw [gcl_own hci, ← hdecl]; exact hi
  refine W.putFinK hx hb hown (hts _ hw) hsame hst hcf hin (by rw [q2]; exact h6) q1 q3 (by rw [hsl]; exact k2_hasslot (q4 j hj)) rfl rfl hdg fun H' e1 e2 e3 => ?_
  rw [hsl] at e1 ⊢
  exact kk H' _ ⟨_, hcl, t_OB.to (V := updV (vp_V fs) j v) ⟨_, e1, q2, q3, t_set q4 hap hj v⟩ (fun i _ => vp_updV_set hl v i)⟩ e2 e3 (hS.put e2 e3 hA)
theorem nv_put (hx : p.tables.exec = Jvm.exec) (hb : c.code = bytes) (hts : ∀ w ∈ gTB, w.before args s = true) (hown : s.vm.findClass (gown ci) = some m.cls) {tys : List (ClassId × FieldType)} (hK : va_K D gCL tys s) (hci : ci < 11) {a : Nat} {fs : List Value} (hat : va_at D gCL (a, .inr (ci, fs)) H) {j : Nat} (hj : j < (gcl ci).2.2) (hw : Cond.fieldLink (gown ci) idx (gcl ci).1 ((gcl ci).2.1 j).2.1 ((gcl ci).2.1 j).2.2.1 ∈ gTB) (hfin : ((gcl ci).2.1 j).2.2.2 = false) (hdecl : ((gcl ci).2.1 j).1 = gown ci) {ty : FieldType} {v : Value} (hd : parseFieldDescriptor ((gcl ci).2.1 j).2.2.1 = some ty) (hn : narrow ty v = v) (hfit : fits ty v = true) (hl : j < fs.length)
    (hS : va_S A s.heap H locs) (hA : A a) (hdg : decode bytes pc = .ok (.putfield idx, 3)) (kk : ∀ (H1 : Heap) (locs1 : List Loc), va_at D gCL (a, .inr (ci, fs.set j v)) H1 → H1.size = H.size → (∀ q, q ≠ a → H1[q]? = H[q]?) → va_S A s.heap H1 locs1 → W p l e R s m args below meth c H1 locs1 cells slots Q (F0 m (pc + 3) lsv rest)) : W p l e R s m args below meth c H locs cells slots Q (F0 m pc lsv (v :: .ref a :: rest)) := by
  have hcl := ncl hci
  obtain ⟨hws, hnm, ty0, hty0⟩ := gi_all ci _ hcl
  have hap := va_apart (own := gown ci) hts hws ty0 hty0 hnm hK hcl
  obtain ⟨r, h1, cell, q1, q2, q3, q4⟩ := hat
  have hr : r = gcl ci := Option.some.inj (h1.symm.trans hcl)
  subst hr
  obtain ⟨hS', hfc, kC, hkC, hkind⟩ := hK.1 ci _ hcl
  obtain ⟨cf, kf, fi, f, hi, hsl⟩ := hS' j hj
  have hlay := hts _ (hws _ (u_in_lay hj))
  unfold u_lay at hlay
  rw [if_neg (by rw [hfin]; decide)] at hlay
  have hst := (u_facts hfc hkC (u_lays hts hws hj) hi).1
  have h6 := u_store hfc hkC hkind hlay hi hd hn hfit
  have hsame : s.fieldFound? (gcl ci).1 ((gcl ci).2.1 j).2.1 ((gcl ci).2.1 j).2.2.1 = some (cf, kf, fi, f) := by rw [gcl_own hci, ← hdecl]; exact hi
  refine W.putK hx hb (f := f) ⟨hown, hts _ hw, ⟨_, _, _, hsame⟩, hst⟩ (by rw [q2]; exact h6) q1 q3 (by rw [hsl]; exact k2_hasslot (q4 j hj)) rfl rfl hdg fun H' e1 e2 e3 => ?_
  rw [hsl] at e1 ⊢
  exact kk H' _ ⟨_, hcl, t_OB.to (V := updV (vp_V fs) j v) ⟨_, e1, q2, q3, t_set q4 hap hj v⟩ (fun i _ => vp_updV_set hl v i)⟩ e2 e3 (hS.put e2 e3 hA)
theorem nv_iast (hx : p.tables.exec = Jvm.exec) (hb : c.code = bytes) (hK : va_K D gCL [(cI, .int), (cJ, .long)] s) {a n : Nat} {f : Nat → Int32} (hat : va_at D gCL (a, .inl (cI, n, .inl f)) H) (hS : va_S A s.heap H locs) (hA : A a) {i x : Int32} (hin : vp_in i n) (hdg : decode bytes pc = .ok (.iastore, 1))
    (kk : ∀ (H1 : Heap) (locs1 : List Loc), va_at D gCL (a, .inl (cI, n, .inl (upd f i.toNatClampNeg x))) H1 → H1.size = H.size → (∀ q, q ≠ a → H1[q]? = H[q]?) → va_S A s.heap H1 locs1 → W p l e R s m args below meth c H1 locs1 cells slots Q (F0 m (pc + 1) lsv rest)) : W p l e R s m args below meth c H locs cells slots Q (F0 m pc lsv (.int x :: .int i :: .ref a :: rest)) := by
  refine W.iast hx hb hat ((hK.2 0 _ rfl).1 n (fun j => .int (f j))) (fun q => by cases q) (by show ¬ (i < 0 ∨ (arrV _ _ _).slots.size ≤ _); rw [arrV_size]; exact hin) rfl rfl hdg fun H1 e z oq => ?_
  refine kk H1 _ ?_ z oq (hS.put z oq hA)
  show H1[a]? = some (vp_cell _ _)
  rw [e, vp_cell_i, vp_cell_i, arrV_store]
  congr 2
  funext q
  by_cases hq : q = i.toNatClampNeg
  · subst hq
    simp [updV, upd]
  · simp [updV, upd, hq]
theorem n_aload (C0 : nCx p s m args meth c A D a0 cI cJ k ci bytes maxL) {i : Nat} {x : Fin 4} {r : (Nat × Nat) ⊕ ((Nat × Nat) ⊕ (Nat × Nat))} (hi : ls[i]? = some (some (.inr (.inr r)))) (hxi : (x : Nat) = i) (d : decode bytes pc = .ok (.aload_n x, 1))
    (kk : nW p l e R s m args below meth c Q A D a0 cI cJ k ci cc N (pc + 1) ls (some (.inr (.inr r)) :: st) μ cells slots) : nW p l e R s m args below meth c Q A D a0 cI cJ k ci cc N pc ls st μ cells slots := by
  obtain ⟨hx, hb, -⟩ := C0
  intro H locs lsv hz hP hS hl
  have hv := g_cl_at (ad := nad a0) hl (i := i) (w := gval (nad a0) (some (.inr (.inr r)))) (by unfold g_at; rw [hi])
  have := kk H locs lsv hz hP hS hl
  rcases r with r | r | r
  · exact lv_aload_n hx hb d hxi hv this
  · exact lv_aload_n hx hb d hxi hv this
  · exact lv_aload_n hx hb d hxi hv this
theorem n_iconst (C0 : nCx p s m args meth c A D a0 cI cJ k ci bytes maxL) {n : Int} (d : decode bytes pc = .ok (.iconst n, 1)) (kk : nW p l e R s m args below meth c Q A D a0 cI cJ k ci cc N (pc + 1) ls (gI n :: st) μ cells slots) : nW p l e R s m args below meth c Q A D a0 cI cJ k ci cc N pc ls st μ cells slots := by
  obtain ⟨hx, hb, -⟩ := C0
  intro H locs lsv hz hP hS hl
  exact lv_iconst hx hb d rfl (kk H locs lsv hz hP hS hl)
theorem n_bipush (C0 : nCx p s m args meth c A D a0 cI cJ k ci bytes maxL) {n : Int} (d : decode bytes pc = .ok (.bipush n, 2)) (hn : (Int8.ofInt n).toInt32 = Int32.ofInt n) (kk : nW p l e R s m args below meth c Q A D a0 cI cJ k ci cc N (pc + 2) ls (gI n :: st) μ cells slots) : nW p l e R s m args below meth c Q A D a0 cI cJ k ci cc N pc ls st μ cells slots := by
  obtain ⟨hx, hb, -⟩ := C0
  intro H locs lsv hz hP hS hl
  exact lv_bipush hx hb d hn (kk H locs lsv hz hP hS hl)
theorem n_sipush (C0 : nCx p s m args meth c A D a0 cI cJ k ci bytes maxL) {n : Int} (d : decode bytes pc = .ok (.sipush n, 3)) (hn : (Int16.ofInt n).toInt32 = Int32.ofInt n) (kk : nW p l e R s m args below meth c Q A D a0 cI cJ k ci cc N (pc + 3) ls (gI n :: st) μ cells slots) : nW p l e R s m args below meth c Q A D a0 cI cJ k ci cc N pc ls st μ cells slots := by
  obtain ⟨hx, hb, -⟩ := C0
  intro H locs lsv hz hP hS hl
  exact lv_sipush hx hb d hn (kk H locs lsv hz hP hS hl)
theorem n_dup (C0 : nCx p s m args meth c A D a0 cI cJ k ci bytes maxL) {n q : Nat} (d : decode bytes pc = .ok (.dup, 1)) (kk : nW p l e R s m args below meth c Q A D a0 cI cJ k ci cc N (pc + 1) ls (gA n q :: gA n q :: st) μ cells slots) : nW p l e R s m args below meth c Q A D a0 cI cJ k ci cc N pc ls (gA n q :: st) μ cells slots := by
  obtain ⟨hx, hb, -⟩ := C0
  intro H locs lsv hz hP hS hl
  exact lv_dup hx hb d rfl (kk H locs lsv hz hP hS hl)
theorem n_objInit (C0 : nCx p s m args meth c A D a0 cI cJ k ci bytes maxL) (hlen : ls.length = maxL) (hw : Cond.methodLink (gown ci) idx Lib.objectInit ∈ gTB) (hw2 : Cond.instanceMethod Lib.objectInit ∈ gTB) (hw3 : Cond.code Lib.objectInit ⟨#[0xb1]⟩ 1 none ∈ gTB) (hf : 1 ≤ R.frames) (hlo : 12 ≤ R.locals) (d : decode bytes pc = .ok (.invokespecial idx, 3))
    (kk : nW p l e R s m args below meth c Q A D a0 cI cJ k ci cc N (pc + 3) ls [] μ cells slots) : nW p l e R s m args below meth c Q A D a0 cI cJ k ci cc N pc ls [gO ci k] μ cells slots := by
  obtain ⟨hx, hb, hr, hml, hown, hts, -⟩ := C0
  intro H locs lsv hz hP hS hl
  exact W.objInit hx hb hown (hts _ hw) (hts _ hw2) (hts _ hw3) rfl (by show lsv.size = _; rw [hl.1, hlen, hml]) rfl d hf (by show 2 * 0 + 0 + 12 ≤ _; omega) (kk H locs lsv hz hP hS hl)
theorem nad_lt {a0 k j N : Nat} (h : j < N) : nad a0 (k + j) < a0 + k + N := by unfold nad; omega
/-- what is made anew leaves the rest -/
theorem n_more {cells' slots' : Nat} {H1 : Heap} (hz : H.size = a0 + k + N) (hN : 1 ≤ N) (hP : ∀ j, j < N → va_at D gCL (nent (nad a0) cI cJ cc μ k ci j) H) (o1 : ∀ q, q < H.size → H1[q]? = H[q]?) (hnew : va_at D gCL (nad a0 (k + N), gent (nad a0) cI cJ μ (k + N)) H1) : ∀ j, j < N + 1 → va_at D gCL (nent (nad a0) cI cJ cc μ k ci j) H1 := by
  intro j hj
  by_cases h : j = N
  · subst h
    unfold nent
    rw [if_neg (by omega)]
    exact hnew
  · exact (hP j (by omega)).kept (o1 _ (by show nad a0 (k + j) < _; rw [hz]; exact nad_lt (by omega)))
theorem nclamp {L : Nat} (hL : L < 65536) : ¬ Int32.ofInt (L : Int) < 0 ∧ (Int32.ofInt (L : Int)).toNatClampNeg = L := by
  have e : (Int32.ofInt (L : Int)).toInt = (L : Int) := ofInt_toInt (by omega) (by omega)
  refine ⟨fun h => ?_, ?_⟩
  · have := Int32.lt_iff_toInt_lt.mp h
    rw [e] at this
    have z : (0 : Int32).toInt = 0 := rfl
    rw [z] at this
    omega
  · have := g_ix e (by omega)
    omega
theorem n_newI (C0 : nCx p s m args meth c A D a0 cI cJ k ci bytes maxL) {L : Nat} (hly : gLY[k + N]? = some (1, L)) (hz0 : ∀ i, μ (k + N) i = 0) (hN : 1 ≤ N) (harr : Cond.arrayClass .int ∈ gTB) (hc1 : cells + 1 ≤ R.cells) (hs1 : slots + L ≤ R.slots) (d : decode bytes pc = .ok (.newarray .int, 2))
    (kk : nW p l e R s m args below meth c Q A D a0 cI cJ k ci cc (N + 1) (pc + 2) ls (gA L (k + N) :: st) μ (cells + 1) (slots + L)) : nW p l e R s m args below meth c Q A D a0 cI cJ k ci cc N pc ls (gI L :: st) μ cells slots := by
  obtain ⟨hx, hb, hr, hml, hown, hts, hlk, hin, hKK, hA, hci, hsz⟩ := C0
  intro H locs lsv hz hP hS hl
  have hL := gly_len hly (Or.inl rfl)
  obtain ⟨g1, g2⟩ := nclamp hL
  refine va_newaK hx hb (atype := .int) (hts _ harr) rfl d (n := Int32.ofInt L) rfl g1 g2 (by show L * 4 ≤ _; omega) hc1 hs1 (show H.size = nad a0 (k + N) by unfold nad; omega) fun H1 cA e1 z1 o1 hAr hNm => ?_
  have z2 : H1.size = a0 + k + N + 1 := by rw [z1]; unfold nad; omega
  have o2 : ∀ q, q < H.size → H1[q]? = H[q]? := fun q hq => o1 q (by unfold nad; omega)
  have hcA : cA = cI := Option.some.inj (hNm.symm.trans (hKK.1.2 0 (cI, .int) rfl).2)
  subst hcA
  refine kk H1 locs lsv (by omega) (n_more (cells' := 0) (slots' := 0) hz hN hP o2 ?_) ⟨Nat.le_trans hS.1 (by omega), fun q h1 h2 => (o2 q (by have := hS.1; omega)).trans (hS.2.1 q h1 h2), hS.2.2⟩ hl
  rw [gent_arr hly]
  show H1[nad a0 (k + N)]? = some (vp_cell _ _)
  rw [vp_cell_i, e1]
  congr 2
  funext q
  rw [hz0]
  rfl
theorem n_newJ (C0 : nCx p s m args meth c A D a0 cI cJ k ci bytes maxL) {L : Nat} (hly : gLY[k + N]? = some (2, L)) (hz0 : ∀ i, μ (k + N) i = 0) (hN : 1 ≤ N) (harr : Cond.arrayClass .long ∈ gTB) (hc1 : cells + 1 ≤ R.cells) (hs1 : slots + L ≤ R.slots) (d : decode bytes pc = .ok (.newarray .long, 2))
    (kk : nW p l e R s m args below meth c Q A D a0 cI cJ k ci cc (N + 1) (pc + 2) ls (gB L (k + N) :: st) μ (cells + 1) (slots + L)) : nW p l e R s m args below meth c Q A D a0 cI cJ k ci cc N pc ls (gI L :: st) μ cells slots := by
  obtain ⟨hx, hb, hr, hml, hown, hts, hlk, hin, hKK, hA, hci, hsz⟩ := C0
  intro H locs lsv hz hP hS hl
  have hL := gly_len hly (Or.inr rfl)
  obtain ⟨g1, g2⟩ := nclamp hL
  refine va_newaK hx hb (atype := .long) (hts _ harr) rfl d (n := Int32.ofInt L) rfl g1 g2 (by show L * 8 ≤ _; omega) hc1 hs1 (show H.size = nad a0 (k + N) by unfold nad; omega) fun H1 cA e1 z1 o1 hAr hNm => ?_
  have z2 : H1.size = a0 + k + N + 1 := by rw [z1]; unfold nad; omega
  have o2 : ∀ q, q < H.size → H1[q]? = H[q]? := fun q hq => o1 q (by unfold nad; omega)
  have hcA : cA = cJ := Option.some.inj (hNm.symm.trans (hKK.1.2 1 (cJ, .long) rfl).2)
  subst hcA
  refine kk H1 locs lsv (by omega) (n_more (cells' := 0) (slots' := 0) hz hN hP o2 ?_) ⟨Nat.le_trans hS.1 (by omega), fun q h1 h2 => (o2 q (by have := hS.1; omega)).trans (hS.2.1 q h1 h2), hS.2.2⟩ hl
  rw [gent_larr hly]
  show H1[nad a0 (k + N)]? = some (vp_cell _ _)
  rw [vp_cell_l, e1]
  congr 2
  funext q
  rw [hz0]
  rfl
/-- no other field stands between the thresholds -/
def nchk (ci j cc n : Nat) : Bool := (List.range (gFD.getD ci []).length).all fun i => i == j || (match gfd ci i with
  | some (t, o, _) => decide (t < 3) || (decide (cc < o) == decide (n < o))
  | none => true)
theorem nfv_set {ad : Nat → Nat} {ci j n t o x : Nat} (hd : gfd ci j = some (t, o, x)) (ht : 3 ≤ t) (ho : o ≤ n) (hchk : nchk ci j cc n = true) : ((gFD.getD ci []).mapIdx (nfv ad cc μ k)).set j (.ref (ad (k + o))) = (gFD.getD ci []).mapIdx (nfv ad n μ k) := by
  apply List.ext_getElem?
  intro i
  rw [List.getElem?_set]
  by_cases hi : j = i
  · subst hi
    have hj : (gFD.getD ci [])[j]? = some (t, o, x) := hd
    rw [if_pos rfl, if_pos (by rw [List.length_mapIdx]; exact (List.getElem?_eq_some_iff.mp hj).1), List.getElem?_mapIdx, hj]
    show some (Value.ref (ad (k + o))) = some (nfv ad n μ k j (t, o, x))
    unfold nfv
    rw [if_neg (show ¬ (3 ≤ t ∧ n < o) by omega)]
    rcases t with _ | _ | _ | t
    · omega
    · omega
    · omega
    · rfl
  · rw [if_neg hi, List.getElem?_mapIdx, List.getElem?_mapIdx]
    cases hg : (gFD.getD ci [])[i]? with
    | none => rfl
    | some dd =>
      obtain ⟨t', o', x'⟩ := dd
      have hlt : i < (gFD.getD ci []).length := (List.getElem?_eq_some_iff.mp hg).1
      have h := List.all_eq_true.mp hchk i (List.mem_range.mpr hlt)
      have hg' : gfd ci i = some (t', o', x') := hg
      rw [hg'] at h
      simp only [Bool.or_eq_true, beq_iff_eq, decide_eq_true_eq] at h
      show some (nfv ad cc μ k i (t', o', x')) = some (nfv ad n μ k i (t', o', x'))
      unfold nfv
      rcases h with h | h | h
      · exact absurd h.symm hi
      · rw [if_neg (show ¬ (3 ≤ t' ∧ cc < o') by omega), if_neg (show ¬ (3 ≤ t' ∧ n < o') by omega)]
      · have h2 : (cc < o') ↔ (n < o') := by first | exact decide_eq_decide.mp h | exact h | simpa using h
        simp only [h2]
theorem n_others {cc' : Nat} {μ' : gM} {H1 : Heap} {q0 : Nat} (hq : q0 < N) (hP : ∀ j, j < N → va_at D gCL (nent (nad a0) cI cJ cc μ k ci j) H) (oq : ∀ q, q ≠ nad a0 (k + q0) → H1[q]? = H[q]?) (he : ∀ j, j ≠ q0 → nent (nad a0) cI cJ cc' μ' k ci j = nent (nad a0) cI cJ cc μ k ci j) (hnew : va_at D gCL (nent (nad a0) cI cJ cc' μ' k ci q0) H1) : ∀ j, j < N → va_at D gCL (nent (nad a0) cI cJ cc' μ' k ci j) H1 := by
  intro j hj
  by_cases h : j = q0
  · rw [h]; exact hnew
  · rw [he j h]
    refine (hP j hj).kept (oq _ ?_)
    show nad a0 (k + j) ≠ nad a0 (k + q0)
    unfold nad
    omega
/-- a row's or an object's place kept in its field -/
theorem n_putR (C0 : nCx p s m args meth c A D a0 cI cJ k ci bytes maxL) {j t o x : Nat} {w : (Nat × Nat) ⊕ ((Nat × Nat) ⊕ (Nat × Nat))} (hw0 : gval (nad a0) (some (.inr (.inr w))) = .ref (nad a0 (k + o))) (hd : gfd ci j = some (t, o, x)) (ht : 3 ≤ t) (ho : o < N) (hchk : nchk ci j cc (N - 1) = true) (hw : Cond.fieldLink (gown ci) idx (gcl ci).1 ((gcl ci).2.1 j).2.1 ((gcl ci).2.1 j).2.2.1 ∈ gTB) (hfin : ((gcl ci).2.1 j).2.2.2 = true) (hdecl : ((gcl ci).2.1 j).1 = gown ci) (d : decode bytes pc = .ok (.putfield idx, 3))
    (kk : nW p l e R s m args below meth c Q A D a0 cI cJ k ci (N - 1) N (pc + 3) ls st μ cells slots) : nW p l e R s m args below meth c Q A D a0 cI cJ k ci cc N pc ls (some (.inr (.inr w)) :: gO ci k :: st) μ cells slots := by
  obtain ⟨hx, hb, hr, hml, hown, hts, hlk, hin, hKK, hA, hci, hsz⟩ := C0
  intro H locs lsv hz hP hS hl
  have hjl : j < (gFD.getD ci []).length := (List.getElem?_eq_some_iff.mp hd).1
  have hj : j < (gcl ci).2.2 := by rw [← nfd_len hci]; exact hjl
  obtain ⟨t', o', x', ty, h1, h2, h3, -⟩ := nfd_spec hci hj
  cases h1.symm.trans hd
  have hty : narrow ty (.ref (nad a0 (k + o))) = .ref (nad a0 (k + o)) ∧ fits ty (.ref (nad a0 (k + o))) = true := by
    cases ty with
    | object _ => exact ⟨rfl, rfl⟩
    | array _ => exact ⟨rfl, rfl⟩
    | int => simp [nty] at h3; omega
    | boolean => simp [nty] at h3; omega
    | long => simp [nty] at h3; omega
    | _ => cases h3
  have hat := hP 0 (by omega)
  unfold nent at hat
  rw [if_pos rfl] at hat
  show W p l e R s m args below meth c H locs cells slots Q (F0 m pc lsv (gval (nad a0) (some (.inr (.inr w))) :: .ref (nad a0 k) :: st.map (gval (nad a0))))
  rw [hw0]
  refine nv_putF hx hb hts hown hin hKK.1 hci (a := nad a0 k) hat hj hw hfin hdecl h2 hty.1 hty.2 (by rw [List.length_mapIdx]; exact hjl) hS (hA _ (by unfold nad; omega)) d fun H1 locs1 g1 g2 g3 g4 => ?_
  refine kk H1 locs1 lsv (by omega) (n_others (q0 := 0) (by omega) hP (fun q hq => g3 q hq) (fun i hi => ?_) ?_) g4 hl
  · unfold nent
    rw [if_neg hi, if_neg hi]
  · unfold nent
    rw [if_pos rfl, ← nfv_set hd ht (show o ≤ N - 1 by omega) hchk]
    exact g1
theorem n_putI (C0 : nCx p s m args meth c A D a0 cI cJ k ci bytes maxL) {j o x : Nat} {v : Int} (hd : gfd ci j = some (0, o, x)) (hN : 1 ≤ N) (hw : Cond.fieldLink (gown ci) idx (gcl ci).1 ((gcl ci).2.1 j).2.1 ((gcl ci).2.1 j).2.2.1 ∈ gTB) (hfin : ((gcl ci).2.1 j).2.2.2 = false) (hdecl : ((gcl ci).2.1 j).1 = gown ci) (d : decode bytes pc = .ok (.putfield idx, 3))
    (kk : nW p l e R s m args below meth c Q A D a0 cI cJ k ci cc N (pc + 3) ls st (gS μ k j v) cells slots) : nW p l e R s m args below meth c Q A D a0 cI cJ k ci cc N pc ls (gI v :: gO ci k :: st) μ cells slots := by
  obtain ⟨hx, hb, hr, hml, hown, hts, hlk, hin, hKK, hA, hci, hsz⟩ := C0
  intro H locs lsv hz hP hS hl
  have hjl : j < (gFD.getD ci []).length := (List.getElem?_eq_some_iff.mp hd).1
  have hj : j < (gcl ci).2.2 := by rw [← nfd_len hci]; exact hjl
  obtain ⟨t', o', x', ty, h1, h2, h3, -⟩ := nfd_spec hci hj
  cases h1.symm.trans hd
  have hty : narrow ty (.int (Int32.ofInt v)) = .int (Int32.ofInt v) ∧ fits ty (.int (Int32.ofInt v)) = true := by
    cases ty with
    | int => exact ⟨rfl, rfl⟩
    | object _ => simp [nty] at h3
    | array _ => simp [nty] at h3
    | boolean => simp [nty] at h3
    | long => simp [nty] at h3
    | _ => cases h3
  have hat := hP 0 (by omega)
  unfold nent at hat
  rw [if_pos rfl] at hat
  refine nv_put hx hb hts hown hKK.1 hci (a := nad a0 k) hat hj hw hfin hdecl h2 hty.1 hty.2 (by rw [List.length_mapIdx]; exact hjl) hS (hA _ (by unfold nad; omega)) d fun H1 locs1 g1 g2 g3 g4 => ?_
  refine kk H1 locs1 lsv (by omega) (n_others (q0 := 0) (by omega) hP (fun q hq => g3 q hq) (fun i hi => ?_) ?_) g4 hl
  · unfold nent
    rw [if_neg hi, if_neg hi]
    rw [gent_congr (gS_ne (k + i) (by omega))]
  · unfold nent
    rw [if_pos rfl]
    have e : ((gFD.getD ci []).mapIdx (nfv (nad a0) cc μ k)).set j (.int (Int32.ofInt v)) = (gFD.getD ci []).mapIdx (nfv (nad a0) cc (gS μ k j v) k) := by
      apply List.ext_getElem?
      intro i
      rw [List.getElem?_set]
      by_cases hi : j = i
      · subst hi
        have hjj : (gFD.getD ci [])[j]? = some (0, o, x) := hd
        rw [if_pos rfl, if_pos (by rw [List.length_mapIdx]; exact hjl), List.getElem?_mapIdx, hjj]
        show some (Value.int (Int32.ofInt v)) = some (nfv (nad a0) cc (gS μ k j v) k j (0, o, x))
        unfold nfv
        rw [if_neg (by omega)]
        show some (Value.int (Int32.ofInt v)) = some (Value.int (Int32.ofInt (gS μ k j v k j)))
        rw [gS_at]
      · rw [if_neg hi, List.getElem?_mapIdx, List.getElem?_mapIdx]
        congr 1
        funext dd
        have e2 : gS μ k j v k i = μ k i := by
          unfold gS
          rw [if_neg]
          rintro ⟨-, q⟩
          omega
        unfold nfv gfval
        rw [e2]
    rw [← e]
    exact g1
theorem n_iast (C0 : nCx p s m args meth c A D a0 cI cJ k ci bytes maxL) {q0 n : Nat} {i v : Int} (hly : gLY[k + q0]? = some (1, n)) (hq : q0 < N) (hq1 : q0 ≠ 0) (hi0 : 0 ≤ i) (hi1 : i < n) (d : decode bytes pc = .ok (.iastore, 1))
    (kk : nW p l e R s m args below meth c Q A D a0 cI cJ k ci cc N (pc + 1) ls st (gS μ (k + q0) i v) cells slots) : nW p l e R s m args below meth c Q A D a0 cI cJ k ci cc N pc ls (gI v :: gI i :: gA n (k + q0) :: st) μ cells slots := by
  obtain ⟨hx, hb, hr, hml, hown, hts, hlk, hin, hKK, hA, hci, hsz⟩ := C0
  intro H locs lsv hz hP hS hl
  have hn := gly_len hly (Or.inl rfl)
  have hi : (Int32.ofInt i).toInt = i := ofInt_toInt (by omega) (by omega)
  have hat := hP q0 hq
  unfold nent at hat
  rw [if_neg hq1, gent_arr hly] at hat
  refine nv_iast hx hb hKK.1 hat hS (hA _ (by unfold nad; omega)) (i := Int32.ofInt i) (x := Int32.ofInt v) (vp_in_iff.mpr ⟨by rw [hi]; exact hi0, by rw [hi]; exact hi1⟩) d fun H1 locs1 g1 g2 g3 g4 => ?_
  rw [g_upd hi hi0] at g1
  refine kk H1 locs1 lsv (by omega) (n_others (q0 := q0) hq hP (fun q hq => g3 q hq) (fun j hj => ?_) ?_) g4 hl
  · unfold nent
    by_cases h0 : j = 0
    · rw [if_pos h0, if_pos h0]
      have e : nfv (nad a0) cc (gS μ (k + q0) i v) k = nfv (nad a0) cc μ k := by
        funext j' dd
        have e2 : gS μ (k + q0) i v k j' = μ k j' := gS_ne k (by omega) _
        unfold nfv gfval
        rw [e2]
      rw [e]
    · rw [if_neg h0, if_neg h0, gent_congr (gS_ne (k + j) (by omega))]
  · unfold nent
    rw [if_neg hq1, gent_arr hly]
    exact g1
end NROWS
