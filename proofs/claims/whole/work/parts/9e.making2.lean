/-! making: calls of constructors, loops, start and end -/
section NCALLS
variable {p : Program} {l : Launch} {e : Env} {R : Room} {s : State} {m : MethodId} {args : Array Value} {below : List Frame} {meth : Method} {c : Code} {Q : State → Prop} {A : Nat → Prop} {D : va_G} {a0 : Nat} {cI cJ : ClassId} {k ci cc N pc idx maxL : Nat} {ls st : List gv} {μ : gM} {cells slots : Nat} {bytes : ByteArray} {H : Heap} {locs : List Loc} {lsv : Array Slot} {rest : List Value}
theorem nv_callv {A0 A1 : Nat → Prop} {H0 : Heap} {B : Heap → Prop} {mc ms : Nat} {a : Array Value} {free : Addr → Prop} {st0 : List Value} (hr : va_Run p l e R s m args below meth c H locs cells slots mc ms (F0 m pc lsv st0) rest (nQ B A1 a) free) (hS : va_S A0 H0 H locs) (hA : ∀ q, q < H.size → A1 q → A0 q) (hf : ∀ q, free q → A0 q)
    (kk : ∀ (H1 : Heap) (locs1 : List Loc), B H1 → H.size ≤ H1.size → (∀ q : Nat, q < H.size → ¬ A1 q → H1[q]? = H[q]?) → va_S A0 H0 H1 locs1 → W p l e R s m args below meth c H1 locs1 (cells + mc) (slots + ms) Q (F0 m (pc + 3) lsv rest)) : W p l e R s m args below meth c H locs cells slots Q (F0 m pc lsv st0) := by
  intro T hT X
  obtain ⟨v, st₀, t, T', L, h0, X', hL, e1, e2, ⟨⟨hv, hb⟩, hz, hk⟩, st⟩ := hr T hT X
  cases hv
  rw [h0] at hz hk
  obtain ⟨t2, a1, b1⟩ := kk T'.heap (locs ++ L) (by rw [e1]; exact hb) (by rw [e1]; exact hz) (fun q h1 h2 => by rw [e1]; exact hk q h1 h2)
    ⟨Nat.le_trans hS.1 (by rw [e1]; exact hz), fun q h1 h2 => by rw [e1, hk q (Nat.lt_of_lt_of_le h1 hS.1) (fun z => h2 (hA q (Nat.lt_of_lt_of_le h1 hS.1) z))]; exact hS.2.1 q h1 h2, fun q hq => by
      rcases List.mem_append.mp hq with h | h
      · exact hS.2.2 q h
      · exact hf _ (hL q h)⟩ T' rfl X'
  exact ⟨t2, st t2 a1, b1⟩
theorem gTB_ws {y : MethodName} {b : ByteArray} {L : Nat} (h : Cond.code y b L none ∈ gTB) : GoodIn gTB (.code y b L none :: gTB) := by
  intro w hw
  rcases List.mem_cons.mp hw with rfl | hw
  · exact ⟨h, good_of_word (gTB_good h)⟩
  · exact ⟨hw, good_of_word (gTB_good hw)⟩
/-- 'new C; dup' -/
theorem nv_new {own : String} {i1 k1 : Nat} (hx : p.tables.exec = Jvm.exec) (hb : c.code = bytes) (hown : s.vm.findClass own = some m.cls) (hts : ∀ w ∈ gTB, w.before args s = true) (hKK : gKK D cI cJ s) (hci : ci < 11) (hH : H.size = a0 + k1) (hS : va_S A s.heap H locs)
    (hw1 : Cond.classLink own i1 (gown ci) ∈ gTB) (hw2 : Cond.instantiable (gown ci) (gcl ci).2.2 ∈ gTB) (hw3 : Cond.initialized (gown ci) ∈ gTB) (hc1 : cells + 1 ≤ R.cells) (hs1 : slots + (gcl ci).2.2 ≤ R.slots) (d0 : decode bytes pc = .ok (.new i1, 3)) (d3 : decode bytes (pc + 3) = .ok (.dup, 1))
    (kk : ∀ H1 : Heap, H1.size = a0 + k1 + 1 → va_at D gCL (nent (nad a0) cI cJ 0 (fun _ _ => 0) k1 ci 0) H1 → (∀ q, q < H.size → H1[q]? = H[q]?) → va_S A s.heap H1 locs → W p l e R s m args below meth c H1 locs (cells + 1) (slots + (gcl ci).2.2) Q (F0 m (pc + 4) lsv (.ref (nad a0 k1) :: .ref (nad a0 k1) :: rest))) : W p l e R s m args below meth c H locs cells slots Q (F0 m pc lsv rest) := by
  have hcl := ncl hci
  obtain ⟨hws, hnm, ty0, hty0⟩ := gi_all ci _ hcl
  have hKn := hKK.1.1 ci _ hcl
  refine W.newcK hx hb hown (hts _ hw1) (hts _ hw2) (hts _ hw3) rfl d0 hc1 hs1 (by rw [← gcl_own hci]; exact hKn.2.1) hH fun H1 kC hkC e1 z1 o1 => ?_
  refine lv_dup hx hb d3 rfl ?_
  refine kk H1 z1 ?_ (fun q hq => o1 q (by omega)) ⟨Nat.le_trans hS.1 (by omega), fun x h1 h2 => (o1 x (by have := hS.1; omega)).trans (hS.2.1 x h1 h2), hS.2.2⟩
  refine ⟨_, hcl, ?_⟩
  exact (u_born ty0 hts hws hKn hkC e1 hty0).to (fun j hj => nfresh hci hj hty0)
/-- 'new C; dup; C()' -/
theorem nv_obj {own : String} {i1 i2 k1 n ms L' rf rl NF L : Nat} {y : MethodName} {b' : ByteArray} (hx : p.tables.exec = Jvm.exec) (hb : c.code = bytes) (hml : c.maxLocals = L) (hown : s.vm.findClass own = some m.cls) (hts : ∀ w ∈ gTB, w.before args s = true) (hKK : gKK D cI cJ s) (hci : ci < 11) (hH : H.size = a0 + k1) (hA : ∀ q, a0 + k1 ≤ q → A q) (hS : va_S A s.heap H locs) (hlsz : lsv.size = L) (hNF : (gcl ci).2.2 = NF)
    (hw1 : Cond.classLink own i1 (gown ci) ∈ gTB) (hw2 : Cond.instantiable (gown ci) (gcl ci).2.2 ∈ gTB) (hw3 : Cond.initialized (gown ci) ∈ gTB) (hy : y = ⟨gown ci, "<init>", "()V"⟩) (hyc : y.cls ≠ "java/lang/invoke/MethodHandle" ∧ y.cls ≠ "java/lang/invoke/VarHandle") (hw4 : Cond.methodLinkNest own i2 y "GatedDevices" ∈ gNest ∨ Cond.methodLink own i2 y ∈ gTB) (hw5 : Cond.instanceMethod y ∈ gTB) (hw6 : Cond.code y b' L' none ∈ gTB)
    (child : nMet l D a0 cI cJ y b' L' rf rl k1 ci n ms μ) (hn : 1 ≤ n) (hR1 : rf + 1 ≤ R.frames) (hR2 : 8 + (L' + 11) + rl ≤ R.locals) (hc1 : cells + n ≤ R.cells) (hs1 : slots + NF + ms ≤ R.slots) (hrest : (rest.map fun v => v.category).sum ≤ 7) (d0 : decode bytes pc = .ok (.new i1, 3)) (d3 : decode bytes (pc + 3) = .ok (.dup, 1)) (d4 : decode bytes (pc + 4) = .ok (.invokespecial i2, 3))
    (kk : ∀ (H1 : Heap) (locs1 : List Loc), H1.size = a0 + k1 + n → (∀ j, j < n → va_at D gCL (nad a0 (k1 + j), gent (nad a0) cI cJ μ (k1 + j)) H1) → (∀ q, q < H.size → H1[q]? = H[q]?) → va_S A s.heap H1 locs1 → W p l e R s m args below meth c H1 locs1 (cells + n) (slots + NF + ms) Q (F0 m (pc + 7) lsv (.ref (nad a0 k1) :: rest))) : W p l e R s m args below meth c H locs cells slots Q (F0 m pc lsv rest) := by
  subst hNF
  refine nv_new hx hb hown hts hKK hci hH hS hw1 hw2 hw3 (by omega) (by omega) d0 d3 fun H1 z1 f1 o1 hS1 => ?_
  have hfr : ∀ q, a0 + k1 ≤ q → A q := hA
  have hpre : ∀ U : State, U.heap = H1 → s.WarmedH U.vm → nPc D a0 cI cJ k1 ci [Value.ref (nad a0 k1)].toArray U := fun U hU hW => ⟨rfl, by rw [hU]; exact z1, by rw [hU]; exact f1, gKK.warm hW hKK⟩
  have hCF : CallFix p m c bytes L s args gTB own := ⟨hx, hb, hml, hown, hts⟩
  have hlen : ∀ sig, parseMethodDescriptor y.desc = some sig → 0 = sig.parameters.length := by
    intro sig hsig
    have e1 : parseMethodDescriptor y.desc = some sig := hsig
    rw [hy] at e1
    have e2 : (parseMethodDescriptor "()V").map (fun q => q.parameters.length) = some 0 := by decide +kernel
    have e1 : parseMethodDescriptor "()V" = some sig := e1
    rw [e1] at e2
    exact (Option.some.inj e2).symm
  have hrun : va_Run p l e R s m args below meth c H1 locs (cells + 1) (slots + (gcl ci).2.2) (n - 1) ms (F0 m (pc + 4) lsv (.ref (nad a0 k1) :: .ref (nad a0 k1) :: rest)) (.ref (nad a0 k1) :: rest) (nQ (nB D a0 cI cJ k1 n μ) (fun q => a0 + k1 ≤ q) [Value.ref (nad a0 k1)].toArray) (fun q => a0 + k1 ≤ q) := by
    have hsum : 2 * (F0 m (pc + 4) lsv (.ref (nad a0 k1) :: .ref (nad a0 k1) :: rest)).monitorRoom + (((Value.ref (nad a0 k1)) :: rest).map fun v => v.category).sum ≤ 8 := lv_room (by
      rw [List.map_cons, List.sum_cons]
      show 1 + _ ≤ 8
      omega)
    rcases hw4 with hw4 | hw4
    · exact va_runIN (b := nad a0 k1) (As := []) (rest := .ref (nad a0 k1) :: rest) (n := 0) hCF child ⟨⟨⟨rfl, rfl, hR1, hR2, pay_in hts (gTB_ws hw6), List.mem_cons_self⟩, hts _ hw6, by rw [hy]; exact hts _ hw3, hyc, hlen, va_Nw.use rfl (hKK.2 _ hw4)⟩, by rw [hy], hts _ hw5⟩ ⟨nPc_blind, hpre⟩ rfl rfl hlsz rfl hsum d4 ⟨by omega, by omega⟩
    · exact va_runI (b := nad a0 k1) (As := []) (rest := .ref (nad a0 k1) :: rest) (n := 0) hCF child ⟨⟨rfl, rfl, hR1, hR2, pay_in hts (gTB_ws hw6), List.mem_cons_self, hts _ hw6, by rw [hy]; exact hts _ hw3, hyc, hlen, hts _ hw4⟩, by rw [hy], hts _ hw5⟩ ⟨nPc_blind, hpre⟩ rfl rfl hlsz rfl hsum d4 ⟨by omega, by omega⟩
  refine nv_callv hrun hS1 (fun q _ h => hfr q h) hfr (fun H2 locs2 hB hz hk hS2 => ?_)
  have := kk H2 locs2 hB.1 hB.2 (fun q hq => (hk q (by omega) (by omega)).trans (o1 q hq)) hS2
  rw [show cells + 1 + (n - 1) = cells + n by omega]
  exact this
/-- the same, within a constructor -/
theorem n_obj {i1 i2 n ms L' rf rl NF cj : Nat} {y : MethodName} {b' : ByteArray} {μc μ' : gM} (C0 : nCx p s m args meth c A D a0 cI cJ k ci bytes maxL) (hlen : ls.length = maxL) (hci : cj < 11) (hN : 1 ≤ N) (hNF : (gcl cj).2.2 = NF)
    (hw1 : Cond.classLink (gown ci) i1 (gown cj) ∈ gTB) (hw2 : Cond.instantiable (gown cj) (gcl cj).2.2 ∈ gTB) (hw3 : Cond.initialized (gown cj) ∈ gTB) (hy : y = ⟨gown cj, "<init>", "()V"⟩) (hyc : y.cls ≠ "java/lang/invoke/MethodHandle" ∧ y.cls ≠ "java/lang/invoke/VarHandle") (hw4 : Cond.methodLinkNest (gown ci) i2 y "GatedDevices" ∈ gNest ∨ Cond.methodLink (gown ci) i2 y ∈ gTB) (hw5 : Cond.instanceMethod y ∈ gTB) (hw6 : Cond.code y b' L' none ∈ gTB)
    (child : nMet l D a0 cI cJ y b' L' rf rl (k + N) cj n ms μc) (hn : 1 ≤ n) (hold : ∀ q, q < k + N → μ' q = μ q) (hnew : ∀ q, k + N ≤ q → q < k + N + n → μ' q = μc q) (hR1 : rf + 1 ≤ R.frames) (hR2 : 8 + (L' + 11) + rl ≤ R.locals) (hc1 : cells + n ≤ R.cells) (hs1 : slots + NF + ms ≤ R.slots) (hrest : (st.map g_cat).sum ≤ 7) (d0 : decode bytes pc = .ok (.new i1, 3)) (d3 : decode bytes (pc + 3) = .ok (.dup, 1)) (d4 : decode bytes (pc + 4) = .ok (.invokespecial i2, 3))
    (kk : nW p l e R s m args below meth c Q A D a0 cI cJ k ci cc (N + n) (pc + 7) ls (gO cj (k + N) :: st) μ' (cells + n) (slots + NF + ms)) : nW p l e R s m args below meth c Q A D a0 cI cJ k ci cc N pc ls st μ cells slots := by
  obtain ⟨hx, hb, hr, hml, hown, hts, hlk, hin, hKK, hA, hci', hsz⟩ := C0
  intro H locs lsv hz hP hS hl
  refine nv_obj (L := maxL) (k1 := k + N) hx hb hml hown hts hKK hci (by rw [hz, Nat.add_assoc]) (fun q hq => hA q (by omega)) hS (by rw [hl.1, hlen]) hNF hw1 hw2 hw3 hy hyc hw4 hw5 hw6 child hn hR1 hR2 hc1 hs1 (by rw [g_cat_sum]; exact hrest) d0 d3 d4 fun H1 locs1 z1 f1 o1 hS1 => ?_
  refine kk H1 locs1 lsv (by omega) (fun j hj => ?_) hS1 hl
  by_cases hjN : j < N
  · have e : nent (nad a0) cI cJ cc μ' k ci j = nent (nad a0) cI cJ cc μ k ci j := by
      unfold nent
      by_cases h0 : j = 0
      · rw [if_pos h0, if_pos h0]
        have e2 : nfv (nad a0) cc μ' k = nfv (nad a0) cc μ k := by
          funext j' dd
          unfold nfv gfval
          rw [hold k (by omega)]
        rw [e2]
      · rw [if_neg h0, if_neg h0, gent_congr (fun b => by rw [hold (k + j) (by omega)])]
    rw [e]
    exact (hP j hjN).kept (o1 _ (by show nad a0 (k + j) < _; unfold nad; omega))
  · have h1 := f1 (j - N) (by omega)
    rw [show k + N + (j - N) = k + j by omega] at h1
    unfold nent
    rw [if_neg (by omega), gent_congr (fun b => by rw [hnew (k + j) (by omega) (by omega)])]
    exact h1
/-- all fields told -/
def nfull (ci N : Nat) : Bool := (gFD.getD ci []).all fun d => match d with
  | (t, o, _) => decide (t < 3) || decide (o ≤ N)
theorem nfv_full {ad : Nat → Nat} {N : Nat} (h : nfull ci N = true) : (gFD.getD ci []).mapIdx (nfv ad N μ k) = (gFD.getD ci []).mapIdx (gfval ad μ k) := by
  apply List.ext_getElem?
  intro i
  rw [List.getElem?_mapIdx, List.getElem?_mapIdx]
  cases hg : (gFD.getD ci [])[i]? with
  | none => rfl
  | some dd =>
    obtain ⟨t, o, x⟩ := dd
    have h1 := List.all_eq_true.mp h _ (List.mem_of_getElem? hg)
    simp only [Bool.or_eq_true, decide_eq_true_eq] at h1
    show some (nfv ad N μ k i (t, o, x)) = some (gfval ad μ k i (t, o, x))
    unfold nfv
    rw [if_neg (show ¬ (3 ≤ t ∧ N < o) by omega)]
/-- its end -/
theorem n_ret {μ' : gM} (C0 : nCx p s m args meth c A D a0 cI cJ k ci bytes maxL) (hly : gLY[k]? = some (0, ci)) (hN : 1 ≤ N) (hfull : nfull ci (N - 1) = true) (hμ : ∀ q, k ≤ q → q < k + N → μ' q = μ q) (hA2 : ∀ q, A q → a0 + k ≤ q) (d : decode bytes pc = .ok (.return_, 1)) :
    nW p l e R s m args below meth c (MQ below (nQ (nB D a0 cI cJ k N μ') (fun q => a0 + k ≤ q)) args s cells slots (fun q => a0 + k ≤ q)) A D a0 cI cJ k ci (N - 1) N pc ls [] μ cells slots := by
  obtain ⟨hx, hb, hr, hml, hown, hts, hlk, hin, hKK, hA, hci, hsz⟩ := C0
  intro H locs lsv hz hP hS hl
  refine W.vret hx hb hr (fun t ht hW => ⟨⟨rfl, by rw [ht]; exact hz, fun j hj => ?_⟩, ?_⟩) (fun q hq => hA2 _ (hS.2.2 q hq)) d hlk
  · rw [ht]
    have h1 := hP j hj
    unfold nent at h1
    by_cases h0 : j = 0
    · subst h0
      rw [if_pos rfl, nfv_full hfull] at h1
      rw [gent_congr (μ := μ) (μ' := μ') (fun b => by rw [hμ (k + 0) (by omega) (by omega)])]
      rw [show k + 0 = k from rfl, gent_obj hly]
      exact h1
    · rw [if_neg h0] at h1
      rw [gent_congr (μ := μ) (μ' := μ') (fun b => by rw [hμ (k + j) (by omega) (by omega)])]
      exact h1
  · exact ⟨by rw [ht]; exact hS.1, fun q h1 h2 => by rw [ht]; exact hS.2.1 q h1 (fun z => h2 (hA2 q z))⟩
/-- its start -/
theorem n_met {y : MethodName} {rf rl n ms : Nat} {ls0 : List gv} (h0 : gO ci k :: List.replicate (maxL - 1) gX = ls0) (hpl : plainName y.cls = true) (hyn : y.name = "<init>") (hyc : y.cls = gown ci) (hci : ci < 11) (hm : 1 ≤ maxL)
    (body : ∀ {p : Program} {e : Env} {s : State} {m : MethodId} {args : Array Value} {below : List Frame} {meth : Method} {c : Code}, nCx p s m args meth c (fun q => a0 + k ≤ q) D a0 cI cJ k ci bytes maxL → nW p l e { frames := rf, cells := n - 1, slots := ms, locals := rl } s m args below meth c (MQ below (nQ (nB D a0 cI cJ k n μ) (fun q => a0 + k ≤ q)) args s (n - 1) ms (fun q => a0 + k ≤ q)) (fun q => a0 + k ≤ q) D a0 cI cJ k ci 0 1 0 ls0 [] (fun _ _ => 0) 0 0) : nMet l D a0 cI cJ y bytes maxL rf rl k ci n ms μ := by
  subst h0
  refine Met.ofW (cc := bytes) (maxL := maxL) (ret := none) hpl rfl ?_
  intro p e s m args below meth c s₁ B hml hv
  obtain ⟨rfl, hsz, hP, hK⟩ := hv
  have hcx : nCx p s m ([Value.ref (nad a0 k)] : List Value).toArray meth c (fun q => a0 + k ≤ q) D a0 cI cJ k ci bytes maxL := ⟨B.exec, B.bytes, B.returns, hml, by rw [← hyc]; exact findClass_of_methodNamed B.named, fun w hw => atoms_spec (ws := .code y bytes maxL none :: gTB) B.pre w (List.mem_cons_of_mem _ hw), B.notSynchronized, by rw [← hyn]; exact (name_of_methodNamed B.named B.method).1, hK, fun _ h => h, hci, hsz⟩
  rw [lg_entry_eq]
  have he := lv_entry [Value.ref (nad a0 k)] (n := maxL) (by show 1 ≤ _; exact hm)
  refine body hcx s.heap [] _ hsz (fun j hj => ?_) va_S.rf ⟨?_, he.2.1, fun q hq => he.2.2 q ?_⟩
  · have : j = 0 := by omega
    subst this
    exact hP
  · rw [List.length_cons, List.length_replicate]
    have := he.1
    omega
  · obtain ⟨k0, u⟩ := q
    have h1 := g_cl_mem.mp hq
    have := g_args (nad a0) (maxL - 1) [gO ci k] 0 k0 u h1
    rw [Nat.zero_add] at this
    exact this
def nfillM (μ : gM) (q : Nat) (L : Nat) (v : Int) : gM := fun a b => if a = q ∧ 0 ≤ b ∧ b < L then v else μ a b
/-- 'for (i = 0; i < row.length; i++) row[i] = -1' -/
theorem n_fill {j o L i1 : Nat} {l0 : gv} (C0 : nCx p s m args meth c A D a0 cI cJ k ci bytes 2) (hl0 : l0 = gO ci k) (hd : gfd ci j = some (4, o, L)) (hly : gLY[k + o]? = some (1, L)) (ho : 1 ≤ o) (hoN : o < N) (hcc : o ≤ cc) (hL : L < 1000) (hw : Cond.fieldLink (gown ci) i1 (gcl ci).1 ((gcl ci).2.1 j).2.1 ((gcl ci).2.1 j).2.2.1 ∈ gTB) (hdecl : ((gcl ci).2.1 j).1 = gown ci)
    (d0 : decode bytes pc = .ok (.iconst 0, 1)) (d1 : decode bytes (pc + 1) = .ok (.istore_n 1, 1)) (d2 : decode bytes (pc + 2) = .ok (.iload_n 1, 1)) (d3 : decode bytes (pc + 3) = .ok (.aload_n 0, 1)) (d4 : decode bytes (pc + 4) = .ok (.getfield i1, 3)) (d7 : decode bytes (pc + 7) = .ok (.arraylength, 1)) (d8 : decode bytes (pc + 8) = .ok (.if_icmp .ge 16, 3))
    (d11 : decode bytes (pc + 11) = .ok (.aload_n 0, 1)) (d12 : decode bytes (pc + 12) = .ok (.getfield i1, 3)) (d15 : decode bytes (pc + 15) = .ok (.iload_n 1, 1)) (d16 : decode bytes (pc + 16) = .ok (.iconst (-1), 1)) (d17 : decode bytes (pc + 17) = .ok (.iastore, 1)) (d18 : decode bytes (pc + 18) = .ok (.iinc 1 1, 3)) (d21 : decode bytes (pc + 21) = .ok (.goto (-19), 3))
    (kk : ∀ z, nW p l e R s m args below meth c Q A D a0 cI cJ k ci cc N (pc + 24) [l0, z] [] (nfillM μ (k + o) L (-1)) cells slots) : nW p l e R s m args below meth c Q A D a0 cI cJ k ci cc N pc [l0, gX] [] μ cells slots := by
  have C1 := C0
  obtain ⟨hx, hb, hr, hml, hown, hts, hlk, hin, hKK, hA, hci, hsz⟩ := C0
  subst hl0
  have hjl : j < (gFD.getD ci []).length := (List.getElem?_eq_some_iff.mp hd).1
  have hj : j < (gcl ci).2.2 := by rw [← nfd_len hci]; exact hjl
  have hws := (gi_all ci _ (ncl hci)).1
  -- reading the row out of the object
  have get : ∀ {μ : gM} {pc1 : Nat} {H : Heap} {locs : List Loc} {lsv : Array Slot} {rest : List Value}, (∀ j, j < N → va_at D gCL (nent (nad a0) cI cJ cc μ k ci j) H) → decode bytes pc1 = .ok (.getfield i1, 3) → W p l e R s m args below meth c H locs cells slots Q (F0 m (pc1 + 3) lsv (.ref (nad a0 (k + o)) :: rest)) → W p l e R s m args below meth c H locs cells slots Q (F0 m pc1 lsv (.ref (nad a0 k) :: rest)) := by
    intro μ pc1 H locs lsv rest hP dg kk
    have hat := hP 0 (by omega)
    unfold nent at hat
    rw [if_pos rfl] at hat
    have hP1 : va_P D gCL [(nad a0 k, .inr (ci, (gFD.getD ci []).mapIdx (nfv (nad a0) cc μ k)))] H := by
      intro i q hq
      rcases i with _ | i
      · cases hq; exact hat
      · cases hq
    refine va_get (D := D) (ci := ci) (v := .ref (nad a0 (k + o))) (C := (gcl ci).1) (T := (gcl ci).2.1) (N := (gcl ci).2.2) hx hb hts hws hown hKK.1 hP1 0 rfl (ncl hci) j hj (hts _ hw) (fun _ h9 => by rw [gcl_own hci, ← hdecl]; exact h9) ?_ dg kk
    rw [List.getElem?_mapIdx, show (gFD.getD ci [])[j]? = some (4, o, L) from hd]
    show some (nfv (nad a0) cc μ k j (4, o, L)) = _
    unfold nfv
    rw [if_neg (show ¬ (3 ≤ 4 ∧ cc < o) by omega)]
    rfl
  have loop : ∀ (n : Nat) (i : Nat), i + n = L → ∀ (H : Heap) (locs : List Loc) (lsv : Array Slot), H.size = a0 + k + N → (∀ j, j < N → va_at D gCL (nent (nad a0) cI cJ cc (nfillM μ (k + o) i (-1)) k ci j) H) → va_S A s.heap H locs → lv_has lsv 2 [(1, .int (Int32.ofInt i)), (0, .ref (nad a0 k))] → W p l e R s m args below meth c H locs cells slots Q (F0 m (pc + 2) lsv []) := by
    intro n
    induction n with
    | zero =>
      intro i hi H locs lsv hz hP hS hl
      have e : i = L := by omega
      subst e
      refine lv_iload_n hx hb d2 rfl (lv_at hl 0 rfl) ?_
      refine lv_aload_n hx hb d3 rfl (lv_at hl 1 rfl) ?_
      refine get hP d4 ?_
      have hat := hP o hoN
      unfold nent at hat
      rw [if_neg (by omega), gent_arr hly] at hat
      have hP1 : va_P D gCL [(nad a0 (k + o), .inl (cI, i, .inl (fun j => Int32.ofInt (nfillM μ (k + o) i (-1) (k + o) j))))] H := by
        intro i q hq
        rcases i with _ | i
        · cases hq; exact hat
        · cases hq
      refine va_alen hx hb hKK.1 hP1 0 0 rfl rfl (v := Int32.ofInt i) rfl d7 ?_
      refine lv_icmp_ge (tgt := pc + 24) hx hb d8 (by omega) (fun _ => ?_) (fun q => absurd (Int32.le_refl _) q)
      refine kk (gI i) H locs lsv hz hP hS ⟨hl.1, hl.2.1, fun q hq => hl.2.2 q ?_⟩
      obtain ⟨k0, u⟩ := q
      have h1 := g_cl_mem.mp hq
      unfold g_at at h1
      rcases k0 with _ | _ | k0
      · cases h1; exact List.mem_cons_of_mem _ List.mem_cons_self
      · cases h1; exact List.mem_cons_self
      · cases h1
    | succ n ih =>
      intro i hi H locs lsv hz hP hS hl
      have ei : (Int32.ofInt (i : Int)).toInt = i := ofInt_toInt (by omega) (by omega)
      have eL : (Int32.ofInt (L : Int)).toInt = L := ofInt_toInt (by omega) (by omega)
      refine lv_iload_n hx hb d2 rfl (lv_at hl 0 rfl) ?_
      refine lv_aload_n hx hb d3 rfl (lv_at hl 1 rfl) ?_
      refine get hP d4 ?_
      have hat := hP o hoN
      unfold nent at hat
      rw [if_neg (by omega), gent_arr hly] at hat
      have hP1 : va_P D gCL [(nad a0 (k + o), .inl (cI, L, .inl (fun j => Int32.ofInt (nfillM μ (k + o) i (-1) (k + o) j))))] H := by
        intro i q hq
        rcases i with _ | i
        · cases hq; exact hat
        · cases hq
      refine va_alen hx hb hKK.1 hP1 0 0 rfl rfl (v := Int32.ofInt L) rfl d7 ?_
      refine lv_icmp_ge (tgt := pc + 24) hx hb d8 (by omega) (fun q => ?_) (fun _ => ?_)
      · exfalso
        have := Int32.le_iff_toInt_le.mp q
        rw [ei, eL] at this
        omega
      · refine lv_aload_n hx hb d11 rfl (lv_at hl 1 rfl) ?_
        refine get hP d12 ?_
        refine lv_iload_n hx hb d15 rfl (lv_at hl 0 rfl) ?_
        refine lv_iconst (v := Int32.ofInt (-1)) hx hb d16 rfl ?_
        refine nv_iast hx hb hKK.1 hat hS (hA _ (by unfold nad; omega)) (i := Int32.ofInt i) (x := Int32.ofInt (-1)) (vp_in_iff.mpr ⟨by rw [ei]; omega, by rw [ei]; omega⟩) d17 fun H1 locs1 g1 g2 g3 g4 => ?_
        rw [g_upd ei (by omega)] at g1
        have eM : gS (nfillM μ (k + o) i (-1)) (k + o) i (-1) = nfillM μ (k + o) (i + 1) (-1) := by
          funext a b
          unfold gS nfillM
          by_cases h1 : a = k + o ∧ b = i
          · rw [if_pos h1, if_pos (by omega)]
          · rw [if_neg h1]
            by_cases h2 : a = k + o ∧ 0 ≤ b ∧ b < i
            · rw [if_pos h2, if_pos (by omega)]
            · rw [if_neg h2, if_neg (by omega)]
        obtain ⟨y, ey⟩ : ∃ y : Int32, y = Int32.ofInt i + Int32.ofInt 1 := ⟨_, rfl⟩
        have ey2 : y = Int32.ofInt ((i + 1 : Nat) : Int) := by
          rw [ey, ← Int32.ofInt_add]
          rfl
        refine lv_iinc (v := y) (lv' := [(1, .int y), (0, .ref (nad a0 k))]) hx hb d18 hl (k := 0) rfl ey.symm (by decide) rfl (fun ls1 hl1 => ?_)
        refine lv_goto (tgt := pc + 2) hx hb d21 (by omega) ?_
        refine ih (i + 1) (by omega) H1 locs1 ls1 (by omega) (n_others (q0 := o) hoN hP (fun q hq => g3 q hq) (fun j hj => ?_) ?_) g4 (by rw [← ey2]; exact hl1)
        · rw [← eM]
          unfold nent
          by_cases h0 : j = 0
          · rw [if_pos h0, if_pos h0]
            have e : nfv (nad a0) cc (gS (nfillM μ (k + o) i (-1)) (k + o) i (-1)) k = nfv (nad a0) cc (nfillM μ (k + o) i (-1)) k := by
              funext j' dd
              have e2 : gS (nfillM μ (k + o) i (-1)) (k + o) i (-1) k j' = nfillM μ (k + o) i (-1) k j' := gS_ne k (by omega) _
              unfold nfv gfval
              rw [e2]
            rw [e]
          · rw [if_neg h0, if_neg h0, gent_congr (gS_ne (k + j) (by omega))]
        · rw [← eM]
          unfold nent
          rw [if_neg (by omega), gent_arr hly]
          exact g1
  intro H locs lsv hz hP hS hl
  refine lv_iconst (v := 0) hx hb d0 (by decide) ?_
  have hl2 : lv_has lsv 2 [(0, .ref (nad a0 k))] := ⟨hl.1, hl.2.1, fun q hq => hl.2.2 q (by
    rw [List.mem_singleton.mp hq]
    exact g_cl_mem.mpr rfl)⟩
  refine lv_istore_n (lv' := [(1, .int 0), (0, .ref (nad a0 k))]) hx hb d1 rfl hl2 (by decide) rfl (fun ls1 hl1 => ?_)
  refine loop L 0 (by omega) H locs ls1 hz ?_ hS hl1
  have e2 : nfillM μ (k + o) 0 (-1) = μ := by
    funext a b
    unfold nfillM
    rw [if_neg (by omega)]
  rw [e2]
  exact hP
end NCALLS
