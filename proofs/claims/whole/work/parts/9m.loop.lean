/-! the law's case 18, its loop -/
section LAW3
variable {p : Program} {l : Launch} {e : Env} {s : State} {m : MethodId} {args : Array Value} {below : List Frame} {meth : Method} {c : Code} {Q : State → Prop} {cells slots o b L i : Nat} {xs : Nat → Int32} {H : Heap} {locs : List Loc} {lsv : Array Slot} {D : va_G} {cI cJ : ClassId} {μ : gM} {N : Int} {fo : Nat → Int64}
set_option maxRecDepth 100000 in
theorem lc_18 (C0 : lFr p s m args meth c D cI cJ b L xs) (hl0 : l.stackTraces = false) (hC : yC s.heap.size s s.heap) (hl : lLv s b o i lsv) (hs : lSt s D cI cJ o fo H locs μ) (hI : gInv N μ) (hi : i + 5 < L) (hcs : cells + 1 ≤ room_1.cells ∧ slots + 6 ≤ room_1.slots) (k : lK p l e s m args below meth c Q D cI cJ o b i N cells slots) : W p l e room_1 s m args below meth c H locs cells slots Q (F0 m 846 lsv []) := by
  have C1 := C0
  obtain ⟨hx, hb, hml, hown, hts, hKK, hX, hbl, hL⟩ := C0
  obtain ⟨hP, hO, ho, hS, hok⟩ := hs
  obtain ⟨bb, ν, hI1, hq, hmet, hk3⟩ := y_device (D := D) (a0 := s.heap.size) (cI := cI) (cJ := cJ) (x := xs (i + 1)) (w := xs (i + 2)) (o := o) (sz := H.size) l hl0 hI hok hS.1 ho
  refine lv_aload_n (k := 1) hx hb (by decide +kernel) rfl (lv_at hl 1 rfl) ?_
  refine l_args (ad := nad s.heap.size) hx hb hX hbl (Nat.not_le.mpr hbl) hS (lv_at hl 0 rfl) (lv_at hl 4 rfl) hi hL [(1, false), (2, false)] (846 + 1) _ (by decide +kernel) ?_
  have e0 : (([(1, false), (2, false)].map (lVal xs i)).map (gval (nad s.heap.size))).reverse ++ [Value.ref (nad s.heap.size 0)] = [.int (xs (i + 2)), .int (xs (i + 1)), .ref (nad s.heap.size 0)] := by
    show [gval (nad s.heap.size) (gI (xs (i + 2)).toInt), gval (nad s.heap.size) (gI (xs (i + 1)).toInt), Value.ref (nad s.heap.size 0)] = _
    rw [gval_I, gval_I]
  rw [e0]
  show W p l e room_1 s m args below meth c H locs cells slots Q (F0 m 859 lsv [.int (xs (i + 2)), .int (xs (i + 1)), .ref (nad s.heap.size 0)])
  refine lv_aload_n (k := 3) hx hb (by decide +kernel) rfl (lv_at hl 3 rfl) ?_
  have hCF : CallFix p m c code 7 s args gTB R_law := ⟨hx, hb, hml, hown, hts⟩
  have hcode : Cond.codeWith yD method_3_code 5 (some .int) yH ∈ gTB := gTB_at 1321 (by decide +kernel) rfl
  have hG : GoodIn gTB yWs := by
    intro v hv
    rcases List.mem_cons.mp hv with rfl | hv
    · exact ⟨hcode, good_of_word (gTB_good hcode)⟩
    · exact ⟨hv, good_of_word (gTB_good hv)⟩
  have hC1 : yC s.heap.size s H := hC.kept (fun q h1 h2 => hS.2.1 q h1 h2)
  have hpre : ∀ U : State, U.heap = H → s.WarmedH U.vm → dPc D s.heap.size cI cJ μ (xs (i + 1)) (xs (i + 2)) o H.size ([.ref (nad s.heap.size 0), .int (xs (i + 1)), .int (xs (i + 2)), .ref o] : List Value).toArray U := fun U hU hW => ⟨rfl, ⟨by rw [hU], by rw [hU]; exact hP, ⟨fo, by rw [hU]; exact hO⟩, yC.warm hW (by rw [hU]; exact hC1)⟩, gKK.warm hW hKK⟩
  have hB : ∀ sig, parseMethodDescriptor yD.desc = some sig → 4 = sig.parameters.length := by
    intro sig hsig
    have h2 : (parseMethodDescriptor yD.desc).map (fun q => q.parameters.length) = some 4 := by decide +kernel
    rw [hsig] at h2
    exact (Option.some.inj h2).symm
  have hrun : va_Run p l e room_1 s m args below meth c H locs cells slots 1 6 (F0 m 860 lsv [.ref o, .int (xs (i + 2)), .int (xs (i + 1)), .ref (nad s.heap.size 0)]) [] (va_Qi (fun (r : Int32) (_ : Unit) => r = Int32.ofInt (ν 167 2)) (dB D s.heap.size cI cJ μ o (ν 167 2) bb) (fun q => s.heap.size ≤ q) ([.ref (nad s.heap.size 0), .int (xs (i + 1)), .int (xs (i + 2)), .ref o] : List Value).toArray) (fun q => s.heap.size ≤ q) :=
    vx_runSW (index := 99) (hh := yH) (As := [.ref (nad s.heap.size 0), .int (xs (i + 1)), .int (xs (i + 2)), .ref o]) (rest := []) (n := 4) hCF hmet ⟨⟨rfl, rfl, by decide, by decide, pay_in hts hG, List.mem_cons_self⟩, hts _ hcode, hts _ (gTB_at 0 (by decide +kernel) rfl), ⟨by decide, by decide⟩, hB, hts _ (gTB_at 1319 (by decide +kernel) rfl), hts _ (gTB_at 1320 (by decide +kernel) rfl)⟩ ⟨dPc_blind, hpre⟩ rfl rfl hl.1 rfl (lv_room (Nat.zero_le _)) (show decode code 860 = .ok (.invokestatic 99, 3) by decide +kernel) hcs
  refine va_calli hrun hS (fun q _ h => h) (fun q h => h) (fun r u t H1 locs1 ht hvm hpost hB1 z1 k1 hS1 => ?_)
  obtain ⟨hP1, g, hO1, hg0⟩ := hB1
  rw [ht] at hP1 hO1
  rw [show r = Int32.ofInt (ν 167 2) from hpost]
  refine lv_istore (lv' := [(5, .int (Int32.ofInt (ν 167 2))), (0, .ref b), (1, .ref (nad s.heap.size 0)), (2, .ref (nad s.heap.size 167)), (3, .ref o), (4, .int (Int32.ofInt (i : Int)))]) hx hb (show decode code (860 + 3) = .ok (.istore 5, 2) by decide +kernel) hl (by decide) rfl (fun lsv1 hl1 => ?_)
  have hv1 : lLv s b o i lsv1 := lv_sub hl1 [1, 2, 3, 4, 5] rfl
  refine lv_aload_n (k := 2) hx hb (by decide +kernel) rfl (lv_at hl1 3 rfl) ?_
  refine l_call (ci := 10) (k0 := 167) (M := 314) (idx := 104) (w1 := 1938) (w2 := 1939) (w3 := 1940) (μ' := ν) (a := bb) (as := [(1, false), (2, false)]) C1 hv1 (show lSt s D cI cJ o g H1 locs1 μ from ⟨hP1, hO1, ho, hS1, hok⟩) hi rfl (by decide +kernel) (by decide +kernel) (by decide +kernel) (by decide +kernel) ?_ (Nat.zero_le _) hcs (by decide +kernel) (by decide +kernel) fun H2 locs2 hs2 okr2 => ?_
  · rw [l_ent (M := 314) (n := 3) (ls := [gO 10 167, gI (xs (i + 1)).toInt, gI (xs (i + 2)).toInt]) (by decide +kernel) rfl]
    exact hq
  have e1 : (gRV 314 bb).toList ++ [] = [.int (Int32.ofInt bb)] := by
    unfold gRV
    rw [show gret (mT 314) = 1 by decide +kernel]
    rfl
  rw [e1]
  show W p l e room_1 s m args below meth c H2 locs2 (cells + 1) (slots + 6) Q (F0 m 881 lsv1 [.int (Int32.ofInt bb)])
  refine lv_istore (lv' := [(6, .int (Int32.ofInt bb)), (5, .int (Int32.ofInt (ν 167 2))), (0, .ref b), (1, .ref (nad s.heap.size 0)), (2, .ref (nad s.heap.size 167)), (3, .ref o), (4, .int (Int32.ofInt (i : Int)))]) hx hb (by decide +kernel) hl1 (by decide) rfl (fun lsv2 hl2 => ?_)
  have hv2 : lLv s b o i lsv2 := lv_sub hl2 [2, 3, 4, 5, 6] rfl
  refine lv_aload_n (k := 2) hx hb (by decide +kernel) rfl (lv_at hl2 4 rfl) ?_
  refine l_call (ci := 10) (k0 := 167) (M := 208) (idx := 105) (w1 := 1565) (w2 := 1566) (w3 := 1567) (μ' := ν) (a := ν 167 2) (as := []) C1 hv2 hs2 hi rfl (by decide +kernel) (by decide +kernel) (by decide +kernel) (by decide +kernel) ?_ (Nat.zero_le _) hcs rfl (show decode code 884 = .ok (.invokevirtual 105, 3) by decide +kernel) fun H3 locs3 hs3 okr3 => ?_
  · rw [l_ent (M := 208) (n := 1) (ls := [gO 10 167]) (by decide +kernel) rfl]
    exact fun Q => c_thrown hI1
  have e2 : (gRV 208 (ν 167 2)).toList ++ [] = [.int (Int32.ofInt (ν 167 2))] := by
    unfold gRV
    rw [show gret (mT 208) = 1 by decide +kernel]
    rfl
  rw [e2]
  show W p l e room_1 s m args below meth c H3 locs3 (cells + 1) (slots + 6) Q (F0 m 887 lsv2 [.int (Int32.ofInt (ν 167 2))])
  refine lv_iload hx hb (by decide +kernel) (lv_at hl2 1 rfl) ?_
  refine lv_icmp_eq (tgt := 894) hx hb (show decode code (887 + 2) = .ok (.if_icmp .eq 5, 3) by decide +kernel) (by decide) (fun _ => ?_) (fun h => absurd rfl h)
  refine lv_iload hx hb (by decide +kernel) (lv_at hl2 1 rfl) ?_
  have fin : W p l e room_1 s m args below meth c H3 locs3 (cells + 1) (slots + 6) Q (F0 m 911 lsv2 []) := by
    refine lv_goto (tgt := 1510) hx hb (show decode code 911 = .ok (.goto 599, 3) by decide +kernel) (by decide) ?_
    exact k g H3 locs3 ν lsv2 hs3 hI1 hv2
  refine lv_if_ne (tgt := 911) hx hb (show decode code (894 + 2) = .ok (.ifCond .ne 15, 3) by decide +kernel) (by decide) (fun _ => fin) (fun hz => ?_)
  have hz0 : ν 167 2 = 0 := by
    rcases hk3 with q | q | q
    · exact q
    · rw [q] at hz; exact absurd hz (by decide)
    · rw [q] at hz; exact absurd hz (by decide)
  have hO3 : va_P D gCL [(o, .inl (cJ, 1, .inr (.inl g)))] H3 := by
    intro q z hq
    rcases q with _ | q
    · cases hq; exact hs3.2.1
    · cases hq
  refine lv_aload_n (k := 3) hx hb (by decide +kernel) rfl (lv_at hl2 5 rfl) ?_
  refine lv_iconst (n := 0) (v := 0) hx hb (by decide +kernel) (by decide) ?_
  refine va_lald hx hb hKK.1 hO3 0 1 rfl rfl (i := 0) (vp_in_iff.mpr ⟨by decide, by decide⟩) (by decide +kernel) ?_
  refine lv_iload hx hb (by decide +kernel) (lv_at hl2 0 rfl) ?_
  refine lv_i2l hx hb (by decide +kernel) rfl ?_
  refine W.lcmp hx hb (by decide +kernel) ?_
  have e5 : g (0 : Int32).toNatClampNeg = (Int32.ofInt bb).toInt64 := hg0 hz0
  rw [e5]
  have e6 : lg_cmp (Int32.ofInt bb).toInt64 (Int32.ofInt bb).toInt64 = 0 := by simp [lg_cmp]
  rw [e6]
  exact lv_if_eq (tgt := 911) hx hb (show decode code (894 + 2 + 3 + 1 + 1 + 1 + 2 + 1 + 1) = .ok (.ifCond .eq 5, 3) by decide +kernel) (by decide) (fun _ => fin) (fun h => absurd rfl h)
end LAW3
